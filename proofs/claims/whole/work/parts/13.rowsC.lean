theorem d_Law_type_0 : decode m_Law_type.2.1 0 = .ok (.aload_n 3, 1) := by decide +kernel
theorem d_Law_type_1 : decode m_Law_type.2.1 1 = .ok (.iconst 0, 1) := by decide +kernel
theorem d_Law_type_2 : decode m_Law_type.2.1 2 = .ok (.aload_n 0, 1) := by decide +kernel
theorem d_Law_type_3 : decode m_Law_type.2.1 3 = .ok (.lload_n 1, 1) := by decide +kernel
theorem d_Law_type_4 : decode m_Law_type.2.1 4 = .ok (.invokevirtual 7, 3) := by decide +kernel
theorem d_Law_type_7 : decode m_Law_type.2.1 7 = .ok (.i2l, 1) := by decide +kernel
theorem d_Law_type_8 : decode m_Law_type.2.1 8 = .ok (.lastore, 1) := by decide +kernel
theorem d_Law_type_9 : decode m_Law_type.2.1 9 = .ok (.goto 11, 3) := by decide +kernel
theorem d_Law_type_12 : decode m_Law_type.2.1 12 = .ok (.astore 4, 2) := by decide +kernel
theorem d_Law_type_14 : decode m_Law_type.2.1 14 = .ok (.iconst 1, 1) := by decide +kernel
theorem d_Law_type_15 : decode m_Law_type.2.1 15 = .ok (.ireturn, 1) := by decide +kernel
theorem d_Law_type_16 : decode m_Law_type.2.1 16 = .ok (.astore 4, 2) := by decide +kernel
theorem d_Law_type_18 : decode m_Law_type.2.1 18 = .ok (.iconst 2, 1) := by decide +kernel
theorem d_Law_type_19 : decode m_Law_type.2.1 19 = .ok (.ireturn, 1) := by decide +kernel
theorem d_Law_type_20 : decode m_Law_type.2.1 20 = .ok (.iconst 0, 1) := by decide +kernel
theorem d_Law_type_21 : decode m_Law_type.2.1 21 = .ok (.ireturn, 1) := by decide +kernel
theorem d_Law_keep_0 : decode m_Law_keep.2.1 0 = .ok (.aload_n 2, 1) := by decide +kernel
theorem d_Law_keep_1 : decode m_Law_keep.2.1 1 = .ok (.iconst 0, 1) := by decide +kernel
theorem d_Law_keep_2 : decode m_Law_keep.2.1 2 = .ok (.aload_n 0, 1) := by decide +kernel
theorem d_Law_keep_3 : decode m_Law_keep.2.1 3 = .ok (.iload_n 1, 1) := by decide +kernel
theorem d_Law_keep_4 : decode m_Law_keep.2.1 4 = .ok (.invokevirtual 17, 3) := by decide +kernel
theorem d_Law_keep_7 : decode m_Law_keep.2.1 7 = .ok (.i2l, 1) := by decide +kernel
theorem d_Law_keep_8 : decode m_Law_keep.2.1 8 = .ok (.lastore, 1) := by decide +kernel
theorem d_Law_keep_9 : decode m_Law_keep.2.1 9 = .ok (.goto 6, 3) := by decide +kernel
theorem d_Law_keep_12 : decode m_Law_keep.2.1 12 = .ok (.astore_n 3, 1) := by decide +kernel
theorem d_Law_keep_13 : decode m_Law_keep.2.1 13 = .ok (.iconst 1, 1) := by decide +kernel
theorem d_Law_keep_14 : decode m_Law_keep.2.1 14 = .ok (.ireturn, 1) := by decide +kernel
theorem d_Law_keep_15 : decode m_Law_keep.2.1 15 = .ok (.iconst 0, 1) := by decide +kernel
theorem d_Law_keep_16 : decode m_Law_keep.2.1 16 = .ok (.ireturn, 1) := by decide +kernel
theorem d_Str_indexOf1_0 : decode m_Str_indexOf1.2.1 0 = .ok (.aload_n 0, 1) := by decide +kernel
theorem d_Str_indexOf1_1 : decode m_Str_indexOf1.2.1 1 = .ok (.iload_n 1, 1) := by decide +kernel
theorem d_Str_indexOf1_2 : decode m_Str_indexOf1.2.1 2 = .ok (.iconst 0, 1) := by decide +kernel
theorem d_Str_indexOf1_3 : decode m_Str_indexOf1.2.1 3 = .ok (.invokevirtual 633, 3) := by decide +kernel
theorem d_Str_indexOf1_6 : decode m_Str_indexOf1.2.1 6 = .ok (.ireturn, 1) := by decide +kernel
theorem d_Str_indexOf2_0 : decode m_Str_indexOf2.2.1 0 = .ok (.aload_n 0, 1) := by decide +kernel
theorem d_Str_indexOf2_1 : decode m_Str_indexOf2.2.1 1 = .ok (.invokevirtual 492, 3) := by decide +kernel
theorem d_Str_indexOf2_4 : decode m_Str_indexOf2.2.1 4 = .ok (.ifCond .eq 19, 3) := by decide +kernel
theorem d_Str_indexOf2_7 : decode m_Str_indexOf2.2.1 7 = .ok (.aload_n 0, 1) := by decide +kernel
theorem d_Str_indexOf2_8 : decode m_Str_indexOf2.2.1 8 = .ok (.getfield 9, 3) := by decide +kernel
theorem d_Str_indexOf2_11 : decode m_Str_indexOf2.2.1 11 = .ok (.iload_n 1, 1) := by decide +kernel
theorem d_Str_indexOf2_12 : decode m_Str_indexOf2.2.1 12 = .ok (.iload_n 2, 1) := by decide +kernel
theorem d_Str_indexOf2_13 : decode m_Str_indexOf2.2.1 13 = .ok (.aload_n 0, 1) := by decide +kernel
theorem d_Str_indexOf2_14 : decode m_Str_indexOf2.2.1 14 = .ok (.invokevirtual 505, 3) := by decide +kernel
theorem d_Str_indexOf2_17 : decode m_Str_indexOf2.2.1 17 = .ok (.invokestatic 637, 3) := by decide +kernel
theorem d_Str_indexOf2_20 : decode m_Str_indexOf2.2.1 20 = .ok (.goto 16, 3) := by decide +kernel
theorem d_Str_indexOf2_23 : decode m_Str_indexOf2.2.1 23 = .ok (.aload_n 0, 1) := by decide +kernel
theorem d_Str_indexOf2_24 : decode m_Str_indexOf2.2.1 24 = .ok (.getfield 9, 3) := by decide +kernel
theorem d_Str_indexOf2_27 : decode m_Str_indexOf2.2.1 27 = .ok (.iload_n 1, 1) := by decide +kernel
theorem d_Str_indexOf2_28 : decode m_Str_indexOf2.2.1 28 = .ok (.iload_n 2, 1) := by decide +kernel
theorem d_Str_indexOf2_29 : decode m_Str_indexOf2.2.1 29 = .ok (.aload_n 0, 1) := by decide +kernel
theorem d_Str_indexOf2_30 : decode m_Str_indexOf2.2.1 30 = .ok (.invokevirtual 505, 3) := by decide +kernel
theorem d_Str_indexOf2_33 : decode m_Str_indexOf2.2.1 33 = .ok (.invokestatic 640, 3) := by decide +kernel
theorem d_Str_indexOf2_36 : decode m_Str_indexOf2.2.1 36 = .ok (.ireturn, 1) := by decide +kernel
theorem d_Str_isLatin1_0 : decode m_Str_isLatin1.2.1 0 = .ok (.getstatic 38, 3) := by decide +kernel
theorem d_Str_isLatin1_3 : decode m_Str_isLatin1.2.1 3 = .ok (.ifCond .eq 14, 3) := by decide +kernel
theorem d_Str_isLatin1_6 : decode m_Str_isLatin1.2.1 6 = .ok (.aload_n 0, 1) := by decide +kernel
theorem d_Str_isLatin1_7 : decode m_Str_isLatin1.2.1 7 = .ok (.getfield 15, 3) := by decide +kernel
theorem d_Str_isLatin1_10 : decode m_Str_isLatin1.2.1 10 = .ok (.ifCond .ne 7, 3) := by decide +kernel
theorem d_Str_isLatin1_13 : decode m_Str_isLatin1.2.1 13 = .ok (.iconst 1, 1) := by decide +kernel
theorem d_Str_isLatin1_14 : decode m_Str_isLatin1.2.1 14 = .ok (.goto 4, 3) := by decide +kernel
theorem d_Str_isLatin1_17 : decode m_Str_isLatin1.2.1 17 = .ok (.iconst 0, 1) := by decide +kernel
theorem d_Str_isLatin1_18 : decode m_Str_isLatin1.2.1 18 = .ok (.ireturn, 1) := by decide +kernel
theorem d_Str_length_0 : decode m_Str_length.2.1 0 = .ok (.aload_n 0, 1) := by decide +kernel
theorem d_Str_length_1 : decode m_Str_length.2.1 1 = .ok (.getfield 9, 3) := by decide +kernel
theorem d_Str_length_4 : decode m_Str_length.2.1 4 = .ok (.arraylength, 1) := by decide +kernel
theorem d_Str_length_5 : decode m_Str_length.2.1 5 = .ok (.aload_n 0, 1) := by decide +kernel
theorem d_Str_length_6 : decode m_Str_length.2.1 6 = .ok (.invokevirtual 335, 3) := by decide +kernel
theorem d_Str_length_9 : decode m_Str_length.2.1 9 = .ok (.ishr, 1) := by decide +kernel
theorem d_Str_length_10 : decode m_Str_length.2.1 10 = .ok (.ireturn, 1) := by decide +kernel
theorem d_Str_coder_0 : decode m_Str_coder.2.1 0 = .ok (.getstatic 38, 3) := by decide +kernel
theorem d_Str_coder_3 : decode m_Str_coder.2.1 3 = .ok (.ifCond .eq 10, 3) := by decide +kernel
theorem d_Str_coder_6 : decode m_Str_coder.2.1 6 = .ok (.aload_n 0, 1) := by decide +kernel
theorem d_Str_coder_7 : decode m_Str_coder.2.1 7 = .ok (.getfield 15, 3) := by decide +kernel
theorem d_Str_coder_10 : decode m_Str_coder.2.1 10 = .ok (.goto 4, 3) := by decide +kernel
theorem d_Str_coder_13 : decode m_Str_coder.2.1 13 = .ok (.iconst 1, 1) := by decide +kernel
theorem d_Str_coder_14 : decode m_Str_coder.2.1 14 = .ok (.ireturn, 1) := by decide +kernel
theorem d_Lat_indexOf_0 : decode m_Lat_indexOf.2.1 0 = .ok (.iload_n 1, 1) := by decide +kernel
theorem d_Lat_indexOf_1 : decode m_Lat_indexOf.2.1 1 = .ok (.invokestatic 88, 3) := by decide +kernel
theorem d_Lat_indexOf_4 : decode m_Lat_indexOf.2.1 4 = .ok (.ifCond .ne 5, 3) := by decide +kernel
theorem d_Lat_indexOf_7 : decode m_Lat_indexOf.2.1 7 = .ok (.iconst (-1), 1) := by decide +kernel
theorem d_Lat_indexOf_8 : decode m_Lat_indexOf.2.1 8 = .ok (.ireturn, 1) := by decide +kernel
theorem d_Lat_indexOf_9 : decode m_Lat_indexOf.2.1 9 = .ok (.iload_n 2, 1) := by decide +kernel
theorem d_Lat_indexOf_10 : decode m_Lat_indexOf.2.1 10 = .ok (.iconst 0, 1) := by decide +kernel
theorem d_Lat_indexOf_11 : decode m_Lat_indexOf.2.1 11 = .ok (.invokestatic 92, 3) := by decide +kernel
theorem d_Lat_indexOf_14 : decode m_Lat_indexOf.2.1 14 = .ok (.istore_n 2, 1) := by decide +kernel
theorem d_Lat_indexOf_15 : decode m_Lat_indexOf.2.1 15 = .ok (.iload_n 3, 1) := by decide +kernel
theorem d_Lat_indexOf_16 : decode m_Lat_indexOf.2.1 16 = .ok (.aload_n 0, 1) := by decide +kernel
theorem d_Lat_indexOf_17 : decode m_Lat_indexOf.2.1 17 = .ok (.arraylength, 1) := by decide +kernel
theorem d_Lat_indexOf_18 : decode m_Lat_indexOf.2.1 18 = .ok (.invokestatic 38, 3) := by decide +kernel
theorem d_Lat_indexOf_21 : decode m_Lat_indexOf.2.1 21 = .ok (.istore_n 3, 1) := by decide +kernel
theorem d_Lat_indexOf_22 : decode m_Lat_indexOf.2.1 22 = .ok (.iload_n 2, 1) := by decide +kernel
theorem d_Lat_indexOf_23 : decode m_Lat_indexOf.2.1 23 = .ok (.iload_n 3, 1) := by decide +kernel
theorem d_Lat_indexOf_24 : decode m_Lat_indexOf.2.1 24 = .ok (.if_icmp .lt 5, 3) := by decide +kernel
theorem d_Lat_indexOf_27 : decode m_Lat_indexOf.2.1 27 = .ok (.iconst (-1), 1) := by decide +kernel
theorem d_Lat_indexOf_28 : decode m_Lat_indexOf.2.1 28 = .ok (.ireturn, 1) := by decide +kernel
theorem d_Lat_indexOf_29 : decode m_Lat_indexOf.2.1 29 = .ok (.aload_n 0, 1) := by decide +kernel
theorem d_Lat_indexOf_30 : decode m_Lat_indexOf.2.1 30 = .ok (.iload_n 1, 1) := by decide +kernel
theorem d_Lat_indexOf_31 : decode m_Lat_indexOf.2.1 31 = .ok (.iload_n 2, 1) := by decide +kernel
theorem d_Lat_indexOf_32 : decode m_Lat_indexOf.2.1 32 = .ok (.iload_n 3, 1) := by decide +kernel
theorem d_Lat_indexOf_33 : decode m_Lat_indexOf.2.1 33 = .ok (.invokestatic 95, 3) := by decide +kernel
theorem d_Lat_indexOf_36 : decode m_Lat_indexOf.2.1 36 = .ok (.ireturn, 1) := by decide +kernel
theorem d_Lat_canEncode_0 : decode m_Lat_canEncode.2.1 0 = .ok (.iload_n 0, 1) := by decide +kernel
theorem d_Lat_canEncode_1 : decode m_Lat_canEncode.2.1 1 = .ok (.ifCond .lt 14, 3) := by decide +kernel
theorem d_Lat_canEncode_4 : decode m_Lat_canEncode.2.1 4 = .ok (.iload_n 0, 1) := by decide +kernel
theorem d_Lat_canEncode_5 : decode m_Lat_canEncode.2.1 5 = .ok (.sipush 255, 3) := by decide +kernel
theorem d_Lat_canEncode_8 : decode m_Lat_canEncode.2.1 8 = .ok (.if_icmp .gt 7, 3) := by decide +kernel
theorem d_Lat_canEncode_11 : decode m_Lat_canEncode.2.1 11 = .ok (.iconst 1, 1) := by decide +kernel
theorem d_Lat_canEncode_12 : decode m_Lat_canEncode.2.1 12 = .ok (.goto 4, 3) := by decide +kernel
theorem d_Lat_canEncode_15 : decode m_Lat_canEncode.2.1 15 = .ok (.iconst 0, 1) := by decide +kernel
theorem d_Lat_canEncode_16 : decode m_Lat_canEncode.2.1 16 = .ok (.ireturn, 1) := by decide +kernel
theorem d_Lat_indexOfChar_0 : decode m_Lat_indexOfChar.2.1 0 = .ok (.iload_n 1, 1) := by decide +kernel
theorem d_Lat_indexOfChar_1 : decode m_Lat_indexOfChar.2.1 1 = .ok (.i2b, 1) := by decide +kernel
theorem d_Lat_indexOfChar_2 : decode m_Lat_indexOfChar.2.1 2 = .ok (.istore 4, 2) := by decide +kernel
theorem d_Lat_indexOfChar_4 : decode m_Lat_indexOfChar.2.1 4 = .ok (.iload_n 2, 1) := by decide +kernel
theorem d_Lat_indexOfChar_5 : decode m_Lat_indexOfChar.2.1 5 = .ok (.istore 5, 2) := by decide +kernel
theorem d_Lat_indexOfChar_7 : decode m_Lat_indexOfChar.2.1 7 = .ok (.iload 5, 2) := by decide +kernel
theorem d_Lat_indexOfChar_9 : decode m_Lat_indexOfChar.2.1 9 = .ok (.iload_n 3, 1) := by decide +kernel
theorem d_Lat_indexOfChar_10 : decode m_Lat_indexOfChar.2.1 10 = .ok (.if_icmp .ge 21, 3) := by decide +kernel
theorem d_Lat_indexOfChar_13 : decode m_Lat_indexOfChar.2.1 13 = .ok (.aload_n 0, 1) := by decide +kernel
theorem d_Lat_indexOfChar_14 : decode m_Lat_indexOfChar.2.1 14 = .ok (.iload 5, 2) := by decide +kernel
theorem d_Lat_indexOfChar_16 : decode m_Lat_indexOfChar.2.1 16 = .ok (.baload, 1) := by decide +kernel
theorem d_Lat_indexOfChar_17 : decode m_Lat_indexOfChar.2.1 17 = .ok (.iload 4, 2) := by decide +kernel
theorem d_Lat_indexOfChar_19 : decode m_Lat_indexOfChar.2.1 19 = .ok (.if_icmp .ne 6, 3) := by decide +kernel
theorem d_Lat_indexOfChar_22 : decode m_Lat_indexOfChar.2.1 22 = .ok (.iload 5, 2) := by decide +kernel
theorem d_Lat_indexOfChar_24 : decode m_Lat_indexOfChar.2.1 24 = .ok (.ireturn, 1) := by decide +kernel
theorem d_Lat_indexOfChar_25 : decode m_Lat_indexOfChar.2.1 25 = .ok (.iinc 5 1, 3) := by decide +kernel
theorem d_Lat_indexOfChar_28 : decode m_Lat_indexOfChar.2.1 28 = .ok (.goto (-21), 3) := by decide +kernel
theorem d_Lat_indexOfChar_31 : decode m_Lat_indexOfChar.2.1 31 = .ok (.iconst (-1), 1) := by decide +kernel
theorem d_Lat_indexOfChar_32 : decode m_Lat_indexOfChar.2.1 32 = .ok (.ireturn, 1) := by decide +kernel
theorem d_Str_checkBoundsBeginEnd_0 : decode m_Str_checkBoundsBeginEnd.2.1 0 = .ok (.iload_n 0, 1) := by decide +kernel
theorem d_Str_checkBoundsBeginEnd_1 : decode m_Str_checkBoundsBeginEnd.2.1 1 = .ok (.iload_n 1, 1) := by decide +kernel
theorem d_Str_checkBoundsBeginEnd_2 : decode m_Str_checkBoundsBeginEnd.2.1 2 = .ok (.iload_n 2, 1) := by decide +kernel
theorem d_Str_checkBoundsBeginEnd_3 : decode m_Str_checkBoundsBeginEnd.2.1 3 = .ok (.getstatic 1053, 3) := by decide +kernel
theorem d_Str_checkBoundsBeginEnd_6 : decode m_Str_checkBoundsBeginEnd.2.1 6 = .ok (.invokestatic 1062, 3) := by decide +kernel
theorem d_Str_checkBoundsBeginEnd_9 : decode m_Str_checkBoundsBeginEnd.2.1 9 = .ok (.pop, 1) := by decide +kernel
theorem d_Str_checkBoundsBeginEnd_10 : decode m_Str_checkBoundsBeginEnd.2.1 10 = .ok (.return_, 1) := by decide +kernel
theorem d_Law_run_0 : decode m_Law_run.2.1 0 = .ok (.aload_n 3, 1) := by decide +kernel
theorem d_Law_run_1 : decode m_Law_run.2.1 1 = .ok (.iconst 0, 1) := by decide +kernel
theorem d_Law_run_2 : decode m_Law_run.2.1 2 = .ok (.aload_n 0, 1) := by decide +kernel
theorem d_Law_run_3 : decode m_Law_run.2.1 3 = .ok (.iload_n 1, 1) := by decide +kernel
theorem d_Law_run_4 : decode m_Law_run.2.1 4 = .ok (.iload_n 2, 1) := by decide +kernel
theorem d_Law_run_5 : decode m_Law_run.2.1 5 = .ok (.invokevirtual 21, 3) := by decide +kernel
theorem d_Law_run_8 : decode m_Law_run.2.1 8 = .ok (.i2l, 1) := by decide +kernel
theorem d_Law_run_9 : decode m_Law_run.2.1 9 = .ok (.lastore, 1) := by decide +kernel
theorem d_Law_run_10 : decode m_Law_run.2.1 10 = .ok (.goto 23, 3) := by decide +kernel
theorem d_Law_run_13 : decode m_Law_run.2.1 13 = .ok (.astore 4, 2) := by decide +kernel
theorem d_Law_run_15 : decode m_Law_run.2.1 15 = .ok (.iconst 1, 1) := by decide +kernel
theorem d_Law_run_16 : decode m_Law_run.2.1 16 = .ok (.ireturn, 1) := by decide +kernel
theorem d_Law_run_17 : decode m_Law_run.2.1 17 = .ok (.astore 4, 2) := by decide +kernel
theorem d_Law_run_19 : decode m_Law_run.2.1 19 = .ok (.iconst 2, 1) := by decide +kernel
theorem d_Law_run_20 : decode m_Law_run.2.1 20 = .ok (.ireturn, 1) := by decide +kernel
theorem d_Law_run_21 : decode m_Law_run.2.1 21 = .ok (.astore 4, 2) := by decide +kernel
theorem d_Law_run_23 : decode m_Law_run.2.1 23 = .ok (.iconst 3, 1) := by decide +kernel
theorem d_Law_run_24 : decode m_Law_run.2.1 24 = .ok (.ireturn, 1) := by decide +kernel
theorem d_Law_run_25 : decode m_Law_run.2.1 25 = .ok (.astore 4, 2) := by decide +kernel
theorem d_Law_run_27 : decode m_Law_run.2.1 27 = .ok (.iconst 4, 1) := by decide +kernel
theorem d_Law_run_28 : decode m_Law_run.2.1 28 = .ok (.ireturn, 1) := by decide +kernel
theorem d_Law_run_29 : decode m_Law_run.2.1 29 = .ok (.astore 4, 2) := by decide +kernel
theorem d_Law_run_31 : decode m_Law_run.2.1 31 = .ok (.iconst 5, 1) := by decide +kernel
theorem d_Law_run_32 : decode m_Law_run.2.1 32 = .ok (.ireturn, 1) := by decide +kernel
theorem d_Law_run_33 : decode m_Law_run.2.1 33 = .ok (.iconst 0, 1) := by decide +kernel
theorem d_Law_run_34 : decode m_Law_run.2.1 34 = .ok (.ireturn, 1) := by decide +kernel
theorem d_Law_ask_0 : decode m_Law_ask.2.1 0 = .ok (.aload_n 2, 1) := by decide +kernel
theorem d_Law_ask_1 : decode m_Law_ask.2.1 1 = .ok (.iconst 0, 1) := by decide +kernel
theorem d_Law_ask_2 : decode m_Law_ask.2.1 2 = .ok (.aload_n 0, 1) := by decide +kernel
theorem d_Law_ask_3 : decode m_Law_ask.2.1 3 = .ok (.iload_n 1, 1) := by decide +kernel
theorem d_Law_ask_4 : decode m_Law_ask.2.1 4 = .ok (.invokevirtual 31, 3) := by decide +kernel
theorem d_Law_ask_7 : decode m_Law_ask.2.1 7 = .ok (.i2l, 1) := by decide +kernel
theorem d_Law_ask_8 : decode m_Law_ask.2.1 8 = .ok (.lastore, 1) := by decide +kernel
theorem d_Law_ask_9 : decode m_Law_ask.2.1 9 = .ok (.goto 18, 3) := by decide +kernel
theorem d_Law_ask_12 : decode m_Law_ask.2.1 12 = .ok (.astore_n 3, 1) := by decide +kernel
theorem d_Law_ask_13 : decode m_Law_ask.2.1 13 = .ok (.iconst 1, 1) := by decide +kernel
theorem d_Law_ask_14 : decode m_Law_ask.2.1 14 = .ok (.ireturn, 1) := by decide +kernel
theorem d_Law_ask_15 : decode m_Law_ask.2.1 15 = .ok (.astore_n 3, 1) := by decide +kernel
theorem d_Law_ask_16 : decode m_Law_ask.2.1 16 = .ok (.iconst 2, 1) := by decide +kernel
theorem d_Law_ask_17 : decode m_Law_ask.2.1 17 = .ok (.ireturn, 1) := by decide +kernel
theorem d_Law_ask_18 : decode m_Law_ask.2.1 18 = .ok (.astore_n 3, 1) := by decide +kernel
theorem d_Law_ask_19 : decode m_Law_ask.2.1 19 = .ok (.iconst 3, 1) := by decide +kernel
theorem d_Law_ask_20 : decode m_Law_ask.2.1 20 = .ok (.ireturn, 1) := by decide +kernel
theorem d_Law_ask_21 : decode m_Law_ask.2.1 21 = .ok (.astore_n 3, 1) := by decide +kernel
theorem d_Law_ask_22 : decode m_Law_ask.2.1 22 = .ok (.iconst 4, 1) := by decide +kernel
theorem d_Law_ask_23 : decode m_Law_ask.2.1 23 = .ok (.ireturn, 1) := by decide +kernel
theorem d_Law_ask_24 : decode m_Law_ask.2.1 24 = .ok (.astore_n 3, 1) := by decide +kernel
theorem d_Law_ask_25 : decode m_Law_ask.2.1 25 = .ok (.iconst 5, 1) := by decide +kernel
theorem d_Law_ask_26 : decode m_Law_ask.2.1 26 = .ok (.ireturn, 1) := by decide +kernel
theorem d_Law_ask_27 : decode m_Law_ask.2.1 27 = .ok (.iconst 0, 1) := by decide +kernel
theorem d_Law_ask_28 : decode m_Law_ask.2.1 28 = .ok (.ireturn, 1) := by decide +kernel
theorem d_Law_value_0 : decode m_Law_value.2.1 0 = .ok (.aload_n 3, 1) := by decide +kernel
theorem d_Law_value_1 : decode m_Law_value.2.1 1 = .ok (.iconst 0, 1) := by decide +kernel
theorem d_Law_value_2 : decode m_Law_value.2.1 2 = .ok (.aload_n 0, 1) := by decide +kernel
theorem d_Law_value_3 : decode m_Law_value.2.1 3 = .ok (.iload_n 1, 1) := by decide +kernel
theorem d_Law_value_4 : decode m_Law_value.2.1 4 = .ok (.iload_n 2, 1) := by decide +kernel
theorem d_Law_value_5 : decode m_Law_value.2.1 5 = .ok (.invokevirtual 34, 3) := by decide +kernel
theorem d_Law_value_8 : decode m_Law_value.2.1 8 = .ok (.i2l, 1) := by decide +kernel
theorem d_Law_value_9 : decode m_Law_value.2.1 9 = .ok (.lastore, 1) := by decide +kernel
theorem d_Law_value_10 : decode m_Law_value.2.1 10 = .ok (.goto 7, 3) := by decide +kernel
theorem d_Law_value_13 : decode m_Law_value.2.1 13 = .ok (.astore 4, 2) := by decide +kernel
theorem d_Law_value_15 : decode m_Law_value.2.1 15 = .ok (.iconst 1, 1) := by decide +kernel
theorem d_Law_value_16 : decode m_Law_value.2.1 16 = .ok (.ireturn, 1) := by decide +kernel
theorem d_Law_value_17 : decode m_Law_value.2.1 17 = .ok (.iconst 0, 1) := by decide +kernel
theorem d_Law_value_18 : decode m_Law_value.2.1 18 = .ok (.ireturn, 1) := by decide +kernel
theorem d_Law_row_0 : decode m_Law_row.2.1 0 = .ok (.aload 4, 2) := by decide +kernel
theorem d_Law_row_2 : decode m_Law_row.2.1 2 = .ok (.iconst 0, 1) := by decide +kernel
theorem d_Law_row_3 : decode m_Law_row.2.1 3 = .ok (.aload_n 0, 1) := by decide +kernel
theorem d_Law_row_4 : decode m_Law_row.2.1 4 = .ok (.iload_n 1, 1) := by decide +kernel
theorem d_Law_row_5 : decode m_Law_row.2.1 5 = .ok (.iload_n 2, 1) := by decide +kernel
theorem d_Law_row_6 : decode m_Law_row.2.1 6 = .ok (.iload_n 3, 1) := by decide +kernel
theorem d_Law_row_7 : decode m_Law_row.2.1 7 = .ok (.invokevirtual 37, 3) := by decide +kernel
theorem d_Law_row_10 : decode m_Law_row.2.1 10 = .ok (.i2l, 1) := by decide +kernel
theorem d_Law_row_11 : decode m_Law_row.2.1 11 = .ok (.lastore, 1) := by decide +kernel
theorem d_Law_row_12 : decode m_Law_row.2.1 12 = .ok (.goto 11, 3) := by decide +kernel
theorem d_Law_row_15 : decode m_Law_row.2.1 15 = .ok (.astore 5, 2) := by decide +kernel
theorem d_Law_row_17 : decode m_Law_row.2.1 17 = .ok (.iconst 1, 1) := by decide +kernel
theorem d_Law_row_18 : decode m_Law_row.2.1 18 = .ok (.ireturn, 1) := by decide +kernel
theorem d_Law_row_19 : decode m_Law_row.2.1 19 = .ok (.astore 5, 2) := by decide +kernel
theorem d_Law_row_21 : decode m_Law_row.2.1 21 = .ok (.iconst 2, 1) := by decide +kernel
theorem d_Law_row_22 : decode m_Law_row.2.1 22 = .ok (.ireturn, 1) := by decide +kernel
theorem d_Law_row_23 : decode m_Law_row.2.1 23 = .ok (.iconst 0, 1) := by decide +kernel
theorem d_Law_row_24 : decode m_Law_row.2.1 24 = .ok (.ireturn, 1) := by decide +kernel
theorem d_Law_begin_0 : decode m_Law_begin.2.1 0 = .ok (.aload_n 0, 1) := by decide +kernel
theorem d_Law_begin_1 : decode m_Law_begin.2.1 1 = .ok (.invokevirtual 41, 3) := by decide +kernel
theorem d_Law_begin_4 : decode m_Law_begin.2.1 4 = .ok (.goto 6, 3) := by decide +kernel
theorem d_Law_begin_7 : decode m_Law_begin.2.1 7 = .ok (.astore_n 1, 1) := by decide +kernel
theorem d_Law_begin_8 : decode m_Law_begin.2.1 8 = .ok (.iconst 1, 1) := by decide +kernel
theorem d_Law_begin_9 : decode m_Law_begin.2.1 9 = .ok (.ireturn, 1) := by decide +kernel
theorem d_Law_begin_10 : decode m_Law_begin.2.1 10 = .ok (.iconst 0, 1) := by decide +kernel
theorem d_Law_begin_11 : decode m_Law_begin.2.1 11 = .ok (.ireturn, 1) := by decide +kernel
theorem d_Law_end_0 : decode m_Law_end.2.1 0 = .ok (.aload_n 1, 1) := by decide +kernel
theorem d_Law_end_1 : decode m_Law_end.2.1 1 = .ok (.iconst 0, 1) := by decide +kernel
theorem d_Law_end_2 : decode m_Law_end.2.1 2 = .ok (.aload_n 0, 1) := by decide +kernel
theorem d_Law_end_3 : decode m_Law_end.2.1 3 = .ok (.invokevirtual 44, 3) := by decide +kernel
theorem d_Law_end_6 : decode m_Law_end.2.1 6 = .ok (.i2l, 1) := by decide +kernel
theorem d_Law_end_7 : decode m_Law_end.2.1 7 = .ok (.lastore, 1) := by decide +kernel
theorem d_Law_end_8 : decode m_Law_end.2.1 8 = .ok (.goto 6, 3) := by decide +kernel
theorem d_Law_end_11 : decode m_Law_end.2.1 11 = .ok (.astore_n 2, 1) := by decide +kernel
theorem d_Law_end_12 : decode m_Law_end.2.1 12 = .ok (.iconst 1, 1) := by decide +kernel
theorem d_Law_end_13 : decode m_Law_end.2.1 13 = .ok (.ireturn, 1) := by decide +kernel
theorem d_Law_end_14 : decode m_Law_end.2.1 14 = .ok (.iconst 0, 1) := by decide +kernel
theorem d_Law_end_15 : decode m_Law_end.2.1 15 = .ok (.ireturn, 1) := by decide +kernel
theorem d_Law_back_0 : decode m_Law_back.2.1 0 = .ok (.aload_n 1, 1) := by decide +kernel
theorem d_Law_back_1 : decode m_Law_back.2.1 1 = .ok (.iconst 0, 1) := by decide +kernel
theorem d_Law_back_2 : decode m_Law_back.2.1 2 = .ok (.aload_n 0, 1) := by decide +kernel
theorem d_Law_back_3 : decode m_Law_back.2.1 3 = .ok (.invokevirtual 48, 3) := by decide +kernel
theorem d_Law_back_6 : decode m_Law_back.2.1 6 = .ok (.i2l, 1) := by decide +kernel
theorem d_Law_back_7 : decode m_Law_back.2.1 7 = .ok (.lastore, 1) := by decide +kernel
theorem d_Law_back_8 : decode m_Law_back.2.1 8 = .ok (.goto 6, 3) := by decide +kernel
theorem d_Law_back_11 : decode m_Law_back.2.1 11 = .ok (.astore_n 2, 1) := by decide +kernel
theorem d_Law_back_12 : decode m_Law_back.2.1 12 = .ok (.iconst 1, 1) := by decide +kernel
theorem d_Law_back_13 : decode m_Law_back.2.1 13 = .ok (.ireturn, 1) := by decide +kernel
theorem d_Law_back_14 : decode m_Law_back.2.1 14 = .ok (.iconst 0, 1) := by decide +kernel
theorem d_Law_back_15 : decode m_Law_back.2.1 15 = .ok (.ireturn, 1) := by decide +kernel
theorem d_Law_law_0 : decode m_Law_law.2.1 0 = .ok (.new 8, 3) := by decide +kernel
theorem d_Law_law_3 : decode m_Law_law.2.1 3 = .ok (.dup, 1) := by decide +kernel
theorem d_Law_law_4 : decode m_Law_law.2.1 4 = .ok (.invokespecial 51, 3) := by decide +kernel
theorem d_Law_law_7 : decode m_Law_law.2.1 7 = .ok (.astore_n 1, 1) := by decide +kernel
theorem d_Law_law_8 : decode m_Law_law.2.1 8 = .ok (.new 52, 3) := by decide +kernel
theorem d_Law_law_11 : decode m_Law_law.2.1 11 = .ok (.dup, 1) := by decide +kernel
theorem d_Law_law_12 : decode m_Law_law.2.1 12 = .ok (.invokespecial 54, 3) := by decide +kernel
theorem d_Law_law_15 : decode m_Law_law.2.1 15 = .ok (.astore_n 2, 1) := by decide +kernel
theorem d_Law_law_16 : decode m_Law_law.2.1 16 = .ok (.iconst 1, 1) := by decide +kernel
theorem d_Law_law_17 : decode m_Law_law.2.1 17 = .ok (.newarray .long, 2) := by decide +kernel
theorem d_Law_law_19 : decode m_Law_law.2.1 19 = .ok (.astore_n 3, 1) := by decide +kernel
theorem d_Law_law_20 : decode m_Law_law.2.1 20 = .ok (.iconst 0, 1) := by decide +kernel
theorem d_Law_law_21 : decode m_Law_law.2.1 21 = .ok (.istore 4, 2) := by decide +kernel
theorem d_Law_law_23 : decode m_Law_law.2.1 23 = .ok (.iload 4, 2) := by decide +kernel
theorem d_Law_law_25 : decode m_Law_law.2.1 25 = .ok (.aload_n 0, 1) := by decide +kernel
theorem d_Law_law_26 : decode m_Law_law.2.1 26 = .ok (.arraylength, 1) := by decide +kernel
theorem d_Law_law_27 : decode m_Law_law.2.1 27 = .ok (.iconst 4, 1) := by decide +kernel
theorem d_Law_law_28 : decode m_Law_law.2.1 28 = .ok (.isub, 1) := by decide +kernel
theorem d_Law_law_29 : decode m_Law_law.2.1 29 = .ok (.if_icmp .gt 622, 3) := by decide +kernel
theorem d_Law_law_32 : decode m_Law_law.2.1 32 = .ok (.aload_n 0, 1) := by decide +kernel
theorem d_Law_law_33 : decode m_Law_law.2.1 33 = .ok (.iload 4, 2) := by decide +kernel
theorem d_Law_law_35 : decode m_Law_law.2.1 35 = .ok (.iaload, 1) := by decide +kernel
theorem d_Law_law_36 : decode m_Law_law.2.1 36 = .ok (.bipush 15, 2) := by decide +kernel
theorem d_Law_law_38 : decode m_Law_law.2.1 38 = .ok (.iand, 1) := by decide +kernel
theorem d_Law_law_39 : decode m_Law_law.2.1 39 = .ok (.tableswitch 606 0 9 #[53, 141, 197, 265, 321, 389, 469, 493, 537, 581], 53) := by decide +kernel
theorem d_Law_law_92 : decode m_Law_law.2.1 92 = .ok (.aload_n 1, 1) := by decide +kernel
theorem d_Law_law_93 : decode m_Law_law.2.1 93 = .ok (.aload_n 0, 1) := by decide +kernel
theorem d_Law_law_94 : decode m_Law_law.2.1 94 = .ok (.iload 4, 2) := by decide +kernel
theorem d_Law_law_96 : decode m_Law_law.2.1 96 = .ok (.iconst 1, 1) := by decide +kernel
theorem d_Law_law_97 : decode m_Law_law.2.1 97 = .ok (.iadd, 1) := by decide +kernel
theorem d_Law_law_98 : decode m_Law_law.2.1 98 = .ok (.iaload, 1) := by decide +kernel
theorem d_Law_law_99 : decode m_Law_law.2.1 99 = .ok (.i2l, 1) := by decide +kernel
theorem d_Law_law_100 : decode m_Law_law.2.1 100 = .ok (.bipush 32, 2) := by decide +kernel
theorem d_Law_law_102 : decode m_Law_law.2.1 102 = .ok (.lshl, 1) := by decide +kernel
theorem d_Law_law_103 : decode m_Law_law.2.1 103 = .ok (.aload_n 0, 1) := by decide +kernel
theorem d_Law_law_104 : decode m_Law_law.2.1 104 = .ok (.iload 4, 2) := by decide +kernel
theorem d_Law_law_106 : decode m_Law_law.2.1 106 = .ok (.iconst 2, 1) := by decide +kernel
theorem d_Law_law_107 : decode m_Law_law.2.1 107 = .ok (.iadd, 1) := by decide +kernel
theorem d_Law_law_108 : decode m_Law_law.2.1 108 = .ok (.iaload, 1) := by decide +kernel
theorem d_Law_law_109 : decode m_Law_law.2.1 109 = .ok (.i2l, 1) := by decide +kernel
theorem d_Law_law_110 : decode m_Law_law.2.1 110 = .ok (.ldc2_w 55, 3) := by decide +kernel
theorem d_Law_law_113 : decode m_Law_law.2.1 113 = .ok (.land, 1) := by decide +kernel
theorem d_Law_law_114 : decode m_Law_law.2.1 114 = .ok (.lor, 1) := by decide +kernel
theorem d_Law_law_115 : decode m_Law_law.2.1 115 = .ok (.aload_n 3, 1) := by decide +kernel
theorem d_Law_law_116 : decode m_Law_law.2.1 116 = .ok (.invokestatic 57, 3) := by decide +kernel
theorem d_Law_law_119 : decode m_Law_law.2.1 119 = .ok (.istore 5, 2) := by decide +kernel
theorem d_Law_law_121 : decode m_Law_law.2.1 121 = .ok (.aload_n 2, 1) := by decide +kernel
theorem d_Law_law_122 : decode m_Law_law.2.1 122 = .ok (.aload_n 0, 1) := by decide +kernel
theorem d_Law_law_123 : decode m_Law_law.2.1 123 = .ok (.iload 4, 2) := by decide +kernel
theorem d_Law_law_125 : decode m_Law_law.2.1 125 = .ok (.iconst 1, 1) := by decide +kernel
theorem d_Law_law_126 : decode m_Law_law.2.1 126 = .ok (.iadd, 1) := by decide +kernel
theorem d_Law_law_127 : decode m_Law_law.2.1 127 = .ok (.iaload, 1) := by decide +kernel
theorem d_Law_law_128 : decode m_Law_law.2.1 128 = .ok (.i2l, 1) := by decide +kernel
theorem d_Law_law_129 : decode m_Law_law.2.1 129 = .ok (.bipush 32, 2) := by decide +kernel
theorem d_Law_law_131 : decode m_Law_law.2.1 131 = .ok (.lshl, 1) := by decide +kernel
theorem d_Law_law_132 : decode m_Law_law.2.1 132 = .ok (.aload_n 0, 1) := by decide +kernel
theorem d_Law_law_133 : decode m_Law_law.2.1 133 = .ok (.iload 4, 2) := by decide +kernel
theorem d_Law_law_135 : decode m_Law_law.2.1 135 = .ok (.iconst 2, 1) := by decide +kernel
theorem d_Law_law_136 : decode m_Law_law.2.1 136 = .ok (.iadd, 1) := by decide +kernel
theorem d_Law_law_137 : decode m_Law_law.2.1 137 = .ok (.iaload, 1) := by decide +kernel
theorem d_Law_law_138 : decode m_Law_law.2.1 138 = .ok (.i2l, 1) := by decide +kernel
theorem d_Law_law_139 : decode m_Law_law.2.1 139 = .ok (.ldc2_w 55, 3) := by decide +kernel
theorem d_Law_law_142 : decode m_Law_law.2.1 142 = .ok (.land, 1) := by decide +kernel
theorem d_Law_law_143 : decode m_Law_law.2.1 143 = .ok (.lor, 1) := by decide +kernel
theorem d_Law_law_144 : decode m_Law_law.2.1 144 = .ok (.invokevirtual 62, 3) := by decide +kernel
theorem d_Law_law_147 : decode m_Law_law.2.1 147 = .ok (.istore 6, 2) := by decide +kernel
theorem d_Law_law_149 : decode m_Law_law.2.1 149 = .ok (.aload_n 2, 1) := by decide +kernel
theorem d_Law_law_150 : decode m_Law_law.2.1 150 = .ok (.invokevirtual 63, 3) := by decide +kernel
theorem d_Law_law_153 : decode m_Law_law.2.1 153 = .ok (.iload 5, 2) := by decide +kernel
theorem d_Law_law_155 : decode m_Law_law.2.1 155 = .ok (.if_icmp .eq 5, 3) := by decide +kernel
theorem d_Law_law_158 : decode m_Law_law.2.1 158 = .ok (.iconst 0, 1) := by decide +kernel
theorem d_Law_law_159 : decode m_Law_law.2.1 159 = .ok (.ireturn, 1) := by decide +kernel
theorem d_Law_law_160 : decode m_Law_law.2.1 160 = .ok (.iload 5, 2) := by decide +kernel
theorem d_Law_law_162 : decode m_Law_law.2.1 162 = .ok (.ifCond .ne 15, 3) := by decide +kernel
theorem d_Law_law_165 : decode m_Law_law.2.1 165 = .ok (.aload_n 3, 1) := by decide +kernel
theorem d_Law_law_166 : decode m_Law_law.2.1 166 = .ok (.iconst 0, 1) := by decide +kernel
theorem d_Law_law_167 : decode m_Law_law.2.1 167 = .ok (.laload, 1) := by decide +kernel
theorem d_Law_law_168 : decode m_Law_law.2.1 168 = .ok (.iload 6, 2) := by decide +kernel
theorem d_Law_law_170 : decode m_Law_law.2.1 170 = .ok (.i2l, 1) := by decide +kernel
theorem d_Law_law_171 : decode m_Law_law.2.1 171 = .ok (.lcmp, 1) := by decide +kernel
theorem d_Law_law_172 : decode m_Law_law.2.1 172 = .ok (.ifCond .eq 5, 3) := by decide +kernel
theorem d_Law_law_175 : decode m_Law_law.2.1 175 = .ok (.iconst 0, 1) := by decide +kernel
theorem d_Law_law_176 : decode m_Law_law.2.1 176 = .ok (.ireturn, 1) := by decide +kernel
theorem d_Law_law_177 : decode m_Law_law.2.1 177 = .ok (.goto 468, 3) := by decide +kernel
theorem d_Law_law_180 : decode m_Law_law.2.1 180 = .ok (.aload_n 1, 1) := by decide +kernel
theorem d_Law_law_181 : decode m_Law_law.2.1 181 = .ok (.aload_n 0, 1) := by decide +kernel
theorem d_Law_law_182 : decode m_Law_law.2.1 182 = .ok (.iload 4, 2) := by decide +kernel
theorem d_Law_law_184 : decode m_Law_law.2.1 184 = .ok (.iconst 1, 1) := by decide +kernel
theorem d_Law_law_185 : decode m_Law_law.2.1 185 = .ok (.iadd, 1) := by decide +kernel
theorem d_Law_law_186 : decode m_Law_law.2.1 186 = .ok (.iaload, 1) := by decide +kernel
theorem d_Law_law_187 : decode m_Law_law.2.1 187 = .ok (.aload_n 3, 1) := by decide +kernel
theorem d_Law_law_188 : decode m_Law_law.2.1 188 = .ok (.invokestatic 66, 3) := by decide +kernel
theorem d_Law_law_191 : decode m_Law_law.2.1 191 = .ok (.istore 5, 2) := by decide +kernel
theorem d_Law_law_193 : decode m_Law_law.2.1 193 = .ok (.aload_n 2, 1) := by decide +kernel
theorem d_Law_law_194 : decode m_Law_law.2.1 194 = .ok (.aload_n 0, 1) := by decide +kernel
theorem d_Law_law_195 : decode m_Law_law.2.1 195 = .ok (.iload 4, 2) := by decide +kernel
theorem d_Law_law_197 : decode m_Law_law.2.1 197 = .ok (.iconst 1, 1) := by decide +kernel
theorem d_Law_law_198 : decode m_Law_law.2.1 198 = .ok (.iadd, 1) := by decide +kernel
theorem d_Law_law_199 : decode m_Law_law.2.1 199 = .ok (.iaload, 1) := by decide +kernel
theorem d_Law_law_200 : decode m_Law_law.2.1 200 = .ok (.invokevirtual 69, 3) := by decide +kernel
theorem d_Law_law_203 : decode m_Law_law.2.1 203 = .ok (.istore 6, 2) := by decide +kernel
theorem d_Law_law_205 : decode m_Law_law.2.1 205 = .ok (.aload_n 2, 1) := by decide +kernel
theorem d_Law_law_206 : decode m_Law_law.2.1 206 = .ok (.invokevirtual 63, 3) := by decide +kernel
theorem d_Law_law_209 : decode m_Law_law.2.1 209 = .ok (.iload 5, 2) := by decide +kernel
theorem d_Law_law_211 : decode m_Law_law.2.1 211 = .ok (.if_icmp .eq 5, 3) := by decide +kernel
theorem d_Law_law_214 : decode m_Law_law.2.1 214 = .ok (.iconst 0, 1) := by decide +kernel
theorem d_Law_law_215 : decode m_Law_law.2.1 215 = .ok (.ireturn, 1) := by decide +kernel
theorem d_Law_law_216 : decode m_Law_law.2.1 216 = .ok (.iload 5, 2) := by decide +kernel
theorem d_Law_law_218 : decode m_Law_law.2.1 218 = .ok (.ifCond .ne 15, 3) := by decide +kernel
theorem d_Law_law_221 : decode m_Law_law.2.1 221 = .ok (.aload_n 3, 1) := by decide +kernel
theorem d_Law_law_222 : decode m_Law_law.2.1 222 = .ok (.iconst 0, 1) := by decide +kernel
theorem d_Law_law_223 : decode m_Law_law.2.1 223 = .ok (.laload, 1) := by decide +kernel
theorem d_Law_law_224 : decode m_Law_law.2.1 224 = .ok (.iload 6, 2) := by decide +kernel
theorem d_Law_law_226 : decode m_Law_law.2.1 226 = .ok (.i2l, 1) := by decide +kernel
theorem d_Law_law_227 : decode m_Law_law.2.1 227 = .ok (.lcmp, 1) := by decide +kernel
theorem d_Law_law_228 : decode m_Law_law.2.1 228 = .ok (.ifCond .eq 5, 3) := by decide +kernel
theorem d_Law_law_231 : decode m_Law_law.2.1 231 = .ok (.iconst 0, 1) := by decide +kernel
theorem d_Law_law_232 : decode m_Law_law.2.1 232 = .ok (.ireturn, 1) := by decide +kernel
theorem d_Law_law_233 : decode m_Law_law.2.1 233 = .ok (.goto 412, 3) := by decide +kernel
theorem d_Law_law_236 : decode m_Law_law.2.1 236 = .ok (.aload_n 1, 1) := by decide +kernel
theorem d_Law_law_237 : decode m_Law_law.2.1 237 = .ok (.aload_n 0, 1) := by decide +kernel
theorem d_Law_law_238 : decode m_Law_law.2.1 238 = .ok (.iload 4, 2) := by decide +kernel
theorem d_Law_law_240 : decode m_Law_law.2.1 240 = .ok (.iconst 1, 1) := by decide +kernel
theorem d_Law_law_241 : decode m_Law_law.2.1 241 = .ok (.iadd, 1) := by decide +kernel
theorem d_Law_law_242 : decode m_Law_law.2.1 242 = .ok (.iaload, 1) := by decide +kernel
theorem d_Law_law_243 : decode m_Law_law.2.1 243 = .ok (.aload_n 0, 1) := by decide +kernel
theorem d_Law_law_244 : decode m_Law_law.2.1 244 = .ok (.iload 4, 2) := by decide +kernel
theorem d_Law_law_246 : decode m_Law_law.2.1 246 = .ok (.iconst 2, 1) := by decide +kernel
theorem d_Law_law_247 : decode m_Law_law.2.1 247 = .ok (.iadd, 1) := by decide +kernel
theorem d_Law_law_248 : decode m_Law_law.2.1 248 = .ok (.iaload, 1) := by decide +kernel
theorem d_Law_law_249 : decode m_Law_law.2.1 249 = .ok (.aload_n 3, 1) := by decide +kernel
theorem d_Law_law_250 : decode m_Law_law.2.1 250 = .ok (.invokestatic 70, 3) := by decide +kernel
theorem d_Law_law_253 : decode m_Law_law.2.1 253 = .ok (.istore 5, 2) := by decide +kernel
theorem d_Law_law_255 : decode m_Law_law.2.1 255 = .ok (.aload_n 2, 1) := by decide +kernel
theorem d_Law_law_256 : decode m_Law_law.2.1 256 = .ok (.aload_n 0, 1) := by decide +kernel
theorem d_Law_law_257 : decode m_Law_law.2.1 257 = .ok (.iload 4, 2) := by decide +kernel
theorem d_Law_law_259 : decode m_Law_law.2.1 259 = .ok (.iconst 1, 1) := by decide +kernel
theorem d_Law_law_260 : decode m_Law_law.2.1 260 = .ok (.iadd, 1) := by decide +kernel
theorem d_Law_law_261 : decode m_Law_law.2.1 261 = .ok (.iaload, 1) := by decide +kernel
theorem d_Law_law_262 : decode m_Law_law.2.1 262 = .ok (.aload_n 0, 1) := by decide +kernel
theorem d_Law_law_263 : decode m_Law_law.2.1 263 = .ok (.iload 4, 2) := by decide +kernel
theorem d_Law_law_265 : decode m_Law_law.2.1 265 = .ok (.iconst 2, 1) := by decide +kernel
theorem d_Law_law_266 : decode m_Law_law.2.1 266 = .ok (.iadd, 1) := by decide +kernel
theorem d_Law_law_267 : decode m_Law_law.2.1 267 = .ok (.iaload, 1) := by decide +kernel
theorem d_Law_law_268 : decode m_Law_law.2.1 268 = .ok (.invokevirtual 73, 3) := by decide +kernel
theorem d_Law_law_271 : decode m_Law_law.2.1 271 = .ok (.istore 6, 2) := by decide +kernel
theorem d_Law_law_273 : decode m_Law_law.2.1 273 = .ok (.aload_n 2, 1) := by decide +kernel
theorem d_Law_law_274 : decode m_Law_law.2.1 274 = .ok (.invokevirtual 63, 3) := by decide +kernel
theorem d_Law_law_277 : decode m_Law_law.2.1 277 = .ok (.iload 5, 2) := by decide +kernel
theorem d_Law_law_279 : decode m_Law_law.2.1 279 = .ok (.if_icmp .eq 5, 3) := by decide +kernel
theorem d_Law_law_282 : decode m_Law_law.2.1 282 = .ok (.iconst 0, 1) := by decide +kernel
theorem d_Law_law_283 : decode m_Law_law.2.1 283 = .ok (.ireturn, 1) := by decide +kernel
theorem d_Law_law_284 : decode m_Law_law.2.1 284 = .ok (.iload 5, 2) := by decide +kernel
theorem d_Law_law_286 : decode m_Law_law.2.1 286 = .ok (.ifCond .ne 15, 3) := by decide +kernel
theorem d_Law_law_289 : decode m_Law_law.2.1 289 = .ok (.aload_n 3, 1) := by decide +kernel
theorem d_Law_law_290 : decode m_Law_law.2.1 290 = .ok (.iconst 0, 1) := by decide +kernel
theorem d_Law_law_291 : decode m_Law_law.2.1 291 = .ok (.laload, 1) := by decide +kernel
theorem d_Law_law_292 : decode m_Law_law.2.1 292 = .ok (.iload 6, 2) := by decide +kernel
theorem d_Law_law_294 : decode m_Law_law.2.1 294 = .ok (.i2l, 1) := by decide +kernel
theorem d_Law_law_295 : decode m_Law_law.2.1 295 = .ok (.lcmp, 1) := by decide +kernel
theorem d_Law_law_296 : decode m_Law_law.2.1 296 = .ok (.ifCond .eq 5, 3) := by decide +kernel
theorem d_Law_law_299 : decode m_Law_law.2.1 299 = .ok (.iconst 0, 1) := by decide +kernel
theorem d_Law_law_300 : decode m_Law_law.2.1 300 = .ok (.ireturn, 1) := by decide +kernel
theorem d_Law_law_301 : decode m_Law_law.2.1 301 = .ok (.goto 344, 3) := by decide +kernel
theorem d_Law_law_304 : decode m_Law_law.2.1 304 = .ok (.aload_n 1, 1) := by decide +kernel
theorem d_Law_law_305 : decode m_Law_law.2.1 305 = .ok (.aload_n 0, 1) := by decide +kernel
theorem d_Law_law_306 : decode m_Law_law.2.1 306 = .ok (.iload 4, 2) := by decide +kernel
theorem d_Law_law_308 : decode m_Law_law.2.1 308 = .ok (.iconst 1, 1) := by decide +kernel
theorem d_Law_law_309 : decode m_Law_law.2.1 309 = .ok (.iadd, 1) := by decide +kernel
theorem d_Law_law_310 : decode m_Law_law.2.1 310 = .ok (.iaload, 1) := by decide +kernel
theorem d_Law_law_311 : decode m_Law_law.2.1 311 = .ok (.aload_n 3, 1) := by decide +kernel
theorem d_Law_law_312 : decode m_Law_law.2.1 312 = .ok (.invokestatic 74, 3) := by decide +kernel
theorem d_Law_law_315 : decode m_Law_law.2.1 315 = .ok (.istore 5, 2) := by decide +kernel
theorem d_Law_law_317 : decode m_Law_law.2.1 317 = .ok (.aload_n 2, 1) := by decide +kernel
theorem d_Law_law_318 : decode m_Law_law.2.1 318 = .ok (.aload_n 0, 1) := by decide +kernel
theorem d_Law_law_319 : decode m_Law_law.2.1 319 = .ok (.iload 4, 2) := by decide +kernel
theorem d_Law_law_321 : decode m_Law_law.2.1 321 = .ok (.iconst 1, 1) := by decide +kernel
theorem d_Law_law_322 : decode m_Law_law.2.1 322 = .ok (.iadd, 1) := by decide +kernel
theorem d_Law_law_323 : decode m_Law_law.2.1 323 = .ok (.iaload, 1) := by decide +kernel
theorem d_Law_law_324 : decode m_Law_law.2.1 324 = .ok (.invokevirtual 76, 3) := by decide +kernel
theorem d_Law_law_327 : decode m_Law_law.2.1 327 = .ok (.istore 6, 2) := by decide +kernel
theorem d_Law_law_329 : decode m_Law_law.2.1 329 = .ok (.aload_n 2, 1) := by decide +kernel
theorem d_Law_law_330 : decode m_Law_law.2.1 330 = .ok (.invokevirtual 63, 3) := by decide +kernel
theorem d_Law_law_333 : decode m_Law_law.2.1 333 = .ok (.iload 5, 2) := by decide +kernel
theorem d_Law_law_335 : decode m_Law_law.2.1 335 = .ok (.if_icmp .eq 5, 3) := by decide +kernel
theorem d_Law_law_338 : decode m_Law_law.2.1 338 = .ok (.iconst 0, 1) := by decide +kernel
theorem d_Law_law_339 : decode m_Law_law.2.1 339 = .ok (.ireturn, 1) := by decide +kernel
theorem d_Law_law_340 : decode m_Law_law.2.1 340 = .ok (.iload 5, 2) := by decide +kernel
theorem d_Law_law_342 : decode m_Law_law.2.1 342 = .ok (.ifCond .ne 15, 3) := by decide +kernel
theorem d_Law_law_345 : decode m_Law_law.2.1 345 = .ok (.aload_n 3, 1) := by decide +kernel
theorem d_Law_law_346 : decode m_Law_law.2.1 346 = .ok (.iconst 0, 1) := by decide +kernel
theorem d_Law_law_347 : decode m_Law_law.2.1 347 = .ok (.laload, 1) := by decide +kernel
theorem d_Law_law_348 : decode m_Law_law.2.1 348 = .ok (.iload 6, 2) := by decide +kernel
theorem d_Law_law_350 : decode m_Law_law.2.1 350 = .ok (.i2l, 1) := by decide +kernel
theorem d_Law_law_351 : decode m_Law_law.2.1 351 = .ok (.lcmp, 1) := by decide +kernel
theorem d_Law_law_352 : decode m_Law_law.2.1 352 = .ok (.ifCond .eq 5, 3) := by decide +kernel
theorem d_Law_law_355 : decode m_Law_law.2.1 355 = .ok (.iconst 0, 1) := by decide +kernel
theorem d_Law_law_356 : decode m_Law_law.2.1 356 = .ok (.ireturn, 1) := by decide +kernel
theorem d_Law_law_357 : decode m_Law_law.2.1 357 = .ok (.goto 288, 3) := by decide +kernel
theorem d_Law_law_360 : decode m_Law_law.2.1 360 = .ok (.aload_n 1, 1) := by decide +kernel
theorem d_Law_law_361 : decode m_Law_law.2.1 361 = .ok (.aload_n 0, 1) := by decide +kernel
theorem d_Law_law_362 : decode m_Law_law.2.1 362 = .ok (.iload 4, 2) := by decide +kernel
theorem d_Law_law_364 : decode m_Law_law.2.1 364 = .ok (.iconst 1, 1) := by decide +kernel
theorem d_Law_law_365 : decode m_Law_law.2.1 365 = .ok (.iadd, 1) := by decide +kernel
theorem d_Law_law_366 : decode m_Law_law.2.1 366 = .ok (.iaload, 1) := by decide +kernel
theorem d_Law_law_367 : decode m_Law_law.2.1 367 = .ok (.aload_n 0, 1) := by decide +kernel
theorem d_Law_law_368 : decode m_Law_law.2.1 368 = .ok (.iload 4, 2) := by decide +kernel
theorem d_Law_law_370 : decode m_Law_law.2.1 370 = .ok (.iconst 2, 1) := by decide +kernel
theorem d_Law_law_371 : decode m_Law_law.2.1 371 = .ok (.iadd, 1) := by decide +kernel
theorem d_Law_law_372 : decode m_Law_law.2.1 372 = .ok (.iaload, 1) := by decide +kernel
theorem d_Law_law_373 : decode m_Law_law.2.1 373 = .ok (.aload_n 3, 1) := by decide +kernel
theorem d_Law_law_374 : decode m_Law_law.2.1 374 = .ok (.invokestatic 77, 3) := by decide +kernel
theorem d_Law_law_377 : decode m_Law_law.2.1 377 = .ok (.istore 5, 2) := by decide +kernel
theorem d_Law_law_379 : decode m_Law_law.2.1 379 = .ok (.aload_n 2, 1) := by decide +kernel
theorem d_Law_law_380 : decode m_Law_law.2.1 380 = .ok (.aload_n 0, 1) := by decide +kernel
theorem d_Law_law_381 : decode m_Law_law.2.1 381 = .ok (.iload 4, 2) := by decide +kernel
theorem d_Law_law_383 : decode m_Law_law.2.1 383 = .ok (.iconst 1, 1) := by decide +kernel
theorem d_Law_law_384 : decode m_Law_law.2.1 384 = .ok (.iadd, 1) := by decide +kernel
theorem d_Law_law_385 : decode m_Law_law.2.1 385 = .ok (.iaload, 1) := by decide +kernel
theorem d_Law_law_386 : decode m_Law_law.2.1 386 = .ok (.aload_n 0, 1) := by decide +kernel
theorem d_Law_law_387 : decode m_Law_law.2.1 387 = .ok (.iload 4, 2) := by decide +kernel
theorem d_Law_law_389 : decode m_Law_law.2.1 389 = .ok (.iconst 2, 1) := by decide +kernel
theorem d_Law_law_390 : decode m_Law_law.2.1 390 = .ok (.iadd, 1) := by decide +kernel
theorem d_Law_law_391 : decode m_Law_law.2.1 391 = .ok (.iaload, 1) := by decide +kernel
theorem d_Law_law_392 : decode m_Law_law.2.1 392 = .ok (.invokevirtual 79, 3) := by decide +kernel
theorem d_Law_law_395 : decode m_Law_law.2.1 395 = .ok (.istore 6, 2) := by decide +kernel
theorem d_Law_law_397 : decode m_Law_law.2.1 397 = .ok (.aload_n 2, 1) := by decide +kernel
theorem d_Law_law_398 : decode m_Law_law.2.1 398 = .ok (.invokevirtual 63, 3) := by decide +kernel
theorem d_Law_law_401 : decode m_Law_law.2.1 401 = .ok (.iload 5, 2) := by decide +kernel
theorem d_Law_law_403 : decode m_Law_law.2.1 403 = .ok (.if_icmp .eq 5, 3) := by decide +kernel
theorem d_Law_law_406 : decode m_Law_law.2.1 406 = .ok (.iconst 0, 1) := by decide +kernel
theorem d_Law_law_407 : decode m_Law_law.2.1 407 = .ok (.ireturn, 1) := by decide +kernel
theorem d_Law_law_408 : decode m_Law_law.2.1 408 = .ok (.iload 5, 2) := by decide +kernel
theorem d_Law_law_410 : decode m_Law_law.2.1 410 = .ok (.ifCond .ne 15, 3) := by decide +kernel
theorem d_Law_law_413 : decode m_Law_law.2.1 413 = .ok (.aload_n 3, 1) := by decide +kernel
theorem d_Law_law_414 : decode m_Law_law.2.1 414 = .ok (.iconst 0, 1) := by decide +kernel
theorem d_Law_law_415 : decode m_Law_law.2.1 415 = .ok (.laload, 1) := by decide +kernel
theorem d_Law_law_416 : decode m_Law_law.2.1 416 = .ok (.iload 6, 2) := by decide +kernel
theorem d_Law_law_418 : decode m_Law_law.2.1 418 = .ok (.i2l, 1) := by decide +kernel
theorem d_Law_law_419 : decode m_Law_law.2.1 419 = .ok (.lcmp, 1) := by decide +kernel
theorem d_Law_law_420 : decode m_Law_law.2.1 420 = .ok (.ifCond .eq 5, 3) := by decide +kernel
theorem d_Law_law_423 : decode m_Law_law.2.1 423 = .ok (.iconst 0, 1) := by decide +kernel
theorem d_Law_law_424 : decode m_Law_law.2.1 424 = .ok (.ireturn, 1) := by decide +kernel
theorem d_Law_law_425 : decode m_Law_law.2.1 425 = .ok (.goto 220, 3) := by decide +kernel
theorem d_Law_law_428 : decode m_Law_law.2.1 428 = .ok (.aload_n 1, 1) := by decide +kernel
theorem d_Law_law_429 : decode m_Law_law.2.1 429 = .ok (.aload_n 0, 1) := by decide +kernel
theorem d_Law_law_430 : decode m_Law_law.2.1 430 = .ok (.iload 4, 2) := by decide +kernel
theorem d_Law_law_432 : decode m_Law_law.2.1 432 = .ok (.iconst 1, 1) := by decide +kernel
theorem d_Law_law_433 : decode m_Law_law.2.1 433 = .ok (.iadd, 1) := by decide +kernel
theorem d_Law_law_434 : decode m_Law_law.2.1 434 = .ok (.iaload, 1) := by decide +kernel
theorem d_Law_law_435 : decode m_Law_law.2.1 435 = .ok (.aload_n 0, 1) := by decide +kernel
theorem d_Law_law_436 : decode m_Law_law.2.1 436 = .ok (.iload 4, 2) := by decide +kernel
theorem d_Law_law_438 : decode m_Law_law.2.1 438 = .ok (.iconst 2, 1) := by decide +kernel
theorem d_Law_law_439 : decode m_Law_law.2.1 439 = .ok (.iadd, 1) := by decide +kernel
theorem d_Law_law_440 : decode m_Law_law.2.1 440 = .ok (.iaload, 1) := by decide +kernel
theorem d_Law_law_441 : decode m_Law_law.2.1 441 = .ok (.aload_n 0, 1) := by decide +kernel
theorem d_Law_law_442 : decode m_Law_law.2.1 442 = .ok (.iload 4, 2) := by decide +kernel
theorem d_Law_law_444 : decode m_Law_law.2.1 444 = .ok (.iconst 3, 1) := by decide +kernel
theorem d_Law_law_445 : decode m_Law_law.2.1 445 = .ok (.iadd, 1) := by decide +kernel
theorem d_Law_law_446 : decode m_Law_law.2.1 446 = .ok (.iaload, 1) := by decide +kernel
theorem d_Law_law_447 : decode m_Law_law.2.1 447 = .ok (.aload_n 3, 1) := by decide +kernel
theorem d_Law_law_448 : decode m_Law_law.2.1 448 = .ok (.invokestatic 80, 3) := by decide +kernel
theorem d_Law_law_451 : decode m_Law_law.2.1 451 = .ok (.istore 5, 2) := by decide +kernel
theorem d_Law_law_453 : decode m_Law_law.2.1 453 = .ok (.aload_n 2, 1) := by decide +kernel
theorem d_Law_law_454 : decode m_Law_law.2.1 454 = .ok (.aload_n 0, 1) := by decide +kernel
theorem d_Law_law_455 : decode m_Law_law.2.1 455 = .ok (.iload 4, 2) := by decide +kernel
theorem d_Law_law_457 : decode m_Law_law.2.1 457 = .ok (.iconst 1, 1) := by decide +kernel
theorem d_Law_law_458 : decode m_Law_law.2.1 458 = .ok (.iadd, 1) := by decide +kernel
theorem d_Law_law_459 : decode m_Law_law.2.1 459 = .ok (.iaload, 1) := by decide +kernel
theorem d_Law_law_460 : decode m_Law_law.2.1 460 = .ok (.aload_n 0, 1) := by decide +kernel
theorem d_Law_law_461 : decode m_Law_law.2.1 461 = .ok (.iload 4, 2) := by decide +kernel
theorem d_Law_law_463 : decode m_Law_law.2.1 463 = .ok (.iconst 2, 1) := by decide +kernel
theorem d_Law_law_464 : decode m_Law_law.2.1 464 = .ok (.iadd, 1) := by decide +kernel
theorem d_Law_law_465 : decode m_Law_law.2.1 465 = .ok (.iaload, 1) := by decide +kernel
theorem d_Law_law_466 : decode m_Law_law.2.1 466 = .ok (.aload_n 0, 1) := by decide +kernel
theorem d_Law_law_467 : decode m_Law_law.2.1 467 = .ok (.iload 4, 2) := by decide +kernel
theorem d_Law_law_469 : decode m_Law_law.2.1 469 = .ok (.iconst 3, 1) := by decide +kernel
theorem d_Law_law_470 : decode m_Law_law.2.1 470 = .ok (.iadd, 1) := by decide +kernel
theorem d_Law_law_471 : decode m_Law_law.2.1 471 = .ok (.iaload, 1) := by decide +kernel
theorem d_Law_law_472 : decode m_Law_law.2.1 472 = .ok (.invokevirtual 83, 3) := by decide +kernel
theorem d_Law_law_475 : decode m_Law_law.2.1 475 = .ok (.istore 6, 2) := by decide +kernel
theorem d_Law_law_477 : decode m_Law_law.2.1 477 = .ok (.aload_n 2, 1) := by decide +kernel
theorem d_Law_law_478 : decode m_Law_law.2.1 478 = .ok (.invokevirtual 63, 3) := by decide +kernel
theorem d_Law_law_481 : decode m_Law_law.2.1 481 = .ok (.iload 5, 2) := by decide +kernel
theorem d_Law_law_483 : decode m_Law_law.2.1 483 = .ok (.if_icmp .eq 5, 3) := by decide +kernel
theorem d_Law_law_486 : decode m_Law_law.2.1 486 = .ok (.iconst 0, 1) := by decide +kernel
theorem d_Law_law_487 : decode m_Law_law.2.1 487 = .ok (.ireturn, 1) := by decide +kernel
theorem d_Law_law_488 : decode m_Law_law.2.1 488 = .ok (.iload 5, 2) := by decide +kernel
theorem d_Law_law_490 : decode m_Law_law.2.1 490 = .ok (.ifCond .ne 15, 3) := by decide +kernel
theorem d_Law_law_493 : decode m_Law_law.2.1 493 = .ok (.aload_n 3, 1) := by decide +kernel
theorem d_Law_law_494 : decode m_Law_law.2.1 494 = .ok (.iconst 0, 1) := by decide +kernel
theorem d_Law_law_495 : decode m_Law_law.2.1 495 = .ok (.laload, 1) := by decide +kernel
theorem d_Law_law_496 : decode m_Law_law.2.1 496 = .ok (.iload 6, 2) := by decide +kernel
theorem d_Law_law_498 : decode m_Law_law.2.1 498 = .ok (.i2l, 1) := by decide +kernel
theorem d_Law_law_499 : decode m_Law_law.2.1 499 = .ok (.lcmp, 1) := by decide +kernel
theorem d_Law_law_500 : decode m_Law_law.2.1 500 = .ok (.ifCond .eq 5, 3) := by decide +kernel
theorem d_Law_law_503 : decode m_Law_law.2.1 503 = .ok (.iconst 0, 1) := by decide +kernel
theorem d_Law_law_504 : decode m_Law_law.2.1 504 = .ok (.ireturn, 1) := by decide +kernel
theorem d_Law_law_505 : decode m_Law_law.2.1 505 = .ok (.goto 140, 3) := by decide +kernel
theorem d_Law_law_508 : decode m_Law_law.2.1 508 = .ok (.aload_n 1, 1) := by decide +kernel
theorem d_Law_law_509 : decode m_Law_law.2.1 509 = .ok (.invokestatic 84, 3) := by decide +kernel
theorem d_Law_law_512 : decode m_Law_law.2.1 512 = .ok (.istore 5, 2) := by decide +kernel
theorem d_Law_law_514 : decode m_Law_law.2.1 514 = .ok (.aload_n 2, 1) := by decide +kernel
theorem d_Law_law_515 : decode m_Law_law.2.1 515 = .ok (.invokevirtual 87, 3) := by decide +kernel
theorem d_Law_law_518 : decode m_Law_law.2.1 518 = .ok (.aload_n 2, 1) := by decide +kernel
theorem d_Law_law_519 : decode m_Law_law.2.1 519 = .ok (.invokevirtual 63, 3) := by decide +kernel
theorem d_Law_law_522 : decode m_Law_law.2.1 522 = .ok (.iload 5, 2) := by decide +kernel
theorem d_Law_law_524 : decode m_Law_law.2.1 524 = .ok (.if_icmp .eq 5, 3) := by decide +kernel
theorem d_Law_law_527 : decode m_Law_law.2.1 527 = .ok (.iconst 0, 1) := by decide +kernel
theorem d_Law_law_528 : decode m_Law_law.2.1 528 = .ok (.ireturn, 1) := by decide +kernel
theorem d_Law_law_529 : decode m_Law_law.2.1 529 = .ok (.goto 116, 3) := by decide +kernel
theorem d_Law_law_532 : decode m_Law_law.2.1 532 = .ok (.aload_n 1, 1) := by decide +kernel
theorem d_Law_law_533 : decode m_Law_law.2.1 533 = .ok (.aload_n 3, 1) := by decide +kernel
theorem d_Law_law_534 : decode m_Law_law.2.1 534 = .ok (.invokestatic 88, 3) := by decide +kernel
theorem d_Law_law_537 : decode m_Law_law.2.1 537 = .ok (.istore 5, 2) := by decide +kernel
theorem d_Law_law_539 : decode m_Law_law.2.1 539 = .ok (.aload_n 2, 1) := by decide +kernel
theorem d_Law_law_540 : decode m_Law_law.2.1 540 = .ok (.invokevirtual 91, 3) := by decide +kernel
theorem d_Law_law_543 : decode m_Law_law.2.1 543 = .ok (.istore 6, 2) := by decide +kernel
theorem d_Law_law_545 : decode m_Law_law.2.1 545 = .ok (.aload_n 2, 1) := by decide +kernel
theorem d_Law_law_546 : decode m_Law_law.2.1 546 = .ok (.invokevirtual 63, 3) := by decide +kernel
theorem d_Law_law_549 : decode m_Law_law.2.1 549 = .ok (.iload 5, 2) := by decide +kernel
theorem d_Law_law_551 : decode m_Law_law.2.1 551 = .ok (.if_icmp .eq 5, 3) := by decide +kernel
theorem d_Law_law_554 : decode m_Law_law.2.1 554 = .ok (.iconst 0, 1) := by decide +kernel
theorem d_Law_law_555 : decode m_Law_law.2.1 555 = .ok (.ireturn, 1) := by decide +kernel
theorem d_Law_law_556 : decode m_Law_law.2.1 556 = .ok (.iload 5, 2) := by decide +kernel
theorem d_Law_law_558 : decode m_Law_law.2.1 558 = .ok (.ifCond .ne 15, 3) := by decide +kernel
theorem d_Law_law_561 : decode m_Law_law.2.1 561 = .ok (.aload_n 3, 1) := by decide +kernel
theorem d_Law_law_562 : decode m_Law_law.2.1 562 = .ok (.iconst 0, 1) := by decide +kernel
theorem d_Law_law_563 : decode m_Law_law.2.1 563 = .ok (.laload, 1) := by decide +kernel
theorem d_Law_law_564 : decode m_Law_law.2.1 564 = .ok (.iload 6, 2) := by decide +kernel
theorem d_Law_law_566 : decode m_Law_law.2.1 566 = .ok (.i2l, 1) := by decide +kernel
theorem d_Law_law_567 : decode m_Law_law.2.1 567 = .ok (.lcmp, 1) := by decide +kernel
theorem d_Law_law_568 : decode m_Law_law.2.1 568 = .ok (.ifCond .eq 5, 3) := by decide +kernel
theorem d_Law_law_571 : decode m_Law_law.2.1 571 = .ok (.iconst 0, 1) := by decide +kernel
theorem d_Law_law_572 : decode m_Law_law.2.1 572 = .ok (.ireturn, 1) := by decide +kernel
theorem d_Law_law_573 : decode m_Law_law.2.1 573 = .ok (.goto 72, 3) := by decide +kernel
theorem d_Law_law_576 : decode m_Law_law.2.1 576 = .ok (.aload_n 1, 1) := by decide +kernel
theorem d_Law_law_577 : decode m_Law_law.2.1 577 = .ok (.aload_n 3, 1) := by decide +kernel
theorem d_Law_law_578 : decode m_Law_law.2.1 578 = .ok (.invokestatic 92, 3) := by decide +kernel
theorem d_Law_law_581 : decode m_Law_law.2.1 581 = .ok (.istore 5, 2) := by decide +kernel
theorem d_Law_law_583 : decode m_Law_law.2.1 583 = .ok (.aload_n 2, 1) := by decide +kernel
theorem d_Law_law_584 : decode m_Law_law.2.1 584 = .ok (.invokevirtual 94, 3) := by decide +kernel
theorem d_Law_law_587 : decode m_Law_law.2.1 587 = .ok (.istore 6, 2) := by decide +kernel
theorem d_Law_law_589 : decode m_Law_law.2.1 589 = .ok (.aload_n 2, 1) := by decide +kernel
theorem d_Law_law_590 : decode m_Law_law.2.1 590 = .ok (.invokevirtual 63, 3) := by decide +kernel
theorem d_Law_law_593 : decode m_Law_law.2.1 593 = .ok (.iload 5, 2) := by decide +kernel
theorem d_Law_law_595 : decode m_Law_law.2.1 595 = .ok (.if_icmp .eq 5, 3) := by decide +kernel
theorem d_Law_law_598 : decode m_Law_law.2.1 598 = .ok (.iconst 0, 1) := by decide +kernel
theorem d_Law_law_599 : decode m_Law_law.2.1 599 = .ok (.ireturn, 1) := by decide +kernel
theorem d_Law_law_600 : decode m_Law_law.2.1 600 = .ok (.iload 5, 2) := by decide +kernel
theorem d_Law_law_602 : decode m_Law_law.2.1 602 = .ok (.ifCond .ne 15, 3) := by decide +kernel
theorem d_Law_law_605 : decode m_Law_law.2.1 605 = .ok (.aload_n 3, 1) := by decide +kernel
theorem d_Law_law_606 : decode m_Law_law.2.1 606 = .ok (.iconst 0, 1) := by decide +kernel
theorem d_Law_law_607 : decode m_Law_law.2.1 607 = .ok (.laload, 1) := by decide +kernel
theorem d_Law_law_608 : decode m_Law_law.2.1 608 = .ok (.iload 6, 2) := by decide +kernel
theorem d_Law_law_610 : decode m_Law_law.2.1 610 = .ok (.i2l, 1) := by decide +kernel
theorem d_Law_law_611 : decode m_Law_law.2.1 611 = .ok (.lcmp, 1) := by decide +kernel
theorem d_Law_law_612 : decode m_Law_law.2.1 612 = .ok (.ifCond .eq 5, 3) := by decide +kernel
theorem d_Law_law_615 : decode m_Law_law.2.1 615 = .ok (.iconst 0, 1) := by decide +kernel
theorem d_Law_law_616 : decode m_Law_law.2.1 616 = .ok (.ireturn, 1) := by decide +kernel
theorem d_Law_law_617 : decode m_Law_law.2.1 617 = .ok (.goto 28, 3) := by decide +kernel
theorem d_Law_law_620 : decode m_Law_law.2.1 620 = .ok (.aload_n 1, 1) := by decide +kernel
theorem d_Law_law_621 : decode m_Law_law.2.1 621 = .ok (.aload_n 0, 1) := by decide +kernel
theorem d_Law_law_622 : decode m_Law_law.2.1 622 = .ok (.iload 4, 2) := by decide +kernel
theorem d_Law_law_624 : decode m_Law_law.2.1 624 = .ok (.iconst 1, 1) := by decide +kernel
theorem d_Law_law_625 : decode m_Law_law.2.1 625 = .ok (.iadd, 1) := by decide +kernel
theorem d_Law_law_626 : decode m_Law_law.2.1 626 = .ok (.iaload, 1) := by decide +kernel
theorem d_Law_law_627 : decode m_Law_law.2.1 627 = .ok (.invokevirtual 95, 3) := by decide +kernel
theorem d_Law_law_630 : decode m_Law_law.2.1 630 = .ok (.aload_n 2, 1) := by decide +kernel
theorem d_Law_law_631 : decode m_Law_law.2.1 631 = .ok (.aload_n 0, 1) := by decide +kernel
theorem d_Law_law_632 : decode m_Law_law.2.1 632 = .ok (.iload 4, 2) := by decide +kernel
theorem d_Law_law_634 : decode m_Law_law.2.1 634 = .ok (.iconst 1, 1) := by decide +kernel
theorem d_Law_law_635 : decode m_Law_law.2.1 635 = .ok (.iadd, 1) := by decide +kernel
theorem d_Law_law_636 : decode m_Law_law.2.1 636 = .ok (.iaload, 1) := by decide +kernel
theorem d_Law_law_637 : decode m_Law_law.2.1 637 = .ok (.invokevirtual 98, 3) := by decide +kernel
theorem d_Law_law_640 : decode m_Law_law.2.1 640 = .ok (.if_icmp .eq 5, 3) := by decide +kernel
theorem d_Law_law_643 : decode m_Law_law.2.1 643 = .ok (.iconst 0, 1) := by decide +kernel
theorem d_Law_law_644 : decode m_Law_law.2.1 644 = .ok (.ireturn, 1) := by decide +kernel
theorem d_Law_law_645 : decode m_Law_law.2.1 645 = .ok (.iinc 4 4, 3) := by decide +kernel
theorem d_Law_law_648 : decode m_Law_law.2.1 648 = .ok (.goto (-625), 3) := by decide +kernel
theorem d_Law_law_651 : decode m_Law_law.2.1 651 = .ok (.iconst 1, 1) := by decide +kernel
theorem d_Law_law_652 : decode m_Law_law.2.1 652 = .ok (.ireturn, 1) := by decide +kernel
