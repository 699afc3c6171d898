theorem dX10_init_0 : decode cX10_init 0 = .ok (.aload_n 0, 1) := by decide +kernel
theorem dX10_init_1 : decode cX10_init 1 = .ok (.invokespecial 3, 3) := by decide +kernel
theorem dX10_init_4 : decode cX10_init 4 = .ok (.aload_n 0, 1) := by decide +kernel
theorem dX10_init_5 : decode cX10_init 5 = .ok (.bipush 6, 2) := by decide +kernel
theorem dX10_init_7 : decode cX10_init 7 = .ok (.newarray .int, 2) := by decide +kernel
theorem dX10_init_9 : decode cX10_init 9 = .ok (.putfield 9, 3) := by decide +kernel
theorem dX10_init_12 : decode cX10_init 12 = .ok (.aload_n 0, 1) := by decide +kernel
theorem dX10_init_13 : decode cX10_init 13 = .ok (.bipush 48, 2) := by decide +kernel
theorem dX10_init_15 : decode cX10_init 15 = .ok (.newarray .int, 2) := by decide +kernel
theorem dX10_init_17 : decode cX10_init 17 = .ok (.putfield 15, 3) := by decide +kernel
theorem dX10_init_20 : decode cX10_init 20 = .ok (.aload_n 0, 1) := by decide +kernel
theorem dX10_init_21 : decode cX10_init 21 = .ok (.bipush 16, 2) := by decide +kernel
theorem dX10_init_23 : decode cX10_init 23 = .ok (.newarray .int, 2) := by decide +kernel
theorem dX10_init_25 : decode cX10_init 25 = .ok (.putfield 18, 3) := by decide +kernel
theorem dX10_init_28 : decode cX10_init 28 = .ok (.aload_n 0, 1) := by decide +kernel
theorem dX10_init_29 : decode cX10_init 29 = .ok (.bipush 16, 2) := by decide +kernel
theorem dX10_init_31 : decode cX10_init 31 = .ok (.newarray .int, 2) := by decide +kernel
theorem dX10_init_33 : decode cX10_init 33 = .ok (.putfield 21, 3) := by decide +kernel
theorem dX10_init_36 : decode cX10_init 36 = .ok (.aload_n 0, 1) := by decide +kernel
theorem dX10_init_37 : decode cX10_init 37 = .ok (.iconst 4, 1) := by decide +kernel
theorem dX10_init_38 : decode cX10_init 38 = .ok (.newarray .int, 2) := by decide +kernel
theorem dX10_init_40 : decode cX10_init 40 = .ok (.putfield 24, 3) := by decide +kernel
theorem dX10_init_43 : decode cX10_init 43 = .ok (.aload_n 0, 1) := by decide +kernel
theorem dX10_init_44 : decode cX10_init 44 = .ok (.iconst 4, 1) := by decide +kernel
theorem dX10_init_45 : decode cX10_init 45 = .ok (.newarray .int, 2) := by decide +kernel
theorem dX10_init_47 : decode cX10_init 47 = .ok (.putfield 27, 3) := by decide +kernel
theorem dX10_init_50 : decode cX10_init 50 = .ok (.aload_n 0, 1) := by decide +kernel
theorem dX10_init_51 : decode cX10_init 51 = .ok (.bipush 6, 2) := by decide +kernel
theorem dX10_init_53 : decode cX10_init 53 = .ok (.newarray .int, 2) := by decide +kernel
theorem dX10_init_55 : decode cX10_init 55 = .ok (.putfield 30, 3) := by decide +kernel
theorem dX10_init_58 : decode cX10_init 58 = .ok (.aload_n 0, 1) := by decide +kernel
theorem dX10_init_59 : decode cX10_init 59 = .ok (.bipush 6, 2) := by decide +kernel
theorem dX10_init_61 : decode cX10_init 61 = .ok (.newarray .int, 2) := by decide +kernel
theorem dX10_init_63 : decode cX10_init 63 = .ok (.putfield 33, 3) := by decide +kernel
theorem dX10_init_66 : decode cX10_init 66 = .ok (.aload_n 0, 1) := by decide +kernel
theorem dX10_init_67 : decode cX10_init 67 = .ok (.bipush 48, 2) := by decide +kernel
theorem dX10_init_69 : decode cX10_init 69 = .ok (.newarray .boolean, 2) := by decide +kernel
theorem dX10_init_71 : decode cX10_init 71 = .ok (.putfield 36, 3) := by decide +kernel
theorem dX10_init_74 : decode cX10_init 74 = .ok (.return_, 1) := by decide +kernel
theorem dX10_stands_0 : decode cX10_stands 0 = .ok (.iconst 0, 1) := by decide +kernel
theorem dX10_stands_1 : decode cX10_stands 1 = .ok (.istore_n 3, 1) := by decide +kernel
theorem dX10_stands_2 : decode cX10_stands 2 = .ok (.iload_n 3, 1) := by decide +kernel
theorem dX10_stands_3 : decode cX10_stands 3 = .ok (.iload_n 1, 1) := by decide +kernel
theorem dX10_stands_4 : decode cX10_stands 4 = .ok (.if_icmp .ge 18, 3) := by decide +kernel
theorem dX10_stands_7 : decode cX10_stands 7 = .ok (.aload_n 0, 1) := by decide +kernel
theorem dX10_stands_8 : decode cX10_stands 8 = .ok (.iload_n 3, 1) := by decide +kernel
theorem dX10_stands_9 : decode cX10_stands 9 = .ok (.iaload, 1) := by decide +kernel
theorem dX10_stands_10 : decode cX10_stands 10 = .ok (.iload_n 2, 1) := by decide +kernel
theorem dX10_stands_11 : decode cX10_stands 11 = .ok (.if_icmp .ne 5, 3) := by decide +kernel
theorem dX10_stands_14 : decode cX10_stands 14 = .ok (.iconst 1, 1) := by decide +kernel
theorem dX10_stands_15 : decode cX10_stands 15 = .ok (.ireturn, 1) := by decide +kernel
theorem dX10_stands_16 : decode cX10_stands 16 = .ok (.iinc 3 1, 3) := by decide +kernel
theorem dX10_stands_19 : decode cX10_stands 19 = .ok (.goto (-17), 3) := by decide +kernel
theorem dX10_stands_22 : decode cX10_stands 22 = .ok (.iconst 0, 1) := by decide +kernel
theorem dX10_stands_23 : decode cX10_stands 23 = .ok (.ireturn, 1) := by decide +kernel
theorem dX11_init_0 : decode cX11_init 0 = .ok (.aload_n 0, 1) := by decide +kernel
theorem dX11_init_1 : decode cX11_init 1 = .ok (.invokespecial 3, 3) := by decide +kernel
theorem dX11_init_4 : decode cX11_init 4 = .ok (.aload_n 0, 1) := by decide +kernel
theorem dX11_init_5 : decode cX11_init 5 = .ok (.iconst (-1), 1) := by decide +kernel
theorem dX11_init_6 : decode cX11_init 6 = .ok (.putfield 9, 3) := by decide +kernel
theorem dX11_init_9 : decode cX11_init 9 = .ok (.aload_n 0, 1) := by decide +kernel
theorem dX11_init_10 : decode cX11_init 10 = .ok (.sipush 700, 3) := by decide +kernel
theorem dX11_init_13 : decode cX11_init 13 = .ok (.newarray .byte, 2) := by decide +kernel
theorem dX11_init_15 : decode cX11_init 15 = .ok (.putfield 13, 3) := by decide +kernel
theorem dX11_init_18 : decode cX11_init 18 = .ok (.aload_n 0, 1) := by decide +kernel
theorem dX11_init_19 : decode cX11_init 19 = .ok (.bipush 110, 2) := by decide +kernel
theorem dX11_init_21 : decode cX11_init 21 = .ok (.newarray .int, 2) := by decide +kernel
theorem dX11_init_23 : decode cX11_init 23 = .ok (.putfield 17, 3) := by decide +kernel
theorem dX11_init_26 : decode cX11_init 26 = .ok (.aload_n 0, 1) := by decide +kernel
theorem dX11_init_27 : decode cX11_init 27 = .ok (.bipush 110, 2) := by decide +kernel
theorem dX11_init_29 : decode cX11_init 29 = .ok (.newarray .int, 2) := by decide +kernel
theorem dX11_init_31 : decode cX11_init 31 = .ok (.putfield 21, 3) := by decide +kernel
theorem dX11_init_34 : decode cX11_init 34 = .ok (.aload_n 0, 1) := by decide +kernel
theorem dX11_init_35 : decode cX11_init 35 = .ok (.sipush 1760, 3) := by decide +kernel
theorem dX11_init_38 : decode cX11_init 38 = .ok (.newarray .int, 2) := by decide +kernel
theorem dX11_init_40 : decode cX11_init 40 = .ok (.putfield 24, 3) := by decide +kernel
theorem dX11_init_43 : decode cX11_init 43 = .ok (.aload_n 0, 1) := by decide +kernel
theorem dX11_init_44 : decode cX11_init 44 = .ok (.sipush 330, 3) := by decide +kernel
theorem dX11_init_47 : decode cX11_init 47 = .ok (.newarray .int, 2) := by decide +kernel
theorem dX11_init_49 : decode cX11_init 49 = .ok (.putfield 27, 3) := by decide +kernel
theorem dX11_init_52 : decode cX11_init 52 = .ok (.aload_n 0, 1) := by decide +kernel
theorem dX11_init_53 : decode cX11_init 53 = .ok (.bipush 24, 2) := by decide +kernel
theorem dX11_init_55 : decode cX11_init 55 = .ok (.newarray .int, 2) := by decide +kernel
theorem dX11_init_57 : decode cX11_init 57 = .ok (.putfield 30, 3) := by decide +kernel
theorem dX11_init_60 : decode cX11_init 60 = .ok (.aload_n 0, 1) := by decide +kernel
theorem dX11_init_61 : decode cX11_init 61 = .ok (.bipush 24, 2) := by decide +kernel
theorem dX11_init_63 : decode cX11_init 63 = .ok (.newarray .int, 2) := by decide +kernel
theorem dX11_init_65 : decode cX11_init 65 = .ok (.putfield 33, 3) := by decide +kernel
theorem dX11_init_68 : decode cX11_init 68 = .ok (.aload_n 0, 1) := by decide +kernel
theorem dX11_init_69 : decode cX11_init 69 = .ok (.bipush 48, 2) := by decide +kernel
theorem dX11_init_71 : decode cX11_init 71 = .ok (.newarray .int, 2) := by decide +kernel
theorem dX11_init_73 : decode cX11_init 73 = .ok (.putfield 36, 3) := by decide +kernel
theorem dX11_init_76 : decode cX11_init 76 = .ok (.aload_n 0, 1) := by decide +kernel
theorem dX11_init_77 : decode cX11_init 77 = .ok (.bipush 48, 2) := by decide +kernel
theorem dX11_init_79 : decode cX11_init 79 = .ok (.newarray .int, 2) := by decide +kernel
theorem dX11_init_81 : decode cX11_init 81 = .ok (.putfield 39, 3) := by decide +kernel
theorem dX11_init_84 : decode cX11_init 84 = .ok (.aload_n 0, 1) := by decide +kernel
theorem dX11_init_85 : decode cX11_init 85 = .ok (.iconst 4, 1) := by decide +kernel
theorem dX11_init_86 : decode cX11_init 86 = .ok (.newarray .int, 2) := by decide +kernel
theorem dX11_init_88 : decode cX11_init 88 = .ok (.putfield 42, 3) := by decide +kernel
theorem dX11_init_91 : decode cX11_init 91 = .ok (.return_, 1) := by decide +kernel
theorem dX11_thrown_0 : decode cX11_thrown 0 = .ok (.aload_n 0, 1) := by decide +kernel
theorem dX11_thrown_1 : decode cX11_thrown 1 = .ok (.getfield 45, 3) := by decide +kernel
theorem dX11_thrown_4 : decode cX11_thrown 4 = .ok (.ireturn, 1) := by decide +kernel
theorem dX11_refused_0 : decode cX11_refused 0 = .ok (.aload_n 0, 1) := by decide +kernel
theorem dX11_refused_1 : decode cX11_refused 1 = .ok (.iload_n 1, 1) := by decide +kernel
theorem dX11_refused_2 : decode cX11_refused 2 = .ok (.putfield 48, 3) := by decide +kernel
theorem dX11_refused_5 : decode cX11_refused 5 = .ok (.aload_n 0, 1) := by decide +kernel
theorem dX11_refused_6 : decode cX11_refused 6 = .ok (.iconst (-1), 1) := by decide +kernel
theorem dX11_refused_7 : decode cX11_refused 7 = .ok (.putfield 9, 3) := by decide +kernel
theorem dX11_refused_10 : decode cX11_refused 10 = .ok (.iconst (-1), 1) := by decide +kernel
theorem dX11_refused_11 : decode cX11_refused 11 = .ok (.ireturn, 1) := by decide +kernel
theorem dX11_denied_0 : decode cX11_denied 0 = .ok (.aload_n 0, 1) := by decide +kernel
theorem dX11_denied_1 : decode cX11_denied 1 = .ok (.iload_n 1, 1) := by decide +kernel
theorem dX11_denied_2 : decode cX11_denied 2 = .ok (.invokevirtual 51, 3) := by decide +kernel
theorem dX11_denied_5 : decode cX11_denied 5 = .ok (.pop, 1) := by decide +kernel
theorem dX11_denied_6 : decode cX11_denied 6 = .ok (.iconst 0, 1) := by decide +kernel
theorem dX11_denied_7 : decode cX11_denied 7 = .ok (.ireturn, 1) := by decide +kernel
theorem dX11_good_0 : decode cX11_good 0 = .ok (.aload_n 0, 1) := by decide +kernel
theorem dX11_good_1 : decode cX11_good 1 = .ok (.iconst 0, 1) := by decide +kernel
theorem dX11_good_2 : decode cX11_good 2 = .ok (.putfield 48, 3) := by decide +kernel
theorem dX11_good_5 : decode cX11_good 5 = .ok (.aload_n 0, 1) := by decide +kernel
theorem dX11_good_6 : decode cX11_good 6 = .ok (.iconst (-1), 1) := by decide +kernel
theorem dX11_good_7 : decode cX11_good 7 = .ok (.putfield 9, 3) := by decide +kernel
theorem dX11_good_10 : decode cX11_good 10 = .ok (.iload_n 1, 1) := by decide +kernel
theorem dX11_good_11 : decode cX11_good 11 = .ok (.ireturn, 1) := by decide +kernel
theorem dX11_granted_0 : decode cX11_granted 0 = .ok (.aload_n 0, 1) := by decide +kernel
theorem dX11_granted_1 : decode cX11_granted 1 = .ok (.iconst 0, 1) := by decide +kernel
theorem dX11_granted_2 : decode cX11_granted 2 = .ok (.invokevirtual 55, 3) := by decide +kernel
theorem dX11_granted_5 : decode cX11_granted 5 = .ok (.pop, 1) := by decide +kernel
theorem dX11_granted_6 : decode cX11_granted 6 = .ok (.iconst 1, 1) := by decide +kernel
theorem dX11_granted_7 : decode cX11_granted 7 = .ok (.ireturn, 1) := by decide +kernel
theorem dX11_in_0 : decode cX11_in 0 = .ok (.iload_n 0, 1) := by decide +kernel
theorem dX11_in_1 : decode cX11_in 1 = .ok (.iload_n 1, 1) := by decide +kernel
theorem dX11_in_2 : decode cX11_in 2 = .ok (.if_icmp .lt 12, 3) := by decide +kernel
theorem dX11_in_5 : decode cX11_in 5 = .ok (.iload_n 0, 1) := by decide +kernel
theorem dX11_in_6 : decode cX11_in 6 = .ok (.iload_n 2, 1) := by decide +kernel
theorem dX11_in_7 : decode cX11_in 7 = .ok (.if_icmp .gt 7, 3) := by decide +kernel
theorem dX11_in_10 : decode cX11_in 10 = .ok (.iconst 1, 1) := by decide +kernel
theorem dX11_in_11 : decode cX11_in 11 = .ok (.goto 4, 3) := by decide +kernel
theorem dX11_in_14 : decode cX11_in 14 = .ok (.iconst 0, 1) := by decide +kernel
theorem dX11_in_15 : decode cX11_in 15 = .ok (.ireturn, 1) := by decide +kernel
theorem dX11_bit_0 : decode cX11_bit 0 = .ok (.iload_n 0, 1) := by decide +kernel
theorem dX11_bit_1 : decode cX11_bit 1 = .ok (.iload_n 1, 1) := by decide +kernel
theorem dX11_bit_2 : decode cX11_bit 2 = .ok (.ishr, 1) := by decide +kernel
theorem dX11_bit_3 : decode cX11_bit 3 = .ok (.iconst 1, 1) := by decide +kernel
theorem dX11_bit_4 : decode cX11_bit 4 = .ok (.iand, 1) := by decide +kernel
theorem dX11_bit_5 : decode cX11_bit 5 = .ok (.iconst 1, 1) := by decide +kernel
theorem dX11_bit_6 : decode cX11_bit 6 = .ok (.if_icmp .ne 7, 3) := by decide +kernel
theorem dX11_bit_9 : decode cX11_bit 9 = .ok (.iconst 1, 1) := by decide +kernel
theorem dX11_bit_10 : decode cX11_bit 10 = .ok (.goto 4, 3) := by decide +kernel
theorem dX11_bit_13 : decode cX11_bit 13 = .ok (.iconst 0, 1) := by decide +kernel
theorem dX11_bit_14 : decode cX11_bit 14 = .ok (.ireturn, 1) := by decide +kernel
theorem dX11_common_0 : decode cX11_common 0 = .ok (.lload_n 0, 1) := by decide +kernel
theorem dX11_common_1 : decode cX11_common 1 = .ok (.lstore 4, 2) := by decide +kernel
theorem dX11_common_3 : decode cX11_common 3 = .ok (.lload_n 2, 1) := by decide +kernel
theorem dX11_common_4 : decode cX11_common 4 = .ok (.lstore 6, 2) := by decide +kernel
theorem dX11_common_6 : decode cX11_common 6 = .ok (.lload 6, 2) := by decide +kernel
theorem dX11_common_8 : decode cX11_common 8 = .ok (.lconst 0, 1) := by decide +kernel
theorem dX11_common_9 : decode cX11_common 9 = .ok (.lcmp, 1) := by decide +kernel
theorem dX11_common_10 : decode cX11_common 10 = .ok (.ifCond .eq 21, 3) := by decide +kernel
theorem dX11_common_13 : decode cX11_common 13 = .ok (.lload 4, 2) := by decide +kernel
theorem dX11_common_15 : decode cX11_common 15 = .ok (.lload 6, 2) := by decide +kernel
theorem dX11_common_17 : decode cX11_common 17 = .ok (.lrem, 1) := by decide +kernel
theorem dX11_common_18 : decode cX11_common 18 = .ok (.lstore 8, 2) := by decide +kernel
theorem dX11_common_20 : decode cX11_common 20 = .ok (.lload 6, 2) := by decide +kernel
theorem dX11_common_22 : decode cX11_common 22 = .ok (.lstore 4, 2) := by decide +kernel
theorem dX11_common_24 : decode cX11_common 24 = .ok (.lload 8, 2) := by decide +kernel
theorem dX11_common_26 : decode cX11_common 26 = .ok (.lstore 6, 2) := by decide +kernel
theorem dX11_common_28 : decode cX11_common 28 = .ok (.goto (-22), 3) := by decide +kernel
theorem dX11_common_31 : decode cX11_common 31 = .ok (.lload 4, 2) := by decide +kernel
theorem dX11_common_33 : decode cX11_common 33 = .ok (.lreturn, 1) := by decide +kernel
theorem dX11_fraction_0 : decode cX11_fraction 0 = .ok (.aload_n 0, 1) := by decide +kernel
theorem dX11_fraction_1 : decode cX11_fraction 1 = .ok (.iconst 0, 1) := by decide +kernel
theorem dX11_fraction_2 : decode cX11_fraction 2 = .ok (.invokevirtual 55, 3) := by decide +kernel
theorem dX11_fraction_5 : decode cX11_fraction 5 = .ok (.pop, 1) := by decide +kernel
theorem dX11_fraction_6 : decode cX11_fraction 6 = .ok (.iload 5, 2) := by decide +kernel
theorem dX11_fraction_8 : decode cX11_fraction 8 = .ok (.ifCond .eq 7, 3) := by decide +kernel
theorem dX11_fraction_11 : decode cX11_fraction 11 = .ok (.lload_n 3, 1) := by decide +kernel
theorem dX11_fraction_12 : decode cX11_fraction 12 = .ok (.goto 4, 3) := by decide +kernel
theorem dX11_fraction_15 : decode cX11_fraction 15 = .ok (.lload_n 1, 1) := by decide +kernel
theorem dX11_fraction_16 : decode cX11_fraction 16 = .ok (.lload_n 1, 1) := by decide +kernel
theorem dX11_fraction_17 : decode cX11_fraction 17 = .ok (.lload_n 3, 1) := by decide +kernel
theorem dX11_fraction_18 : decode cX11_fraction 18 = .ok (.invokestatic 58, 3) := by decide +kernel
theorem dX11_fraction_21 : decode cX11_fraction 21 = .ok (.ldiv, 1) := by decide +kernel
theorem dX11_fraction_22 : decode cX11_fraction 22 = .ok (.lreturn, 1) := by decide +kernel
theorem dX11_byteAt_0 : decode cX11_byteAt 0 = .ok (.iload_n 1, 1) := by decide +kernel
theorem dX11_byteAt_1 : decode cX11_byteAt 1 = .ok (.aload_n 0, 1) := by decide +kernel
theorem dX11_byteAt_2 : decode cX11_byteAt 2 = .ok (.getfield 62, 3) := by decide +kernel
theorem dX11_byteAt_5 : decode cX11_byteAt 5 = .ok (.if_icmp .ge 16, 3) := by decide +kernel
theorem dX11_byteAt_8 : decode cX11_byteAt 8 = .ok (.aload_n 0, 1) := by decide +kernel
theorem dX11_byteAt_9 : decode cX11_byteAt 9 = .ok (.getfield 13, 3) := by decide +kernel
theorem dX11_byteAt_12 : decode cX11_byteAt 12 = .ok (.iload_n 1, 1) := by decide +kernel
theorem dX11_byteAt_13 : decode cX11_byteAt 13 = .ok (.baload, 1) := by decide +kernel
theorem dX11_byteAt_14 : decode cX11_byteAt 14 = .ok (.sipush 255, 3) := by decide +kernel
theorem dX11_byteAt_17 : decode cX11_byteAt 17 = .ok (.iand, 1) := by decide +kernel
theorem dX11_byteAt_18 : decode cX11_byteAt 18 = .ok (.goto 4, 3) := by decide +kernel
theorem dX11_byteAt_21 : decode cX11_byteAt 21 = .ok (.iconst (-1), 1) := by decide +kernel
theorem dX11_byteAt_22 : decode cX11_byteAt 22 = .ok (.ireturn, 1) := by decide +kernel
theorem dX11_isLetter_0 : decode cX11_isLetter 0 = .ok (.iload_n 0, 1) := by decide +kernel
theorem dX11_isLetter_1 : decode cX11_isLetter 1 = .ok (.bipush 97, 2) := by decide +kernel
theorem dX11_isLetter_3 : decode cX11_isLetter 3 = .ok (.if_icmp .lt 13, 3) := by decide +kernel
theorem dX11_isLetter_6 : decode cX11_isLetter 6 = .ok (.iload_n 0, 1) := by decide +kernel
theorem dX11_isLetter_7 : decode cX11_isLetter 7 = .ok (.bipush 122, 2) := by decide +kernel
theorem dX11_isLetter_9 : decode cX11_isLetter 9 = .ok (.if_icmp .gt 7, 3) := by decide +kernel
theorem dX11_isLetter_12 : decode cX11_isLetter 12 = .ok (.iconst 1, 1) := by decide +kernel
theorem dX11_isLetter_13 : decode cX11_isLetter 13 = .ok (.goto 4, 3) := by decide +kernel
theorem dX11_isLetter_16 : decode cX11_isLetter 16 = .ok (.iconst 0, 1) := by decide +kernel
theorem dX11_isLetter_17 : decode cX11_isLetter 17 = .ok (.ireturn, 1) := by decide +kernel
theorem dX11_isDigit_0 : decode cX11_isDigit 0 = .ok (.iload_n 0, 1) := by decide +kernel
theorem dX11_isDigit_1 : decode cX11_isDigit 1 = .ok (.bipush 48, 2) := by decide +kernel
theorem dX11_isDigit_3 : decode cX11_isDigit 3 = .ok (.if_icmp .lt 13, 3) := by decide +kernel
theorem dX11_isDigit_6 : decode cX11_isDigit 6 = .ok (.iload_n 0, 1) := by decide +kernel
theorem dX11_isDigit_7 : decode cX11_isDigit 7 = .ok (.bipush 57, 2) := by decide +kernel
theorem dX11_isDigit_9 : decode cX11_isDigit 9 = .ok (.if_icmp .gt 7, 3) := by decide +kernel
theorem dX11_isDigit_12 : decode cX11_isDigit 12 = .ok (.iconst 1, 1) := by decide +kernel
theorem dX11_isDigit_13 : decode cX11_isDigit 13 = .ok (.goto 4, 3) := by decide +kernel
theorem dX11_isDigit_16 : decode cX11_isDigit 16 = .ok (.iconst 0, 1) := by decide +kernel
theorem dX11_isDigit_17 : decode cX11_isDigit 17 = .ok (.ireturn, 1) := by decide +kernel
theorem dX11_packed_0 : decode cX11_packed 0 = .ok (.lconst 0, 1) := by decide +kernel
theorem dX11_packed_1 : decode cX11_packed 1 = .ok (.lstore_n 1, 1) := by decide +kernel
theorem dX11_packed_2 : decode cX11_packed 2 = .ok (.iconst 0, 1) := by decide +kernel
theorem dX11_packed_3 : decode cX11_packed 3 = .ok (.istore_n 3, 1) := by decide +kernel
theorem dX11_packed_4 : decode cX11_packed 4 = .ok (.iload_n 3, 1) := by decide +kernel
theorem dX11_packed_5 : decode cX11_packed 5 = .ok (.aload_n 0, 1) := by decide +kernel
theorem dX11_packed_6 : decode cX11_packed 6 = .ok (.invokevirtual 65, 3) := by decide +kernel
theorem dX11_packed_9 : decode cX11_packed 9 = .ok (.if_icmp .ge 27, 3) := by decide +kernel
theorem dX11_packed_12 : decode cX11_packed 12 = .ok (.ldc2_w 71, 3) := by decide +kernel
theorem dX11_packed_15 : decode cX11_packed 15 = .ok (.lload_n 1, 1) := by decide +kernel
theorem dX11_packed_16 : decode cX11_packed 16 = .ok (.lmul, 1) := by decide +kernel
theorem dX11_packed_17 : decode cX11_packed 17 = .ok (.aload_n 0, 1) := by decide +kernel
theorem dX11_packed_18 : decode cX11_packed 18 = .ok (.iload_n 3, 1) := by decide +kernel
theorem dX11_packed_19 : decode cX11_packed 19 = .ok (.invokevirtual 73, 3) := by decide +kernel
theorem dX11_packed_22 : decode cX11_packed 22 = .ok (.bipush 97, 2) := by decide +kernel
theorem dX11_packed_24 : decode cX11_packed 24 = .ok (.isub, 1) := by decide +kernel
theorem dX11_packed_25 : decode cX11_packed 25 = .ok (.iconst 1, 1) := by decide +kernel
theorem dX11_packed_26 : decode cX11_packed 26 = .ok (.iadd, 1) := by decide +kernel
theorem dX11_packed_27 : decode cX11_packed 27 = .ok (.i2l, 1) := by decide +kernel
theorem dX11_packed_28 : decode cX11_packed 28 = .ok (.ladd, 1) := by decide +kernel
theorem dX11_packed_29 : decode cX11_packed 29 = .ok (.lstore_n 1, 1) := by decide +kernel
theorem dX11_packed_30 : decode cX11_packed 30 = .ok (.iinc 3 1, 3) := by decide +kernel
theorem dX11_packed_33 : decode cX11_packed 33 = .ok (.goto (-29), 3) := by decide +kernel
theorem dX11_packed_36 : decode cX11_packed 36 = .ok (.lload_n 1, 1) := by decide +kernel
theorem dX11_packed_37 : decode cX11_packed 37 = .ok (.lreturn, 1) := by decide +kernel
theorem dX11_goesOn_0 : decode cX11_goesOn 0 = .ok (.aload_n 0, 1) := by decide +kernel
theorem dX11_goesOn_1 : decode cX11_goesOn 1 = .ok (.getfield 77, 3) := by decide +kernel
theorem dX11_goesOn_4 : decode cX11_goesOn 4 = .ok (.iconst 5, 1) := by decide +kernel
theorem dX11_goesOn_5 : decode cX11_goesOn 5 = .ok (.if_icmp .ne 4, 3) := by decide +kernel
theorem dX11_goesOn_8 : decode cX11_goesOn 8 = .ok (.return_, 1) := by decide +kernel
theorem dX11_goesOn_9 : decode cX11_goesOn 9 = .ok (.aload_n 0, 1) := by decide +kernel
theorem dX11_goesOn_10 : decode cX11_goesOn 10 = .ok (.aload_n 0, 1) := by decide +kernel
theorem dX11_goesOn_11 : decode cX11_goesOn 11 = .ok (.getfield 80, 3) := by decide +kernel
theorem dX11_goesOn_14 : decode cX11_goesOn 14 = .ok (.invokevirtual 83, 3) := by decide +kernel
theorem dX11_goesOn_17 : decode cX11_goesOn 17 = .ok (.bipush 32, 2) := by decide +kernel
theorem dX11_goesOn_19 : decode cX11_goesOn 19 = .ok (.if_icmp .ne 16, 3) := by decide +kernel
theorem dX11_goesOn_22 : decode cX11_goesOn 22 = .ok (.aload_n 0, 1) := by decide +kernel
theorem dX11_goesOn_23 : decode cX11_goesOn 23 = .ok (.dup, 1) := by decide +kernel
theorem dX11_goesOn_24 : decode cX11_goesOn 24 = .ok (.getfield 80, 3) := by decide +kernel
theorem dX11_goesOn_27 : decode cX11_goesOn 27 = .ok (.iconst 1, 1) := by decide +kernel
theorem dX11_goesOn_28 : decode cX11_goesOn 28 = .ok (.iadd, 1) := by decide +kernel
theorem dX11_goesOn_29 : decode cX11_goesOn 29 = .ok (.putfield 80, 3) := by decide +kernel
theorem dX11_goesOn_32 : decode cX11_goesOn 32 = .ok (.goto (-23), 3) := by decide +kernel
theorem dX11_goesOn_35 : decode cX11_goesOn 35 = .ok (.aload_n 0, 1) := by decide +kernel
theorem dX11_goesOn_36 : decode cX11_goesOn 36 = .ok (.aload_n 0, 1) := by decide +kernel
theorem dX11_goesOn_37 : decode cX11_goesOn 37 = .ok (.getfield 80, 3) := by decide +kernel
theorem dX11_goesOn_40 : decode cX11_goesOn 40 = .ok (.putfield 86, 3) := by decide +kernel
theorem dX11_goesOn_43 : decode cX11_goesOn 43 = .ok (.aload_n 0, 1) := by decide +kernel
theorem dX11_goesOn_44 : decode cX11_goesOn 44 = .ok (.iconst 0, 1) := by decide +kernel
theorem dX11_goesOn_45 : decode cX11_goesOn 45 = .ok (.putfield 77, 3) := by decide +kernel
theorem dX11_goesOn_48 : decode cX11_goesOn 48 = .ok (.aload_n 0, 1) := by decide +kernel
theorem dX11_goesOn_49 : decode cX11_goesOn 49 = .ok (.aload_n 0, 1) := by decide +kernel
theorem dX11_goesOn_50 : decode cX11_goesOn 50 = .ok (.getfield 80, 3) := by decide +kernel
theorem dX11_goesOn_53 : decode cX11_goesOn 53 = .ok (.invokevirtual 83, 3) := by decide +kernel
theorem dX11_goesOn_56 : decode cX11_goesOn 56 = .ok (.istore_n 1, 1) := by decide +kernel
theorem dX11_goesOn_57 : decode cX11_goesOn 57 = .ok (.iconst 0, 1) := by decide +kernel
theorem dX11_goesOn_58 : decode cX11_goesOn 58 = .ok (.istore_n 2, 1) := by decide +kernel
theorem dX11_goesOn_59 : decode cX11_goesOn 59 = .ok (.iload_n 1, 1) := by decide +kernel
theorem dX11_goesOn_60 : decode cX11_goesOn 60 = .ok (.iconst (-1), 1) := by decide +kernel
theorem dX11_goesOn_61 : decode cX11_goesOn 61 = .ok (.if_icmp .ne 11, 3) := by decide +kernel
theorem dX11_goesOn_64 : decode cX11_goesOn 64 = .ok (.aload_n 0, 1) := by decide +kernel
theorem dX11_goesOn_65 : decode cX11_goesOn 65 = .ok (.iconst 1, 1) := by decide +kernel
theorem dX11_goesOn_66 : decode cX11_goesOn 66 = .ok (.putfield 77, 3) := by decide +kernel
theorem dX11_goesOn_69 : decode cX11_goesOn 69 = .ok (.goto 196, 3) := by decide +kernel
theorem dX11_goesOn_72 : decode cX11_goesOn 72 = .ok (.iload_n 1, 1) := by decide +kernel
theorem dX11_goesOn_73 : decode cX11_goesOn 73 = .ok (.invokestatic 89, 3) := by decide +kernel
theorem dX11_goesOn_76 : decode cX11_goesOn 76 = .ok (.ifCond .eq 85, 3) := by decide +kernel
theorem dX11_goesOn_79 : decode cX11_goesOn 79 = .ok (.aload_n 0, 1) := by decide +kernel
theorem dX11_goesOn_80 : decode cX11_goesOn 80 = .ok (.lconst 0, 1) := by decide +kernel
theorem dX11_goesOn_81 : decode cX11_goesOn 81 = .ok (.putfield 93, 3) := by decide +kernel
theorem dX11_goesOn_84 : decode cX11_goesOn 84 = .ok (.aload_n 0, 1) := by decide +kernel
theorem dX11_goesOn_85 : decode cX11_goesOn 85 = .ok (.aload_n 0, 1) := by decide +kernel
theorem dX11_goesOn_86 : decode cX11_goesOn 86 = .ok (.getfield 80, 3) := by decide +kernel
theorem dX11_goesOn_89 : decode cX11_goesOn 89 = .ok (.invokevirtual 83, 3) := by decide +kernel
theorem dX11_goesOn_92 : decode cX11_goesOn 92 = .ok (.invokestatic 89, 3) := by decide +kernel
theorem dX11_goesOn_95 : decode cX11_goesOn 95 = .ok (.ifCond .eq 52, 3) := by decide +kernel
theorem dX11_goesOn_98 : decode cX11_goesOn 98 = .ok (.iload_n 2, 1) := by decide +kernel
theorem dX11_goesOn_99 : decode cX11_goesOn 99 = .ok (.bipush 8, 2) := by decide +kernel
theorem dX11_goesOn_101 : decode cX11_goesOn 101 = .ok (.if_icmp .ge 30, 3) := by decide +kernel
theorem dX11_goesOn_104 : decode cX11_goesOn 104 = .ok (.aload_n 0, 1) := by decide +kernel
theorem dX11_goesOn_105 : decode cX11_goesOn 105 = .ok (.ldc2_w 71, 3) := by decide +kernel
theorem dX11_goesOn_108 : decode cX11_goesOn 108 = .ok (.aload_n 0, 1) := by decide +kernel
theorem dX11_goesOn_109 : decode cX11_goesOn 109 = .ok (.getfield 93, 3) := by decide +kernel
theorem dX11_goesOn_112 : decode cX11_goesOn 112 = .ok (.lmul, 1) := by decide +kernel
theorem dX11_goesOn_113 : decode cX11_goesOn 113 = .ok (.aload_n 0, 1) := by decide +kernel
theorem dX11_goesOn_114 : decode cX11_goesOn 114 = .ok (.aload_n 0, 1) := by decide +kernel
theorem dX11_goesOn_115 : decode cX11_goesOn 115 = .ok (.getfield 80, 3) := by decide +kernel
theorem dX11_goesOn_118 : decode cX11_goesOn 118 = .ok (.invokevirtual 83, 3) := by decide +kernel
theorem dX11_goesOn_121 : decode cX11_goesOn 121 = .ok (.bipush 97, 2) := by decide +kernel
theorem dX11_goesOn_123 : decode cX11_goesOn 123 = .ok (.isub, 1) := by decide +kernel
theorem dX11_goesOn_124 : decode cX11_goesOn 124 = .ok (.iconst 1, 1) := by decide +kernel
theorem dX11_goesOn_125 : decode cX11_goesOn 125 = .ok (.iadd, 1) := by decide +kernel
theorem dX11_goesOn_126 : decode cX11_goesOn 126 = .ok (.i2l, 1) := by decide +kernel
theorem dX11_goesOn_127 : decode cX11_goesOn 127 = .ok (.ladd, 1) := by decide +kernel
theorem dX11_goesOn_128 : decode cX11_goesOn 128 = .ok (.putfield 93, 3) := by decide +kernel
theorem dX11_goesOn_131 : decode cX11_goesOn 131 = .ok (.iinc 2 1, 3) := by decide +kernel
theorem dX11_goesOn_134 : decode cX11_goesOn 134 = .ok (.aload_n 0, 1) := by decide +kernel
theorem dX11_goesOn_135 : decode cX11_goesOn 135 = .ok (.dup, 1) := by decide +kernel
theorem dX11_goesOn_136 : decode cX11_goesOn 136 = .ok (.getfield 80, 3) := by decide +kernel
theorem dX11_goesOn_139 : decode cX11_goesOn 139 = .ok (.iconst 1, 1) := by decide +kernel
theorem dX11_goesOn_140 : decode cX11_goesOn 140 = .ok (.iadd, 1) := by decide +kernel
theorem dX11_goesOn_141 : decode cX11_goesOn 141 = .ok (.putfield 80, 3) := by decide +kernel
theorem dX11_goesOn_144 : decode cX11_goesOn 144 = .ok (.goto (-60), 3) := by decide +kernel
theorem dX11_goesOn_147 : decode cX11_goesOn 147 = .ok (.iload_n 2, 1) := by decide +kernel
theorem dX11_goesOn_148 : decode cX11_goesOn 148 = .ok (.bipush 8, 2) := by decide +kernel
theorem dX11_goesOn_150 : decode cX11_goesOn 150 = .ok (.if_icmp .gt 115, 3) := by decide +kernel
theorem dX11_goesOn_153 : decode cX11_goesOn 153 = .ok (.aload_n 0, 1) := by decide +kernel
theorem dX11_goesOn_154 : decode cX11_goesOn 154 = .ok (.iconst 2, 1) := by decide +kernel
theorem dX11_goesOn_155 : decode cX11_goesOn 155 = .ok (.putfield 77, 3) := by decide +kernel
theorem dX11_goesOn_158 : decode cX11_goesOn 158 = .ok (.goto 107, 3) := by decide +kernel
theorem dX11_goesOn_161 : decode cX11_goesOn 161 = .ok (.iload_n 1, 1) := by decide +kernel
theorem dX11_goesOn_162 : decode cX11_goesOn 162 = .ok (.invokestatic 97, 3) := by decide +kernel
theorem dX11_goesOn_165 : decode cX11_goesOn 165 = .ok (.ifCond .eq 79, 3) := by decide +kernel
theorem dX11_goesOn_168 : decode cX11_goesOn 168 = .ok (.aload_n 0, 1) := by decide +kernel
theorem dX11_goesOn_169 : decode cX11_goesOn 169 = .ok (.iconst 0, 1) := by decide +kernel
theorem dX11_goesOn_170 : decode cX11_goesOn 170 = .ok (.putfield 100, 3) := by decide +kernel
theorem dX11_goesOn_173 : decode cX11_goesOn 173 = .ok (.aload_n 0, 1) := by decide +kernel
theorem dX11_goesOn_174 : decode cX11_goesOn 174 = .ok (.aload_n 0, 1) := by decide +kernel
theorem dX11_goesOn_175 : decode cX11_goesOn 175 = .ok (.getfield 80, 3) := by decide +kernel
theorem dX11_goesOn_178 : decode cX11_goesOn 178 = .ok (.invokevirtual 83, 3) := by decide +kernel
theorem dX11_goesOn_181 : decode cX11_goesOn 181 = .ok (.invokestatic 97, 3) := by decide +kernel
theorem dX11_goesOn_184 : decode cX11_goesOn 184 = .ok (.ifCond .eq 47, 3) := by decide +kernel
theorem dX11_goesOn_187 : decode cX11_goesOn 187 = .ok (.iload_n 2, 1) := by decide +kernel
theorem dX11_goesOn_188 : decode cX11_goesOn 188 = .ok (.iconst 4, 1) := by decide +kernel
theorem dX11_goesOn_189 : decode cX11_goesOn 189 = .ok (.if_icmp .ge 26, 3) := by decide +kernel
theorem dX11_goesOn_192 : decode cX11_goesOn 192 = .ok (.aload_n 0, 1) := by decide +kernel
theorem dX11_goesOn_193 : decode cX11_goesOn 193 = .ok (.bipush 10, 2) := by decide +kernel
theorem dX11_goesOn_195 : decode cX11_goesOn 195 = .ok (.aload_n 0, 1) := by decide +kernel
theorem dX11_goesOn_196 : decode cX11_goesOn 196 = .ok (.getfield 100, 3) := by decide +kernel
theorem dX11_goesOn_199 : decode cX11_goesOn 199 = .ok (.imul, 1) := by decide +kernel
theorem dX11_goesOn_200 : decode cX11_goesOn 200 = .ok (.aload_n 0, 1) := by decide +kernel
theorem dX11_goesOn_201 : decode cX11_goesOn 201 = .ok (.aload_n 0, 1) := by decide +kernel
theorem dX11_goesOn_202 : decode cX11_goesOn 202 = .ok (.getfield 80, 3) := by decide +kernel
theorem dX11_goesOn_205 : decode cX11_goesOn 205 = .ok (.invokevirtual 83, 3) := by decide +kernel
theorem dX11_goesOn_208 : decode cX11_goesOn 208 = .ok (.iadd, 1) := by decide +kernel
theorem dX11_goesOn_209 : decode cX11_goesOn 209 = .ok (.bipush 48, 2) := by decide +kernel
theorem dX11_goesOn_211 : decode cX11_goesOn 211 = .ok (.isub, 1) := by decide +kernel
theorem dX11_goesOn_212 : decode cX11_goesOn 212 = .ok (.putfield 100, 3) := by decide +kernel
theorem dX11_goesOn_215 : decode cX11_goesOn 215 = .ok (.iinc 2 1, 3) := by decide +kernel
theorem dX11_goesOn_218 : decode cX11_goesOn 218 = .ok (.aload_n 0, 1) := by decide +kernel
theorem dX11_goesOn_219 : decode cX11_goesOn 219 = .ok (.dup, 1) := by decide +kernel
theorem dX11_goesOn_220 : decode cX11_goesOn 220 = .ok (.getfield 80, 3) := by decide +kernel
theorem dX11_goesOn_223 : decode cX11_goesOn 223 = .ok (.iconst 1, 1) := by decide +kernel
theorem dX11_goesOn_224 : decode cX11_goesOn 224 = .ok (.iadd, 1) := by decide +kernel
theorem dX11_goesOn_225 : decode cX11_goesOn 225 = .ok (.putfield 80, 3) := by decide +kernel
theorem dX11_goesOn_228 : decode cX11_goesOn 228 = .ok (.goto (-55), 3) := by decide +kernel
theorem dX11_goesOn_231 : decode cX11_goesOn 231 = .ok (.iload_n 2, 1) := by decide +kernel
theorem dX11_goesOn_232 : decode cX11_goesOn 232 = .ok (.iconst 4, 1) := by decide +kernel
theorem dX11_goesOn_233 : decode cX11_goesOn 233 = .ok (.if_icmp .gt 32, 3) := by decide +kernel
theorem dX11_goesOn_236 : decode cX11_goesOn 236 = .ok (.aload_n 0, 1) := by decide +kernel
theorem dX11_goesOn_237 : decode cX11_goesOn 237 = .ok (.iconst 3, 1) := by decide +kernel
theorem dX11_goesOn_238 : decode cX11_goesOn 238 = .ok (.putfield 77, 3) := by decide +kernel
theorem dX11_goesOn_241 : decode cX11_goesOn 241 = .ok (.goto 24, 3) := by decide +kernel
theorem dX11_goesOn_244 : decode cX11_goesOn 244 = .ok (.iload_n 1, 1) := by decide +kernel
theorem dX11_goesOn_245 : decode cX11_goesOn 245 = .ok (.bipush 59, 2) := by decide +kernel
theorem dX11_goesOn_247 : decode cX11_goesOn 247 = .ok (.if_icmp .ne 18, 3) := by decide +kernel
theorem dX11_goesOn_250 : decode cX11_goesOn 250 = .ok (.aload_n 0, 1) := by decide +kernel
theorem dX11_goesOn_251 : decode cX11_goesOn 251 = .ok (.iconst 4, 1) := by decide +kernel
theorem dX11_goesOn_252 : decode cX11_goesOn 252 = .ok (.putfield 77, 3) := by decide +kernel
theorem dX11_goesOn_255 : decode cX11_goesOn 255 = .ok (.aload_n 0, 1) := by decide +kernel
theorem dX11_goesOn_256 : decode cX11_goesOn 256 = .ok (.dup, 1) := by decide +kernel
theorem dX11_goesOn_257 : decode cX11_goesOn 257 = .ok (.getfield 80, 3) := by decide +kernel
theorem dX11_goesOn_260 : decode cX11_goesOn 260 = .ok (.iconst 1, 1) := by decide +kernel
theorem dX11_goesOn_261 : decode cX11_goesOn 261 = .ok (.iadd, 1) := by decide +kernel
theorem dX11_goesOn_262 : decode cX11_goesOn 262 = .ok (.putfield 80, 3) := by decide +kernel
theorem dX11_goesOn_265 : decode cX11_goesOn 265 = .ok (.return_, 1) := by decide +kernel
theorem dX11_flaw_0 : decode cX11_flaw 0 = .ok (.aload_n 0, 1) := by decide +kernel
theorem dX11_flaw_1 : decode cX11_flaw 1 = .ok (.getfield 77, 3) := by decide +kernel
theorem dX11_flaw_4 : decode cX11_flaw 4 = .ok (.iconst 5, 1) := by decide +kernel
theorem dX11_flaw_5 : decode cX11_flaw 5 = .ok (.if_icmp .ne 4, 3) := by decide +kernel
theorem dX11_flaw_8 : decode cX11_flaw 8 = .ok (.return_, 1) := by decide +kernel
theorem dX11_flaw_9 : decode cX11_flaw 9 = .ok (.aload_n 0, 1) := by decide +kernel
theorem dX11_flaw_10 : decode cX11_flaw 10 = .ok (.iload_n 1, 1) := by decide +kernel
theorem dX11_flaw_11 : decode cX11_flaw 11 = .ok (.putfield 103, 3) := by decide +kernel
theorem dX11_flaw_14 : decode cX11_flaw 14 = .ok (.aload_n 0, 1) := by decide +kernel
theorem dX11_flaw_15 : decode cX11_flaw 15 = .ok (.aload_n 0, 1) := by decide +kernel
theorem dX11_flaw_16 : decode cX11_flaw 16 = .ok (.getfield 86, 3) := by decide +kernel
theorem dX11_flaw_19 : decode cX11_flaw 19 = .ok (.putfield 106, 3) := by decide +kernel
theorem dX11_flaw_22 : decode cX11_flaw 22 = .ok (.aload_n 0, 1) := by decide +kernel
theorem dX11_flaw_23 : decode cX11_flaw 23 = .ok (.iconst 5, 1) := by decide +kernel
theorem dX11_flaw_24 : decode cX11_flaw 24 = .ok (.putfield 77, 3) := by decide +kernel
theorem dX11_flaw_27 : decode cX11_flaw 27 = .ok (.return_, 1) := by decide +kernel
theorem dX11_isWord_0 : decode cX11_isWord 0 = .ok (.aload_n 0, 1) := by decide +kernel
theorem dX11_isWord_1 : decode cX11_isWord 1 = .ok (.getfield 77, 3) := by decide +kernel
theorem dX11_isWord_4 : decode cX11_isWord 4 = .ok (.iconst 2, 1) := by decide +kernel
theorem dX11_isWord_5 : decode cX11_isWord 5 = .ok (.if_icmp .ne 19, 3) := by decide +kernel
theorem dX11_isWord_8 : decode cX11_isWord 8 = .ok (.aload_n 0, 1) := by decide +kernel
theorem dX11_isWord_9 : decode cX11_isWord 9 = .ok (.getfield 93, 3) := by decide +kernel
theorem dX11_isWord_12 : decode cX11_isWord 12 = .ok (.aload_n 1, 1) := by decide +kernel
theorem dX11_isWord_13 : decode cX11_isWord 13 = .ok (.invokestatic 109, 3) := by decide +kernel
theorem dX11_isWord_16 : decode cX11_isWord 16 = .ok (.lcmp, 1) := by decide +kernel
theorem dX11_isWord_17 : decode cX11_isWord 17 = .ok (.ifCond .ne 7, 3) := by decide +kernel
theorem dX11_isWord_20 : decode cX11_isWord 20 = .ok (.iconst 1, 1) := by decide +kernel
theorem dX11_isWord_21 : decode cX11_isWord 21 = .ok (.goto 4, 3) := by decide +kernel
theorem dX11_isWord_24 : decode cX11_isWord 24 = .ok (.iconst 0, 1) := by decide +kernel
theorem dX11_isWord_25 : decode cX11_isWord 25 = .ok (.ireturn, 1) := by decide +kernel
theorem dX11_eatsSemicolon_0 : decode cX11_eatsSemicolon 0 = .ok (.aload_n 0, 1) := by decide +kernel
theorem dX11_eatsSemicolon_1 : decode cX11_eatsSemicolon 1 = .ok (.getfield 77, 3) := by decide +kernel
theorem dX11_eatsSemicolon_4 : decode cX11_eatsSemicolon 4 = .ok (.iconst 4, 1) := by decide +kernel
theorem dX11_eatsSemicolon_5 : decode cX11_eatsSemicolon 5 = .ok (.if_icmp .ne 7, 3) := by decide +kernel
theorem dX11_eatsSemicolon_8 : decode cX11_eatsSemicolon 8 = .ok (.iconst 1, 1) := by decide +kernel
theorem dX11_eatsSemicolon_9 : decode cX11_eatsSemicolon 9 = .ok (.goto 4, 3) := by decide +kernel
theorem dX11_eatsSemicolon_12 : decode cX11_eatsSemicolon 12 = .ok (.iconst 0, 1) := by decide +kernel
theorem dX11_eatsSemicolon_13 : decode cX11_eatsSemicolon 13 = .ok (.istore_n 1, 1) := by decide +kernel
theorem dX11_eatsSemicolon_14 : decode cX11_eatsSemicolon 14 = .ok (.iload_n 1, 1) := by decide +kernel
theorem dX11_eatsSemicolon_15 : decode cX11_eatsSemicolon 15 = .ok (.ifCond .eq 7, 3) := by decide +kernel
theorem dX11_eatsSemicolon_18 : decode cX11_eatsSemicolon 18 = .ok (.aload_n 0, 1) := by decide +kernel
theorem dX11_eatsSemicolon_19 : decode cX11_eatsSemicolon 19 = .ok (.invokevirtual 113, 3) := by decide +kernel
theorem dX11_eatsSemicolon_22 : decode cX11_eatsSemicolon 22 = .ok (.iload_n 1, 1) := by decide +kernel
theorem dX11_eatsSemicolon_23 : decode cX11_eatsSemicolon 23 = .ok (.ireturn, 1) := by decide +kernel
theorem dX11_needs_0 : decode cX11_needs 0 = .ok (.aload_n 0, 1) := by decide +kernel
theorem dX11_needs_1 : decode cX11_needs 1 = .ok (.aload_n 1, 1) := by decide +kernel
theorem dX11_needs_2 : decode cX11_needs 2 = .ok (.invokevirtual 116, 3) := by decide +kernel
theorem dX11_needs_5 : decode cX11_needs 5 = .ok (.ifCond .ne 8, 3) := by decide +kernel
theorem dX11_needs_8 : decode cX11_needs 8 = .ok (.aload_n 0, 1) := by decide +kernel
theorem dX11_needs_9 : decode cX11_needs 9 = .ok (.iconst 1, 1) := by decide +kernel
theorem dX11_needs_10 : decode cX11_needs 10 = .ok (.invokevirtual 120, 3) := by decide +kernel
theorem dX11_needs_13 : decode cX11_needs 13 = .ok (.aload_n 0, 1) := by decide +kernel
theorem dX11_needs_14 : decode cX11_needs 14 = .ok (.invokevirtual 113, 3) := by decide +kernel
theorem dX11_needs_17 : decode cX11_needs 17 = .ok (.return_, 1) := by decide +kernel
theorem dX11_wholeAt_0 : decode cX11_wholeAt 0 = .ok (.aload_n 0, 1) := by decide +kernel
theorem dX11_wholeAt_1 : decode cX11_wholeAt 1 = .ok (.getfield 77, 3) := by decide +kernel
theorem dX11_wholeAt_4 : decode cX11_wholeAt 4 = .ok (.iconst 3, 1) := by decide +kernel
theorem dX11_wholeAt_5 : decode cX11_wholeAt 5 = .ok (.if_icmp .eq 11, 3) := by decide +kernel
theorem dX11_wholeAt_8 : decode cX11_wholeAt 8 = .ok (.aload_n 0, 1) := by decide +kernel
theorem dX11_wholeAt_9 : decode cX11_wholeAt 9 = .ok (.iconst 1, 1) := by decide +kernel
theorem dX11_wholeAt_10 : decode cX11_wholeAt 10 = .ok (.invokevirtual 120, 3) := by decide +kernel
theorem dX11_wholeAt_13 : decode cX11_wholeAt 13 = .ok (.goto 20, 3) := by decide +kernel
theorem dX11_wholeAt_16 : decode cX11_wholeAt 16 = .ok (.aload_n 0, 1) := by decide +kernel
theorem dX11_wholeAt_17 : decode cX11_wholeAt 17 = .ok (.getfield 100, 3) := by decide +kernel
theorem dX11_wholeAt_20 : decode cX11_wholeAt 20 = .ok (.iload_n 1, 1) := by decide +kernel
theorem dX11_wholeAt_21 : decode cX11_wholeAt 21 = .ok (.iload_n 2, 1) := by decide +kernel
theorem dX11_wholeAt_22 : decode cX11_wholeAt 22 = .ok (.invokestatic 124, 3) := by decide +kernel
theorem dX11_wholeAt_25 : decode cX11_wholeAt 25 = .ok (.ifCond .ne 8, 3) := by decide +kernel
theorem dX11_wholeAt_28 : decode cX11_wholeAt 28 = .ok (.aload_n 0, 1) := by decide +kernel
theorem dX11_wholeAt_29 : decode cX11_wholeAt 29 = .ok (.iconst 4, 1) := by decide +kernel
theorem dX11_wholeAt_30 : decode cX11_wholeAt 30 = .ok (.invokevirtual 120, 3) := by decide +kernel
theorem dX11_wholeAt_33 : decode cX11_wholeAt 33 = .ok (.aload_n 0, 1) := by decide +kernel
theorem dX11_wholeAt_34 : decode cX11_wholeAt 34 = .ok (.getfield 77, 3) := by decide +kernel
theorem dX11_wholeAt_37 : decode cX11_wholeAt 37 = .ok (.iconst 5, 1) := by decide +kernel
theorem dX11_wholeAt_38 : decode cX11_wholeAt 38 = .ok (.if_icmp .ne 7, 3) := by decide +kernel
theorem dX11_wholeAt_41 : decode cX11_wholeAt 41 = .ok (.iload_n 1, 1) := by decide +kernel
theorem dX11_wholeAt_42 : decode cX11_wholeAt 42 = .ok (.goto 7, 3) := by decide +kernel
theorem dX11_wholeAt_45 : decode cX11_wholeAt 45 = .ok (.aload_n 0, 1) := by decide +kernel
theorem dX11_wholeAt_46 : decode cX11_wholeAt 46 = .ok (.getfield 100, 3) := by decide +kernel
theorem dX11_wholeAt_49 : decode cX11_wholeAt 49 = .ok (.ireturn, 1) := by decide +kernel
theorem dX11_readWhole_0 : decode cX11_readWhole 0 = .ok (.aload_n 0, 1) := by decide +kernel
theorem dX11_readWhole_1 : decode cX11_readWhole 1 = .ok (.iload_n 1, 1) := by decide +kernel
theorem dX11_readWhole_2 : decode cX11_readWhole 2 = .ok (.iload_n 2, 1) := by decide +kernel
theorem dX11_readWhole_3 : decode cX11_readWhole 3 = .ok (.invokevirtual 128, 3) := by decide +kernel
theorem dX11_readWhole_6 : decode cX11_readWhole 6 = .ok (.istore_n 3, 1) := by decide +kernel
theorem dX11_readWhole_7 : decode cX11_readWhole 7 = .ok (.aload_n 0, 1) := by decide +kernel
theorem dX11_readWhole_8 : decode cX11_readWhole 8 = .ok (.invokevirtual 113, 3) := by decide +kernel
theorem dX11_readWhole_11 : decode cX11_readWhole 11 = .ok (.iload_n 3, 1) := by decide +kernel
theorem dX11_readWhole_12 : decode cX11_readWhole 12 = .ok (.ireturn, 1) := by decide +kernel
theorem dX11_readPart_0 : decode cX11_readPart 0 = .ok (.aload_n 0, 1) := by decide +kernel
theorem dX11_readPart_1 : decode cX11_readPart 1 = .ok (.aload_n 1, 1) := by decide +kernel
theorem dX11_readPart_2 : decode cX11_readPart 2 = .ok (.invokevirtual 132, 3) := by decide +kernel
theorem dX11_readPart_5 : decode cX11_readPart 5 = .ok (.aload_n 0, 1) := by decide +kernel
theorem dX11_readPart_6 : decode cX11_readPart 6 = .ok (.iload_n 2, 1) := by decide +kernel
theorem dX11_readPart_7 : decode cX11_readPart 7 = .ok (.iload_n 3, 1) := by decide +kernel
theorem dX11_readPart_8 : decode cX11_readPart 8 = .ok (.invokevirtual 136, 3) := by decide +kernel
theorem dX11_readPart_11 : decode cX11_readPart 11 = .ok (.ireturn, 1) := by decide +kernel
theorem dX11_lineBegins_0 : decode cX11_lineBegins 0 = .ok (.iload_n 1, 1) := by decide +kernel
theorem dX11_lineBegins_1 : decode cX11_lineBegins 1 = .ok (.iload_n 2, 1) := by decide +kernel
theorem dX11_lineBegins_2 : decode cX11_lineBegins 2 = .ok (.if_icmp .ne 8, 3) := by decide +kernel
theorem dX11_lineBegins_5 : decode cX11_lineBegins 5 = .ok (.aload_n 0, 1) := by decide +kernel
theorem dX11_lineBegins_6 : decode cX11_lineBegins 6 = .ok (.iconst 5, 1) := by decide +kernel
theorem dX11_lineBegins_7 : decode cX11_lineBegins 7 = .ok (.invokevirtual 120, 3) := by decide +kernel
theorem dX11_lineBegins_10 : decode cX11_lineBegins 10 = .ok (.aload_n 0, 1) := by decide +kernel
theorem dX11_lineBegins_11 : decode cX11_lineBegins 11 = .ok (.getfield 139, 3) := by decide +kernel
theorem dX11_lineBegins_14 : decode cX11_lineBegins 14 = .ok (.getfield 143, 3) := by decide +kernel
theorem dX11_lineBegins_17 : decode cX11_lineBegins 17 = .ok (.ifCond .ne 9, 3) := by decide +kernel
theorem dX11_lineBegins_20 : decode cX11_lineBegins 20 = .ok (.aload_n 0, 1) := by decide +kernel
theorem dX11_lineBegins_21 : decode cX11_lineBegins 21 = .ok (.bipush 6, 2) := by decide +kernel
theorem dX11_lineBegins_23 : decode cX11_lineBegins 23 = .ok (.invokevirtual 120, 3) := by decide +kernel
theorem dX11_lineBegins_26 : decode cX11_lineBegins 26 = .ok (.aload_n 0, 1) := by decide +kernel
theorem dX11_lineBegins_27 : decode cX11_lineBegins 27 = .ok (.invokevirtual 113, 3) := by decide +kernel
theorem dX11_lineBegins_30 : decode cX11_lineBegins 30 = .ok (.return_, 1) := by decide +kernel
theorem dX11_toldAt_0 : decode cX11_toldAt 0 = .ok (.aload_n 0, 1) := by decide +kernel
theorem dX11_toldAt_1 : decode cX11_toldAt 1 = .ok (.getfield 77, 3) := by decide +kernel
theorem dX11_toldAt_4 : decode cX11_toldAt 4 = .ok (.iconst 3, 1) := by decide +kernel
theorem dX11_toldAt_5 : decode cX11_toldAt 5 = .ok (.if_icmp .eq 11, 3) := by decide +kernel
theorem dX11_toldAt_8 : decode cX11_toldAt 8 = .ok (.aload_n 0, 1) := by decide +kernel
theorem dX11_toldAt_9 : decode cX11_toldAt 9 = .ok (.iconst 1, 1) := by decide +kernel
theorem dX11_toldAt_10 : decode cX11_toldAt 10 = .ok (.invokevirtual 120, 3) := by decide +kernel
theorem dX11_toldAt_13 : decode cX11_toldAt 13 = .ok (.goto 16, 3) := by decide +kernel
theorem dX11_toldAt_16 : decode cX11_toldAt 16 = .ok (.aload_n 0, 1) := by decide +kernel
theorem dX11_toldAt_17 : decode cX11_toldAt 17 = .ok (.getfield 100, 3) := by decide +kernel
theorem dX11_toldAt_20 : decode cX11_toldAt 20 = .ok (.iload_n 1, 1) := by decide +kernel
theorem dX11_toldAt_21 : decode cX11_toldAt 21 = .ok (.if_icmp .lt 8, 3) := by decide +kernel
theorem dX11_toldAt_24 : decode cX11_toldAt 24 = .ok (.aload_n 0, 1) := by decide +kernel
theorem dX11_toldAt_25 : decode cX11_toldAt 25 = .ok (.iconst 2, 1) := by decide +kernel
theorem dX11_toldAt_26 : decode cX11_toldAt 26 = .ok (.invokevirtual 120, 3) := by decide +kernel
theorem dX11_toldAt_29 : decode cX11_toldAt 29 = .ok (.aload_n 0, 1) := by decide +kernel
theorem dX11_toldAt_30 : decode cX11_toldAt 30 = .ok (.getfield 77, 3) := by decide +kernel
theorem dX11_toldAt_33 : decode cX11_toldAt 33 = .ok (.iconst 5, 1) := by decide +kernel
theorem dX11_toldAt_34 : decode cX11_toldAt 34 = .ok (.if_icmp .ne 7, 3) := by decide +kernel
theorem dX11_toldAt_37 : decode cX11_toldAt 37 = .ok (.iconst 0, 1) := by decide +kernel
theorem dX11_toldAt_38 : decode cX11_toldAt 38 = .ok (.goto 7, 3) := by decide +kernel
theorem dX11_toldAt_41 : decode cX11_toldAt 41 = .ok (.aload_n 0, 1) := by decide +kernel
theorem dX11_toldAt_42 : decode cX11_toldAt 42 = .ok (.getfield 100, 3) := by decide +kernel
theorem dX11_toldAt_45 : decode cX11_toldAt 45 = .ok (.ireturn, 1) := by decide +kernel
theorem dX11_readAll_0 : decode cX11_readAll 0 = .ok (.iconst 1, 1) := by decide +kernel
theorem dX11_readAll_1 : decode cX11_readAll 1 = .ok (.istore_n 1, 1) := by decide +kernel
theorem dX11_readAll_2 : decode cX11_readAll 2 = .ok (.iload_n 1, 1) := by decide +kernel
theorem dX11_readAll_3 : decode cX11_readAll 3 = .ok (.ifCond .eq 15, 3) := by decide +kernel
theorem dX11_readAll_6 : decode cX11_readAll 6 = .ok (.aload_n 0, 1) := by decide +kernel
theorem dX11_readAll_7 : decode cX11_readAll 7 = .ok (.invokevirtual 148, 3) := by decide +kernel
theorem dX11_readAll_10 : decode cX11_readAll 10 = .ok (.aload_n 0, 1) := by decide +kernel
theorem dX11_readAll_11 : decode cX11_readAll 11 = .ok (.invokevirtual 151, 3) := by decide +kernel
theorem dX11_readAll_14 : decode cX11_readAll 14 = .ok (.istore_n 1, 1) := by decide +kernel
theorem dX11_readAll_15 : decode cX11_readAll 15 = .ok (.goto (-13), 3) := by decide +kernel
theorem dX11_readAll_18 : decode cX11_readAll 18 = .ok (.aload_n 0, 1) := by decide +kernel
theorem dX11_readAll_19 : decode cX11_readAll 19 = .ok (.getfield 77, 3) := by decide +kernel
theorem dX11_readAll_22 : decode cX11_readAll 22 = .ok (.iconst 1, 1) := by decide +kernel
theorem dX11_readAll_23 : decode cX11_readAll 23 = .ok (.if_icmp .eq 8, 3) := by decide +kernel
theorem dX11_readAll_26 : decode cX11_readAll 26 = .ok (.aload_n 0, 1) := by decide +kernel
theorem dX11_readAll_27 : decode cX11_readAll 27 = .ok (.iconst 1, 1) := by decide +kernel
theorem dX11_readAll_28 : decode cX11_readAll 28 = .ok (.invokevirtual 120, 3) := by decide +kernel
theorem dX11_readAll_31 : decode cX11_readAll 31 = .ok (.aload_n 0, 1) := by decide +kernel
theorem dX11_readAll_32 : decode cX11_readAll 32 = .ok (.getfield 139, 3) := by decide +kernel
theorem dX11_readAll_35 : decode cX11_readAll 35 = .ok (.getfield 155, 3) := by decide +kernel
theorem dX11_readAll_38 : decode cX11_readAll 38 = .ok (.ifCond .ne 9, 3) := by decide +kernel
theorem dX11_readAll_41 : decode cX11_readAll 41 = .ok (.aload_n 0, 1) := by decide +kernel
theorem dX11_readAll_42 : decode cX11_readAll 42 = .ok (.bipush 6, 2) := by decide +kernel
theorem dX11_readAll_44 : decode cX11_readAll 44 = .ok (.invokevirtual 120, 3) := by decide +kernel
theorem dX11_readAll_47 : decode cX11_readAll 47 = .ok (.return_, 1) := by decide +kernel
theorem dX11_readLine_0 : decode cX11_readLine 0 = .ok (.aload_n 0, 1) := by decide +kernel
theorem dX11_readLine_1 : decode cX11_readLine 1 = .ok (.ldc 158, 2) := by decide +kernel
theorem dX11_readLine_3 : decode cX11_readLine 3 = .ok (.invokevirtual 116, 3) := by decide +kernel
theorem dX11_readLine_6 : decode cX11_readLine 6 = .ok (.ifCond .eq 10, 3) := by decide +kernel
theorem dX11_readLine_9 : decode cX11_readLine 9 = .ok (.aload_n 0, 1) := by decide +kernel
theorem dX11_readLine_10 : decode cX11_readLine 10 = .ok (.invokevirtual 160, 3) := by decide +kernel
theorem dX11_readLine_13 : decode cX11_readLine 13 = .ok (.goto 88, 3) := by decide +kernel
theorem dX11_readLine_16 : decode cX11_readLine 16 = .ok (.aload_n 0, 1) := by decide +kernel
theorem dX11_readLine_17 : decode cX11_readLine 17 = .ok (.ldc 163, 2) := by decide +kernel
theorem dX11_readLine_19 : decode cX11_readLine 19 = .ok (.invokevirtual 116, 3) := by decide +kernel
theorem dX11_readLine_22 : decode cX11_readLine 22 = .ok (.ifCond .eq 10, 3) := by decide +kernel
theorem dX11_readLine_25 : decode cX11_readLine 25 = .ok (.aload_n 0, 1) := by decide +kernel
theorem dX11_readLine_26 : decode cX11_readLine 26 = .ok (.invokevirtual 165, 3) := by decide +kernel
theorem dX11_readLine_29 : decode cX11_readLine 29 = .ok (.goto 72, 3) := by decide +kernel
theorem dX11_readLine_32 : decode cX11_readLine 32 = .ok (.aload_n 0, 1) := by decide +kernel
theorem dX11_readLine_33 : decode cX11_readLine 33 = .ok (.ldc 168, 2) := by decide +kernel
theorem dX11_readLine_35 : decode cX11_readLine 35 = .ok (.invokevirtual 116, 3) := by decide +kernel
theorem dX11_readLine_38 : decode cX11_readLine 38 = .ok (.ifCond .eq 10, 3) := by decide +kernel
theorem dX11_readLine_41 : decode cX11_readLine 41 = .ok (.aload_n 0, 1) := by decide +kernel
theorem dX11_readLine_42 : decode cX11_readLine 42 = .ok (.invokevirtual 170, 3) := by decide +kernel
theorem dX11_readLine_45 : decode cX11_readLine 45 = .ok (.goto 56, 3) := by decide +kernel
theorem dX11_readLine_48 : decode cX11_readLine 48 = .ok (.aload_n 0, 1) := by decide +kernel
theorem dX11_readLine_49 : decode cX11_readLine 49 = .ok (.ldc 173, 2) := by decide +kernel
theorem dX11_readLine_51 : decode cX11_readLine 51 = .ok (.invokevirtual 116, 3) := by decide +kernel
theorem dX11_readLine_54 : decode cX11_readLine 54 = .ok (.ifCond .eq 10, 3) := by decide +kernel
theorem dX11_readLine_57 : decode cX11_readLine 57 = .ok (.aload_n 0, 1) := by decide +kernel
theorem dX11_readLine_58 : decode cX11_readLine 58 = .ok (.invokevirtual 175, 3) := by decide +kernel
theorem dX11_readLine_61 : decode cX11_readLine 61 = .ok (.goto 40, 3) := by decide +kernel
theorem dX11_readLine_64 : decode cX11_readLine 64 = .ok (.aload_n 0, 1) := by decide +kernel
theorem dX11_readLine_65 : decode cX11_readLine 65 = .ok (.ldc 178, 2) := by decide +kernel
theorem dX11_readLine_67 : decode cX11_readLine 67 = .ok (.invokevirtual 116, 3) := by decide +kernel
theorem dX11_readLine_70 : decode cX11_readLine 70 = .ok (.ifCond .eq 10, 3) := by decide +kernel
theorem dX11_readLine_73 : decode cX11_readLine 73 = .ok (.aload_n 0, 1) := by decide +kernel
theorem dX11_readLine_74 : decode cX11_readLine 74 = .ok (.invokevirtual 180, 3) := by decide +kernel
theorem dX11_readLine_77 : decode cX11_readLine 77 = .ok (.goto 24, 3) := by decide +kernel
theorem dX11_readLine_80 : decode cX11_readLine 80 = .ok (.aload_n 0, 1) := by decide +kernel
theorem dX11_readLine_81 : decode cX11_readLine 81 = .ok (.ldc 183, 2) := by decide +kernel
theorem dX11_readLine_83 : decode cX11_readLine 83 = .ok (.invokevirtual 116, 3) := by decide +kernel
theorem dX11_readLine_86 : decode cX11_readLine 86 = .ok (.ifCond .eq 10, 3) := by decide +kernel
theorem dX11_readLine_89 : decode cX11_readLine 89 = .ok (.aload_n 0, 1) := by decide +kernel
theorem dX11_readLine_90 : decode cX11_readLine 90 = .ok (.invokevirtual 184, 3) := by decide +kernel
theorem dX11_readLine_93 : decode cX11_readLine 93 = .ok (.goto 8, 3) := by decide +kernel
theorem dX11_readLine_96 : decode cX11_readLine 96 = .ok (.aload_n 0, 1) := by decide +kernel
theorem dX11_readLine_97 : decode cX11_readLine 97 = .ok (.iconst 1, 1) := by decide +kernel
theorem dX11_readLine_98 : decode cX11_readLine 98 = .ok (.invokevirtual 120, 3) := by decide +kernel
theorem dX11_readLine_101 : decode cX11_readLine 101 = .ok (.return_, 1) := by decide +kernel
theorem dX11_readDisk_0 : decode cX11_readDisk 0 = .ok (.aload_n 0, 1) := by decide +kernel
theorem dX11_readDisk_1 : decode cX11_readDisk 1 = .ok (.getfield 139, 3) := by decide +kernel
theorem dX11_readDisk_4 : decode cX11_readDisk 4 = .ok (.getfield 143, 3) := by decide +kernel
theorem dX11_readDisk_7 : decode cX11_readDisk 7 = .ok (.ifCond .le 8, 3) := by decide +kernel
theorem dX11_readDisk_10 : decode cX11_readDisk 10 = .ok (.aload_n 0, 1) := by decide +kernel
theorem dX11_readDisk_11 : decode cX11_readDisk 11 = .ok (.iconst 3, 1) := by decide +kernel
theorem dX11_readDisk_12 : decode cX11_readDisk 12 = .ok (.invokevirtual 120, 3) := by decide +kernel
theorem dX11_readDisk_15 : decode cX11_readDisk 15 = .ok (.aload_n 0, 1) := by decide +kernel
theorem dX11_readDisk_16 : decode cX11_readDisk 16 = .ok (.invokevirtual 113, 3) := by decide +kernel
theorem dX11_readDisk_19 : decode cX11_readDisk 19 = .ok (.aload_n 0, 1) := by decide +kernel
theorem dX11_readDisk_20 : decode cX11_readDisk 20 = .ok (.ldc 187, 2) := by decide +kernel
theorem dX11_readDisk_22 : decode cX11_readDisk 22 = .ok (.iconst 1, 1) := by decide +kernel
theorem dX11_readDisk_23 : decode cX11_readDisk 23 = .ok (.iconst 3, 1) := by decide +kernel
theorem dX11_readDisk_24 : decode cX11_readDisk 24 = .ok (.invokevirtual 188, 3) := by decide +kernel
theorem dX11_readDisk_27 : decode cX11_readDisk 27 = .ok (.istore_n 1, 1) := by decide +kernel
theorem dX11_readDisk_28 : decode cX11_readDisk 28 = .ok (.aload_n 0, 1) := by decide +kernel
theorem dX11_readDisk_29 : decode cX11_readDisk 29 = .ok (.ldc 192, 2) := by decide +kernel
theorem dX11_readDisk_31 : decode cX11_readDisk 31 = .ok (.iconst 2, 1) := by decide +kernel
theorem dX11_readDisk_32 : decode cX11_readDisk 32 = .ok (.bipush 24, 2) := by decide +kernel
theorem dX11_readDisk_34 : decode cX11_readDisk 34 = .ok (.invokevirtual 188, 3) := by decide +kernel
theorem dX11_readDisk_37 : decode cX11_readDisk 37 = .ok (.istore_n 2, 1) := by decide +kernel
theorem dX11_readDisk_38 : decode cX11_readDisk 38 = .ok (.aload_n 0, 1) := by decide +kernel
theorem dX11_readDisk_39 : decode cX11_readDisk 39 = .ok (.ldc 194, 2) := by decide +kernel
theorem dX11_readDisk_41 : decode cX11_readDisk 41 = .ok (.invokevirtual 116, 3) := by decide +kernel
theorem dX11_readDisk_44 : decode cX11_readDisk 44 = .ok (.istore_n 3, 1) := by decide +kernel
theorem dX11_readDisk_45 : decode cX11_readDisk 45 = .ok (.iload_n 3, 1) := by decide +kernel
theorem dX11_readDisk_46 : decode cX11_readDisk 46 = .ok (.ifCond .ne 17, 3) := by decide +kernel
theorem dX11_readDisk_49 : decode cX11_readDisk 49 = .ok (.aload_n 0, 1) := by decide +kernel
theorem dX11_readDisk_50 : decode cX11_readDisk 50 = .ok (.ldc 196, 2) := by decide +kernel
theorem dX11_readDisk_52 : decode cX11_readDisk 52 = .ok (.invokevirtual 116, 3) := by decide +kernel
theorem dX11_readDisk_55 : decode cX11_readDisk 55 = .ok (.ifCond .ne 8, 3) := by decide +kernel
theorem dX11_readDisk_58 : decode cX11_readDisk 58 = .ok (.aload_n 0, 1) := by decide +kernel
theorem dX11_readDisk_59 : decode cX11_readDisk 59 = .ok (.iconst 1, 1) := by decide +kernel
theorem dX11_readDisk_60 : decode cX11_readDisk 60 = .ok (.invokevirtual 120, 3) := by decide +kernel
theorem dX11_readDisk_63 : decode cX11_readDisk 63 = .ok (.aload_n 0, 1) := by decide +kernel
theorem dX11_readDisk_64 : decode cX11_readDisk 64 = .ok (.invokevirtual 113, 3) := by decide +kernel
theorem dX11_readDisk_67 : decode cX11_readDisk 67 = .ok (.aload_n 0, 1) := by decide +kernel
theorem dX11_readDisk_68 : decode cX11_readDisk 68 = .ok (.getfield 77, 3) := by decide +kernel
theorem dX11_readDisk_71 : decode cX11_readDisk 71 = .ok (.iconst 5, 1) := by decide +kernel
theorem dX11_readDisk_72 : decode cX11_readDisk 72 = .ok (.if_icmp .ne 4, 3) := by decide +kernel
theorem dX11_readDisk_75 : decode cX11_readDisk 75 = .ok (.return_, 1) := by decide +kernel
theorem dX11_readDisk_76 : decode cX11_readDisk 76 = .ok (.aload_n 0, 1) := by decide +kernel
theorem dX11_readDisk_77 : decode cX11_readDisk 77 = .ok (.getfield 139, 3) := by decide +kernel
theorem dX11_readDisk_80 : decode cX11_readDisk 80 = .ok (.iload_n 1, 1) := by decide +kernel
theorem dX11_readDisk_81 : decode cX11_readDisk 81 = .ok (.putfield 143, 3) := by decide +kernel
theorem dX11_readDisk_84 : decode cX11_readDisk 84 = .ok (.aload_n 0, 1) := by decide +kernel
theorem dX11_readDisk_85 : decode cX11_readDisk 85 = .ok (.getfield 139, 3) := by decide +kernel
theorem dX11_readDisk_88 : decode cX11_readDisk 88 = .ok (.iload_n 2, 1) := by decide +kernel
theorem dX11_readDisk_89 : decode cX11_readDisk 89 = .ok (.putfield 198, 3) := by decide +kernel
theorem dX11_readDisk_92 : decode cX11_readDisk 92 = .ok (.aload_n 0, 1) := by decide +kernel
theorem dX11_readDisk_93 : decode cX11_readDisk 93 = .ok (.getfield 139, 3) := by decide +kernel
theorem dX11_readDisk_96 : decode cX11_readDisk 96 = .ok (.iload_n 3, 1) := by decide +kernel
theorem dX11_readDisk_97 : decode cX11_readDisk 97 = .ok (.putfield 200, 3) := by decide +kernel
theorem dX11_readDisk_100 : decode cX11_readDisk 100 = .ok (.return_, 1) := by decide +kernel
theorem dX11_readBand_0 : decode cX11_readBand 0 = .ok (.aload_n 0, 1) := by decide +kernel
theorem dX11_readBand_1 : decode cX11_readBand 1 = .ok (.aload_n 0, 1) := by decide +kernel
theorem dX11_readBand_2 : decode cX11_readBand 2 = .ok (.getfield 139, 3) := by decide +kernel
theorem dX11_readBand_5 : decode cX11_readBand 5 = .ok (.getfield 155, 3) := by decide +kernel
theorem dX11_readBand_8 : decode cX11_readBand 8 = .ok (.bipush 6, 2) := by decide +kernel
theorem dX11_readBand_10 : decode cX11_readBand 10 = .ok (.invokevirtual 203, 3) := by decide +kernel
theorem dX11_readBand_13 : decode cX11_readBand 13 = .ok (.aload_n 0, 1) := by decide +kernel
theorem dX11_readBand_14 : decode cX11_readBand 14 = .ok (.iconst 2, 1) := by decide +kernel
theorem dX11_readBand_15 : decode cX11_readBand 15 = .ok (.bipush 8, 2) := by decide +kernel
theorem dX11_readBand_17 : decode cX11_readBand 17 = .ok (.invokevirtual 136, 3) := by decide +kernel
theorem dX11_readBand_20 : decode cX11_readBand 20 = .ok (.istore_n 1, 1) := by decide +kernel
theorem dX11_readBand_21 : decode cX11_readBand 21 = .ok (.aload_n 0, 1) := by decide +kernel
theorem dX11_readBand_22 : decode cX11_readBand 22 = .ok (.getfield 77, 3) := by decide +kernel
theorem dX11_readBand_25 : decode cX11_readBand 25 = .ok (.iconst 5, 1) := by decide +kernel
theorem dX11_readBand_26 : decode cX11_readBand 26 = .ok (.if_icmp .ne 4, 3) := by decide +kernel
theorem dX11_readBand_29 : decode cX11_readBand 29 = .ok (.return_, 1) := by decide +kernel
theorem dX11_readBand_30 : decode cX11_readBand 30 = .ok (.aload_n 0, 1) := by decide +kernel
theorem dX11_readBand_31 : decode cX11_readBand 31 = .ok (.getfield 139, 3) := by decide +kernel
theorem dX11_readBand_34 : decode cX11_readBand 34 = .ok (.getfield 207, 3) := by decide +kernel
theorem dX11_readBand_37 : decode cX11_readBand 37 = .ok (.aload_n 0, 1) := by decide +kernel
theorem dX11_readBand_38 : decode cX11_readBand 38 = .ok (.getfield 139, 3) := by decide +kernel
theorem dX11_readBand_41 : decode cX11_readBand 41 = .ok (.getfield 155, 3) := by decide +kernel
theorem dX11_readBand_44 : decode cX11_readBand 44 = .ok (.iload_n 1, 1) := by decide +kernel
theorem dX11_readBand_45 : decode cX11_readBand 45 = .ok (.iastore, 1) := by decide +kernel
theorem dX11_readBand_46 : decode cX11_readBand 46 = .ok (.aload_n 0, 1) := by decide +kernel
theorem dX11_readBand_47 : decode cX11_readBand 47 = .ok (.getfield 139, 3) := by decide +kernel
theorem dX11_readBand_50 : decode cX11_readBand 50 = .ok (.dup, 1) := by decide +kernel
theorem dX11_readBand_51 : decode cX11_readBand 51 = .ok (.getfield 155, 3) := by decide +kernel
theorem dX11_readBand_54 : decode cX11_readBand 54 = .ok (.iconst 1, 1) := by decide +kernel
theorem dX11_readBand_55 : decode cX11_readBand 55 = .ok (.iadd, 1) := by decide +kernel
theorem dX11_readBand_56 : decode cX11_readBand 56 = .ok (.putfield 155, 3) := by decide +kernel
theorem dX11_readBand_59 : decode cX11_readBand 59 = .ok (.aload_n 0, 1) := by decide +kernel
theorem dX11_readBand_60 : decode cX11_readBand 60 = .ok (.getfield 139, 3) := by decide +kernel
theorem dX11_readBand_63 : decode cX11_readBand 63 = .ok (.dup, 1) := by decide +kernel
theorem dX11_readBand_64 : decode cX11_readBand 64 = .ok (.getfield 209, 3) := by decide +kernel
theorem dX11_readBand_67 : decode cX11_readBand 67 = .ok (.iload_n 1, 1) := by decide +kernel
theorem dX11_readBand_68 : decode cX11_readBand 68 = .ok (.iadd, 1) := by decide +kernel
theorem dX11_readBand_69 : decode cX11_readBand 69 = .ok (.putfield 209, 3) := by decide +kernel
theorem dX11_readBand_72 : decode cX11_readBand 72 = .ok (.return_, 1) := by decide +kernel
theorem dX11_readHas_0 : decode cX11_readHas 0 = .ok (.aload_n 0, 1) := by decide +kernel
theorem dX11_readHas_1 : decode cX11_readHas 1 = .ok (.aload_n 0, 1) := by decide +kernel
theorem dX11_readHas_2 : decode cX11_readHas 2 = .ok (.getfield 139, 3) := by decide +kernel
theorem dX11_readHas_5 : decode cX11_readHas 5 = .ok (.getfield 212, 3) := by decide +kernel
theorem dX11_readHas_8 : decode cX11_readHas 8 = .ok (.bipush 12, 2) := by decide +kernel
theorem dX11_readHas_10 : decode cX11_readHas 10 = .ok (.invokevirtual 203, 3) := by decide +kernel
theorem dX11_readHas_13 : decode cX11_readHas 13 = .ok (.aload_n 0, 1) := by decide +kernel
theorem dX11_readHas_14 : decode cX11_readHas 14 = .ok (.aload_n 0, 1) := by decide +kernel
theorem dX11_readHas_15 : decode cX11_readHas 15 = .ok (.getfield 139, 3) := by decide +kernel
theorem dX11_readHas_18 : decode cX11_readHas 18 = .ok (.getfield 209, 3) := by decide +kernel
theorem dX11_readHas_21 : decode cX11_readHas 21 = .ok (.invokevirtual 215, 3) := by decide +kernel
theorem dX11_readHas_24 : decode cX11_readHas 24 = .ok (.istore_n 1, 1) := by decide +kernel
theorem dX11_readHas_25 : decode cX11_readHas 25 = .ok (.aload_n 0, 1) := by decide +kernel
theorem dX11_readHas_26 : decode cX11_readHas 26 = .ok (.getfield 77, 3) := by decide +kernel
theorem dX11_readHas_29 : decode cX11_readHas 29 = .ok (.iconst 5, 1) := by decide +kernel
theorem dX11_readHas_30 : decode cX11_readHas 30 = .ok (.if_icmp .eq 20, 3) := by decide +kernel
theorem dX11_readHas_33 : decode cX11_readHas 33 = .ok (.aload_n 0, 1) := by decide +kernel
theorem dX11_readHas_34 : decode cX11_readHas 34 = .ok (.getfield 139, 3) := by decide +kernel
theorem dX11_readHas_37 : decode cX11_readHas 37 = .ok (.getfield 218, 3) := by decide +kernel
theorem dX11_readHas_40 : decode cX11_readHas 40 = .ok (.iload_n 1, 1) := by decide +kernel
theorem dX11_readHas_41 : decode cX11_readHas 41 = .ok (.baload, 1) := by decide +kernel
theorem dX11_readHas_42 : decode cX11_readHas 42 = .ok (.ifCond .eq 8, 3) := by decide +kernel
theorem dX11_readHas_45 : decode cX11_readHas 45 = .ok (.aload_n 0, 1) := by decide +kernel
theorem dX11_readHas_46 : decode cX11_readHas 46 = .ok (.iconst 3, 1) := by decide +kernel
theorem dX11_readHas_47 : decode cX11_readHas 47 = .ok (.invokevirtual 120, 3) := by decide +kernel
theorem dX11_readHas_50 : decode cX11_readHas 50 = .ok (.aload_n 0, 1) := by decide +kernel
theorem dX11_readHas_51 : decode cX11_readHas 51 = .ok (.invokevirtual 113, 3) := by decide +kernel
theorem dX11_readHas_54 : decode cX11_readHas 54 = .ok (.aload_n 0, 1) := by decide +kernel
theorem dX11_readHas_55 : decode cX11_readHas 55 = .ok (.iconst 0, 1) := by decide +kernel
theorem dX11_readHas_56 : decode cX11_readHas 56 = .ok (.sipush 9999, 3) := by decide +kernel
theorem dX11_readHas_59 : decode cX11_readHas 59 = .ok (.invokevirtual 136, 3) := by decide +kernel
theorem dX11_readHas_62 : decode cX11_readHas 62 = .ok (.istore_n 2, 1) := by decide +kernel
theorem dX11_readHas_63 : decode cX11_readHas 63 = .ok (.aload_n 0, 1) := by decide +kernel
theorem dX11_readHas_64 : decode cX11_readHas 64 = .ok (.getfield 77, 3) := by decide +kernel
theorem dX11_readHas_67 : decode cX11_readHas 67 = .ok (.iconst 5, 1) := by decide +kernel
theorem dX11_readHas_68 : decode cX11_readHas 68 = .ok (.if_icmp .ne 4, 3) := by decide +kernel
theorem dX11_readHas_71 : decode cX11_readHas 71 = .ok (.return_, 1) := by decide +kernel
theorem dX11_readHas_72 : decode cX11_readHas 72 = .ok (.aload_n 0, 1) := by decide +kernel
theorem dX11_readHas_73 : decode cX11_readHas 73 = .ok (.getfield 139, 3) := by decide +kernel
theorem dX11_readHas_76 : decode cX11_readHas 76 = .ok (.getfield 218, 3) := by decide +kernel
theorem dX11_readHas_79 : decode cX11_readHas 79 = .ok (.iload_n 1, 1) := by decide +kernel
theorem dX11_readHas_80 : decode cX11_readHas 80 = .ok (.iconst 1, 1) := by decide +kernel
theorem dX11_readHas_81 : decode cX11_readHas 81 = .ok (.bastore, 1) := by decide +kernel
theorem dX11_readHas_82 : decode cX11_readHas 82 = .ok (.aload_n 0, 1) := by decide +kernel
theorem dX11_readHas_83 : decode cX11_readHas 83 = .ok (.getfield 139, 3) := by decide +kernel
theorem dX11_readHas_86 : decode cX11_readHas 86 = .ok (.getfield 221, 3) := by decide +kernel
theorem dX11_readHas_89 : decode cX11_readHas 89 = .ok (.iload_n 1, 1) := by decide +kernel
theorem dX11_readHas_90 : decode cX11_readHas 90 = .ok (.iload_n 2, 1) := by decide +kernel
theorem dX11_readHas_91 : decode cX11_readHas 91 = .ok (.iastore, 1) := by decide +kernel
theorem dX11_readHas_92 : decode cX11_readHas 92 = .ok (.aload_n 0, 1) := by decide +kernel
theorem dX11_readHas_93 : decode cX11_readHas 93 = .ok (.getfield 139, 3) := by decide +kernel
theorem dX11_readHas_96 : decode cX11_readHas 96 = .ok (.dup, 1) := by decide +kernel
theorem dX11_readHas_97 : decode cX11_readHas 97 = .ok (.getfield 212, 3) := by decide +kernel
theorem dX11_readHas_100 : decode cX11_readHas 100 = .ok (.iconst 1, 1) := by decide +kernel
theorem dX11_readHas_101 : decode cX11_readHas 101 = .ok (.iadd, 1) := by decide +kernel
theorem dX11_readHas_102 : decode cX11_readHas 102 = .ok (.putfield 212, 3) := by decide +kernel
theorem dX11_readHas_105 : decode cX11_readHas 105 = .ok (.return_, 1) := by decide +kernel
theorem dX11_readWrite_0 : decode cX11_readWrite 0 = .ok (.aload_n 0, 1) := by decide +kernel
theorem dX11_readWrite_1 : decode cX11_readWrite 1 = .ok (.aload_n 0, 1) := by decide +kernel
theorem dX11_readWrite_2 : decode cX11_readWrite 2 = .ok (.getfield 139, 3) := by decide +kernel
theorem dX11_readWrite_5 : decode cX11_readWrite 5 = .ok (.getfield 224, 3) := by decide +kernel
theorem dX11_readWrite_8 : decode cX11_readWrite 8 = .ok (.bipush 16, 2) := by decide +kernel
theorem dX11_readWrite_10 : decode cX11_readWrite 10 = .ok (.invokevirtual 203, 3) := by decide +kernel
theorem dX11_readWrite_13 : decode cX11_readWrite 13 = .ok (.aload_n 0, 1) := by decide +kernel
theorem dX11_readWrite_14 : decode cX11_readWrite 14 = .ok (.aload_n 0, 1) := by decide +kernel
theorem dX11_readWrite_15 : decode cX11_readWrite 15 = .ok (.getfield 139, 3) := by decide +kernel
theorem dX11_readWrite_18 : decode cX11_readWrite 18 = .ok (.getfield 209, 3) := by decide +kernel
theorem dX11_readWrite_21 : decode cX11_readWrite 21 = .ok (.invokevirtual 215, 3) := by decide +kernel
theorem dX11_readWrite_24 : decode cX11_readWrite 24 = .ok (.istore_n 1, 1) := by decide +kernel
theorem dX11_readWrite_25 : decode cX11_readWrite 25 = .ok (.aload_n 0, 1) := by decide +kernel
theorem dX11_readWrite_26 : decode cX11_readWrite 26 = .ok (.invokevirtual 113, 3) := by decide +kernel
theorem dX11_readWrite_29 : decode cX11_readWrite 29 = .ok (.aload_n 0, 1) := by decide +kernel
theorem dX11_readWrite_30 : decode cX11_readWrite 30 = .ok (.iconst 0, 1) := by decide +kernel
theorem dX11_readWrite_31 : decode cX11_readWrite 31 = .ok (.sipush 9999, 3) := by decide +kernel
theorem dX11_readWrite_34 : decode cX11_readWrite 34 = .ok (.invokevirtual 136, 3) := by decide +kernel
theorem dX11_readWrite_37 : decode cX11_readWrite 37 = .ok (.istore_n 2, 1) := by decide +kernel
theorem dX11_readWrite_38 : decode cX11_readWrite 38 = .ok (.aload_n 0, 1) := by decide +kernel
theorem dX11_readWrite_39 : decode cX11_readWrite 39 = .ok (.getfield 77, 3) := by decide +kernel
theorem dX11_readWrite_42 : decode cX11_readWrite 42 = .ok (.iconst 5, 1) := by decide +kernel
theorem dX11_readWrite_43 : decode cX11_readWrite 43 = .ok (.if_icmp .ne 4, 3) := by decide +kernel
theorem dX11_readWrite_46 : decode cX11_readWrite 46 = .ok (.return_, 1) := by decide +kernel
theorem dX11_readWrite_47 : decode cX11_readWrite 47 = .ok (.aload_n 0, 1) := by decide +kernel
theorem dX11_readWrite_48 : decode cX11_readWrite 48 = .ok (.getfield 139, 3) := by decide +kernel
theorem dX11_readWrite_51 : decode cX11_readWrite 51 = .ok (.getfield 227, 3) := by decide +kernel
theorem dX11_readWrite_54 : decode cX11_readWrite 54 = .ok (.aload_n 0, 1) := by decide +kernel
theorem dX11_readWrite_55 : decode cX11_readWrite 55 = .ok (.getfield 139, 3) := by decide +kernel
theorem dX11_readWrite_58 : decode cX11_readWrite 58 = .ok (.getfield 224, 3) := by decide +kernel
theorem dX11_readWrite_61 : decode cX11_readWrite 61 = .ok (.iload_n 1, 1) := by decide +kernel
theorem dX11_readWrite_62 : decode cX11_readWrite 62 = .ok (.iastore, 1) := by decide +kernel
theorem dX11_readWrite_63 : decode cX11_readWrite 63 = .ok (.aload_n 0, 1) := by decide +kernel
theorem dX11_readWrite_64 : decode cX11_readWrite 64 = .ok (.getfield 139, 3) := by decide +kernel
theorem dX11_readWrite_67 : decode cX11_readWrite 67 = .ok (.getfield 230, 3) := by decide +kernel
theorem dX11_readWrite_70 : decode cX11_readWrite 70 = .ok (.aload_n 0, 1) := by decide +kernel
theorem dX11_readWrite_71 : decode cX11_readWrite 71 = .ok (.getfield 139, 3) := by decide +kernel
theorem dX11_readWrite_74 : decode cX11_readWrite 74 = .ok (.getfield 224, 3) := by decide +kernel
theorem dX11_readWrite_77 : decode cX11_readWrite 77 = .ok (.iload_n 2, 1) := by decide +kernel
theorem dX11_readWrite_78 : decode cX11_readWrite 78 = .ok (.iastore, 1) := by decide +kernel
theorem dX11_readWrite_79 : decode cX11_readWrite 79 = .ok (.aload_n 0, 1) := by decide +kernel
theorem dX11_readWrite_80 : decode cX11_readWrite 80 = .ok (.getfield 139, 3) := by decide +kernel
theorem dX11_readWrite_83 : decode cX11_readWrite 83 = .ok (.dup, 1) := by decide +kernel
theorem dX11_readWrite_84 : decode cX11_readWrite 84 = .ok (.getfield 224, 3) := by decide +kernel
theorem dX11_readWrite_87 : decode cX11_readWrite 87 = .ok (.iconst 1, 1) := by decide +kernel
theorem dX11_readWrite_88 : decode cX11_readWrite 88 = .ok (.iadd, 1) := by decide +kernel
theorem dX11_readWrite_89 : decode cX11_readWrite 89 = .ok (.putfield 224, 3) := by decide +kernel
theorem dX11_readWrite_92 : decode cX11_readWrite 92 = .ok (.return_, 1) := by decide +kernel
theorem dX11_readUnsure_0 : decode cX11_readUnsure 0 = .ok (.aload_n 0, 1) := by decide +kernel
theorem dX11_readUnsure_1 : decode cX11_readUnsure 1 = .ok (.aload_n 0, 1) := by decide +kernel
theorem dX11_readUnsure_2 : decode cX11_readUnsure 2 = .ok (.getfield 139, 3) := by decide +kernel
theorem dX11_readUnsure_5 : decode cX11_readUnsure 5 = .ok (.getfield 233, 3) := by decide +kernel
theorem dX11_readUnsure_8 : decode cX11_readUnsure 8 = .ok (.iconst 4, 1) := by decide +kernel
theorem dX11_readUnsure_9 : decode cX11_readUnsure 9 = .ok (.invokevirtual 203, 3) := by decide +kernel
theorem dX11_readUnsure_12 : decode cX11_readUnsure 12 = .ok (.aload_n 0, 1) := by decide +kernel
theorem dX11_readUnsure_13 : decode cX11_readUnsure 13 = .ok (.aload_n 0, 1) := by decide +kernel
theorem dX11_readUnsure_14 : decode cX11_readUnsure 14 = .ok (.getfield 139, 3) := by decide +kernel
theorem dX11_readUnsure_17 : decode cX11_readUnsure 17 = .ok (.getfield 224, 3) := by decide +kernel
theorem dX11_readUnsure_20 : decode cX11_readUnsure 20 = .ok (.invokevirtual 215, 3) := by decide +kernel
theorem dX11_readUnsure_23 : decode cX11_readUnsure 23 = .ok (.istore_n 1, 1) := by decide +kernel
theorem dX11_readUnsure_24 : decode cX11_readUnsure 24 = .ok (.aload_n 0, 1) := by decide +kernel
theorem dX11_readUnsure_25 : decode cX11_readUnsure 25 = .ok (.getfield 77, 3) := by decide +kernel
theorem dX11_readUnsure_28 : decode cX11_readUnsure 28 = .ok (.iconst 5, 1) := by decide +kernel
theorem dX11_readUnsure_29 : decode cX11_readUnsure 29 = .ok (.if_icmp .eq 29, 3) := by decide +kernel
theorem dX11_readUnsure_32 : decode cX11_readUnsure 32 = .ok (.aload_n 0, 1) := by decide +kernel
theorem dX11_readUnsure_33 : decode cX11_readUnsure 33 = .ok (.getfield 139, 3) := by decide +kernel
theorem dX11_readUnsure_36 : decode cX11_readUnsure 36 = .ok (.getfield 236, 3) := by decide +kernel
theorem dX11_readUnsure_39 : decode cX11_readUnsure 39 = .ok (.aload_n 0, 1) := by decide +kernel
theorem dX11_readUnsure_40 : decode cX11_readUnsure 40 = .ok (.getfield 139, 3) := by decide +kernel
theorem dX11_readUnsure_43 : decode cX11_readUnsure 43 = .ok (.getfield 233, 3) := by decide +kernel
theorem dX11_readUnsure_46 : decode cX11_readUnsure 46 = .ok (.iload_n 1, 1) := by decide +kernel
theorem dX11_readUnsure_47 : decode cX11_readUnsure 47 = .ok (.invokestatic 238, 3) := by decide +kernel
theorem dX11_readUnsure_50 : decode cX11_readUnsure 50 = .ok (.ifCond .eq 8, 3) := by decide +kernel
theorem dX11_readUnsure_53 : decode cX11_readUnsure 53 = .ok (.aload_n 0, 1) := by decide +kernel
theorem dX11_readUnsure_54 : decode cX11_readUnsure 54 = .ok (.iconst 3, 1) := by decide +kernel
theorem dX11_readUnsure_55 : decode cX11_readUnsure 55 = .ok (.invokevirtual 120, 3) := by decide +kernel
theorem dX11_readUnsure_58 : decode cX11_readUnsure 58 = .ok (.aload_n 0, 1) := by decide +kernel
theorem dX11_readUnsure_59 : decode cX11_readUnsure 59 = .ok (.invokevirtual 113, 3) := by decide +kernel
theorem dX11_readUnsure_62 : decode cX11_readUnsure 62 = .ok (.aload_n 0, 1) := by decide +kernel
theorem dX11_readUnsure_63 : decode cX11_readUnsure 63 = .ok (.iconst 0, 1) := by decide +kernel
theorem dX11_readUnsure_64 : decode cX11_readUnsure 64 = .ok (.sipush 9999, 3) := by decide +kernel
theorem dX11_readUnsure_67 : decode cX11_readUnsure 67 = .ok (.invokevirtual 136, 3) := by decide +kernel
theorem dX11_readUnsure_70 : decode cX11_readUnsure 70 = .ok (.istore_n 2, 1) := by decide +kernel
theorem dX11_readUnsure_71 : decode cX11_readUnsure 71 = .ok (.aload_n 0, 1) := by decide +kernel
theorem dX11_readUnsure_72 : decode cX11_readUnsure 72 = .ok (.getfield 77, 3) := by decide +kernel
theorem dX11_readUnsure_75 : decode cX11_readUnsure 75 = .ok (.iconst 5, 1) := by decide +kernel
theorem dX11_readUnsure_76 : decode cX11_readUnsure 76 = .ok (.if_icmp .ne 4, 3) := by decide +kernel
theorem dX11_readUnsure_79 : decode cX11_readUnsure 79 = .ok (.return_, 1) := by decide +kernel
theorem dX11_readUnsure_80 : decode cX11_readUnsure 80 = .ok (.aload_n 0, 1) := by decide +kernel
theorem dX11_readUnsure_81 : decode cX11_readUnsure 81 = .ok (.getfield 139, 3) := by decide +kernel
theorem dX11_readUnsure_84 : decode cX11_readUnsure 84 = .ok (.getfield 236, 3) := by decide +kernel
theorem dX11_readUnsure_87 : decode cX11_readUnsure 87 = .ok (.aload_n 0, 1) := by decide +kernel
theorem dX11_readUnsure_88 : decode cX11_readUnsure 88 = .ok (.getfield 139, 3) := by decide +kernel
theorem dX11_readUnsure_91 : decode cX11_readUnsure 91 = .ok (.getfield 233, 3) := by decide +kernel
theorem dX11_readUnsure_94 : decode cX11_readUnsure 94 = .ok (.iload_n 1, 1) := by decide +kernel
theorem dX11_readUnsure_95 : decode cX11_readUnsure 95 = .ok (.iastore, 1) := by decide +kernel
theorem dX11_readUnsure_96 : decode cX11_readUnsure 96 = .ok (.aload_n 0, 1) := by decide +kernel
theorem dX11_readUnsure_97 : decode cX11_readUnsure 97 = .ok (.getfield 139, 3) := by decide +kernel
theorem dX11_readUnsure_100 : decode cX11_readUnsure 100 = .ok (.getfield 242, 3) := by decide +kernel
theorem dX11_readUnsure_103 : decode cX11_readUnsure 103 = .ok (.aload_n 0, 1) := by decide +kernel
theorem dX11_readUnsure_104 : decode cX11_readUnsure 104 = .ok (.getfield 139, 3) := by decide +kernel
theorem dX11_readUnsure_107 : decode cX11_readUnsure 107 = .ok (.getfield 233, 3) := by decide +kernel
theorem dX11_readUnsure_110 : decode cX11_readUnsure 110 = .ok (.iload_n 2, 1) := by decide +kernel
theorem dX11_readUnsure_111 : decode cX11_readUnsure 111 = .ok (.iastore, 1) := by decide +kernel
theorem dX11_readUnsure_112 : decode cX11_readUnsure 112 = .ok (.aload_n 0, 1) := by decide +kernel
theorem dX11_readUnsure_113 : decode cX11_readUnsure 113 = .ok (.getfield 139, 3) := by decide +kernel
theorem dX11_readUnsure_116 : decode cX11_readUnsure 116 = .ok (.dup, 1) := by decide +kernel
theorem dX11_readUnsure_117 : decode cX11_readUnsure 117 = .ok (.getfield 233, 3) := by decide +kernel
theorem dX11_readUnsure_120 : decode cX11_readUnsure 120 = .ok (.iconst 1, 1) := by decide +kernel
theorem dX11_readUnsure_121 : decode cX11_readUnsure 121 = .ok (.iadd, 1) := by decide +kernel
theorem dX11_readUnsure_122 : decode cX11_readUnsure 122 = .ok (.putfield 233, 3) := by decide +kernel
theorem dX11_readUnsure_125 : decode cX11_readUnsure 125 = .ok (.return_, 1) := by decide +kernel
theorem dX11_readRead_0 : decode cX11_readRead 0 = .ok (.aload_n 0, 1) := by decide +kernel
theorem dX11_readRead_1 : decode cX11_readRead 1 = .ok (.aload_n 0, 1) := by decide +kernel
theorem dX11_readRead_2 : decode cX11_readRead 2 = .ok (.getfield 139, 3) := by decide +kernel
theorem dX11_readRead_5 : decode cX11_readRead 5 = .ok (.getfield 245, 3) := by decide +kernel
theorem dX11_readRead_8 : decode cX11_readRead 8 = .ok (.bipush 6, 2) := by decide +kernel
theorem dX11_readRead_10 : decode cX11_readRead 10 = .ok (.invokevirtual 203, 3) := by decide +kernel
theorem dX11_readRead_13 : decode cX11_readRead 13 = .ok (.aload_n 0, 1) := by decide +kernel
theorem dX11_readRead_14 : decode cX11_readRead 14 = .ok (.aload_n 0, 1) := by decide +kernel
theorem dX11_readRead_15 : decode cX11_readRead 15 = .ok (.getfield 139, 3) := by decide +kernel
theorem dX11_readRead_18 : decode cX11_readRead 18 = .ok (.getfield 209, 3) := by decide +kernel
theorem dX11_readRead_21 : decode cX11_readRead 21 = .ok (.invokevirtual 215, 3) := by decide +kernel
theorem dX11_readRead_24 : decode cX11_readRead 24 = .ok (.istore_n 1, 1) := by decide +kernel
theorem dX11_readRead_25 : decode cX11_readRead 25 = .ok (.aload_n 0, 1) := by decide +kernel
theorem dX11_readRead_26 : decode cX11_readRead 26 = .ok (.getfield 77, 3) := by decide +kernel
theorem dX11_readRead_29 : decode cX11_readRead 29 = .ok (.iconst 5, 1) := by decide +kernel
theorem dX11_readRead_30 : decode cX11_readRead 30 = .ok (.if_icmp .eq 29, 3) := by decide +kernel
theorem dX11_readRead_33 : decode cX11_readRead 33 = .ok (.aload_n 0, 1) := by decide +kernel
theorem dX11_readRead_34 : decode cX11_readRead 34 = .ok (.getfield 139, 3) := by decide +kernel
theorem dX11_readRead_37 : decode cX11_readRead 37 = .ok (.getfield 248, 3) := by decide +kernel
theorem dX11_readRead_40 : decode cX11_readRead 40 = .ok (.aload_n 0, 1) := by decide +kernel
theorem dX11_readRead_41 : decode cX11_readRead 41 = .ok (.getfield 139, 3) := by decide +kernel
theorem dX11_readRead_44 : decode cX11_readRead 44 = .ok (.getfield 245, 3) := by decide +kernel
theorem dX11_readRead_47 : decode cX11_readRead 47 = .ok (.iload_n 1, 1) := by decide +kernel
theorem dX11_readRead_48 : decode cX11_readRead 48 = .ok (.invokestatic 238, 3) := by decide +kernel
theorem dX11_readRead_51 : decode cX11_readRead 51 = .ok (.ifCond .eq 8, 3) := by decide +kernel
theorem dX11_readRead_54 : decode cX11_readRead 54 = .ok (.aload_n 0, 1) := by decide +kernel
theorem dX11_readRead_55 : decode cX11_readRead 55 = .ok (.iconst 3, 1) := by decide +kernel
theorem dX11_readRead_56 : decode cX11_readRead 56 = .ok (.invokevirtual 120, 3) := by decide +kernel
theorem dX11_readRead_59 : decode cX11_readRead 59 = .ok (.aload_n 0, 1) := by decide +kernel
theorem dX11_readRead_60 : decode cX11_readRead 60 = .ok (.invokevirtual 113, 3) := by decide +kernel
theorem dX11_readRead_63 : decode cX11_readRead 63 = .ok (.aload_n 0, 1) := by decide +kernel
theorem dX11_readRead_64 : decode cX11_readRead 64 = .ok (.iconst 0, 1) := by decide +kernel
theorem dX11_readRead_65 : decode cX11_readRead 65 = .ok (.sipush 9999, 3) := by decide +kernel
theorem dX11_readRead_68 : decode cX11_readRead 68 = .ok (.invokevirtual 136, 3) := by decide +kernel
theorem dX11_readRead_71 : decode cX11_readRead 71 = .ok (.istore_n 2, 1) := by decide +kernel
theorem dX11_readRead_72 : decode cX11_readRead 72 = .ok (.aload_n 0, 1) := by decide +kernel
theorem dX11_readRead_73 : decode cX11_readRead 73 = .ok (.getfield 77, 3) := by decide +kernel
theorem dX11_readRead_76 : decode cX11_readRead 76 = .ok (.iconst 5, 1) := by decide +kernel
theorem dX11_readRead_77 : decode cX11_readRead 77 = .ok (.if_icmp .ne 4, 3) := by decide +kernel
theorem dX11_readRead_80 : decode cX11_readRead 80 = .ok (.return_, 1) := by decide +kernel
theorem dX11_readRead_81 : decode cX11_readRead 81 = .ok (.aload_n 0, 1) := by decide +kernel
theorem dX11_readRead_82 : decode cX11_readRead 82 = .ok (.getfield 139, 3) := by decide +kernel
theorem dX11_readRead_85 : decode cX11_readRead 85 = .ok (.getfield 248, 3) := by decide +kernel
theorem dX11_readRead_88 : decode cX11_readRead 88 = .ok (.aload_n 0, 1) := by decide +kernel
theorem dX11_readRead_89 : decode cX11_readRead 89 = .ok (.getfield 139, 3) := by decide +kernel
theorem dX11_readRead_92 : decode cX11_readRead 92 = .ok (.getfield 245, 3) := by decide +kernel
theorem dX11_readRead_95 : decode cX11_readRead 95 = .ok (.iload_n 1, 1) := by decide +kernel
theorem dX11_readRead_96 : decode cX11_readRead 96 = .ok (.iastore, 1) := by decide +kernel
theorem dX11_readRead_97 : decode cX11_readRead 97 = .ok (.aload_n 0, 1) := by decide +kernel
theorem dX11_readRead_98 : decode cX11_readRead 98 = .ok (.getfield 139, 3) := by decide +kernel
theorem dX11_readRead_101 : decode cX11_readRead 101 = .ok (.getfield 250, 3) := by decide +kernel
theorem dX11_readRead_104 : decode cX11_readRead 104 = .ok (.aload_n 0, 1) := by decide +kernel
theorem dX11_readRead_105 : decode cX11_readRead 105 = .ok (.getfield 139, 3) := by decide +kernel
theorem dX11_readRead_108 : decode cX11_readRead 108 = .ok (.getfield 245, 3) := by decide +kernel
theorem dX11_readRead_111 : decode cX11_readRead 111 = .ok (.iload_n 2, 1) := by decide +kernel
theorem dX11_readRead_112 : decode cX11_readRead 112 = .ok (.iastore, 1) := by decide +kernel
theorem dX11_readRead_113 : decode cX11_readRead 113 = .ok (.aload_n 0, 1) := by decide +kernel
theorem dX11_readRead_114 : decode cX11_readRead 114 = .ok (.getfield 139, 3) := by decide +kernel
theorem dX11_readRead_117 : decode cX11_readRead 117 = .ok (.dup, 1) := by decide +kernel
theorem dX11_readRead_118 : decode cX11_readRead 118 = .ok (.getfield 245, 3) := by decide +kernel
theorem dX11_readRead_121 : decode cX11_readRead 121 = .ok (.iconst 1, 1) := by decide +kernel
theorem dX11_readRead_122 : decode cX11_readRead 122 = .ok (.iadd, 1) := by decide +kernel
theorem dX11_readRead_123 : decode cX11_readRead 123 = .ok (.putfield 245, 3) := by decide +kernel
theorem dX11_readRead_126 : decode cX11_readRead 126 = .ok (.return_, 1) := by decide +kernel
theorem dX11_feed_0 : decode cX11_feed 0 = .ok (.aload_n 0, 1) := by decide +kernel
theorem dX11_feed_1 : decode cX11_feed 1 = .ok (.iconst 0, 1) := by decide +kernel
theorem dX11_feed_2 : decode cX11_feed 2 = .ok (.putfield 45, 3) := by decide +kernel
theorem dX11_feed_5 : decode cX11_feed 5 = .ok (.aload_n 0, 1) := by decide +kernel
theorem dX11_feed_6 : decode cX11_feed 6 = .ok (.getfield 253, 3) := by decide +kernel
theorem dX11_feed_9 : decode cX11_feed 9 = .ok (.bipush 20, 2) := by decide +kernel
theorem dX11_feed_11 : decode cX11_feed 11 = .ok (.iadd, 1) := by decide +kernel
theorem dX11_feed_12 : decode cX11_feed 12 = .ok (.sipush 700, 3) := by decide +kernel
theorem dX11_feed_15 : decode cX11_feed 15 = .ok (.if_icmp .le 5, 3) := by decide +kernel
theorem dX11_feed_18 : decode cX11_feed 18 = .ok (.iconst (-1), 1) := by decide +kernel
theorem dX11_feed_19 : decode cX11_feed 19 = .ok (.ireturn, 1) := by decide +kernel
theorem dX11_feed_20 : decode cX11_feed 20 = .ok (.iconst 0, 1) := by decide +kernel
theorem dX11_feed_21 : decode cX11_feed 21 = .ok (.istore 6, 2) := by decide +kernel
theorem dX11_feed_23 : decode cX11_feed 23 = .ok (.iload 6, 2) := by decide +kernel
theorem dX11_feed_25 : decode cX11_feed 25 = .ok (.bipush 20, 2) := by decide +kernel
theorem dX11_feed_27 : decode cX11_feed 27 = .ok (.if_icmp .ge 90, 3) := by decide +kernel
theorem dX11_feed_30 : decode cX11_feed 30 = .ok (.iload 6, 2) := by decide +kernel
theorem dX11_feed_32 : decode cX11_feed 32 = .ok (.iconst 4, 1) := by decide +kernel
theorem dX11_feed_33 : decode cX11_feed 33 = .ok (.if_icmp .ge 7, 3) := by decide +kernel
theorem dX11_feed_36 : decode cX11_feed 36 = .ok (.iload_n 1, 1) := by decide +kernel
theorem dX11_feed_37 : decode cX11_feed 37 = .ok (.goto 39, 3) := by decide +kernel
theorem dX11_feed_40 : decode cX11_feed 40 = .ok (.iload 6, 2) := by decide +kernel
theorem dX11_feed_42 : decode cX11_feed 42 = .ok (.bipush 8, 2) := by decide +kernel
theorem dX11_feed_44 : decode cX11_feed 44 = .ok (.if_icmp .ge 7, 3) := by decide +kernel
theorem dX11_feed_47 : decode cX11_feed 47 = .ok (.iload_n 2, 1) := by decide +kernel
theorem dX11_feed_48 : decode cX11_feed 48 = .ok (.goto 28, 3) := by decide +kernel
theorem dX11_feed_51 : decode cX11_feed 51 = .ok (.iload 6, 2) := by decide +kernel
theorem dX11_feed_53 : decode cX11_feed 53 = .ok (.bipush 12, 2) := by decide +kernel
theorem dX11_feed_55 : decode cX11_feed 55 = .ok (.if_icmp .ge 7, 3) := by decide +kernel
theorem dX11_feed_58 : decode cX11_feed 58 = .ok (.iload_n 3, 1) := by decide +kernel
theorem dX11_feed_59 : decode cX11_feed 59 = .ok (.goto 17, 3) := by decide +kernel
theorem dX11_feed_62 : decode cX11_feed 62 = .ok (.iload 6, 2) := by decide +kernel
theorem dX11_feed_64 : decode cX11_feed 64 = .ok (.bipush 16, 2) := by decide +kernel
theorem dX11_feed_66 : decode cX11_feed 66 = .ok (.if_icmp .ge 8, 3) := by decide +kernel
theorem dX11_feed_69 : decode cX11_feed 69 = .ok (.iload 4, 2) := by decide +kernel
theorem dX11_feed_71 : decode cX11_feed 71 = .ok (.goto 5, 3) := by decide +kernel
theorem dX11_feed_74 : decode cX11_feed 74 = .ok (.iload 5, 2) := by decide +kernel
theorem dX11_feed_76 : decode cX11_feed 76 = .ok (.istore 7, 2) := by decide +kernel
theorem dX11_feed_78 : decode cX11_feed 78 = .ok (.aload_n 0, 1) := by decide +kernel
theorem dX11_feed_79 : decode cX11_feed 79 = .ok (.getfield 13, 3) := by decide +kernel
theorem dX11_feed_82 : decode cX11_feed 82 = .ok (.aload_n 0, 1) := by decide +kernel
theorem dX11_feed_83 : decode cX11_feed 83 = .ok (.getfield 253, 3) := by decide +kernel
theorem dX11_feed_86 : decode cX11_feed 86 = .ok (.iload 7, 2) := by decide +kernel
theorem dX11_feed_88 : decode cX11_feed 88 = .ok (.bipush 24, 2) := by decide +kernel
theorem dX11_feed_90 : decode cX11_feed 90 = .ok (.bipush 8, 2) := by decide +kernel
theorem dX11_feed_92 : decode cX11_feed 92 = .ok (.iload 6, 2) := by decide +kernel
theorem dX11_feed_94 : decode cX11_feed 94 = .ok (.iconst 4, 1) := by decide +kernel
theorem dX11_feed_95 : decode cX11_feed 95 = .ok (.irem, 1) := by decide +kernel
theorem dX11_feed_96 : decode cX11_feed 96 = .ok (.imul, 1) := by decide +kernel
theorem dX11_feed_97 : decode cX11_feed 97 = .ok (.isub, 1) := by decide +kernel
theorem dX11_feed_98 : decode cX11_feed 98 = .ok (.ishr, 1) := by decide +kernel
theorem dX11_feed_99 : decode cX11_feed 99 = .ok (.i2b, 1) := by decide +kernel
theorem dX11_feed_100 : decode cX11_feed 100 = .ok (.bastore, 1) := by decide +kernel
theorem dX11_feed_101 : decode cX11_feed 101 = .ok (.aload_n 0, 1) := by decide +kernel
theorem dX11_feed_102 : decode cX11_feed 102 = .ok (.dup, 1) := by decide +kernel
theorem dX11_feed_103 : decode cX11_feed 103 = .ok (.getfield 253, 3) := by decide +kernel
theorem dX11_feed_106 : decode cX11_feed 106 = .ok (.iconst 1, 1) := by decide +kernel
theorem dX11_feed_107 : decode cX11_feed 107 = .ok (.iadd, 1) := by decide +kernel
theorem dX11_feed_108 : decode cX11_feed 108 = .ok (.putfield 253, 3) := by decide +kernel
theorem dX11_feed_111 : decode cX11_feed 111 = .ok (.iinc 6 1, 3) := by decide +kernel
theorem dX11_feed_114 : decode cX11_feed 114 = .ok (.goto (-91), 3) := by decide +kernel
theorem dX11_feed_117 : decode cX11_feed 117 = .ok (.aload_n 0, 1) := by decide +kernel
theorem dX11_feed_118 : decode cX11_feed 118 = .ok (.getfield 253, 3) := by decide +kernel
theorem dX11_feed_121 : decode cX11_feed 121 = .ok (.ireturn, 1) := by decide +kernel
theorem dX11_disk_0 : decode cX11_disk 0 = .ok (.aload_n 0, 1) := by decide +kernel
theorem dX11_disk_1 : decode cX11_disk 1 = .ok (.iconst 0, 1) := by decide +kernel
theorem dX11_disk_2 : decode cX11_disk 2 = .ok (.putfield 45, 3) := by decide +kernel
theorem dX11_disk_5 : decode cX11_disk 5 = .ok (.iload_n 1, 1) := by decide +kernel
theorem dX11_disk_6 : decode cX11_disk 6 = .ok (.ifCond .lt 11, 3) := by decide +kernel
theorem dX11_disk_9 : decode cX11_disk 9 = .ok (.iload_n 1, 1) := by decide +kernel
theorem dX11_disk_10 : decode cX11_disk 10 = .ok (.aload_n 0, 1) := by decide +kernel
theorem dX11_disk_11 : decode cX11_disk 11 = .ok (.getfield 253, 3) := by decide +kernel
theorem dX11_disk_14 : decode cX11_disk 14 = .ok (.if_icmp .le 9, 3) := by decide +kernel
theorem dX11_disk_17 : decode cX11_disk 17 = .ok (.aload_n 0, 1) := by decide +kernel
theorem dX11_disk_18 : decode cX11_disk 18 = .ok (.iconst 2, 1) := by decide +kernel
theorem dX11_disk_19 : decode cX11_disk 19 = .ok (.invokevirtual 51, 3) := by decide +kernel
theorem dX11_disk_22 : decode cX11_disk 22 = .ok (.ireturn, 1) := by decide +kernel
theorem dX11_disk_23 : decode cX11_disk 23 = .ok (.aload_n 0, 1) := by decide +kernel
theorem dX11_disk_24 : decode cX11_disk 24 = .ok (.iload_n 1, 1) := by decide +kernel
theorem dX11_disk_25 : decode cX11_disk 25 = .ok (.putfield 62, 3) := by decide +kernel
theorem dX11_disk_28 : decode cX11_disk 28 = .ok (.aload_n 0, 1) := by decide +kernel
theorem dX11_disk_29 : decode cX11_disk 29 = .ok (.iconst 0, 1) := by decide +kernel
theorem dX11_disk_30 : decode cX11_disk 30 = .ok (.putfield 253, 3) := by decide +kernel
theorem dX11_disk_33 : decode cX11_disk 33 = .ok (.aload_n 0, 1) := by decide +kernel
theorem dX11_disk_34 : decode cX11_disk 34 = .ok (.iconst 0, 1) := by decide +kernel
theorem dX11_disk_35 : decode cX11_disk 35 = .ok (.putfield 80, 3) := by decide +kernel
theorem dX11_disk_38 : decode cX11_disk 38 = .ok (.aload_n 0, 1) := by decide +kernel
theorem dX11_disk_39 : decode cX11_disk 39 = .ok (.iconst 0, 1) := by decide +kernel
theorem dX11_disk_40 : decode cX11_disk 40 = .ok (.putfield 103, 3) := by decide +kernel
theorem dX11_disk_43 : decode cX11_disk 43 = .ok (.aload_n 0, 1) := by decide +kernel
theorem dX11_disk_44 : decode cX11_disk 44 = .ok (.new 144, 3) := by decide +kernel
theorem dX11_disk_47 : decode cX11_disk 47 = .ok (.dup, 1) := by decide +kernel
theorem dX11_disk_48 : decode cX11_disk 48 = .ok (.invokespecial 256, 3) := by decide +kernel
theorem dX11_disk_51 : decode cX11_disk 51 = .ok (.putfield 139, 3) := by decide +kernel
theorem dX11_disk_54 : decode cX11_disk 54 = .ok (.aload_n 0, 1) := by decide +kernel
theorem dX11_disk_55 : decode cX11_disk 55 = .ok (.iconst 0, 1) := by decide +kernel
theorem dX11_disk_56 : decode cX11_disk 56 = .ok (.putfield 77, 3) := by decide +kernel
theorem dX11_disk_59 : decode cX11_disk 59 = .ok (.aload_n 0, 1) := by decide +kernel
theorem dX11_disk_60 : decode cX11_disk 60 = .ok (.invokevirtual 113, 3) := by decide +kernel
theorem dX11_disk_63 : decode cX11_disk 63 = .ok (.aload_n 0, 1) := by decide +kernel
theorem dX11_disk_64 : decode cX11_disk 64 = .ok (.invokevirtual 257, 3) := by decide +kernel
theorem dX11_disk_67 : decode cX11_disk 67 = .ok (.aload_n 0, 1) := by decide +kernel
theorem dX11_disk_68 : decode cX11_disk 68 = .ok (.getfield 103, 3) := by decide +kernel
theorem dX11_disk_71 : decode cX11_disk 71 = .ok (.ifCond .le 18, 3) := by decide +kernel
theorem dX11_disk_74 : decode cX11_disk 74 = .ok (.aload_n 0, 1) := by decide +kernel
theorem dX11_disk_75 : decode cX11_disk 75 = .ok (.iconst 4, 1) := by decide +kernel
theorem dX11_disk_76 : decode cX11_disk 76 = .ok (.putfield 48, 3) := by decide +kernel
theorem dX11_disk_79 : decode cX11_disk 79 = .ok (.aload_n 0, 1) := by decide +kernel
theorem dX11_disk_80 : decode cX11_disk 80 = .ok (.aload_n 0, 1) := by decide +kernel
theorem dX11_disk_81 : decode cX11_disk 81 = .ok (.getfield 106, 3) := by decide +kernel
theorem dX11_disk_84 : decode cX11_disk 84 = .ok (.putfield 9, 3) := by decide +kernel
theorem dX11_disk_87 : decode cX11_disk 87 = .ok (.iconst (-1), 1) := by decide +kernel
theorem dX11_disk_88 : decode cX11_disk 88 = .ok (.ireturn, 1) := by decide +kernel
theorem dX11_disk_89 : decode cX11_disk 89 = .ok (.aload_n 0, 1) := by decide +kernel
theorem dX11_disk_90 : decode cX11_disk 90 = .ok (.aload_n 0, 1) := by decide +kernel
theorem dX11_disk_91 : decode cX11_disk 91 = .ok (.getfield 139, 3) := by decide +kernel
theorem dX11_disk_94 : decode cX11_disk 94 = .ok (.putfield 260, 3) := by decide +kernel
theorem dX11_disk_97 : decode cX11_disk 97 = .ok (.aload_n 0, 1) := by decide +kernel
theorem dX11_disk_98 : decode cX11_disk 98 = .ok (.invokevirtual 262, 3) := by decide +kernel
theorem dX11_disk_101 : decode cX11_disk 101 = .ok (.aload_n 0, 1) := by decide +kernel
theorem dX11_disk_102 : decode cX11_disk 102 = .ok (.invokevirtual 265, 3) := by decide +kernel
theorem dX11_disk_105 : decode cX11_disk 105 = .ok (.aload_n 0, 1) := by decide +kernel
theorem dX11_disk_106 : decode cX11_disk 106 = .ok (.iconst 0, 1) := by decide +kernel
theorem dX11_disk_107 : decode cX11_disk 107 = .ok (.putfield 268, 3) := by decide +kernel
theorem dX11_disk_110 : decode cX11_disk 110 = .ok (.aload_n 0, 1) := by decide +kernel
theorem dX11_disk_111 : decode cX11_disk 111 = .ok (.iconst 0, 1) := by decide +kernel
theorem dX11_disk_112 : decode cX11_disk 112 = .ok (.putfield 271, 3) := by decide +kernel
theorem dX11_disk_115 : decode cX11_disk 115 = .ok (.aload_n 0, 1) := by decide +kernel
theorem dX11_disk_116 : decode cX11_disk 116 = .ok (.aload_n 0, 1) := by decide +kernel
theorem dX11_disk_117 : decode cX11_disk 117 = .ok (.getfield 260, 3) := by decide +kernel
theorem dX11_disk_120 : decode cX11_disk 120 = .ok (.getfield 209, 3) := by decide +kernel
theorem dX11_disk_123 : decode cX11_disk 123 = .ok (.invokevirtual 55, 3) := by decide +kernel
theorem dX11_disk_126 : decode cX11_disk 126 = .ok (.ireturn, 1) := by decide +kernel
theorem dX11_fault_0 : decode cX11_fault 0 = .ok (.aload_n 0, 1) := by decide +kernel
theorem dX11_fault_1 : decode cX11_fault 1 = .ok (.iconst 0, 1) := by decide +kernel
theorem dX11_fault_2 : decode cX11_fault 2 = .ok (.putfield 45, 3) := by decide +kernel
theorem dX11_fault_5 : decode cX11_fault 5 = .ok (.aload_n 0, 1) := by decide +kernel
theorem dX11_fault_6 : decode cX11_fault 6 = .ok (.getfield 103, 3) := by decide +kernel
theorem dX11_fault_9 : decode cX11_fault 9 = .ok (.ireturn, 1) := by decide +kernel
theorem dX11_where_0 : decode cX11_where 0 = .ok (.aload_n 0, 1) := by decide +kernel
theorem dX11_where_1 : decode cX11_where 1 = .ok (.iconst 0, 1) := by decide +kernel
theorem dX11_where_2 : decode cX11_where 2 = .ok (.putfield 45, 3) := by decide +kernel
theorem dX11_where_5 : decode cX11_where 5 = .ok (.aload_n 0, 1) := by decide +kernel
theorem dX11_where_6 : decode cX11_where 6 = .ok (.getfield 9, 3) := by decide +kernel
theorem dX11_where_9 : decode cX11_where 9 = .ok (.ireturn, 1) := by decide +kernel
theorem dX11_bandsAsTold_0 : decode cX11_bandsAsTold 0 = .ok (.aload_n 0, 1) := by decide +kernel
theorem dX11_bandsAsTold_1 : decode cX11_bandsAsTold 1 = .ok (.aload_n 0, 1) := by decide +kernel
theorem dX11_bandsAsTold_2 : decode cX11_bandsAsTold 2 = .ok (.getfield 260, 3) := by decide +kernel
theorem dX11_bandsAsTold_5 : decode cX11_bandsAsTold 5 = .ok (.getfield 155, 3) := by decide +kernel
theorem dX11_bandsAsTold_8 : decode cX11_bandsAsTold 8 = .ok (.putfield 274, 3) := by decide +kernel
theorem dX11_bandsAsTold_11 : decode cX11_bandsAsTold 11 = .ok (.aload_n 0, 1) := by decide +kernel
theorem dX11_bandsAsTold_12 : decode cX11_bandsAsTold 12 = .ok (.aload_n 0, 1) := by decide +kernel
theorem dX11_bandsAsTold_13 : decode cX11_bandsAsTold 13 = .ok (.getfield 260, 3) := by decide +kernel
theorem dX11_bandsAsTold_16 : decode cX11_bandsAsTold 16 = .ok (.getfield 198, 3) := by decide +kernel
theorem dX11_bandsAsTold_19 : decode cX11_bandsAsTold 19 = .ok (.putfield 275, 3) := by decide +kernel
theorem dX11_bandsAsTold_22 : decode cX11_bandsAsTold 22 = .ok (.aload_n 0, 1) := by decide +kernel
theorem dX11_bandsAsTold_23 : decode cX11_bandsAsTold 23 = .ok (.iconst 0, 1) := by decide +kernel
theorem dX11_bandsAsTold_24 : decode cX11_bandsAsTold 24 = .ok (.putfield 278, 3) := by decide +kernel
theorem dX11_bandsAsTold_27 : decode cX11_bandsAsTold 27 = .ok (.iconst 0, 1) := by decide +kernel
theorem dX11_bandsAsTold_28 : decode cX11_bandsAsTold 28 = .ok (.istore_n 1, 1) := by decide +kernel
theorem dX11_bandsAsTold_29 : decode cX11_bandsAsTold 29 = .ok (.iconst 0, 1) := by decide +kernel
theorem dX11_bandsAsTold_30 : decode cX11_bandsAsTold 30 = .ok (.istore_n 2, 1) := by decide +kernel
theorem dX11_bandsAsTold_31 : decode cX11_bandsAsTold 31 = .ok (.iload_n 2, 1) := by decide +kernel
theorem dX11_bandsAsTold_32 : decode cX11_bandsAsTold 32 = .ok (.aload_n 0, 1) := by decide +kernel
theorem dX11_bandsAsTold_33 : decode cX11_bandsAsTold 33 = .ok (.getfield 274, 3) := by decide +kernel
theorem dX11_bandsAsTold_36 : decode cX11_bandsAsTold 36 = .ok (.if_icmp .ge 40, 3) := by decide +kernel
theorem dX11_bandsAsTold_39 : decode cX11_bandsAsTold 39 = .ok (.aload_n 0, 1) := by decide +kernel
theorem dX11_bandsAsTold_40 : decode cX11_bandsAsTold 40 = .ok (.getfield 30, 3) := by decide +kernel
theorem dX11_bandsAsTold_43 : decode cX11_bandsAsTold 43 = .ok (.iload_n 2, 1) := by decide +kernel
theorem dX11_bandsAsTold_44 : decode cX11_bandsAsTold 44 = .ok (.iload_n 1, 1) := by decide +kernel
theorem dX11_bandsAsTold_45 : decode cX11_bandsAsTold 45 = .ok (.iastore, 1) := by decide +kernel
theorem dX11_bandsAsTold_46 : decode cX11_bandsAsTold 46 = .ok (.aload_n 0, 1) := by decide +kernel
theorem dX11_bandsAsTold_47 : decode cX11_bandsAsTold 47 = .ok (.getfield 33, 3) := by decide +kernel
theorem dX11_bandsAsTold_50 : decode cX11_bandsAsTold 50 = .ok (.iload_n 2, 1) := by decide +kernel
theorem dX11_bandsAsTold_51 : decode cX11_bandsAsTold 51 = .ok (.aload_n 0, 1) := by decide +kernel
theorem dX11_bandsAsTold_52 : decode cX11_bandsAsTold 52 = .ok (.getfield 260, 3) := by decide +kernel
theorem dX11_bandsAsTold_55 : decode cX11_bandsAsTold 55 = .ok (.getfield 207, 3) := by decide +kernel
theorem dX11_bandsAsTold_58 : decode cX11_bandsAsTold 58 = .ok (.iload_n 2, 1) := by decide +kernel
theorem dX11_bandsAsTold_59 : decode cX11_bandsAsTold 59 = .ok (.iaload, 1) := by decide +kernel
theorem dX11_bandsAsTold_60 : decode cX11_bandsAsTold 60 = .ok (.iastore, 1) := by decide +kernel
theorem dX11_bandsAsTold_61 : decode cX11_bandsAsTold 61 = .ok (.iload_n 1, 1) := by decide +kernel
theorem dX11_bandsAsTold_62 : decode cX11_bandsAsTold 62 = .ok (.aload_n 0, 1) := by decide +kernel
theorem dX11_bandsAsTold_63 : decode cX11_bandsAsTold 63 = .ok (.getfield 33, 3) := by decide +kernel
theorem dX11_bandsAsTold_66 : decode cX11_bandsAsTold 66 = .ok (.iload_n 2, 1) := by decide +kernel
theorem dX11_bandsAsTold_67 : decode cX11_bandsAsTold 67 = .ok (.iaload, 1) := by decide +kernel
theorem dX11_bandsAsTold_68 : decode cX11_bandsAsTold 68 = .ok (.iadd, 1) := by decide +kernel
theorem dX11_bandsAsTold_69 : decode cX11_bandsAsTold 69 = .ok (.istore_n 1, 1) := by decide +kernel
theorem dX11_bandsAsTold_70 : decode cX11_bandsAsTold 70 = .ok (.iinc 2 1, 3) := by decide +kernel
theorem dX11_bandsAsTold_73 : decode cX11_bandsAsTold 73 = .ok (.goto (-42), 3) := by decide +kernel
theorem dX11_bandsAsTold_76 : decode cX11_bandsAsTold 76 = .ok (.return_, 1) := by decide +kernel
theorem dX11_bandsBySize_0 : decode cX11_bandsBySize 0 = .ok (.aload_n 0, 1) := by decide +kernel
theorem dX11_bandsBySize_1 : decode cX11_bandsBySize 1 = .ok (.iconst 0, 1) := by decide +kernel
theorem dX11_bandsBySize_2 : decode cX11_bandsBySize 2 = .ok (.putfield 274, 3) := by decide +kernel
theorem dX11_bandsBySize_5 : decode cX11_bandsBySize 5 = .ok (.iconst 0, 1) := by decide +kernel
theorem dX11_bandsBySize_6 : decode cX11_bandsBySize 6 = .ok (.istore_n 2, 1) := by decide +kernel
theorem dX11_bandsBySize_7 : decode cX11_bandsBySize 7 = .ok (.iload_n 2, 1) := by decide +kernel
theorem dX11_bandsBySize_8 : decode cX11_bandsBySize 8 = .ok (.aload_n 0, 1) := by decide +kernel
theorem dX11_bandsBySize_9 : decode cX11_bandsBySize 9 = .ok (.getfield 260, 3) := by decide +kernel
theorem dX11_bandsBySize_12 : decode cX11_bandsBySize 12 = .ok (.getfield 209, 3) := by decide +kernel
theorem dX11_bandsBySize_15 : decode cX11_bandsBySize 15 = .ok (.if_icmp .ge 65, 3) := by decide +kernel
theorem dX11_bandsBySize_18 : decode cX11_bandsBySize 18 = .ok (.aload_n 0, 1) := by decide +kernel
theorem dX11_bandsBySize_19 : decode cX11_bandsBySize 19 = .ok (.getfield 30, 3) := by decide +kernel
theorem dX11_bandsBySize_22 : decode cX11_bandsBySize 22 = .ok (.aload_n 0, 1) := by decide +kernel
theorem dX11_bandsBySize_23 : decode cX11_bandsBySize 23 = .ok (.getfield 274, 3) := by decide +kernel
theorem dX11_bandsBySize_26 : decode cX11_bandsBySize 26 = .ok (.iload_n 2, 1) := by decide +kernel
theorem dX11_bandsBySize_27 : decode cX11_bandsBySize 27 = .ok (.iastore, 1) := by decide +kernel
theorem dX11_bandsBySize_28 : decode cX11_bandsBySize 28 = .ok (.aload_n 0, 1) := by decide +kernel
theorem dX11_bandsBySize_29 : decode cX11_bandsBySize 29 = .ok (.getfield 33, 3) := by decide +kernel
theorem dX11_bandsBySize_32 : decode cX11_bandsBySize 32 = .ok (.aload_n 0, 1) := by decide +kernel
theorem dX11_bandsBySize_33 : decode cX11_bandsBySize 33 = .ok (.getfield 274, 3) := by decide +kernel
theorem dX11_bandsBySize_36 : decode cX11_bandsBySize 36 = .ok (.iload_n 2, 1) := by decide +kernel
theorem dX11_bandsBySize_37 : decode cX11_bandsBySize 37 = .ok (.iload_n 1, 1) := by decide +kernel
theorem dX11_bandsBySize_38 : decode cX11_bandsBySize 38 = .ok (.iadd, 1) := by decide +kernel
theorem dX11_bandsBySize_39 : decode cX11_bandsBySize 39 = .ok (.aload_n 0, 1) := by decide +kernel
theorem dX11_bandsBySize_40 : decode cX11_bandsBySize 40 = .ok (.getfield 260, 3) := by decide +kernel
theorem dX11_bandsBySize_43 : decode cX11_bandsBySize 43 = .ok (.getfield 209, 3) := by decide +kernel
theorem dX11_bandsBySize_46 : decode cX11_bandsBySize 46 = .ok (.if_icmp .ge 7, 3) := by decide +kernel
theorem dX11_bandsBySize_49 : decode cX11_bandsBySize 49 = .ok (.iload_n 1, 1) := by decide +kernel
theorem dX11_bandsBySize_50 : decode cX11_bandsBySize 50 = .ok (.goto 12, 3) := by decide +kernel
theorem dX11_bandsBySize_53 : decode cX11_bandsBySize 53 = .ok (.aload_n 0, 1) := by decide +kernel
theorem dX11_bandsBySize_54 : decode cX11_bandsBySize 54 = .ok (.getfield 260, 3) := by decide +kernel
theorem dX11_bandsBySize_57 : decode cX11_bandsBySize 57 = .ok (.getfield 209, 3) := by decide +kernel
theorem dX11_bandsBySize_60 : decode cX11_bandsBySize 60 = .ok (.iload_n 2, 1) := by decide +kernel
theorem dX11_bandsBySize_61 : decode cX11_bandsBySize 61 = .ok (.isub, 1) := by decide +kernel
theorem dX11_bandsBySize_62 : decode cX11_bandsBySize 62 = .ok (.iastore, 1) := by decide +kernel
theorem dX11_bandsBySize_63 : decode cX11_bandsBySize 63 = .ok (.aload_n 0, 1) := by decide +kernel
theorem dX11_bandsBySize_64 : decode cX11_bandsBySize 64 = .ok (.dup, 1) := by decide +kernel
theorem dX11_bandsBySize_65 : decode cX11_bandsBySize 65 = .ok (.getfield 274, 3) := by decide +kernel
theorem dX11_bandsBySize_68 : decode cX11_bandsBySize 68 = .ok (.iconst 1, 1) := by decide +kernel
theorem dX11_bandsBySize_69 : decode cX11_bandsBySize 69 = .ok (.iadd, 1) := by decide +kernel
theorem dX11_bandsBySize_70 : decode cX11_bandsBySize 70 = .ok (.putfield 274, 3) := by decide +kernel
theorem dX11_bandsBySize_73 : decode cX11_bandsBySize 73 = .ok (.iload_n 2, 1) := by decide +kernel
theorem dX11_bandsBySize_74 : decode cX11_bandsBySize 74 = .ok (.iload_n 1, 1) := by decide +kernel
theorem dX11_bandsBySize_75 : decode cX11_bandsBySize 75 = .ok (.iadd, 1) := by decide +kernel
theorem dX11_bandsBySize_76 : decode cX11_bandsBySize 76 = .ok (.istore_n 2, 1) := by decide +kernel
theorem dX11_bandsBySize_77 : decode cX11_bandsBySize 77 = .ok (.goto (-70), 3) := by decide +kernel
theorem dX11_bandsBySize_80 : decode cX11_bandsBySize 80 = .ok (.return_, 1) := by decide +kernel
theorem dX11_works_0 : decode cX11_works 0 = .ok (.iconst 0, 1) := by decide +kernel
theorem dX11_works_1 : decode cX11_works 1 = .ok (.istore_n 1, 1) := by decide +kernel
theorem dX11_works_2 : decode cX11_works 2 = .ok (.iload_n 1, 1) := by decide +kernel
theorem dX11_works_3 : decode cX11_works 3 = .ok (.bipush 110, 2) := by decide +kernel
theorem dX11_works_5 : decode cX11_works 5 = .ok (.if_icmp .ge 21, 3) := by decide +kernel
theorem dX11_works_8 : decode cX11_works 8 = .ok (.aload_n 0, 1) := by decide +kernel
theorem dX11_works_9 : decode cX11_works 9 = .ok (.getfield 21, 3) := by decide +kernel
theorem dX11_works_12 : decode cX11_works 12 = .ok (.iload_n 1, 1) := by decide +kernel
theorem dX11_works_13 : decode cX11_works 13 = .ok (.aload_n 0, 1) := by decide +kernel
theorem dX11_works_14 : decode cX11_works 14 = .ok (.getfield 17, 3) := by decide +kernel
theorem dX11_works_17 : decode cX11_works 17 = .ok (.iload_n 1, 1) := by decide +kernel
theorem dX11_works_18 : decode cX11_works 18 = .ok (.iaload, 1) := by decide +kernel
theorem dX11_works_19 : decode cX11_works 19 = .ok (.iastore, 1) := by decide +kernel
theorem dX11_works_20 : decode cX11_works 20 = .ok (.iinc 1 1, 3) := by decide +kernel
theorem dX11_works_23 : decode cX11_works 23 = .ok (.goto (-21), 3) := by decide +kernel
theorem dX11_works_26 : decode cX11_works 26 = .ok (.aload_n 0, 1) := by decide +kernel
theorem dX11_works_27 : decode cX11_works 27 = .ok (.invokevirtual 281, 3) := by decide +kernel
theorem dX11_works_30 : decode cX11_works 30 = .ok (.return_, 1) := by decide +kernel
theorem dX11_remains_0 : decode cX11_remains 0 = .ok (.iconst 0, 1) := by decide +kernel
theorem dX11_remains_1 : decode cX11_remains 1 = .ok (.istore_n 1, 1) := by decide +kernel
theorem dX11_remains_2 : decode cX11_remains 2 = .ok (.iload_n 1, 1) := by decide +kernel
theorem dX11_remains_3 : decode cX11_remains 3 = .ok (.bipush 110, 2) := by decide +kernel
theorem dX11_remains_5 : decode cX11_remains 5 = .ok (.if_icmp .ge 21, 3) := by decide +kernel
theorem dX11_remains_8 : decode cX11_remains 8 = .ok (.aload_n 0, 1) := by decide +kernel
theorem dX11_remains_9 : decode cX11_remains 9 = .ok (.getfield 17, 3) := by decide +kernel
theorem dX11_remains_12 : decode cX11_remains 12 = .ok (.iload_n 1, 1) := by decide +kernel
theorem dX11_remains_13 : decode cX11_remains 13 = .ok (.aload_n 0, 1) := by decide +kernel
theorem dX11_remains_14 : decode cX11_remains 14 = .ok (.getfield 21, 3) := by decide +kernel
theorem dX11_remains_17 : decode cX11_remains 17 = .ok (.iload_n 1, 1) := by decide +kernel
theorem dX11_remains_18 : decode cX11_remains 18 = .ok (.iaload, 1) := by decide +kernel
theorem dX11_remains_19 : decode cX11_remains 19 = .ok (.iastore, 1) := by decide +kernel
theorem dX11_remains_20 : decode cX11_remains 20 = .ok (.iinc 1 1, 3) := by decide +kernel
theorem dX11_remains_23 : decode cX11_remains 23 = .ok (.goto (-21), 3) := by decide +kernel
theorem dX11_remains_26 : decode cX11_remains 26 = .ok (.return_, 1) := by decide +kernel
theorem dX11_asTold_0 : decode cX11_asTold 0 = .ok (.iconst 0, 1) := by decide +kernel
theorem dX11_asTold_1 : decode cX11_asTold 1 = .ok (.istore_n 1, 1) := by decide +kernel
theorem dX11_asTold_2 : decode cX11_asTold 2 = .ok (.iload_n 1, 1) := by decide +kernel
theorem dX11_asTold_3 : decode cX11_asTold 3 = .ok (.bipush 110, 2) := by decide +kernel
theorem dX11_asTold_5 : decode cX11_asTold 5 = .ok (.if_icmp .ge 39, 3) := by decide +kernel
theorem dX11_asTold_8 : decode cX11_asTold 8 = .ok (.aload_n 0, 1) := by decide +kernel
theorem dX11_asTold_9 : decode cX11_asTold 9 = .ok (.getfield 21, 3) := by decide +kernel
theorem dX11_asTold_12 : decode cX11_asTold 12 = .ok (.iload_n 1, 1) := by decide +kernel
theorem dX11_asTold_13 : decode cX11_asTold 13 = .ok (.iload_n 1, 1) := by decide +kernel
theorem dX11_asTold_14 : decode cX11_asTold 14 = .ok (.aload_n 0, 1) := by decide +kernel
theorem dX11_asTold_15 : decode cX11_asTold 15 = .ok (.getfield 260, 3) := by decide +kernel
theorem dX11_asTold_18 : decode cX11_asTold 18 = .ok (.getfield 209, 3) := by decide +kernel
theorem dX11_asTold_21 : decode cX11_asTold 21 = .ok (.if_icmp .ge 15, 3) := by decide +kernel
theorem dX11_asTold_24 : decode cX11_asTold 24 = .ok (.aload_n 0, 1) := by decide +kernel
theorem dX11_asTold_25 : decode cX11_asTold 25 = .ok (.getfield 260, 3) := by decide +kernel
theorem dX11_asTold_28 : decode cX11_asTold 28 = .ok (.getfield 221, 3) := by decide +kernel
theorem dX11_asTold_31 : decode cX11_asTold 31 = .ok (.iload_n 1, 1) := by decide +kernel
theorem dX11_asTold_32 : decode cX11_asTold 32 = .ok (.iaload, 1) := by decide +kernel
theorem dX11_asTold_33 : decode cX11_asTold 33 = .ok (.goto 4, 3) := by decide +kernel
theorem dX11_asTold_36 : decode cX11_asTold 36 = .ok (.iconst 0, 1) := by decide +kernel
theorem dX11_asTold_37 : decode cX11_asTold 37 = .ok (.iastore, 1) := by decide +kernel
theorem dX11_asTold_38 : decode cX11_asTold 38 = .ok (.iinc 1 1, 3) := by decide +kernel
theorem dX11_asTold_41 : decode cX11_asTold 41 = .ok (.goto (-39), 3) := by decide +kernel
theorem dX11_asTold_44 : decode cX11_asTold 44 = .ok (.aload_n 0, 1) := by decide +kernel
theorem dX11_asTold_45 : decode cX11_asTold 45 = .ok (.invokevirtual 281, 3) := by decide +kernel
theorem dX11_asTold_48 : decode cX11_asTold 48 = .ok (.return_, 1) := by decide +kernel
theorem dX11_bandAt_0 : decode cX11_bandAt 0 = .ok (.iconst 0, 1) := by decide +kernel
theorem dX11_bandAt_1 : decode cX11_bandAt 1 = .ok (.istore_n 2, 1) := by decide +kernel
theorem dX11_bandAt_2 : decode cX11_bandAt 2 = .ok (.iload_n 1, 1) := by decide +kernel
theorem dX11_bandAt_3 : decode cX11_bandAt 3 = .ok (.aload_n 0, 1) := by decide +kernel
theorem dX11_bandAt_4 : decode cX11_bandAt 4 = .ok (.getfield 30, 3) := by decide +kernel
theorem dX11_bandAt_7 : decode cX11_bandAt 7 = .ok (.iload_n 2, 1) := by decide +kernel
theorem dX11_bandAt_8 : decode cX11_bandAt 8 = .ok (.iaload, 1) := by decide +kernel
theorem dX11_bandAt_9 : decode cX11_bandAt 9 = .ok (.aload_n 0, 1) := by decide +kernel
theorem dX11_bandAt_10 : decode cX11_bandAt 10 = .ok (.getfield 33, 3) := by decide +kernel
theorem dX11_bandAt_13 : decode cX11_bandAt 13 = .ok (.iload_n 2, 1) := by decide +kernel
theorem dX11_bandAt_14 : decode cX11_bandAt 14 = .ok (.iaload, 1) := by decide +kernel
theorem dX11_bandAt_15 : decode cX11_bandAt 15 = .ok (.iadd, 1) := by decide +kernel
theorem dX11_bandAt_16 : decode cX11_bandAt 16 = .ok (.if_icmp .lt 9, 3) := by decide +kernel
theorem dX11_bandAt_19 : decode cX11_bandAt 19 = .ok (.iinc 2 1, 3) := by decide +kernel
theorem dX11_bandAt_22 : decode cX11_bandAt 22 = .ok (.goto (-20), 3) := by decide +kernel
theorem dX11_bandAt_25 : decode cX11_bandAt 25 = .ok (.iload_n 2, 1) := by decide +kernel
theorem dX11_bandAt_26 : decode cX11_bandAt 26 = .ok (.ireturn, 1) := by decide +kernel
theorem dX11_isIn_0 : decode cX11_isIn 0 = .ok (.iload_n 1, 1) := by decide +kernel
theorem dX11_isIn_1 : decode cX11_isIn 1 = .ok (.aload_n 0, 1) := by decide +kernel
theorem dX11_isIn_2 : decode cX11_isIn 2 = .ok (.getfield 30, 3) := by decide +kernel
theorem dX11_isIn_5 : decode cX11_isIn 5 = .ok (.iload_n 2, 1) := by decide +kernel
theorem dX11_isIn_6 : decode cX11_isIn 6 = .ok (.iaload, 1) := by decide +kernel
theorem dX11_isIn_7 : decode cX11_isIn 7 = .ok (.if_icmp .lt 24, 3) := by decide +kernel
theorem dX11_isIn_10 : decode cX11_isIn 10 = .ok (.iload_n 1, 1) := by decide +kernel
theorem dX11_isIn_11 : decode cX11_isIn 11 = .ok (.aload_n 0, 1) := by decide +kernel
theorem dX11_isIn_12 : decode cX11_isIn 12 = .ok (.getfield 30, 3) := by decide +kernel
theorem dX11_isIn_15 : decode cX11_isIn 15 = .ok (.iload_n 2, 1) := by decide +kernel
theorem dX11_isIn_16 : decode cX11_isIn 16 = .ok (.iaload, 1) := by decide +kernel
theorem dX11_isIn_17 : decode cX11_isIn 17 = .ok (.aload_n 0, 1) := by decide +kernel
theorem dX11_isIn_18 : decode cX11_isIn 18 = .ok (.getfield 33, 3) := by decide +kernel
theorem dX11_isIn_21 : decode cX11_isIn 21 = .ok (.iload_n 2, 1) := by decide +kernel
theorem dX11_isIn_22 : decode cX11_isIn 22 = .ok (.iaload, 1) := by decide +kernel
theorem dX11_isIn_23 : decode cX11_isIn 23 = .ok (.iadd, 1) := by decide +kernel
theorem dX11_isIn_24 : decode cX11_isIn 24 = .ok (.if_icmp .ge 7, 3) := by decide +kernel
theorem dX11_isIn_27 : decode cX11_isIn 27 = .ok (.iconst 1, 1) := by decide +kernel
theorem dX11_isIn_28 : decode cX11_isIn 28 = .ok (.goto 4, 3) := by decide +kernel
theorem dX11_isIn_31 : decode cX11_isIn 31 = .ok (.iconst 0, 1) := by decide +kernel
theorem dX11_isIn_32 : decode cX11_isIn 32 = .ok (.ireturn, 1) := by decide +kernel
theorem dX11_isLive_0 : decode cX11_isLive 0 = .ok (.iload_n 1, 1) := by decide +kernel
theorem dX11_isLive_1 : decode cX11_isLive 1 = .ok (.iconst 1, 1) := by decide +kernel
theorem dX11_isLive_2 : decode cX11_isLive 2 = .ok (.iadd, 1) := by decide +kernel
theorem dX11_isLive_3 : decode cX11_isLive 3 = .ok (.istore_n 2, 1) := by decide +kernel
theorem dX11_isLive_4 : decode cX11_isLive 4 = .ok (.iload_n 2, 1) := by decide +kernel
theorem dX11_isLive_5 : decode cX11_isLive 5 = .ok (.aload_n 0, 1) := by decide +kernel
theorem dX11_isLive_6 : decode cX11_isLive 6 = .ok (.getfield 21, 3) := by decide +kernel
theorem dX11_isLive_9 : decode cX11_isLive 9 = .ok (.bipush 48, 2) := by decide +kernel
theorem dX11_isLive_11 : decode cX11_isLive 11 = .ok (.iaload, 1) := by decide +kernel
theorem dX11_isLive_12 : decode cX11_isLive 12 = .ok (.if_icmp .ge 32, 3) := by decide +kernel
theorem dX11_isLive_15 : decode cX11_isLive 15 = .ok (.aload_n 0, 1) := by decide +kernel
theorem dX11_isLive_16 : decode cX11_isLive 16 = .ok (.getfield 21, 3) := by decide +kernel
theorem dX11_isLive_19 : decode cX11_isLive 19 = .ok (.bipush 49, 2) := by decide +kernel
theorem dX11_isLive_21 : decode cX11_isLive 21 = .ok (.iload_n 2, 1) := by decide +kernel
theorem dX11_isLive_22 : decode cX11_isLive 22 = .ok (.iadd, 1) := by decide +kernel
theorem dX11_isLive_23 : decode cX11_isLive 23 = .ok (.iaload, 1) := by decide +kernel
theorem dX11_isLive_24 : decode cX11_isLive 24 = .ok (.aload_n 0, 1) := by decide +kernel
theorem dX11_isLive_25 : decode cX11_isLive 25 = .ok (.getfield 21, 3) := by decide +kernel
theorem dX11_isLive_28 : decode cX11_isLive 28 = .ok (.bipush 49, 2) := by decide +kernel
theorem dX11_isLive_30 : decode cX11_isLive 30 = .ok (.iload_n 1, 1) := by decide +kernel
theorem dX11_isLive_31 : decode cX11_isLive 31 = .ok (.iadd, 1) := by decide +kernel
theorem dX11_isLive_32 : decode cX11_isLive 32 = .ok (.iaload, 1) := by decide +kernel
theorem dX11_isLive_33 : decode cX11_isLive 33 = .ok (.if_icmp .ne 5, 3) := by decide +kernel
theorem dX11_isLive_36 : decode cX11_isLive 36 = .ok (.iconst 0, 1) := by decide +kernel
theorem dX11_isLive_37 : decode cX11_isLive 37 = .ok (.ireturn, 1) := by decide +kernel
theorem dX11_isLive_38 : decode cX11_isLive 38 = .ok (.iinc 2 1, 3) := by decide +kernel
theorem dX11_isLive_41 : decode cX11_isLive 41 = .ok (.goto (-37), 3) := by decide +kernel
theorem dX11_isLive_44 : decode cX11_isLive 44 = .ok (.iconst 1, 1) := by decide +kernel
theorem dX11_isLive_45 : decode cX11_isLive 45 = .ok (.ireturn, 1) := by decide +kernel
theorem dX11_liveOf_0 : decode cX11_liveOf 0 = .ok (.aload_n 0, 1) := by decide +kernel
theorem dX11_liveOf_1 : decode cX11_liveOf 1 = .ok (.getfield 21, 3) := by decide +kernel
theorem dX11_liveOf_4 : decode cX11_liveOf 4 = .ok (.bipush 48, 2) := by decide +kernel
theorem dX11_liveOf_6 : decode cX11_liveOf 6 = .ok (.iaload, 1) := by decide +kernel
theorem dX11_liveOf_7 : decode cX11_liveOf 7 = .ok (.iconst 1, 1) := by decide +kernel
theorem dX11_liveOf_8 : decode cX11_liveOf 8 = .ok (.isub, 1) := by decide +kernel
theorem dX11_liveOf_9 : decode cX11_liveOf 9 = .ok (.istore_n 2, 1) := by decide +kernel
theorem dX11_liveOf_10 : decode cX11_liveOf 10 = .ok (.iload_n 2, 1) := by decide +kernel
theorem dX11_liveOf_11 : decode cX11_liveOf 11 = .ok (.ifCond .lt 24, 3) := by decide +kernel
theorem dX11_liveOf_14 : decode cX11_liveOf 14 = .ok (.aload_n 0, 1) := by decide +kernel
theorem dX11_liveOf_15 : decode cX11_liveOf 15 = .ok (.getfield 21, 3) := by decide +kernel
theorem dX11_liveOf_18 : decode cX11_liveOf 18 = .ok (.bipush 49, 2) := by decide +kernel
theorem dX11_liveOf_20 : decode cX11_liveOf 20 = .ok (.iload_n 2, 1) := by decide +kernel
theorem dX11_liveOf_21 : decode cX11_liveOf 21 = .ok (.iadd, 1) := by decide +kernel
theorem dX11_liveOf_22 : decode cX11_liveOf 22 = .ok (.iaload, 1) := by decide +kernel
theorem dX11_liveOf_23 : decode cX11_liveOf 23 = .ok (.iload_n 1, 1) := by decide +kernel
theorem dX11_liveOf_24 : decode cX11_liveOf 24 = .ok (.if_icmp .ne 5, 3) := by decide +kernel
theorem dX11_liveOf_27 : decode cX11_liveOf 27 = .ok (.iload_n 2, 1) := by decide +kernel
theorem dX11_liveOf_28 : decode cX11_liveOf 28 = .ok (.ireturn, 1) := by decide +kernel
theorem dX11_liveOf_29 : decode cX11_liveOf 29 = .ok (.iinc 2 (-1), 3) := by decide +kernel
theorem dX11_liveOf_32 : decode cX11_liveOf 32 = .ok (.goto (-22), 3) := by decide +kernel
theorem dX11_liveOf_35 : decode cX11_liveOf 35 = .ok (.iconst (-1), 1) := by decide +kernel
theorem dX11_liveOf_36 : decode cX11_liveOf 36 = .ok (.ireturn, 1) := by decide +kernel
theorem dX11_readOf_0 : decode cX11_readOf 0 = .ok (.aload_n 0, 1) := by decide +kernel
theorem dX11_readOf_1 : decode cX11_readOf 1 = .ok (.iload_n 1, 1) := by decide +kernel
theorem dX11_readOf_2 : decode cX11_readOf 2 = .ok (.invokevirtual 284, 3) := by decide +kernel
theorem dX11_readOf_5 : decode cX11_readOf 5 = .ok (.istore_n 2, 1) := by decide +kernel
theorem dX11_readOf_6 : decode cX11_readOf 6 = .ok (.iload_n 2, 1) := by decide +kernel
theorem dX11_readOf_7 : decode cX11_readOf 7 = .ok (.iconst (-1), 1) := by decide +kernel
theorem dX11_readOf_8 : decode cX11_readOf 8 = .ok (.if_icmp .ne 12, 3) := by decide +kernel
theorem dX11_readOf_11 : decode cX11_readOf 11 = .ok (.aload_n 0, 1) := by decide +kernel
theorem dX11_readOf_12 : decode cX11_readOf 12 = .ok (.getfield 21, 3) := by decide +kernel
theorem dX11_readOf_15 : decode cX11_readOf 15 = .ok (.iload_n 1, 1) := by decide +kernel
theorem dX11_readOf_16 : decode cX11_readOf 16 = .ok (.iaload, 1) := by decide +kernel
theorem dX11_readOf_17 : decode cX11_readOf 17 = .ok (.goto 12, 3) := by decide +kernel
theorem dX11_readOf_20 : decode cX11_readOf 20 = .ok (.aload_n 0, 1) := by decide +kernel
theorem dX11_readOf_21 : decode cX11_readOf 21 = .ok (.getfield 21, 3) := by decide +kernel
theorem dX11_readOf_24 : decode cX11_readOf 24 = .ok (.bipush 73, 2) := by decide +kernel
theorem dX11_readOf_26 : decode cX11_readOf 26 = .ok (.iload_n 2, 1) := by decide +kernel
theorem dX11_readOf_27 : decode cX11_readOf 27 = .ok (.iadd, 1) := by decide +kernel
theorem dX11_readOf_28 : decode cX11_readOf 28 = .ok (.iaload, 1) := by decide +kernel
theorem dX11_readOf_29 : decode cX11_readOf 29 = .ok (.ireturn, 1) := by decide +kernel
theorem dX11_entriesOf_0 : decode cX11_entriesOf 0 = .ok (.iconst 0, 1) := by decide +kernel
theorem dX11_entriesOf_1 : decode cX11_entriesOf 1 = .ok (.istore_n 3, 1) := by decide +kernel
theorem dX11_entriesOf_2 : decode cX11_entriesOf 2 = .ok (.iconst 0, 1) := by decide +kernel
theorem dX11_entriesOf_3 : decode cX11_entriesOf 3 = .ok (.istore 4, 2) := by decide +kernel
theorem dX11_entriesOf_5 : decode cX11_entriesOf 5 = .ok (.iload 4, 2) := by decide +kernel
theorem dX11_entriesOf_7 : decode cX11_entriesOf 7 = .ok (.aload_n 0, 1) := by decide +kernel
theorem dX11_entriesOf_8 : decode cX11_entriesOf 8 = .ok (.getfield 21, 3) := by decide +kernel
theorem dX11_entriesOf_11 : decode cX11_entriesOf 11 = .ok (.bipush 48, 2) := by decide +kernel
theorem dX11_entriesOf_13 : decode cX11_entriesOf 13 = .ok (.iaload, 1) := by decide +kernel
theorem dX11_entriesOf_14 : decode cX11_entriesOf 14 = .ok (.if_icmp .ge 48, 3) := by decide +kernel
theorem dX11_entriesOf_17 : decode cX11_entriesOf 17 = .ok (.iload_n 3, 1) := by decide +kernel
theorem dX11_entriesOf_18 : decode cX11_entriesOf 18 = .ok (.aload_n 0, 1) := by decide +kernel
theorem dX11_entriesOf_19 : decode cX11_entriesOf 19 = .ok (.aload_n 0, 1) := by decide +kernel
theorem dX11_entriesOf_20 : decode cX11_entriesOf 20 = .ok (.getfield 21, 3) := by decide +kernel
theorem dX11_entriesOf_23 : decode cX11_entriesOf 23 = .ok (.bipush 49, 2) := by decide +kernel
theorem dX11_entriesOf_25 : decode cX11_entriesOf 25 = .ok (.iload 4, 2) := by decide +kernel
theorem dX11_entriesOf_27 : decode cX11_entriesOf 27 = .ok (.iadd, 1) := by decide +kernel
theorem dX11_entriesOf_28 : decode cX11_entriesOf 28 = .ok (.iaload, 1) := by decide +kernel
theorem dX11_entriesOf_29 : decode cX11_entriesOf 29 = .ok (.iload_n 1, 1) := by decide +kernel
theorem dX11_entriesOf_30 : decode cX11_entriesOf 30 = .ok (.invokevirtual 287, 3) := by decide +kernel
theorem dX11_entriesOf_33 : decode cX11_entriesOf 33 = .ok (.ifCond .eq 20, 3) := by decide +kernel
theorem dX11_entriesOf_36 : decode cX11_entriesOf 36 = .ok (.iload_n 2, 1) := by decide +kernel
theorem dX11_entriesOf_37 : decode cX11_entriesOf 37 = .ok (.ifCond .eq 12, 3) := by decide +kernel
theorem dX11_entriesOf_40 : decode cX11_entriesOf 40 = .ok (.aload_n 0, 1) := by decide +kernel
theorem dX11_entriesOf_41 : decode cX11_entriesOf 41 = .ok (.iload 4, 2) := by decide +kernel
theorem dX11_entriesOf_43 : decode cX11_entriesOf 43 = .ok (.invokevirtual 291, 3) := by decide +kernel
theorem dX11_entriesOf_46 : decode cX11_entriesOf 46 = .ok (.ifCond .eq 7, 3) := by decide +kernel
theorem dX11_entriesOf_49 : decode cX11_entriesOf 49 = .ok (.iconst 1, 1) := by decide +kernel
theorem dX11_entriesOf_50 : decode cX11_entriesOf 50 = .ok (.goto 4, 3) := by decide +kernel
theorem dX11_entriesOf_53 : decode cX11_entriesOf 53 = .ok (.iconst 0, 1) := by decide +kernel
theorem dX11_entriesOf_54 : decode cX11_entriesOf 54 = .ok (.iadd, 1) := by decide +kernel
theorem dX11_entriesOf_55 : decode cX11_entriesOf 55 = .ok (.istore_n 3, 1) := by decide +kernel
theorem dX11_entriesOf_56 : decode cX11_entriesOf 56 = .ok (.iinc 4 1, 3) := by decide +kernel
theorem dX11_entriesOf_59 : decode cX11_entriesOf 59 = .ok (.goto (-54), 3) := by decide +kernel
theorem dX11_entriesOf_62 : decode cX11_entriesOf 62 = .ok (.iload_n 3, 1) := by decide +kernel
theorem dX11_entriesOf_63 : decode cX11_entriesOf 63 = .ok (.ireturn, 1) := by decide +kernel
theorem dX11_liveMany_0 : decode cX11_liveMany 0 = .ok (.iconst 0, 1) := by decide +kernel
theorem dX11_liveMany_1 : decode cX11_liveMany 1 = .ok (.istore_n 1, 1) := by decide +kernel
theorem dX11_liveMany_2 : decode cX11_liveMany 2 = .ok (.iconst 0, 1) := by decide +kernel
theorem dX11_liveMany_3 : decode cX11_liveMany 3 = .ok (.istore_n 2, 1) := by decide +kernel
theorem dX11_liveMany_4 : decode cX11_liveMany 4 = .ok (.iload_n 2, 1) := by decide +kernel
theorem dX11_liveMany_5 : decode cX11_liveMany 5 = .ok (.aload_n 0, 1) := by decide +kernel
theorem dX11_liveMany_6 : decode cX11_liveMany 6 = .ok (.getfield 21, 3) := by decide +kernel
theorem dX11_liveMany_9 : decode cX11_liveMany 9 = .ok (.bipush 48, 2) := by decide +kernel
theorem dX11_liveMany_11 : decode cX11_liveMany 11 = .ok (.iaload, 1) := by decide +kernel
theorem dX11_liveMany_12 : decode cX11_liveMany 12 = .ok (.if_icmp .ge 25, 3) := by decide +kernel
theorem dX11_liveMany_15 : decode cX11_liveMany 15 = .ok (.iload_n 1, 1) := by decide +kernel
theorem dX11_liveMany_16 : decode cX11_liveMany 16 = .ok (.aload_n 0, 1) := by decide +kernel
theorem dX11_liveMany_17 : decode cX11_liveMany 17 = .ok (.iload_n 2, 1) := by decide +kernel
theorem dX11_liveMany_18 : decode cX11_liveMany 18 = .ok (.invokevirtual 291, 3) := by decide +kernel
theorem dX11_liveMany_21 : decode cX11_liveMany 21 = .ok (.ifCond .eq 7, 3) := by decide +kernel
theorem dX11_liveMany_24 : decode cX11_liveMany 24 = .ok (.iconst 1, 1) := by decide +kernel
theorem dX11_liveMany_25 : decode cX11_liveMany 25 = .ok (.goto 4, 3) := by decide +kernel
theorem dX11_liveMany_28 : decode cX11_liveMany 28 = .ok (.iconst 0, 1) := by decide +kernel
theorem dX11_liveMany_29 : decode cX11_liveMany 29 = .ok (.iadd, 1) := by decide +kernel
theorem dX11_liveMany_30 : decode cX11_liveMany 30 = .ok (.istore_n 1, 1) := by decide +kernel
theorem dX11_liveMany_31 : decode cX11_liveMany 31 = .ok (.iinc 2 1, 3) := by decide +kernel
theorem dX11_liveMany_34 : decode cX11_liveMany 34 = .ok (.goto (-30), 3) := by decide +kernel
theorem dX11_liveMany_37 : decode cX11_liveMany 37 = .ok (.iload_n 1, 1) := by decide +kernel
theorem dX11_liveMany_38 : decode cX11_liveMany 38 = .ok (.ireturn, 1) := by decide +kernel
theorem dX11_nextBand_0 : decode cX11_nextBand 0 = .ok (.aload_n 0, 1) := by decide +kernel
theorem dX11_nextBand_1 : decode cX11_nextBand 1 = .ok (.getfield 21, 3) := by decide +kernel
theorem dX11_nextBand_4 : decode cX11_nextBand 4 = .ok (.bipush 48, 2) := by decide +kernel
theorem dX11_nextBand_6 : decode cX11_nextBand 6 = .ok (.iaload, 1) := by decide +kernel
theorem dX11_nextBand_7 : decode cX11_nextBand 7 = .ok (.ifCond .ne 6, 3) := by decide +kernel
theorem dX11_nextBand_10 : decode cX11_nextBand 10 = .ok (.bipush (-2), 2) := by decide +kernel
theorem dX11_nextBand_12 : decode cX11_nextBand 12 = .ok (.ireturn, 1) := by decide +kernel
theorem dX11_nextBand_13 : decode cX11_nextBand 13 = .ok (.aload_n 0, 1) := by decide +kernel
theorem dX11_nextBand_14 : decode cX11_nextBand 14 = .ok (.getfield 260, 3) := by decide +kernel
theorem dX11_nextBand_17 : decode cX11_nextBand 17 = .ok (.getfield 200, 3) := by decide +kernel
theorem dX11_nextBand_20 : decode cX11_nextBand 20 = .ok (.ifCond .eq 17, 3) := by decide +kernel
theorem dX11_nextBand_23 : decode cX11_nextBand 23 = .ok (.aload_n 0, 1) := by decide +kernel
theorem dX11_nextBand_24 : decode cX11_nextBand 24 = .ok (.aload_n 0, 1) := by decide +kernel
theorem dX11_nextBand_25 : decode cX11_nextBand 25 = .ok (.getfield 21, 3) := by decide +kernel
theorem dX11_nextBand_28 : decode cX11_nextBand 28 = .ok (.bipush 49, 2) := by decide +kernel
theorem dX11_nextBand_30 : decode cX11_nextBand 30 = .ok (.iaload, 1) := by decide +kernel
theorem dX11_nextBand_31 : decode cX11_nextBand 31 = .ok (.invokevirtual 294, 3) := by decide +kernel
theorem dX11_nextBand_34 : decode cX11_nextBand 34 = .ok (.goto 7, 3) := by decide +kernel
theorem dX11_nextBand_37 : decode cX11_nextBand 37 = .ok (.aload_n 0, 1) := by decide +kernel
theorem dX11_nextBand_38 : decode cX11_nextBand 38 = .ok (.invokevirtual 297, 3) := by decide +kernel
theorem dX11_nextBand_41 : decode cX11_nextBand 41 = .ok (.ireturn, 1) := by decide +kernel
theorem dX11_fullest_0 : decode cX11_fullest 0 = .ok (.iconst 0, 1) := by decide +kernel
theorem dX11_fullest_1 : decode cX11_fullest 1 = .ok (.istore_n 1, 1) := by decide +kernel
theorem dX11_fullest_2 : decode cX11_fullest 2 = .ok (.aload_n 0, 1) := by decide +kernel
theorem dX11_fullest_3 : decode cX11_fullest 3 = .ok (.iconst 0, 1) := by decide +kernel
theorem dX11_fullest_4 : decode cX11_fullest 4 = .ok (.iconst 0, 1) := by decide +kernel
theorem dX11_fullest_5 : decode cX11_fullest 5 = .ok (.invokevirtual 299, 3) := by decide +kernel
theorem dX11_fullest_8 : decode cX11_fullest 8 = .ok (.istore_n 2, 1) := by decide +kernel
theorem dX11_fullest_9 : decode cX11_fullest 9 = .ok (.iconst 1, 1) := by decide +kernel
theorem dX11_fullest_10 : decode cX11_fullest 10 = .ok (.istore_n 3, 1) := by decide +kernel
theorem dX11_fullest_11 : decode cX11_fullest 11 = .ok (.iload_n 3, 1) := by decide +kernel
theorem dX11_fullest_12 : decode cX11_fullest 12 = .ok (.aload_n 0, 1) := by decide +kernel
theorem dX11_fullest_13 : decode cX11_fullest 13 = .ok (.getfield 274, 3) := by decide +kernel
theorem dX11_fullest_16 : decode cX11_fullest 16 = .ok (.if_icmp .ge 31, 3) := by decide +kernel
theorem dX11_fullest_19 : decode cX11_fullest 19 = .ok (.aload_n 0, 1) := by decide +kernel
theorem dX11_fullest_20 : decode cX11_fullest 20 = .ok (.iload_n 3, 1) := by decide +kernel
theorem dX11_fullest_21 : decode cX11_fullest 21 = .ok (.iconst 0, 1) := by decide +kernel
theorem dX11_fullest_22 : decode cX11_fullest 22 = .ok (.invokevirtual 299, 3) := by decide +kernel
theorem dX11_fullest_25 : decode cX11_fullest 25 = .ok (.istore 4, 2) := by decide +kernel
theorem dX11_fullest_27 : decode cX11_fullest 27 = .ok (.iload 4, 2) := by decide +kernel
theorem dX11_fullest_29 : decode cX11_fullest 29 = .ok (.iload_n 2, 1) := by decide +kernel
theorem dX11_fullest_30 : decode cX11_fullest 30 = .ok (.if_icmp .gt 6, 3) := by decide +kernel
theorem dX11_fullest_33 : decode cX11_fullest 33 = .ok (.goto 8, 3) := by decide +kernel
theorem dX11_fullest_36 : decode cX11_fullest 36 = .ok (.iload 4, 2) := by decide +kernel
theorem dX11_fullest_38 : decode cX11_fullest 38 = .ok (.istore_n 2, 1) := by decide +kernel
theorem dX11_fullest_39 : decode cX11_fullest 39 = .ok (.iload_n 3, 1) := by decide +kernel
theorem dX11_fullest_40 : decode cX11_fullest 40 = .ok (.istore_n 1, 1) := by decide +kernel
theorem dX11_fullest_41 : decode cX11_fullest 41 = .ok (.iinc 3 1, 3) := by decide +kernel
theorem dX11_fullest_44 : decode cX11_fullest 44 = .ok (.goto (-33), 3) := by decide +kernel
theorem dX11_fullest_47 : decode cX11_fullest 47 = .ok (.iload_n 1, 1) := by decide +kernel
theorem dX11_fullest_48 : decode cX11_fullest 48 = .ok (.ireturn, 1) := by decide +kernel
theorem dX11_taken_0 : decode cX11_taken 0 = .ok (.iconst 0, 1) := by decide +kernel
theorem dX11_taken_1 : decode cX11_taken 1 = .ok (.istore_n 2, 1) := by decide +kernel
theorem dX11_taken_2 : decode cX11_taken 2 = .ok (.iconst 0, 1) := by decide +kernel
theorem dX11_taken_3 : decode cX11_taken 3 = .ok (.istore_n 3, 1) := by decide +kernel
theorem dX11_taken_4 : decode cX11_taken 4 = .ok (.iload_n 3, 1) := by decide +kernel
theorem dX11_taken_5 : decode cX11_taken 5 = .ok (.aload_n 0, 1) := by decide +kernel
theorem dX11_taken_6 : decode cX11_taken 6 = .ok (.getfield 21, 3) := by decide +kernel
theorem dX11_taken_9 : decode cX11_taken 9 = .ok (.bipush 48, 2) := by decide +kernel
theorem dX11_taken_11 : decode cX11_taken 11 = .ok (.iaload, 1) := by decide +kernel
theorem dX11_taken_12 : decode cX11_taken 12 = .ok (.if_icmp .ge 55, 3) := by decide +kernel
theorem dX11_taken_15 : decode cX11_taken 15 = .ok (.aload_n 0, 1) := by decide +kernel
theorem dX11_taken_16 : decode cX11_taken 16 = .ok (.aload_n 0, 1) := by decide +kernel
theorem dX11_taken_17 : decode cX11_taken 17 = .ok (.getfield 21, 3) := by decide +kernel
theorem dX11_taken_20 : decode cX11_taken 20 = .ok (.bipush 49, 2) := by decide +kernel
theorem dX11_taken_22 : decode cX11_taken 22 = .ok (.iload_n 3, 1) := by decide +kernel
theorem dX11_taken_23 : decode cX11_taken 23 = .ok (.iadd, 1) := by decide +kernel
theorem dX11_taken_24 : decode cX11_taken 24 = .ok (.iaload, 1) := by decide +kernel
theorem dX11_taken_25 : decode cX11_taken 25 = .ok (.iload_n 1, 1) := by decide +kernel
theorem dX11_taken_26 : decode cX11_taken 26 = .ok (.invokevirtual 287, 3) := by decide +kernel
theorem dX11_taken_29 : decode cX11_taken 29 = .ok (.ifCond .eq 6, 3) := by decide +kernel
theorem dX11_taken_32 : decode cX11_taken 32 = .ok (.goto 29, 3) := by decide +kernel
theorem dX11_taken_35 : decode cX11_taken 35 = .ok (.aload_n 0, 1) := by decide +kernel
theorem dX11_taken_36 : decode cX11_taken 36 = .ok (.iload_n 2, 1) := by decide +kernel
theorem dX11_taken_37 : decode cX11_taken 37 = .ok (.aload_n 0, 1) := by decide +kernel
theorem dX11_taken_38 : decode cX11_taken 38 = .ok (.getfield 21, 3) := by decide +kernel
theorem dX11_taken_41 : decode cX11_taken 41 = .ok (.bipush 49, 2) := by decide +kernel
theorem dX11_taken_43 : decode cX11_taken 43 = .ok (.iload_n 3, 1) := by decide +kernel
theorem dX11_taken_44 : decode cX11_taken 44 = .ok (.iadd, 1) := by decide +kernel
theorem dX11_taken_45 : decode cX11_taken 45 = .ok (.iaload, 1) := by decide +kernel
theorem dX11_taken_46 : decode cX11_taken 46 = .ok (.aload_n 0, 1) := by decide +kernel
theorem dX11_taken_47 : decode cX11_taken 47 = .ok (.getfield 21, 3) := by decide +kernel
theorem dX11_taken_50 : decode cX11_taken 50 = .ok (.bipush 73, 2) := by decide +kernel
theorem dX11_taken_52 : decode cX11_taken 52 = .ok (.iload_n 3, 1) := by decide +kernel
theorem dX11_taken_53 : decode cX11_taken 53 = .ok (.iadd, 1) := by decide +kernel
theorem dX11_taken_54 : decode cX11_taken 54 = .ok (.iaload, 1) := by decide +kernel
theorem dX11_taken_55 : decode cX11_taken 55 = .ok (.invokevirtual 303, 3) := by decide +kernel
theorem dX11_taken_58 : decode cX11_taken 58 = .ok (.iinc 2 1, 3) := by decide +kernel
theorem dX11_taken_61 : decode cX11_taken 61 = .ok (.iinc 3 1, 3) := by decide +kernel
theorem dX11_taken_64 : decode cX11_taken 64 = .ok (.goto (-60), 3) := by decide +kernel
theorem dX11_taken_67 : decode cX11_taken 67 = .ok (.iload_n 2, 1) := by decide +kernel
theorem dX11_taken_68 : decode cX11_taken 68 = .ok (.istore_n 3, 1) := by decide +kernel
theorem dX11_taken_69 : decode cX11_taken 69 = .ok (.iload_n 3, 1) := by decide +kernel
theorem dX11_taken_70 : decode cX11_taken 70 = .ok (.bipush 24, 2) := by decide +kernel
theorem dX11_taken_72 : decode cX11_taken 72 = .ok (.if_icmp .ge 16, 3) := by decide +kernel
theorem dX11_taken_75 : decode cX11_taken 75 = .ok (.aload_n 0, 1) := by decide +kernel
theorem dX11_taken_76 : decode cX11_taken 76 = .ok (.iload_n 3, 1) := by decide +kernel
theorem dX11_taken_77 : decode cX11_taken 77 = .ok (.iconst 0, 1) := by decide +kernel
theorem dX11_taken_78 : decode cX11_taken 78 = .ok (.iconst 0, 1) := by decide +kernel
theorem dX11_taken_79 : decode cX11_taken 79 = .ok (.invokevirtual 303, 3) := by decide +kernel
theorem dX11_taken_82 : decode cX11_taken 82 = .ok (.iinc 3 1, 3) := by decide +kernel
theorem dX11_taken_85 : decode cX11_taken 85 = .ok (.goto (-16), 3) := by decide +kernel
theorem dX11_taken_88 : decode cX11_taken 88 = .ok (.aload_n 0, 1) := by decide +kernel
theorem dX11_taken_89 : decode cX11_taken 89 = .ok (.getfield 21, 3) := by decide +kernel
theorem dX11_taken_92 : decode cX11_taken 92 = .ok (.bipush 48, 2) := by decide +kernel
theorem dX11_taken_94 : decode cX11_taken 94 = .ok (.iload_n 2, 1) := by decide +kernel
theorem dX11_taken_95 : decode cX11_taken 95 = .ok (.iastore, 1) := by decide +kernel
theorem dX11_taken_96 : decode cX11_taken 96 = .ok (.return_, 1) := by decide +kernel
theorem dX11_enters_0 : decode cX11_enters 0 = .ok (.aload_n 0, 1) := by decide +kernel
theorem dX11_enters_1 : decode cX11_enters 1 = .ok (.getfield 21, 3) := by decide +kernel
theorem dX11_enters_4 : decode cX11_enters 4 = .ok (.bipush 49, 2) := by decide +kernel
theorem dX11_enters_6 : decode cX11_enters 6 = .ok (.iload_n 1, 1) := by decide +kernel
theorem dX11_enters_7 : decode cX11_enters 7 = .ok (.iadd, 1) := by decide +kernel
theorem dX11_enters_8 : decode cX11_enters 8 = .ok (.iload_n 2, 1) := by decide +kernel
theorem dX11_enters_9 : decode cX11_enters 9 = .ok (.iastore, 1) := by decide +kernel
theorem dX11_enters_10 : decode cX11_enters 10 = .ok (.aload_n 0, 1) := by decide +kernel
theorem dX11_enters_11 : decode cX11_enters 11 = .ok (.getfield 21, 3) := by decide +kernel
theorem dX11_enters_14 : decode cX11_enters 14 = .ok (.bipush 73, 2) := by decide +kernel
theorem dX11_enters_16 : decode cX11_enters 16 = .ok (.iload_n 1, 1) := by decide +kernel
theorem dX11_enters_17 : decode cX11_enters 17 = .ok (.iadd, 1) := by decide +kernel
theorem dX11_enters_18 : decode cX11_enters 18 = .ok (.iload_n 3, 1) := by decide +kernel
theorem dX11_enters_19 : decode cX11_enters 19 = .ok (.iastore, 1) := by decide +kernel
theorem dX11_enters_20 : decode cX11_enters 20 = .ok (.return_, 1) := by decide +kernel
theorem dX11_stepsOf_0 : decode cX11_stepsOf 0 = .ok (.iconst 2, 1) := by decide +kernel
theorem dX11_stepsOf_1 : decode cX11_stepsOf 1 = .ok (.aload_n 0, 1) := by decide +kernel
theorem dX11_stepsOf_2 : decode cX11_stepsOf 2 = .ok (.getfield 33, 3) := by decide +kernel
theorem dX11_stepsOf_5 : decode cX11_stepsOf 5 = .ok (.iload_n 1, 1) := by decide +kernel
theorem dX11_stepsOf_6 : decode cX11_stepsOf 6 = .ok (.iaload, 1) := by decide +kernel
theorem dX11_stepsOf_7 : decode cX11_stepsOf 7 = .ok (.imul, 1) := by decide +kernel
theorem dX11_stepsOf_8 : decode cX11_stepsOf 8 = .ok (.iconst 2, 1) := by decide +kernel
theorem dX11_stepsOf_9 : decode cX11_stepsOf 9 = .ok (.iadd, 1) := by decide +kernel
theorem dX11_stepsOf_10 : decode cX11_stepsOf 10 = .ok (.ireturn, 1) := by decide +kernel
theorem dX11_laid_0 : decode cX11_laid 0 = .ok (.aload_n 0, 1) := by decide +kernel
theorem dX11_laid_1 : decode cX11_laid 1 = .ok (.getfield 30, 3) := by decide +kernel
theorem dX11_laid_4 : decode cX11_laid 4 = .ok (.iload_n 1, 1) := by decide +kernel
theorem dX11_laid_5 : decode cX11_laid 5 = .ok (.iaload, 1) := by decide +kernel
theorem dX11_laid_6 : decode cX11_laid 6 = .ok (.iload_n 2, 1) := by decide +kernel
theorem dX11_laid_7 : decode cX11_laid 7 = .ok (.iadd, 1) := by decide +kernel
theorem dX11_laid_8 : decode cX11_laid 8 = .ok (.istore 4, 2) := by decide +kernel
theorem dX11_laid_10 : decode cX11_laid 10 = .ok (.aload_n 0, 1) := by decide +kernel
theorem dX11_laid_11 : decode cX11_laid 11 = .ok (.getfield 21, 3) := by decide +kernel
theorem dX11_laid_14 : decode cX11_laid 14 = .ok (.iload 4, 2) := by decide +kernel
theorem dX11_laid_16 : decode cX11_laid 16 = .ok (.iload_n 3, 1) := by decide +kernel
theorem dX11_laid_17 : decode cX11_laid 17 = .ok (.iastore, 1) := by decide +kernel
theorem dX11_laid_18 : decode cX11_laid 18 = .ok (.iconst 1, 1) := by decide +kernel
theorem dX11_laid_19 : decode cX11_laid 19 = .ok (.istore 5, 2) := by decide +kernel
theorem dX11_laid_21 : decode cX11_laid 21 = .ok (.iload 5, 2) := by decide +kernel
theorem dX11_laid_23 : decode cX11_laid 23 = .ok (.aload_n 0, 1) := by decide +kernel
theorem dX11_laid_24 : decode cX11_laid 24 = .ok (.getfield 260, 3) := by decide +kernel
theorem dX11_laid_27 : decode cX11_laid 27 = .ok (.getfield 143, 3) := by decide +kernel
theorem dX11_laid_30 : decode cX11_laid 30 = .ok (.if_icmp .gt 34, 3) := by decide +kernel
theorem dX11_laid_33 : decode cX11_laid 33 = .ok (.aload_n 0, 1) := by decide +kernel
theorem dX11_laid_34 : decode cX11_laid 34 = .ok (.iload 4, 2) := by decide +kernel
theorem dX11_laid_36 : decode cX11_laid 36 = .ok (.iload 5, 2) := by decide +kernel
theorem dX11_laid_38 : decode cX11_laid 38 = .ok (.iadd, 1) := by decide +kernel
theorem dX11_laid_39 : decode cX11_laid 39 = .ok (.iload_n 1, 1) := by decide +kernel
theorem dX11_laid_40 : decode cX11_laid 40 = .ok (.invokevirtual 287, 3) := by decide +kernel
theorem dX11_laid_43 : decode cX11_laid 43 = .ok (.ifCond .eq 21, 3) := by decide +kernel
theorem dX11_laid_46 : decode cX11_laid 46 = .ok (.aload_n 0, 1) := by decide +kernel
theorem dX11_laid_47 : decode cX11_laid 47 = .ok (.getfield 21, 3) := by decide +kernel
theorem dX11_laid_50 : decode cX11_laid 50 = .ok (.iload 4, 2) := by decide +kernel
theorem dX11_laid_52 : decode cX11_laid 52 = .ok (.iload 5, 2) := by decide +kernel
theorem dX11_laid_54 : decode cX11_laid 54 = .ok (.iadd, 1) := by decide +kernel
theorem dX11_laid_55 : decode cX11_laid 55 = .ok (.bipush (-2), 2) := by decide +kernel
theorem dX11_laid_57 : decode cX11_laid 57 = .ok (.iastore, 1) := by decide +kernel
theorem dX11_laid_58 : decode cX11_laid 58 = .ok (.iinc 5 1, 3) := by decide +kernel
theorem dX11_laid_61 : decode cX11_laid 61 = .ok (.goto (-40), 3) := by decide +kernel
theorem dX11_laid_64 : decode cX11_laid 64 = .ok (.aload_n 0, 1) := by decide +kernel
theorem dX11_laid_65 : decode cX11_laid 65 = .ok (.getfield 21, 3) := by decide +kernel
theorem dX11_laid_68 : decode cX11_laid 68 = .ok (.bipush 109, 2) := by decide +kernel
theorem dX11_laid_70 : decode cX11_laid 70 = .ok (.dup2, 1) := by decide +kernel
theorem dX11_laid_71 : decode cX11_laid 71 = .ok (.iaload, 1) := by decide +kernel
theorem dX11_laid_72 : decode cX11_laid 72 = .ok (.iconst 1, 1) := by decide +kernel
theorem dX11_laid_73 : decode cX11_laid 73 = .ok (.iadd, 1) := by decide +kernel
theorem dX11_laid_74 : decode cX11_laid 74 = .ok (.iastore, 1) := by decide +kernel
theorem dX11_laid_75 : decode cX11_laid 75 = .ok (.return_, 1) := by decide +kernel
theorem dX11_emptied_0 : decode cX11_emptied 0 = .ok (.aload_n 0, 1) := by decide +kernel
theorem dX11_emptied_1 : decode cX11_emptied 1 = .ok (.getfield 21, 3) := by decide +kernel
theorem dX11_emptied_4 : decode cX11_emptied 4 = .ok (.bipush 98, 2) := by decide +kernel
theorem dX11_emptied_6 : decode cX11_emptied 6 = .ok (.iconst 0, 1) := by decide +kernel
theorem dX11_emptied_7 : decode cX11_emptied 7 = .ok (.iastore, 1) := by decide +kernel
theorem dX11_emptied_8 : decode cX11_emptied 8 = .ok (.aload_n 0, 1) := by decide +kernel
theorem dX11_emptied_9 : decode cX11_emptied 9 = .ok (.getfield 21, 3) := by decide +kernel
theorem dX11_emptied_12 : decode cX11_emptied 12 = .ok (.bipush 99, 2) := by decide +kernel
theorem dX11_emptied_14 : decode cX11_emptied 14 = .ok (.iconst 0, 1) := by decide +kernel
theorem dX11_emptied_15 : decode cX11_emptied 15 = .ok (.iastore, 1) := by decide +kernel
theorem dX11_emptied_16 : decode cX11_emptied 16 = .ok (.aload_n 0, 1) := by decide +kernel
theorem dX11_emptied_17 : decode cX11_emptied 17 = .ok (.getfield 21, 3) := by decide +kernel
theorem dX11_emptied_20 : decode cX11_emptied 20 = .ok (.bipush 100, 2) := by decide +kernel
theorem dX11_emptied_22 : decode cX11_emptied 22 = .ok (.iconst 0, 1) := by decide +kernel
theorem dX11_emptied_23 : decode cX11_emptied 23 = .ok (.iastore, 1) := by decide +kernel
theorem dX11_emptied_24 : decode cX11_emptied 24 = .ok (.iconst 0, 1) := by decide +kernel
theorem dX11_emptied_25 : decode cX11_emptied 25 = .ok (.istore_n 1, 1) := by decide +kernel
theorem dX11_emptied_26 : decode cX11_emptied 26 = .ok (.iload_n 1, 1) := by decide +kernel
theorem dX11_emptied_27 : decode cX11_emptied 27 = .ok (.bipush 8, 2) := by decide +kernel
theorem dX11_emptied_29 : decode cX11_emptied 29 = .ok (.if_icmp .ge 19, 3) := by decide +kernel
theorem dX11_emptied_32 : decode cX11_emptied 32 = .ok (.aload_n 0, 1) := by decide +kernel
theorem dX11_emptied_33 : decode cX11_emptied 33 = .ok (.getfield 21, 3) := by decide +kernel
theorem dX11_emptied_36 : decode cX11_emptied 36 = .ok (.bipush 101, 2) := by decide +kernel
theorem dX11_emptied_38 : decode cX11_emptied 38 = .ok (.iload_n 1, 1) := by decide +kernel
theorem dX11_emptied_39 : decode cX11_emptied 39 = .ok (.iadd, 1) := by decide +kernel
theorem dX11_emptied_40 : decode cX11_emptied 40 = .ok (.iconst 0, 1) := by decide +kernel
theorem dX11_emptied_41 : decode cX11_emptied 41 = .ok (.iastore, 1) := by decide +kernel
theorem dX11_emptied_42 : decode cX11_emptied 42 = .ok (.iinc 1 1, 3) := by decide +kernel
theorem dX11_emptied_45 : decode cX11_emptied 45 = .ok (.goto (-19), 3) := by decide +kernel
theorem dX11_emptied_48 : decode cX11_emptied 48 = .ok (.return_, 1) := by decide +kernel
theorem dX11_step_0 : decode cX11_step 0 = .ok (.aload_n 0, 1) := by decide +kernel
theorem dX11_step_1 : decode cX11_step 1 = .ok (.getfield 33, 3) := by decide +kernel
theorem dX11_step_4 : decode cX11_step 4 = .ok (.iload_n 1, 1) := by decide +kernel
theorem dX11_step_5 : decode cX11_step 5 = .ok (.iaload, 1) := by decide +kernel
theorem dX11_step_6 : decode cX11_step 6 = .ok (.istore_n 3, 1) := by decide +kernel
theorem dX11_step_7 : decode cX11_step 7 = .ok (.iload_n 2, 1) := by decide +kernel
theorem dX11_step_8 : decode cX11_step 8 = .ok (.iload_n 3, 1) := by decide +kernel
theorem dX11_step_9 : decode cX11_step 9 = .ok (.if_icmp .ge 12, 3) := by decide +kernel
theorem dX11_step_12 : decode cX11_step 12 = .ok (.aload_n 0, 1) := by decide +kernel
theorem dX11_step_13 : decode cX11_step 13 = .ok (.iload_n 1, 1) := by decide +kernel
theorem dX11_step_14 : decode cX11_step 14 = .ok (.iload_n 2, 1) := by decide +kernel
theorem dX11_step_15 : decode cX11_step 15 = .ok (.invokevirtual 307, 3) := by decide +kernel
theorem dX11_step_18 : decode cX11_step 18 = .ok (.goto 57, 3) := by decide +kernel
theorem dX11_step_21 : decode cX11_step 21 = .ok (.iload_n 2, 1) := by decide +kernel
theorem dX11_step_22 : decode cX11_step 22 = .ok (.iload_n 3, 1) := by decide +kernel
theorem dX11_step_23 : decode cX11_step 23 = .ok (.if_icmp .ne 14, 3) := by decide +kernel
theorem dX11_step_26 : decode cX11_step 26 = .ok (.aload_n 0, 1) := by decide +kernel
theorem dX11_step_27 : decode cX11_step 27 = .ok (.getfield 21, 3) := by decide +kernel
theorem dX11_step_30 : decode cX11_step 30 = .ok (.bipush 100, 2) := by decide +kernel
theorem dX11_step_32 : decode cX11_step 32 = .ok (.iconst 1, 1) := by decide +kernel
theorem dX11_step_33 : decode cX11_step 33 = .ok (.iastore, 1) := by decide +kernel
theorem dX11_step_34 : decode cX11_step 34 = .ok (.goto 41, 3) := by decide +kernel
theorem dX11_step_37 : decode cX11_step 37 = .ok (.iload_n 2, 1) := by decide +kernel
theorem dX11_step_38 : decode cX11_step 38 = .ok (.iconst 2, 1) := by decide +kernel
theorem dX11_step_39 : decode cX11_step 39 = .ok (.iload_n 3, 1) := by decide +kernel
theorem dX11_step_40 : decode cX11_step 40 = .ok (.imul, 1) := by decide +kernel
theorem dX11_step_41 : decode cX11_step 41 = .ok (.if_icmp .gt 29, 3) := by decide +kernel
theorem dX11_step_44 : decode cX11_step 44 = .ok (.aload_n 0, 1) := by decide +kernel
theorem dX11_step_45 : decode cX11_step 45 = .ok (.iload_n 1, 1) := by decide +kernel
theorem dX11_step_46 : decode cX11_step 46 = .ok (.iload_n 2, 1) := by decide +kernel
theorem dX11_step_47 : decode cX11_step 47 = .ok (.iload_n 3, 1) := by decide +kernel
theorem dX11_step_48 : decode cX11_step 48 = .ok (.isub, 1) := by decide +kernel
theorem dX11_step_49 : decode cX11_step 49 = .ok (.iconst 1, 1) := by decide +kernel
theorem dX11_step_50 : decode cX11_step 50 = .ok (.isub, 1) := by decide +kernel
theorem dX11_step_51 : decode cX11_step 51 = .ok (.aload_n 0, 1) := by decide +kernel
theorem dX11_step_52 : decode cX11_step 52 = .ok (.getfield 21, 3) := by decide +kernel
theorem dX11_step_55 : decode cX11_step 55 = .ok (.bipush 101, 2) := by decide +kernel
theorem dX11_step_57 : decode cX11_step 57 = .ok (.iload_n 2, 1) := by decide +kernel
theorem dX11_step_58 : decode cX11_step 58 = .ok (.iadd, 1) := by decide +kernel
theorem dX11_step_59 : decode cX11_step 59 = .ok (.iload_n 3, 1) := by decide +kernel
theorem dX11_step_60 : decode cX11_step 60 = .ok (.isub, 1) := by decide +kernel
theorem dX11_step_61 : decode cX11_step 61 = .ok (.iconst 1, 1) := by decide +kernel
theorem dX11_step_62 : decode cX11_step 62 = .ok (.isub, 1) := by decide +kernel
theorem dX11_step_63 : decode cX11_step 63 = .ok (.iaload, 1) := by decide +kernel
theorem dX11_step_64 : decode cX11_step 64 = .ok (.invokevirtual 310, 3) := by decide +kernel
theorem dX11_step_67 : decode cX11_step 67 = .ok (.goto 8, 3) := by decide +kernel
theorem dX11_step_70 : decode cX11_step 70 = .ok (.aload_n 0, 1) := by decide +kernel
theorem dX11_step_71 : decode cX11_step 71 = .ok (.iload_n 1, 1) := by decide +kernel
theorem dX11_step_72 : decode cX11_step 72 = .ok (.invokevirtual 313, 3) := by decide +kernel
theorem dX11_step_75 : decode cX11_step 75 = .ok (.return_, 1) := by decide +kernel
theorem dX11_journaled_0 : decode cX11_journaled 0 = .ok (.aload_n 0, 1) := by decide +kernel
theorem dX11_journaled_1 : decode cX11_journaled 1 = .ok (.getfield 21, 3) := by decide +kernel
theorem dX11_journaled_4 : decode cX11_journaled 4 = .ok (.bipush 98, 2) := by decide +kernel
theorem dX11_journaled_6 : decode cX11_journaled 6 = .ok (.iload_n 1, 1) := by decide +kernel
theorem dX11_journaled_7 : decode cX11_journaled 7 = .ok (.iastore, 1) := by decide +kernel
theorem dX11_journaled_8 : decode cX11_journaled 8 = .ok (.aload_n 0, 1) := by decide +kernel
theorem dX11_journaled_9 : decode cX11_journaled 9 = .ok (.getfield 21, 3) := by decide +kernel
theorem dX11_journaled_12 : decode cX11_journaled 12 = .ok (.bipush 101, 2) := by decide +kernel
theorem dX11_journaled_14 : decode cX11_journaled 14 = .ok (.iload_n 2, 1) := by decide +kernel
theorem dX11_journaled_15 : decode cX11_journaled 15 = .ok (.iadd, 1) := by decide +kernel
theorem dX11_journaled_16 : decode cX11_journaled 16 = .ok (.aload_n 0, 1) := by decide +kernel
theorem dX11_journaled_17 : decode cX11_journaled 17 = .ok (.aload_n 0, 1) := by decide +kernel
theorem dX11_journaled_18 : decode cX11_journaled 18 = .ok (.getfield 30, 3) := by decide +kernel
theorem dX11_journaled_21 : decode cX11_journaled 21 = .ok (.iload_n 1, 1) := by decide +kernel
theorem dX11_journaled_22 : decode cX11_journaled 22 = .ok (.iaload, 1) := by decide +kernel
theorem dX11_journaled_23 : decode cX11_journaled 23 = .ok (.iload_n 2, 1) := by decide +kernel
theorem dX11_journaled_24 : decode cX11_journaled 24 = .ok (.iadd, 1) := by decide +kernel
theorem dX11_journaled_25 : decode cX11_journaled 25 = .ok (.invokevirtual 316, 3) := by decide +kernel
theorem dX11_journaled_28 : decode cX11_journaled 28 = .ok (.iastore, 1) := by decide +kernel
theorem dX11_journaled_29 : decode cX11_journaled 29 = .ok (.aload_n 0, 1) := by decide +kernel
theorem dX11_journaled_30 : decode cX11_journaled 30 = .ok (.getfield 21, 3) := by decide +kernel
theorem dX11_journaled_33 : decode cX11_journaled 33 = .ok (.bipush 99, 2) := by decide +kernel
theorem dX11_journaled_35 : decode cX11_journaled 35 = .ok (.dup2, 1) := by decide +kernel
theorem dX11_journaled_36 : decode cX11_journaled 36 = .ok (.iaload, 1) := by decide +kernel
theorem dX11_journaled_37 : decode cX11_journaled 37 = .ok (.iconst 1, 1) := by decide +kernel
theorem dX11_journaled_38 : decode cX11_journaled 38 = .ok (.iadd, 1) := by decide +kernel
theorem dX11_journaled_39 : decode cX11_journaled 39 = .ok (.iastore, 1) := by decide +kernel
theorem dX11_journaled_40 : decode cX11_journaled 40 = .ok (.aload_n 0, 1) := by decide +kernel
theorem dX11_journaled_41 : decode cX11_journaled 41 = .ok (.getfield 21, 3) := by decide +kernel
theorem dX11_journaled_44 : decode cX11_journaled 44 = .ok (.bipush 109, 2) := by decide +kernel
theorem dX11_journaled_46 : decode cX11_journaled 46 = .ok (.dup2, 1) := by decide +kernel
theorem dX11_journaled_47 : decode cX11_journaled 47 = .ok (.iaload, 1) := by decide +kernel
theorem dX11_journaled_48 : decode cX11_journaled 48 = .ok (.iconst 1, 1) := by decide +kernel
theorem dX11_journaled_49 : decode cX11_journaled 49 = .ok (.iadd, 1) := by decide +kernel
theorem dX11_journaled_50 : decode cX11_journaled 50 = .ok (.iastore, 1) := by decide +kernel
theorem dX11_journaled_51 : decode cX11_journaled 51 = .ok (.return_, 1) := by decide +kernel
theorem dX11_ended_0 : decode cX11_ended 0 = .ok (.aload_n 0, 1) := by decide +kernel
theorem dX11_ended_1 : decode cX11_ended 1 = .ok (.iload_n 1, 1) := by decide +kernel
theorem dX11_ended_2 : decode cX11_ended 2 = .ok (.invokevirtual 319, 3) := by decide +kernel
theorem dX11_ended_5 : decode cX11_ended 5 = .ok (.aload_n 0, 1) := by decide +kernel
theorem dX11_ended_6 : decode cX11_ended 6 = .ok (.invokevirtual 322, 3) := by decide +kernel
theorem dX11_ended_9 : decode cX11_ended 9 = .ok (.return_, 1) := by decide +kernel
theorem dX11_stepsTo_0 : decode cX11_stepsTo 0 = .ok (.iconst 0, 1) := by decide +kernel
theorem dX11_stepsTo_1 : decode cX11_stepsTo 1 = .ok (.istore_n 3, 1) := by decide +kernel
theorem dX11_stepsTo_2 : decode cX11_stepsTo 2 = .ok (.iload_n 3, 1) := by decide +kernel
theorem dX11_stepsTo_3 : decode cX11_stepsTo 3 = .ok (.iload_n 2, 1) := by decide +kernel
theorem dX11_stepsTo_4 : decode cX11_stepsTo 4 = .ok (.if_icmp .ge 15, 3) := by decide +kernel
theorem dX11_stepsTo_7 : decode cX11_stepsTo 7 = .ok (.aload_n 0, 1) := by decide +kernel
theorem dX11_stepsTo_8 : decode cX11_stepsTo 8 = .ok (.iload_n 1, 1) := by decide +kernel
theorem dX11_stepsTo_9 : decode cX11_stepsTo 9 = .ok (.iload_n 3, 1) := by decide +kernel
theorem dX11_stepsTo_10 : decode cX11_stepsTo 10 = .ok (.invokevirtual 325, 3) := by decide +kernel
theorem dX11_stepsTo_13 : decode cX11_stepsTo 13 = .ok (.iinc 3 1, 3) := by decide +kernel
theorem dX11_stepsTo_16 : decode cX11_stepsTo 16 = .ok (.goto (-14), 3) := by decide +kernel
theorem dX11_stepsTo_19 : decode cX11_stepsTo 19 = .ok (.return_, 1) := by decide +kernel
theorem dX11_cleans_0 : decode cX11_cleans 0 = .ok (.aload_n 0, 1) := by decide +kernel
theorem dX11_cleans_1 : decode cX11_cleans 1 = .ok (.iload_n 1, 1) := by decide +kernel
theorem dX11_cleans_2 : decode cX11_cleans 2 = .ok (.iconst 0, 1) := by decide +kernel
theorem dX11_cleans_3 : decode cX11_cleans 3 = .ok (.invokevirtual 299, 3) := by decide +kernel
theorem dX11_cleans_6 : decode cX11_cleans 6 = .ok (.istore_n 2, 1) := by decide +kernel
theorem dX11_cleans_7 : decode cX11_cleans 7 = .ok (.aload_n 0, 1) := by decide +kernel
theorem dX11_cleans_8 : decode cX11_cleans 8 = .ok (.iload_n 1, 1) := by decide +kernel
theorem dX11_cleans_9 : decode cX11_cleans 9 = .ok (.aload_n 0, 1) := by decide +kernel
theorem dX11_cleans_10 : decode cX11_cleans 10 = .ok (.iload_n 1, 1) := by decide +kernel
theorem dX11_cleans_11 : decode cX11_cleans 11 = .ok (.invokevirtual 328, 3) := by decide +kernel
theorem dX11_cleans_14 : decode cX11_cleans 14 = .ok (.invokevirtual 331, 3) := by decide +kernel
theorem dX11_cleans_17 : decode cX11_cleans 17 = .ok (.aload_n 0, 1) := by decide +kernel
theorem dX11_cleans_18 : decode cX11_cleans 18 = .ok (.dup, 1) := by decide +kernel
theorem dX11_cleans_19 : decode cX11_cleans 19 = .ok (.getfield 278, 3) := by decide +kernel
theorem dX11_cleans_22 : decode cX11_cleans 22 = .ok (.iconst 1, 1) := by decide +kernel
theorem dX11_cleans_23 : decode cX11_cleans 23 = .ok (.iadd, 1) := by decide +kernel
theorem dX11_cleans_24 : decode cX11_cleans 24 = .ok (.putfield 278, 3) := by decide +kernel
theorem dX11_cleans_27 : decode cX11_cleans 27 = .ok (.iload_n 2, 1) := by decide +kernel
theorem dX11_cleans_28 : decode cX11_cleans 28 = .ok (.ireturn, 1) := by decide +kernel
theorem dX11_damagedIn_0 : decode cX11_damagedIn 0 = .ok (.iconst 0, 1) := by decide +kernel
theorem dX11_damagedIn_1 : decode cX11_damagedIn 1 = .ok (.istore_n 2, 1) := by decide +kernel
theorem dX11_damagedIn_2 : decode cX11_damagedIn 2 = .ok (.aload_n 0, 1) := by decide +kernel
theorem dX11_damagedIn_3 : decode cX11_damagedIn 3 = .ok (.getfield 30, 3) := by decide +kernel
theorem dX11_damagedIn_6 : decode cX11_damagedIn 6 = .ok (.iload_n 1, 1) := by decide +kernel
theorem dX11_damagedIn_7 : decode cX11_damagedIn 7 = .ok (.iaload, 1) := by decide +kernel
theorem dX11_damagedIn_8 : decode cX11_damagedIn 8 = .ok (.istore_n 3, 1) := by decide +kernel
theorem dX11_damagedIn_9 : decode cX11_damagedIn 9 = .ok (.iload_n 3, 1) := by decide +kernel
theorem dX11_damagedIn_10 : decode cX11_damagedIn 10 = .ok (.aload_n 0, 1) := by decide +kernel
theorem dX11_damagedIn_11 : decode cX11_damagedIn 11 = .ok (.getfield 30, 3) := by decide +kernel
theorem dX11_damagedIn_14 : decode cX11_damagedIn 14 = .ok (.iload_n 1, 1) := by decide +kernel
theorem dX11_damagedIn_15 : decode cX11_damagedIn 15 = .ok (.iaload, 1) := by decide +kernel
theorem dX11_damagedIn_16 : decode cX11_damagedIn 16 = .ok (.aload_n 0, 1) := by decide +kernel
theorem dX11_damagedIn_17 : decode cX11_damagedIn 17 = .ok (.getfield 33, 3) := by decide +kernel
theorem dX11_damagedIn_20 : decode cX11_damagedIn 20 = .ok (.iload_n 1, 1) := by decide +kernel
theorem dX11_damagedIn_21 : decode cX11_damagedIn 21 = .ok (.iaload, 1) := by decide +kernel
theorem dX11_damagedIn_22 : decode cX11_damagedIn 22 = .ok (.iadd, 1) := by decide +kernel
theorem dX11_damagedIn_23 : decode cX11_damagedIn 23 = .ok (.if_icmp .ge 28, 3) := by decide +kernel
theorem dX11_damagedIn_26 : decode cX11_damagedIn 26 = .ok (.iload_n 2, 1) := by decide +kernel
theorem dX11_damagedIn_27 : decode cX11_damagedIn 27 = .ok (.aload_n 0, 1) := by decide +kernel
theorem dX11_damagedIn_28 : decode cX11_damagedIn 28 = .ok (.getfield 21, 3) := by decide +kernel
theorem dX11_damagedIn_31 : decode cX11_damagedIn 31 = .ok (.iload_n 3, 1) := by decide +kernel
theorem dX11_damagedIn_32 : decode cX11_damagedIn 32 = .ok (.iaload, 1) := by decide +kernel
theorem dX11_damagedIn_33 : decode cX11_damagedIn 33 = .ok (.bipush (-2), 2) := by decide +kernel
theorem dX11_damagedIn_35 : decode cX11_damagedIn 35 = .ok (.if_icmp .ne 7, 3) := by decide +kernel
theorem dX11_damagedIn_38 : decode cX11_damagedIn 38 = .ok (.iconst 1, 1) := by decide +kernel
theorem dX11_damagedIn_39 : decode cX11_damagedIn 39 = .ok (.goto 4, 3) := by decide +kernel
theorem dX11_damagedIn_42 : decode cX11_damagedIn 42 = .ok (.iconst 0, 1) := by decide +kernel
theorem dX11_damagedIn_43 : decode cX11_damagedIn 43 = .ok (.iadd, 1) := by decide +kernel
theorem dX11_damagedIn_44 : decode cX11_damagedIn 44 = .ok (.istore_n 2, 1) := by decide +kernel
theorem dX11_damagedIn_45 : decode cX11_damagedIn 45 = .ok (.iinc 3 1, 3) := by decide +kernel
theorem dX11_damagedIn_48 : decode cX11_damagedIn 48 = .ok (.goto (-39), 3) := by decide +kernel
theorem dX11_damagedIn_51 : decode cX11_damagedIn 51 = .ok (.iload_n 2, 1) := by decide +kernel
theorem dX11_damagedIn_52 : decode cX11_damagedIn 52 = .ok (.ireturn, 1) := by decide +kernel
theorem dX11_damagedNow_0 : decode cX11_damagedNow 0 = .ok (.iconst 0, 1) := by decide +kernel
theorem dX11_damagedNow_1 : decode cX11_damagedNow 1 = .ok (.istore_n 1, 1) := by decide +kernel
theorem dX11_damagedNow_2 : decode cX11_damagedNow 2 = .ok (.iconst 0, 1) := by decide +kernel
theorem dX11_damagedNow_3 : decode cX11_damagedNow 3 = .ok (.istore_n 2, 1) := by decide +kernel
theorem dX11_damagedNow_4 : decode cX11_damagedNow 4 = .ok (.iload_n 2, 1) := by decide +kernel
theorem dX11_damagedNow_5 : decode cX11_damagedNow 5 = .ok (.aload_n 0, 1) := by decide +kernel
theorem dX11_damagedNow_6 : decode cX11_damagedNow 6 = .ok (.getfield 274, 3) := by decide +kernel
theorem dX11_damagedNow_9 : decode cX11_damagedNow 9 = .ok (.if_icmp .ge 17, 3) := by decide +kernel
theorem dX11_damagedNow_12 : decode cX11_damagedNow 12 = .ok (.iload_n 1, 1) := by decide +kernel
theorem dX11_damagedNow_13 : decode cX11_damagedNow 13 = .ok (.aload_n 0, 1) := by decide +kernel
theorem dX11_damagedNow_14 : decode cX11_damagedNow 14 = .ok (.iload_n 2, 1) := by decide +kernel
theorem dX11_damagedNow_15 : decode cX11_damagedNow 15 = .ok (.invokevirtual 334, 3) := by decide +kernel
theorem dX11_damagedNow_18 : decode cX11_damagedNow 18 = .ok (.iadd, 1) := by decide +kernel
theorem dX11_damagedNow_19 : decode cX11_damagedNow 19 = .ok (.istore_n 1, 1) := by decide +kernel
theorem dX11_damagedNow_20 : decode cX11_damagedNow 20 = .ok (.iinc 2 1, 3) := by decide +kernel
theorem dX11_damagedNow_23 : decode cX11_damagedNow 23 = .ok (.goto (-19), 3) := by decide +kernel
theorem dX11_damagedNow_26 : decode cX11_damagedNow 26 = .ok (.iload_n 1, 1) := by decide +kernel
theorem dX11_damagedNow_27 : decode cX11_damagedNow 27 = .ok (.ireturn, 1) := by decide +kernel
theorem dX11_cuts_0 : decode cX11_cuts 0 = .ok (.aload_n 0, 1) := by decide +kernel
theorem dX11_cuts_1 : decode cX11_cuts 1 = .ok (.iload_n 1, 1) := by decide +kernel
theorem dX11_cuts_2 : decode cX11_cuts 2 = .ok (.iload_n 2, 1) := by decide +kernel
theorem dX11_cuts_3 : decode cX11_cuts 3 = .ok (.invokevirtual 331, 3) := by decide +kernel
theorem dX11_cuts_6 : decode cX11_cuts 6 = .ok (.aload_n 0, 1) := by decide +kernel
theorem dX11_cuts_7 : decode cX11_cuts 7 = .ok (.getfield 21, 3) := by decide +kernel
theorem dX11_cuts_10 : decode cX11_cuts 10 = .ok (.bipush 97, 2) := by decide +kernel
theorem dX11_cuts_12 : decode cX11_cuts 12 = .ok (.iconst 1, 1) := by decide +kernel
theorem dX11_cuts_13 : decode cX11_cuts 13 = .ok (.iastore, 1) := by decide +kernel
theorem dX11_cuts_14 : decode cX11_cuts 14 = .ok (.aload_n 0, 1) := by decide +kernel
theorem dX11_cuts_15 : decode cX11_cuts 15 = .ok (.invokevirtual 337, 3) := by decide +kernel
theorem dX11_cuts_18 : decode cX11_cuts 18 = .ok (.ireturn, 1) := by decide +kernel
theorem dX11_recovers_0 : decode cX11_recovers 0 = .ok (.aload_n 0, 1) := by decide +kernel
theorem dX11_recovers_1 : decode cX11_recovers 1 = .ok (.getfield 21, 3) := by decide +kernel
theorem dX11_recovers_4 : decode cX11_recovers 4 = .ok (.bipush 97, 2) := by decide +kernel
theorem dX11_recovers_6 : decode cX11_recovers 6 = .ok (.iconst 0, 1) := by decide +kernel
theorem dX11_recovers_7 : decode cX11_recovers 7 = .ok (.iastore, 1) := by decide +kernel
theorem dX11_recovers_8 : decode cX11_recovers 8 = .ok (.aload_n 0, 1) := by decide +kernel
theorem dX11_recovers_9 : decode cX11_recovers 9 = .ok (.getfield 21, 3) := by decide +kernel
theorem dX11_recovers_12 : decode cX11_recovers 12 = .ok (.bipush 100, 2) := by decide +kernel
theorem dX11_recovers_14 : decode cX11_recovers 14 = .ok (.iaload, 1) := by decide +kernel
theorem dX11_recovers_15 : decode cX11_recovers 15 = .ok (.ifCond .ne 10, 3) := by decide +kernel
theorem dX11_recovers_18 : decode cX11_recovers 18 = .ok (.aload_n 0, 1) := by decide +kernel
theorem dX11_recovers_19 : decode cX11_recovers 19 = .ok (.invokevirtual 322, 3) := by decide +kernel
theorem dX11_recovers_22 : decode cX11_recovers 22 = .ok (.bipush (-2), 2) := by decide +kernel
theorem dX11_recovers_24 : decode cX11_recovers 24 = .ok (.ireturn, 1) := by decide +kernel
theorem dX11_recovers_25 : decode cX11_recovers 25 = .ok (.aload_n 0, 1) := by decide +kernel
theorem dX11_recovers_26 : decode cX11_recovers 26 = .ok (.getfield 21, 3) := by decide +kernel
theorem dX11_recovers_29 : decode cX11_recovers 29 = .ok (.bipush 98, 2) := by decide +kernel
theorem dX11_recovers_31 : decode cX11_recovers 31 = .ok (.iaload, 1) := by decide +kernel
theorem dX11_recovers_32 : decode cX11_recovers 32 = .ok (.istore_n 1, 1) := by decide +kernel
theorem dX11_recovers_33 : decode cX11_recovers 33 = .ok (.iconst 0, 1) := by decide +kernel
theorem dX11_recovers_34 : decode cX11_recovers 34 = .ok (.istore_n 2, 1) := by decide +kernel
theorem dX11_recovers_35 : decode cX11_recovers 35 = .ok (.iload_n 2, 1) := by decide +kernel
theorem dX11_recovers_36 : decode cX11_recovers 36 = .ok (.aload_n 0, 1) := by decide +kernel
theorem dX11_recovers_37 : decode cX11_recovers 37 = .ok (.getfield 33, 3) := by decide +kernel
theorem dX11_recovers_40 : decode cX11_recovers 40 = .ok (.iload_n 1, 1) := by decide +kernel
theorem dX11_recovers_41 : decode cX11_recovers 41 = .ok (.iaload, 1) := by decide +kernel
theorem dX11_recovers_42 : decode cX11_recovers 42 = .ok (.if_icmp .ge 24, 3) := by decide +kernel
theorem dX11_recovers_45 : decode cX11_recovers 45 = .ok (.aload_n 0, 1) := by decide +kernel
theorem dX11_recovers_46 : decode cX11_recovers 46 = .ok (.iload_n 1, 1) := by decide +kernel
theorem dX11_recovers_47 : decode cX11_recovers 47 = .ok (.iload_n 2, 1) := by decide +kernel
theorem dX11_recovers_48 : decode cX11_recovers 48 = .ok (.aload_n 0, 1) := by decide +kernel
theorem dX11_recovers_49 : decode cX11_recovers 49 = .ok (.getfield 21, 3) := by decide +kernel
theorem dX11_recovers_52 : decode cX11_recovers 52 = .ok (.bipush 101, 2) := by decide +kernel
theorem dX11_recovers_54 : decode cX11_recovers 54 = .ok (.iload_n 2, 1) := by decide +kernel
theorem dX11_recovers_55 : decode cX11_recovers 55 = .ok (.iadd, 1) := by decide +kernel
theorem dX11_recovers_56 : decode cX11_recovers 56 = .ok (.iaload, 1) := by decide +kernel
theorem dX11_recovers_57 : decode cX11_recovers 57 = .ok (.invokevirtual 310, 3) := by decide +kernel
theorem dX11_recovers_60 : decode cX11_recovers 60 = .ok (.iinc 2 1, 3) := by decide +kernel
theorem dX11_recovers_63 : decode cX11_recovers 63 = .ok (.goto (-28), 3) := by decide +kernel
theorem dX11_recovers_66 : decode cX11_recovers 66 = .ok (.aload_n 0, 1) := by decide +kernel
theorem dX11_recovers_67 : decode cX11_recovers 67 = .ok (.iload_n 1, 1) := by decide +kernel
theorem dX11_recovers_68 : decode cX11_recovers 68 = .ok (.invokevirtual 313, 3) := by decide +kernel
theorem dX11_recovers_71 : decode cX11_recovers 71 = .ok (.iload_n 1, 1) := by decide +kernel
theorem dX11_recovers_72 : decode cX11_recovers 72 = .ok (.ireturn, 1) := by decide +kernel
theorem dX11_writes_0 : decode cX11_writes 0 = .ok (.aload_n 0, 1) := by decide +kernel
theorem dX11_writes_1 : decode cX11_writes 1 = .ok (.getfield 21, 3) := by decide +kernel
theorem dX11_writes_4 : decode cX11_writes 4 = .ok (.bipush 48, 2) := by decide +kernel
theorem dX11_writes_6 : decode cX11_writes 6 = .ok (.iaload, 1) := by decide +kernel
theorem dX11_writes_7 : decode cX11_writes 7 = .ok (.aload_n 0, 1) := by decide +kernel
theorem dX11_writes_8 : decode cX11_writes 8 = .ok (.getfield 275, 3) := by decide +kernel
theorem dX11_writes_11 : decode cX11_writes 11 = .ok (.if_icmp .ne 12, 3) := by decide +kernel
theorem dX11_writes_14 : decode cX11_writes 14 = .ok (.aload_n 0, 1) := by decide +kernel
theorem dX11_writes_15 : decode cX11_writes 15 = .ok (.aload_n 0, 1) := by decide +kernel
theorem dX11_writes_16 : decode cX11_writes 16 = .ok (.invokevirtual 340, 3) := by decide +kernel
theorem dX11_writes_19 : decode cX11_writes 19 = .ok (.invokevirtual 343, 3) := by decide +kernel
theorem dX11_writes_22 : decode cX11_writes 22 = .ok (.pop, 1) := by decide +kernel
theorem dX11_writes_23 : decode cX11_writes 23 = .ok (.aload_n 0, 1) := by decide +kernel
theorem dX11_writes_24 : decode cX11_writes 24 = .ok (.getfield 21, 3) := by decide +kernel
theorem dX11_writes_27 : decode cX11_writes 27 = .ok (.bipush 48, 2) := by decide +kernel
theorem dX11_writes_29 : decode cX11_writes 29 = .ok (.iaload, 1) := by decide +kernel
theorem dX11_writes_30 : decode cX11_writes 30 = .ok (.istore_n 3, 1) := by decide +kernel
theorem dX11_writes_31 : decode cX11_writes 31 = .ok (.aload_n 0, 1) := by decide +kernel
theorem dX11_writes_32 : decode cX11_writes 32 = .ok (.iload_n 3, 1) := by decide +kernel
theorem dX11_writes_33 : decode cX11_writes 33 = .ok (.iload_n 1, 1) := by decide +kernel
theorem dX11_writes_34 : decode cX11_writes 34 = .ok (.iload_n 2, 1) := by decide +kernel
theorem dX11_writes_35 : decode cX11_writes 35 = .ok (.invokevirtual 303, 3) := by decide +kernel
theorem dX11_writes_38 : decode cX11_writes 38 = .ok (.aload_n 0, 1) := by decide +kernel
theorem dX11_writes_39 : decode cX11_writes 39 = .ok (.getfield 21, 3) := by decide +kernel
theorem dX11_writes_42 : decode cX11_writes 42 = .ok (.bipush 48, 2) := by decide +kernel
theorem dX11_writes_44 : decode cX11_writes 44 = .ok (.dup2, 1) := by decide +kernel
theorem dX11_writes_45 : decode cX11_writes 45 = .ok (.iaload, 1) := by decide +kernel
theorem dX11_writes_46 : decode cX11_writes 46 = .ok (.iconst 1, 1) := by decide +kernel
theorem dX11_writes_47 : decode cX11_writes 47 = .ok (.iadd, 1) := by decide +kernel
theorem dX11_writes_48 : decode cX11_writes 48 = .ok (.iastore, 1) := by decide +kernel
theorem dX11_writes_49 : decode cX11_writes 49 = .ok (.aload_n 0, 1) := by decide +kernel
theorem dX11_writes_50 : decode cX11_writes 50 = .ok (.getfield 21, 3) := by decide +kernel
theorem dX11_writes_53 : decode cX11_writes 53 = .ok (.bipush 109, 2) := by decide +kernel
theorem dX11_writes_55 : decode cX11_writes 55 = .ok (.dup2, 1) := by decide +kernel
theorem dX11_writes_56 : decode cX11_writes 56 = .ok (.iaload, 1) := by decide +kernel
theorem dX11_writes_57 : decode cX11_writes 57 = .ok (.iconst 1, 1) := by decide +kernel
theorem dX11_writes_58 : decode cX11_writes 58 = .ok (.iadd, 1) := by decide +kernel
theorem dX11_writes_59 : decode cX11_writes 59 = .ok (.iastore, 1) := by decide +kernel
theorem dX11_writes_60 : decode cX11_writes 60 = .ok (.iload_n 3, 1) := by decide +kernel
theorem dX11_writes_61 : decode cX11_writes 61 = .ok (.ireturn, 1) := by decide +kernel
theorem dX11_isTrack_0 : decode cX11_isTrack 0 = .ok (.aload_n 0, 1) := by decide +kernel
theorem dX11_isTrack_1 : decode cX11_isTrack 1 = .ok (.getfield 260, 3) := by decide +kernel
theorem dX11_isTrack_4 : decode cX11_isTrack 4 = .ok (.ifnull 22, 3) := by decide +kernel
theorem dX11_isTrack_7 : decode cX11_isTrack 7 = .ok (.iload_n 1, 1) := by decide +kernel
theorem dX11_isTrack_8 : decode cX11_isTrack 8 = .ok (.ifCond .lt 18, 3) := by decide +kernel
theorem dX11_isTrack_11 : decode cX11_isTrack 11 = .ok (.iload_n 1, 1) := by decide +kernel
theorem dX11_isTrack_12 : decode cX11_isTrack 12 = .ok (.aload_n 0, 1) := by decide +kernel
theorem dX11_isTrack_13 : decode cX11_isTrack 13 = .ok (.getfield 260, 3) := by decide +kernel
theorem dX11_isTrack_16 : decode cX11_isTrack 16 = .ok (.getfield 209, 3) := by decide +kernel
theorem dX11_isTrack_19 : decode cX11_isTrack 19 = .ok (.if_icmp .ge 7, 3) := by decide +kernel
theorem dX11_isTrack_22 : decode cX11_isTrack 22 = .ok (.iconst 1, 1) := by decide +kernel
theorem dX11_isTrack_23 : decode cX11_isTrack 23 = .ok (.goto 4, 3) := by decide +kernel
theorem dX11_isTrack_26 : decode cX11_isTrack 26 = .ok (.iconst 0, 1) := by decide +kernel
theorem dX11_isTrack_27 : decode cX11_isTrack 27 = .ok (.ireturn, 1) := by decide +kernel
theorem dX11_isBand_0 : decode cX11_isBand 0 = .ok (.aload_n 0, 1) := by decide +kernel
theorem dX11_isBand_1 : decode cX11_isBand 1 = .ok (.getfield 260, 3) := by decide +kernel
theorem dX11_isBand_4 : decode cX11_isBand 4 = .ok (.ifnull 22, 3) := by decide +kernel
theorem dX11_isBand_7 : decode cX11_isBand 7 = .ok (.iload_n 1, 1) := by decide +kernel
theorem dX11_isBand_8 : decode cX11_isBand 8 = .ok (.ifCond .lt 18, 3) := by decide +kernel
theorem dX11_isBand_11 : decode cX11_isBand 11 = .ok (.iload_n 1, 1) := by decide +kernel
theorem dX11_isBand_12 : decode cX11_isBand 12 = .ok (.aload_n 0, 1) := by decide +kernel
theorem dX11_isBand_13 : decode cX11_isBand 13 = .ok (.getfield 260, 3) := by decide +kernel
theorem dX11_isBand_16 : decode cX11_isBand 16 = .ok (.getfield 155, 3) := by decide +kernel
theorem dX11_isBand_19 : decode cX11_isBand 19 = .ok (.if_icmp .ge 7, 3) := by decide +kernel
theorem dX11_isBand_22 : decode cX11_isBand 22 = .ok (.iconst 1, 1) := by decide +kernel
theorem dX11_isBand_23 : decode cX11_isBand 23 = .ok (.goto 4, 3) := by decide +kernel
theorem dX11_isBand_26 : decode cX11_isBand 26 = .ok (.iconst 0, 1) := by decide +kernel
theorem dX11_isBand_27 : decode cX11_isBand 27 = .ok (.ireturn, 1) := by decide +kernel
theorem dX11_isDown_0 : decode cX11_isDown 0 = .ok (.aload_n 0, 1) := by decide +kernel
theorem dX11_isDown_1 : decode cX11_isDown 1 = .ok (.getfield 17, 3) := by decide +kernel
theorem dX11_isDown_4 : decode cX11_isDown 4 = .ok (.bipush 97, 2) := by decide +kernel
theorem dX11_isDown_6 : decode cX11_isDown 6 = .ok (.iaload, 1) := by decide +kernel
theorem dX11_isDown_7 : decode cX11_isDown 7 = .ok (.iconst 1, 1) := by decide +kernel
theorem dX11_isDown_8 : decode cX11_isDown 8 = .ok (.if_icmp .ne 7, 3) := by decide +kernel
theorem dX11_isDown_11 : decode cX11_isDown 11 = .ok (.iconst 1, 1) := by decide +kernel
theorem dX11_isDown_12 : decode cX11_isDown 12 = .ok (.goto 4, 3) := by decide +kernel
theorem dX11_isDown_15 : decode cX11_isDown 15 = .ok (.iconst 0, 1) := by decide +kernel
theorem dX11_isDown_16 : decode cX11_isDown 16 = .ok (.ireturn, 1) := by decide +kernel
theorem dX11_read_0 : decode cX11_read 0 = .ok (.aload_n 0, 1) := by decide +kernel
theorem dX11_read_1 : decode cX11_read 1 = .ok (.iconst 0, 1) := by decide +kernel
theorem dX11_read_2 : decode cX11_read 2 = .ok (.putfield 45, 3) := by decide +kernel
theorem dX11_read_5 : decode cX11_read 5 = .ok (.aload_n 0, 1) := by decide +kernel
theorem dX11_read_6 : decode cX11_read 6 = .ok (.iload_n 1, 1) := by decide +kernel
theorem dX11_read_7 : decode cX11_read 7 = .ok (.invokevirtual 346, 3) := by decide +kernel
theorem dX11_read_10 : decode cX11_read 10 = .ok (.ifCond .ne 9, 3) := by decide +kernel
theorem dX11_read_13 : decode cX11_read 13 = .ok (.aload_n 0, 1) := by decide +kernel
theorem dX11_read_14 : decode cX11_read 14 = .ok (.iconst 1, 1) := by decide +kernel
theorem dX11_read_15 : decode cX11_read 15 = .ok (.invokevirtual 51, 3) := by decide +kernel
theorem dX11_read_18 : decode cX11_read 18 = .ok (.ireturn, 1) := by decide +kernel
theorem dX11_read_19 : decode cX11_read 19 = .ok (.aload_n 0, 1) := by decide +kernel
theorem dX11_read_20 : decode cX11_read 20 = .ok (.invokevirtual 349, 3) := by decide +kernel
theorem dX11_read_23 : decode cX11_read 23 = .ok (.ifCond .eq 9, 3) := by decide +kernel
theorem dX11_read_26 : decode cX11_read 26 = .ok (.aload_n 0, 1) := by decide +kernel
theorem dX11_read_27 : decode cX11_read 27 = .ok (.iconst 5, 1) := by decide +kernel
theorem dX11_read_28 : decode cX11_read 28 = .ok (.invokevirtual 51, 3) := by decide +kernel
theorem dX11_read_31 : decode cX11_read 31 = .ok (.ireturn, 1) := by decide +kernel
theorem dX11_read_32 : decode cX11_read 32 = .ok (.aload_n 0, 1) := by decide +kernel
theorem dX11_read_33 : decode cX11_read 33 = .ok (.invokevirtual 352, 3) := by decide +kernel
theorem dX11_read_36 : decode cX11_read 36 = .ok (.aload_n 0, 1) := by decide +kernel
theorem dX11_read_37 : decode cX11_read 37 = .ok (.aload_n 0, 1) := by decide +kernel
theorem dX11_read_38 : decode cX11_read 38 = .ok (.iload_n 1, 1) := by decide +kernel
theorem dX11_read_39 : decode cX11_read 39 = .ok (.invokevirtual 316, 3) := by decide +kernel
theorem dX11_read_42 : decode cX11_read 42 = .ok (.invokevirtual 55, 3) := by decide +kernel
theorem dX11_read_45 : decode cX11_read 45 = .ok (.ireturn, 1) := by decide +kernel
theorem dX11_track_0 : decode cX11_track 0 = .ok (.aload_n 0, 1) := by decide +kernel
theorem dX11_track_1 : decode cX11_track 1 = .ok (.iconst 0, 1) := by decide +kernel
theorem dX11_track_2 : decode cX11_track 2 = .ok (.putfield 45, 3) := by decide +kernel
theorem dX11_track_5 : decode cX11_track 5 = .ok (.aload_n 0, 1) := by decide +kernel
theorem dX11_track_6 : decode cX11_track 6 = .ok (.iload_n 1, 1) := by decide +kernel
theorem dX11_track_7 : decode cX11_track 7 = .ok (.invokevirtual 346, 3) := by decide +kernel
theorem dX11_track_10 : decode cX11_track 10 = .ok (.ifCond .ne 9, 3) := by decide +kernel
theorem dX11_track_13 : decode cX11_track 13 = .ok (.aload_n 0, 1) := by decide +kernel
theorem dX11_track_14 : decode cX11_track 14 = .ok (.iconst 1, 1) := by decide +kernel
theorem dX11_track_15 : decode cX11_track 15 = .ok (.invokevirtual 51, 3) := by decide +kernel
theorem dX11_track_18 : decode cX11_track 18 = .ok (.ireturn, 1) := by decide +kernel
theorem dX11_track_19 : decode cX11_track 19 = .ok (.aload_n 0, 1) := by decide +kernel
theorem dX11_track_20 : decode cX11_track 20 = .ok (.aload_n 0, 1) := by decide +kernel
theorem dX11_track_21 : decode cX11_track 21 = .ok (.getfield 17, 3) := by decide +kernel
theorem dX11_track_24 : decode cX11_track 24 = .ok (.iload_n 1, 1) := by decide +kernel
theorem dX11_track_25 : decode cX11_track 25 = .ok (.iaload, 1) := by decide +kernel
theorem dX11_track_26 : decode cX11_track 26 = .ok (.invokevirtual 55, 3) := by decide +kernel
theorem dX11_track_29 : decode cX11_track 29 = .ok (.ireturn, 1) := by decide +kernel
theorem dX11_bandOf_0 : decode cX11_bandOf 0 = .ok (.aload_n 0, 1) := by decide +kernel
theorem dX11_bandOf_1 : decode cX11_bandOf 1 = .ok (.iconst 0, 1) := by decide +kernel
theorem dX11_bandOf_2 : decode cX11_bandOf 2 = .ok (.putfield 45, 3) := by decide +kernel
theorem dX11_bandOf_5 : decode cX11_bandOf 5 = .ok (.aload_n 0, 1) := by decide +kernel
theorem dX11_bandOf_6 : decode cX11_bandOf 6 = .ok (.iload_n 1, 1) := by decide +kernel
theorem dX11_bandOf_7 : decode cX11_bandOf 7 = .ok (.invokevirtual 346, 3) := by decide +kernel
theorem dX11_bandOf_10 : decode cX11_bandOf 10 = .ok (.ifCond .ne 9, 3) := by decide +kernel
theorem dX11_bandOf_13 : decode cX11_bandOf 13 = .ok (.aload_n 0, 1) := by decide +kernel
theorem dX11_bandOf_14 : decode cX11_bandOf 14 = .ok (.iconst 1, 1) := by decide +kernel
theorem dX11_bandOf_15 : decode cX11_bandOf 15 = .ok (.invokevirtual 51, 3) := by decide +kernel
theorem dX11_bandOf_18 : decode cX11_bandOf 18 = .ok (.ireturn, 1) := by decide +kernel
theorem dX11_bandOf_19 : decode cX11_bandOf 19 = .ok (.aload_n 0, 1) := by decide +kernel
theorem dX11_bandOf_20 : decode cX11_bandOf 20 = .ok (.invokevirtual 352, 3) := by decide +kernel
theorem dX11_bandOf_23 : decode cX11_bandOf 23 = .ok (.aload_n 0, 1) := by decide +kernel
theorem dX11_bandOf_24 : decode cX11_bandOf 24 = .ok (.aload_n 0, 1) := by decide +kernel
theorem dX11_bandOf_25 : decode cX11_bandOf 25 = .ok (.iload_n 1, 1) := by decide +kernel
theorem dX11_bandOf_26 : decode cX11_bandOf 26 = .ok (.invokevirtual 294, 3) := by decide +kernel
theorem dX11_bandOf_29 : decode cX11_bandOf 29 = .ok (.invokevirtual 55, 3) := by decide +kernel
theorem dX11_bandOf_32 : decode cX11_bandOf 32 = .ok (.ireturn, 1) := by decide +kernel
theorem dX11_band_0 : decode cX11_band 0 = .ok (.aload_n 0, 1) := by decide +kernel
theorem dX11_band_1 : decode cX11_band 1 = .ok (.iconst 0, 1) := by decide +kernel
theorem dX11_band_2 : decode cX11_band 2 = .ok (.putfield 45, 3) := by decide +kernel
theorem dX11_band_5 : decode cX11_band 5 = .ok (.aload_n 0, 1) := by decide +kernel
theorem dX11_band_6 : decode cX11_band 6 = .ok (.iload_n 1, 1) := by decide +kernel
theorem dX11_band_7 : decode cX11_band 7 = .ok (.invokevirtual 355, 3) := by decide +kernel
theorem dX11_band_10 : decode cX11_band 10 = .ok (.ifCond .eq 12, 3) := by decide +kernel
theorem dX11_band_13 : decode cX11_band 13 = .ok (.iload_n 2, 1) := by decide +kernel
theorem dX11_band_14 : decode cX11_band 14 = .ok (.iconst 0, 1) := by decide +kernel
theorem dX11_band_15 : decode cX11_band 15 = .ok (.iconst 4, 1) := by decide +kernel
theorem dX11_band_16 : decode cX11_band 16 = .ok (.invokestatic 124, 3) := by decide +kernel
theorem dX11_band_19 : decode cX11_band 19 = .ok (.ifCond .ne 9, 3) := by decide +kernel
theorem dX11_band_22 : decode cX11_band 22 = .ok (.aload_n 0, 1) := by decide +kernel
theorem dX11_band_23 : decode cX11_band 23 = .ok (.iconst 1, 1) := by decide +kernel
theorem dX11_band_24 : decode cX11_band 24 = .ok (.invokevirtual 51, 3) := by decide +kernel
theorem dX11_band_27 : decode cX11_band 27 = .ok (.ireturn, 1) := by decide +kernel
theorem dX11_band_28 : decode cX11_band 28 = .ok (.aload_n 0, 1) := by decide +kernel
theorem dX11_band_29 : decode cX11_band 29 = .ok (.invokevirtual 352, 3) := by decide +kernel
theorem dX11_band_32 : decode cX11_band 32 = .ok (.iload_n 2, 1) := by decide +kernel
theorem dX11_band_33 : decode cX11_band 33 = .ok (.tableswitch 75 0 3 #[31, 42, 53, 64], 31) := by decide +kernel
theorem dX11_band_64 : decode cX11_band 64 = .ok (.aload_n 0, 1) := by decide +kernel
theorem dX11_band_65 : decode cX11_band 65 = .ok (.aload_n 0, 1) := by decide +kernel
theorem dX11_band_66 : decode cX11_band 66 = .ok (.getfield 33, 3) := by decide +kernel
theorem dX11_band_69 : decode cX11_band 69 = .ok (.iload_n 1, 1) := by decide +kernel
theorem dX11_band_70 : decode cX11_band 70 = .ok (.iaload, 1) := by decide +kernel
theorem dX11_band_71 : decode cX11_band 71 = .ok (.invokevirtual 55, 3) := by decide +kernel
theorem dX11_band_74 : decode cX11_band 74 = .ok (.ireturn, 1) := by decide +kernel
theorem dX11_band_75 : decode cX11_band 75 = .ok (.aload_n 0, 1) := by decide +kernel
theorem dX11_band_76 : decode cX11_band 76 = .ok (.aload_n 0, 1) := by decide +kernel
theorem dX11_band_77 : decode cX11_band 77 = .ok (.getfield 30, 3) := by decide +kernel
theorem dX11_band_80 : decode cX11_band 80 = .ok (.iload_n 1, 1) := by decide +kernel
theorem dX11_band_81 : decode cX11_band 81 = .ok (.iaload, 1) := by decide +kernel
theorem dX11_band_82 : decode cX11_band 82 = .ok (.invokevirtual 55, 3) := by decide +kernel
theorem dX11_band_85 : decode cX11_band 85 = .ok (.ireturn, 1) := by decide +kernel
theorem dX11_band_86 : decode cX11_band 86 = .ok (.aload_n 0, 1) := by decide +kernel
theorem dX11_band_87 : decode cX11_band 87 = .ok (.aload_n 0, 1) := by decide +kernel
theorem dX11_band_88 : decode cX11_band 88 = .ok (.iload_n 1, 1) := by decide +kernel
theorem dX11_band_89 : decode cX11_band 89 = .ok (.iconst 0, 1) := by decide +kernel
theorem dX11_band_90 : decode cX11_band 90 = .ok (.invokevirtual 299, 3) := by decide +kernel
theorem dX11_band_93 : decode cX11_band 93 = .ok (.invokevirtual 55, 3) := by decide +kernel
theorem dX11_band_96 : decode cX11_band 96 = .ok (.ireturn, 1) := by decide +kernel
theorem dX11_band_97 : decode cX11_band 97 = .ok (.aload_n 0, 1) := by decide +kernel
theorem dX11_band_98 : decode cX11_band 98 = .ok (.aload_n 0, 1) := by decide +kernel
theorem dX11_band_99 : decode cX11_band 99 = .ok (.iload_n 1, 1) := by decide +kernel
theorem dX11_band_100 : decode cX11_band 100 = .ok (.iconst 1, 1) := by decide +kernel
theorem dX11_band_101 : decode cX11_band 101 = .ok (.invokevirtual 299, 3) := by decide +kernel
theorem dX11_band_104 : decode cX11_band 104 = .ok (.invokevirtual 55, 3) := by decide +kernel
theorem dX11_band_107 : decode cX11_band 107 = .ok (.ireturn, 1) := by decide +kernel
theorem dX11_band_108 : decode cX11_band 108 = .ok (.aload_n 0, 1) := by decide +kernel
theorem dX11_band_109 : decode cX11_band 109 = .ok (.aload_n 0, 1) := by decide +kernel
theorem dX11_band_110 : decode cX11_band 110 = .ok (.iload_n 1, 1) := by decide +kernel
theorem dX11_band_111 : decode cX11_band 111 = .ok (.invokevirtual 334, 3) := by decide +kernel
theorem dX11_band_114 : decode cX11_band 114 = .ok (.invokevirtual 55, 3) := by decide +kernel
theorem dX11_band_117 : decode cX11_band 117 = .ok (.ireturn, 1) := by decide +kernel
theorem dX11_wide_0 : decode cX11_wide 0 = .ok (.aload_n 0, 1) := by decide +kernel
theorem dX11_wide_1 : decode cX11_wide 1 = .ok (.iconst 0, 1) := by decide +kernel
theorem dX11_wide_2 : decode cX11_wide 2 = .ok (.putfield 45, 3) := by decide +kernel
theorem dX11_wide_5 : decode cX11_wide 5 = .ok (.aload_n 0, 1) := by decide +kernel
theorem dX11_wide_6 : decode cX11_wide 6 = .ok (.getfield 260, 3) := by decide +kernel
theorem dX11_wide_9 : decode cX11_wide 9 = .ok (.ifnonnull 9, 3) := by decide +kernel
theorem dX11_wide_12 : decode cX11_wide 12 = .ok (.aload_n 0, 1) := by decide +kernel
theorem dX11_wide_13 : decode cX11_wide 13 = .ok (.iconst 1, 1) := by decide +kernel
theorem dX11_wide_14 : decode cX11_wide 14 = .ok (.invokevirtual 51, 3) := by decide +kernel
theorem dX11_wide_17 : decode cX11_wide 17 = .ok (.ireturn, 1) := by decide +kernel
theorem dX11_wide_18 : decode cX11_wide 18 = .ok (.aload_n 0, 1) := by decide +kernel
theorem dX11_wide_19 : decode cX11_wide 19 = .ok (.getfield 260, 3) := by decide +kernel
theorem dX11_wide_22 : decode cX11_wide 22 = .ok (.getfield 155, 3) := by decide +kernel
theorem dX11_wide_25 : decode cX11_wide 25 = .ok (.iconst 1, 1) := by decide +kernel
theorem dX11_wide_26 : decode cX11_wide 26 = .ok (.isub, 1) := by decide +kernel
theorem dX11_wide_27 : decode cX11_wide 27 = .ok (.istore_n 1, 1) := by decide +kernel
theorem dX11_wide_28 : decode cX11_wide 28 = .ok (.aload_n 0, 1) := by decide +kernel
theorem dX11_wide_29 : decode cX11_wide 29 = .ok (.aload_n 0, 1) := by decide +kernel
theorem dX11_wide_30 : decode cX11_wide 30 = .ok (.getfield 260, 3) := by decide +kernel
theorem dX11_wide_33 : decode cX11_wide 33 = .ok (.getfield 209, 3) := by decide +kernel
theorem dX11_wide_36 : decode cX11_wide 36 = .ok (.iload_n 1, 1) := by decide +kernel
theorem dX11_wide_37 : decode cX11_wide 37 = .ok (.aload_n 0, 1) := by decide +kernel
theorem dX11_wide_38 : decode cX11_wide 38 = .ok (.getfield 260, 3) := by decide +kernel
theorem dX11_wide_41 : decode cX11_wide 41 = .ok (.getfield 143, 3) := by decide +kernel
theorem dX11_wide_44 : decode cX11_wide 44 = .ok (.imul, 1) := by decide +kernel
theorem dX11_wide_45 : decode cX11_wide 45 = .ok (.iadd, 1) := by decide +kernel
theorem dX11_wide_46 : decode cX11_wide 46 = .ok (.invokevirtual 55, 3) := by decide +kernel
theorem dX11_wide_49 : decode cX11_wide 49 = .ok (.ireturn, 1) := by decide +kernel
theorem dX11_down_0 : decode cX11_down 0 = .ok (.aload_n 0, 1) := by decide +kernel
theorem dX11_down_1 : decode cX11_down 1 = .ok (.iconst 0, 1) := by decide +kernel
theorem dX11_down_2 : decode cX11_down 2 = .ok (.putfield 45, 3) := by decide +kernel
theorem dX11_down_5 : decode cX11_down 5 = .ok (.aload_n 0, 1) := by decide +kernel
theorem dX11_down_6 : decode cX11_down 6 = .ok (.getfield 260, 3) := by decide +kernel
theorem dX11_down_9 : decode cX11_down 9 = .ok (.ifnonnull 9, 3) := by decide +kernel
theorem dX11_down_12 : decode cX11_down 12 = .ok (.aload_n 0, 1) := by decide +kernel
theorem dX11_down_13 : decode cX11_down 13 = .ok (.iconst 1, 1) := by decide +kernel
theorem dX11_down_14 : decode cX11_down 14 = .ok (.invokevirtual 51, 3) := by decide +kernel
theorem dX11_down_17 : decode cX11_down 17 = .ok (.ireturn, 1) := by decide +kernel
theorem dX11_down_18 : decode cX11_down 18 = .ok (.aload_n 0, 1) := by decide +kernel
theorem dX11_down_19 : decode cX11_down 19 = .ok (.aload_n 0, 1) := by decide +kernel
theorem dX11_down_20 : decode cX11_down 20 = .ok (.getfield 17, 3) := by decide +kernel
theorem dX11_down_23 : decode cX11_down 23 = .ok (.bipush 97, 2) := by decide +kernel
theorem dX11_down_25 : decode cX11_down 25 = .ok (.iaload, 1) := by decide +kernel
theorem dX11_down_26 : decode cX11_down 26 = .ok (.invokevirtual 55, 3) := by decide +kernel
theorem dX11_down_29 : decode cX11_down 29 = .ok (.ireturn, 1) := by decide +kernel
theorem dX11_journal_0 : decode cX11_journal 0 = .ok (.aload_n 0, 1) := by decide +kernel
theorem dX11_journal_1 : decode cX11_journal 1 = .ok (.iconst 0, 1) := by decide +kernel
theorem dX11_journal_2 : decode cX11_journal 2 = .ok (.putfield 45, 3) := by decide +kernel
theorem dX11_journal_5 : decode cX11_journal 5 = .ok (.aload_n 0, 1) := by decide +kernel
theorem dX11_journal_6 : decode cX11_journal 6 = .ok (.getfield 260, 3) := by decide +kernel
theorem dX11_journal_9 : decode cX11_journal 9 = .ok (.ifnonnull 9, 3) := by decide +kernel
theorem dX11_journal_12 : decode cX11_journal 12 = .ok (.aload_n 0, 1) := by decide +kernel
theorem dX11_journal_13 : decode cX11_journal 13 = .ok (.iconst 1, 1) := by decide +kernel
theorem dX11_journal_14 : decode cX11_journal 14 = .ok (.invokevirtual 51, 3) := by decide +kernel
theorem dX11_journal_17 : decode cX11_journal 17 = .ok (.ireturn, 1) := by decide +kernel
theorem dX11_journal_18 : decode cX11_journal 18 = .ok (.aload_n 0, 1) := by decide +kernel
theorem dX11_journal_19 : decode cX11_journal 19 = .ok (.aload_n 0, 1) := by decide +kernel
theorem dX11_journal_20 : decode cX11_journal 20 = .ok (.getfield 17, 3) := by decide +kernel
theorem dX11_journal_23 : decode cX11_journal 23 = .ok (.bipush 99, 2) := by decide +kernel
theorem dX11_journal_25 : decode cX11_journal 25 = .ok (.iaload, 1) := by decide +kernel
theorem dX11_journal_26 : decode cX11_journal 26 = .ok (.invokevirtual 55, 3) := by decide +kernel
theorem dX11_journal_29 : decode cX11_journal 29 = .ok (.ireturn, 1) := by decide +kernel
theorem dX11_isEntry_0 : decode cX11_isEntry 0 = .ok (.aload_n 0, 1) := by decide +kernel
theorem dX11_isEntry_1 : decode cX11_isEntry 1 = .ok (.getfield 260, 3) := by decide +kernel
theorem dX11_isEntry_4 : decode cX11_isEntry 4 = .ok (.ifnull 22, 3) := by decide +kernel
theorem dX11_isEntry_7 : decode cX11_isEntry 7 = .ok (.iload_n 1, 1) := by decide +kernel
theorem dX11_isEntry_8 : decode cX11_isEntry 8 = .ok (.ifCond .lt 18, 3) := by decide +kernel
theorem dX11_isEntry_11 : decode cX11_isEntry 11 = .ok (.iload_n 1, 1) := by decide +kernel
theorem dX11_isEntry_12 : decode cX11_isEntry 12 = .ok (.aload_n 0, 1) := by decide +kernel
theorem dX11_isEntry_13 : decode cX11_isEntry 13 = .ok (.getfield 17, 3) := by decide +kernel
theorem dX11_isEntry_16 : decode cX11_isEntry 16 = .ok (.bipush 48, 2) := by decide +kernel
theorem dX11_isEntry_18 : decode cX11_isEntry 18 = .ok (.iaload, 1) := by decide +kernel
theorem dX11_isEntry_19 : decode cX11_isEntry 19 = .ok (.if_icmp .ge 7, 3) := by decide +kernel
theorem dX11_isEntry_22 : decode cX11_isEntry 22 = .ok (.iconst 1, 1) := by decide +kernel
theorem dX11_isEntry_23 : decode cX11_isEntry 23 = .ok (.goto 4, 3) := by decide +kernel
theorem dX11_isEntry_26 : decode cX11_isEntry 26 = .ok (.iconst 0, 1) := by decide +kernel
theorem dX11_isEntry_27 : decode cX11_isEntry 27 = .ok (.ireturn, 1) := by decide +kernel
theorem dX11_entries_0 : decode cX11_entries 0 = .ok (.aload_n 0, 1) := by decide +kernel
theorem dX11_entries_1 : decode cX11_entries 1 = .ok (.iconst 0, 1) := by decide +kernel
theorem dX11_entries_2 : decode cX11_entries 2 = .ok (.putfield 45, 3) := by decide +kernel
theorem dX11_entries_5 : decode cX11_entries 5 = .ok (.aload_n 0, 1) := by decide +kernel
theorem dX11_entries_6 : decode cX11_entries 6 = .ok (.getfield 260, 3) := by decide +kernel
theorem dX11_entries_9 : decode cX11_entries 9 = .ok (.ifnonnull 9, 3) := by decide +kernel
theorem dX11_entries_12 : decode cX11_entries 12 = .ok (.aload_n 0, 1) := by decide +kernel
theorem dX11_entries_13 : decode cX11_entries 13 = .ok (.iconst 1, 1) := by decide +kernel
theorem dX11_entries_14 : decode cX11_entries 14 = .ok (.invokevirtual 51, 3) := by decide +kernel
theorem dX11_entries_17 : decode cX11_entries 17 = .ok (.ireturn, 1) := by decide +kernel
theorem dX11_entries_18 : decode cX11_entries 18 = .ok (.aload_n 0, 1) := by decide +kernel
theorem dX11_entries_19 : decode cX11_entries 19 = .ok (.aload_n 0, 1) := by decide +kernel
theorem dX11_entries_20 : decode cX11_entries 20 = .ok (.getfield 17, 3) := by decide +kernel
theorem dX11_entries_23 : decode cX11_entries 23 = .ok (.bipush 48, 2) := by decide +kernel
theorem dX11_entries_25 : decode cX11_entries 25 = .ok (.iaload, 1) := by decide +kernel
theorem dX11_entries_26 : decode cX11_entries 26 = .ok (.invokevirtual 55, 3) := by decide +kernel
theorem dX11_entries_29 : decode cX11_entries 29 = .ok (.ireturn, 1) := by decide +kernel
theorem dX11_entry_0 : decode cX11_entry 0 = .ok (.aload_n 0, 1) := by decide +kernel
theorem dX11_entry_1 : decode cX11_entry 1 = .ok (.iconst 0, 1) := by decide +kernel
theorem dX11_entry_2 : decode cX11_entry 2 = .ok (.putfield 45, 3) := by decide +kernel
theorem dX11_entry_5 : decode cX11_entry 5 = .ok (.aload_n 0, 1) := by decide +kernel
theorem dX11_entry_6 : decode cX11_entry 6 = .ok (.iload_n 1, 1) := by decide +kernel
theorem dX11_entry_7 : decode cX11_entry 7 = .ok (.invokevirtual 358, 3) := by decide +kernel
theorem dX11_entry_10 : decode cX11_entry 10 = .ok (.ifCond .eq 12, 3) := by decide +kernel
theorem dX11_entry_13 : decode cX11_entry 13 = .ok (.iload_n 2, 1) := by decide +kernel
theorem dX11_entry_14 : decode cX11_entry 14 = .ok (.iconst 0, 1) := by decide +kernel
theorem dX11_entry_15 : decode cX11_entry 15 = .ok (.iconst 2, 1) := by decide +kernel
theorem dX11_entry_16 : decode cX11_entry 16 = .ok (.invokestatic 124, 3) := by decide +kernel
theorem dX11_entry_19 : decode cX11_entry 19 = .ok (.ifCond .ne 9, 3) := by decide +kernel
theorem dX11_entry_22 : decode cX11_entry 22 = .ok (.aload_n 0, 1) := by decide +kernel
theorem dX11_entry_23 : decode cX11_entry 23 = .ok (.iconst 1, 1) := by decide +kernel
theorem dX11_entry_24 : decode cX11_entry 24 = .ok (.invokevirtual 51, 3) := by decide +kernel
theorem dX11_entry_27 : decode cX11_entry 27 = .ok (.ireturn, 1) := by decide +kernel
theorem dX11_entry_28 : decode cX11_entry 28 = .ok (.aload_n 0, 1) := by decide +kernel
theorem dX11_entry_29 : decode cX11_entry 29 = .ok (.invokevirtual 352, 3) := by decide +kernel
theorem dX11_entry_32 : decode cX11_entry 32 = .ok (.iload_n 2, 1) := by decide +kernel
theorem dX11_entry_33 : decode cX11_entry 33 = .ok (.lookupswitch 55 #[(0, 27), (1, 41)], 27) := by decide +kernel
theorem dX11_entry_60 : decode cX11_entry 60 = .ok (.aload_n 0, 1) := by decide +kernel
theorem dX11_entry_61 : decode cX11_entry 61 = .ok (.aload_n 0, 1) := by decide +kernel
theorem dX11_entry_62 : decode cX11_entry 62 = .ok (.getfield 21, 3) := by decide +kernel
theorem dX11_entry_65 : decode cX11_entry 65 = .ok (.bipush 49, 2) := by decide +kernel
theorem dX11_entry_67 : decode cX11_entry 67 = .ok (.iload_n 1, 1) := by decide +kernel
theorem dX11_entry_68 : decode cX11_entry 68 = .ok (.iadd, 1) := by decide +kernel
theorem dX11_entry_69 : decode cX11_entry 69 = .ok (.iaload, 1) := by decide +kernel
theorem dX11_entry_70 : decode cX11_entry 70 = .ok (.invokevirtual 55, 3) := by decide +kernel
theorem dX11_entry_73 : decode cX11_entry 73 = .ok (.ireturn, 1) := by decide +kernel
theorem dX11_entry_74 : decode cX11_entry 74 = .ok (.aload_n 0, 1) := by decide +kernel
theorem dX11_entry_75 : decode cX11_entry 75 = .ok (.aload_n 0, 1) := by decide +kernel
theorem dX11_entry_76 : decode cX11_entry 76 = .ok (.getfield 21, 3) := by decide +kernel
theorem dX11_entry_79 : decode cX11_entry 79 = .ok (.bipush 73, 2) := by decide +kernel
theorem dX11_entry_81 : decode cX11_entry 81 = .ok (.iload_n 1, 1) := by decide +kernel
theorem dX11_entry_82 : decode cX11_entry 82 = .ok (.iadd, 1) := by decide +kernel
theorem dX11_entry_83 : decode cX11_entry 83 = .ok (.iaload, 1) := by decide +kernel
theorem dX11_entry_84 : decode cX11_entry 84 = .ok (.invokevirtual 55, 3) := by decide +kernel
theorem dX11_entry_87 : decode cX11_entry 87 = .ok (.ireturn, 1) := by decide +kernel
theorem dX11_entry_88 : decode cX11_entry 88 = .ok (.aload_n 0, 1) := by decide +kernel
theorem dX11_entry_89 : decode cX11_entry 89 = .ok (.aload_n 0, 1) := by decide +kernel
theorem dX11_entry_90 : decode cX11_entry 90 = .ok (.iload_n 1, 1) := by decide +kernel
theorem dX11_entry_91 : decode cX11_entry 91 = .ok (.invokevirtual 291, 3) := by decide +kernel
theorem dX11_entry_94 : decode cX11_entry 94 = .ok (.ifCond .eq 7, 3) := by decide +kernel
theorem dX11_entry_97 : decode cX11_entry 97 = .ok (.iconst 1, 1) := by decide +kernel
theorem dX11_entry_98 : decode cX11_entry 98 = .ok (.goto 4, 3) := by decide +kernel
theorem dX11_entry_101 : decode cX11_entry 101 = .ok (.iconst 0, 1) := by decide +kernel
theorem dX11_entry_102 : decode cX11_entry 102 = .ok (.invokevirtual 55, 3) := by decide +kernel
theorem dX11_entry_105 : decode cX11_entry 105 = .ok (.ireturn, 1) := by decide +kernel
theorem dX11_live_0 : decode cX11_live 0 = .ok (.aload_n 0, 1) := by decide +kernel
theorem dX11_live_1 : decode cX11_live 1 = .ok (.iconst 0, 1) := by decide +kernel
theorem dX11_live_2 : decode cX11_live 2 = .ok (.putfield 45, 3) := by decide +kernel
theorem dX11_live_5 : decode cX11_live 5 = .ok (.aload_n 0, 1) := by decide +kernel
theorem dX11_live_6 : decode cX11_live 6 = .ok (.getfield 260, 3) := by decide +kernel
theorem dX11_live_9 : decode cX11_live 9 = .ok (.ifnonnull 9, 3) := by decide +kernel
theorem dX11_live_12 : decode cX11_live 12 = .ok (.aload_n 0, 1) := by decide +kernel
theorem dX11_live_13 : decode cX11_live 13 = .ok (.iconst 1, 1) := by decide +kernel
theorem dX11_live_14 : decode cX11_live 14 = .ok (.invokevirtual 51, 3) := by decide +kernel
theorem dX11_live_17 : decode cX11_live 17 = .ok (.ireturn, 1) := by decide +kernel
theorem dX11_live_18 : decode cX11_live 18 = .ok (.aload_n 0, 1) := by decide +kernel
theorem dX11_live_19 : decode cX11_live 19 = .ok (.invokevirtual 352, 3) := by decide +kernel
theorem dX11_live_22 : decode cX11_live 22 = .ok (.aload_n 0, 1) := by decide +kernel
theorem dX11_live_23 : decode cX11_live 23 = .ok (.aload_n 0, 1) := by decide +kernel
theorem dX11_live_24 : decode cX11_live 24 = .ok (.invokevirtual 361, 3) := by decide +kernel
theorem dX11_live_27 : decode cX11_live 27 = .ok (.invokevirtual 55, 3) := by decide +kernel
theorem dX11_live_30 : decode cX11_live 30 = .ok (.ireturn, 1) := by decide +kernel
theorem dX11_goesWith_0 : decode cX11_goesWith 0 = .ok (.iload_n 1, 1) := by decide +kernel
theorem dX11_goesWith_1 : decode cX11_goesWith 1 = .ok (.ifCond .ne 5, 3) := by decide +kernel
theorem dX11_goesWith_4 : decode cX11_goesWith 4 = .ok (.iconst 0, 1) := by decide +kernel
theorem dX11_goesWith_5 : decode cX11_goesWith 5 = .ok (.ireturn, 1) := by decide +kernel
theorem dX11_goesWith_6 : decode cX11_goesWith 6 = .ok (.aload_n 0, 1) := by decide +kernel
theorem dX11_goesWith_7 : decode cX11_goesWith 7 = .ok (.iload_n 1, 1) := by decide +kernel
theorem dX11_goesWith_8 : decode cX11_goesWith 8 = .ok (.invokevirtual 284, 3) := by decide +kernel
theorem dX11_goesWith_11 : decode cX11_goesWith 11 = .ok (.istore_n 2, 1) := by decide +kernel
theorem dX11_goesWith_12 : decode cX11_goesWith 12 = .ok (.aload_n 0, 1) := by decide +kernel
theorem dX11_goesWith_13 : decode cX11_goesWith 13 = .ok (.iload_n 1, 1) := by decide +kernel
theorem dX11_goesWith_14 : decode cX11_goesWith 14 = .ok (.iconst 1, 1) := by decide +kernel
theorem dX11_goesWith_15 : decode cX11_goesWith 15 = .ok (.isub, 1) := by decide +kernel
theorem dX11_goesWith_16 : decode cX11_goesWith 16 = .ok (.invokevirtual 284, 3) := by decide +kernel
theorem dX11_goesWith_19 : decode cX11_goesWith 19 = .ok (.istore_n 3, 1) := by decide +kernel
theorem dX11_goesWith_20 : decode cX11_goesWith 20 = .ok (.iload_n 2, 1) := by decide +kernel
theorem dX11_goesWith_21 : decode cX11_goesWith 21 = .ok (.iconst (-1), 1) := by decide +kernel
theorem dX11_goesWith_22 : decode cX11_goesWith 22 = .ok (.if_icmp .eq 19, 3) := by decide +kernel
theorem dX11_goesWith_25 : decode cX11_goesWith 25 = .ok (.iload_n 3, 1) := by decide +kernel
theorem dX11_goesWith_26 : decode cX11_goesWith 26 = .ok (.iconst (-1), 1) := by decide +kernel
theorem dX11_goesWith_27 : decode cX11_goesWith 27 = .ok (.if_icmp .eq 14, 3) := by decide +kernel
theorem dX11_goesWith_30 : decode cX11_goesWith 30 = .ok (.iload_n 2, 1) := by decide +kernel
theorem dX11_goesWith_31 : decode cX11_goesWith 31 = .ok (.iload_n 3, 1) := by decide +kernel
theorem dX11_goesWith_32 : decode cX11_goesWith 32 = .ok (.iconst 1, 1) := by decide +kernel
theorem dX11_goesWith_33 : decode cX11_goesWith 33 = .ok (.iadd, 1) := by decide +kernel
theorem dX11_goesWith_34 : decode cX11_goesWith 34 = .ok (.if_icmp .ne 7, 3) := by decide +kernel
theorem dX11_goesWith_37 : decode cX11_goesWith 37 = .ok (.iconst 1, 1) := by decide +kernel
theorem dX11_goesWith_38 : decode cX11_goesWith 38 = .ok (.goto 4, 3) := by decide +kernel
theorem dX11_goesWith_41 : decode cX11_goesWith 41 = .ok (.iconst 0, 1) := by decide +kernel
theorem dX11_goesWith_42 : decode cX11_goesWith 42 = .ok (.ireturn, 1) := by decide +kernel
theorem dX11_extentsNow_0 : decode cX11_extentsNow 0 = .ok (.aload_n 0, 1) := by decide +kernel
theorem dX11_extentsNow_1 : decode cX11_extentsNow 1 = .ok (.invokevirtual 352, 3) := by decide +kernel
theorem dX11_extentsNow_4 : decode cX11_extentsNow 4 = .ok (.aload_n 0, 1) := by decide +kernel
theorem dX11_extentsNow_5 : decode cX11_extentsNow 5 = .ok (.iconst 0, 1) := by decide +kernel
theorem dX11_extentsNow_6 : decode cX11_extentsNow 6 = .ok (.putfield 364, 3) := by decide +kernel
theorem dX11_extentsNow_9 : decode cX11_extentsNow 9 = .ok (.iconst 0, 1) := by decide +kernel
theorem dX11_extentsNow_10 : decode cX11_extentsNow 10 = .ok (.istore_n 1, 1) := by decide +kernel
theorem dX11_extentsNow_11 : decode cX11_extentsNow 11 = .ok (.iload_n 1, 1) := by decide +kernel
theorem dX11_extentsNow_12 : decode cX11_extentsNow 12 = .ok (.aload_n 0, 1) := by decide +kernel
theorem dX11_extentsNow_13 : decode cX11_extentsNow 13 = .ok (.getfield 260, 3) := by decide +kernel
theorem dX11_extentsNow_16 : decode cX11_extentsNow 16 = .ok (.getfield 209, 3) := by decide +kernel
theorem dX11_extentsNow_19 : decode cX11_extentsNow 19 = .ok (.if_icmp .ge 77, 3) := by decide +kernel
theorem dX11_extentsNow_22 : decode cX11_extentsNow 22 = .ok (.aload_n 0, 1) := by decide +kernel
theorem dX11_extentsNow_23 : decode cX11_extentsNow 23 = .ok (.iload_n 1, 1) := by decide +kernel
theorem dX11_extentsNow_24 : decode cX11_extentsNow 24 = .ok (.invokevirtual 284, 3) := by decide +kernel
theorem dX11_extentsNow_27 : decode cX11_extentsNow 27 = .ok (.iconst (-1), 1) := by decide +kernel
theorem dX11_extentsNow_28 : decode cX11_extentsNow 28 = .ok (.if_icmp .ne 6, 3) := by decide +kernel
theorem dX11_extentsNow_31 : decode cX11_extentsNow 31 = .ok (.goto 59, 3) := by decide +kernel
theorem dX11_extentsNow_34 : decode cX11_extentsNow 34 = .ok (.aload_n 0, 1) := by decide +kernel
theorem dX11_extentsNow_35 : decode cX11_extentsNow 35 = .ok (.iload_n 1, 1) := by decide +kernel
theorem dX11_extentsNow_36 : decode cX11_extentsNow 36 = .ok (.invokevirtual 367, 3) := by decide +kernel
theorem dX11_extentsNow_39 : decode cX11_extentsNow 39 = .ok (.ifCond .eq 21, 3) := by decide +kernel
theorem dX11_extentsNow_42 : decode cX11_extentsNow 42 = .ok (.aload_n 0, 1) := by decide +kernel
theorem dX11_extentsNow_43 : decode cX11_extentsNow 43 = .ok (.getfield 39, 3) := by decide +kernel
theorem dX11_extentsNow_46 : decode cX11_extentsNow 46 = .ok (.aload_n 0, 1) := by decide +kernel
theorem dX11_extentsNow_47 : decode cX11_extentsNow 47 = .ok (.getfield 364, 3) := by decide +kernel
theorem dX11_extentsNow_50 : decode cX11_extentsNow 50 = .ok (.iconst 1, 1) := by decide +kernel
theorem dX11_extentsNow_51 : decode cX11_extentsNow 51 = .ok (.isub, 1) := by decide +kernel
theorem dX11_extentsNow_52 : decode cX11_extentsNow 52 = .ok (.dup2, 1) := by decide +kernel
theorem dX11_extentsNow_53 : decode cX11_extentsNow 53 = .ok (.iaload, 1) := by decide +kernel
theorem dX11_extentsNow_54 : decode cX11_extentsNow 54 = .ok (.iconst 1, 1) := by decide +kernel
theorem dX11_extentsNow_55 : decode cX11_extentsNow 55 = .ok (.iadd, 1) := by decide +kernel
theorem dX11_extentsNow_56 : decode cX11_extentsNow 56 = .ok (.iastore, 1) := by decide +kernel
theorem dX11_extentsNow_57 : decode cX11_extentsNow 57 = .ok (.goto 33, 3) := by decide +kernel
theorem dX11_extentsNow_60 : decode cX11_extentsNow 60 = .ok (.aload_n 0, 1) := by decide +kernel
theorem dX11_extentsNow_61 : decode cX11_extentsNow 61 = .ok (.getfield 36, 3) := by decide +kernel
theorem dX11_extentsNow_64 : decode cX11_extentsNow 64 = .ok (.aload_n 0, 1) := by decide +kernel
theorem dX11_extentsNow_65 : decode cX11_extentsNow 65 = .ok (.getfield 364, 3) := by decide +kernel
theorem dX11_extentsNow_68 : decode cX11_extentsNow 68 = .ok (.iload_n 1, 1) := by decide +kernel
theorem dX11_extentsNow_69 : decode cX11_extentsNow 69 = .ok (.iastore, 1) := by decide +kernel
theorem dX11_extentsNow_70 : decode cX11_extentsNow 70 = .ok (.aload_n 0, 1) := by decide +kernel
theorem dX11_extentsNow_71 : decode cX11_extentsNow 71 = .ok (.getfield 39, 3) := by decide +kernel
theorem dX11_extentsNow_74 : decode cX11_extentsNow 74 = .ok (.aload_n 0, 1) := by decide +kernel
theorem dX11_extentsNow_75 : decode cX11_extentsNow 75 = .ok (.getfield 364, 3) := by decide +kernel
theorem dX11_extentsNow_78 : decode cX11_extentsNow 78 = .ok (.iconst 1, 1) := by decide +kernel
theorem dX11_extentsNow_79 : decode cX11_extentsNow 79 = .ok (.iastore, 1) := by decide +kernel
theorem dX11_extentsNow_80 : decode cX11_extentsNow 80 = .ok (.aload_n 0, 1) := by decide +kernel
theorem dX11_extentsNow_81 : decode cX11_extentsNow 81 = .ok (.dup, 1) := by decide +kernel
theorem dX11_extentsNow_82 : decode cX11_extentsNow 82 = .ok (.getfield 364, 3) := by decide +kernel
theorem dX11_extentsNow_85 : decode cX11_extentsNow 85 = .ok (.iconst 1, 1) := by decide +kernel
theorem dX11_extentsNow_86 : decode cX11_extentsNow 86 = .ok (.iadd, 1) := by decide +kernel
theorem dX11_extentsNow_87 : decode cX11_extentsNow 87 = .ok (.putfield 364, 3) := by decide +kernel
theorem dX11_extentsNow_90 : decode cX11_extentsNow 90 = .ok (.iinc 1 1, 3) := by decide +kernel
theorem dX11_extentsNow_93 : decode cX11_extentsNow 93 = .ok (.goto (-82), 3) := by decide +kernel
theorem dX11_extentsNow_96 : decode cX11_extentsNow 96 = .ok (.return_, 1) := by decide +kernel
theorem dX11_extents_0 : decode cX11_extents 0 = .ok (.aload_n 0, 1) := by decide +kernel
theorem dX11_extents_1 : decode cX11_extents 1 = .ok (.iconst 0, 1) := by decide +kernel
theorem dX11_extents_2 : decode cX11_extents 2 = .ok (.putfield 45, 3) := by decide +kernel
theorem dX11_extents_5 : decode cX11_extents 5 = .ok (.aload_n 0, 1) := by decide +kernel
theorem dX11_extents_6 : decode cX11_extents 6 = .ok (.getfield 260, 3) := by decide +kernel
theorem dX11_extents_9 : decode cX11_extents 9 = .ok (.ifnonnull 9, 3) := by decide +kernel
theorem dX11_extents_12 : decode cX11_extents 12 = .ok (.aload_n 0, 1) := by decide +kernel
theorem dX11_extents_13 : decode cX11_extents 13 = .ok (.iconst 1, 1) := by decide +kernel
theorem dX11_extents_14 : decode cX11_extents 14 = .ok (.invokevirtual 51, 3) := by decide +kernel
theorem dX11_extents_17 : decode cX11_extents 17 = .ok (.ireturn, 1) := by decide +kernel
theorem dX11_extents_18 : decode cX11_extents 18 = .ok (.aload_n 0, 1) := by decide +kernel
theorem dX11_extents_19 : decode cX11_extents 19 = .ok (.invokevirtual 370, 3) := by decide +kernel
theorem dX11_extents_22 : decode cX11_extents 22 = .ok (.aload_n 0, 1) := by decide +kernel
theorem dX11_extents_23 : decode cX11_extents 23 = .ok (.aload_n 0, 1) := by decide +kernel
theorem dX11_extents_24 : decode cX11_extents 24 = .ok (.getfield 364, 3) := by decide +kernel
theorem dX11_extents_27 : decode cX11_extents 27 = .ok (.invokevirtual 55, 3) := by decide +kernel
theorem dX11_extents_30 : decode cX11_extents 30 = .ok (.ireturn, 1) := by decide +kernel
theorem dX11_extent_0 : decode cX11_extent 0 = .ok (.aload_n 0, 1) := by decide +kernel
theorem dX11_extent_1 : decode cX11_extent 1 = .ok (.iconst 0, 1) := by decide +kernel
theorem dX11_extent_2 : decode cX11_extent 2 = .ok (.putfield 45, 3) := by decide +kernel
theorem dX11_extent_5 : decode cX11_extent 5 = .ok (.aload_n 0, 1) := by decide +kernel
theorem dX11_extent_6 : decode cX11_extent 6 = .ok (.getfield 260, 3) := by decide +kernel
theorem dX11_extent_9 : decode cX11_extent 9 = .ok (.ifnull 16, 3) := by decide +kernel
theorem dX11_extent_12 : decode cX11_extent 12 = .ok (.iload_n 1, 1) := by decide +kernel
theorem dX11_extent_13 : decode cX11_extent 13 = .ok (.ifCond .lt 12, 3) := by decide +kernel
theorem dX11_extent_16 : decode cX11_extent 16 = .ok (.iload_n 2, 1) := by decide +kernel
theorem dX11_extent_17 : decode cX11_extent 17 = .ok (.iconst 0, 1) := by decide +kernel
theorem dX11_extent_18 : decode cX11_extent 18 = .ok (.iconst 2, 1) := by decide +kernel
theorem dX11_extent_19 : decode cX11_extent 19 = .ok (.invokestatic 124, 3) := by decide +kernel
theorem dX11_extent_22 : decode cX11_extent 22 = .ok (.ifCond .ne 9, 3) := by decide +kernel
theorem dX11_extent_25 : decode cX11_extent 25 = .ok (.aload_n 0, 1) := by decide +kernel
theorem dX11_extent_26 : decode cX11_extent 26 = .ok (.iconst 1, 1) := by decide +kernel
theorem dX11_extent_27 : decode cX11_extent 27 = .ok (.invokevirtual 51, 3) := by decide +kernel
theorem dX11_extent_30 : decode cX11_extent 30 = .ok (.ireturn, 1) := by decide +kernel
theorem dX11_extent_31 : decode cX11_extent 31 = .ok (.aload_n 0, 1) := by decide +kernel
theorem dX11_extent_32 : decode cX11_extent 32 = .ok (.invokevirtual 370, 3) := by decide +kernel
theorem dX11_extent_35 : decode cX11_extent 35 = .ok (.iload_n 1, 1) := by decide +kernel
theorem dX11_extent_36 : decode cX11_extent 36 = .ok (.aload_n 0, 1) := by decide +kernel
theorem dX11_extent_37 : decode cX11_extent 37 = .ok (.getfield 364, 3) := by decide +kernel
theorem dX11_extent_40 : decode cX11_extent 40 = .ok (.if_icmp .lt 9, 3) := by decide +kernel
theorem dX11_extent_43 : decode cX11_extent 43 = .ok (.aload_n 0, 1) := by decide +kernel
theorem dX11_extent_44 : decode cX11_extent 44 = .ok (.iconst 1, 1) := by decide +kernel
theorem dX11_extent_45 : decode cX11_extent 45 = .ok (.invokevirtual 51, 3) := by decide +kernel
theorem dX11_extent_48 : decode cX11_extent 48 = .ok (.ireturn, 1) := by decide +kernel
theorem dX11_extent_49 : decode cX11_extent 49 = .ok (.iload_n 2, 1) := by decide +kernel
theorem dX11_extent_50 : decode cX11_extent 50 = .ok (.lookupswitch 48 #[(0, 26), (1, 37)], 26) := by decide +kernel
theorem dX11_extent_76 : decode cX11_extent 76 = .ok (.aload_n 0, 1) := by decide +kernel
theorem dX11_extent_77 : decode cX11_extent 77 = .ok (.aload_n 0, 1) := by decide +kernel
theorem dX11_extent_78 : decode cX11_extent 78 = .ok (.getfield 36, 3) := by decide +kernel
theorem dX11_extent_81 : decode cX11_extent 81 = .ok (.iload_n 1, 1) := by decide +kernel
theorem dX11_extent_82 : decode cX11_extent 82 = .ok (.iaload, 1) := by decide +kernel
theorem dX11_extent_83 : decode cX11_extent 83 = .ok (.invokevirtual 55, 3) := by decide +kernel
theorem dX11_extent_86 : decode cX11_extent 86 = .ok (.ireturn, 1) := by decide +kernel
theorem dX11_extent_87 : decode cX11_extent 87 = .ok (.aload_n 0, 1) := by decide +kernel
theorem dX11_extent_88 : decode cX11_extent 88 = .ok (.aload_n 0, 1) := by decide +kernel
theorem dX11_extent_89 : decode cX11_extent 89 = .ok (.getfield 39, 3) := by decide +kernel
theorem dX11_extent_92 : decode cX11_extent 92 = .ok (.iload_n 1, 1) := by decide +kernel
theorem dX11_extent_93 : decode cX11_extent 93 = .ok (.iaload, 1) := by decide +kernel
theorem dX11_extent_94 : decode cX11_extent 94 = .ok (.invokevirtual 55, 3) := by decide +kernel
theorem dX11_extent_97 : decode cX11_extent 97 = .ok (.ireturn, 1) := by decide +kernel
theorem dX11_extent_98 : decode cX11_extent 98 = .ok (.aload_n 0, 1) := by decide +kernel
theorem dX11_extent_99 : decode cX11_extent 99 = .ok (.aload_n 0, 1) := by decide +kernel
theorem dX11_extent_100 : decode cX11_extent 100 = .ok (.aload_n 0, 1) := by decide +kernel
theorem dX11_extent_101 : decode cX11_extent 101 = .ok (.getfield 36, 3) := by decide +kernel
theorem dX11_extent_104 : decode cX11_extent 104 = .ok (.iload_n 1, 1) := by decide +kernel
theorem dX11_extent_105 : decode cX11_extent 105 = .ok (.iaload, 1) := by decide +kernel
theorem dX11_extent_106 : decode cX11_extent 106 = .ok (.invokevirtual 284, 3) := by decide +kernel
theorem dX11_extent_109 : decode cX11_extent 109 = .ok (.invokevirtual 55, 3) := by decide +kernel
theorem dX11_extent_112 : decode cX11_extent 112 = .ok (.ireturn, 1) := by decide +kernel
theorem dX11_extentFrom_0 : decode cX11_extentFrom 0 = .ok (.aload_n 0, 1) := by decide +kernel
theorem dX11_extentFrom_1 : decode cX11_extentFrom 1 = .ok (.iconst 0, 1) := by decide +kernel
theorem dX11_extentFrom_2 : decode cX11_extentFrom 2 = .ok (.putfield 45, 3) := by decide +kernel
theorem dX11_extentFrom_5 : decode cX11_extentFrom 5 = .ok (.aload_n 0, 1) := by decide +kernel
theorem dX11_extentFrom_6 : decode cX11_extentFrom 6 = .ok (.iload_n 1, 1) := by decide +kernel
theorem dX11_extentFrom_7 : decode cX11_extentFrom 7 = .ok (.invokevirtual 346, 3) := by decide +kernel
theorem dX11_extentFrom_10 : decode cX11_extentFrom 10 = .ok (.ifCond .ne 9, 3) := by decide +kernel
theorem dX11_extentFrom_13 : decode cX11_extentFrom 13 = .ok (.aload_n 0, 1) := by decide +kernel
theorem dX11_extentFrom_14 : decode cX11_extentFrom 14 = .ok (.iconst 1, 1) := by decide +kernel
theorem dX11_extentFrom_15 : decode cX11_extentFrom 15 = .ok (.invokevirtual 51, 3) := by decide +kernel
theorem dX11_extentFrom_18 : decode cX11_extentFrom 18 = .ok (.ireturn, 1) := by decide +kernel
theorem dX11_extentFrom_19 : decode cX11_extentFrom 19 = .ok (.aload_n 0, 1) := by decide +kernel
theorem dX11_extentFrom_20 : decode cX11_extentFrom 20 = .ok (.invokevirtual 370, 3) := by decide +kernel
theorem dX11_extentFrom_23 : decode cX11_extentFrom 23 = .ok (.iconst 0, 1) := by decide +kernel
theorem dX11_extentFrom_24 : decode cX11_extentFrom 24 = .ok (.istore_n 2, 1) := by decide +kernel
theorem dX11_extentFrom_25 : decode cX11_extentFrom 25 = .ok (.iload_n 2, 1) := by decide +kernel
theorem dX11_extentFrom_26 : decode cX11_extentFrom 26 = .ok (.aload_n 0, 1) := by decide +kernel
theorem dX11_extentFrom_27 : decode cX11_extentFrom 27 = .ok (.getfield 364, 3) := by decide +kernel
theorem dX11_extentFrom_30 : decode cX11_extentFrom 30 = .ok (.if_icmp .ge 32, 3) := by decide +kernel
theorem dX11_extentFrom_33 : decode cX11_extentFrom 33 = .ok (.iload_n 1, 1) := by decide +kernel
theorem dX11_extentFrom_34 : decode cX11_extentFrom 34 = .ok (.aload_n 0, 1) := by decide +kernel
theorem dX11_extentFrom_35 : decode cX11_extentFrom 35 = .ok (.getfield 36, 3) := by decide +kernel
theorem dX11_extentFrom_38 : decode cX11_extentFrom 38 = .ok (.iload_n 2, 1) := by decide +kernel
theorem dX11_extentFrom_39 : decode cX11_extentFrom 39 = .ok (.iaload, 1) := by decide +kernel
theorem dX11_extentFrom_40 : decode cX11_extentFrom 40 = .ok (.aload_n 0, 1) := by decide +kernel
theorem dX11_extentFrom_41 : decode cX11_extentFrom 41 = .ok (.getfield 39, 3) := by decide +kernel
theorem dX11_extentFrom_44 : decode cX11_extentFrom 44 = .ok (.iload_n 2, 1) := by decide +kernel
theorem dX11_extentFrom_45 : decode cX11_extentFrom 45 = .ok (.iaload, 1) := by decide +kernel
theorem dX11_extentFrom_46 : decode cX11_extentFrom 46 = .ok (.iadd, 1) := by decide +kernel
theorem dX11_extentFrom_47 : decode cX11_extentFrom 47 = .ok (.if_icmp .ge 9, 3) := by decide +kernel
theorem dX11_extentFrom_50 : decode cX11_extentFrom 50 = .ok (.aload_n 0, 1) := by decide +kernel
theorem dX11_extentFrom_51 : decode cX11_extentFrom 51 = .ok (.iload_n 2, 1) := by decide +kernel
theorem dX11_extentFrom_52 : decode cX11_extentFrom 52 = .ok (.invokevirtual 55, 3) := by decide +kernel
theorem dX11_extentFrom_55 : decode cX11_extentFrom 55 = .ok (.ireturn, 1) := by decide +kernel
theorem dX11_extentFrom_56 : decode cX11_extentFrom 56 = .ok (.iinc 2 1, 3) := by decide +kernel
theorem dX11_extentFrom_59 : decode cX11_extentFrom 59 = .ok (.goto (-34), 3) := by decide +kernel
theorem dX11_extentFrom_62 : decode cX11_extentFrom 62 = .ok (.aload_n 0, 1) := by decide +kernel
theorem dX11_extentFrom_63 : decode cX11_extentFrom 63 = .ok (.bipush (-2), 2) := by decide +kernel
theorem dX11_extentFrom_65 : decode cX11_extentFrom 65 = .ok (.invokevirtual 55, 3) := by decide +kernel
theorem dX11_extentFrom_68 : decode cX11_extentFrom 68 = .ok (.ireturn, 1) := by decide +kernel
theorem dX11_cleansNext_0 : decode cX11_cleansNext 0 = .ok (.aload_n 0, 1) := by decide +kernel
theorem dX11_cleansNext_1 : decode cX11_cleansNext 1 = .ok (.iconst 0, 1) := by decide +kernel
theorem dX11_cleansNext_2 : decode cX11_cleansNext 2 = .ok (.putfield 45, 3) := by decide +kernel
theorem dX11_cleansNext_5 : decode cX11_cleansNext 5 = .ok (.aload_n 0, 1) := by decide +kernel
theorem dX11_cleansNext_6 : decode cX11_cleansNext 6 = .ok (.getfield 260, 3) := by decide +kernel
theorem dX11_cleansNext_9 : decode cX11_cleansNext 9 = .ok (.ifnonnull 9, 3) := by decide +kernel
theorem dX11_cleansNext_12 : decode cX11_cleansNext 12 = .ok (.aload_n 0, 1) := by decide +kernel
theorem dX11_cleansNext_13 : decode cX11_cleansNext 13 = .ok (.iconst 1, 1) := by decide +kernel
theorem dX11_cleansNext_14 : decode cX11_cleansNext 14 = .ok (.invokevirtual 51, 3) := by decide +kernel
theorem dX11_cleansNext_17 : decode cX11_cleansNext 17 = .ok (.ireturn, 1) := by decide +kernel
theorem dX11_cleansNext_18 : decode cX11_cleansNext 18 = .ok (.aload_n 0, 1) := by decide +kernel
theorem dX11_cleansNext_19 : decode cX11_cleansNext 19 = .ok (.invokevirtual 352, 3) := by decide +kernel
theorem dX11_cleansNext_22 : decode cX11_cleansNext 22 = .ok (.aload_n 0, 1) := by decide +kernel
theorem dX11_cleansNext_23 : decode cX11_cleansNext 23 = .ok (.aload_n 0, 1) := by decide +kernel
theorem dX11_cleansNext_24 : decode cX11_cleansNext 24 = .ok (.invokevirtual 340, 3) := by decide +kernel
theorem dX11_cleansNext_27 : decode cX11_cleansNext 27 = .ok (.invokevirtual 55, 3) := by decide +kernel
theorem dX11_cleansNext_30 : decode cX11_cleansNext 30 = .ok (.ireturn, 1) := by decide +kernel
theorem dX11_cleansThen_0 : decode cX11_cleansThen 0 = .ok (.aload_n 0, 1) := by decide +kernel
theorem dX11_cleansThen_1 : decode cX11_cleansThen 1 = .ok (.iconst 0, 1) := by decide +kernel
theorem dX11_cleansThen_2 : decode cX11_cleansThen 2 = .ok (.putfield 45, 3) := by decide +kernel
theorem dX11_cleansThen_5 : decode cX11_cleansThen 5 = .ok (.aload_n 0, 1) := by decide +kernel
theorem dX11_cleansThen_6 : decode cX11_cleansThen 6 = .ok (.getfield 260, 3) := by decide +kernel
theorem dX11_cleansThen_9 : decode cX11_cleansThen 9 = .ok (.ifnull 7, 3) := by decide +kernel
theorem dX11_cleansThen_12 : decode cX11_cleansThen 12 = .ok (.iload_n 1, 1) := by decide +kernel
theorem dX11_cleansThen_13 : decode cX11_cleansThen 13 = .ok (.ifCond .ge 9, 3) := by decide +kernel
theorem dX11_cleansThen_16 : decode cX11_cleansThen 16 = .ok (.aload_n 0, 1) := by decide +kernel
theorem dX11_cleansThen_17 : decode cX11_cleansThen 17 = .ok (.iconst 1, 1) := by decide +kernel
theorem dX11_cleansThen_18 : decode cX11_cleansThen 18 = .ok (.invokevirtual 51, 3) := by decide +kernel
theorem dX11_cleansThen_21 : decode cX11_cleansThen 21 = .ok (.ireturn, 1) := by decide +kernel
theorem dX11_cleansThen_22 : decode cX11_cleansThen 22 = .ok (.aload_n 0, 1) := by decide +kernel
theorem dX11_cleansThen_23 : decode cX11_cleansThen 23 = .ok (.invokevirtual 352, 3) := by decide +kernel
theorem dX11_cleansThen_26 : decode cX11_cleansThen 26 = .ok (.aload_n 0, 1) := by decide +kernel
theorem dX11_cleansThen_27 : decode cX11_cleansThen 27 = .ok (.invokevirtual 340, 3) := by decide +kernel
theorem dX11_cleansThen_30 : decode cX11_cleansThen 30 = .ok (.istore_n 2, 1) := by decide +kernel
theorem dX11_cleansThen_31 : decode cX11_cleansThen 31 = .ok (.iconst 0, 1) := by decide +kernel
theorem dX11_cleansThen_32 : decode cX11_cleansThen 32 = .ok (.istore_n 3, 1) := by decide +kernel
theorem dX11_cleansThen_33 : decode cX11_cleansThen 33 = .ok (.iload_n 3, 1) := by decide +kernel
theorem dX11_cleansThen_34 : decode cX11_cleansThen 34 = .ok (.iload_n 1, 1) := by decide +kernel
theorem dX11_cleansThen_35 : decode cX11_cleansThen 35 = .ok (.if_icmp .ge 25, 3) := by decide +kernel
theorem dX11_cleansThen_38 : decode cX11_cleansThen 38 = .ok (.iload_n 2, 1) := by decide +kernel
theorem dX11_cleansThen_39 : decode cX11_cleansThen 39 = .ok (.bipush (-2), 2) := by decide +kernel
theorem dX11_cleansThen_41 : decode cX11_cleansThen 41 = .ok (.if_icmp .eq 19, 3) := by decide +kernel
theorem dX11_cleansThen_44 : decode cX11_cleansThen 44 = .ok (.aload_n 0, 1) := by decide +kernel
theorem dX11_cleansThen_45 : decode cX11_cleansThen 45 = .ok (.iload_n 2, 1) := by decide +kernel
theorem dX11_cleansThen_46 : decode cX11_cleansThen 46 = .ok (.invokevirtual 319, 3) := by decide +kernel
theorem dX11_cleansThen_49 : decode cX11_cleansThen 49 = .ok (.aload_n 0, 1) := by decide +kernel
theorem dX11_cleansThen_50 : decode cX11_cleansThen 50 = .ok (.invokevirtual 340, 3) := by decide +kernel
theorem dX11_cleansThen_53 : decode cX11_cleansThen 53 = .ok (.istore_n 2, 1) := by decide +kernel
theorem dX11_cleansThen_54 : decode cX11_cleansThen 54 = .ok (.iinc 3 1, 3) := by decide +kernel
theorem dX11_cleansThen_57 : decode cX11_cleansThen 57 = .ok (.goto (-24), 3) := by decide +kernel
theorem dX11_cleansThen_60 : decode cX11_cleansThen 60 = .ok (.aload_n 0, 1) := by decide +kernel
theorem dX11_cleansThen_61 : decode cX11_cleansThen 61 = .ok (.iload_n 2, 1) := by decide +kernel
theorem dX11_cleansThen_62 : decode cX11_cleansThen 62 = .ok (.invokevirtual 55, 3) := by decide +kernel
theorem dX11_cleansThen_65 : decode cX11_cleansThen 65 = .ok (.ireturn, 1) := by decide +kernel
theorem dX11_steps_0 : decode cX11_steps 0 = .ok (.aload_n 0, 1) := by decide +kernel
theorem dX11_steps_1 : decode cX11_steps 1 = .ok (.iconst 0, 1) := by decide +kernel
theorem dX11_steps_2 : decode cX11_steps 2 = .ok (.putfield 45, 3) := by decide +kernel
theorem dX11_steps_5 : decode cX11_steps 5 = .ok (.aload_n 0, 1) := by decide +kernel
theorem dX11_steps_6 : decode cX11_steps 6 = .ok (.iload_n 1, 1) := by decide +kernel
theorem dX11_steps_7 : decode cX11_steps 7 = .ok (.invokevirtual 355, 3) := by decide +kernel
theorem dX11_steps_10 : decode cX11_steps 10 = .ok (.ifCond .ne 9, 3) := by decide +kernel
theorem dX11_steps_13 : decode cX11_steps 13 = .ok (.aload_n 0, 1) := by decide +kernel
theorem dX11_steps_14 : decode cX11_steps 14 = .ok (.iconst 1, 1) := by decide +kernel
theorem dX11_steps_15 : decode cX11_steps 15 = .ok (.invokevirtual 51, 3) := by decide +kernel
theorem dX11_steps_18 : decode cX11_steps 18 = .ok (.ireturn, 1) := by decide +kernel
theorem dX11_steps_19 : decode cX11_steps 19 = .ok (.aload_n 0, 1) := by decide +kernel
theorem dX11_steps_20 : decode cX11_steps 20 = .ok (.invokevirtual 352, 3) := by decide +kernel
theorem dX11_steps_23 : decode cX11_steps 23 = .ok (.aload_n 0, 1) := by decide +kernel
theorem dX11_steps_24 : decode cX11_steps 24 = .ok (.aload_n 0, 1) := by decide +kernel
theorem dX11_steps_25 : decode cX11_steps 25 = .ok (.iload_n 1, 1) := by decide +kernel
theorem dX11_steps_26 : decode cX11_steps 26 = .ok (.invokevirtual 328, 3) := by decide +kernel
theorem dX11_steps_29 : decode cX11_steps 29 = .ok (.invokevirtual 55, 3) := by decide +kernel
theorem dX11_steps_32 : decode cX11_steps 32 = .ok (.ireturn, 1) := by decide +kernel
theorem dX11_rids_0 : decode cX11_rids 0 = .ok (.aload_n 0, 1) := by decide +kernel
theorem dX11_rids_1 : decode cX11_rids 1 = .ok (.iconst 0, 1) := by decide +kernel
theorem dX11_rids_2 : decode cX11_rids 2 = .ok (.putfield 45, 3) := by decide +kernel
theorem dX11_rids_5 : decode cX11_rids 5 = .ok (.aload_n 0, 1) := by decide +kernel
theorem dX11_rids_6 : decode cX11_rids 6 = .ok (.iload_n 1, 1) := by decide +kernel
theorem dX11_rids_7 : decode cX11_rids 7 = .ok (.invokevirtual 355, 3) := by decide +kernel
theorem dX11_rids_10 : decode cX11_rids 10 = .ok (.ifCond .ne 9, 3) := by decide +kernel
theorem dX11_rids_13 : decode cX11_rids 13 = .ok (.aload_n 0, 1) := by decide +kernel
theorem dX11_rids_14 : decode cX11_rids 14 = .ok (.iconst 1, 1) := by decide +kernel
theorem dX11_rids_15 : decode cX11_rids 15 = .ok (.invokevirtual 51, 3) := by decide +kernel
theorem dX11_rids_18 : decode cX11_rids 18 = .ok (.ireturn, 1) := by decide +kernel
theorem dX11_rids_19 : decode cX11_rids 19 = .ok (.aload_n 0, 1) := by decide +kernel
theorem dX11_rids_20 : decode cX11_rids 20 = .ok (.invokevirtual 352, 3) := by decide +kernel
theorem dX11_rids_23 : decode cX11_rids 23 = .ok (.aload_n 0, 1) := by decide +kernel
theorem dX11_rids_24 : decode cX11_rids 24 = .ok (.aload_n 0, 1) := by decide +kernel
theorem dX11_rids_25 : decode cX11_rids 25 = .ok (.iload_n 1, 1) := by decide +kernel
theorem dX11_rids_26 : decode cX11_rids 26 = .ok (.iconst 0, 1) := by decide +kernel
theorem dX11_rids_27 : decode cX11_rids 27 = .ok (.invokevirtual 299, 3) := by decide +kernel
theorem dX11_rids_30 : decode cX11_rids 30 = .ok (.invokevirtual 55, 3) := by decide +kernel
theorem dX11_rids_33 : decode cX11_rids 33 = .ok (.ireturn, 1) := by decide +kernel
theorem dX11_refusesCut_0 : decode cX11_refusesCut 0 = .ok (.aload_n 0, 1) := by decide +kernel
theorem dX11_refusesCut_1 : decode cX11_refusesCut 1 = .ok (.iload_n 1, 1) := by decide +kernel
theorem dX11_refusesCut_2 : decode cX11_refusesCut 2 = .ok (.invokevirtual 355, 3) := by decide +kernel
theorem dX11_refusesCut_5 : decode cX11_refusesCut 5 = .ok (.ifCond .ne 5, 3) := by decide +kernel
theorem dX11_refusesCut_8 : decode cX11_refusesCut 8 = .ok (.iconst 1, 1) := by decide +kernel
theorem dX11_refusesCut_9 : decode cX11_refusesCut 9 = .ok (.ireturn, 1) := by decide +kernel
theorem dX11_refusesCut_10 : decode cX11_refusesCut 10 = .ok (.aload_n 0, 1) := by decide +kernel
theorem dX11_refusesCut_11 : decode cX11_refusesCut 11 = .ok (.invokevirtual 352, 3) := by decide +kernel
theorem dX11_refusesCut_14 : decode cX11_refusesCut 14 = .ok (.iload_n 2, 1) := by decide +kernel
theorem dX11_refusesCut_15 : decode cX11_refusesCut 15 = .ok (.iconst 0, 1) := by decide +kernel
theorem dX11_refusesCut_16 : decode cX11_refusesCut 16 = .ok (.aload_n 0, 1) := by decide +kernel
theorem dX11_refusesCut_17 : decode cX11_refusesCut 17 = .ok (.iload_n 1, 1) := by decide +kernel
theorem dX11_refusesCut_18 : decode cX11_refusesCut 18 = .ok (.invokevirtual 328, 3) := by decide +kernel
theorem dX11_refusesCut_21 : decode cX11_refusesCut 21 = .ok (.invokestatic 124, 3) := by decide +kernel
theorem dX11_refusesCut_24 : decode cX11_refusesCut 24 = .ok (.ifCond .ne 5, 3) := by decide +kernel
theorem dX11_refusesCut_27 : decode cX11_refusesCut 27 = .ok (.iconst 2, 1) := by decide +kernel
theorem dX11_refusesCut_28 : decode cX11_refusesCut 28 = .ok (.ireturn, 1) := by decide +kernel
theorem dX11_refusesCut_29 : decode cX11_refusesCut 29 = .ok (.aload_n 0, 1) := by decide +kernel
theorem dX11_refusesCut_30 : decode cX11_refusesCut 30 = .ok (.invokevirtual 349, 3) := by decide +kernel
theorem dX11_refusesCut_33 : decode cX11_refusesCut 33 = .ok (.ifCond .eq 7, 3) := by decide +kernel
theorem dX11_refusesCut_36 : decode cX11_refusesCut 36 = .ok (.iconst 5, 1) := by decide +kernel
theorem dX11_refusesCut_37 : decode cX11_refusesCut 37 = .ok (.goto 4, 3) := by decide +kernel
theorem dX11_refusesCut_40 : decode cX11_refusesCut 40 = .ok (.iconst 0, 1) := by decide +kernel
theorem dX11_refusesCut_41 : decode cX11_refusesCut 41 = .ok (.ireturn, 1) := by decide +kernel
theorem dX11_damages_0 : decode cX11_damages 0 = .ok (.aload_n 0, 1) := by decide +kernel
theorem dX11_damages_1 : decode cX11_damages 1 = .ok (.iconst 0, 1) := by decide +kernel
theorem dX11_damages_2 : decode cX11_damages 2 = .ok (.putfield 45, 3) := by decide +kernel
theorem dX11_damages_5 : decode cX11_damages 5 = .ok (.aload_n 0, 1) := by decide +kernel
theorem dX11_damages_6 : decode cX11_damages 6 = .ok (.iload_n 1, 1) := by decide +kernel
theorem dX11_damages_7 : decode cX11_damages 7 = .ok (.iload_n 2, 1) := by decide +kernel
theorem dX11_damages_8 : decode cX11_damages 8 = .ok (.invokevirtual 373, 3) := by decide +kernel
theorem dX11_damages_11 : decode cX11_damages 11 = .ok (.istore_n 3, 1) := by decide +kernel
theorem dX11_damages_12 : decode cX11_damages 12 = .ok (.iload_n 3, 1) := by decide +kernel
theorem dX11_damages_13 : decode cX11_damages 13 = .ok (.ifCond .le 9, 3) := by decide +kernel
theorem dX11_damages_16 : decode cX11_damages 16 = .ok (.aload_n 0, 1) := by decide +kernel
theorem dX11_damages_17 : decode cX11_damages 17 = .ok (.iload_n 3, 1) := by decide +kernel
theorem dX11_damages_18 : decode cX11_damages 18 = .ok (.invokevirtual 51, 3) := by decide +kernel
theorem dX11_damages_21 : decode cX11_damages 21 = .ok (.ireturn, 1) := by decide +kernel
theorem dX11_damages_22 : decode cX11_damages 22 = .ok (.aload_n 0, 1) := by decide +kernel
theorem dX11_damages_23 : decode cX11_damages 23 = .ok (.aload_n 0, 1) := by decide +kernel
theorem dX11_damages_24 : decode cX11_damages 24 = .ok (.iload_n 1, 1) := by decide +kernel
theorem dX11_damages_25 : decode cX11_damages 25 = .ok (.iload_n 2, 1) := by decide +kernel
theorem dX11_damages_26 : decode cX11_damages 26 = .ok (.invokevirtual 376, 3) := by decide +kernel
theorem dX11_damages_29 : decode cX11_damages 29 = .ok (.invokevirtual 55, 3) := by decide +kernel
theorem dX11_damages_32 : decode cX11_damages 32 = .ok (.ireturn, 1) := by decide +kernel
theorem dX11_fullThen_0 : decode cX11_fullThen 0 = .ok (.aload_n 0, 1) := by decide +kernel
theorem dX11_fullThen_1 : decode cX11_fullThen 1 = .ok (.iconst 0, 1) := by decide +kernel
theorem dX11_fullThen_2 : decode cX11_fullThen 2 = .ok (.putfield 45, 3) := by decide +kernel
theorem dX11_fullThen_5 : decode cX11_fullThen 5 = .ok (.aload_n 0, 1) := by decide +kernel
theorem dX11_fullThen_6 : decode cX11_fullThen 6 = .ok (.iload_n 1, 1) := by decide +kernel
theorem dX11_fullThen_7 : decode cX11_fullThen 7 = .ok (.iload_n 2, 1) := by decide +kernel
theorem dX11_fullThen_8 : decode cX11_fullThen 8 = .ok (.invokevirtual 373, 3) := by decide +kernel
theorem dX11_fullThen_11 : decode cX11_fullThen 11 = .ok (.istore_n 3, 1) := by decide +kernel
theorem dX11_fullThen_12 : decode cX11_fullThen 12 = .ok (.iload_n 3, 1) := by decide +kernel
theorem dX11_fullThen_13 : decode cX11_fullThen 13 = .ok (.ifCond .le 9, 3) := by decide +kernel
theorem dX11_fullThen_16 : decode cX11_fullThen 16 = .ok (.aload_n 0, 1) := by decide +kernel
theorem dX11_fullThen_17 : decode cX11_fullThen 17 = .ok (.iload_n 3, 1) := by decide +kernel
theorem dX11_fullThen_18 : decode cX11_fullThen 18 = .ok (.invokevirtual 51, 3) := by decide +kernel
theorem dX11_fullThen_21 : decode cX11_fullThen 21 = .ok (.ireturn, 1) := by decide +kernel
theorem dX11_fullThen_22 : decode cX11_fullThen 22 = .ok (.aload_n 0, 1) := by decide +kernel
theorem dX11_fullThen_23 : decode cX11_fullThen 23 = .ok (.iload_n 1, 1) := by decide +kernel
theorem dX11_fullThen_24 : decode cX11_fullThen 24 = .ok (.iload_n 2, 1) := by decide +kernel
theorem dX11_fullThen_25 : decode cX11_fullThen 25 = .ok (.invokevirtual 376, 3) := by decide +kernel
theorem dX11_fullThen_28 : decode cX11_fullThen 28 = .ok (.pop, 1) := by decide +kernel
theorem dX11_fullThen_29 : decode cX11_fullThen 29 = .ok (.aload_n 0, 1) := by decide +kernel
theorem dX11_fullThen_30 : decode cX11_fullThen 30 = .ok (.aload_n 0, 1) := by decide +kernel
theorem dX11_fullThen_31 : decode cX11_fullThen 31 = .ok (.getfield 21, 3) := by decide +kernel
theorem dX11_fullThen_34 : decode cX11_fullThen 34 = .ok (.bipush 100, 2) := by decide +kernel
theorem dX11_fullThen_36 : decode cX11_fullThen 36 = .ok (.iaload, 1) := by decide +kernel
theorem dX11_fullThen_37 : decode cX11_fullThen 37 = .ok (.invokevirtual 55, 3) := by decide +kernel
theorem dX11_fullThen_40 : decode cX11_fullThen 40 = .ok (.ireturn, 1) := by decide +kernel
theorem dX11_readThen_0 : decode cX11_readThen 0 = .ok (.aload_n 0, 1) := by decide +kernel
theorem dX11_readThen_1 : decode cX11_readThen 1 = .ok (.iconst 0, 1) := by decide +kernel
theorem dX11_readThen_2 : decode cX11_readThen 2 = .ok (.putfield 45, 3) := by decide +kernel
theorem dX11_readThen_5 : decode cX11_readThen 5 = .ok (.aload_n 0, 1) := by decide +kernel
theorem dX11_readThen_6 : decode cX11_readThen 6 = .ok (.iload_n 3, 1) := by decide +kernel
theorem dX11_readThen_7 : decode cX11_readThen 7 = .ok (.invokevirtual 346, 3) := by decide +kernel
theorem dX11_readThen_10 : decode cX11_readThen 10 = .ok (.ifCond .eq 12, 3) := by decide +kernel
theorem dX11_readThen_13 : decode cX11_readThen 13 = .ok (.aload_n 0, 1) := by decide +kernel
theorem dX11_readThen_14 : decode cX11_readThen 14 = .ok (.iload_n 1, 1) := by decide +kernel
theorem dX11_readThen_15 : decode cX11_readThen 15 = .ok (.iload_n 2, 1) := by decide +kernel
theorem dX11_readThen_16 : decode cX11_readThen 16 = .ok (.invokevirtual 373, 3) := by decide +kernel
theorem dX11_readThen_19 : decode cX11_readThen 19 = .ok (.goto 4, 3) := by decide +kernel
theorem dX11_readThen_22 : decode cX11_readThen 22 = .ok (.iconst 1, 1) := by decide +kernel
theorem dX11_readThen_23 : decode cX11_readThen 23 = .ok (.istore 4, 2) := by decide +kernel
theorem dX11_readThen_25 : decode cX11_readThen 25 = .ok (.iload 4, 2) := by decide +kernel
theorem dX11_readThen_27 : decode cX11_readThen 27 = .ok (.ifCond .le 10, 3) := by decide +kernel
theorem dX11_readThen_30 : decode cX11_readThen 30 = .ok (.aload_n 0, 1) := by decide +kernel
theorem dX11_readThen_31 : decode cX11_readThen 31 = .ok (.iload 4, 2) := by decide +kernel
theorem dX11_readThen_33 : decode cX11_readThen 33 = .ok (.invokevirtual 51, 3) := by decide +kernel
theorem dX11_readThen_36 : decode cX11_readThen 36 = .ok (.ireturn, 1) := by decide +kernel
theorem dX11_readThen_37 : decode cX11_readThen 37 = .ok (.aload_n 0, 1) := by decide +kernel
theorem dX11_readThen_38 : decode cX11_readThen 38 = .ok (.iload_n 1, 1) := by decide +kernel
theorem dX11_readThen_39 : decode cX11_readThen 39 = .ok (.iload_n 2, 1) := by decide +kernel
theorem dX11_readThen_40 : decode cX11_readThen 40 = .ok (.invokevirtual 376, 3) := by decide +kernel
theorem dX11_readThen_43 : decode cX11_readThen 43 = .ok (.pop, 1) := by decide +kernel
theorem dX11_readThen_44 : decode cX11_readThen 44 = .ok (.aload_n 0, 1) := by decide +kernel
theorem dX11_readThen_45 : decode cX11_readThen 45 = .ok (.invokevirtual 379, 3) := by decide +kernel
theorem dX11_readThen_48 : decode cX11_readThen 48 = .ok (.pop, 1) := by decide +kernel
theorem dX11_readThen_49 : decode cX11_readThen 49 = .ok (.aload_n 0, 1) := by decide +kernel
theorem dX11_readThen_50 : decode cX11_readThen 50 = .ok (.aload_n 0, 1) := by decide +kernel
theorem dX11_readThen_51 : decode cX11_readThen 51 = .ok (.iload_n 3, 1) := by decide +kernel
theorem dX11_readThen_52 : decode cX11_readThen 52 = .ok (.invokevirtual 316, 3) := by decide +kernel
theorem dX11_readThen_55 : decode cX11_readThen 55 = .ok (.invokevirtual 55, 3) := by decide +kernel
theorem dX11_readThen_58 : decode cX11_readThen 58 = .ok (.ireturn, 1) := by decide +kernel
theorem dX11_recoversBy_0 : decode cX11_recoversBy 0 = .ok (.aload_n 0, 1) := by decide +kernel
theorem dX11_recoversBy_1 : decode cX11_recoversBy 1 = .ok (.iconst 0, 1) := by decide +kernel
theorem dX11_recoversBy_2 : decode cX11_recoversBy 2 = .ok (.putfield 45, 3) := by decide +kernel
theorem dX11_recoversBy_5 : decode cX11_recoversBy 5 = .ok (.aload_n 0, 1) := by decide +kernel
theorem dX11_recoversBy_6 : decode cX11_recoversBy 6 = .ok (.iload_n 1, 1) := by decide +kernel
theorem dX11_recoversBy_7 : decode cX11_recoversBy 7 = .ok (.iload_n 2, 1) := by decide +kernel
theorem dX11_recoversBy_8 : decode cX11_recoversBy 8 = .ok (.invokevirtual 373, 3) := by decide +kernel
theorem dX11_recoversBy_11 : decode cX11_recoversBy 11 = .ok (.istore_n 3, 1) := by decide +kernel
theorem dX11_recoversBy_12 : decode cX11_recoversBy 12 = .ok (.iload_n 3, 1) := by decide +kernel
theorem dX11_recoversBy_13 : decode cX11_recoversBy 13 = .ok (.ifCond .le 9, 3) := by decide +kernel
theorem dX11_recoversBy_16 : decode cX11_recoversBy 16 = .ok (.aload_n 0, 1) := by decide +kernel
theorem dX11_recoversBy_17 : decode cX11_recoversBy 17 = .ok (.iload_n 3, 1) := by decide +kernel
theorem dX11_recoversBy_18 : decode cX11_recoversBy 18 = .ok (.invokevirtual 51, 3) := by decide +kernel
theorem dX11_recoversBy_21 : decode cX11_recoversBy 21 = .ok (.ireturn, 1) := by decide +kernel
theorem dX11_recoversBy_22 : decode cX11_recoversBy 22 = .ok (.aload_n 0, 1) := by decide +kernel
theorem dX11_recoversBy_23 : decode cX11_recoversBy 23 = .ok (.iload_n 1, 1) := by decide +kernel
theorem dX11_recoversBy_24 : decode cX11_recoversBy 24 = .ok (.iload_n 2, 1) := by decide +kernel
theorem dX11_recoversBy_25 : decode cX11_recoversBy 25 = .ok (.invokevirtual 376, 3) := by decide +kernel
theorem dX11_recoversBy_28 : decode cX11_recoversBy 28 = .ok (.pop, 1) := by decide +kernel
theorem dX11_recoversBy_29 : decode cX11_recoversBy 29 = .ok (.aload_n 0, 1) := by decide +kernel
theorem dX11_recoversBy_30 : decode cX11_recoversBy 30 = .ok (.getfield 21, 3) := by decide +kernel
theorem dX11_recoversBy_33 : decode cX11_recoversBy 33 = .ok (.bipush 109, 2) := by decide +kernel
theorem dX11_recoversBy_35 : decode cX11_recoversBy 35 = .ok (.iaload, 1) := by decide +kernel
theorem dX11_recoversBy_36 : decode cX11_recoversBy 36 = .ok (.istore 4, 2) := by decide +kernel
theorem dX11_recoversBy_38 : decode cX11_recoversBy 38 = .ok (.aload_n 0, 1) := by decide +kernel
theorem dX11_recoversBy_39 : decode cX11_recoversBy 39 = .ok (.invokevirtual 379, 3) := by decide +kernel
theorem dX11_recoversBy_42 : decode cX11_recoversBy 42 = .ok (.pop, 1) := by decide +kernel
theorem dX11_recoversBy_43 : decode cX11_recoversBy 43 = .ok (.aload_n 0, 1) := by decide +kernel
theorem dX11_recoversBy_44 : decode cX11_recoversBy 44 = .ok (.aload_n 0, 1) := by decide +kernel
theorem dX11_recoversBy_45 : decode cX11_recoversBy 45 = .ok (.getfield 21, 3) := by decide +kernel
theorem dX11_recoversBy_48 : decode cX11_recoversBy 48 = .ok (.bipush 109, 2) := by decide +kernel
theorem dX11_recoversBy_50 : decode cX11_recoversBy 50 = .ok (.iaload, 1) := by decide +kernel
theorem dX11_recoversBy_51 : decode cX11_recoversBy 51 = .ok (.iload 4, 2) := by decide +kernel
theorem dX11_recoversBy_53 : decode cX11_recoversBy 53 = .ok (.isub, 1) := by decide +kernel
theorem dX11_recoversBy_54 : decode cX11_recoversBy 54 = .ok (.invokevirtual 55, 3) := by decide +kernel
theorem dX11_recoversBy_57 : decode cX11_recoversBy 57 = .ok (.ireturn, 1) := by decide +kernel
theorem dX11_goes_0 : decode cX11_goes 0 = .ok (.iconst 0, 1) := by decide +kernel
theorem dX11_goes_1 : decode cX11_goes 1 = .ok (.istore_n 2, 1) := by decide +kernel
theorem dX11_goes_2 : decode cX11_goes 2 = .ok (.iload_n 2, 1) := by decide +kernel
theorem dX11_goes_3 : decode cX11_goes 3 = .ok (.aload_n 0, 1) := by decide +kernel
theorem dX11_goes_4 : decode cX11_goes 4 = .ok (.getfield 260, 3) := by decide +kernel
theorem dX11_goes_7 : decode cX11_goes 7 = .ok (.getfield 224, 3) := by decide +kernel
theorem dX11_goes_10 : decode cX11_goes 10 = .ok (.if_icmp .ge 29, 3) := by decide +kernel
theorem dX11_goes_13 : decode cX11_goes 13 = .ok (.aload_n 0, 1) := by decide +kernel
theorem dX11_goes_14 : decode cX11_goes 14 = .ok (.aload_n 0, 1) := by decide +kernel
theorem dX11_goes_15 : decode cX11_goes 15 = .ok (.getfield 260, 3) := by decide +kernel
theorem dX11_goes_18 : decode cX11_goes 18 = .ok (.getfield 227, 3) := by decide +kernel
theorem dX11_goes_21 : decode cX11_goes 21 = .ok (.iload_n 2, 1) := by decide +kernel
theorem dX11_goes_22 : decode cX11_goes 22 = .ok (.iaload, 1) := by decide +kernel
theorem dX11_goes_23 : decode cX11_goes 23 = .ok (.aload_n 0, 1) := by decide +kernel
theorem dX11_goes_24 : decode cX11_goes 24 = .ok (.iload_n 2, 1) := by decide +kernel
theorem dX11_goes_25 : decode cX11_goes 25 = .ok (.iload_n 1, 1) := by decide +kernel
theorem dX11_goes_26 : decode cX11_goes 26 = .ok (.invokevirtual 382, 3) := by decide +kernel
theorem dX11_goes_29 : decode cX11_goes 29 = .ok (.invokevirtual 385, 3) := by decide +kernel
theorem dX11_goes_32 : decode cX11_goes 32 = .ok (.pop, 1) := by decide +kernel
theorem dX11_goes_33 : decode cX11_goes 33 = .ok (.iinc 2 1, 3) := by decide +kernel
theorem dX11_goes_36 : decode cX11_goes 36 = .ok (.goto (-34), 3) := by decide +kernel
theorem dX11_goes_39 : decode cX11_goes 39 = .ok (.return_, 1) := by decide +kernel
theorem dX11_whatOf_0 : decode cX11_whatOf 0 = .ok (.iconst 0, 1) := by decide +kernel
theorem dX11_whatOf_1 : decode cX11_whatOf 1 = .ok (.istore_n 3, 1) := by decide +kernel
theorem dX11_whatOf_2 : decode cX11_whatOf 2 = .ok (.iload_n 3, 1) := by decide +kernel
theorem dX11_whatOf_3 : decode cX11_whatOf 3 = .ok (.aload_n 0, 1) := by decide +kernel
theorem dX11_whatOf_4 : decode cX11_whatOf 4 = .ok (.getfield 260, 3) := by decide +kernel
theorem dX11_whatOf_7 : decode cX11_whatOf 7 = .ok (.getfield 233, 3) := by decide +kernel
theorem dX11_whatOf_10 : decode cX11_whatOf 10 = .ok (.if_icmp .ge 55, 3) := by decide +kernel
theorem dX11_whatOf_13 : decode cX11_whatOf 13 = .ok (.aload_n 0, 1) := by decide +kernel
theorem dX11_whatOf_14 : decode cX11_whatOf 14 = .ok (.getfield 260, 3) := by decide +kernel
theorem dX11_whatOf_17 : decode cX11_whatOf 17 = .ok (.getfield 236, 3) := by decide +kernel
theorem dX11_whatOf_20 : decode cX11_whatOf 20 = .ok (.iload_n 3, 1) := by decide +kernel
theorem dX11_whatOf_21 : decode cX11_whatOf 21 = .ok (.iaload, 1) := by decide +kernel
theorem dX11_whatOf_22 : decode cX11_whatOf 22 = .ok (.iload_n 1, 1) := by decide +kernel
theorem dX11_whatOf_23 : decode cX11_whatOf 23 = .ok (.if_icmp .eq 6, 3) := by decide +kernel
theorem dX11_whatOf_26 : decode cX11_whatOf 26 = .ok (.goto 33, 3) := by decide +kernel
theorem dX11_whatOf_29 : decode cX11_whatOf 29 = .ok (.iload_n 2, 1) := by decide +kernel
theorem dX11_whatOf_30 : decode cX11_whatOf 30 = .ok (.iload_n 3, 1) := by decide +kernel
theorem dX11_whatOf_31 : decode cX11_whatOf 31 = .ok (.invokestatic 388, 3) := by decide +kernel
theorem dX11_whatOf_34 : decode cX11_whatOf 34 = .ok (.ifCond .eq 15, 3) := by decide +kernel
theorem dX11_whatOf_37 : decode cX11_whatOf 37 = .ok (.aload_n 0, 1) := by decide +kernel
theorem dX11_whatOf_38 : decode cX11_whatOf 38 = .ok (.getfield 260, 3) := by decide +kernel
theorem dX11_whatOf_41 : decode cX11_whatOf 41 = .ok (.getfield 242, 3) := by decide +kernel
theorem dX11_whatOf_44 : decode cX11_whatOf 44 = .ok (.iload_n 3, 1) := by decide +kernel
theorem dX11_whatOf_45 : decode cX11_whatOf 45 = .ok (.iaload, 1) := by decide +kernel
theorem dX11_whatOf_46 : decode cX11_whatOf 46 = .ok (.goto 12, 3) := by decide +kernel
theorem dX11_whatOf_49 : decode cX11_whatOf 49 = .ok (.aload_n 0, 1) := by decide +kernel
theorem dX11_whatOf_50 : decode cX11_whatOf 50 = .ok (.getfield 260, 3) := by decide +kernel
theorem dX11_whatOf_53 : decode cX11_whatOf 53 = .ok (.getfield 230, 3) := by decide +kernel
theorem dX11_whatOf_56 : decode cX11_whatOf 56 = .ok (.iload_n 1, 1) := by decide +kernel
theorem dX11_whatOf_57 : decode cX11_whatOf 57 = .ok (.iaload, 1) := by decide +kernel
theorem dX11_whatOf_58 : decode cX11_whatOf 58 = .ok (.ireturn, 1) := by decide +kernel
theorem dX11_whatOf_59 : decode cX11_whatOf 59 = .ok (.iinc 3 1, 3) := by decide +kernel
theorem dX11_whatOf_62 : decode cX11_whatOf 62 = .ok (.goto (-60), 3) := by decide +kernel
theorem dX11_whatOf_65 : decode cX11_whatOf 65 = .ok (.aload_n 0, 1) := by decide +kernel
theorem dX11_whatOf_66 : decode cX11_whatOf 66 = .ok (.getfield 260, 3) := by decide +kernel
theorem dX11_whatOf_69 : decode cX11_whatOf 69 = .ok (.getfield 230, 3) := by decide +kernel
theorem dX11_whatOf_72 : decode cX11_whatOf 72 = .ok (.iload_n 1, 1) := by decide +kernel
theorem dX11_whatOf_73 : decode cX11_whatOf 73 = .ok (.iaload, 1) := by decide +kernel
theorem dX11_whatOf_74 : decode cX11_whatOf 74 = .ok (.ireturn, 1) := by decide +kernel
theorem dX11_runs_0 : decode cX11_runs 0 = .ok (.aload_n 0, 1) := by decide +kernel
theorem dX11_runs_1 : decode cX11_runs 1 = .ok (.invokevirtual 262, 3) := by decide +kernel
theorem dX11_runs_4 : decode cX11_runs 4 = .ok (.aload_n 0, 1) := by decide +kernel
theorem dX11_runs_5 : decode cX11_runs 5 = .ok (.iconst 0, 1) := by decide +kernel
theorem dX11_runs_6 : decode cX11_runs 6 = .ok (.invokevirtual 391, 3) := by decide +kernel
theorem dX11_runs_9 : decode cX11_runs 9 = .ok (.return_, 1) := by decide +kernel
theorem dX11_runWrites_0 : decode cX11_runWrites 0 = .ok (.aload_n 0, 1) := by decide +kernel
theorem dX11_runWrites_1 : decode cX11_runWrites 1 = .ok (.iconst 0, 1) := by decide +kernel
theorem dX11_runWrites_2 : decode cX11_runWrites 2 = .ok (.putfield 45, 3) := by decide +kernel
theorem dX11_runWrites_5 : decode cX11_runWrites 5 = .ok (.aload_n 0, 1) := by decide +kernel
theorem dX11_runWrites_6 : decode cX11_runWrites 6 = .ok (.getfield 260, 3) := by decide +kernel
theorem dX11_runWrites_9 : decode cX11_runWrites 9 = .ok (.ifnonnull 9, 3) := by decide +kernel
theorem dX11_runWrites_12 : decode cX11_runWrites 12 = .ok (.aload_n 0, 1) := by decide +kernel
theorem dX11_runWrites_13 : decode cX11_runWrites 13 = .ok (.iconst 1, 1) := by decide +kernel
theorem dX11_runWrites_14 : decode cX11_runWrites 14 = .ok (.invokevirtual 51, 3) := by decide +kernel
theorem dX11_runWrites_17 : decode cX11_runWrites 17 = .ok (.ireturn, 1) := by decide +kernel
theorem dX11_runWrites_18 : decode cX11_runWrites 18 = .ok (.aload_n 0, 1) := by decide +kernel
theorem dX11_runWrites_19 : decode cX11_runWrites 19 = .ok (.invokevirtual 394, 3) := by decide +kernel
theorem dX11_runWrites_22 : decode cX11_runWrites 22 = .ok (.aload_n 0, 1) := by decide +kernel
theorem dX11_runWrites_23 : decode cX11_runWrites 23 = .ok (.aload_n 0, 1) := by decide +kernel
theorem dX11_runWrites_24 : decode cX11_runWrites 24 = .ok (.getfield 21, 3) := by decide +kernel
theorem dX11_runWrites_27 : decode cX11_runWrites 27 = .ok (.bipush 109, 2) := by decide +kernel
theorem dX11_runWrites_29 : decode cX11_runWrites 29 = .ok (.iaload, 1) := by decide +kernel
theorem dX11_runWrites_30 : decode cX11_runWrites 30 = .ok (.invokevirtual 55, 3) := by decide +kernel
theorem dX11_runWrites_33 : decode cX11_runWrites 33 = .ok (.ireturn, 1) := by decide +kernel
theorem dX11_runCleans_0 : decode cX11_runCleans 0 = .ok (.aload_n 0, 1) := by decide +kernel
theorem dX11_runCleans_1 : decode cX11_runCleans 1 = .ok (.iconst 0, 1) := by decide +kernel
theorem dX11_runCleans_2 : decode cX11_runCleans 2 = .ok (.putfield 45, 3) := by decide +kernel
theorem dX11_runCleans_5 : decode cX11_runCleans 5 = .ok (.aload_n 0, 1) := by decide +kernel
theorem dX11_runCleans_6 : decode cX11_runCleans 6 = .ok (.getfield 260, 3) := by decide +kernel
theorem dX11_runCleans_9 : decode cX11_runCleans 9 = .ok (.ifnonnull 9, 3) := by decide +kernel
theorem dX11_runCleans_12 : decode cX11_runCleans 12 = .ok (.aload_n 0, 1) := by decide +kernel
theorem dX11_runCleans_13 : decode cX11_runCleans 13 = .ok (.iconst 1, 1) := by decide +kernel
theorem dX11_runCleans_14 : decode cX11_runCleans 14 = .ok (.invokevirtual 51, 3) := by decide +kernel
theorem dX11_runCleans_17 : decode cX11_runCleans 17 = .ok (.ireturn, 1) := by decide +kernel
theorem dX11_runCleans_18 : decode cX11_runCleans 18 = .ok (.aload_n 0, 1) := by decide +kernel
theorem dX11_runCleans_19 : decode cX11_runCleans 19 = .ok (.invokevirtual 394, 3) := by decide +kernel
theorem dX11_runCleans_22 : decode cX11_runCleans 22 = .ok (.aload_n 0, 1) := by decide +kernel
theorem dX11_runCleans_23 : decode cX11_runCleans 23 = .ok (.aload_n 0, 1) := by decide +kernel
theorem dX11_runCleans_24 : decode cX11_runCleans 24 = .ok (.getfield 278, 3) := by decide +kernel
theorem dX11_runCleans_27 : decode cX11_runCleans 27 = .ok (.invokevirtual 55, 3) := by decide +kernel
theorem dX11_runCleans_30 : decode cX11_runCleans 30 = .ok (.ireturn, 1) := by decide +kernel
theorem dX11_runRead_0 : decode cX11_runRead 0 = .ok (.aload_n 0, 1) := by decide +kernel
theorem dX11_runRead_1 : decode cX11_runRead 1 = .ok (.iconst 0, 1) := by decide +kernel
theorem dX11_runRead_2 : decode cX11_runRead 2 = .ok (.putfield 45, 3) := by decide +kernel
theorem dX11_runRead_5 : decode cX11_runRead 5 = .ok (.aload_n 0, 1) := by decide +kernel
theorem dX11_runRead_6 : decode cX11_runRead 6 = .ok (.iload_n 1, 1) := by decide +kernel
theorem dX11_runRead_7 : decode cX11_runRead 7 = .ok (.invokevirtual 346, 3) := by decide +kernel
theorem dX11_runRead_10 : decode cX11_runRead 10 = .ok (.ifCond .ne 9, 3) := by decide +kernel
theorem dX11_runRead_13 : decode cX11_runRead 13 = .ok (.aload_n 0, 1) := by decide +kernel
theorem dX11_runRead_14 : decode cX11_runRead 14 = .ok (.iconst 1, 1) := by decide +kernel
theorem dX11_runRead_15 : decode cX11_runRead 15 = .ok (.invokevirtual 51, 3) := by decide +kernel
theorem dX11_runRead_18 : decode cX11_runRead 18 = .ok (.ireturn, 1) := by decide +kernel
theorem dX11_runRead_19 : decode cX11_runRead 19 = .ok (.aload_n 0, 1) := by decide +kernel
theorem dX11_runRead_20 : decode cX11_runRead 20 = .ok (.invokevirtual 394, 3) := by decide +kernel
theorem dX11_runRead_23 : decode cX11_runRead 23 = .ok (.aload_n 0, 1) := by decide +kernel
theorem dX11_runRead_24 : decode cX11_runRead 24 = .ok (.aload_n 0, 1) := by decide +kernel
theorem dX11_runRead_25 : decode cX11_runRead 25 = .ok (.iload_n 1, 1) := by decide +kernel
theorem dX11_runRead_26 : decode cX11_runRead 26 = .ok (.invokevirtual 316, 3) := by decide +kernel
theorem dX11_runRead_29 : decode cX11_runRead 29 = .ok (.invokevirtual 55, 3) := by decide +kernel
theorem dX11_runRead_32 : decode cX11_runRead 32 = .ok (.ireturn, 1) := by decide +kernel
theorem dX11_factor_0 : decode cX11_factor 0 = .ok (.aload_n 0, 1) := by decide +kernel
theorem dX11_factor_1 : decode cX11_factor 1 = .ok (.iconst 0, 1) := by decide +kernel
theorem dX11_factor_2 : decode cX11_factor 2 = .ok (.putfield 45, 3) := by decide +kernel
theorem dX11_factor_5 : decode cX11_factor 5 = .ok (.aload_n 0, 1) := by decide +kernel
theorem dX11_factor_6 : decode cX11_factor 6 = .ok (.getfield 260, 3) := by decide +kernel
theorem dX11_factor_9 : decode cX11_factor 9 = .ok (.ifnonnull 10, 3) := by decide +kernel
theorem dX11_factor_12 : decode cX11_factor 12 = .ok (.aload_n 0, 1) := by decide +kernel
theorem dX11_factor_13 : decode cX11_factor 13 = .ok (.iconst 1, 1) := by decide +kernel
theorem dX11_factor_14 : decode cX11_factor 14 = .ok (.invokevirtual 51, 3) := by decide +kernel
theorem dX11_factor_17 : decode cX11_factor 17 = .ok (.i2l, 1) := by decide +kernel
theorem dX11_factor_18 : decode cX11_factor 18 = .ok (.lreturn, 1) := by decide +kernel
theorem dX11_factor_19 : decode cX11_factor 19 = .ok (.aload_n 0, 1) := by decide +kernel
theorem dX11_factor_20 : decode cX11_factor 20 = .ok (.invokevirtual 394, 3) := by decide +kernel
theorem dX11_factor_23 : decode cX11_factor 23 = .ok (.aload_n 0, 1) := by decide +kernel
theorem dX11_factor_24 : decode cX11_factor 24 = .ok (.aload_n 0, 1) := by decide +kernel
theorem dX11_factor_25 : decode cX11_factor 25 = .ok (.getfield 21, 3) := by decide +kernel
theorem dX11_factor_28 : decode cX11_factor 28 = .ok (.bipush 109, 2) := by decide +kernel
theorem dX11_factor_30 : decode cX11_factor 30 = .ok (.iaload, 1) := by decide +kernel
theorem dX11_factor_31 : decode cX11_factor 31 = .ok (.i2l, 1) := by decide +kernel
theorem dX11_factor_32 : decode cX11_factor 32 = .ok (.aload_n 0, 1) := by decide +kernel
theorem dX11_factor_33 : decode cX11_factor 33 = .ok (.getfield 260, 3) := by decide +kernel
theorem dX11_factor_36 : decode cX11_factor 36 = .ok (.getfield 224, 3) := by decide +kernel
theorem dX11_factor_39 : decode cX11_factor 39 = .ok (.ifCond .ne 7, 3) := by decide +kernel
theorem dX11_factor_42 : decode cX11_factor 42 = .ok (.lconst 1, 1) := by decide +kernel
theorem dX11_factor_43 : decode cX11_factor 43 = .ok (.goto 11, 3) := by decide +kernel
theorem dX11_factor_46 : decode cX11_factor 46 = .ok (.aload_n 0, 1) := by decide +kernel
theorem dX11_factor_47 : decode cX11_factor 47 = .ok (.getfield 260, 3) := by decide +kernel
theorem dX11_factor_50 : decode cX11_factor 50 = .ok (.getfield 224, 3) := by decide +kernel
theorem dX11_factor_53 : decode cX11_factor 53 = .ok (.i2l, 1) := by decide +kernel
theorem dX11_factor_54 : decode cX11_factor 54 = .ok (.iload_n 1, 1) := by decide +kernel
theorem dX11_factor_55 : decode cX11_factor 55 = .ok (.invokevirtual 396, 3) := by decide +kernel
theorem dX11_factor_58 : decode cX11_factor 58 = .ok (.lreturn, 1) := by decide +kernel
theorem dX11_writesBySize_0 : decode cX11_writesBySize 0 = .ok (.aload_n 0, 1) := by decide +kernel
theorem dX11_writesBySize_1 : decode cX11_writesBySize 1 = .ok (.invokevirtual 262, 3) := by decide +kernel
theorem dX11_writesBySize_4 : decode cX11_writesBySize 4 = .ok (.aload_n 0, 1) := by decide +kernel
theorem dX11_writesBySize_5 : decode cX11_writesBySize 5 = .ok (.iload_n 1, 1) := by decide +kernel
theorem dX11_writesBySize_6 : decode cX11_writesBySize 6 = .ok (.invokevirtual 400, 3) := by decide +kernel
theorem dX11_writesBySize_9 : decode cX11_writesBySize 9 = .ok (.aload_n 0, 1) := by decide +kernel
theorem dX11_writesBySize_10 : decode cX11_writesBySize 10 = .ok (.iconst 0, 1) := by decide +kernel
theorem dX11_writesBySize_11 : decode cX11_writesBySize 11 = .ok (.invokevirtual 391, 3) := by decide +kernel
theorem dX11_writesBySize_14 : decode cX11_writesBySize 14 = .ok (.aload_n 0, 1) := by decide +kernel
theorem dX11_writesBySize_15 : decode cX11_writesBySize 15 = .ok (.getfield 21, 3) := by decide +kernel
theorem dX11_writesBySize_18 : decode cX11_writesBySize 18 = .ok (.bipush 109, 2) := by decide +kernel
theorem dX11_writesBySize_20 : decode cX11_writesBySize 20 = .ok (.iaload, 1) := by decide +kernel
theorem dX11_writesBySize_21 : decode cX11_writesBySize 21 = .ok (.ireturn, 1) := by decide +kernel
theorem dX11_bySize_0 : decode cX11_bySize 0 = .ok (.aload_n 0, 1) := by decide +kernel
theorem dX11_bySize_1 : decode cX11_bySize 1 = .ok (.iconst 0, 1) := by decide +kernel
theorem dX11_bySize_2 : decode cX11_bySize 2 = .ok (.putfield 45, 3) := by decide +kernel
theorem dX11_bySize_5 : decode cX11_bySize 5 = .ok (.aload_n 0, 1) := by decide +kernel
theorem dX11_bySize_6 : decode cX11_bySize 6 = .ok (.getfield 260, 3) := by decide +kernel
theorem dX11_bySize_9 : decode cX11_bySize 9 = .ok (.ifnonnull 9, 3) := by decide +kernel
theorem dX11_bySize_12 : decode cX11_bySize 12 = .ok (.aload_n 0, 1) := by decide +kernel
theorem dX11_bySize_13 : decode cX11_bySize 13 = .ok (.iconst 1, 1) := by decide +kernel
theorem dX11_bySize_14 : decode cX11_bySize 14 = .ok (.invokevirtual 51, 3) := by decide +kernel
theorem dX11_bySize_17 : decode cX11_bySize 17 = .ok (.ireturn, 1) := by decide +kernel
theorem dX11_bySize_18 : decode cX11_bySize 18 = .ok (.iload_n 1, 1) := by decide +kernel
theorem dX11_bySize_19 : decode cX11_bySize 19 = .ok (.iconst 2, 1) := by decide +kernel
theorem dX11_bySize_20 : decode cX11_bySize 20 = .ok (.bipush 8, 2) := by decide +kernel
theorem dX11_bySize_22 : decode cX11_bySize 22 = .ok (.invokestatic 124, 3) := by decide +kernel
theorem dX11_bySize_25 : decode cX11_bySize 25 = .ok (.ifCond .ne 9, 3) := by decide +kernel
theorem dX11_bySize_28 : decode cX11_bySize 28 = .ok (.aload_n 0, 1) := by decide +kernel
theorem dX11_bySize_29 : decode cX11_bySize 29 = .ok (.iconst 2, 1) := by decide +kernel
theorem dX11_bySize_30 : decode cX11_bySize 30 = .ok (.invokevirtual 51, 3) := by decide +kernel
theorem dX11_bySize_33 : decode cX11_bySize 33 = .ok (.ireturn, 1) := by decide +kernel
theorem dX11_bySize_34 : decode cX11_bySize 34 = .ok (.aload_n 0, 1) := by decide +kernel
theorem dX11_bySize_35 : decode cX11_bySize 35 = .ok (.aload_n 0, 1) := by decide +kernel
theorem dX11_bySize_36 : decode cX11_bySize 36 = .ok (.iload_n 1, 1) := by decide +kernel
theorem dX11_bySize_37 : decode cX11_bySize 37 = .ok (.invokevirtual 403, 3) := by decide +kernel
theorem dX11_bySize_40 : decode cX11_bySize 40 = .ok (.invokevirtual 55, 3) := by decide +kernel
theorem dX11_bySize_43 : decode cX11_bySize 43 = .ok (.ireturn, 1) := by decide +kernel
theorem dX11_bestSize_0 : decode cX11_bestSize 0 = .ok (.aload_n 0, 1) := by decide +kernel
theorem dX11_bestSize_1 : decode cX11_bestSize 1 = .ok (.iconst 0, 1) := by decide +kernel
theorem dX11_bestSize_2 : decode cX11_bestSize 2 = .ok (.putfield 45, 3) := by decide +kernel
theorem dX11_bestSize_5 : decode cX11_bestSize 5 = .ok (.aload_n 0, 1) := by decide +kernel
theorem dX11_bestSize_6 : decode cX11_bestSize 6 = .ok (.getfield 260, 3) := by decide +kernel
theorem dX11_bestSize_9 : decode cX11_bestSize 9 = .ok (.ifnonnull 9, 3) := by decide +kernel
theorem dX11_bestSize_12 : decode cX11_bestSize 12 = .ok (.aload_n 0, 1) := by decide +kernel
theorem dX11_bestSize_13 : decode cX11_bestSize 13 = .ok (.iconst 1, 1) := by decide +kernel
theorem dX11_bestSize_14 : decode cX11_bestSize 14 = .ok (.invokevirtual 51, 3) := by decide +kernel
theorem dX11_bestSize_17 : decode cX11_bestSize 17 = .ok (.ireturn, 1) := by decide +kernel
theorem dX11_bestSize_18 : decode cX11_bestSize 18 = .ok (.iconst 2, 1) := by decide +kernel
theorem dX11_bestSize_19 : decode cX11_bestSize 19 = .ok (.istore_n 1, 1) := by decide +kernel
theorem dX11_bestSize_20 : decode cX11_bestSize 20 = .ok (.aload_n 0, 1) := by decide +kernel
theorem dX11_bestSize_21 : decode cX11_bestSize 21 = .ok (.iconst 2, 1) := by decide +kernel
theorem dX11_bestSize_22 : decode cX11_bestSize 22 = .ok (.invokevirtual 403, 3) := by decide +kernel
theorem dX11_bestSize_25 : decode cX11_bestSize 25 = .ok (.istore_n 2, 1) := by decide +kernel
theorem dX11_bestSize_26 : decode cX11_bestSize 26 = .ok (.iconst 3, 1) := by decide +kernel
theorem dX11_bestSize_27 : decode cX11_bestSize 27 = .ok (.istore_n 3, 1) := by decide +kernel
theorem dX11_bestSize_28 : decode cX11_bestSize 28 = .ok (.iload_n 3, 1) := by decide +kernel
theorem dX11_bestSize_29 : decode cX11_bestSize 29 = .ok (.bipush 8, 2) := by decide +kernel
theorem dX11_bestSize_31 : decode cX11_bestSize 31 = .ok (.if_icmp .gt 30, 3) := by decide +kernel
theorem dX11_bestSize_34 : decode cX11_bestSize 34 = .ok (.aload_n 0, 1) := by decide +kernel
theorem dX11_bestSize_35 : decode cX11_bestSize 35 = .ok (.iload_n 3, 1) := by decide +kernel
theorem dX11_bestSize_36 : decode cX11_bestSize 36 = .ok (.invokevirtual 403, 3) := by decide +kernel
theorem dX11_bestSize_39 : decode cX11_bestSize 39 = .ok (.istore 4, 2) := by decide +kernel
theorem dX11_bestSize_41 : decode cX11_bestSize 41 = .ok (.iload 4, 2) := by decide +kernel
theorem dX11_bestSize_43 : decode cX11_bestSize 43 = .ok (.iload_n 2, 1) := by decide +kernel
theorem dX11_bestSize_44 : decode cX11_bestSize 44 = .ok (.if_icmp .le 6, 3) := by decide +kernel
theorem dX11_bestSize_47 : decode cX11_bestSize 47 = .ok (.goto 8, 3) := by decide +kernel
theorem dX11_bestSize_50 : decode cX11_bestSize 50 = .ok (.iload 4, 2) := by decide +kernel
theorem dX11_bestSize_52 : decode cX11_bestSize 52 = .ok (.istore_n 2, 1) := by decide +kernel
theorem dX11_bestSize_53 : decode cX11_bestSize 53 = .ok (.iload_n 3, 1) := by decide +kernel
theorem dX11_bestSize_54 : decode cX11_bestSize 54 = .ok (.istore_n 1, 1) := by decide +kernel
theorem dX11_bestSize_55 : decode cX11_bestSize 55 = .ok (.iinc 3 1, 3) := by decide +kernel
theorem dX11_bestSize_58 : decode cX11_bestSize 58 = .ok (.goto (-30), 3) := by decide +kernel
theorem dX11_bestSize_61 : decode cX11_bestSize 61 = .ok (.aload_n 0, 1) := by decide +kernel
theorem dX11_bestSize_62 : decode cX11_bestSize 62 = .ok (.iload_n 1, 1) := by decide +kernel
theorem dX11_bestSize_63 : decode cX11_bestSize 63 = .ok (.invokevirtual 55, 3) := by decide +kernel
theorem dX11_bestSize_66 : decode cX11_bestSize 66 = .ok (.ireturn, 1) := by decide +kernel
theorem dX11_cleansByLog_0 : decode cX11_cleansByLog 0 = .ok (.aload_n 0, 1) := by decide +kernel
theorem dX11_cleansByLog_1 : decode cX11_cleansByLog 1 = .ok (.invokevirtual 262, 3) := by decide +kernel
theorem dX11_cleansByLog_4 : decode cX11_cleansByLog 4 = .ok (.aload_n 0, 1) := by decide +kernel
theorem dX11_cleansByLog_5 : decode cX11_cleansByLog 5 = .ok (.iload_n 1, 1) := by decide +kernel
theorem dX11_cleansByLog_6 : decode cX11_cleansByLog 6 = .ok (.putfield 275, 3) := by decide +kernel
theorem dX11_cleansByLog_9 : decode cX11_cleansByLog 9 = .ok (.aload_n 0, 1) := by decide +kernel
theorem dX11_cleansByLog_10 : decode cX11_cleansByLog 10 = .ok (.iconst 0, 1) := by decide +kernel
theorem dX11_cleansByLog_11 : decode cX11_cleansByLog 11 = .ok (.invokevirtual 391, 3) := by decide +kernel
theorem dX11_cleansByLog_14 : decode cX11_cleansByLog 14 = .ok (.aload_n 0, 1) := by decide +kernel
theorem dX11_cleansByLog_15 : decode cX11_cleansByLog 15 = .ok (.getfield 278, 3) := by decide +kernel
theorem dX11_cleansByLog_18 : decode cX11_cleansByLog 18 = .ok (.ireturn, 1) := by decide +kernel
theorem dX11_byLog_0 : decode cX11_byLog 0 = .ok (.aload_n 0, 1) := by decide +kernel
theorem dX11_byLog_1 : decode cX11_byLog 1 = .ok (.iconst 0, 1) := by decide +kernel
theorem dX11_byLog_2 : decode cX11_byLog 2 = .ok (.putfield 45, 3) := by decide +kernel
theorem dX11_byLog_5 : decode cX11_byLog 5 = .ok (.aload_n 0, 1) := by decide +kernel
theorem dX11_byLog_6 : decode cX11_byLog 6 = .ok (.getfield 260, 3) := by decide +kernel
theorem dX11_byLog_9 : decode cX11_byLog 9 = .ok (.ifnonnull 9, 3) := by decide +kernel
theorem dX11_byLog_12 : decode cX11_byLog 12 = .ok (.aload_n 0, 1) := by decide +kernel
theorem dX11_byLog_13 : decode cX11_byLog 13 = .ok (.iconst 1, 1) := by decide +kernel
theorem dX11_byLog_14 : decode cX11_byLog 14 = .ok (.invokevirtual 51, 3) := by decide +kernel
theorem dX11_byLog_17 : decode cX11_byLog 17 = .ok (.ireturn, 1) := by decide +kernel
theorem dX11_byLog_18 : decode cX11_byLog 18 = .ok (.iload_n 1, 1) := by decide +kernel
theorem dX11_byLog_19 : decode cX11_byLog 19 = .ok (.iconst 2, 1) := by decide +kernel
theorem dX11_byLog_20 : decode cX11_byLog 20 = .ok (.bipush 24, 2) := by decide +kernel
theorem dX11_byLog_22 : decode cX11_byLog 22 = .ok (.invokestatic 124, 3) := by decide +kernel
theorem dX11_byLog_25 : decode cX11_byLog 25 = .ok (.ifCond .ne 9, 3) := by decide +kernel
theorem dX11_byLog_28 : decode cX11_byLog 28 = .ok (.aload_n 0, 1) := by decide +kernel
theorem dX11_byLog_29 : decode cX11_byLog 29 = .ok (.iconst 2, 1) := by decide +kernel
theorem dX11_byLog_30 : decode cX11_byLog 30 = .ok (.invokevirtual 51, 3) := by decide +kernel
theorem dX11_byLog_33 : decode cX11_byLog 33 = .ok (.ireturn, 1) := by decide +kernel
theorem dX11_byLog_34 : decode cX11_byLog 34 = .ok (.aload_n 0, 1) := by decide +kernel
theorem dX11_byLog_35 : decode cX11_byLog 35 = .ok (.aload_n 0, 1) := by decide +kernel
theorem dX11_byLog_36 : decode cX11_byLog 36 = .ok (.iload_n 1, 1) := by decide +kernel
theorem dX11_byLog_37 : decode cX11_byLog 37 = .ok (.invokevirtual 406, 3) := by decide +kernel
theorem dX11_byLog_40 : decode cX11_byLog 40 = .ok (.invokevirtual 55, 3) := by decide +kernel
theorem dX11_byLog_43 : decode cX11_byLog 43 = .ok (.ireturn, 1) := by decide +kernel
theorem dX11_logFor_0 : decode cX11_logFor 0 = .ok (.aload_n 0, 1) := by decide +kernel
theorem dX11_logFor_1 : decode cX11_logFor 1 = .ok (.iconst 0, 1) := by decide +kernel
theorem dX11_logFor_2 : decode cX11_logFor 2 = .ok (.putfield 45, 3) := by decide +kernel
theorem dX11_logFor_5 : decode cX11_logFor 5 = .ok (.aload_n 0, 1) := by decide +kernel
theorem dX11_logFor_6 : decode cX11_logFor 6 = .ok (.getfield 260, 3) := by decide +kernel
theorem dX11_logFor_9 : decode cX11_logFor 9 = .ok (.ifnonnull 9, 3) := by decide +kernel
theorem dX11_logFor_12 : decode cX11_logFor 12 = .ok (.aload_n 0, 1) := by decide +kernel
theorem dX11_logFor_13 : decode cX11_logFor 13 = .ok (.iconst 1, 1) := by decide +kernel
theorem dX11_logFor_14 : decode cX11_logFor 14 = .ok (.invokevirtual 51, 3) := by decide +kernel
theorem dX11_logFor_17 : decode cX11_logFor 17 = .ok (.ireturn, 1) := by decide +kernel
theorem dX11_logFor_18 : decode cX11_logFor 18 = .ok (.iload_n 1, 1) := by decide +kernel
theorem dX11_logFor_19 : decode cX11_logFor 19 = .ok (.iconst 0, 1) := by decide +kernel
theorem dX11_logFor_20 : decode cX11_logFor 20 = .ok (.bipush 16, 2) := by decide +kernel
theorem dX11_logFor_22 : decode cX11_logFor 22 = .ok (.invokestatic 124, 3) := by decide +kernel
theorem dX11_logFor_25 : decode cX11_logFor 25 = .ok (.ifCond .ne 9, 3) := by decide +kernel
theorem dX11_logFor_28 : decode cX11_logFor 28 = .ok (.aload_n 0, 1) := by decide +kernel
theorem dX11_logFor_29 : decode cX11_logFor 29 = .ok (.iconst 2, 1) := by decide +kernel
theorem dX11_logFor_30 : decode cX11_logFor 30 = .ok (.invokevirtual 51, 3) := by decide +kernel
theorem dX11_logFor_33 : decode cX11_logFor 33 = .ok (.ireturn, 1) := by decide +kernel
theorem dX11_logFor_34 : decode cX11_logFor 34 = .ok (.iconst 2, 1) := by decide +kernel
theorem dX11_logFor_35 : decode cX11_logFor 35 = .ok (.istore_n 2, 1) := by decide +kernel
theorem dX11_logFor_36 : decode cX11_logFor 36 = .ok (.iload_n 2, 1) := by decide +kernel
theorem dX11_logFor_37 : decode cX11_logFor 37 = .ok (.bipush 24, 2) := by decide +kernel
theorem dX11_logFor_39 : decode cX11_logFor 39 = .ok (.if_icmp .gt 24, 3) := by decide +kernel
theorem dX11_logFor_42 : decode cX11_logFor 42 = .ok (.aload_n 0, 1) := by decide +kernel
theorem dX11_logFor_43 : decode cX11_logFor 43 = .ok (.iload_n 2, 1) := by decide +kernel
theorem dX11_logFor_44 : decode cX11_logFor 44 = .ok (.invokevirtual 406, 3) := by decide +kernel
theorem dX11_logFor_47 : decode cX11_logFor 47 = .ok (.iload_n 1, 1) := by decide +kernel
theorem dX11_logFor_48 : decode cX11_logFor 48 = .ok (.if_icmp .gt 9, 3) := by decide +kernel
theorem dX11_logFor_51 : decode cX11_logFor 51 = .ok (.aload_n 0, 1) := by decide +kernel
theorem dX11_logFor_52 : decode cX11_logFor 52 = .ok (.iload_n 2, 1) := by decide +kernel
theorem dX11_logFor_53 : decode cX11_logFor 53 = .ok (.invokevirtual 55, 3) := by decide +kernel
theorem dX11_logFor_56 : decode cX11_logFor 56 = .ok (.ireturn, 1) := by decide +kernel
theorem dX11_logFor_57 : decode cX11_logFor 57 = .ok (.iinc 2 1, 3) := by decide +kernel
theorem dX11_logFor_60 : decode cX11_logFor 60 = .ok (.goto (-24), 3) := by decide +kernel
theorem dX11_logFor_63 : decode cX11_logFor 63 = .ok (.aload_n 0, 1) := by decide +kernel
theorem dX11_logFor_64 : decode cX11_logFor 64 = .ok (.bipush (-2), 2) := by decide +kernel
theorem dX11_logFor_66 : decode cX11_logFor 66 = .ok (.invokevirtual 55, 3) := by decide +kernel
theorem dX11_logFor_69 : decode cX11_logFor 69 = .ok (.ireturn, 1) := by decide +kernel
theorem dX11_wrongRead_0 : decode cX11_wrongRead 0 = .ok (.aload_n 0, 1) := by decide +kernel
theorem dX11_wrongRead_1 : decode cX11_wrongRead 1 = .ok (.invokevirtual 262, 3) := by decide +kernel
theorem dX11_wrongRead_4 : decode cX11_wrongRead 4 = .ok (.aload_n 0, 1) := by decide +kernel
theorem dX11_wrongRead_5 : decode cX11_wrongRead 5 = .ok (.iload_n 1, 1) := by decide +kernel
theorem dX11_wrongRead_6 : decode cX11_wrongRead 6 = .ok (.invokevirtual 391, 3) := by decide +kernel
theorem dX11_wrongRead_9 : decode cX11_wrongRead 9 = .ok (.iconst 0, 1) := by decide +kernel
theorem dX11_wrongRead_10 : decode cX11_wrongRead 10 = .ok (.istore_n 2, 1) := by decide +kernel
theorem dX11_wrongRead_11 : decode cX11_wrongRead 11 = .ok (.iload_n 2, 1) := by decide +kernel
theorem dX11_wrongRead_12 : decode cX11_wrongRead 12 = .ok (.aload_n 0, 1) := by decide +kernel
theorem dX11_wrongRead_13 : decode cX11_wrongRead 13 = .ok (.getfield 260, 3) := by decide +kernel
theorem dX11_wrongRead_16 : decode cX11_wrongRead 16 = .ok (.getfield 245, 3) := by decide +kernel
theorem dX11_wrongRead_19 : decode cX11_wrongRead 19 = .ok (.if_icmp .ge 36, 3) := by decide +kernel
theorem dX11_wrongRead_22 : decode cX11_wrongRead 22 = .ok (.aload_n 0, 1) := by decide +kernel
theorem dX11_wrongRead_23 : decode cX11_wrongRead 23 = .ok (.aload_n 0, 1) := by decide +kernel
theorem dX11_wrongRead_24 : decode cX11_wrongRead 24 = .ok (.getfield 260, 3) := by decide +kernel
theorem dX11_wrongRead_27 : decode cX11_wrongRead 27 = .ok (.getfield 248, 3) := by decide +kernel
theorem dX11_wrongRead_30 : decode cX11_wrongRead 30 = .ok (.iload_n 2, 1) := by decide +kernel
theorem dX11_wrongRead_31 : decode cX11_wrongRead 31 = .ok (.iaload, 1) := by decide +kernel
theorem dX11_wrongRead_32 : decode cX11_wrongRead 32 = .ok (.invokevirtual 316, 3) := by decide +kernel
theorem dX11_wrongRead_35 : decode cX11_wrongRead 35 = .ok (.aload_n 0, 1) := by decide +kernel
theorem dX11_wrongRead_36 : decode cX11_wrongRead 36 = .ok (.getfield 260, 3) := by decide +kernel
theorem dX11_wrongRead_39 : decode cX11_wrongRead 39 = .ok (.getfield 250, 3) := by decide +kernel
theorem dX11_wrongRead_42 : decode cX11_wrongRead 42 = .ok (.iload_n 2, 1) := by decide +kernel
theorem dX11_wrongRead_43 : decode cX11_wrongRead 43 = .ok (.iaload, 1) := by decide +kernel
theorem dX11_wrongRead_44 : decode cX11_wrongRead 44 = .ok (.if_icmp .eq 5, 3) := by decide +kernel
theorem dX11_wrongRead_47 : decode cX11_wrongRead 47 = .ok (.iload_n 2, 1) := by decide +kernel
theorem dX11_wrongRead_48 : decode cX11_wrongRead 48 = .ok (.ireturn, 1) := by decide +kernel
theorem dX11_wrongRead_49 : decode cX11_wrongRead 49 = .ok (.iinc 2 1, 3) := by decide +kernel
theorem dX11_wrongRead_52 : decode cX11_wrongRead 52 = .ok (.goto (-41), 3) := by decide +kernel
theorem dX11_wrongRead_55 : decode cX11_wrongRead 55 = .ok (.bipush (-2), 2) := by decide +kernel
theorem dX11_wrongRead_57 : decode cX11_wrongRead 57 = .ok (.ireturn, 1) := by decide +kernel
theorem dX11_fitting_0 : decode cX11_fitting 0 = .ok (.aload_n 0, 1) := by decide +kernel
theorem dX11_fitting_1 : decode cX11_fitting 1 = .ok (.iconst 0, 1) := by decide +kernel
theorem dX11_fitting_2 : decode cX11_fitting 2 = .ok (.putfield 409, 3) := by decide +kernel
theorem dX11_fitting_5 : decode cX11_fitting 5 = .ok (.aload_n 0, 1) := by decide +kernel
theorem dX11_fitting_6 : decode cX11_fitting 6 = .ok (.iconst 0, 1) := by decide +kernel
theorem dX11_fitting_7 : decode cX11_fitting 7 = .ok (.putfield 412, 3) := by decide +kernel
theorem dX11_fitting_10 : decode cX11_fitting 10 = .ok (.aload_n 0, 1) := by decide +kernel
theorem dX11_fitting_11 : decode cX11_fitting 11 = .ok (.iconst 1, 1) := by decide +kernel
theorem dX11_fitting_12 : decode cX11_fitting 12 = .ok (.aload_n 0, 1) := by decide +kernel
theorem dX11_fitting_13 : decode cX11_fitting 13 = .ok (.getfield 260, 3) := by decide +kernel
theorem dX11_fitting_16 : decode cX11_fitting 16 = .ok (.getfield 233, 3) := by decide +kernel
theorem dX11_fitting_19 : decode cX11_fitting 19 = .ok (.ishl, 1) := by decide +kernel
theorem dX11_fitting_20 : decode cX11_fitting 20 = .ok (.iconst 1, 1) := by decide +kernel
theorem dX11_fitting_21 : decode cX11_fitting 21 = .ok (.isub, 1) := by decide +kernel
theorem dX11_fitting_22 : decode cX11_fitting 22 = .ok (.putfield 415, 3) := by decide +kernel
theorem dX11_fitting_25 : decode cX11_fitting 25 = .ok (.iconst (-1), 1) := by decide +kernel
theorem dX11_fitting_26 : decode cX11_fitting 26 = .ok (.istore_n 2, 1) := by decide +kernel
theorem dX11_fitting_27 : decode cX11_fitting 27 = .ok (.iconst 0, 1) := by decide +kernel
theorem dX11_fitting_28 : decode cX11_fitting 28 = .ok (.istore_n 3, 1) := by decide +kernel
theorem dX11_fitting_29 : decode cX11_fitting 29 = .ok (.iload_n 3, 1) := by decide +kernel
theorem dX11_fitting_30 : decode cX11_fitting 30 = .ok (.iconst 4, 1) := by decide +kernel
theorem dX11_fitting_31 : decode cX11_fitting 31 = .ok (.if_icmp .ge 16, 3) := by decide +kernel
theorem dX11_fitting_34 : decode cX11_fitting 34 = .ok (.aload_n 0, 1) := by decide +kernel
theorem dX11_fitting_35 : decode cX11_fitting 35 = .ok (.getfield 42, 3) := by decide +kernel
theorem dX11_fitting_38 : decode cX11_fitting 38 = .ok (.iload_n 3, 1) := by decide +kernel
theorem dX11_fitting_39 : decode cX11_fitting 39 = .ok (.iconst 0, 1) := by decide +kernel
theorem dX11_fitting_40 : decode cX11_fitting 40 = .ok (.iastore, 1) := by decide +kernel
theorem dX11_fitting_41 : decode cX11_fitting 41 = .ok (.iinc 3 1, 3) := by decide +kernel
theorem dX11_fitting_44 : decode cX11_fitting 44 = .ok (.goto (-15), 3) := by decide +kernel
theorem dX11_fitting_47 : decode cX11_fitting 47 = .ok (.iconst 0, 1) := by decide +kernel
theorem dX11_fitting_48 : decode cX11_fitting 48 = .ok (.istore_n 3, 1) := by decide +kernel
theorem dX11_fitting_49 : decode cX11_fitting 49 = .ok (.iload_n 3, 1) := by decide +kernel
theorem dX11_fitting_50 : decode cX11_fitting 50 = .ok (.iconst 1, 1) := by decide +kernel
theorem dX11_fitting_51 : decode cX11_fitting 51 = .ok (.aload_n 0, 1) := by decide +kernel
theorem dX11_fitting_52 : decode cX11_fitting 52 = .ok (.getfield 260, 3) := by decide +kernel
theorem dX11_fitting_55 : decode cX11_fitting 55 = .ok (.getfield 233, 3) := by decide +kernel
theorem dX11_fitting_58 : decode cX11_fitting 58 = .ok (.ishl, 1) := by decide +kernel
theorem dX11_fitting_59 : decode cX11_fitting 59 = .ok (.if_icmp .ge 107, 3) := by decide +kernel
theorem dX11_fitting_62 : decode cX11_fitting 62 = .ok (.aload_n 0, 1) := by decide +kernel
theorem dX11_fitting_63 : decode cX11_fitting 63 = .ok (.iload_n 3, 1) := by decide +kernel
theorem dX11_fitting_64 : decode cX11_fitting 64 = .ok (.invokevirtual 418, 3) := by decide +kernel
theorem dX11_fitting_67 : decode cX11_fitting 67 = .ok (.bipush (-2), 2) := by decide +kernel
theorem dX11_fitting_69 : decode cX11_fitting 69 = .ok (.if_icmp .eq 6, 3) := by decide +kernel
theorem dX11_fitting_72 : decode cX11_fitting 72 = .ok (.goto 88, 3) := by decide +kernel
theorem dX11_fitting_75 : decode cX11_fitting 75 = .ok (.aload_n 0, 1) := by decide +kernel
theorem dX11_fitting_76 : decode cX11_fitting 76 = .ok (.getfield 409, 3) := by decide +kernel
theorem dX11_fitting_79 : decode cX11_fitting 79 = .ok (.iload_n 1, 1) := by decide +kernel
theorem dX11_fitting_80 : decode cX11_fitting 80 = .ok (.if_icmp .ne 5, 3) := by decide +kernel
theorem dX11_fitting_83 : decode cX11_fitting 83 = .ok (.iload_n 3, 1) := by decide +kernel
theorem dX11_fitting_84 : decode cX11_fitting 84 = .ok (.istore_n 2, 1) := by decide +kernel
theorem dX11_fitting_85 : decode cX11_fitting 85 = .ok (.aload_n 0, 1) := by decide +kernel
theorem dX11_fitting_86 : decode cX11_fitting 86 = .ok (.dup, 1) := by decide +kernel
theorem dX11_fitting_87 : decode cX11_fitting 87 = .ok (.getfield 409, 3) := by decide +kernel
theorem dX11_fitting_90 : decode cX11_fitting 90 = .ok (.iconst 1, 1) := by decide +kernel
theorem dX11_fitting_91 : decode cX11_fitting 91 = .ok (.iadd, 1) := by decide +kernel
theorem dX11_fitting_92 : decode cX11_fitting 92 = .ok (.putfield 409, 3) := by decide +kernel
theorem dX11_fitting_95 : decode cX11_fitting 95 = .ok (.aload_n 0, 1) := by decide +kernel
theorem dX11_fitting_96 : decode cX11_fitting 96 = .ok (.dup, 1) := by decide +kernel
theorem dX11_fitting_97 : decode cX11_fitting 97 = .ok (.getfield 412, 3) := by decide +kernel
theorem dX11_fitting_100 : decode cX11_fitting 100 = .ok (.iload_n 3, 1) := by decide +kernel
theorem dX11_fitting_101 : decode cX11_fitting 101 = .ok (.ior, 1) := by decide +kernel
theorem dX11_fitting_102 : decode cX11_fitting 102 = .ok (.putfield 412, 3) := by decide +kernel
theorem dX11_fitting_105 : decode cX11_fitting 105 = .ok (.aload_n 0, 1) := by decide +kernel
theorem dX11_fitting_106 : decode cX11_fitting 106 = .ok (.dup, 1) := by decide +kernel
theorem dX11_fitting_107 : decode cX11_fitting 107 = .ok (.getfield 415, 3) := by decide +kernel
theorem dX11_fitting_110 : decode cX11_fitting 110 = .ok (.iload_n 3, 1) := by decide +kernel
theorem dX11_fitting_111 : decode cX11_fitting 111 = .ok (.iand, 1) := by decide +kernel
theorem dX11_fitting_112 : decode cX11_fitting 112 = .ok (.putfield 415, 3) := by decide +kernel
theorem dX11_fitting_115 : decode cX11_fitting 115 = .ok (.iconst 0, 1) := by decide +kernel
theorem dX11_fitting_116 : decode cX11_fitting 116 = .ok (.istore 4, 2) := by decide +kernel
theorem dX11_fitting_118 : decode cX11_fitting 118 = .ok (.iload 4, 2) := by decide +kernel
theorem dX11_fitting_120 : decode cX11_fitting 120 = .ok (.aload_n 0, 1) := by decide +kernel
theorem dX11_fitting_121 : decode cX11_fitting 121 = .ok (.getfield 260, 3) := by decide +kernel
theorem dX11_fitting_124 : decode cX11_fitting 124 = .ok (.getfield 233, 3) := by decide +kernel
theorem dX11_fitting_127 : decode cX11_fitting 127 = .ok (.if_icmp .ge 33, 3) := by decide +kernel
theorem dX11_fitting_130 : decode cX11_fitting 130 = .ok (.aload_n 0, 1) := by decide +kernel
theorem dX11_fitting_131 : decode cX11_fitting 131 = .ok (.getfield 42, 3) := by decide +kernel
theorem dX11_fitting_134 : decode cX11_fitting 134 = .ok (.iload 4, 2) := by decide +kernel
theorem dX11_fitting_136 : decode cX11_fitting 136 = .ok (.dup2, 1) := by decide +kernel
theorem dX11_fitting_137 : decode cX11_fitting 137 = .ok (.iaload, 1) := by decide +kernel
theorem dX11_fitting_138 : decode cX11_fitting 138 = .ok (.iload_n 3, 1) := by decide +kernel
theorem dX11_fitting_139 : decode cX11_fitting 139 = .ok (.iload 4, 2) := by decide +kernel
theorem dX11_fitting_141 : decode cX11_fitting 141 = .ok (.invokestatic 388, 3) := by decide +kernel
theorem dX11_fitting_144 : decode cX11_fitting 144 = .ok (.ifCond .eq 7, 3) := by decide +kernel
theorem dX11_fitting_147 : decode cX11_fitting 147 = .ok (.iconst 1, 1) := by decide +kernel
theorem dX11_fitting_148 : decode cX11_fitting 148 = .ok (.goto 4, 3) := by decide +kernel
theorem dX11_fitting_151 : decode cX11_fitting 151 = .ok (.iconst 0, 1) := by decide +kernel
theorem dX11_fitting_152 : decode cX11_fitting 152 = .ok (.iadd, 1) := by decide +kernel
theorem dX11_fitting_153 : decode cX11_fitting 153 = .ok (.iastore, 1) := by decide +kernel
theorem dX11_fitting_154 : decode cX11_fitting 154 = .ok (.iinc 4 1, 3) := by decide +kernel
theorem dX11_fitting_157 : decode cX11_fitting 157 = .ok (.goto (-39), 3) := by decide +kernel
theorem dX11_fitting_160 : decode cX11_fitting 160 = .ok (.iinc 3 1, 3) := by decide +kernel
theorem dX11_fitting_163 : decode cX11_fitting 163 = .ok (.goto (-114), 3) := by decide +kernel
theorem dX11_fitting_166 : decode cX11_fitting 166 = .ok (.aload_n 0, 1) := by decide +kernel
theorem dX11_fitting_167 : decode cX11_fitting 167 = .ok (.getfield 409, 3) := by decide +kernel
theorem dX11_fitting_170 : decode cX11_fitting 170 = .ok (.ifCond .ne 8, 3) := by decide +kernel
theorem dX11_fitting_173 : decode cX11_fitting 173 = .ok (.aload_n 0, 1) := by decide +kernel
theorem dX11_fitting_174 : decode cX11_fitting 174 = .ok (.iconst 0, 1) := by decide +kernel
theorem dX11_fitting_175 : decode cX11_fitting 175 = .ok (.putfield 415, 3) := by decide +kernel
theorem dX11_fitting_178 : decode cX11_fitting 178 = .ok (.iload_n 2, 1) := by decide +kernel
theorem dX11_fitting_179 : decode cX11_fitting 179 = .ok (.ireturn, 1) := by decide +kernel
theorem dX11_fits_0 : decode cX11_fits 0 = .ok (.aload_n 0, 1) := by decide +kernel
theorem dX11_fits_1 : decode cX11_fits 1 = .ok (.iconst 0, 1) := by decide +kernel
theorem dX11_fits_2 : decode cX11_fits 2 = .ok (.putfield 45, 3) := by decide +kernel
theorem dX11_fits_5 : decode cX11_fits 5 = .ok (.aload_n 0, 1) := by decide +kernel
theorem dX11_fits_6 : decode cX11_fits 6 = .ok (.getfield 260, 3) := by decide +kernel
theorem dX11_fits_9 : decode cX11_fits 9 = .ok (.ifnonnull 9, 3) := by decide +kernel
theorem dX11_fits_12 : decode cX11_fits 12 = .ok (.aload_n 0, 1) := by decide +kernel
theorem dX11_fits_13 : decode cX11_fits 13 = .ok (.iconst 1, 1) := by decide +kernel
theorem dX11_fits_14 : decode cX11_fits 14 = .ok (.invokevirtual 51, 3) := by decide +kernel
theorem dX11_fits_17 : decode cX11_fits 17 = .ok (.ireturn, 1) := by decide +kernel
theorem dX11_fits_18 : decode cX11_fits 18 = .ok (.aload_n 0, 1) := by decide +kernel
theorem dX11_fits_19 : decode cX11_fits 19 = .ok (.iconst (-1), 1) := by decide +kernel
theorem dX11_fits_20 : decode cX11_fits 20 = .ok (.invokevirtual 421, 3) := by decide +kernel
theorem dX11_fits_23 : decode cX11_fits 23 = .ok (.pop, 1) := by decide +kernel
theorem dX11_fits_24 : decode cX11_fits 24 = .ok (.aload_n 0, 1) := by decide +kernel
theorem dX11_fits_25 : decode cX11_fits 25 = .ok (.aload_n 0, 1) := by decide +kernel
theorem dX11_fits_26 : decode cX11_fits 26 = .ok (.getfield 409, 3) := by decide +kernel
theorem dX11_fits_29 : decode cX11_fits 29 = .ok (.invokevirtual 55, 3) := by decide +kernel
theorem dX11_fits_32 : decode cX11_fits 32 = .ok (.ireturn, 1) := by decide +kernel
theorem dX11_fitAt_0 : decode cX11_fitAt 0 = .ok (.aload_n 0, 1) := by decide +kernel
theorem dX11_fitAt_1 : decode cX11_fitAt 1 = .ok (.iconst 0, 1) := by decide +kernel
theorem dX11_fitAt_2 : decode cX11_fitAt 2 = .ok (.putfield 45, 3) := by decide +kernel
theorem dX11_fitAt_5 : decode cX11_fitAt 5 = .ok (.aload_n 0, 1) := by decide +kernel
theorem dX11_fitAt_6 : decode cX11_fitAt 6 = .ok (.getfield 260, 3) := by decide +kernel
theorem dX11_fitAt_9 : decode cX11_fitAt 9 = .ok (.ifnull 7, 3) := by decide +kernel
theorem dX11_fitAt_12 : decode cX11_fitAt 12 = .ok (.iload_n 1, 1) := by decide +kernel
theorem dX11_fitAt_13 : decode cX11_fitAt 13 = .ok (.ifCond .ge 9, 3) := by decide +kernel
theorem dX11_fitAt_16 : decode cX11_fitAt 16 = .ok (.aload_n 0, 1) := by decide +kernel
theorem dX11_fitAt_17 : decode cX11_fitAt 17 = .ok (.iconst 1, 1) := by decide +kernel
theorem dX11_fitAt_18 : decode cX11_fitAt 18 = .ok (.invokevirtual 51, 3) := by decide +kernel
theorem dX11_fitAt_21 : decode cX11_fitAt 21 = .ok (.ireturn, 1) := by decide +kernel
theorem dX11_fitAt_22 : decode cX11_fitAt 22 = .ok (.aload_n 0, 1) := by decide +kernel
theorem dX11_fitAt_23 : decode cX11_fitAt 23 = .ok (.iload_n 1, 1) := by decide +kernel
theorem dX11_fitAt_24 : decode cX11_fitAt 24 = .ok (.invokevirtual 421, 3) := by decide +kernel
theorem dX11_fitAt_27 : decode cX11_fitAt 27 = .ok (.istore_n 2, 1) := by decide +kernel
theorem dX11_fitAt_28 : decode cX11_fitAt 28 = .ok (.iload_n 2, 1) := by decide +kernel
theorem dX11_fitAt_29 : decode cX11_fitAt 29 = .ok (.iconst (-1), 1) := by decide +kernel
theorem dX11_fitAt_30 : decode cX11_fitAt 30 = .ok (.if_icmp .ne 11, 3) := by decide +kernel
theorem dX11_fitAt_33 : decode cX11_fitAt 33 = .ok (.aload_n 0, 1) := by decide +kernel
theorem dX11_fitAt_34 : decode cX11_fitAt 34 = .ok (.iconst 1, 1) := by decide +kernel
theorem dX11_fitAt_35 : decode cX11_fitAt 35 = .ok (.invokevirtual 51, 3) := by decide +kernel
theorem dX11_fitAt_38 : decode cX11_fitAt 38 = .ok (.goto 8, 3) := by decide +kernel
theorem dX11_fitAt_41 : decode cX11_fitAt 41 = .ok (.aload_n 0, 1) := by decide +kernel
theorem dX11_fitAt_42 : decode cX11_fitAt 42 = .ok (.iload_n 2, 1) := by decide +kernel
theorem dX11_fitAt_43 : decode cX11_fitAt 43 = .ok (.invokevirtual 55, 3) := by decide +kernel
theorem dX11_fitAt_46 : decode cX11_fitAt 46 = .ok (.ireturn, 1) := by decide +kernel
theorem dX11_could_0 : decode cX11_could 0 = .ok (.aload_n 0, 1) := by decide +kernel
theorem dX11_could_1 : decode cX11_could 1 = .ok (.iconst 0, 1) := by decide +kernel
theorem dX11_could_2 : decode cX11_could 2 = .ok (.putfield 45, 3) := by decide +kernel
theorem dX11_could_5 : decode cX11_could 5 = .ok (.aload_n 0, 1) := by decide +kernel
theorem dX11_could_6 : decode cX11_could 6 = .ok (.getfield 260, 3) := by decide +kernel
theorem dX11_could_9 : decode cX11_could 9 = .ok (.ifnonnull 9, 3) := by decide +kernel
theorem dX11_could_12 : decode cX11_could 12 = .ok (.aload_n 0, 1) := by decide +kernel
theorem dX11_could_13 : decode cX11_could 13 = .ok (.iconst 1, 1) := by decide +kernel
theorem dX11_could_14 : decode cX11_could 14 = .ok (.invokevirtual 51, 3) := by decide +kernel
theorem dX11_could_17 : decode cX11_could 17 = .ok (.ireturn, 1) := by decide +kernel
theorem dX11_could_18 : decode cX11_could 18 = .ok (.aload_n 0, 1) := by decide +kernel
theorem dX11_could_19 : decode cX11_could 19 = .ok (.iconst (-1), 1) := by decide +kernel
theorem dX11_could_20 : decode cX11_could 20 = .ok (.invokevirtual 421, 3) := by decide +kernel
theorem dX11_could_23 : decode cX11_could 23 = .ok (.pop, 1) := by decide +kernel
theorem dX11_could_24 : decode cX11_could 24 = .ok (.aload_n 0, 1) := by decide +kernel
theorem dX11_could_25 : decode cX11_could 25 = .ok (.aload_n 0, 1) := by decide +kernel
theorem dX11_could_26 : decode cX11_could 26 = .ok (.getfield 412, 3) := by decide +kernel
theorem dX11_could_29 : decode cX11_could 29 = .ok (.invokevirtual 55, 3) := by decide +kernel
theorem dX11_could_32 : decode cX11_could 32 = .ok (.ireturn, 1) := by decide +kernel
theorem dX11_surely_0 : decode cX11_surely 0 = .ok (.aload_n 0, 1) := by decide +kernel
theorem dX11_surely_1 : decode cX11_surely 1 = .ok (.iconst 0, 1) := by decide +kernel
theorem dX11_surely_2 : decode cX11_surely 2 = .ok (.putfield 45, 3) := by decide +kernel
theorem dX11_surely_5 : decode cX11_surely 5 = .ok (.aload_n 0, 1) := by decide +kernel
theorem dX11_surely_6 : decode cX11_surely 6 = .ok (.getfield 260, 3) := by decide +kernel
theorem dX11_surely_9 : decode cX11_surely 9 = .ok (.ifnonnull 9, 3) := by decide +kernel
theorem dX11_surely_12 : decode cX11_surely 12 = .ok (.aload_n 0, 1) := by decide +kernel
theorem dX11_surely_13 : decode cX11_surely 13 = .ok (.iconst 1, 1) := by decide +kernel
theorem dX11_surely_14 : decode cX11_surely 14 = .ok (.invokevirtual 51, 3) := by decide +kernel
theorem dX11_surely_17 : decode cX11_surely 17 = .ok (.ireturn, 1) := by decide +kernel
theorem dX11_surely_18 : decode cX11_surely 18 = .ok (.aload_n 0, 1) := by decide +kernel
theorem dX11_surely_19 : decode cX11_surely 19 = .ok (.iconst (-1), 1) := by decide +kernel
theorem dX11_surely_20 : decode cX11_surely 20 = .ok (.invokevirtual 421, 3) := by decide +kernel
theorem dX11_surely_23 : decode cX11_surely 23 = .ok (.pop, 1) := by decide +kernel
theorem dX11_surely_24 : decode cX11_surely 24 = .ok (.aload_n 0, 1) := by decide +kernel
theorem dX11_surely_25 : decode cX11_surely 25 = .ok (.aload_n 0, 1) := by decide +kernel
theorem dX11_surely_26 : decode cX11_surely 26 = .ok (.getfield 415, 3) := by decide +kernel
theorem dX11_surely_29 : decode cX11_surely 29 = .ok (.invokevirtual 55, 3) := by decide +kernel
theorem dX11_surely_32 : decode cX11_surely 32 = .ok (.ireturn, 1) := by decide +kernel
theorem dX11_asks_0 : decode cX11_asks 0 = .ok (.aload_n 0, 1) := by decide +kernel
theorem dX11_asks_1 : decode cX11_asks 1 = .ok (.iconst (-1), 1) := by decide +kernel
theorem dX11_asks_2 : decode cX11_asks 2 = .ok (.invokevirtual 421, 3) := by decide +kernel
theorem dX11_asks_5 : decode cX11_asks 5 = .ok (.pop, 1) := by decide +kernel
theorem dX11_asks_6 : decode cX11_asks 6 = .ok (.bipush (-2), 2) := by decide +kernel
theorem dX11_asks_8 : decode cX11_asks 8 = .ok (.istore_n 1, 1) := by decide +kernel
theorem dX11_asks_9 : decode cX11_asks 9 = .ok (.aload_n 0, 1) := by decide +kernel
theorem dX11_asks_10 : decode cX11_asks 10 = .ok (.bipush (-2), 2) := by decide +kernel
theorem dX11_asks_12 : decode cX11_asks 12 = .ok (.putfield 424, 3) := by decide +kernel
theorem dX11_asks_15 : decode cX11_asks 15 = .ok (.iconst 0, 1) := by decide +kernel
theorem dX11_asks_16 : decode cX11_asks 16 = .ok (.istore_n 2, 1) := by decide +kernel
theorem dX11_asks_17 : decode cX11_asks 17 = .ok (.iload_n 2, 1) := by decide +kernel
theorem dX11_asks_18 : decode cX11_asks 18 = .ok (.aload_n 0, 1) := by decide +kernel
theorem dX11_asks_19 : decode cX11_asks 19 = .ok (.getfield 260, 3) := by decide +kernel
theorem dX11_asks_22 : decode cX11_asks 22 = .ok (.getfield 233, 3) := by decide +kernel
theorem dX11_asks_25 : decode cX11_asks 25 = .ok (.if_icmp .ge 81, 3) := by decide +kernel
theorem dX11_asks_28 : decode cX11_asks 28 = .ok (.aload_n 0, 1) := by decide +kernel
theorem dX11_asks_29 : decode cX11_asks 29 = .ok (.getfield 409, 3) := by decide +kernel
theorem dX11_asks_32 : decode cX11_asks 32 = .ok (.ifCond .le 74, 3) := by decide +kernel
theorem dX11_asks_35 : decode cX11_asks 35 = .ok (.aload_n 0, 1) := by decide +kernel
theorem dX11_asks_36 : decode cX11_asks 36 = .ok (.getfield 42, 3) := by decide +kernel
theorem dX11_asks_39 : decode cX11_asks 39 = .ok (.iload_n 2, 1) := by decide +kernel
theorem dX11_asks_40 : decode cX11_asks 40 = .ok (.iaload, 1) := by decide +kernel
theorem dX11_asks_41 : decode cX11_asks 41 = .ok (.aload_n 0, 1) := by decide +kernel
theorem dX11_asks_42 : decode cX11_asks 42 = .ok (.getfield 409, 3) := by decide +kernel
theorem dX11_asks_45 : decode cX11_asks 45 = .ok (.aload_n 0, 1) := by decide +kernel
theorem dX11_asks_46 : decode cX11_asks 46 = .ok (.getfield 42, 3) := by decide +kernel
theorem dX11_asks_49 : decode cX11_asks 49 = .ok (.iload_n 2, 1) := by decide +kernel
theorem dX11_asks_50 : decode cX11_asks 50 = .ok (.iaload, 1) := by decide +kernel
theorem dX11_asks_51 : decode cX11_asks 51 = .ok (.isub, 1) := by decide +kernel
theorem dX11_asks_52 : decode cX11_asks 52 = .ok (.if_icmp .le 12, 3) := by decide +kernel
theorem dX11_asks_55 : decode cX11_asks 55 = .ok (.aload_n 0, 1) := by decide +kernel
theorem dX11_asks_56 : decode cX11_asks 56 = .ok (.getfield 42, 3) := by decide +kernel
theorem dX11_asks_59 : decode cX11_asks 59 = .ok (.iload_n 2, 1) := by decide +kernel
theorem dX11_asks_60 : decode cX11_asks 60 = .ok (.iaload, 1) := by decide +kernel
theorem dX11_asks_61 : decode cX11_asks 61 = .ok (.goto 14, 3) := by decide +kernel
theorem dX11_asks_64 : decode cX11_asks 64 = .ok (.aload_n 0, 1) := by decide +kernel
theorem dX11_asks_65 : decode cX11_asks 65 = .ok (.getfield 409, 3) := by decide +kernel
theorem dX11_asks_68 : decode cX11_asks 68 = .ok (.aload_n 0, 1) := by decide +kernel
theorem dX11_asks_69 : decode cX11_asks 69 = .ok (.getfield 42, 3) := by decide +kernel
theorem dX11_asks_72 : decode cX11_asks 72 = .ok (.iload_n 2, 1) := by decide +kernel
theorem dX11_asks_73 : decode cX11_asks 73 = .ok (.iaload, 1) := by decide +kernel
theorem dX11_asks_74 : decode cX11_asks 74 = .ok (.isub, 1) := by decide +kernel
theorem dX11_asks_75 : decode cX11_asks 75 = .ok (.istore_n 3, 1) := by decide +kernel
theorem dX11_asks_76 : decode cX11_asks 76 = .ok (.iload_n 1, 1) := by decide +kernel
theorem dX11_asks_77 : decode cX11_asks 77 = .ok (.bipush (-2), 2) := by decide +kernel
theorem dX11_asks_79 : decode cX11_asks 79 = .ok (.if_icmp .eq 14, 3) := by decide +kernel
theorem dX11_asks_82 : decode cX11_asks 82 = .ok (.iload_n 3, 1) := by decide +kernel
theorem dX11_asks_83 : decode cX11_asks 83 = .ok (.aload_n 0, 1) := by decide +kernel
theorem dX11_asks_84 : decode cX11_asks 84 = .ok (.getfield 424, 3) := by decide +kernel
theorem dX11_asks_87 : decode cX11_asks 87 = .ok (.if_icmp .lt 6, 3) := by decide +kernel
theorem dX11_asks_90 : decode cX11_asks 90 = .ok (.goto 10, 3) := by decide +kernel
theorem dX11_asks_93 : decode cX11_asks 93 = .ok (.iload_n 2, 1) := by decide +kernel
theorem dX11_asks_94 : decode cX11_asks 94 = .ok (.istore_n 1, 1) := by decide +kernel
theorem dX11_asks_95 : decode cX11_asks 95 = .ok (.aload_n 0, 1) := by decide +kernel
theorem dX11_asks_96 : decode cX11_asks 96 = .ok (.iload_n 3, 1) := by decide +kernel
theorem dX11_asks_97 : decode cX11_asks 97 = .ok (.putfield 424, 3) := by decide +kernel
theorem dX11_asks_100 : decode cX11_asks 100 = .ok (.iinc 2 1, 3) := by decide +kernel
theorem dX11_asks_103 : decode cX11_asks 103 = .ok (.goto (-86), 3) := by decide +kernel
theorem dX11_asks_106 : decode cX11_asks 106 = .ok (.iload_n 1, 1) := by decide +kernel
theorem dX11_asks_107 : decode cX11_asks 107 = .ok (.ireturn, 1) := by decide +kernel
theorem dX11_ask_0 : decode cX11_ask 0 = .ok (.aload_n 0, 1) := by decide +kernel
theorem dX11_ask_1 : decode cX11_ask 1 = .ok (.iconst 0, 1) := by decide +kernel
theorem dX11_ask_2 : decode cX11_ask 2 = .ok (.putfield 45, 3) := by decide +kernel
theorem dX11_ask_5 : decode cX11_ask 5 = .ok (.aload_n 0, 1) := by decide +kernel
theorem dX11_ask_6 : decode cX11_ask 6 = .ok (.getfield 260, 3) := by decide +kernel
theorem dX11_ask_9 : decode cX11_ask 9 = .ok (.ifnonnull 11, 3) := by decide +kernel
theorem dX11_ask_12 : decode cX11_ask 12 = .ok (.aload_n 0, 1) := by decide +kernel
theorem dX11_ask_13 : decode cX11_ask 13 = .ok (.iconst 1, 1) := by decide +kernel
theorem dX11_ask_14 : decode cX11_ask 14 = .ok (.invokevirtual 51, 3) := by decide +kernel
theorem dX11_ask_17 : decode cX11_ask 17 = .ok (.goto 11, 3) := by decide +kernel
theorem dX11_ask_20 : decode cX11_ask 20 = .ok (.aload_n 0, 1) := by decide +kernel
theorem dX11_ask_21 : decode cX11_ask 21 = .ok (.aload_n 0, 1) := by decide +kernel
theorem dX11_ask_22 : decode cX11_ask 22 = .ok (.invokevirtual 427, 3) := by decide +kernel
theorem dX11_ask_25 : decode cX11_ask 25 = .ok (.invokevirtual 55, 3) := by decide +kernel
theorem dX11_ask_28 : decode cX11_ask 28 = .ok (.ireturn, 1) := by decide +kernel
theorem dX11_askLeaves_0 : decode cX11_askLeaves 0 = .ok (.aload_n 0, 1) := by decide +kernel
theorem dX11_askLeaves_1 : decode cX11_askLeaves 1 = .ok (.iconst 0, 1) := by decide +kernel
theorem dX11_askLeaves_2 : decode cX11_askLeaves 2 = .ok (.putfield 45, 3) := by decide +kernel
theorem dX11_askLeaves_5 : decode cX11_askLeaves 5 = .ok (.aload_n 0, 1) := by decide +kernel
theorem dX11_askLeaves_6 : decode cX11_askLeaves 6 = .ok (.getfield 260, 3) := by decide +kernel
theorem dX11_askLeaves_9 : decode cX11_askLeaves 9 = .ok (.ifnonnull 9, 3) := by decide +kernel
theorem dX11_askLeaves_12 : decode cX11_askLeaves 12 = .ok (.aload_n 0, 1) := by decide +kernel
theorem dX11_askLeaves_13 : decode cX11_askLeaves 13 = .ok (.iconst 1, 1) := by decide +kernel
theorem dX11_askLeaves_14 : decode cX11_askLeaves 14 = .ok (.invokevirtual 51, 3) := by decide +kernel
theorem dX11_askLeaves_17 : decode cX11_askLeaves 17 = .ok (.ireturn, 1) := by decide +kernel
theorem dX11_askLeaves_18 : decode cX11_askLeaves 18 = .ok (.aload_n 0, 1) := by decide +kernel
theorem dX11_askLeaves_19 : decode cX11_askLeaves 19 = .ok (.invokevirtual 427, 3) := by decide +kernel
theorem dX11_askLeaves_22 : decode cX11_askLeaves 22 = .ok (.pop, 1) := by decide +kernel
theorem dX11_askLeaves_23 : decode cX11_askLeaves 23 = .ok (.aload_n 0, 1) := by decide +kernel
theorem dX11_askLeaves_24 : decode cX11_askLeaves 24 = .ok (.aload_n 0, 1) := by decide +kernel
theorem dX11_askLeaves_25 : decode cX11_askLeaves 25 = .ok (.getfield 424, 3) := by decide +kernel
theorem dX11_askLeaves_28 : decode cX11_askLeaves 28 = .ok (.invokevirtual 55, 3) := by decide +kernel
theorem dX11_askLeaves_31 : decode cX11_askLeaves 31 = .ok (.ireturn, 1) := by decide +kernel
theorem dX11_judge_0 : decode cX11_judge 0 = .ok (.aload_n 0, 1) := by decide +kernel
theorem dX11_judge_1 : decode cX11_judge 1 = .ok (.iconst 0, 1) := by decide +kernel
theorem dX11_judge_2 : decode cX11_judge 2 = .ok (.putfield 45, 3) := by decide +kernel
theorem dX11_judge_5 : decode cX11_judge 5 = .ok (.aload_n 0, 1) := by decide +kernel
theorem dX11_judge_6 : decode cX11_judge 6 = .ok (.getfield 260, 3) := by decide +kernel
theorem dX11_judge_9 : decode cX11_judge 9 = .ok (.ifnonnull 11, 3) := by decide +kernel
theorem dX11_judge_12 : decode cX11_judge 12 = .ok (.aload_n 0, 1) := by decide +kernel
theorem dX11_judge_13 : decode cX11_judge 13 = .ok (.iconst 1, 1) := by decide +kernel
theorem dX11_judge_14 : decode cX11_judge 14 = .ok (.invokevirtual 51, 3) := by decide +kernel
theorem dX11_judge_17 : decode cX11_judge 17 = .ok (.goto 12, 3) := by decide +kernel
theorem dX11_judge_20 : decode cX11_judge 20 = .ok (.aload_n 0, 1) := by decide +kernel
theorem dX11_judge_21 : decode cX11_judge 21 = .ok (.aload_n 0, 1) := by decide +kernel
theorem dX11_judge_22 : decode cX11_judge 22 = .ok (.iconst 0, 1) := by decide +kernel
theorem dX11_judge_23 : decode cX11_judge 23 = .ok (.invokevirtual 418, 3) := by decide +kernel
theorem dX11_judge_26 : decode cX11_judge 26 = .ok (.invokevirtual 55, 3) := by decide +kernel
theorem dX11_judge_29 : decode cX11_judge 29 = .ok (.ireturn, 1) := by decide +kernel
theorem dX11_draws_0 : decode cX11_draws 0 = .ok (.aload_n 0, 1) := by decide +kernel
theorem dX11_draws_1 : decode cX11_draws 1 = .ok (.ldc2_w 430, 3) := by decide +kernel
theorem dX11_draws_4 : decode cX11_draws 4 = .ok (.aload_n 0, 1) := by decide +kernel
theorem dX11_draws_5 : decode cX11_draws 5 = .ok (.getfield 432, 3) := by decide +kernel
theorem dX11_draws_8 : decode cX11_draws 8 = .ok (.i2l, 1) := by decide +kernel
theorem dX11_draws_9 : decode cX11_draws 9 = .ok (.lmul, 1) := by decide +kernel
theorem dX11_draws_10 : decode cX11_draws 10 = .ok (.ldc2_w 435, 3) := by decide +kernel
theorem dX11_draws_13 : decode cX11_draws 13 = .ok (.ladd, 1) := by decide +kernel
theorem dX11_draws_14 : decode cX11_draws 14 = .ok (.ldc2_w 437, 3) := by decide +kernel
theorem dX11_draws_17 : decode cX11_draws 17 = .ok (.lrem, 1) := by decide +kernel
theorem dX11_draws_18 : decode cX11_draws 18 = .ok (.l2i, 1) := by decide +kernel
theorem dX11_draws_19 : decode cX11_draws 19 = .ok (.putfield 432, 3) := by decide +kernel
theorem dX11_draws_22 : decode cX11_draws 22 = .ok (.aload_n 0, 1) := by decide +kernel
theorem dX11_draws_23 : decode cX11_draws 23 = .ok (.getfield 432, 3) := by decide +kernel
theorem dX11_draws_26 : decode cX11_draws 26 = .ok (.iload_n 1, 1) := by decide +kernel
theorem dX11_draws_27 : decode cX11_draws 27 = .ok (.irem, 1) := by decide +kernel
theorem dX11_draws_28 : decode cX11_draws 28 = .ok (.ireturn, 1) := by decide +kernel
theorem dX11_drawnCut_0 : decode cX11_drawnCut 0 = .ok (.aload_n 0, 1) := by decide +kernel
theorem dX11_drawnCut_1 : decode cX11_drawnCut 1 = .ok (.invokevirtual 340, 3) := by decide +kernel
theorem dX11_drawnCut_4 : decode cX11_drawnCut 4 = .ok (.istore_n 1, 1) := by decide +kernel
theorem dX11_drawnCut_5 : decode cX11_drawnCut 5 = .ok (.aload_n 0, 1) := by decide +kernel
theorem dX11_drawnCut_6 : decode cX11_drawnCut 6 = .ok (.iload_n 1, 1) := by decide +kernel
theorem dX11_drawnCut_7 : decode cX11_drawnCut 7 = .ok (.aload_n 0, 1) := by decide +kernel
theorem dX11_drawnCut_8 : decode cX11_drawnCut 8 = .ok (.aload_n 0, 1) := by decide +kernel
theorem dX11_drawnCut_9 : decode cX11_drawnCut 9 = .ok (.iload_n 1, 1) := by decide +kernel
theorem dX11_drawnCut_10 : decode cX11_drawnCut 10 = .ok (.invokevirtual 328, 3) := by decide +kernel
theorem dX11_drawnCut_13 : decode cX11_drawnCut 13 = .ok (.iconst 1, 1) := by decide +kernel
theorem dX11_drawnCut_14 : decode cX11_drawnCut 14 = .ok (.iadd, 1) := by decide +kernel
theorem dX11_drawnCut_15 : decode cX11_drawnCut 15 = .ok (.invokevirtual 439, 3) := by decide +kernel
theorem dX11_drawnCut_18 : decode cX11_drawnCut 18 = .ok (.invokevirtual 376, 3) := by decide +kernel
theorem dX11_drawnCut_21 : decode cX11_drawnCut 21 = .ok (.pop, 1) := by decide +kernel
theorem dX11_drawnCut_22 : decode cX11_drawnCut 22 = .ok (.aload_n 0, 1) := by decide +kernel
theorem dX11_drawnCut_23 : decode cX11_drawnCut 23 = .ok (.invokevirtual 379, 3) := by decide +kernel
theorem dX11_drawnCut_26 : decode cX11_drawnCut 26 = .ok (.pop, 1) := by decide +kernel
theorem dX11_drawnCut_27 : decode cX11_drawnCut 27 = .ok (.return_, 1) := by decide +kernel
theorem dX11_drawnTurns_0 : decode cX11_drawnTurns 0 = .ok (.aload_n 0, 1) := by decide +kernel
theorem dX11_drawnTurns_1 : decode cX11_drawnTurns 1 = .ok (.invokevirtual 352, 3) := by decide +kernel
theorem dX11_drawnTurns_4 : decode cX11_drawnTurns 4 = .ok (.aload_n 0, 1) := by decide +kernel
theorem dX11_drawnTurns_5 : decode cX11_drawnTurns 5 = .ok (.aload_n 0, 1) := by decide +kernel
theorem dX11_drawnTurns_6 : decode cX11_drawnTurns 6 = .ok (.getfield 21, 3) := by decide +kernel
theorem dX11_drawnTurns_9 : decode cX11_drawnTurns 9 = .ok (.bipush 109, 2) := by decide +kernel
theorem dX11_drawnTurns_11 : decode cX11_drawnTurns 11 = .ok (.iaload, 1) := by decide +kernel
theorem dX11_drawnTurns_12 : decode cX11_drawnTurns 12 = .ok (.putfield 442, 3) := by decide +kernel
theorem dX11_drawnTurns_15 : decode cX11_drawnTurns 15 = .ok (.aload_n 0, 1) := by decide +kernel
theorem dX11_drawnTurns_16 : decode cX11_drawnTurns 16 = .ok (.getfield 21, 3) := by decide +kernel
theorem dX11_drawnTurns_19 : decode cX11_drawnTurns 19 = .ok (.bipush 97, 2) := by decide +kernel
theorem dX11_drawnTurns_21 : decode cX11_drawnTurns 21 = .ok (.iaload, 1) := by decide +kernel
theorem dX11_drawnTurns_22 : decode cX11_drawnTurns 22 = .ok (.iconst 1, 1) := by decide +kernel
theorem dX11_drawnTurns_23 : decode cX11_drawnTurns 23 = .ok (.if_icmp .ne 8, 3) := by decide +kernel
theorem dX11_drawnTurns_26 : decode cX11_drawnTurns 26 = .ok (.aload_n 0, 1) := by decide +kernel
theorem dX11_drawnTurns_27 : decode cX11_drawnTurns 27 = .ok (.invokevirtual 379, 3) := by decide +kernel
theorem dX11_drawnTurns_30 : decode cX11_drawnTurns 30 = .ok (.pop, 1) := by decide +kernel
theorem dX11_drawnTurns_31 : decode cX11_drawnTurns 31 = .ok (.aload_n 0, 1) := by decide +kernel
theorem dX11_drawnTurns_32 : decode cX11_drawnTurns 32 = .ok (.iload_n 1, 1) := by decide +kernel
theorem dX11_drawnTurns_33 : decode cX11_drawnTurns 33 = .ok (.putfield 432, 3) := by decide +kernel
theorem dX11_drawnTurns_36 : decode cX11_drawnTurns 36 = .ok (.iconst 0, 1) := by decide +kernel
theorem dX11_drawnTurns_37 : decode cX11_drawnTurns 37 = .ok (.istore_n 3, 1) := by decide +kernel
theorem dX11_drawnTurns_38 : decode cX11_drawnTurns 38 = .ok (.iload_n 3, 1) := by decide +kernel
theorem dX11_drawnTurns_39 : decode cX11_drawnTurns 39 = .ok (.iload_n 2, 1) := by decide +kernel
theorem dX11_drawnTurns_40 : decode cX11_drawnTurns 40 = .ok (.if_icmp .ge 48, 3) := by decide +kernel
theorem dX11_drawnTurns_43 : decode cX11_drawnTurns 43 = .ok (.aload_n 0, 1) := by decide +kernel
theorem dX11_drawnTurns_44 : decode cX11_drawnTurns 44 = .ok (.aload_n 0, 1) := by decide +kernel
theorem dX11_drawnTurns_45 : decode cX11_drawnTurns 45 = .ok (.getfield 260, 3) := by decide +kernel
theorem dX11_drawnTurns_48 : decode cX11_drawnTurns 48 = .ok (.getfield 209, 3) := by decide +kernel
theorem dX11_drawnTurns_51 : decode cX11_drawnTurns 51 = .ok (.invokevirtual 439, 3) := by decide +kernel
theorem dX11_drawnTurns_54 : decode cX11_drawnTurns 54 = .ok (.istore 4, 2) := by decide +kernel
theorem dX11_drawnTurns_56 : decode cX11_drawnTurns 56 = .ok (.aload_n 0, 1) := by decide +kernel
theorem dX11_drawnTurns_57 : decode cX11_drawnTurns 57 = .ok (.iload 4, 2) := by decide +kernel
theorem dX11_drawnTurns_59 : decode cX11_drawnTurns 59 = .ok (.aload_n 0, 1) := by decide +kernel
theorem dX11_drawnTurns_60 : decode cX11_drawnTurns 60 = .ok (.bipush 100, 2) := by decide +kernel
theorem dX11_drawnTurns_62 : decode cX11_drawnTurns 62 = .ok (.invokevirtual 439, 3) := by decide +kernel
theorem dX11_drawnTurns_65 : decode cX11_drawnTurns 65 = .ok (.invokevirtual 385, 3) := by decide +kernel
theorem dX11_drawnTurns_68 : decode cX11_drawnTurns 68 = .ok (.pop, 1) := by decide +kernel
theorem dX11_drawnTurns_69 : decode cX11_drawnTurns 69 = .ok (.aload_n 0, 1) := by decide +kernel
theorem dX11_drawnTurns_70 : decode cX11_drawnTurns 70 = .ok (.bipush 8, 2) := by decide +kernel
theorem dX11_drawnTurns_72 : decode cX11_drawnTurns 72 = .ok (.invokevirtual 439, 3) := by decide +kernel
theorem dX11_drawnTurns_75 : decode cX11_drawnTurns 75 = .ok (.ifCond .ne 7, 3) := by decide +kernel
theorem dX11_drawnTurns_78 : decode cX11_drawnTurns 78 = .ok (.aload_n 0, 1) := by decide +kernel
theorem dX11_drawnTurns_79 : decode cX11_drawnTurns 79 = .ok (.invokevirtual 445, 3) := by decide +kernel
theorem dX11_drawnTurns_82 : decode cX11_drawnTurns 82 = .ok (.iinc 3 1, 3) := by decide +kernel
theorem dX11_drawnTurns_85 : decode cX11_drawnTurns 85 = .ok (.goto (-47), 3) := by decide +kernel
theorem dX11_drawnTurns_88 : decode cX11_drawnTurns 88 = .ok (.aload_n 0, 1) := by decide +kernel
theorem dX11_drawnTurns_89 : decode cX11_drawnTurns 89 = .ok (.aload_n 0, 1) := by decide +kernel
theorem dX11_drawnTurns_90 : decode cX11_drawnTurns 90 = .ok (.getfield 21, 3) := by decide +kernel
theorem dX11_drawnTurns_93 : decode cX11_drawnTurns 93 = .ok (.bipush 109, 2) := by decide +kernel
theorem dX11_drawnTurns_95 : decode cX11_drawnTurns 95 = .ok (.iaload, 1) := by decide +kernel
theorem dX11_drawnTurns_96 : decode cX11_drawnTurns 96 = .ok (.aload_n 0, 1) := by decide +kernel
theorem dX11_drawnTurns_97 : decode cX11_drawnTurns 97 = .ok (.getfield 442, 3) := by decide +kernel
theorem dX11_drawnTurns_100 : decode cX11_drawnTurns 100 = .ok (.isub, 1) := by decide +kernel
theorem dX11_drawnTurns_101 : decode cX11_drawnTurns 101 = .ok (.putfield 442, 3) := by decide +kernel
theorem dX11_drawnTurns_104 : decode cX11_drawnTurns 104 = .ok (.return_, 1) := by decide +kernel
theorem dX11_refusesDraw_0 : decode cX11_refusesDraw 0 = .ok (.iload_n 1, 1) := by decide +kernel
theorem dX11_refusesDraw_1 : decode cX11_refusesDraw 1 = .ok (.ifCond .ne 5, 3) := by decide +kernel
theorem dX11_refusesDraw_4 : decode cX11_refusesDraw 4 = .ok (.iconst 1, 1) := by decide +kernel
theorem dX11_refusesDraw_5 : decode cX11_refusesDraw 5 = .ok (.ireturn, 1) := by decide +kernel
theorem dX11_refusesDraw_6 : decode cX11_refusesDraw 6 = .ok (.iload_n 2, 1) := by decide +kernel
theorem dX11_refusesDraw_7 : decode cX11_refusesDraw 7 = .ok (.iconst 0, 1) := by decide +kernel
theorem dX11_refusesDraw_8 : decode cX11_refusesDraw 8 = .ok (.ldc_w 448, 3) := by decide +kernel
theorem dX11_refusesDraw_11 : decode cX11_refusesDraw 11 = .ok (.invokestatic 124, 3) := by decide +kernel
theorem dX11_refusesDraw_14 : decode cX11_refusesDraw 14 = .ok (.ifCond .eq 17, 3) := by decide +kernel
theorem dX11_refusesDraw_17 : decode cX11_refusesDraw 17 = .ok (.iload_n 3, 1) := by decide +kernel
theorem dX11_refusesDraw_18 : decode cX11_refusesDraw 18 = .ok (.iconst 0, 1) := by decide +kernel
theorem dX11_refusesDraw_19 : decode cX11_refusesDraw 19 = .ok (.bipush 100, 2) := by decide +kernel
theorem dX11_refusesDraw_21 : decode cX11_refusesDraw 21 = .ok (.invokestatic 124, 3) := by decide +kernel
theorem dX11_refusesDraw_24 : decode cX11_refusesDraw 24 = .ok (.ifCond .eq 7, 3) := by decide +kernel
theorem dX11_refusesDraw_27 : decode cX11_refusesDraw 27 = .ok (.iconst 0, 1) := by decide +kernel
theorem dX11_refusesDraw_28 : decode cX11_refusesDraw 28 = .ok (.goto 4, 3) := by decide +kernel
theorem dX11_refusesDraw_31 : decode cX11_refusesDraw 31 = .ok (.iconst 2, 1) := by decide +kernel
theorem dX11_refusesDraw_32 : decode cX11_refusesDraw 32 = .ok (.ireturn, 1) := by decide +kernel
theorem dX11_drawnRead_0 : decode cX11_drawnRead 0 = .ok (.aload_n 0, 1) := by decide +kernel
theorem dX11_drawnRead_1 : decode cX11_drawnRead 1 = .ok (.iconst 0, 1) := by decide +kernel
theorem dX11_drawnRead_2 : decode cX11_drawnRead 2 = .ok (.putfield 45, 3) := by decide +kernel
theorem dX11_drawnRead_5 : decode cX11_drawnRead 5 = .ok (.aload_n 0, 1) := by decide +kernel
theorem dX11_drawnRead_6 : decode cX11_drawnRead 6 = .ok (.aload_n 0, 1) := by decide +kernel
theorem dX11_drawnRead_7 : decode cX11_drawnRead 7 = .ok (.iload_n 1, 1) := by decide +kernel
theorem dX11_drawnRead_8 : decode cX11_drawnRead 8 = .ok (.invokevirtual 346, 3) := by decide +kernel
theorem dX11_drawnRead_11 : decode cX11_drawnRead 11 = .ok (.iload_n 2, 1) := by decide +kernel
theorem dX11_drawnRead_12 : decode cX11_drawnRead 12 = .ok (.iload_n 3, 1) := by decide +kernel
theorem dX11_drawnRead_13 : decode cX11_drawnRead 13 = .ok (.invokevirtual 449, 3) := by decide +kernel
theorem dX11_drawnRead_16 : decode cX11_drawnRead 16 = .ok (.istore 4, 2) := by decide +kernel
theorem dX11_drawnRead_18 : decode cX11_drawnRead 18 = .ok (.iload 4, 2) := by decide +kernel
theorem dX11_drawnRead_20 : decode cX11_drawnRead 20 = .ok (.ifCond .le 10, 3) := by decide +kernel
theorem dX11_drawnRead_23 : decode cX11_drawnRead 23 = .ok (.aload_n 0, 1) := by decide +kernel
theorem dX11_drawnRead_24 : decode cX11_drawnRead 24 = .ok (.iload 4, 2) := by decide +kernel
theorem dX11_drawnRead_26 : decode cX11_drawnRead 26 = .ok (.invokevirtual 51, 3) := by decide +kernel
theorem dX11_drawnRead_29 : decode cX11_drawnRead 29 = .ok (.ireturn, 1) := by decide +kernel
theorem dX11_drawnRead_30 : decode cX11_drawnRead 30 = .ok (.aload_n 0, 1) := by decide +kernel
theorem dX11_drawnRead_31 : decode cX11_drawnRead 31 = .ok (.iload_n 2, 1) := by decide +kernel
theorem dX11_drawnRead_32 : decode cX11_drawnRead 32 = .ok (.iload_n 3, 1) := by decide +kernel
theorem dX11_drawnRead_33 : decode cX11_drawnRead 33 = .ok (.invokevirtual 453, 3) := by decide +kernel
theorem dX11_drawnRead_36 : decode cX11_drawnRead 36 = .ok (.aload_n 0, 1) := by decide +kernel
theorem dX11_drawnRead_37 : decode cX11_drawnRead 37 = .ok (.aload_n 0, 1) := by decide +kernel
theorem dX11_drawnRead_38 : decode cX11_drawnRead 38 = .ok (.iload_n 1, 1) := by decide +kernel
theorem dX11_drawnRead_39 : decode cX11_drawnRead 39 = .ok (.invokevirtual 316, 3) := by decide +kernel
theorem dX11_drawnRead_42 : decode cX11_drawnRead 42 = .ok (.invokevirtual 55, 3) := by decide +kernel
theorem dX11_drawnRead_45 : decode cX11_drawnRead 45 = .ok (.ireturn, 1) := by decide +kernel
theorem dX11_drawnWrites_0 : decode cX11_drawnWrites 0 = .ok (.aload_n 0, 1) := by decide +kernel
theorem dX11_drawnWrites_1 : decode cX11_drawnWrites 1 = .ok (.iconst 0, 1) := by decide +kernel
theorem dX11_drawnWrites_2 : decode cX11_drawnWrites 2 = .ok (.putfield 45, 3) := by decide +kernel
theorem dX11_drawnWrites_5 : decode cX11_drawnWrites 5 = .ok (.aload_n 0, 1) := by decide +kernel
theorem dX11_drawnWrites_6 : decode cX11_drawnWrites 6 = .ok (.aload_n 0, 1) := by decide +kernel
theorem dX11_drawnWrites_7 : decode cX11_drawnWrites 7 = .ok (.getfield 260, 3) := by decide +kernel
theorem dX11_drawnWrites_10 : decode cX11_drawnWrites 10 = .ok (.ifnull 7, 3) := by decide +kernel
theorem dX11_drawnWrites_13 : decode cX11_drawnWrites 13 = .ok (.iconst 1, 1) := by decide +kernel
theorem dX11_drawnWrites_14 : decode cX11_drawnWrites 14 = .ok (.goto 4, 3) := by decide +kernel
theorem dX11_drawnWrites_17 : decode cX11_drawnWrites 17 = .ok (.iconst 0, 1) := by decide +kernel
theorem dX11_drawnWrites_18 : decode cX11_drawnWrites 18 = .ok (.iload_n 1, 1) := by decide +kernel
theorem dX11_drawnWrites_19 : decode cX11_drawnWrites 19 = .ok (.iload_n 2, 1) := by decide +kernel
theorem dX11_drawnWrites_20 : decode cX11_drawnWrites 20 = .ok (.invokevirtual 449, 3) := by decide +kernel
theorem dX11_drawnWrites_23 : decode cX11_drawnWrites 23 = .ok (.istore_n 3, 1) := by decide +kernel
theorem dX11_drawnWrites_24 : decode cX11_drawnWrites 24 = .ok (.iload_n 3, 1) := by decide +kernel
theorem dX11_drawnWrites_25 : decode cX11_drawnWrites 25 = .ok (.ifCond .le 9, 3) := by decide +kernel
theorem dX11_drawnWrites_28 : decode cX11_drawnWrites 28 = .ok (.aload_n 0, 1) := by decide +kernel
theorem dX11_drawnWrites_29 : decode cX11_drawnWrites 29 = .ok (.iload_n 3, 1) := by decide +kernel
theorem dX11_drawnWrites_30 : decode cX11_drawnWrites 30 = .ok (.invokevirtual 51, 3) := by decide +kernel
theorem dX11_drawnWrites_33 : decode cX11_drawnWrites 33 = .ok (.ireturn, 1) := by decide +kernel
theorem dX11_drawnWrites_34 : decode cX11_drawnWrites 34 = .ok (.aload_n 0, 1) := by decide +kernel
theorem dX11_drawnWrites_35 : decode cX11_drawnWrites 35 = .ok (.iload_n 1, 1) := by decide +kernel
theorem dX11_drawnWrites_36 : decode cX11_drawnWrites 36 = .ok (.iload_n 2, 1) := by decide +kernel
theorem dX11_drawnWrites_37 : decode cX11_drawnWrites 37 = .ok (.invokevirtual 453, 3) := by decide +kernel
theorem dX11_drawnWrites_40 : decode cX11_drawnWrites 40 = .ok (.aload_n 0, 1) := by decide +kernel
theorem dX11_drawnWrites_41 : decode cX11_drawnWrites 41 = .ok (.aload_n 0, 1) := by decide +kernel
theorem dX11_drawnWrites_42 : decode cX11_drawnWrites 42 = .ok (.getfield 442, 3) := by decide +kernel
theorem dX11_drawnWrites_45 : decode cX11_drawnWrites 45 = .ok (.invokevirtual 55, 3) := by decide +kernel
theorem dX11_drawnWrites_48 : decode cX11_drawnWrites 48 = .ok (.ireturn, 1) := by decide +kernel
theorem dX11_remembers_0 : decode cX11_remembers 0 = .ok (.aload_n 0, 1) := by decide +kernel
theorem dX11_remembers_1 : decode cX11_remembers 1 = .ok (.getfield 268, 3) := by decide +kernel
theorem dX11_remembers_4 : decode cX11_remembers 4 = .ok (.bipush 16, 2) := by decide +kernel
theorem dX11_remembers_6 : decode cX11_remembers 6 = .ok (.if_icmp .ne 43, 3) := by decide +kernel
theorem dX11_remembers_9 : decode cX11_remembers 9 = .ok (.iconst 0, 1) := by decide +kernel
theorem dX11_remembers_10 : decode cX11_remembers 10 = .ok (.istore_n 1, 1) := by decide +kernel
theorem dX11_remembers_11 : decode cX11_remembers 11 = .ok (.iload_n 1, 1) := by decide +kernel
theorem dX11_remembers_12 : decode cX11_remembers 12 = .ok (.sipush 1650, 3) := by decide +kernel
theorem dX11_remembers_15 : decode cX11_remembers 15 = .ok (.if_icmp .ge 24, 3) := by decide +kernel
theorem dX11_remembers_18 : decode cX11_remembers 18 = .ok (.aload_n 0, 1) := by decide +kernel
theorem dX11_remembers_19 : decode cX11_remembers 19 = .ok (.getfield 24, 3) := by decide +kernel
theorem dX11_remembers_22 : decode cX11_remembers 22 = .ok (.iload_n 1, 1) := by decide +kernel
theorem dX11_remembers_23 : decode cX11_remembers 23 = .ok (.aload_n 0, 1) := by decide +kernel
theorem dX11_remembers_24 : decode cX11_remembers 24 = .ok (.getfield 24, 3) := by decide +kernel
theorem dX11_remembers_27 : decode cX11_remembers 27 = .ok (.iload_n 1, 1) := by decide +kernel
theorem dX11_remembers_28 : decode cX11_remembers 28 = .ok (.bipush 110, 2) := by decide +kernel
theorem dX11_remembers_30 : decode cX11_remembers 30 = .ok (.iadd, 1) := by decide +kernel
theorem dX11_remembers_31 : decode cX11_remembers 31 = .ok (.iaload, 1) := by decide +kernel
theorem dX11_remembers_32 : decode cX11_remembers 32 = .ok (.iastore, 1) := by decide +kernel
theorem dX11_remembers_33 : decode cX11_remembers 33 = .ok (.iinc 1 1, 3) := by decide +kernel
theorem dX11_remembers_36 : decode cX11_remembers 36 = .ok (.goto (-25), 3) := by decide +kernel
theorem dX11_remembers_39 : decode cX11_remembers 39 = .ok (.aload_n 0, 1) := by decide +kernel
theorem dX11_remembers_40 : decode cX11_remembers 40 = .ok (.dup, 1) := by decide +kernel
theorem dX11_remembers_41 : decode cX11_remembers 41 = .ok (.getfield 268, 3) := by decide +kernel
theorem dX11_remembers_44 : decode cX11_remembers 44 = .ok (.iconst 1, 1) := by decide +kernel
theorem dX11_remembers_45 : decode cX11_remembers 45 = .ok (.isub, 1) := by decide +kernel
theorem dX11_remembers_46 : decode cX11_remembers 46 = .ok (.putfield 268, 3) := by decide +kernel
theorem dX11_remembers_49 : decode cX11_remembers 49 = .ok (.iconst 0, 1) := by decide +kernel
theorem dX11_remembers_50 : decode cX11_remembers 50 = .ok (.istore_n 1, 1) := by decide +kernel
theorem dX11_remembers_51 : decode cX11_remembers 51 = .ok (.iload_n 1, 1) := by decide +kernel
theorem dX11_remembers_52 : decode cX11_remembers 52 = .ok (.bipush 110, 2) := by decide +kernel
theorem dX11_remembers_54 : decode cX11_remembers 54 = .ok (.if_icmp .ge 29, 3) := by decide +kernel
theorem dX11_remembers_57 : decode cX11_remembers 57 = .ok (.aload_n 0, 1) := by decide +kernel
theorem dX11_remembers_58 : decode cX11_remembers 58 = .ok (.getfield 24, 3) := by decide +kernel
theorem dX11_remembers_61 : decode cX11_remembers 61 = .ok (.bipush 110, 2) := by decide +kernel
theorem dX11_remembers_63 : decode cX11_remembers 63 = .ok (.aload_n 0, 1) := by decide +kernel
theorem dX11_remembers_64 : decode cX11_remembers 64 = .ok (.getfield 268, 3) := by decide +kernel
theorem dX11_remembers_67 : decode cX11_remembers 67 = .ok (.imul, 1) := by decide +kernel
theorem dX11_remembers_68 : decode cX11_remembers 68 = .ok (.iload_n 1, 1) := by decide +kernel
theorem dX11_remembers_69 : decode cX11_remembers 69 = .ok (.iadd, 1) := by decide +kernel
theorem dX11_remembers_70 : decode cX11_remembers 70 = .ok (.aload_n 0, 1) := by decide +kernel
theorem dX11_remembers_71 : decode cX11_remembers 71 = .ok (.getfield 17, 3) := by decide +kernel
theorem dX11_remembers_74 : decode cX11_remembers 74 = .ok (.iload_n 1, 1) := by decide +kernel
theorem dX11_remembers_75 : decode cX11_remembers 75 = .ok (.iaload, 1) := by decide +kernel
theorem dX11_remembers_76 : decode cX11_remembers 76 = .ok (.iastore, 1) := by decide +kernel
theorem dX11_remembers_77 : decode cX11_remembers 77 = .ok (.iinc 1 1, 3) := by decide +kernel
theorem dX11_remembers_80 : decode cX11_remembers 80 = .ok (.goto (-29), 3) := by decide +kernel
theorem dX11_remembers_83 : decode cX11_remembers 83 = .ok (.aload_n 0, 1) := by decide +kernel
theorem dX11_remembers_84 : decode cX11_remembers 84 = .ok (.dup, 1) := by decide +kernel
theorem dX11_remembers_85 : decode cX11_remembers 85 = .ok (.getfield 268, 3) := by decide +kernel
theorem dX11_remembers_88 : decode cX11_remembers 88 = .ok (.iconst 1, 1) := by decide +kernel
theorem dX11_remembers_89 : decode cX11_remembers 89 = .ok (.iadd, 1) := by decide +kernel
theorem dX11_remembers_90 : decode cX11_remembers 90 = .ok (.putfield 268, 3) := by decide +kernel
theorem dX11_remembers_93 : decode cX11_remembers 93 = .ok (.aload_n 0, 1) := by decide +kernel
theorem dX11_remembers_94 : decode cX11_remembers 94 = .ok (.invokevirtual 352, 3) := by decide +kernel
theorem dX11_remembers_97 : decode cX11_remembers 97 = .ok (.return_, 1) := by decide +kernel
theorem dX11_done_0 : decode cX11_done 0 = .ok (.aload_n 0, 1) := by decide +kernel
theorem dX11_done_1 : decode cX11_done 1 = .ok (.invokevirtual 265, 3) := by decide +kernel
theorem dX11_done_4 : decode cX11_done 4 = .ok (.aload_n 0, 1) := by decide +kernel
theorem dX11_done_5 : decode cX11_done 5 = .ok (.iload_n 1, 1) := by decide +kernel
theorem dX11_done_6 : decode cX11_done 6 = .ok (.invokevirtual 55, 3) := by decide +kernel
theorem dX11_done_9 : decode cX11_done 9 = .ok (.ireturn, 1) := by decide +kernel
theorem dX11_write_0 : decode cX11_write 0 = .ok (.aload_n 0, 1) := by decide +kernel
theorem dX11_write_1 : decode cX11_write 1 = .ok (.iconst 0, 1) := by decide +kernel
theorem dX11_write_2 : decode cX11_write 2 = .ok (.putfield 45, 3) := by decide +kernel
theorem dX11_write_5 : decode cX11_write 5 = .ok (.aload_n 0, 1) := by decide +kernel
theorem dX11_write_6 : decode cX11_write 6 = .ok (.iload_n 1, 1) := by decide +kernel
theorem dX11_write_7 : decode cX11_write 7 = .ok (.invokevirtual 346, 3) := by decide +kernel
theorem dX11_write_10 : decode cX11_write 10 = .ok (.ifCond .ne 9, 3) := by decide +kernel
theorem dX11_write_13 : decode cX11_write 13 = .ok (.aload_n 0, 1) := by decide +kernel
theorem dX11_write_14 : decode cX11_write 14 = .ok (.iconst 1, 1) := by decide +kernel
theorem dX11_write_15 : decode cX11_write 15 = .ok (.invokevirtual 51, 3) := by decide +kernel
theorem dX11_write_18 : decode cX11_write 18 = .ok (.ireturn, 1) := by decide +kernel
theorem dX11_write_19 : decode cX11_write 19 = .ok (.iload_n 2, 1) := by decide +kernel
theorem dX11_write_20 : decode cX11_write 20 = .ok (.iconst 0, 1) := by decide +kernel
theorem dX11_write_21 : decode cX11_write 21 = .ok (.sipush 9999, 3) := by decide +kernel
theorem dX11_write_24 : decode cX11_write 24 = .ok (.invokestatic 124, 3) := by decide +kernel
theorem dX11_write_27 : decode cX11_write 27 = .ok (.ifCond .ne 9, 3) := by decide +kernel
theorem dX11_write_30 : decode cX11_write 30 = .ok (.aload_n 0, 1) := by decide +kernel
theorem dX11_write_31 : decode cX11_write 31 = .ok (.iconst 2, 1) := by decide +kernel
theorem dX11_write_32 : decode cX11_write 32 = .ok (.invokevirtual 51, 3) := by decide +kernel
theorem dX11_write_35 : decode cX11_write 35 = .ok (.ireturn, 1) := by decide +kernel
theorem dX11_write_36 : decode cX11_write 36 = .ok (.aload_n 0, 1) := by decide +kernel
theorem dX11_write_37 : decode cX11_write 37 = .ok (.invokevirtual 349, 3) := by decide +kernel
theorem dX11_write_40 : decode cX11_write 40 = .ok (.ifCond .eq 9, 3) := by decide +kernel
theorem dX11_write_43 : decode cX11_write 43 = .ok (.aload_n 0, 1) := by decide +kernel
theorem dX11_write_44 : decode cX11_write 44 = .ok (.iconst 5, 1) := by decide +kernel
theorem dX11_write_45 : decode cX11_write 45 = .ok (.invokevirtual 51, 3) := by decide +kernel
theorem dX11_write_48 : decode cX11_write 48 = .ok (.ireturn, 1) := by decide +kernel
theorem dX11_write_49 : decode cX11_write 49 = .ok (.aload_n 0, 1) := by decide +kernel
theorem dX11_write_50 : decode cX11_write 50 = .ok (.invokevirtual 456, 3) := by decide +kernel
theorem dX11_write_53 : decode cX11_write 53 = .ok (.aload_n 0, 1) := by decide +kernel
theorem dX11_write_54 : decode cX11_write 54 = .ok (.aload_n 0, 1) := by decide +kernel
theorem dX11_write_55 : decode cX11_write 55 = .ok (.iload_n 1, 1) := by decide +kernel
theorem dX11_write_56 : decode cX11_write 56 = .ok (.iload_n 2, 1) := by decide +kernel
theorem dX11_write_57 : decode cX11_write 57 = .ok (.invokevirtual 385, 3) := by decide +kernel
theorem dX11_write_60 : decode cX11_write 60 = .ok (.invokevirtual 459, 3) := by decide +kernel
theorem dX11_write_63 : decode cX11_write 63 = .ok (.ireturn, 1) := by decide +kernel
theorem dX11_clean_0 : decode cX11_clean 0 = .ok (.aload_n 0, 1) := by decide +kernel
theorem dX11_clean_1 : decode cX11_clean 1 = .ok (.iconst 0, 1) := by decide +kernel
theorem dX11_clean_2 : decode cX11_clean 2 = .ok (.putfield 45, 3) := by decide +kernel
theorem dX11_clean_5 : decode cX11_clean 5 = .ok (.aload_n 0, 1) := by decide +kernel
theorem dX11_clean_6 : decode cX11_clean 6 = .ok (.iload_n 1, 1) := by decide +kernel
theorem dX11_clean_7 : decode cX11_clean 7 = .ok (.invokevirtual 355, 3) := by decide +kernel
theorem dX11_clean_10 : decode cX11_clean 10 = .ok (.ifCond .ne 9, 3) := by decide +kernel
theorem dX11_clean_13 : decode cX11_clean 13 = .ok (.aload_n 0, 1) := by decide +kernel
theorem dX11_clean_14 : decode cX11_clean 14 = .ok (.iconst 1, 1) := by decide +kernel
theorem dX11_clean_15 : decode cX11_clean 15 = .ok (.invokevirtual 51, 3) := by decide +kernel
theorem dX11_clean_18 : decode cX11_clean 18 = .ok (.ireturn, 1) := by decide +kernel
theorem dX11_clean_19 : decode cX11_clean 19 = .ok (.aload_n 0, 1) := by decide +kernel
theorem dX11_clean_20 : decode cX11_clean 20 = .ok (.invokevirtual 349, 3) := by decide +kernel
theorem dX11_clean_23 : decode cX11_clean 23 = .ok (.ifCond .eq 9, 3) := by decide +kernel
theorem dX11_clean_26 : decode cX11_clean 26 = .ok (.aload_n 0, 1) := by decide +kernel
theorem dX11_clean_27 : decode cX11_clean 27 = .ok (.iconst 5, 1) := by decide +kernel
theorem dX11_clean_28 : decode cX11_clean 28 = .ok (.invokevirtual 51, 3) := by decide +kernel
theorem dX11_clean_31 : decode cX11_clean 31 = .ok (.ireturn, 1) := by decide +kernel
theorem dX11_clean_32 : decode cX11_clean 32 = .ok (.aload_n 0, 1) := by decide +kernel
theorem dX11_clean_33 : decode cX11_clean 33 = .ok (.invokevirtual 456, 3) := by decide +kernel
theorem dX11_clean_36 : decode cX11_clean 36 = .ok (.aload_n 0, 1) := by decide +kernel
theorem dX11_clean_37 : decode cX11_clean 37 = .ok (.aload_n 0, 1) := by decide +kernel
theorem dX11_clean_38 : decode cX11_clean 38 = .ok (.iload_n 1, 1) := by decide +kernel
theorem dX11_clean_39 : decode cX11_clean 39 = .ok (.invokevirtual 343, 3) := by decide +kernel
theorem dX11_clean_42 : decode cX11_clean 42 = .ok (.invokevirtual 459, 3) := by decide +kernel
theorem dX11_clean_45 : decode cX11_clean 45 = .ok (.ireturn, 1) := by decide +kernel
theorem dX11_cut_0 : decode cX11_cut 0 = .ok (.aload_n 0, 1) := by decide +kernel
theorem dX11_cut_1 : decode cX11_cut 1 = .ok (.iconst 0, 1) := by decide +kernel
theorem dX11_cut_2 : decode cX11_cut 2 = .ok (.putfield 45, 3) := by decide +kernel
theorem dX11_cut_5 : decode cX11_cut 5 = .ok (.aload_n 0, 1) := by decide +kernel
theorem dX11_cut_6 : decode cX11_cut 6 = .ok (.iload_n 1, 1) := by decide +kernel
theorem dX11_cut_7 : decode cX11_cut 7 = .ok (.iload_n 2, 1) := by decide +kernel
theorem dX11_cut_8 : decode cX11_cut 8 = .ok (.invokevirtual 373, 3) := by decide +kernel
theorem dX11_cut_11 : decode cX11_cut 11 = .ok (.istore_n 3, 1) := by decide +kernel
theorem dX11_cut_12 : decode cX11_cut 12 = .ok (.iload_n 3, 1) := by decide +kernel
theorem dX11_cut_13 : decode cX11_cut 13 = .ok (.ifCond .le 9, 3) := by decide +kernel
theorem dX11_cut_16 : decode cX11_cut 16 = .ok (.aload_n 0, 1) := by decide +kernel
theorem dX11_cut_17 : decode cX11_cut 17 = .ok (.iload_n 3, 1) := by decide +kernel
theorem dX11_cut_18 : decode cX11_cut 18 = .ok (.invokevirtual 51, 3) := by decide +kernel
theorem dX11_cut_21 : decode cX11_cut 21 = .ok (.ireturn, 1) := by decide +kernel
theorem dX11_cut_22 : decode cX11_cut 22 = .ok (.aload_n 0, 1) := by decide +kernel
theorem dX11_cut_23 : decode cX11_cut 23 = .ok (.invokevirtual 456, 3) := by decide +kernel
theorem dX11_cut_26 : decode cX11_cut 26 = .ok (.aload_n 0, 1) := by decide +kernel
theorem dX11_cut_27 : decode cX11_cut 27 = .ok (.aload_n 0, 1) := by decide +kernel
theorem dX11_cut_28 : decode cX11_cut 28 = .ok (.iload_n 1, 1) := by decide +kernel
theorem dX11_cut_29 : decode cX11_cut 29 = .ok (.iload_n 2, 1) := by decide +kernel
theorem dX11_cut_30 : decode cX11_cut 30 = .ok (.invokevirtual 376, 3) := by decide +kernel
theorem dX11_cut_33 : decode cX11_cut 33 = .ok (.invokevirtual 459, 3) := by decide +kernel
theorem dX11_cut_36 : decode cX11_cut 36 = .ok (.ireturn, 1) := by decide +kernel
theorem dX11_recover_0 : decode cX11_recover 0 = .ok (.aload_n 0, 1) := by decide +kernel
theorem dX11_recover_1 : decode cX11_recover 1 = .ok (.iconst 0, 1) := by decide +kernel
theorem dX11_recover_2 : decode cX11_recover 2 = .ok (.putfield 45, 3) := by decide +kernel
theorem dX11_recover_5 : decode cX11_recover 5 = .ok (.aload_n 0, 1) := by decide +kernel
theorem dX11_recover_6 : decode cX11_recover 6 = .ok (.getfield 260, 3) := by decide +kernel
theorem dX11_recover_9 : decode cX11_recover 9 = .ok (.ifnonnull 9, 3) := by decide +kernel
theorem dX11_recover_12 : decode cX11_recover 12 = .ok (.aload_n 0, 1) := by decide +kernel
theorem dX11_recover_13 : decode cX11_recover 13 = .ok (.iconst 1, 1) := by decide +kernel
theorem dX11_recover_14 : decode cX11_recover 14 = .ok (.invokevirtual 51, 3) := by decide +kernel
theorem dX11_recover_17 : decode cX11_recover 17 = .ok (.ireturn, 1) := by decide +kernel
theorem dX11_recover_18 : decode cX11_recover 18 = .ok (.aload_n 0, 1) := by decide +kernel
theorem dX11_recover_19 : decode cX11_recover 19 = .ok (.invokevirtual 349, 3) := by decide +kernel
theorem dX11_recover_22 : decode cX11_recover 22 = .ok (.ifCond .ne 9, 3) := by decide +kernel
theorem dX11_recover_25 : decode cX11_recover 25 = .ok (.aload_n 0, 1) := by decide +kernel
theorem dX11_recover_26 : decode cX11_recover 26 = .ok (.iconst 5, 1) := by decide +kernel
theorem dX11_recover_27 : decode cX11_recover 27 = .ok (.invokevirtual 51, 3) := by decide +kernel
theorem dX11_recover_30 : decode cX11_recover 30 = .ok (.ireturn, 1) := by decide +kernel
theorem dX11_recover_31 : decode cX11_recover 31 = .ok (.aload_n 0, 1) := by decide +kernel
theorem dX11_recover_32 : decode cX11_recover 32 = .ok (.invokevirtual 456, 3) := by decide +kernel
theorem dX11_recover_35 : decode cX11_recover 35 = .ok (.aload_n 0, 1) := by decide +kernel
theorem dX11_recover_36 : decode cX11_recover 36 = .ok (.aload_n 0, 1) := by decide +kernel
theorem dX11_recover_37 : decode cX11_recover 37 = .ok (.invokevirtual 379, 3) := by decide +kernel
theorem dX11_recover_40 : decode cX11_recover 40 = .ok (.invokevirtual 459, 3) := by decide +kernel
theorem dX11_recover_43 : decode cX11_recover 43 = .ok (.ireturn, 1) := by decide +kernel
theorem dX11_undo_0 : decode cX11_undo 0 = .ok (.aload_n 0, 1) := by decide +kernel
theorem dX11_undo_1 : decode cX11_undo 1 = .ok (.iconst 0, 1) := by decide +kernel
theorem dX11_undo_2 : decode cX11_undo 2 = .ok (.putfield 45, 3) := by decide +kernel
theorem dX11_undo_5 : decode cX11_undo 5 = .ok (.aload_n 0, 1) := by decide +kernel
theorem dX11_undo_6 : decode cX11_undo 6 = .ok (.getfield 260, 3) := by decide +kernel
theorem dX11_undo_9 : decode cX11_undo 9 = .ok (.ifnull 10, 3) := by decide +kernel
theorem dX11_undo_12 : decode cX11_undo 12 = .ok (.aload_n 0, 1) := by decide +kernel
theorem dX11_undo_13 : decode cX11_undo 13 = .ok (.getfield 268, 3) := by decide +kernel
theorem dX11_undo_16 : decode cX11_undo 16 = .ok (.ifCond .ne 10, 3) := by decide +kernel
theorem dX11_undo_19 : decode cX11_undo 19 = .ok (.aload_n 0, 1) := by decide +kernel
theorem dX11_undo_20 : decode cX11_undo 20 = .ok (.bipush 6, 2) := by decide +kernel
theorem dX11_undo_22 : decode cX11_undo 22 = .ok (.invokevirtual 462, 3) := by decide +kernel
theorem dX11_undo_25 : decode cX11_undo 25 = .ok (.ireturn, 1) := by decide +kernel
theorem dX11_undo_26 : decode cX11_undo 26 = .ok (.aload_n 0, 1) := by decide +kernel
theorem dX11_undo_27 : decode cX11_undo 27 = .ok (.dup, 1) := by decide +kernel
theorem dX11_undo_28 : decode cX11_undo 28 = .ok (.getfield 268, 3) := by decide +kernel
theorem dX11_undo_31 : decode cX11_undo 31 = .ok (.iconst 1, 1) := by decide +kernel
theorem dX11_undo_32 : decode cX11_undo 32 = .ok (.isub, 1) := by decide +kernel
theorem dX11_undo_33 : decode cX11_undo 33 = .ok (.putfield 268, 3) := by decide +kernel
theorem dX11_undo_36 : decode cX11_undo 36 = .ok (.iconst 0, 1) := by decide +kernel
theorem dX11_undo_37 : decode cX11_undo 37 = .ok (.istore_n 1, 1) := by decide +kernel
theorem dX11_undo_38 : decode cX11_undo 38 = .ok (.iload_n 1, 1) := by decide +kernel
theorem dX11_undo_39 : decode cX11_undo 39 = .ok (.bipush 110, 2) := by decide +kernel
theorem dX11_undo_41 : decode cX11_undo 41 = .ok (.if_icmp .ge 29, 3) := by decide +kernel
theorem dX11_undo_44 : decode cX11_undo 44 = .ok (.aload_n 0, 1) := by decide +kernel
theorem dX11_undo_45 : decode cX11_undo 45 = .ok (.getfield 17, 3) := by decide +kernel
theorem dX11_undo_48 : decode cX11_undo 48 = .ok (.iload_n 1, 1) := by decide +kernel
theorem dX11_undo_49 : decode cX11_undo 49 = .ok (.aload_n 0, 1) := by decide +kernel
theorem dX11_undo_50 : decode cX11_undo 50 = .ok (.getfield 24, 3) := by decide +kernel
theorem dX11_undo_53 : decode cX11_undo 53 = .ok (.bipush 110, 2) := by decide +kernel
theorem dX11_undo_55 : decode cX11_undo 55 = .ok (.aload_n 0, 1) := by decide +kernel
theorem dX11_undo_56 : decode cX11_undo 56 = .ok (.getfield 268, 3) := by decide +kernel
theorem dX11_undo_59 : decode cX11_undo 59 = .ok (.imul, 1) := by decide +kernel
theorem dX11_undo_60 : decode cX11_undo 60 = .ok (.iload_n 1, 1) := by decide +kernel
theorem dX11_undo_61 : decode cX11_undo 61 = .ok (.iadd, 1) := by decide +kernel
theorem dX11_undo_62 : decode cX11_undo 62 = .ok (.iaload, 1) := by decide +kernel
theorem dX11_undo_63 : decode cX11_undo 63 = .ok (.iastore, 1) := by decide +kernel
theorem dX11_undo_64 : decode cX11_undo 64 = .ok (.iinc 1 1, 3) := by decide +kernel
theorem dX11_undo_67 : decode cX11_undo 67 = .ok (.goto (-29), 3) := by decide +kernel
theorem dX11_undo_70 : decode cX11_undo 70 = .ok (.aload_n 0, 1) := by decide +kernel
theorem dX11_undo_71 : decode cX11_undo 71 = .ok (.invokevirtual 465, 3) := by decide +kernel
theorem dX11_undo_74 : decode cX11_undo 74 = .ok (.ireturn, 1) := by decide +kernel
theorem dX11_image_0 : decode cX11_image 0 = .ok (.aload_n 0, 1) := by decide +kernel
theorem dX11_image_1 : decode cX11_image 1 = .ok (.iconst 0, 1) := by decide +kernel
theorem dX11_image_2 : decode cX11_image 2 = .ok (.putfield 45, 3) := by decide +kernel
theorem dX11_image_5 : decode cX11_image 5 = .ok (.aload_n 0, 1) := by decide +kernel
theorem dX11_image_6 : decode cX11_image 6 = .ok (.getfield 260, 3) := by decide +kernel
theorem dX11_image_9 : decode cX11_image 9 = .ok (.ifnonnull 9, 3) := by decide +kernel
theorem dX11_image_12 : decode cX11_image 12 = .ok (.aload_n 0, 1) := by decide +kernel
theorem dX11_image_13 : decode cX11_image 13 = .ok (.iconst 1, 1) := by decide +kernel
theorem dX11_image_14 : decode cX11_image 14 = .ok (.invokevirtual 51, 3) := by decide +kernel
theorem dX11_image_17 : decode cX11_image 17 = .ok (.ireturn, 1) := by decide +kernel
theorem dX11_image_18 : decode cX11_image 18 = .ok (.aload_n 0, 1) := by decide +kernel
theorem dX11_image_19 : decode cX11_image 19 = .ok (.getfield 271, 3) := by decide +kernel
theorem dX11_image_22 : decode cX11_image 22 = .ok (.iconst 3, 1) := by decide +kernel
theorem dX11_image_23 : decode cX11_image 23 = .ok (.if_icmp .ne 9, 3) := by decide +kernel
theorem dX11_image_26 : decode cX11_image 26 = .ok (.aload_n 0, 1) := by decide +kernel
theorem dX11_image_27 : decode cX11_image 27 = .ok (.iconst 3, 1) := by decide +kernel
theorem dX11_image_28 : decode cX11_image 28 = .ok (.invokevirtual 51, 3) := by decide +kernel
theorem dX11_image_31 : decode cX11_image 31 = .ok (.ireturn, 1) := by decide +kernel
theorem dX11_image_32 : decode cX11_image 32 = .ok (.iconst 0, 1) := by decide +kernel
theorem dX11_image_33 : decode cX11_image 33 = .ok (.istore_n 1, 1) := by decide +kernel
theorem dX11_image_34 : decode cX11_image 34 = .ok (.iload_n 1, 1) := by decide +kernel
theorem dX11_image_35 : decode cX11_image 35 = .ok (.bipush 110, 2) := by decide +kernel
theorem dX11_image_37 : decode cX11_image 37 = .ok (.if_icmp .ge 29, 3) := by decide +kernel
theorem dX11_image_40 : decode cX11_image 40 = .ok (.aload_n 0, 1) := by decide +kernel
theorem dX11_image_41 : decode cX11_image 41 = .ok (.getfield 27, 3) := by decide +kernel
theorem dX11_image_44 : decode cX11_image 44 = .ok (.bipush 110, 2) := by decide +kernel
theorem dX11_image_46 : decode cX11_image 46 = .ok (.aload_n 0, 1) := by decide +kernel
theorem dX11_image_47 : decode cX11_image 47 = .ok (.getfield 271, 3) := by decide +kernel
theorem dX11_image_50 : decode cX11_image 50 = .ok (.imul, 1) := by decide +kernel
theorem dX11_image_51 : decode cX11_image 51 = .ok (.iload_n 1, 1) := by decide +kernel
theorem dX11_image_52 : decode cX11_image 52 = .ok (.iadd, 1) := by decide +kernel
theorem dX11_image_53 : decode cX11_image 53 = .ok (.aload_n 0, 1) := by decide +kernel
theorem dX11_image_54 : decode cX11_image 54 = .ok (.getfield 17, 3) := by decide +kernel
theorem dX11_image_57 : decode cX11_image 57 = .ok (.iload_n 1, 1) := by decide +kernel
theorem dX11_image_58 : decode cX11_image 58 = .ok (.iaload, 1) := by decide +kernel
theorem dX11_image_59 : decode cX11_image 59 = .ok (.iastore, 1) := by decide +kernel
theorem dX11_image_60 : decode cX11_image 60 = .ok (.iinc 1 1, 3) := by decide +kernel
theorem dX11_image_63 : decode cX11_image 63 = .ok (.goto (-29), 3) := by decide +kernel
theorem dX11_image_66 : decode cX11_image 66 = .ok (.aload_n 0, 1) := by decide +kernel
theorem dX11_image_67 : decode cX11_image 67 = .ok (.dup, 1) := by decide +kernel
theorem dX11_image_68 : decode cX11_image 68 = .ok (.getfield 271, 3) := by decide +kernel
theorem dX11_image_71 : decode cX11_image 71 = .ok (.iconst 1, 1) := by decide +kernel
theorem dX11_image_72 : decode cX11_image 72 = .ok (.iadd, 1) := by decide +kernel
theorem dX11_image_73 : decode cX11_image 73 = .ok (.putfield 271, 3) := by decide +kernel
theorem dX11_image_76 : decode cX11_image 76 = .ok (.aload_n 0, 1) := by decide +kernel
theorem dX11_image_77 : decode cX11_image 77 = .ok (.aload_n 0, 1) := by decide +kernel
theorem dX11_image_78 : decode cX11_image 78 = .ok (.getfield 271, 3) := by decide +kernel
theorem dX11_image_81 : decode cX11_image 81 = .ok (.iconst 1, 1) := by decide +kernel
theorem dX11_image_82 : decode cX11_image 82 = .ok (.isub, 1) := by decide +kernel
theorem dX11_image_83 : decode cX11_image 83 = .ok (.invokevirtual 55, 3) := by decide +kernel
theorem dX11_image_86 : decode cX11_image 86 = .ok (.ireturn, 1) := by decide +kernel
theorem dX11_back_0 : decode cX11_back 0 = .ok (.aload_n 0, 1) := by decide +kernel
theorem dX11_back_1 : decode cX11_back 1 = .ok (.iconst 0, 1) := by decide +kernel
theorem dX11_back_2 : decode cX11_back 2 = .ok (.putfield 45, 3) := by decide +kernel
theorem dX11_back_5 : decode cX11_back 5 = .ok (.aload_n 0, 1) := by decide +kernel
theorem dX11_back_6 : decode cX11_back 6 = .ok (.getfield 260, 3) := by decide +kernel
theorem dX11_back_9 : decode cX11_back 9 = .ok (.ifnull 15, 3) := by decide +kernel
theorem dX11_back_12 : decode cX11_back 12 = .ok (.iload_n 1, 1) := by decide +kernel
theorem dX11_back_13 : decode cX11_back 13 = .ok (.ifCond .lt 11, 3) := by decide +kernel
theorem dX11_back_16 : decode cX11_back 16 = .ok (.iload_n 1, 1) := by decide +kernel
theorem dX11_back_17 : decode cX11_back 17 = .ok (.aload_n 0, 1) := by decide +kernel
theorem dX11_back_18 : decode cX11_back 18 = .ok (.getfield 271, 3) := by decide +kernel
theorem dX11_back_21 : decode cX11_back 21 = .ok (.if_icmp .lt 9, 3) := by decide +kernel
theorem dX11_back_24 : decode cX11_back 24 = .ok (.aload_n 0, 1) := by decide +kernel
theorem dX11_back_25 : decode cX11_back 25 = .ok (.iconst 1, 1) := by decide +kernel
theorem dX11_back_26 : decode cX11_back 26 = .ok (.invokevirtual 462, 3) := by decide +kernel
theorem dX11_back_29 : decode cX11_back 29 = .ok (.ireturn, 1) := by decide +kernel
theorem dX11_back_30 : decode cX11_back 30 = .ok (.iconst 0, 1) := by decide +kernel
theorem dX11_back_31 : decode cX11_back 31 = .ok (.istore_n 2, 1) := by decide +kernel
theorem dX11_back_32 : decode cX11_back 32 = .ok (.iload_n 2, 1) := by decide +kernel
theorem dX11_back_33 : decode cX11_back 33 = .ok (.bipush 110, 2) := by decide +kernel
theorem dX11_back_35 : decode cX11_back 35 = .ok (.if_icmp .ge 26, 3) := by decide +kernel
theorem dX11_back_38 : decode cX11_back 38 = .ok (.aload_n 0, 1) := by decide +kernel
theorem dX11_back_39 : decode cX11_back 39 = .ok (.getfield 17, 3) := by decide +kernel
theorem dX11_back_42 : decode cX11_back 42 = .ok (.iload_n 2, 1) := by decide +kernel
theorem dX11_back_43 : decode cX11_back 43 = .ok (.aload_n 0, 1) := by decide +kernel
theorem dX11_back_44 : decode cX11_back 44 = .ok (.getfield 27, 3) := by decide +kernel
theorem dX11_back_47 : decode cX11_back 47 = .ok (.bipush 110, 2) := by decide +kernel
theorem dX11_back_49 : decode cX11_back 49 = .ok (.iload_n 1, 1) := by decide +kernel
theorem dX11_back_50 : decode cX11_back 50 = .ok (.imul, 1) := by decide +kernel
theorem dX11_back_51 : decode cX11_back 51 = .ok (.iload_n 2, 1) := by decide +kernel
theorem dX11_back_52 : decode cX11_back 52 = .ok (.iadd, 1) := by decide +kernel
theorem dX11_back_53 : decode cX11_back 53 = .ok (.iaload, 1) := by decide +kernel
theorem dX11_back_54 : decode cX11_back 54 = .ok (.iastore, 1) := by decide +kernel
theorem dX11_back_55 : decode cX11_back 55 = .ok (.iinc 2 1, 3) := by decide +kernel
theorem dX11_back_58 : decode cX11_back 58 = .ok (.goto (-26), 3) := by decide +kernel
theorem dX11_back_61 : decode cX11_back 61 = .ok (.aload_n 0, 1) := by decide +kernel
theorem dX11_back_62 : decode cX11_back 62 = .ok (.iconst 0, 1) := by decide +kernel
theorem dX11_back_63 : decode cX11_back 63 = .ok (.putfield 268, 3) := by decide +kernel
theorem dX11_back_66 : decode cX11_back 66 = .ok (.aload_n 0, 1) := by decide +kernel
theorem dX11_back_67 : decode cX11_back 67 = .ok (.invokevirtual 465, 3) := by decide +kernel
theorem dX11_back_70 : decode cX11_back 70 = .ok (.ireturn, 1) := by decide +kernel
theorem dX11_led_0 : decode cX11_led 0 = .ok (.aload_n 0, 1) := by decide +kernel
theorem dX11_led_1 : decode cX11_led 1 = .ok (.iconst 0, 1) := by decide +kernel
theorem dX11_led_2 : decode cX11_led 2 = .ok (.putfield 45, 3) := by decide +kernel
theorem dX11_led_5 : decode cX11_led 5 = .ok (.iconst 0, 1) := by decide +kernel
theorem dX11_led_6 : decode cX11_led 6 = .ok (.istore_n 2, 1) := by decide +kernel
theorem dX11_led_7 : decode cX11_led 7 = .ok (.aload_n 0, 1) := by decide +kernel
theorem dX11_led_8 : decode cX11_led 8 = .ok (.getfield 260, 3) := by decide +kernel
theorem dX11_led_11 : decode cX11_led 11 = .ok (.ifnull 7, 3) := by decide +kernel
theorem dX11_led_14 : decode cX11_led 14 = .ok (.aload_n 0, 1) := by decide +kernel
theorem dX11_led_15 : decode cX11_led 15 = .ok (.invokevirtual 352, 3) := by decide +kernel
theorem dX11_led_18 : decode cX11_led 18 = .ok (.iconst 0, 1) := by decide +kernel
theorem dX11_led_19 : decode cX11_led 19 = .ok (.istore_n 3, 1) := by decide +kernel
theorem dX11_led_20 : decode cX11_led 20 = .ok (.aload_n 0, 1) := by decide +kernel
theorem dX11_led_21 : decode cX11_led 21 = .ok (.getfield 260, 3) := by decide +kernel
theorem dX11_led_24 : decode cX11_led 24 = .ok (.ifnull 42, 3) := by decide +kernel
theorem dX11_led_27 : decode cX11_led 27 = .ok (.iload_n 3, 1) := by decide +kernel
theorem dX11_led_28 : decode cX11_led 28 = .ok (.aload_n 0, 1) := by decide +kernel
theorem dX11_led_29 : decode cX11_led 29 = .ok (.getfield 260, 3) := by decide +kernel
theorem dX11_led_32 : decode cX11_led 32 = .ok (.getfield 209, 3) := by decide +kernel
theorem dX11_led_35 : decode cX11_led 35 = .ok (.if_icmp .ge 31, 3) := by decide +kernel
theorem dX11_led_38 : decode cX11_led 38 = .ok (.aload_n 0, 1) := by decide +kernel
theorem dX11_led_39 : decode cX11_led 39 = .ok (.iload_n 3, 1) := by decide +kernel
theorem dX11_led_40 : decode cX11_led 40 = .ok (.invokevirtual 284, 3) := by decide +kernel
theorem dX11_led_43 : decode cX11_led 43 = .ok (.iconst (-1), 1) := by decide +kernel
theorem dX11_led_44 : decode cX11_led 44 = .ok (.if_icmp .eq 6, 3) := by decide +kernel
theorem dX11_led_47 : decode cX11_led 47 = .ok (.goto 13, 3) := by decide +kernel
theorem dX11_led_50 : decode cX11_led 50 = .ok (.iload_n 2, 1) := by decide +kernel
theorem dX11_led_51 : decode cX11_led 51 = .ok (.iload_n 1, 1) := by decide +kernel
theorem dX11_led_52 : decode cX11_led 52 = .ok (.if_icmp .ne 5, 3) := by decide +kernel
theorem dX11_led_55 : decode cX11_led 55 = .ok (.iload_n 3, 1) := by decide +kernel
theorem dX11_led_56 : decode cX11_led 56 = .ok (.ireturn, 1) := by decide +kernel
theorem dX11_led_57 : decode cX11_led 57 = .ok (.iinc 2 1, 3) := by decide +kernel
theorem dX11_led_60 : decode cX11_led 60 = .ok (.iinc 3 1, 3) := by decide +kernel
theorem dX11_led_63 : decode cX11_led 63 = .ok (.goto (-43), 3) := by decide +kernel
theorem dX11_led_66 : decode cX11_led 66 = .ok (.aload_n 0, 1) := by decide +kernel
theorem dX11_led_67 : decode cX11_led 67 = .ok (.iconst 1, 1) := by decide +kernel
theorem dX11_led_68 : decode cX11_led 68 = .ok (.putfield 45, 3) := by decide +kernel
theorem dX11_led_71 : decode cX11_led 71 = .ok (.iconst 0, 1) := by decide +kernel
theorem dX11_led_72 : decode cX11_led 72 = .ok (.ireturn, 1) := by decide +kernel
theorem dX11_size_0 : decode cX11_size 0 = .ok (.aload_n 0, 1) := by decide +kernel
theorem dX11_size_1 : decode cX11_size 1 = .ok (.iconst 0, 1) := by decide +kernel
theorem dX11_size_2 : decode cX11_size 2 = .ok (.putfield 45, 3) := by decide +kernel
theorem dX11_size_5 : decode cX11_size 5 = .ok (.iload_n 1, 1) := by decide +kernel
theorem dX11_size_6 : decode cX11_size 6 = .ok (.bipush 11, 2) := by decide +kernel
theorem dX11_size_8 : decode cX11_size 8 = .ok (.if_icmp .ne 8, 3) := by decide +kernel
theorem dX11_size_11 : decode cX11_size 11 = .ok (.aload_n 0, 1) := by decide +kernel
theorem dX11_size_12 : decode cX11_size 12 = .ok (.getfield 253, 3) := by decide +kernel
theorem dX11_size_15 : decode cX11_size 15 = .ok (.ireturn, 1) := by decide +kernel
theorem dX11_size_16 : decode cX11_size 16 = .ok (.iload_n 1, 1) := by decide +kernel
theorem dX11_size_17 : decode cX11_size 17 = .ok (.iconst 0, 1) := by decide +kernel
theorem dX11_size_18 : decode cX11_size 18 = .ok (.bipush 10, 2) := by decide +kernel
theorem dX11_size_20 : decode cX11_size 20 = .ok (.invokestatic 124, 3) := by decide +kernel
theorem dX11_size_23 : decode cX11_size 23 = .ok (.ifCond .ne 5, 3) := by decide +kernel
theorem dX11_size_26 : decode cX11_size 26 = .ok (.iconst (-1), 1) := by decide +kernel
theorem dX11_size_27 : decode cX11_size 27 = .ok (.ireturn, 1) := by decide +kernel
theorem dX11_size_28 : decode cX11_size 28 = .ok (.aload_n 0, 1) := by decide +kernel
theorem dX11_size_29 : decode cX11_size 29 = .ok (.getfield 260, 3) := by decide +kernel
theorem dX11_size_32 : decode cX11_size 32 = .ok (.ifnonnull 5, 3) := by decide +kernel
theorem dX11_size_35 : decode cX11_size 35 = .ok (.iconst 0, 1) := by decide +kernel
theorem dX11_size_36 : decode cX11_size 36 = .ok (.ireturn, 1) := by decide +kernel
theorem dX11_size_37 : decode cX11_size 37 = .ok (.iload_n 1, 1) := by decide +kernel
theorem dX11_size_38 : decode cX11_size 38 = .ok (.tableswitch 139 0 9 #[54, 62, 70, 86, 94, 102, 110, 118, 126, 134], 54) := by decide +kernel
theorem dX11_size_92 : decode cX11_size 92 = .ok (.aload_n 0, 1) := by decide +kernel
theorem dX11_size_93 : decode cX11_size 93 = .ok (.getfield 260, 3) := by decide +kernel
theorem dX11_size_96 : decode cX11_size 96 = .ok (.getfield 143, 3) := by decide +kernel
theorem dX11_size_99 : decode cX11_size 99 = .ok (.ireturn, 1) := by decide +kernel
theorem dX11_size_100 : decode cX11_size 100 = .ok (.aload_n 0, 1) := by decide +kernel
theorem dX11_size_101 : decode cX11_size 101 = .ok (.getfield 260, 3) := by decide +kernel
theorem dX11_size_104 : decode cX11_size 104 = .ok (.getfield 198, 3) := by decide +kernel
theorem dX11_size_107 : decode cX11_size 107 = .ok (.ireturn, 1) := by decide +kernel
theorem dX11_size_108 : decode cX11_size 108 = .ok (.aload_n 0, 1) := by decide +kernel
theorem dX11_size_109 : decode cX11_size 109 = .ok (.getfield 260, 3) := by decide +kernel
theorem dX11_size_112 : decode cX11_size 112 = .ok (.getfield 200, 3) := by decide +kernel
theorem dX11_size_115 : decode cX11_size 115 = .ok (.ifCond .eq 7, 3) := by decide +kernel
theorem dX11_size_118 : decode cX11_size 118 = .ok (.iconst 1, 1) := by decide +kernel
theorem dX11_size_119 : decode cX11_size 119 = .ok (.goto 4, 3) := by decide +kernel
theorem dX11_size_122 : decode cX11_size 122 = .ok (.iconst 0, 1) := by decide +kernel
theorem dX11_size_123 : decode cX11_size 123 = .ok (.ireturn, 1) := by decide +kernel
theorem dX11_size_124 : decode cX11_size 124 = .ok (.aload_n 0, 1) := by decide +kernel
theorem dX11_size_125 : decode cX11_size 125 = .ok (.getfield 260, 3) := by decide +kernel
theorem dX11_size_128 : decode cX11_size 128 = .ok (.getfield 155, 3) := by decide +kernel
theorem dX11_size_131 : decode cX11_size 131 = .ok (.ireturn, 1) := by decide +kernel
theorem dX11_size_132 : decode cX11_size 132 = .ok (.aload_n 0, 1) := by decide +kernel
theorem dX11_size_133 : decode cX11_size 133 = .ok (.getfield 260, 3) := by decide +kernel
theorem dX11_size_136 : decode cX11_size 136 = .ok (.getfield 209, 3) := by decide +kernel
theorem dX11_size_139 : decode cX11_size 139 = .ok (.ireturn, 1) := by decide +kernel
theorem dX11_size_140 : decode cX11_size 140 = .ok (.aload_n 0, 1) := by decide +kernel
theorem dX11_size_141 : decode cX11_size 141 = .ok (.getfield 260, 3) := by decide +kernel
theorem dX11_size_144 : decode cX11_size 144 = .ok (.getfield 224, 3) := by decide +kernel
theorem dX11_size_147 : decode cX11_size 147 = .ok (.ireturn, 1) := by decide +kernel
theorem dX11_size_148 : decode cX11_size 148 = .ok (.aload_n 0, 1) := by decide +kernel
theorem dX11_size_149 : decode cX11_size 149 = .ok (.getfield 260, 3) := by decide +kernel
theorem dX11_size_152 : decode cX11_size 152 = .ok (.getfield 233, 3) := by decide +kernel
theorem dX11_size_155 : decode cX11_size 155 = .ok (.ireturn, 1) := by decide +kernel
theorem dX11_size_156 : decode cX11_size 156 = .ok (.aload_n 0, 1) := by decide +kernel
theorem dX11_size_157 : decode cX11_size 157 = .ok (.getfield 260, 3) := by decide +kernel
theorem dX11_size_160 : decode cX11_size 160 = .ok (.getfield 245, 3) := by decide +kernel
theorem dX11_size_163 : decode cX11_size 163 = .ok (.ireturn, 1) := by decide +kernel
theorem dX11_size_164 : decode cX11_size 164 = .ok (.aload_n 0, 1) := by decide +kernel
theorem dX11_size_165 : decode cX11_size 165 = .ok (.getfield 17, 3) := by decide +kernel
theorem dX11_size_168 : decode cX11_size 168 = .ok (.bipush 109, 2) := by decide +kernel
theorem dX11_size_170 : decode cX11_size 170 = .ok (.iaload, 1) := by decide +kernel
theorem dX11_size_171 : decode cX11_size 171 = .ok (.ireturn, 1) := by decide +kernel
theorem dX11_size_172 : decode cX11_size 172 = .ok (.aload_n 0, 1) := by decide +kernel
theorem dX11_size_173 : decode cX11_size 173 = .ok (.getfield 268, 3) := by decide +kernel
theorem dX11_size_176 : decode cX11_size 176 = .ok (.ireturn, 1) := by decide +kernel
theorem dX11_size_177 : decode cX11_size 177 = .ok (.aload_n 0, 1) := by decide +kernel
theorem dX11_size_178 : decode cX11_size 178 = .ok (.getfield 271, 3) := by decide +kernel
theorem dX11_size_181 : decode cX11_size 181 = .ok (.ireturn, 1) := by decide +kernel
theorem dX11_trouble_0 : decode cX11_trouble 0 = .ok (.aload_n 0, 1) := by decide +kernel
theorem dX11_trouble_1 : decode cX11_trouble 1 = .ok (.iconst 0, 1) := by decide +kernel
theorem dX11_trouble_2 : decode cX11_trouble 2 = .ok (.putfield 45, 3) := by decide +kernel
theorem dX11_trouble_5 : decode cX11_trouble 5 = .ok (.aload_n 0, 1) := by decide +kernel
theorem dX11_trouble_6 : decode cX11_trouble 6 = .ok (.getfield 48, 3) := by decide +kernel
theorem dX11_trouble_9 : decode cX11_trouble 9 = .ok (.ireturn, 1) := by decide +kernel
theorem dL_led_0 : decode cL_led 0 = .ok (.aload_n 2, 1) := by decide +kernel
theorem dL_led_1 : decode cL_led 1 = .ok (.iconst 0, 1) := by decide +kernel
theorem dL_led_2 : decode cL_led 2 = .ok (.aload_n 0, 1) := by decide +kernel
theorem dL_led_3 : decode cL_led 3 = .ok (.iload_n 1, 1) := by decide +kernel
theorem dL_led_4 : decode cL_led 4 = .ok (.invokevirtual 7, 3) := by decide +kernel
theorem dL_led_7 : decode cL_led 7 = .ok (.i2l, 1) := by decide +kernel
theorem dL_led_8 : decode cL_led 8 = .ok (.lastore, 1) := by decide +kernel
theorem dL_led_9 : decode cL_led 9 = .ok (.goto 6, 3) := by decide +kernel
theorem dL_led_12 : decode cL_led 12 = .ok (.astore_n 3, 1) := by decide +kernel
theorem dL_led_13 : decode cL_led 13 = .ok (.iconst 1, 1) := by decide +kernel
theorem dL_led_14 : decode cL_led 14 = .ok (.ireturn, 1) := by decide +kernel
theorem dL_led_15 : decode cL_led 15 = .ok (.iconst 0, 1) := by decide +kernel
theorem dL_led_16 : decode cL_led 16 = .ok (.ireturn, 1) := by decide +kernel
theorem dL_law_0 : decode cL_law 0 = .ok (.new 8, 3) := by decide +kernel
theorem dL_law_3 : decode cL_law 3 = .ok (.dup, 1) := by decide +kernel
theorem dL_law_4 : decode cL_law 4 = .ok (.invokespecial 15, 3) := by decide +kernel
theorem dL_law_7 : decode cL_law 7 = .ok (.astore_n 1, 1) := by decide +kernel
theorem dL_law_8 : decode cL_law 8 = .ok (.new 16, 3) := by decide +kernel
theorem dL_law_11 : decode cL_law 11 = .ok (.dup, 1) := by decide +kernel
theorem dL_law_12 : decode cL_law 12 = .ok (.invokespecial 18, 3) := by decide +kernel
theorem dL_law_15 : decode cL_law 15 = .ok (.astore_n 2, 1) := by decide +kernel
theorem dL_law_16 : decode cL_law 16 = .ok (.iconst 1, 1) := by decide +kernel
theorem dL_law_17 : decode cL_law 17 = .ok (.newarray .long, 2) := by decide +kernel
theorem dL_law_19 : decode cL_law 19 = .ok (.astore_n 3, 1) := by decide +kernel
theorem dL_law_20 : decode cL_law 20 = .ok (.iconst 0, 1) := by decide +kernel
theorem dL_law_21 : decode cL_law 21 = .ok (.istore 4, 2) := by decide +kernel
theorem dL_law_23 : decode cL_law 23 = .ok (.iload 4, 2) := by decide +kernel
theorem dL_law_25 : decode cL_law 25 = .ok (.aload_n 0, 1) := by decide +kernel
theorem dL_law_26 : decode cL_law 26 = .ok (.arraylength, 1) := by decide +kernel
theorem dL_law_27 : decode cL_law 27 = .ok (.bipush 6, 2) := by decide +kernel
theorem dL_law_29 : decode cL_law 29 = .ok (.isub, 1) := by decide +kernel
theorem dL_law_30 : decode cL_law 30 = .ok (.if_icmp .gt 1528, 3) := by decide +kernel
theorem dL_law_33 : decode cL_law 33 = .ok (.aload_n 0, 1) := by decide +kernel
theorem dL_law_34 : decode cL_law 34 = .ok (.iload 4, 2) := by decide +kernel
theorem dL_law_36 : decode cL_law 36 = .ok (.iaload, 1) := by decide +kernel
theorem dL_law_37 : decode cL_law 37 = .ok (.bipush 63, 2) := by decide +kernel
theorem dL_law_39 : decode cL_law 39 = .ok (.iand, 1) := by decide +kernel
theorem dL_law_40 : decode cL_law 40 = .ok (.tableswitch 1512 0 51 #[224, 297, 322, 335, 348, 373, 398, 423, 460, 473, 486, 499, 512, 549, 562, 575, 612, 637, 650, 675, 700, 725, 762, 799, 848, 885, 898, 911, 936, 978, 1003, 1016, 1041, 1066, 1079, 1104, 1117, 1130, 1143, 1156, 1169, 1218, 1255, 1292, 1317, 1354, 1367, 1380, 1393, 1418, 1474, 1499], 224) := by decide +kernel
theorem dL_law_264 : decode cL_law 264 = .ok (.aload_n 1, 1) := by decide +kernel
theorem dL_law_265 : decode cL_law 265 = .ok (.aload_n 0, 1) := by decide +kernel
theorem dL_law_266 : decode cL_law 266 = .ok (.iload 4, 2) := by decide +kernel
theorem dL_law_268 : decode cL_law 268 = .ok (.iconst 1, 1) := by decide +kernel
theorem dL_law_269 : decode cL_law 269 = .ok (.iadd, 1) := by decide +kernel
theorem dL_law_270 : decode cL_law 270 = .ok (.iaload, 1) := by decide +kernel
theorem dL_law_271 : decode cL_law 271 = .ok (.aload_n 0, 1) := by decide +kernel
theorem dL_law_272 : decode cL_law 272 = .ok (.iload 4, 2) := by decide +kernel
theorem dL_law_274 : decode cL_law 274 = .ok (.iconst 2, 1) := by decide +kernel
theorem dL_law_275 : decode cL_law 275 = .ok (.iadd, 1) := by decide +kernel
theorem dL_law_276 : decode cL_law 276 = .ok (.iaload, 1) := by decide +kernel
theorem dL_law_277 : decode cL_law 277 = .ok (.aload_n 0, 1) := by decide +kernel
theorem dL_law_278 : decode cL_law 278 = .ok (.iload 4, 2) := by decide +kernel
theorem dL_law_280 : decode cL_law 280 = .ok (.iconst 3, 1) := by decide +kernel
theorem dL_law_281 : decode cL_law 281 = .ok (.iadd, 1) := by decide +kernel
theorem dL_law_282 : decode cL_law 282 = .ok (.iaload, 1) := by decide +kernel
theorem dL_law_283 : decode cL_law 283 = .ok (.aload_n 0, 1) := by decide +kernel
theorem dL_law_284 : decode cL_law 284 = .ok (.iload 4, 2) := by decide +kernel
theorem dL_law_286 : decode cL_law 286 = .ok (.iconst 4, 1) := by decide +kernel
theorem dL_law_287 : decode cL_law 287 = .ok (.iadd, 1) := by decide +kernel
theorem dL_law_288 : decode cL_law 288 = .ok (.iaload, 1) := by decide +kernel
theorem dL_law_289 : decode cL_law 289 = .ok (.aload_n 0, 1) := by decide +kernel
theorem dL_law_290 : decode cL_law 290 = .ok (.iload 4, 2) := by decide +kernel
theorem dL_law_292 : decode cL_law 292 = .ok (.iconst 5, 1) := by decide +kernel
theorem dL_law_293 : decode cL_law 293 = .ok (.iadd, 1) := by decide +kernel
theorem dL_law_294 : decode cL_law 294 = .ok (.iaload, 1) := by decide +kernel
theorem dL_law_295 : decode cL_law 295 = .ok (.invokevirtual 19, 3) := by decide +kernel
theorem dL_law_298 : decode cL_law 298 = .ok (.aload_n 2, 1) := by decide +kernel
theorem dL_law_299 : decode cL_law 299 = .ok (.aload_n 0, 1) := by decide +kernel
theorem dL_law_300 : decode cL_law 300 = .ok (.iload 4, 2) := by decide +kernel
theorem dL_law_302 : decode cL_law 302 = .ok (.iconst 1, 1) := by decide +kernel
theorem dL_law_303 : decode cL_law 303 = .ok (.iadd, 1) := by decide +kernel
theorem dL_law_304 : decode cL_law 304 = .ok (.iaload, 1) := by decide +kernel
theorem dL_law_305 : decode cL_law 305 = .ok (.aload_n 0, 1) := by decide +kernel
theorem dL_law_306 : decode cL_law 306 = .ok (.iload 4, 2) := by decide +kernel
theorem dL_law_308 : decode cL_law 308 = .ok (.iconst 2, 1) := by decide +kernel
theorem dL_law_309 : decode cL_law 309 = .ok (.iadd, 1) := by decide +kernel
theorem dL_law_310 : decode cL_law 310 = .ok (.iaload, 1) := by decide +kernel
theorem dL_law_311 : decode cL_law 311 = .ok (.aload_n 0, 1) := by decide +kernel
theorem dL_law_312 : decode cL_law 312 = .ok (.iload 4, 2) := by decide +kernel
theorem dL_law_314 : decode cL_law 314 = .ok (.iconst 3, 1) := by decide +kernel
theorem dL_law_315 : decode cL_law 315 = .ok (.iadd, 1) := by decide +kernel
theorem dL_law_316 : decode cL_law 316 = .ok (.iaload, 1) := by decide +kernel
theorem dL_law_317 : decode cL_law 317 = .ok (.aload_n 0, 1) := by decide +kernel
theorem dL_law_318 : decode cL_law 318 = .ok (.iload 4, 2) := by decide +kernel
theorem dL_law_320 : decode cL_law 320 = .ok (.iconst 4, 1) := by decide +kernel
theorem dL_law_321 : decode cL_law 321 = .ok (.iadd, 1) := by decide +kernel
theorem dL_law_322 : decode cL_law 322 = .ok (.iaload, 1) := by decide +kernel
theorem dL_law_323 : decode cL_law 323 = .ok (.aload_n 0, 1) := by decide +kernel
theorem dL_law_324 : decode cL_law 324 = .ok (.iload 4, 2) := by decide +kernel
theorem dL_law_326 : decode cL_law 326 = .ok (.iconst 5, 1) := by decide +kernel
theorem dL_law_327 : decode cL_law 327 = .ok (.iadd, 1) := by decide +kernel
theorem dL_law_328 : decode cL_law 328 = .ok (.iaload, 1) := by decide +kernel
theorem dL_law_329 : decode cL_law 329 = .ok (.invokevirtual 23, 3) := by decide +kernel
theorem dL_law_332 : decode cL_law 332 = .ok (.if_icmp .eq 1220, 3) := by decide +kernel
theorem dL_law_335 : decode cL_law 335 = .ok (.iconst 0, 1) := by decide +kernel
theorem dL_law_336 : decode cL_law 336 = .ok (.ireturn, 1) := by decide +kernel
theorem dL_law_337 : decode cL_law 337 = .ok (.aload_n 1, 1) := by decide +kernel
theorem dL_law_338 : decode cL_law 338 = .ok (.aload_n 0, 1) := by decide +kernel
theorem dL_law_339 : decode cL_law 339 = .ok (.iload 4, 2) := by decide +kernel
theorem dL_law_341 : decode cL_law 341 = .ok (.iconst 1, 1) := by decide +kernel
theorem dL_law_342 : decode cL_law 342 = .ok (.iadd, 1) := by decide +kernel
theorem dL_law_343 : decode cL_law 343 = .ok (.iaload, 1) := by decide +kernel
theorem dL_law_344 : decode cL_law 344 = .ok (.invokevirtual 24, 3) := by decide +kernel
theorem dL_law_347 : decode cL_law 347 = .ok (.aload_n 2, 1) := by decide +kernel
theorem dL_law_348 : decode cL_law 348 = .ok (.aload_n 0, 1) := by decide +kernel
theorem dL_law_349 : decode cL_law 349 = .ok (.iload 4, 2) := by decide +kernel
theorem dL_law_351 : decode cL_law 351 = .ok (.iconst 1, 1) := by decide +kernel
theorem dL_law_352 : decode cL_law 352 = .ok (.iadd, 1) := by decide +kernel
theorem dL_law_353 : decode cL_law 353 = .ok (.iaload, 1) := by decide +kernel
theorem dL_law_354 : decode cL_law 354 = .ok (.invokevirtual 27, 3) := by decide +kernel
theorem dL_law_357 : decode cL_law 357 = .ok (.if_icmp .eq 1195, 3) := by decide +kernel
theorem dL_law_360 : decode cL_law 360 = .ok (.iconst 0, 1) := by decide +kernel
theorem dL_law_361 : decode cL_law 361 = .ok (.ireturn, 1) := by decide +kernel
theorem dL_law_362 : decode cL_law 362 = .ok (.aload_n 1, 1) := by decide +kernel
theorem dL_law_363 : decode cL_law 363 = .ok (.invokevirtual 28, 3) := by decide +kernel
theorem dL_law_366 : decode cL_law 366 = .ok (.aload_n 2, 1) := by decide +kernel
theorem dL_law_367 : decode cL_law 367 = .ok (.invokevirtual 32, 3) := by decide +kernel
theorem dL_law_370 : decode cL_law 370 = .ok (.if_icmp .eq 1182, 3) := by decide +kernel
theorem dL_law_373 : decode cL_law 373 = .ok (.iconst 0, 1) := by decide +kernel
theorem dL_law_374 : decode cL_law 374 = .ok (.ireturn, 1) := by decide +kernel
theorem dL_law_375 : decode cL_law 375 = .ok (.aload_n 1, 1) := by decide +kernel
theorem dL_law_376 : decode cL_law 376 = .ok (.invokevirtual 33, 3) := by decide +kernel
theorem dL_law_379 : decode cL_law 379 = .ok (.aload_n 2, 1) := by decide +kernel
theorem dL_law_380 : decode cL_law 380 = .ok (.invokevirtual 36, 3) := by decide +kernel
theorem dL_law_383 : decode cL_law 383 = .ok (.if_icmp .eq 1169, 3) := by decide +kernel
theorem dL_law_386 : decode cL_law 386 = .ok (.iconst 0, 1) := by decide +kernel
theorem dL_law_387 : decode cL_law 387 = .ok (.ireturn, 1) := by decide +kernel
theorem dL_law_388 : decode cL_law 388 = .ok (.aload_n 1, 1) := by decide +kernel
theorem dL_law_389 : decode cL_law 389 = .ok (.aload_n 0, 1) := by decide +kernel
theorem dL_law_390 : decode cL_law 390 = .ok (.iload 4, 2) := by decide +kernel
theorem dL_law_392 : decode cL_law 392 = .ok (.iconst 1, 1) := by decide +kernel
theorem dL_law_393 : decode cL_law 393 = .ok (.iadd, 1) := by decide +kernel
theorem dL_law_394 : decode cL_law 394 = .ok (.iaload, 1) := by decide +kernel
theorem dL_law_395 : decode cL_law 395 = .ok (.invokevirtual 37, 3) := by decide +kernel
theorem dL_law_398 : decode cL_law 398 = .ok (.aload_n 2, 1) := by decide +kernel
theorem dL_law_399 : decode cL_law 399 = .ok (.aload_n 0, 1) := by decide +kernel
theorem dL_law_400 : decode cL_law 400 = .ok (.iload 4, 2) := by decide +kernel
theorem dL_law_402 : decode cL_law 402 = .ok (.iconst 1, 1) := by decide +kernel
theorem dL_law_403 : decode cL_law 403 = .ok (.iadd, 1) := by decide +kernel
theorem dL_law_404 : decode cL_law 404 = .ok (.iaload, 1) := by decide +kernel
theorem dL_law_405 : decode cL_law 405 = .ok (.invokevirtual 40, 3) := by decide +kernel
theorem dL_law_408 : decode cL_law 408 = .ok (.if_icmp .eq 1144, 3) := by decide +kernel
theorem dL_law_411 : decode cL_law 411 = .ok (.iconst 0, 1) := by decide +kernel
theorem dL_law_412 : decode cL_law 412 = .ok (.ireturn, 1) := by decide +kernel
theorem dL_law_413 : decode cL_law 413 = .ok (.aload_n 1, 1) := by decide +kernel
theorem dL_law_414 : decode cL_law 414 = .ok (.aload_n 0, 1) := by decide +kernel
theorem dL_law_415 : decode cL_law 415 = .ok (.iload 4, 2) := by decide +kernel
theorem dL_law_417 : decode cL_law 417 = .ok (.iconst 1, 1) := by decide +kernel
theorem dL_law_418 : decode cL_law 418 = .ok (.iadd, 1) := by decide +kernel
theorem dL_law_419 : decode cL_law 419 = .ok (.iaload, 1) := by decide +kernel
theorem dL_law_420 : decode cL_law 420 = .ok (.invokevirtual 41, 3) := by decide +kernel
theorem dL_law_423 : decode cL_law 423 = .ok (.aload_n 2, 1) := by decide +kernel
theorem dL_law_424 : decode cL_law 424 = .ok (.aload_n 0, 1) := by decide +kernel
theorem dL_law_425 : decode cL_law 425 = .ok (.iload 4, 2) := by decide +kernel
theorem dL_law_427 : decode cL_law 427 = .ok (.iconst 1, 1) := by decide +kernel
theorem dL_law_428 : decode cL_law 428 = .ok (.iadd, 1) := by decide +kernel
theorem dL_law_429 : decode cL_law 429 = .ok (.iaload, 1) := by decide +kernel
theorem dL_law_430 : decode cL_law 430 = .ok (.invokevirtual 44, 3) := by decide +kernel
theorem dL_law_433 : decode cL_law 433 = .ok (.if_icmp .eq 1119, 3) := by decide +kernel
theorem dL_law_436 : decode cL_law 436 = .ok (.iconst 0, 1) := by decide +kernel
theorem dL_law_437 : decode cL_law 437 = .ok (.ireturn, 1) := by decide +kernel
theorem dL_law_438 : decode cL_law 438 = .ok (.aload_n 1, 1) := by decide +kernel
theorem dL_law_439 : decode cL_law 439 = .ok (.aload_n 0, 1) := by decide +kernel
theorem dL_law_440 : decode cL_law 440 = .ok (.iload 4, 2) := by decide +kernel
theorem dL_law_442 : decode cL_law 442 = .ok (.iconst 1, 1) := by decide +kernel
theorem dL_law_443 : decode cL_law 443 = .ok (.iadd, 1) := by decide +kernel
theorem dL_law_444 : decode cL_law 444 = .ok (.iaload, 1) := by decide +kernel
theorem dL_law_445 : decode cL_law 445 = .ok (.invokevirtual 45, 3) := by decide +kernel
theorem dL_law_448 : decode cL_law 448 = .ok (.aload_n 2, 1) := by decide +kernel
theorem dL_law_449 : decode cL_law 449 = .ok (.aload_n 0, 1) := by decide +kernel
theorem dL_law_450 : decode cL_law 450 = .ok (.iload 4, 2) := by decide +kernel
theorem dL_law_452 : decode cL_law 452 = .ok (.iconst 1, 1) := by decide +kernel
theorem dL_law_453 : decode cL_law 453 = .ok (.iadd, 1) := by decide +kernel
theorem dL_law_454 : decode cL_law 454 = .ok (.iaload, 1) := by decide +kernel
theorem dL_law_455 : decode cL_law 455 = .ok (.invokevirtual 48, 3) := by decide +kernel
theorem dL_law_458 : decode cL_law 458 = .ok (.if_icmp .eq 1094, 3) := by decide +kernel
theorem dL_law_461 : decode cL_law 461 = .ok (.iconst 0, 1) := by decide +kernel
theorem dL_law_462 : decode cL_law 462 = .ok (.ireturn, 1) := by decide +kernel
theorem dL_law_463 : decode cL_law 463 = .ok (.aload_n 1, 1) := by decide +kernel
theorem dL_law_464 : decode cL_law 464 = .ok (.aload_n 0, 1) := by decide +kernel
theorem dL_law_465 : decode cL_law 465 = .ok (.iload 4, 2) := by decide +kernel
theorem dL_law_467 : decode cL_law 467 = .ok (.iconst 1, 1) := by decide +kernel
theorem dL_law_468 : decode cL_law 468 = .ok (.iadd, 1) := by decide +kernel
theorem dL_law_469 : decode cL_law 469 = .ok (.iaload, 1) := by decide +kernel
theorem dL_law_470 : decode cL_law 470 = .ok (.aload_n 0, 1) := by decide +kernel
theorem dL_law_471 : decode cL_law 471 = .ok (.iload 4, 2) := by decide +kernel
theorem dL_law_473 : decode cL_law 473 = .ok (.iconst 2, 1) := by decide +kernel
theorem dL_law_474 : decode cL_law 474 = .ok (.iadd, 1) := by decide +kernel
theorem dL_law_475 : decode cL_law 475 = .ok (.iaload, 1) := by decide +kernel
theorem dL_law_476 : decode cL_law 476 = .ok (.invokevirtual 49, 3) := by decide +kernel
theorem dL_law_479 : decode cL_law 479 = .ok (.aload_n 2, 1) := by decide +kernel
theorem dL_law_480 : decode cL_law 480 = .ok (.aload_n 0, 1) := by decide +kernel
theorem dL_law_481 : decode cL_law 481 = .ok (.iload 4, 2) := by decide +kernel
theorem dL_law_483 : decode cL_law 483 = .ok (.iconst 1, 1) := by decide +kernel
theorem dL_law_484 : decode cL_law 484 = .ok (.iadd, 1) := by decide +kernel
theorem dL_law_485 : decode cL_law 485 = .ok (.iaload, 1) := by decide +kernel
theorem dL_law_486 : decode cL_law 486 = .ok (.aload_n 0, 1) := by decide +kernel
theorem dL_law_487 : decode cL_law 487 = .ok (.iload 4, 2) := by decide +kernel
theorem dL_law_489 : decode cL_law 489 = .ok (.iconst 2, 1) := by decide +kernel
theorem dL_law_490 : decode cL_law 490 = .ok (.iadd, 1) := by decide +kernel
theorem dL_law_491 : decode cL_law 491 = .ok (.iaload, 1) := by decide +kernel
theorem dL_law_492 : decode cL_law 492 = .ok (.invokevirtual 53, 3) := by decide +kernel
theorem dL_law_495 : decode cL_law 495 = .ok (.if_icmp .eq 1057, 3) := by decide +kernel
theorem dL_law_498 : decode cL_law 498 = .ok (.iconst 0, 1) := by decide +kernel
theorem dL_law_499 : decode cL_law 499 = .ok (.ireturn, 1) := by decide +kernel
theorem dL_law_500 : decode cL_law 500 = .ok (.aload_n 1, 1) := by decide +kernel
theorem dL_law_501 : decode cL_law 501 = .ok (.invokevirtual 54, 3) := by decide +kernel
theorem dL_law_504 : decode cL_law 504 = .ok (.aload_n 2, 1) := by decide +kernel
theorem dL_law_505 : decode cL_law 505 = .ok (.invokevirtual 57, 3) := by decide +kernel
theorem dL_law_508 : decode cL_law 508 = .ok (.if_icmp .eq 1044, 3) := by decide +kernel
theorem dL_law_511 : decode cL_law 511 = .ok (.iconst 0, 1) := by decide +kernel
theorem dL_law_512 : decode cL_law 512 = .ok (.ireturn, 1) := by decide +kernel
theorem dL_law_513 : decode cL_law 513 = .ok (.aload_n 1, 1) := by decide +kernel
theorem dL_law_514 : decode cL_law 514 = .ok (.invokevirtual 58, 3) := by decide +kernel
theorem dL_law_517 : decode cL_law 517 = .ok (.aload_n 2, 1) := by decide +kernel
theorem dL_law_518 : decode cL_law 518 = .ok (.invokevirtual 61, 3) := by decide +kernel
theorem dL_law_521 : decode cL_law 521 = .ok (.if_icmp .eq 1031, 3) := by decide +kernel
theorem dL_law_524 : decode cL_law 524 = .ok (.iconst 0, 1) := by decide +kernel
theorem dL_law_525 : decode cL_law 525 = .ok (.ireturn, 1) := by decide +kernel
theorem dL_law_526 : decode cL_law 526 = .ok (.aload_n 1, 1) := by decide +kernel
theorem dL_law_527 : decode cL_law 527 = .ok (.invokevirtual 62, 3) := by decide +kernel
theorem dL_law_530 : decode cL_law 530 = .ok (.aload_n 2, 1) := by decide +kernel
theorem dL_law_531 : decode cL_law 531 = .ok (.invokevirtual 65, 3) := by decide +kernel
theorem dL_law_534 : decode cL_law 534 = .ok (.if_icmp .eq 1018, 3) := by decide +kernel
theorem dL_law_537 : decode cL_law 537 = .ok (.iconst 0, 1) := by decide +kernel
theorem dL_law_538 : decode cL_law 538 = .ok (.ireturn, 1) := by decide +kernel
theorem dL_law_539 : decode cL_law 539 = .ok (.aload_n 1, 1) := by decide +kernel
theorem dL_law_540 : decode cL_law 540 = .ok (.invokevirtual 66, 3) := by decide +kernel
theorem dL_law_543 : decode cL_law 543 = .ok (.aload_n 2, 1) := by decide +kernel
theorem dL_law_544 : decode cL_law 544 = .ok (.invokevirtual 69, 3) := by decide +kernel
theorem dL_law_547 : decode cL_law 547 = .ok (.if_icmp .eq 1005, 3) := by decide +kernel
theorem dL_law_550 : decode cL_law 550 = .ok (.iconst 0, 1) := by decide +kernel
theorem dL_law_551 : decode cL_law 551 = .ok (.ireturn, 1) := by decide +kernel
theorem dL_law_552 : decode cL_law 552 = .ok (.aload_n 1, 1) := by decide +kernel
theorem dL_law_553 : decode cL_law 553 = .ok (.aload_n 0, 1) := by decide +kernel
theorem dL_law_554 : decode cL_law 554 = .ok (.iload 4, 2) := by decide +kernel
theorem dL_law_556 : decode cL_law 556 = .ok (.iconst 1, 1) := by decide +kernel
theorem dL_law_557 : decode cL_law 557 = .ok (.iadd, 1) := by decide +kernel
theorem dL_law_558 : decode cL_law 558 = .ok (.iaload, 1) := by decide +kernel
theorem dL_law_559 : decode cL_law 559 = .ok (.aload_n 0, 1) := by decide +kernel
theorem dL_law_560 : decode cL_law 560 = .ok (.iload 4, 2) := by decide +kernel
theorem dL_law_562 : decode cL_law 562 = .ok (.iconst 2, 1) := by decide +kernel
theorem dL_law_563 : decode cL_law 563 = .ok (.iadd, 1) := by decide +kernel
theorem dL_law_564 : decode cL_law 564 = .ok (.iaload, 1) := by decide +kernel
theorem dL_law_565 : decode cL_law 565 = .ok (.invokevirtual 70, 3) := by decide +kernel
theorem dL_law_568 : decode cL_law 568 = .ok (.aload_n 2, 1) := by decide +kernel
theorem dL_law_569 : decode cL_law 569 = .ok (.aload_n 0, 1) := by decide +kernel
theorem dL_law_570 : decode cL_law 570 = .ok (.iload 4, 2) := by decide +kernel
theorem dL_law_572 : decode cL_law 572 = .ok (.iconst 1, 1) := by decide +kernel
theorem dL_law_573 : decode cL_law 573 = .ok (.iadd, 1) := by decide +kernel
theorem dL_law_574 : decode cL_law 574 = .ok (.iaload, 1) := by decide +kernel
theorem dL_law_575 : decode cL_law 575 = .ok (.aload_n 0, 1) := by decide +kernel
theorem dL_law_576 : decode cL_law 576 = .ok (.iload 4, 2) := by decide +kernel
theorem dL_law_578 : decode cL_law 578 = .ok (.iconst 2, 1) := by decide +kernel
theorem dL_law_579 : decode cL_law 579 = .ok (.iadd, 1) := by decide +kernel
theorem dL_law_580 : decode cL_law 580 = .ok (.iaload, 1) := by decide +kernel
theorem dL_law_581 : decode cL_law 581 = .ok (.invokevirtual 73, 3) := by decide +kernel
theorem dL_law_584 : decode cL_law 584 = .ok (.if_icmp .eq 968, 3) := by decide +kernel
theorem dL_law_587 : decode cL_law 587 = .ok (.iconst 0, 1) := by decide +kernel
theorem dL_law_588 : decode cL_law 588 = .ok (.ireturn, 1) := by decide +kernel
theorem dL_law_589 : decode cL_law 589 = .ok (.aload_n 1, 1) := by decide +kernel
theorem dL_law_590 : decode cL_law 590 = .ok (.invokevirtual 74, 3) := by decide +kernel
theorem dL_law_593 : decode cL_law 593 = .ok (.aload_n 2, 1) := by decide +kernel
theorem dL_law_594 : decode cL_law 594 = .ok (.invokevirtual 77, 3) := by decide +kernel
theorem dL_law_597 : decode cL_law 597 = .ok (.if_icmp .eq 955, 3) := by decide +kernel
theorem dL_law_600 : decode cL_law 600 = .ok (.iconst 0, 1) := by decide +kernel
theorem dL_law_601 : decode cL_law 601 = .ok (.ireturn, 1) := by decide +kernel
theorem dL_law_602 : decode cL_law 602 = .ok (.aload_n 1, 1) := by decide +kernel
theorem dL_law_603 : decode cL_law 603 = .ok (.invokevirtual 78, 3) := by decide +kernel
theorem dL_law_606 : decode cL_law 606 = .ok (.aload_n 2, 1) := by decide +kernel
theorem dL_law_607 : decode cL_law 607 = .ok (.invokevirtual 81, 3) := by decide +kernel
theorem dL_law_610 : decode cL_law 610 = .ok (.if_icmp .eq 942, 3) := by decide +kernel
theorem dL_law_613 : decode cL_law 613 = .ok (.iconst 0, 1) := by decide +kernel
theorem dL_law_614 : decode cL_law 614 = .ok (.ireturn, 1) := by decide +kernel
theorem dL_law_615 : decode cL_law 615 = .ok (.aload_n 1, 1) := by decide +kernel
theorem dL_law_616 : decode cL_law 616 = .ok (.aload_n 0, 1) := by decide +kernel
theorem dL_law_617 : decode cL_law 617 = .ok (.iload 4, 2) := by decide +kernel
theorem dL_law_619 : decode cL_law 619 = .ok (.iconst 1, 1) := by decide +kernel
theorem dL_law_620 : decode cL_law 620 = .ok (.iadd, 1) := by decide +kernel
theorem dL_law_621 : decode cL_law 621 = .ok (.iaload, 1) := by decide +kernel
theorem dL_law_622 : decode cL_law 622 = .ok (.aload_n 0, 1) := by decide +kernel
theorem dL_law_623 : decode cL_law 623 = .ok (.iload 4, 2) := by decide +kernel
theorem dL_law_625 : decode cL_law 625 = .ok (.iconst 2, 1) := by decide +kernel
theorem dL_law_626 : decode cL_law 626 = .ok (.iadd, 1) := by decide +kernel
theorem dL_law_627 : decode cL_law 627 = .ok (.iaload, 1) := by decide +kernel
theorem dL_law_628 : decode cL_law 628 = .ok (.invokevirtual 82, 3) := by decide +kernel
theorem dL_law_631 : decode cL_law 631 = .ok (.aload_n 2, 1) := by decide +kernel
theorem dL_law_632 : decode cL_law 632 = .ok (.aload_n 0, 1) := by decide +kernel
theorem dL_law_633 : decode cL_law 633 = .ok (.iload 4, 2) := by decide +kernel
theorem dL_law_635 : decode cL_law 635 = .ok (.iconst 1, 1) := by decide +kernel
theorem dL_law_636 : decode cL_law 636 = .ok (.iadd, 1) := by decide +kernel
theorem dL_law_637 : decode cL_law 637 = .ok (.iaload, 1) := by decide +kernel
theorem dL_law_638 : decode cL_law 638 = .ok (.aload_n 0, 1) := by decide +kernel
theorem dL_law_639 : decode cL_law 639 = .ok (.iload 4, 2) := by decide +kernel
theorem dL_law_641 : decode cL_law 641 = .ok (.iconst 2, 1) := by decide +kernel
theorem dL_law_642 : decode cL_law 642 = .ok (.iadd, 1) := by decide +kernel
theorem dL_law_643 : decode cL_law 643 = .ok (.iaload, 1) := by decide +kernel
theorem dL_law_644 : decode cL_law 644 = .ok (.invokevirtual 85, 3) := by decide +kernel
theorem dL_law_647 : decode cL_law 647 = .ok (.if_icmp .eq 905, 3) := by decide +kernel
theorem dL_law_650 : decode cL_law 650 = .ok (.iconst 0, 1) := by decide +kernel
theorem dL_law_651 : decode cL_law 651 = .ok (.ireturn, 1) := by decide +kernel
theorem dL_law_652 : decode cL_law 652 = .ok (.aload_n 1, 1) := by decide +kernel
theorem dL_law_653 : decode cL_law 653 = .ok (.aload_n 0, 1) := by decide +kernel
theorem dL_law_654 : decode cL_law 654 = .ok (.iload 4, 2) := by decide +kernel
theorem dL_law_656 : decode cL_law 656 = .ok (.iconst 1, 1) := by decide +kernel
theorem dL_law_657 : decode cL_law 657 = .ok (.iadd, 1) := by decide +kernel
theorem dL_law_658 : decode cL_law 658 = .ok (.iaload, 1) := by decide +kernel
theorem dL_law_659 : decode cL_law 659 = .ok (.invokevirtual 86, 3) := by decide +kernel
theorem dL_law_662 : decode cL_law 662 = .ok (.aload_n 2, 1) := by decide +kernel
theorem dL_law_663 : decode cL_law 663 = .ok (.aload_n 0, 1) := by decide +kernel
theorem dL_law_664 : decode cL_law 664 = .ok (.iload 4, 2) := by decide +kernel
theorem dL_law_666 : decode cL_law 666 = .ok (.iconst 1, 1) := by decide +kernel
theorem dL_law_667 : decode cL_law 667 = .ok (.iadd, 1) := by decide +kernel
theorem dL_law_668 : decode cL_law 668 = .ok (.iaload, 1) := by decide +kernel
theorem dL_law_669 : decode cL_law 669 = .ok (.invokevirtual 89, 3) := by decide +kernel
theorem dL_law_672 : decode cL_law 672 = .ok (.if_icmp .eq 880, 3) := by decide +kernel
theorem dL_law_675 : decode cL_law 675 = .ok (.iconst 0, 1) := by decide +kernel
theorem dL_law_676 : decode cL_law 676 = .ok (.ireturn, 1) := by decide +kernel
theorem dL_law_677 : decode cL_law 677 = .ok (.aload_n 1, 1) := by decide +kernel
theorem dL_law_678 : decode cL_law 678 = .ok (.invokevirtual 90, 3) := by decide +kernel
theorem dL_law_681 : decode cL_law 681 = .ok (.aload_n 2, 1) := by decide +kernel
theorem dL_law_682 : decode cL_law 682 = .ok (.invokevirtual 93, 3) := by decide +kernel
theorem dL_law_685 : decode cL_law 685 = .ok (.if_icmp .eq 867, 3) := by decide +kernel
theorem dL_law_688 : decode cL_law 688 = .ok (.iconst 0, 1) := by decide +kernel
theorem dL_law_689 : decode cL_law 689 = .ok (.ireturn, 1) := by decide +kernel
theorem dL_law_690 : decode cL_law 690 = .ok (.aload_n 1, 1) := by decide +kernel
theorem dL_law_691 : decode cL_law 691 = .ok (.aload_n 0, 1) := by decide +kernel
theorem dL_law_692 : decode cL_law 692 = .ok (.iload 4, 2) := by decide +kernel
theorem dL_law_694 : decode cL_law 694 = .ok (.iconst 1, 1) := by decide +kernel
theorem dL_law_695 : decode cL_law 695 = .ok (.iadd, 1) := by decide +kernel
theorem dL_law_696 : decode cL_law 696 = .ok (.iaload, 1) := by decide +kernel
theorem dL_law_697 : decode cL_law 697 = .ok (.invokevirtual 94, 3) := by decide +kernel
theorem dL_law_700 : decode cL_law 700 = .ok (.aload_n 2, 1) := by decide +kernel
theorem dL_law_701 : decode cL_law 701 = .ok (.aload_n 0, 1) := by decide +kernel
theorem dL_law_702 : decode cL_law 702 = .ok (.iload 4, 2) := by decide +kernel
theorem dL_law_704 : decode cL_law 704 = .ok (.iconst 1, 1) := by decide +kernel
theorem dL_law_705 : decode cL_law 705 = .ok (.iadd, 1) := by decide +kernel
theorem dL_law_706 : decode cL_law 706 = .ok (.iaload, 1) := by decide +kernel
theorem dL_law_707 : decode cL_law 707 = .ok (.invokevirtual 97, 3) := by decide +kernel
theorem dL_law_710 : decode cL_law 710 = .ok (.if_icmp .eq 842, 3) := by decide +kernel
theorem dL_law_713 : decode cL_law 713 = .ok (.iconst 0, 1) := by decide +kernel
theorem dL_law_714 : decode cL_law 714 = .ok (.ireturn, 1) := by decide +kernel
theorem dL_law_715 : decode cL_law 715 = .ok (.aload_n 1, 1) := by decide +kernel
theorem dL_law_716 : decode cL_law 716 = .ok (.aload_n 0, 1) := by decide +kernel
theorem dL_law_717 : decode cL_law 717 = .ok (.iload 4, 2) := by decide +kernel
theorem dL_law_719 : decode cL_law 719 = .ok (.iconst 1, 1) := by decide +kernel
theorem dL_law_720 : decode cL_law 720 = .ok (.iadd, 1) := by decide +kernel
theorem dL_law_721 : decode cL_law 721 = .ok (.iaload, 1) := by decide +kernel
theorem dL_law_722 : decode cL_law 722 = .ok (.invokevirtual 98, 3) := by decide +kernel
theorem dL_law_725 : decode cL_law 725 = .ok (.aload_n 2, 1) := by decide +kernel
theorem dL_law_726 : decode cL_law 726 = .ok (.aload_n 0, 1) := by decide +kernel
theorem dL_law_727 : decode cL_law 727 = .ok (.iload 4, 2) := by decide +kernel
theorem dL_law_729 : decode cL_law 729 = .ok (.iconst 1, 1) := by decide +kernel
theorem dL_law_730 : decode cL_law 730 = .ok (.iadd, 1) := by decide +kernel
theorem dL_law_731 : decode cL_law 731 = .ok (.iaload, 1) := by decide +kernel
theorem dL_law_732 : decode cL_law 732 = .ok (.invokevirtual 101, 3) := by decide +kernel
theorem dL_law_735 : decode cL_law 735 = .ok (.if_icmp .eq 817, 3) := by decide +kernel
theorem dL_law_738 : decode cL_law 738 = .ok (.iconst 0, 1) := by decide +kernel
theorem dL_law_739 : decode cL_law 739 = .ok (.ireturn, 1) := by decide +kernel
theorem dL_law_740 : decode cL_law 740 = .ok (.aload_n 1, 1) := by decide +kernel
theorem dL_law_741 : decode cL_law 741 = .ok (.aload_n 0, 1) := by decide +kernel
theorem dL_law_742 : decode cL_law 742 = .ok (.iload 4, 2) := by decide +kernel
theorem dL_law_744 : decode cL_law 744 = .ok (.iconst 1, 1) := by decide +kernel
theorem dL_law_745 : decode cL_law 745 = .ok (.iadd, 1) := by decide +kernel
theorem dL_law_746 : decode cL_law 746 = .ok (.iaload, 1) := by decide +kernel
theorem dL_law_747 : decode cL_law 747 = .ok (.invokevirtual 102, 3) := by decide +kernel
theorem dL_law_750 : decode cL_law 750 = .ok (.aload_n 2, 1) := by decide +kernel
theorem dL_law_751 : decode cL_law 751 = .ok (.aload_n 0, 1) := by decide +kernel
theorem dL_law_752 : decode cL_law 752 = .ok (.iload 4, 2) := by decide +kernel
theorem dL_law_754 : decode cL_law 754 = .ok (.iconst 1, 1) := by decide +kernel
theorem dL_law_755 : decode cL_law 755 = .ok (.iadd, 1) := by decide +kernel
theorem dL_law_756 : decode cL_law 756 = .ok (.iaload, 1) := by decide +kernel
theorem dL_law_757 : decode cL_law 757 = .ok (.invokevirtual 105, 3) := by decide +kernel
theorem dL_law_760 : decode cL_law 760 = .ok (.if_icmp .eq 792, 3) := by decide +kernel
theorem dL_law_763 : decode cL_law 763 = .ok (.iconst 0, 1) := by decide +kernel
theorem dL_law_764 : decode cL_law 764 = .ok (.ireturn, 1) := by decide +kernel
theorem dL_law_765 : decode cL_law 765 = .ok (.aload_n 1, 1) := by decide +kernel
theorem dL_law_766 : decode cL_law 766 = .ok (.aload_n 0, 1) := by decide +kernel
theorem dL_law_767 : decode cL_law 767 = .ok (.iload 4, 2) := by decide +kernel
theorem dL_law_769 : decode cL_law 769 = .ok (.iconst 1, 1) := by decide +kernel
theorem dL_law_770 : decode cL_law 770 = .ok (.iadd, 1) := by decide +kernel
theorem dL_law_771 : decode cL_law 771 = .ok (.iaload, 1) := by decide +kernel
theorem dL_law_772 : decode cL_law 772 = .ok (.aload_n 0, 1) := by decide +kernel
theorem dL_law_773 : decode cL_law 773 = .ok (.iload 4, 2) := by decide +kernel
theorem dL_law_775 : decode cL_law 775 = .ok (.iconst 2, 1) := by decide +kernel
theorem dL_law_776 : decode cL_law 776 = .ok (.iadd, 1) := by decide +kernel
theorem dL_law_777 : decode cL_law 777 = .ok (.iaload, 1) := by decide +kernel
theorem dL_law_778 : decode cL_law 778 = .ok (.invokevirtual 106, 3) := by decide +kernel
theorem dL_law_781 : decode cL_law 781 = .ok (.aload_n 2, 1) := by decide +kernel
theorem dL_law_782 : decode cL_law 782 = .ok (.aload_n 0, 1) := by decide +kernel
theorem dL_law_783 : decode cL_law 783 = .ok (.iload 4, 2) := by decide +kernel
theorem dL_law_785 : decode cL_law 785 = .ok (.iconst 1, 1) := by decide +kernel
theorem dL_law_786 : decode cL_law 786 = .ok (.iadd, 1) := by decide +kernel
theorem dL_law_787 : decode cL_law 787 = .ok (.iaload, 1) := by decide +kernel
theorem dL_law_788 : decode cL_law 788 = .ok (.aload_n 0, 1) := by decide +kernel
theorem dL_law_789 : decode cL_law 789 = .ok (.iload 4, 2) := by decide +kernel
theorem dL_law_791 : decode cL_law 791 = .ok (.iconst 2, 1) := by decide +kernel
theorem dL_law_792 : decode cL_law 792 = .ok (.iadd, 1) := by decide +kernel
theorem dL_law_793 : decode cL_law 793 = .ok (.iaload, 1) := by decide +kernel
theorem dL_law_794 : decode cL_law 794 = .ok (.invokevirtual 109, 3) := by decide +kernel
theorem dL_law_797 : decode cL_law 797 = .ok (.if_icmp .eq 755, 3) := by decide +kernel
theorem dL_law_800 : decode cL_law 800 = .ok (.iconst 0, 1) := by decide +kernel
theorem dL_law_801 : decode cL_law 801 = .ok (.ireturn, 1) := by decide +kernel
theorem dL_law_802 : decode cL_law 802 = .ok (.aload_n 1, 1) := by decide +kernel
theorem dL_law_803 : decode cL_law 803 = .ok (.aload_n 0, 1) := by decide +kernel
theorem dL_law_804 : decode cL_law 804 = .ok (.iload 4, 2) := by decide +kernel
theorem dL_law_806 : decode cL_law 806 = .ok (.iconst 1, 1) := by decide +kernel
theorem dL_law_807 : decode cL_law 807 = .ok (.iadd, 1) := by decide +kernel
theorem dL_law_808 : decode cL_law 808 = .ok (.iaload, 1) := by decide +kernel
theorem dL_law_809 : decode cL_law 809 = .ok (.aload_n 0, 1) := by decide +kernel
theorem dL_law_810 : decode cL_law 810 = .ok (.iload 4, 2) := by decide +kernel
theorem dL_law_812 : decode cL_law 812 = .ok (.iconst 2, 1) := by decide +kernel
theorem dL_law_813 : decode cL_law 813 = .ok (.iadd, 1) := by decide +kernel
theorem dL_law_814 : decode cL_law 814 = .ok (.iaload, 1) := by decide +kernel
theorem dL_law_815 : decode cL_law 815 = .ok (.invokevirtual 110, 3) := by decide +kernel
theorem dL_law_818 : decode cL_law 818 = .ok (.aload_n 2, 1) := by decide +kernel
theorem dL_law_819 : decode cL_law 819 = .ok (.aload_n 0, 1) := by decide +kernel
theorem dL_law_820 : decode cL_law 820 = .ok (.iload 4, 2) := by decide +kernel
theorem dL_law_822 : decode cL_law 822 = .ok (.iconst 1, 1) := by decide +kernel
theorem dL_law_823 : decode cL_law 823 = .ok (.iadd, 1) := by decide +kernel
theorem dL_law_824 : decode cL_law 824 = .ok (.iaload, 1) := by decide +kernel
theorem dL_law_825 : decode cL_law 825 = .ok (.aload_n 0, 1) := by decide +kernel
theorem dL_law_826 : decode cL_law 826 = .ok (.iload 4, 2) := by decide +kernel
theorem dL_law_828 : decode cL_law 828 = .ok (.iconst 2, 1) := by decide +kernel
theorem dL_law_829 : decode cL_law 829 = .ok (.iadd, 1) := by decide +kernel
theorem dL_law_830 : decode cL_law 830 = .ok (.iaload, 1) := by decide +kernel
theorem dL_law_831 : decode cL_law 831 = .ok (.invokevirtual 113, 3) := by decide +kernel
theorem dL_law_834 : decode cL_law 834 = .ok (.if_icmp .eq 718, 3) := by decide +kernel
theorem dL_law_837 : decode cL_law 837 = .ok (.iconst 0, 1) := by decide +kernel
theorem dL_law_838 : decode cL_law 838 = .ok (.ireturn, 1) := by decide +kernel
theorem dL_law_839 : decode cL_law 839 = .ok (.aload_n 1, 1) := by decide +kernel
theorem dL_law_840 : decode cL_law 840 = .ok (.aload_n 0, 1) := by decide +kernel
theorem dL_law_841 : decode cL_law 841 = .ok (.iload 4, 2) := by decide +kernel
theorem dL_law_843 : decode cL_law 843 = .ok (.iconst 1, 1) := by decide +kernel
theorem dL_law_844 : decode cL_law 844 = .ok (.iadd, 1) := by decide +kernel
theorem dL_law_845 : decode cL_law 845 = .ok (.iaload, 1) := by decide +kernel
theorem dL_law_846 : decode cL_law 846 = .ok (.aload_n 0, 1) := by decide +kernel
theorem dL_law_847 : decode cL_law 847 = .ok (.iload 4, 2) := by decide +kernel
theorem dL_law_849 : decode cL_law 849 = .ok (.iconst 2, 1) := by decide +kernel
theorem dL_law_850 : decode cL_law 850 = .ok (.iadd, 1) := by decide +kernel
theorem dL_law_851 : decode cL_law 851 = .ok (.iaload, 1) := by decide +kernel
theorem dL_law_852 : decode cL_law 852 = .ok (.aload_n 0, 1) := by decide +kernel
theorem dL_law_853 : decode cL_law 853 = .ok (.iload 4, 2) := by decide +kernel
theorem dL_law_855 : decode cL_law 855 = .ok (.iconst 3, 1) := by decide +kernel
theorem dL_law_856 : decode cL_law 856 = .ok (.iadd, 1) := by decide +kernel
theorem dL_law_857 : decode cL_law 857 = .ok (.iaload, 1) := by decide +kernel
theorem dL_law_858 : decode cL_law 858 = .ok (.invokevirtual 114, 3) := by decide +kernel
theorem dL_law_861 : decode cL_law 861 = .ok (.aload_n 2, 1) := by decide +kernel
theorem dL_law_862 : decode cL_law 862 = .ok (.aload_n 0, 1) := by decide +kernel
theorem dL_law_863 : decode cL_law 863 = .ok (.iload 4, 2) := by decide +kernel
theorem dL_law_865 : decode cL_law 865 = .ok (.iconst 1, 1) := by decide +kernel
theorem dL_law_866 : decode cL_law 866 = .ok (.iadd, 1) := by decide +kernel
theorem dL_law_867 : decode cL_law 867 = .ok (.iaload, 1) := by decide +kernel
theorem dL_law_868 : decode cL_law 868 = .ok (.aload_n 0, 1) := by decide +kernel
theorem dL_law_869 : decode cL_law 869 = .ok (.iload 4, 2) := by decide +kernel
theorem dL_law_871 : decode cL_law 871 = .ok (.iconst 2, 1) := by decide +kernel
theorem dL_law_872 : decode cL_law 872 = .ok (.iadd, 1) := by decide +kernel
theorem dL_law_873 : decode cL_law 873 = .ok (.iaload, 1) := by decide +kernel
theorem dL_law_874 : decode cL_law 874 = .ok (.aload_n 0, 1) := by decide +kernel
theorem dL_law_875 : decode cL_law 875 = .ok (.iload 4, 2) := by decide +kernel
theorem dL_law_877 : decode cL_law 877 = .ok (.iconst 3, 1) := by decide +kernel
theorem dL_law_878 : decode cL_law 878 = .ok (.iadd, 1) := by decide +kernel
theorem dL_law_879 : decode cL_law 879 = .ok (.iaload, 1) := by decide +kernel
theorem dL_law_880 : decode cL_law 880 = .ok (.invokevirtual 118, 3) := by decide +kernel
theorem dL_law_883 : decode cL_law 883 = .ok (.if_icmp .eq 669, 3) := by decide +kernel
theorem dL_law_886 : decode cL_law 886 = .ok (.iconst 0, 1) := by decide +kernel
theorem dL_law_887 : decode cL_law 887 = .ok (.ireturn, 1) := by decide +kernel
theorem dL_law_888 : decode cL_law 888 = .ok (.aload_n 1, 1) := by decide +kernel
theorem dL_law_889 : decode cL_law 889 = .ok (.aload_n 0, 1) := by decide +kernel
theorem dL_law_890 : decode cL_law 890 = .ok (.iload 4, 2) := by decide +kernel
theorem dL_law_892 : decode cL_law 892 = .ok (.iconst 1, 1) := by decide +kernel
theorem dL_law_893 : decode cL_law 893 = .ok (.iadd, 1) := by decide +kernel
theorem dL_law_894 : decode cL_law 894 = .ok (.iaload, 1) := by decide +kernel
theorem dL_law_895 : decode cL_law 895 = .ok (.aload_n 0, 1) := by decide +kernel
theorem dL_law_896 : decode cL_law 896 = .ok (.iload 4, 2) := by decide +kernel
theorem dL_law_898 : decode cL_law 898 = .ok (.iconst 2, 1) := by decide +kernel
theorem dL_law_899 : decode cL_law 899 = .ok (.iadd, 1) := by decide +kernel
theorem dL_law_900 : decode cL_law 900 = .ok (.iaload, 1) := by decide +kernel
theorem dL_law_901 : decode cL_law 901 = .ok (.invokevirtual 119, 3) := by decide +kernel
theorem dL_law_904 : decode cL_law 904 = .ok (.aload_n 2, 1) := by decide +kernel
theorem dL_law_905 : decode cL_law 905 = .ok (.aload_n 0, 1) := by decide +kernel
theorem dL_law_906 : decode cL_law 906 = .ok (.iload 4, 2) := by decide +kernel
theorem dL_law_908 : decode cL_law 908 = .ok (.iconst 1, 1) := by decide +kernel
theorem dL_law_909 : decode cL_law 909 = .ok (.iadd, 1) := by decide +kernel
theorem dL_law_910 : decode cL_law 910 = .ok (.iaload, 1) := by decide +kernel
theorem dL_law_911 : decode cL_law 911 = .ok (.aload_n 0, 1) := by decide +kernel
theorem dL_law_912 : decode cL_law 912 = .ok (.iload 4, 2) := by decide +kernel
theorem dL_law_914 : decode cL_law 914 = .ok (.iconst 2, 1) := by decide +kernel
theorem dL_law_915 : decode cL_law 915 = .ok (.iadd, 1) := by decide +kernel
theorem dL_law_916 : decode cL_law 916 = .ok (.iaload, 1) := by decide +kernel
theorem dL_law_917 : decode cL_law 917 = .ok (.invokevirtual 122, 3) := by decide +kernel
theorem dL_law_920 : decode cL_law 920 = .ok (.if_icmp .eq 632, 3) := by decide +kernel
theorem dL_law_923 : decode cL_law 923 = .ok (.iconst 0, 1) := by decide +kernel
theorem dL_law_924 : decode cL_law 924 = .ok (.ireturn, 1) := by decide +kernel
theorem dL_law_925 : decode cL_law 925 = .ok (.aload_n 1, 1) := by decide +kernel
theorem dL_law_926 : decode cL_law 926 = .ok (.invokevirtual 123, 3) := by decide +kernel
theorem dL_law_929 : decode cL_law 929 = .ok (.aload_n 2, 1) := by decide +kernel
theorem dL_law_930 : decode cL_law 930 = .ok (.invokevirtual 126, 3) := by decide +kernel
theorem dL_law_933 : decode cL_law 933 = .ok (.if_icmp .eq 619, 3) := by decide +kernel
theorem dL_law_936 : decode cL_law 936 = .ok (.iconst 0, 1) := by decide +kernel
theorem dL_law_937 : decode cL_law 937 = .ok (.ireturn, 1) := by decide +kernel
theorem dL_law_938 : decode cL_law 938 = .ok (.aload_n 1, 1) := by decide +kernel
theorem dL_law_939 : decode cL_law 939 = .ok (.invokevirtual 127, 3) := by decide +kernel
theorem dL_law_942 : decode cL_law 942 = .ok (.aload_n 2, 1) := by decide +kernel
theorem dL_law_943 : decode cL_law 943 = .ok (.invokevirtual 130, 3) := by decide +kernel
theorem dL_law_946 : decode cL_law 946 = .ok (.if_icmp .eq 606, 3) := by decide +kernel
theorem dL_law_949 : decode cL_law 949 = .ok (.iconst 0, 1) := by decide +kernel
theorem dL_law_950 : decode cL_law 950 = .ok (.ireturn, 1) := by decide +kernel
theorem dL_law_951 : decode cL_law 951 = .ok (.aload_n 1, 1) := by decide +kernel
theorem dL_law_952 : decode cL_law 952 = .ok (.aload_n 0, 1) := by decide +kernel
theorem dL_law_953 : decode cL_law 953 = .ok (.iload 4, 2) := by decide +kernel
theorem dL_law_955 : decode cL_law 955 = .ok (.iconst 1, 1) := by decide +kernel
theorem dL_law_956 : decode cL_law 956 = .ok (.iadd, 1) := by decide +kernel
theorem dL_law_957 : decode cL_law 957 = .ok (.iaload, 1) := by decide +kernel
theorem dL_law_958 : decode cL_law 958 = .ok (.invokevirtual 131, 3) := by decide +kernel
theorem dL_law_961 : decode cL_law 961 = .ok (.aload_n 2, 1) := by decide +kernel
theorem dL_law_962 : decode cL_law 962 = .ok (.aload_n 0, 1) := by decide +kernel
theorem dL_law_963 : decode cL_law 963 = .ok (.iload 4, 2) := by decide +kernel
theorem dL_law_965 : decode cL_law 965 = .ok (.iconst 1, 1) := by decide +kernel
theorem dL_law_966 : decode cL_law 966 = .ok (.iadd, 1) := by decide +kernel
theorem dL_law_967 : decode cL_law 967 = .ok (.iaload, 1) := by decide +kernel
theorem dL_law_968 : decode cL_law 968 = .ok (.invokevirtual 134, 3) := by decide +kernel
theorem dL_law_971 : decode cL_law 971 = .ok (.if_icmp .eq 581, 3) := by decide +kernel
theorem dL_law_974 : decode cL_law 974 = .ok (.iconst 0, 1) := by decide +kernel
theorem dL_law_975 : decode cL_law 975 = .ok (.ireturn, 1) := by decide +kernel
theorem dL_law_976 : decode cL_law 976 = .ok (.aload_n 1, 1) := by decide +kernel
theorem dL_law_977 : decode cL_law 977 = .ok (.aload_n 0, 1) := by decide +kernel
theorem dL_law_978 : decode cL_law 978 = .ok (.iload 4, 2) := by decide +kernel
theorem dL_law_980 : decode cL_law 980 = .ok (.iconst 1, 1) := by decide +kernel
theorem dL_law_981 : decode cL_law 981 = .ok (.iadd, 1) := by decide +kernel
theorem dL_law_982 : decode cL_law 982 = .ok (.iaload, 1) := by decide +kernel
theorem dL_law_983 : decode cL_law 983 = .ok (.ifCond .eq 7, 3) := by decide +kernel
theorem dL_law_986 : decode cL_law 986 = .ok (.iconst 1, 1) := by decide +kernel
theorem dL_law_987 : decode cL_law 987 = .ok (.goto 4, 3) := by decide +kernel
theorem dL_law_990 : decode cL_law 990 = .ok (.iconst 0, 1) := by decide +kernel
theorem dL_law_991 : decode cL_law 991 = .ok (.invokevirtual 135, 3) := by decide +kernel
theorem dL_law_994 : decode cL_law 994 = .ok (.aload_n 2, 1) := by decide +kernel
theorem dL_law_995 : decode cL_law 995 = .ok (.aload_n 0, 1) := by decide +kernel
theorem dL_law_996 : decode cL_law 996 = .ok (.iload 4, 2) := by decide +kernel
theorem dL_law_998 : decode cL_law 998 = .ok (.iconst 1, 1) := by decide +kernel
theorem dL_law_999 : decode cL_law 999 = .ok (.iadd, 1) := by decide +kernel
theorem dL_law_1000 : decode cL_law 1000 = .ok (.iaload, 1) := by decide +kernel
theorem dL_law_1001 : decode cL_law 1001 = .ok (.ifCond .eq 7, 3) := by decide +kernel
theorem dL_law_1004 : decode cL_law 1004 = .ok (.iconst 1, 1) := by decide +kernel
theorem dL_law_1005 : decode cL_law 1005 = .ok (.goto 4, 3) := by decide +kernel
theorem dL_law_1008 : decode cL_law 1008 = .ok (.iconst 0, 1) := by decide +kernel
theorem dL_law_1009 : decode cL_law 1009 = .ok (.invokevirtual 139, 3) := by decide +kernel
theorem dL_law_1012 : decode cL_law 1012 = .ok (.lcmp, 1) := by decide +kernel
theorem dL_law_1013 : decode cL_law 1013 = .ok (.ifCond .eq 539, 3) := by decide +kernel
theorem dL_law_1016 : decode cL_law 1016 = .ok (.iconst 0, 1) := by decide +kernel
theorem dL_law_1017 : decode cL_law 1017 = .ok (.ireturn, 1) := by decide +kernel
theorem dL_law_1018 : decode cL_law 1018 = .ok (.aload_n 1, 1) := by decide +kernel
theorem dL_law_1019 : decode cL_law 1019 = .ok (.aload_n 0, 1) := by decide +kernel
theorem dL_law_1020 : decode cL_law 1020 = .ok (.iload 4, 2) := by decide +kernel
theorem dL_law_1022 : decode cL_law 1022 = .ok (.iconst 1, 1) := by decide +kernel
theorem dL_law_1023 : decode cL_law 1023 = .ok (.iadd, 1) := by decide +kernel
theorem dL_law_1024 : decode cL_law 1024 = .ok (.iaload, 1) := by decide +kernel
theorem dL_law_1025 : decode cL_law 1025 = .ok (.invokevirtual 140, 3) := by decide +kernel
theorem dL_law_1028 : decode cL_law 1028 = .ok (.aload_n 2, 1) := by decide +kernel
theorem dL_law_1029 : decode cL_law 1029 = .ok (.aload_n 0, 1) := by decide +kernel
theorem dL_law_1030 : decode cL_law 1030 = .ok (.iload 4, 2) := by decide +kernel
theorem dL_law_1032 : decode cL_law 1032 = .ok (.iconst 1, 1) := by decide +kernel
theorem dL_law_1033 : decode cL_law 1033 = .ok (.iadd, 1) := by decide +kernel
theorem dL_law_1034 : decode cL_law 1034 = .ok (.iaload, 1) := by decide +kernel
theorem dL_law_1035 : decode cL_law 1035 = .ok (.invokevirtual 143, 3) := by decide +kernel
theorem dL_law_1038 : decode cL_law 1038 = .ok (.if_icmp .eq 514, 3) := by decide +kernel
theorem dL_law_1041 : decode cL_law 1041 = .ok (.iconst 0, 1) := by decide +kernel
theorem dL_law_1042 : decode cL_law 1042 = .ok (.ireturn, 1) := by decide +kernel
theorem dL_law_1043 : decode cL_law 1043 = .ok (.aload_n 1, 1) := by decide +kernel
theorem dL_law_1044 : decode cL_law 1044 = .ok (.invokevirtual 144, 3) := by decide +kernel
theorem dL_law_1047 : decode cL_law 1047 = .ok (.aload_n 2, 1) := by decide +kernel
theorem dL_law_1048 : decode cL_law 1048 = .ok (.invokevirtual 147, 3) := by decide +kernel
theorem dL_law_1051 : decode cL_law 1051 = .ok (.if_icmp .eq 501, 3) := by decide +kernel
theorem dL_law_1054 : decode cL_law 1054 = .ok (.iconst 0, 1) := by decide +kernel
theorem dL_law_1055 : decode cL_law 1055 = .ok (.ireturn, 1) := by decide +kernel
theorem dL_law_1056 : decode cL_law 1056 = .ok (.aload_n 1, 1) := by decide +kernel
theorem dL_law_1057 : decode cL_law 1057 = .ok (.aload_n 0, 1) := by decide +kernel
theorem dL_law_1058 : decode cL_law 1058 = .ok (.iload 4, 2) := by decide +kernel
theorem dL_law_1060 : decode cL_law 1060 = .ok (.iconst 1, 1) := by decide +kernel
theorem dL_law_1061 : decode cL_law 1061 = .ok (.iadd, 1) := by decide +kernel
theorem dL_law_1062 : decode cL_law 1062 = .ok (.iaload, 1) := by decide +kernel
theorem dL_law_1063 : decode cL_law 1063 = .ok (.invokevirtual 148, 3) := by decide +kernel
theorem dL_law_1066 : decode cL_law 1066 = .ok (.aload_n 2, 1) := by decide +kernel
theorem dL_law_1067 : decode cL_law 1067 = .ok (.aload_n 0, 1) := by decide +kernel
theorem dL_law_1068 : decode cL_law 1068 = .ok (.iload 4, 2) := by decide +kernel
theorem dL_law_1070 : decode cL_law 1070 = .ok (.iconst 1, 1) := by decide +kernel
theorem dL_law_1071 : decode cL_law 1071 = .ok (.iadd, 1) := by decide +kernel
theorem dL_law_1072 : decode cL_law 1072 = .ok (.iaload, 1) := by decide +kernel
theorem dL_law_1073 : decode cL_law 1073 = .ok (.invokevirtual 151, 3) := by decide +kernel
theorem dL_law_1076 : decode cL_law 1076 = .ok (.if_icmp .eq 476, 3) := by decide +kernel
theorem dL_law_1079 : decode cL_law 1079 = .ok (.iconst 0, 1) := by decide +kernel
theorem dL_law_1080 : decode cL_law 1080 = .ok (.ireturn, 1) := by decide +kernel
theorem dL_law_1081 : decode cL_law 1081 = .ok (.aload_n 1, 1) := by decide +kernel
theorem dL_law_1082 : decode cL_law 1082 = .ok (.aload_n 0, 1) := by decide +kernel
theorem dL_law_1083 : decode cL_law 1083 = .ok (.iload 4, 2) := by decide +kernel
theorem dL_law_1085 : decode cL_law 1085 = .ok (.iconst 1, 1) := by decide +kernel
theorem dL_law_1086 : decode cL_law 1086 = .ok (.iadd, 1) := by decide +kernel
theorem dL_law_1087 : decode cL_law 1087 = .ok (.iaload, 1) := by decide +kernel
theorem dL_law_1088 : decode cL_law 1088 = .ok (.invokevirtual 152, 3) := by decide +kernel
theorem dL_law_1091 : decode cL_law 1091 = .ok (.aload_n 2, 1) := by decide +kernel
theorem dL_law_1092 : decode cL_law 1092 = .ok (.aload_n 0, 1) := by decide +kernel
theorem dL_law_1093 : decode cL_law 1093 = .ok (.iload 4, 2) := by decide +kernel
theorem dL_law_1095 : decode cL_law 1095 = .ok (.iconst 1, 1) := by decide +kernel
theorem dL_law_1096 : decode cL_law 1096 = .ok (.iadd, 1) := by decide +kernel
theorem dL_law_1097 : decode cL_law 1097 = .ok (.iaload, 1) := by decide +kernel
theorem dL_law_1098 : decode cL_law 1098 = .ok (.invokevirtual 155, 3) := by decide +kernel
theorem dL_law_1101 : decode cL_law 1101 = .ok (.if_icmp .eq 451, 3) := by decide +kernel
theorem dL_law_1104 : decode cL_law 1104 = .ok (.iconst 0, 1) := by decide +kernel
theorem dL_law_1105 : decode cL_law 1105 = .ok (.ireturn, 1) := by decide +kernel
theorem dL_law_1106 : decode cL_law 1106 = .ok (.aload_n 1, 1) := by decide +kernel
theorem dL_law_1107 : decode cL_law 1107 = .ok (.invokevirtual 156, 3) := by decide +kernel
theorem dL_law_1110 : decode cL_law 1110 = .ok (.aload_n 2, 1) := by decide +kernel
theorem dL_law_1111 : decode cL_law 1111 = .ok (.invokevirtual 159, 3) := by decide +kernel
theorem dL_law_1114 : decode cL_law 1114 = .ok (.if_icmp .eq 438, 3) := by decide +kernel
theorem dL_law_1117 : decode cL_law 1117 = .ok (.iconst 0, 1) := by decide +kernel
theorem dL_law_1118 : decode cL_law 1118 = .ok (.ireturn, 1) := by decide +kernel
theorem dL_law_1119 : decode cL_law 1119 = .ok (.aload_n 1, 1) := by decide +kernel
theorem dL_law_1120 : decode cL_law 1120 = .ok (.aload_n 0, 1) := by decide +kernel
theorem dL_law_1121 : decode cL_law 1121 = .ok (.iload 4, 2) := by decide +kernel
theorem dL_law_1123 : decode cL_law 1123 = .ok (.iconst 1, 1) := by decide +kernel
theorem dL_law_1124 : decode cL_law 1124 = .ok (.iadd, 1) := by decide +kernel
theorem dL_law_1125 : decode cL_law 1125 = .ok (.iaload, 1) := by decide +kernel
theorem dL_law_1126 : decode cL_law 1126 = .ok (.invokevirtual 160, 3) := by decide +kernel
theorem dL_law_1129 : decode cL_law 1129 = .ok (.aload_n 2, 1) := by decide +kernel
theorem dL_law_1130 : decode cL_law 1130 = .ok (.aload_n 0, 1) := by decide +kernel
theorem dL_law_1131 : decode cL_law 1131 = .ok (.iload 4, 2) := by decide +kernel
theorem dL_law_1133 : decode cL_law 1133 = .ok (.iconst 1, 1) := by decide +kernel
theorem dL_law_1134 : decode cL_law 1134 = .ok (.iadd, 1) := by decide +kernel
theorem dL_law_1135 : decode cL_law 1135 = .ok (.iaload, 1) := by decide +kernel
theorem dL_law_1136 : decode cL_law 1136 = .ok (.invokevirtual 163, 3) := by decide +kernel
theorem dL_law_1139 : decode cL_law 1139 = .ok (.if_icmp .eq 413, 3) := by decide +kernel
theorem dL_law_1142 : decode cL_law 1142 = .ok (.iconst 0, 1) := by decide +kernel
theorem dL_law_1143 : decode cL_law 1143 = .ok (.ireturn, 1) := by decide +kernel
theorem dL_law_1144 : decode cL_law 1144 = .ok (.aload_n 1, 1) := by decide +kernel
theorem dL_law_1145 : decode cL_law 1145 = .ok (.invokevirtual 164, 3) := by decide +kernel
theorem dL_law_1148 : decode cL_law 1148 = .ok (.aload_n 2, 1) := by decide +kernel
theorem dL_law_1149 : decode cL_law 1149 = .ok (.invokevirtual 167, 3) := by decide +kernel
theorem dL_law_1152 : decode cL_law 1152 = .ok (.if_icmp .eq 400, 3) := by decide +kernel
theorem dL_law_1155 : decode cL_law 1155 = .ok (.iconst 0, 1) := by decide +kernel
theorem dL_law_1156 : decode cL_law 1156 = .ok (.ireturn, 1) := by decide +kernel
theorem dL_law_1157 : decode cL_law 1157 = .ok (.aload_n 1, 1) := by decide +kernel
theorem dL_law_1158 : decode cL_law 1158 = .ok (.invokevirtual 168, 3) := by decide +kernel
theorem dL_law_1161 : decode cL_law 1161 = .ok (.aload_n 2, 1) := by decide +kernel
theorem dL_law_1162 : decode cL_law 1162 = .ok (.invokevirtual 171, 3) := by decide +kernel
theorem dL_law_1165 : decode cL_law 1165 = .ok (.if_icmp .eq 387, 3) := by decide +kernel
theorem dL_law_1168 : decode cL_law 1168 = .ok (.iconst 0, 1) := by decide +kernel
theorem dL_law_1169 : decode cL_law 1169 = .ok (.ireturn, 1) := by decide +kernel
theorem dL_law_1170 : decode cL_law 1170 = .ok (.aload_n 1, 1) := by decide +kernel
theorem dL_law_1171 : decode cL_law 1171 = .ok (.invokevirtual 172, 3) := by decide +kernel
theorem dL_law_1174 : decode cL_law 1174 = .ok (.aload_n 2, 1) := by decide +kernel
theorem dL_law_1175 : decode cL_law 1175 = .ok (.invokevirtual 175, 3) := by decide +kernel
theorem dL_law_1178 : decode cL_law 1178 = .ok (.if_icmp .eq 374, 3) := by decide +kernel
theorem dL_law_1181 : decode cL_law 1181 = .ok (.iconst 0, 1) := by decide +kernel
theorem dL_law_1182 : decode cL_law 1182 = .ok (.ireturn, 1) := by decide +kernel
theorem dL_law_1183 : decode cL_law 1183 = .ok (.aload_n 1, 1) := by decide +kernel
theorem dL_law_1184 : decode cL_law 1184 = .ok (.invokevirtual 176, 3) := by decide +kernel
theorem dL_law_1187 : decode cL_law 1187 = .ok (.aload_n 2, 1) := by decide +kernel
theorem dL_law_1188 : decode cL_law 1188 = .ok (.invokevirtual 179, 3) := by decide +kernel
theorem dL_law_1191 : decode cL_law 1191 = .ok (.if_icmp .eq 361, 3) := by decide +kernel
theorem dL_law_1194 : decode cL_law 1194 = .ok (.iconst 0, 1) := by decide +kernel
theorem dL_law_1195 : decode cL_law 1195 = .ok (.ireturn, 1) := by decide +kernel
theorem dL_law_1196 : decode cL_law 1196 = .ok (.aload_n 1, 1) := by decide +kernel
theorem dL_law_1197 : decode cL_law 1197 = .ok (.invokevirtual 180, 3) := by decide +kernel
theorem dL_law_1200 : decode cL_law 1200 = .ok (.aload_n 2, 1) := by decide +kernel
theorem dL_law_1201 : decode cL_law 1201 = .ok (.invokevirtual 183, 3) := by decide +kernel
theorem dL_law_1204 : decode cL_law 1204 = .ok (.if_icmp .eq 348, 3) := by decide +kernel
theorem dL_law_1207 : decode cL_law 1207 = .ok (.iconst 0, 1) := by decide +kernel
theorem dL_law_1208 : decode cL_law 1208 = .ok (.ireturn, 1) := by decide +kernel
theorem dL_law_1209 : decode cL_law 1209 = .ok (.aload_n 1, 1) := by decide +kernel
theorem dL_law_1210 : decode cL_law 1210 = .ok (.aload_n 0, 1) := by decide +kernel
theorem dL_law_1211 : decode cL_law 1211 = .ok (.iload 4, 2) := by decide +kernel
theorem dL_law_1213 : decode cL_law 1213 = .ok (.iconst 1, 1) := by decide +kernel
theorem dL_law_1214 : decode cL_law 1214 = .ok (.iadd, 1) := by decide +kernel
theorem dL_law_1215 : decode cL_law 1215 = .ok (.iaload, 1) := by decide +kernel
theorem dL_law_1216 : decode cL_law 1216 = .ok (.aload_n 0, 1) := by decide +kernel
theorem dL_law_1217 : decode cL_law 1217 = .ok (.iload 4, 2) := by decide +kernel
theorem dL_law_1219 : decode cL_law 1219 = .ok (.iconst 2, 1) := by decide +kernel
theorem dL_law_1220 : decode cL_law 1220 = .ok (.iadd, 1) := by decide +kernel
theorem dL_law_1221 : decode cL_law 1221 = .ok (.iaload, 1) := by decide +kernel
theorem dL_law_1222 : decode cL_law 1222 = .ok (.aload_n 0, 1) := by decide +kernel
theorem dL_law_1223 : decode cL_law 1223 = .ok (.iload 4, 2) := by decide +kernel
theorem dL_law_1225 : decode cL_law 1225 = .ok (.iconst 3, 1) := by decide +kernel
theorem dL_law_1226 : decode cL_law 1226 = .ok (.iadd, 1) := by decide +kernel
theorem dL_law_1227 : decode cL_law 1227 = .ok (.iaload, 1) := by decide +kernel
theorem dL_law_1228 : decode cL_law 1228 = .ok (.invokevirtual 184, 3) := by decide +kernel
theorem dL_law_1231 : decode cL_law 1231 = .ok (.aload_n 2, 1) := by decide +kernel
theorem dL_law_1232 : decode cL_law 1232 = .ok (.aload_n 0, 1) := by decide +kernel
theorem dL_law_1233 : decode cL_law 1233 = .ok (.iload 4, 2) := by decide +kernel
theorem dL_law_1235 : decode cL_law 1235 = .ok (.iconst 1, 1) := by decide +kernel
theorem dL_law_1236 : decode cL_law 1236 = .ok (.iadd, 1) := by decide +kernel
theorem dL_law_1237 : decode cL_law 1237 = .ok (.iaload, 1) := by decide +kernel
theorem dL_law_1238 : decode cL_law 1238 = .ok (.aload_n 0, 1) := by decide +kernel
theorem dL_law_1239 : decode cL_law 1239 = .ok (.iload 4, 2) := by decide +kernel
theorem dL_law_1241 : decode cL_law 1241 = .ok (.iconst 2, 1) := by decide +kernel
theorem dL_law_1242 : decode cL_law 1242 = .ok (.iadd, 1) := by decide +kernel
theorem dL_law_1243 : decode cL_law 1243 = .ok (.iaload, 1) := by decide +kernel
theorem dL_law_1244 : decode cL_law 1244 = .ok (.aload_n 0, 1) := by decide +kernel
theorem dL_law_1245 : decode cL_law 1245 = .ok (.iload 4, 2) := by decide +kernel
theorem dL_law_1247 : decode cL_law 1247 = .ok (.iconst 3, 1) := by decide +kernel
theorem dL_law_1248 : decode cL_law 1248 = .ok (.iadd, 1) := by decide +kernel
theorem dL_law_1249 : decode cL_law 1249 = .ok (.iaload, 1) := by decide +kernel
theorem dL_law_1250 : decode cL_law 1250 = .ok (.invokevirtual 187, 3) := by decide +kernel
theorem dL_law_1253 : decode cL_law 1253 = .ok (.if_icmp .eq 299, 3) := by decide +kernel
theorem dL_law_1256 : decode cL_law 1256 = .ok (.iconst 0, 1) := by decide +kernel
theorem dL_law_1257 : decode cL_law 1257 = .ok (.ireturn, 1) := by decide +kernel
theorem dL_law_1258 : decode cL_law 1258 = .ok (.aload_n 1, 1) := by decide +kernel
theorem dL_law_1259 : decode cL_law 1259 = .ok (.aload_n 0, 1) := by decide +kernel
theorem dL_law_1260 : decode cL_law 1260 = .ok (.iload 4, 2) := by decide +kernel
theorem dL_law_1262 : decode cL_law 1262 = .ok (.iconst 1, 1) := by decide +kernel
theorem dL_law_1263 : decode cL_law 1263 = .ok (.iadd, 1) := by decide +kernel
theorem dL_law_1264 : decode cL_law 1264 = .ok (.iaload, 1) := by decide +kernel
theorem dL_law_1265 : decode cL_law 1265 = .ok (.aload_n 0, 1) := by decide +kernel
theorem dL_law_1266 : decode cL_law 1266 = .ok (.iload 4, 2) := by decide +kernel
theorem dL_law_1268 : decode cL_law 1268 = .ok (.iconst 2, 1) := by decide +kernel
theorem dL_law_1269 : decode cL_law 1269 = .ok (.iadd, 1) := by decide +kernel
theorem dL_law_1270 : decode cL_law 1270 = .ok (.iaload, 1) := by decide +kernel
theorem dL_law_1271 : decode cL_law 1271 = .ok (.invokevirtual 188, 3) := by decide +kernel
theorem dL_law_1274 : decode cL_law 1274 = .ok (.aload_n 2, 1) := by decide +kernel
theorem dL_law_1275 : decode cL_law 1275 = .ok (.aload_n 0, 1) := by decide +kernel
theorem dL_law_1276 : decode cL_law 1276 = .ok (.iload 4, 2) := by decide +kernel
theorem dL_law_1278 : decode cL_law 1278 = .ok (.iconst 1, 1) := by decide +kernel
theorem dL_law_1279 : decode cL_law 1279 = .ok (.iadd, 1) := by decide +kernel
theorem dL_law_1280 : decode cL_law 1280 = .ok (.iaload, 1) := by decide +kernel
theorem dL_law_1281 : decode cL_law 1281 = .ok (.aload_n 0, 1) := by decide +kernel
theorem dL_law_1282 : decode cL_law 1282 = .ok (.iload 4, 2) := by decide +kernel
theorem dL_law_1284 : decode cL_law 1284 = .ok (.iconst 2, 1) := by decide +kernel
theorem dL_law_1285 : decode cL_law 1285 = .ok (.iadd, 1) := by decide +kernel
theorem dL_law_1286 : decode cL_law 1286 = .ok (.iaload, 1) := by decide +kernel
theorem dL_law_1287 : decode cL_law 1287 = .ok (.invokevirtual 191, 3) := by decide +kernel
theorem dL_law_1290 : decode cL_law 1290 = .ok (.if_icmp .eq 262, 3) := by decide +kernel
theorem dL_law_1293 : decode cL_law 1293 = .ok (.iconst 0, 1) := by decide +kernel
theorem dL_law_1294 : decode cL_law 1294 = .ok (.ireturn, 1) := by decide +kernel
theorem dL_law_1295 : decode cL_law 1295 = .ok (.aload_n 1, 1) := by decide +kernel
theorem dL_law_1296 : decode cL_law 1296 = .ok (.aload_n 0, 1) := by decide +kernel
theorem dL_law_1297 : decode cL_law 1297 = .ok (.iload 4, 2) := by decide +kernel
theorem dL_law_1299 : decode cL_law 1299 = .ok (.iconst 1, 1) := by decide +kernel
theorem dL_law_1300 : decode cL_law 1300 = .ok (.iadd, 1) := by decide +kernel
theorem dL_law_1301 : decode cL_law 1301 = .ok (.iaload, 1) := by decide +kernel
theorem dL_law_1302 : decode cL_law 1302 = .ok (.aload_n 0, 1) := by decide +kernel
theorem dL_law_1303 : decode cL_law 1303 = .ok (.iload 4, 2) := by decide +kernel
theorem dL_law_1305 : decode cL_law 1305 = .ok (.iconst 2, 1) := by decide +kernel
theorem dL_law_1306 : decode cL_law 1306 = .ok (.iadd, 1) := by decide +kernel
theorem dL_law_1307 : decode cL_law 1307 = .ok (.iaload, 1) := by decide +kernel
theorem dL_law_1308 : decode cL_law 1308 = .ok (.invokevirtual 192, 3) := by decide +kernel
theorem dL_law_1311 : decode cL_law 1311 = .ok (.aload_n 2, 1) := by decide +kernel
theorem dL_law_1312 : decode cL_law 1312 = .ok (.aload_n 0, 1) := by decide +kernel
theorem dL_law_1313 : decode cL_law 1313 = .ok (.iload 4, 2) := by decide +kernel
theorem dL_law_1315 : decode cL_law 1315 = .ok (.iconst 1, 1) := by decide +kernel
theorem dL_law_1316 : decode cL_law 1316 = .ok (.iadd, 1) := by decide +kernel
theorem dL_law_1317 : decode cL_law 1317 = .ok (.iaload, 1) := by decide +kernel
theorem dL_law_1318 : decode cL_law 1318 = .ok (.aload_n 0, 1) := by decide +kernel
theorem dL_law_1319 : decode cL_law 1319 = .ok (.iload 4, 2) := by decide +kernel
theorem dL_law_1321 : decode cL_law 1321 = .ok (.iconst 2, 1) := by decide +kernel
theorem dL_law_1322 : decode cL_law 1322 = .ok (.iadd, 1) := by decide +kernel
theorem dL_law_1323 : decode cL_law 1323 = .ok (.iaload, 1) := by decide +kernel
theorem dL_law_1324 : decode cL_law 1324 = .ok (.invokevirtual 195, 3) := by decide +kernel
theorem dL_law_1327 : decode cL_law 1327 = .ok (.if_icmp .eq 225, 3) := by decide +kernel
theorem dL_law_1330 : decode cL_law 1330 = .ok (.iconst 0, 1) := by decide +kernel
theorem dL_law_1331 : decode cL_law 1331 = .ok (.ireturn, 1) := by decide +kernel
theorem dL_law_1332 : decode cL_law 1332 = .ok (.aload_n 1, 1) := by decide +kernel
theorem dL_law_1333 : decode cL_law 1333 = .ok (.aload_n 0, 1) := by decide +kernel
theorem dL_law_1334 : decode cL_law 1334 = .ok (.iload 4, 2) := by decide +kernel
theorem dL_law_1336 : decode cL_law 1336 = .ok (.iconst 1, 1) := by decide +kernel
theorem dL_law_1337 : decode cL_law 1337 = .ok (.iadd, 1) := by decide +kernel
theorem dL_law_1338 : decode cL_law 1338 = .ok (.iaload, 1) := by decide +kernel
theorem dL_law_1339 : decode cL_law 1339 = .ok (.invokevirtual 196, 3) := by decide +kernel
theorem dL_law_1342 : decode cL_law 1342 = .ok (.aload_n 2, 1) := by decide +kernel
theorem dL_law_1343 : decode cL_law 1343 = .ok (.aload_n 0, 1) := by decide +kernel
theorem dL_law_1344 : decode cL_law 1344 = .ok (.iload 4, 2) := by decide +kernel
theorem dL_law_1346 : decode cL_law 1346 = .ok (.iconst 1, 1) := by decide +kernel
theorem dL_law_1347 : decode cL_law 1347 = .ok (.iadd, 1) := by decide +kernel
theorem dL_law_1348 : decode cL_law 1348 = .ok (.iaload, 1) := by decide +kernel
theorem dL_law_1349 : decode cL_law 1349 = .ok (.invokevirtual 199, 3) := by decide +kernel
theorem dL_law_1352 : decode cL_law 1352 = .ok (.if_icmp .eq 200, 3) := by decide +kernel
theorem dL_law_1355 : decode cL_law 1355 = .ok (.iconst 0, 1) := by decide +kernel
theorem dL_law_1356 : decode cL_law 1356 = .ok (.ireturn, 1) := by decide +kernel
theorem dL_law_1357 : decode cL_law 1357 = .ok (.aload_n 1, 1) := by decide +kernel
theorem dL_law_1358 : decode cL_law 1358 = .ok (.aload_n 0, 1) := by decide +kernel
theorem dL_law_1359 : decode cL_law 1359 = .ok (.iload 4, 2) := by decide +kernel
theorem dL_law_1361 : decode cL_law 1361 = .ok (.iconst 1, 1) := by decide +kernel
theorem dL_law_1362 : decode cL_law 1362 = .ok (.iadd, 1) := by decide +kernel
theorem dL_law_1363 : decode cL_law 1363 = .ok (.iaload, 1) := by decide +kernel
theorem dL_law_1364 : decode cL_law 1364 = .ok (.aload_n 0, 1) := by decide +kernel
theorem dL_law_1365 : decode cL_law 1365 = .ok (.iload 4, 2) := by decide +kernel
theorem dL_law_1367 : decode cL_law 1367 = .ok (.iconst 2, 1) := by decide +kernel
theorem dL_law_1368 : decode cL_law 1368 = .ok (.iadd, 1) := by decide +kernel
theorem dL_law_1369 : decode cL_law 1369 = .ok (.iaload, 1) := by decide +kernel
theorem dL_law_1370 : decode cL_law 1370 = .ok (.invokevirtual 200, 3) := by decide +kernel
theorem dL_law_1373 : decode cL_law 1373 = .ok (.aload_n 2, 1) := by decide +kernel
theorem dL_law_1374 : decode cL_law 1374 = .ok (.aload_n 0, 1) := by decide +kernel
theorem dL_law_1375 : decode cL_law 1375 = .ok (.iload 4, 2) := by decide +kernel
theorem dL_law_1377 : decode cL_law 1377 = .ok (.iconst 1, 1) := by decide +kernel
theorem dL_law_1378 : decode cL_law 1378 = .ok (.iadd, 1) := by decide +kernel
theorem dL_law_1379 : decode cL_law 1379 = .ok (.iaload, 1) := by decide +kernel
theorem dL_law_1380 : decode cL_law 1380 = .ok (.aload_n 0, 1) := by decide +kernel
theorem dL_law_1381 : decode cL_law 1381 = .ok (.iload 4, 2) := by decide +kernel
theorem dL_law_1383 : decode cL_law 1383 = .ok (.iconst 2, 1) := by decide +kernel
theorem dL_law_1384 : decode cL_law 1384 = .ok (.iadd, 1) := by decide +kernel
theorem dL_law_1385 : decode cL_law 1385 = .ok (.iaload, 1) := by decide +kernel
theorem dL_law_1386 : decode cL_law 1386 = .ok (.invokevirtual 203, 3) := by decide +kernel
theorem dL_law_1389 : decode cL_law 1389 = .ok (.if_icmp .eq 163, 3) := by decide +kernel
theorem dL_law_1392 : decode cL_law 1392 = .ok (.iconst 0, 1) := by decide +kernel
theorem dL_law_1393 : decode cL_law 1393 = .ok (.ireturn, 1) := by decide +kernel
theorem dL_law_1394 : decode cL_law 1394 = .ok (.aload_n 1, 1) := by decide +kernel
theorem dL_law_1395 : decode cL_law 1395 = .ok (.invokevirtual 204, 3) := by decide +kernel
theorem dL_law_1398 : decode cL_law 1398 = .ok (.aload_n 2, 1) := by decide +kernel
theorem dL_law_1399 : decode cL_law 1399 = .ok (.invokevirtual 207, 3) := by decide +kernel
theorem dL_law_1402 : decode cL_law 1402 = .ok (.if_icmp .eq 150, 3) := by decide +kernel
theorem dL_law_1405 : decode cL_law 1405 = .ok (.iconst 0, 1) := by decide +kernel
theorem dL_law_1406 : decode cL_law 1406 = .ok (.ireturn, 1) := by decide +kernel
theorem dL_law_1407 : decode cL_law 1407 = .ok (.aload_n 1, 1) := by decide +kernel
theorem dL_law_1408 : decode cL_law 1408 = .ok (.invokevirtual 208, 3) := by decide +kernel
theorem dL_law_1411 : decode cL_law 1411 = .ok (.aload_n 2, 1) := by decide +kernel
theorem dL_law_1412 : decode cL_law 1412 = .ok (.invokevirtual 212, 3) := by decide +kernel
theorem dL_law_1415 : decode cL_law 1415 = .ok (.if_icmp .eq 137, 3) := by decide +kernel
theorem dL_law_1418 : decode cL_law 1418 = .ok (.iconst 0, 1) := by decide +kernel
theorem dL_law_1419 : decode cL_law 1419 = .ok (.ireturn, 1) := by decide +kernel
theorem dL_law_1420 : decode cL_law 1420 = .ok (.aload_n 1, 1) := by decide +kernel
theorem dL_law_1421 : decode cL_law 1421 = .ok (.invokevirtual 213, 3) := by decide +kernel
theorem dL_law_1424 : decode cL_law 1424 = .ok (.aload_n 2, 1) := by decide +kernel
theorem dL_law_1425 : decode cL_law 1425 = .ok (.invokevirtual 216, 3) := by decide +kernel
theorem dL_law_1428 : decode cL_law 1428 = .ok (.if_icmp .eq 124, 3) := by decide +kernel
theorem dL_law_1431 : decode cL_law 1431 = .ok (.iconst 0, 1) := by decide +kernel
theorem dL_law_1432 : decode cL_law 1432 = .ok (.ireturn, 1) := by decide +kernel
theorem dL_law_1433 : decode cL_law 1433 = .ok (.aload_n 1, 1) := by decide +kernel
theorem dL_law_1434 : decode cL_law 1434 = .ok (.aload_n 0, 1) := by decide +kernel
theorem dL_law_1435 : decode cL_law 1435 = .ok (.iload 4, 2) := by decide +kernel
theorem dL_law_1437 : decode cL_law 1437 = .ok (.iconst 1, 1) := by decide +kernel
theorem dL_law_1438 : decode cL_law 1438 = .ok (.iadd, 1) := by decide +kernel
theorem dL_law_1439 : decode cL_law 1439 = .ok (.iaload, 1) := by decide +kernel
theorem dL_law_1440 : decode cL_law 1440 = .ok (.invokevirtual 217, 3) := by decide +kernel
theorem dL_law_1443 : decode cL_law 1443 = .ok (.aload_n 2, 1) := by decide +kernel
theorem dL_law_1444 : decode cL_law 1444 = .ok (.aload_n 0, 1) := by decide +kernel
theorem dL_law_1445 : decode cL_law 1445 = .ok (.iload 4, 2) := by decide +kernel
theorem dL_law_1447 : decode cL_law 1447 = .ok (.iconst 1, 1) := by decide +kernel
theorem dL_law_1448 : decode cL_law 1448 = .ok (.iadd, 1) := by decide +kernel
theorem dL_law_1449 : decode cL_law 1449 = .ok (.iaload, 1) := by decide +kernel
theorem dL_law_1450 : decode cL_law 1450 = .ok (.invokevirtual 221, 3) := by decide +kernel
theorem dL_law_1453 : decode cL_law 1453 = .ok (.if_icmp .eq 99, 3) := by decide +kernel
theorem dL_law_1456 : decode cL_law 1456 = .ok (.iconst 0, 1) := by decide +kernel
theorem dL_law_1457 : decode cL_law 1457 = .ok (.ireturn, 1) := by decide +kernel
theorem dL_law_1458 : decode cL_law 1458 = .ok (.aload_n 1, 1) := by decide +kernel
theorem dL_law_1459 : decode cL_law 1459 = .ok (.aload_n 0, 1) := by decide +kernel
theorem dL_law_1460 : decode cL_law 1460 = .ok (.iload 4, 2) := by decide +kernel
theorem dL_law_1462 : decode cL_law 1462 = .ok (.iconst 1, 1) := by decide +kernel
theorem dL_law_1463 : decode cL_law 1463 = .ok (.iadd, 1) := by decide +kernel
theorem dL_law_1464 : decode cL_law 1464 = .ok (.iaload, 1) := by decide +kernel
theorem dL_law_1465 : decode cL_law 1465 = .ok (.aload_n 3, 1) := by decide +kernel
theorem dL_law_1466 : decode cL_law 1466 = .ok (.invokestatic 222, 3) := by decide +kernel
theorem dL_law_1469 : decode cL_law 1469 = .ok (.istore 5, 2) := by decide +kernel
theorem dL_law_1471 : decode cL_law 1471 = .ok (.aload_n 2, 1) := by decide +kernel
theorem dL_law_1472 : decode cL_law 1472 = .ok (.aload_n 0, 1) := by decide +kernel
theorem dL_law_1473 : decode cL_law 1473 = .ok (.iload 4, 2) := by decide +kernel
theorem dL_law_1475 : decode cL_law 1475 = .ok (.iconst 1, 1) := by decide +kernel
theorem dL_law_1476 : decode cL_law 1476 = .ok (.iadd, 1) := by decide +kernel
theorem dL_law_1477 : decode cL_law 1477 = .ok (.iaload, 1) := by decide +kernel
theorem dL_law_1478 : decode cL_law 1478 = .ok (.invokevirtual 227, 3) := by decide +kernel
theorem dL_law_1481 : decode cL_law 1481 = .ok (.istore 6, 2) := by decide +kernel
theorem dL_law_1483 : decode cL_law 1483 = .ok (.aload_n 2, 1) := by decide +kernel
theorem dL_law_1484 : decode cL_law 1484 = .ok (.invokevirtual 228, 3) := by decide +kernel
theorem dL_law_1487 : decode cL_law 1487 = .ok (.iload 5, 2) := by decide +kernel
theorem dL_law_1489 : decode cL_law 1489 = .ok (.if_icmp .eq 5, 3) := by decide +kernel
theorem dL_law_1492 : decode cL_law 1492 = .ok (.iconst 0, 1) := by decide +kernel
theorem dL_law_1493 : decode cL_law 1493 = .ok (.ireturn, 1) := by decide +kernel
theorem dL_law_1494 : decode cL_law 1494 = .ok (.iload 5, 2) := by decide +kernel
theorem dL_law_1496 : decode cL_law 1496 = .ok (.ifCond .ne 15, 3) := by decide +kernel
theorem dL_law_1499 : decode cL_law 1499 = .ok (.aload_n 3, 1) := by decide +kernel
theorem dL_law_1500 : decode cL_law 1500 = .ok (.iconst 0, 1) := by decide +kernel
theorem dL_law_1501 : decode cL_law 1501 = .ok (.laload, 1) := by decide +kernel
theorem dL_law_1502 : decode cL_law 1502 = .ok (.iload 6, 2) := by decide +kernel
theorem dL_law_1504 : decode cL_law 1504 = .ok (.i2l, 1) := by decide +kernel
theorem dL_law_1505 : decode cL_law 1505 = .ok (.lcmp, 1) := by decide +kernel
theorem dL_law_1506 : decode cL_law 1506 = .ok (.ifCond .eq 5, 3) := by decide +kernel
theorem dL_law_1509 : decode cL_law 1509 = .ok (.iconst 0, 1) := by decide +kernel
theorem dL_law_1510 : decode cL_law 1510 = .ok (.ireturn, 1) := by decide +kernel
theorem dL_law_1511 : decode cL_law 1511 = .ok (.goto 41, 3) := by decide +kernel
theorem dL_law_1514 : decode cL_law 1514 = .ok (.aload_n 1, 1) := by decide +kernel
theorem dL_law_1515 : decode cL_law 1515 = .ok (.aload_n 0, 1) := by decide +kernel
theorem dL_law_1516 : decode cL_law 1516 = .ok (.iload 4, 2) := by decide +kernel
theorem dL_law_1518 : decode cL_law 1518 = .ok (.iconst 1, 1) := by decide +kernel
theorem dL_law_1519 : decode cL_law 1519 = .ok (.iadd, 1) := by decide +kernel
theorem dL_law_1520 : decode cL_law 1520 = .ok (.iaload, 1) := by decide +kernel
theorem dL_law_1521 : decode cL_law 1521 = .ok (.invokevirtual 231, 3) := by decide +kernel
theorem dL_law_1524 : decode cL_law 1524 = .ok (.aload_n 2, 1) := by decide +kernel
theorem dL_law_1525 : decode cL_law 1525 = .ok (.aload_n 0, 1) := by decide +kernel
theorem dL_law_1526 : decode cL_law 1526 = .ok (.iload 4, 2) := by decide +kernel
theorem dL_law_1528 : decode cL_law 1528 = .ok (.iconst 1, 1) := by decide +kernel
theorem dL_law_1529 : decode cL_law 1529 = .ok (.iadd, 1) := by decide +kernel
theorem dL_law_1530 : decode cL_law 1530 = .ok (.iaload, 1) := by decide +kernel
theorem dL_law_1531 : decode cL_law 1531 = .ok (.invokevirtual 234, 3) := by decide +kernel
theorem dL_law_1534 : decode cL_law 1534 = .ok (.if_icmp .eq 18, 3) := by decide +kernel
theorem dL_law_1537 : decode cL_law 1537 = .ok (.iconst 0, 1) := by decide +kernel
theorem dL_law_1538 : decode cL_law 1538 = .ok (.ireturn, 1) := by decide +kernel
theorem dL_law_1539 : decode cL_law 1539 = .ok (.aload_n 1, 1) := by decide +kernel
theorem dL_law_1540 : decode cL_law 1540 = .ok (.invokevirtual 235, 3) := by decide +kernel
theorem dL_law_1543 : decode cL_law 1543 = .ok (.aload_n 2, 1) := by decide +kernel
theorem dL_law_1544 : decode cL_law 1544 = .ok (.invokevirtual 238, 3) := by decide +kernel
theorem dL_law_1547 : decode cL_law 1547 = .ok (.if_icmp .eq 5, 3) := by decide +kernel
theorem dL_law_1550 : decode cL_law 1550 = .ok (.iconst 0, 1) := by decide +kernel
theorem dL_law_1551 : decode cL_law 1551 = .ok (.ireturn, 1) := by decide +kernel
theorem dL_law_1552 : decode cL_law 1552 = .ok (.iinc 4 6, 3) := by decide +kernel
theorem dL_law_1555 : decode cL_law 1555 = .ok (.goto (-1532), 3) := by decide +kernel
theorem dL_law_1558 : decode cL_law 1558 = .ok (.iconst 1, 1) := by decide +kernel
theorem dL_law_1559 : decode cL_law 1559 = .ok (.ireturn, 1) := by decide +kernel
