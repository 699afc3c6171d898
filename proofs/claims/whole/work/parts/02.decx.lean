theorem dX0_init_0 : decode cX0_init 0 = .ok (.aload_n 0, 1) := by decide +kernel
theorem dX0_init_1 : decode cX0_init 1 = .ok (.invokespecial 3, 3) := by decide +kernel
theorem dX0_init_4 : decode cX0_init 4 = .ok (.return_, 1) := by decide +kernel
theorem dX0_draw_0 : decode cX0_draw 0 = .ok (.aload_n 0, 1) := by decide +kernel
theorem dX0_draw_1 : decode cX0_draw 1 = .ok (.bipush 75, 2) := by decide +kernel
theorem dX0_draw_3 : decode cX0_draw 3 = .ok (.aload_n 0, 1) := by decide +kernel
theorem dX0_draw_4 : decode cX0_draw 4 = .ok (.getfield 9, 3) := by decide +kernel
theorem dX0_draw_7 : decode cX0_draw 7 = .ok (.imul, 1) := by decide +kernel
theorem dX0_draw_8 : decode cX0_draw 8 = .ok (.bipush 74, 2) := by decide +kernel
theorem dX0_draw_10 : decode cX0_draw 10 = .ok (.iadd, 1) := by decide +kernel
theorem dX0_draw_11 : decode cX0_draw 11 = .ok (.ldc 15, 2) := by decide +kernel
theorem dX0_draw_13 : decode cX0_draw 13 = .ok (.irem, 1) := by decide +kernel
theorem dX0_draw_14 : decode cX0_draw 14 = .ok (.putfield 9, 3) := by decide +kernel
theorem dX0_draw_17 : decode cX0_draw 17 = .ok (.iload_n 1, 1) := by decide +kernel
theorem dX0_draw_18 : decode cX0_draw 18 = .ok (.ifCond .le 12, 3) := by decide +kernel
theorem dX0_draw_21 : decode cX0_draw 21 = .ok (.aload_n 0, 1) := by decide +kernel
theorem dX0_draw_22 : decode cX0_draw 22 = .ok (.getfield 9, 3) := by decide +kernel
theorem dX0_draw_25 : decode cX0_draw 25 = .ok (.iload_n 1, 1) := by decide +kernel
theorem dX0_draw_26 : decode cX0_draw 26 = .ok (.irem, 1) := by decide +kernel
theorem dX0_draw_27 : decode cX0_draw 27 = .ok (.goto 4, 3) := by decide +kernel
theorem dX0_draw_30 : decode cX0_draw 30 = .ok (.iconst 0, 1) := by decide +kernel
theorem dX0_draw_31 : decode cX0_draw 31 = .ok (.ireturn, 1) := by decide +kernel
theorem dX0_takeTurn_0 : decode cX0_takeTurn 0 = .ok (.aload_n 0, 1) := by decide +kernel
theorem dX0_takeTurn_1 : decode cX0_takeTurn 1 = .ok (.aload_n 1, 1) := by decide +kernel
theorem dX0_takeTurn_2 : decode cX0_takeTurn 2 = .ok (.getfield 16, 3) := by decide +kernel
theorem dX0_takeTurn_5 : decode cX0_takeTurn 5 = .ok (.invokevirtual 21, 3) := by decide +kernel
theorem dX0_takeTurn_8 : decode cX0_takeTurn 8 = .ok (.istore_n 3, 1) := by decide +kernel
theorem dX0_takeTurn_9 : decode cX0_takeTurn 9 = .ok (.aload_n 2, 1) := by decide +kernel
theorem dX0_takeTurn_10 : decode cX0_takeTurn 10 = .ok (.aload_n 1, 1) := by decide +kernel
theorem dX0_takeTurn_11 : decode cX0_takeTurn 11 = .ok (.iload_n 3, 1) := by decide +kernel
theorem dX0_takeTurn_12 : decode cX0_takeTurn 12 = .ok (.aload_n 0, 1) := by decide +kernel
theorem dX0_takeTurn_13 : decode cX0_takeTurn 13 = .ok (.bipush 100, 2) := by decide +kernel
theorem dX0_takeTurn_15 : decode cX0_takeTurn 15 = .ok (.invokevirtual 21, 3) := by decide +kernel
theorem dX0_takeTurn_18 : decode cX0_takeTurn 18 = .ok (.invokevirtual 25, 3) := by decide +kernel
theorem dX0_takeTurn_21 : decode cX0_takeTurn 21 = .ok (.aload_n 0, 1) := by decide +kernel
theorem dX0_takeTurn_22 : decode cX0_takeTurn 22 = .ok (.bipush 8, 2) := by decide +kernel
theorem dX0_takeTurn_24 : decode cX0_takeTurn 24 = .ok (.invokevirtual 21, 3) := by decide +kernel
theorem dX0_takeTurn_27 : decode cX0_takeTurn 27 = .ok (.ifCond .eq 4, 3) := by decide +kernel
theorem dX0_takeTurn_30 : decode cX0_takeTurn 30 = .ok (.return_, 1) := by decide +kernel
theorem dX0_takeTurn_31 : decode cX0_takeTurn 31 = .ok (.aload_n 2, 1) := by decide +kernel
theorem dX0_takeTurn_32 : decode cX0_takeTurn 32 = .ok (.aload_n 1, 1) := by decide +kernel
theorem dX0_takeTurn_33 : decode cX0_takeTurn 33 = .ok (.invokevirtual 31, 3) := by decide +kernel
theorem dX0_takeTurn_36 : decode cX0_takeTurn 36 = .ok (.istore 4, 2) := by decide +kernel
theorem dX0_takeTurn_38 : decode cX0_takeTurn 38 = .ok (.iload 4, 2) := by decide +kernel
theorem dX0_takeTurn_40 : decode cX0_takeTurn 40 = .ok (.bipush (-2), 2) := by decide +kernel
theorem dX0_takeTurn_42 : decode cX0_takeTurn 42 = .ok (.if_icmp .eq 28, 3) := by decide +kernel
theorem dX0_takeTurn_45 : decode cX0_takeTurn 45 = .ok (.aload_n 2, 1) := by decide +kernel
theorem dX0_takeTurn_46 : decode cX0_takeTurn 46 = .ok (.aload_n 1, 1) := by decide +kernel
theorem dX0_takeTurn_47 : decode cX0_takeTurn 47 = .ok (.iload 4, 2) := by decide +kernel
theorem dX0_takeTurn_49 : decode cX0_takeTurn 49 = .ok (.aload_n 0, 1) := by decide +kernel
theorem dX0_takeTurn_50 : decode cX0_takeTurn 50 = .ok (.aload_n 1, 1) := by decide +kernel
theorem dX0_takeTurn_51 : decode cX0_takeTurn 51 = .ok (.iload 4, 2) := by decide +kernel
theorem dX0_takeTurn_53 : decode cX0_takeTurn 53 = .ok (.invokevirtual 35, 3) := by decide +kernel
theorem dX0_takeTurn_56 : decode cX0_takeTurn 56 = .ok (.iconst 1, 1) := by decide +kernel
theorem dX0_takeTurn_57 : decode cX0_takeTurn 57 = .ok (.iadd, 1) := by decide +kernel
theorem dX0_takeTurn_58 : decode cX0_takeTurn 58 = .ok (.invokevirtual 21, 3) := by decide +kernel
theorem dX0_takeTurn_61 : decode cX0_takeTurn 61 = .ok (.invokevirtual 38, 3) := by decide +kernel
theorem dX0_takeTurn_64 : decode cX0_takeTurn 64 = .ok (.aload_n 2, 1) := by decide +kernel
theorem dX0_takeTurn_65 : decode cX0_takeTurn 65 = .ok (.aload_n 1, 1) := by decide +kernel
theorem dX0_takeTurn_66 : decode cX0_takeTurn 66 = .ok (.invokevirtual 41, 3) := by decide +kernel
theorem dX0_takeTurn_69 : decode cX0_takeTurn 69 = .ok (.pop, 1) := by decide +kernel
theorem dX0_takeTurn_70 : decode cX0_takeTurn 70 = .ok (.return_, 1) := by decide +kernel
theorem dX1_init_0 : decode cX1_init 0 = .ok (.aload_n 0, 1) := by decide +kernel
theorem dX1_init_1 : decode cX1_init 1 = .ok (.invokespecial 3, 3) := by decide +kernel
theorem dX1_init_4 : decode cX1_init 4 = .ok (.aload_n 0, 1) := by decide +kernel
theorem dX1_init_5 : decode cX1_init 5 = .ok (.bipush 16, 2) := by decide +kernel
theorem dX1_init_7 : decode cX1_init 7 = .ok (.newarray .int, 2) := by decide +kernel
theorem dX1_init_9 : decode cX1_init 9 = .ok (.putfield 9, 3) := by decide +kernel
theorem dX1_init_12 : decode cX1_init 12 = .ok (.return_, 1) := by decide +kernel
theorem dX1_addSet_0 : decode cX1_addSet 0 = .ok (.aload_n 0, 1) := by decide +kernel
theorem dX1_addSet_1 : decode cX1_addSet 1 = .ok (.getfield 15, 3) := by decide +kernel
theorem dX1_addSet_4 : decode cX1_addSet 4 = .ok (.ifCond .lt 35, 3) := by decide +kernel
theorem dX1_addSet_7 : decode cX1_addSet 7 = .ok (.aload_n 0, 1) := by decide +kernel
theorem dX1_addSet_8 : decode cX1_addSet 8 = .ok (.getfield 15, 3) := by decide +kernel
theorem dX1_addSet_11 : decode cX1_addSet 11 = .ok (.aload_n 0, 1) := by decide +kernel
theorem dX1_addSet_12 : decode cX1_addSet 12 = .ok (.getfield 9, 3) := by decide +kernel
theorem dX1_addSet_15 : decode cX1_addSet 15 = .ok (.arraylength, 1) := by decide +kernel
theorem dX1_addSet_16 : decode cX1_addSet 16 = .ok (.if_icmp .ge 23, 3) := by decide +kernel
theorem dX1_addSet_19 : decode cX1_addSet 19 = .ok (.aload_n 0, 1) := by decide +kernel
theorem dX1_addSet_20 : decode cX1_addSet 20 = .ok (.getfield 9, 3) := by decide +kernel
theorem dX1_addSet_23 : decode cX1_addSet 23 = .ok (.aload_n 0, 1) := by decide +kernel
theorem dX1_addSet_24 : decode cX1_addSet 24 = .ok (.getfield 15, 3) := by decide +kernel
theorem dX1_addSet_27 : decode cX1_addSet 27 = .ok (.iload_n 1, 1) := by decide +kernel
theorem dX1_addSet_28 : decode cX1_addSet 28 = .ok (.iastore, 1) := by decide +kernel
theorem dX1_addSet_29 : decode cX1_addSet 29 = .ok (.aload_n 0, 1) := by decide +kernel
theorem dX1_addSet_30 : decode cX1_addSet 30 = .ok (.dup, 1) := by decide +kernel
theorem dX1_addSet_31 : decode cX1_addSet 31 = .ok (.getfield 15, 3) := by decide +kernel
theorem dX1_addSet_34 : decode cX1_addSet 34 = .ok (.iconst 1, 1) := by decide +kernel
theorem dX1_addSet_35 : decode cX1_addSet 35 = .ok (.iadd, 1) := by decide +kernel
theorem dX1_addSet_36 : decode cX1_addSet 36 = .ok (.putfield 15, 3) := by decide +kernel
theorem dX1_addSet_39 : decode cX1_addSet 39 = .ok (.return_, 1) := by decide +kernel
theorem dX1_inSome_0 : decode cX1_inSome 0 = .ok (.iconst 0, 1) := by decide +kernel
theorem dX1_inSome_1 : decode cX1_inSome 1 = .ok (.istore_n 1, 1) := by decide +kernel
theorem dX1_inSome_2 : decode cX1_inSome 2 = .ok (.iconst 0, 1) := by decide +kernel
theorem dX1_inSome_3 : decode cX1_inSome 3 = .ok (.istore_n 2, 1) := by decide +kernel
theorem dX1_inSome_4 : decode cX1_inSome 4 = .ok (.iload_n 2, 1) := by decide +kernel
theorem dX1_inSome_5 : decode cX1_inSome 5 = .ok (.aload_n 0, 1) := by decide +kernel
theorem dX1_inSome_6 : decode cX1_inSome 6 = .ok (.getfield 15, 3) := by decide +kernel
theorem dX1_inSome_9 : decode cX1_inSome 9 = .ok (.if_icmp .ge 20, 3) := by decide +kernel
theorem dX1_inSome_12 : decode cX1_inSome 12 = .ok (.iload_n 1, 1) := by decide +kernel
theorem dX1_inSome_13 : decode cX1_inSome 13 = .ok (.aload_n 0, 1) := by decide +kernel
theorem dX1_inSome_14 : decode cX1_inSome 14 = .ok (.getfield 9, 3) := by decide +kernel
theorem dX1_inSome_17 : decode cX1_inSome 17 = .ok (.iload_n 2, 1) := by decide +kernel
theorem dX1_inSome_18 : decode cX1_inSome 18 = .ok (.invokestatic 19, 3) := by decide +kernel
theorem dX1_inSome_21 : decode cX1_inSome 21 = .ok (.ior, 1) := by decide +kernel
theorem dX1_inSome_22 : decode cX1_inSome 22 = .ok (.istore_n 1, 1) := by decide +kernel
theorem dX1_inSome_23 : decode cX1_inSome 23 = .ok (.iinc 2 1, 3) := by decide +kernel
theorem dX1_inSome_26 : decode cX1_inSome 26 = .ok (.goto (-22), 3) := by decide +kernel
theorem dX1_inSome_29 : decode cX1_inSome 29 = .ok (.iload_n 1, 1) := by decide +kernel
theorem dX1_inSome_30 : decode cX1_inSome 30 = .ok (.ireturn, 1) := by decide +kernel
theorem dX1_inAll_0 : decode cX1_inAll 0 = .ok (.aload_n 0, 1) := by decide +kernel
theorem dX1_inAll_1 : decode cX1_inAll 1 = .ok (.getfield 15, 3) := by decide +kernel
theorem dX1_inAll_4 : decode cX1_inAll 4 = .ok (.ifCond .ne 7, 3) := by decide +kernel
theorem dX1_inAll_7 : decode cX1_inAll 7 = .ok (.iconst 0, 1) := by decide +kernel
theorem dX1_inAll_8 : decode cX1_inAll 8 = .ok (.goto 5, 3) := by decide +kernel
theorem dX1_inAll_11 : decode cX1_inAll 11 = .ok (.bipush 15, 2) := by decide +kernel
theorem dX1_inAll_13 : decode cX1_inAll 13 = .ok (.istore_n 1, 1) := by decide +kernel
theorem dX1_inAll_14 : decode cX1_inAll 14 = .ok (.iconst 0, 1) := by decide +kernel
theorem dX1_inAll_15 : decode cX1_inAll 15 = .ok (.istore_n 2, 1) := by decide +kernel
theorem dX1_inAll_16 : decode cX1_inAll 16 = .ok (.iload_n 2, 1) := by decide +kernel
theorem dX1_inAll_17 : decode cX1_inAll 17 = .ok (.aload_n 0, 1) := by decide +kernel
theorem dX1_inAll_18 : decode cX1_inAll 18 = .ok (.getfield 15, 3) := by decide +kernel
theorem dX1_inAll_21 : decode cX1_inAll 21 = .ok (.if_icmp .ge 20, 3) := by decide +kernel
theorem dX1_inAll_24 : decode cX1_inAll 24 = .ok (.iload_n 1, 1) := by decide +kernel
theorem dX1_inAll_25 : decode cX1_inAll 25 = .ok (.aload_n 0, 1) := by decide +kernel
theorem dX1_inAll_26 : decode cX1_inAll 26 = .ok (.getfield 9, 3) := by decide +kernel
theorem dX1_inAll_29 : decode cX1_inAll 29 = .ok (.iload_n 2, 1) := by decide +kernel
theorem dX1_inAll_30 : decode cX1_inAll 30 = .ok (.invokestatic 19, 3) := by decide +kernel
theorem dX1_inAll_33 : decode cX1_inAll 33 = .ok (.iand, 1) := by decide +kernel
theorem dX1_inAll_34 : decode cX1_inAll 34 = .ok (.istore_n 1, 1) := by decide +kernel
theorem dX1_inAll_35 : decode cX1_inAll 35 = .ok (.iinc 2 1, 3) := by decide +kernel
theorem dX1_inAll_38 : decode cX1_inAll 38 = .ok (.goto (-22), 3) := by decide +kernel
theorem dX1_inAll_41 : decode cX1_inAll 41 = .ok (.iload_n 1, 1) := by decide +kernel
theorem dX1_inAll_42 : decode cX1_inAll 42 = .ok (.ireturn, 1) := by decide +kernel
theorem dX1_leftAtMost_0 : decode cX1_leftAtMost 0 = .ok (.iconst 0, 1) := by decide +kernel
theorem dX1_leftAtMost_1 : decode cX1_leftAtMost 1 = .ok (.istore_n 2, 1) := by decide +kernel
theorem dX1_leftAtMost_2 : decode cX1_leftAtMost 2 = .ok (.iconst 0, 1) := by decide +kernel
theorem dX1_leftAtMost_3 : decode cX1_leftAtMost 3 = .ok (.istore_n 3, 1) := by decide +kernel
theorem dX1_leftAtMost_4 : decode cX1_leftAtMost 4 = .ok (.iload_n 3, 1) := by decide +kernel
theorem dX1_leftAtMost_5 : decode cX1_leftAtMost 5 = .ok (.aload_n 0, 1) := by decide +kernel
theorem dX1_leftAtMost_6 : decode cX1_leftAtMost 6 = .ok (.getfield 15, 3) := by decide +kernel
theorem dX1_leftAtMost_9 : decode cX1_leftAtMost 9 = .ok (.if_icmp .ge 24, 3) := by decide +kernel
theorem dX1_leftAtMost_12 : decode cX1_leftAtMost 12 = .ok (.iload_n 2, 1) := by decide +kernel
theorem dX1_leftAtMost_13 : decode cX1_leftAtMost 13 = .ok (.aload_n 0, 1) := by decide +kernel
theorem dX1_leftAtMost_14 : decode cX1_leftAtMost 14 = .ok (.getfield 9, 3) := by decide +kernel
theorem dX1_leftAtMost_17 : decode cX1_leftAtMost 17 = .ok (.iload_n 3, 1) := by decide +kernel
theorem dX1_leftAtMost_18 : decode cX1_leftAtMost 18 = .ok (.invokestatic 19, 3) := by decide +kernel
theorem dX1_leftAtMost_21 : decode cX1_leftAtMost 21 = .ok (.iload_n 1, 1) := by decide +kernel
theorem dX1_leftAtMost_22 : decode cX1_leftAtMost 22 = .ok (.ishr, 1) := by decide +kernel
theorem dX1_leftAtMost_23 : decode cX1_leftAtMost 23 = .ok (.iconst 1, 1) := by decide +kernel
theorem dX1_leftAtMost_24 : decode cX1_leftAtMost 24 = .ok (.iand, 1) := by decide +kernel
theorem dX1_leftAtMost_25 : decode cX1_leftAtMost 25 = .ok (.iadd, 1) := by decide +kernel
theorem dX1_leftAtMost_26 : decode cX1_leftAtMost 26 = .ok (.istore_n 2, 1) := by decide +kernel
theorem dX1_leftAtMost_27 : decode cX1_leftAtMost 27 = .ok (.iinc 3 1, 3) := by decide +kernel
theorem dX1_leftAtMost_30 : decode cX1_leftAtMost 30 = .ok (.goto (-26), 3) := by decide +kernel
theorem dX1_leftAtMost_33 : decode cX1_leftAtMost 33 = .ok (.iload_n 2, 1) := by decide +kernel
theorem dX1_leftAtMost_34 : decode cX1_leftAtMost 34 = .ok (.aload_n 0, 1) := by decide +kernel
theorem dX1_leftAtMost_35 : decode cX1_leftAtMost 35 = .ok (.getfield 15, 3) := by decide +kernel
theorem dX1_leftAtMost_38 : decode cX1_leftAtMost 38 = .ok (.iload_n 2, 1) := by decide +kernel
theorem dX1_leftAtMost_39 : decode cX1_leftAtMost 39 = .ok (.isub, 1) := by decide +kernel
theorem dX1_leftAtMost_40 : decode cX1_leftAtMost 40 = .ok (.invokestatic 23, 3) := by decide +kernel
theorem dX1_leftAtMost_43 : decode cX1_leftAtMost 43 = .ok (.ireturn, 1) := by decide +kernel
theorem dX1_bestToTell_0 : decode cX1_bestToTell 0 = .ok (.bipush (-2), 2) := by decide +kernel
theorem dX1_bestToTell_2 : decode cX1_bestToTell 2 = .ok (.istore_n 2, 1) := by decide +kernel
theorem dX1_bestToTell_3 : decode cX1_bestToTell 3 = .ok (.aload_n 0, 1) := by decide +kernel
theorem dX1_bestToTell_4 : decode cX1_bestToTell 4 = .ok (.getfield 15, 3) := by decide +kernel
theorem dX1_bestToTell_7 : decode cX1_bestToTell 7 = .ok (.iconst 1, 1) := by decide +kernel
theorem dX1_bestToTell_8 : decode cX1_bestToTell 8 = .ok (.iadd, 1) := by decide +kernel
theorem dX1_bestToTell_9 : decode cX1_bestToTell 9 = .ok (.istore_n 3, 1) := by decide +kernel
theorem dX1_bestToTell_10 : decode cX1_bestToTell 10 = .ok (.iconst 0, 1) := by decide +kernel
theorem dX1_bestToTell_11 : decode cX1_bestToTell 11 = .ok (.istore 4, 2) := by decide +kernel
theorem dX1_bestToTell_13 : decode cX1_bestToTell 13 = .ok (.aload_n 0, 1) := by decide +kernel
theorem dX1_bestToTell_14 : decode cX1_bestToTell 14 = .ok (.getfield 15, 3) := by decide +kernel
theorem dX1_bestToTell_17 : decode cX1_bestToTell 17 = .ok (.ifCond .le 35, 3) := by decide +kernel
theorem dX1_bestToTell_20 : decode cX1_bestToTell 20 = .ok (.iload 4, 2) := by decide +kernel
theorem dX1_bestToTell_22 : decode cX1_bestToTell 22 = .ok (.iload_n 1, 1) := by decide +kernel
theorem dX1_bestToTell_23 : decode cX1_bestToTell 23 = .ok (.if_icmp .ge 29, 3) := by decide +kernel
theorem dX1_bestToTell_26 : decode cX1_bestToTell 26 = .ok (.aload_n 0, 1) := by decide +kernel
theorem dX1_bestToTell_27 : decode cX1_bestToTell 27 = .ok (.iload 4, 2) := by decide +kernel
theorem dX1_bestToTell_29 : decode cX1_bestToTell 29 = .ok (.invokevirtual 29, 3) := by decide +kernel
theorem dX1_bestToTell_32 : decode cX1_bestToTell 32 = .ok (.istore 5, 2) := by decide +kernel
theorem dX1_bestToTell_34 : decode cX1_bestToTell 34 = .ok (.iload 5, 2) := by decide +kernel
theorem dX1_bestToTell_36 : decode cX1_bestToTell 36 = .ok (.iload_n 3, 1) := by decide +kernel
theorem dX1_bestToTell_37 : decode cX1_bestToTell 37 = .ok (.if_icmp .ge 9, 3) := by decide +kernel
theorem dX1_bestToTell_40 : decode cX1_bestToTell 40 = .ok (.iload 5, 2) := by decide +kernel
theorem dX1_bestToTell_42 : decode cX1_bestToTell 42 = .ok (.istore_n 3, 1) := by decide +kernel
theorem dX1_bestToTell_43 : decode cX1_bestToTell 43 = .ok (.iload 4, 2) := by decide +kernel
theorem dX1_bestToTell_45 : decode cX1_bestToTell 45 = .ok (.istore_n 2, 1) := by decide +kernel
theorem dX1_bestToTell_46 : decode cX1_bestToTell 46 = .ok (.iinc 4 1, 3) := by decide +kernel
theorem dX1_bestToTell_49 : decode cX1_bestToTell 49 = .ok (.goto (-36), 3) := by decide +kernel
theorem dX1_bestToTell_52 : decode cX1_bestToTell 52 = .ok (.iload_n 2, 1) := by decide +kernel
theorem dX1_bestToTell_53 : decode cX1_bestToTell 53 = .ok (.ireturn, 1) := by decide +kernel
theorem dX2_init_0 : decode cX2_init 0 = .ok (.aload_n 0, 1) := by decide +kernel
theorem dX2_init_1 : decode cX2_init 1 = .ok (.invokespecial 3, 3) := by decide +kernel
theorem dX2_init_4 : decode cX2_init 4 = .ok (.aload_n 0, 1) := by decide +kernel
theorem dX2_init_5 : decode cX2_init 5 = .ok (.new 9, 3) := by decide +kernel
theorem dX2_init_8 : decode cX2_init 8 = .ok (.dup, 1) := by decide +kernel
theorem dX2_init_9 : decode cX2_init 9 = .ok (.bipush 16, 2) := by decide +kernel
theorem dX2_init_11 : decode cX2_init 11 = .ok (.invokespecial 11, 3) := by decide +kernel
theorem dX2_init_14 : decode cX2_init 14 = .ok (.putfield 14, 3) := by decide +kernel
theorem dX2_init_17 : decode cX2_init 17 = .ok (.return_, 1) := by decide +kernel
theorem dX2_forget_0 : decode cX2_forget 0 = .ok (.aload_n 0, 1) := by decide +kernel
theorem dX2_forget_1 : decode cX2_forget 1 = .ok (.iconst 0, 1) := by decide +kernel
theorem dX2_forget_2 : decode cX2_forget 2 = .ok (.putfield 20, 3) := by decide +kernel
theorem dX2_forget_5 : decode cX2_forget 5 = .ok (.return_, 1) := by decide +kernel
theorem dX2_keep_0 : decode cX2_keep 0 = .ok (.aload_n 0, 1) := by decide +kernel
theorem dX2_keep_1 : decode cX2_keep 1 = .ok (.getfield 14, 3) := by decide +kernel
theorem dX2_keep_4 : decode cX2_keep 4 = .ok (.aload_n 0, 1) := by decide +kernel
theorem dX2_keep_5 : decode cX2_keep 5 = .ok (.getfield 24, 3) := by decide +kernel
theorem dX2_keep_8 : decode cX2_keep 8 = .ok (.aload_n 1, 1) := by decide +kernel
theorem dX2_keep_9 : decode cX2_keep 9 = .ok (.invokevirtual 27, 3) := by decide +kernel
theorem dX2_keep_12 : decode cX2_keep 12 = .ok (.aload_n 0, 1) := by decide +kernel
theorem dX2_keep_13 : decode cX2_keep 13 = .ok (.aload_n 0, 1) := by decide +kernel
theorem dX2_keep_14 : decode cX2_keep 14 = .ok (.getfield 24, 3) := by decide +kernel
theorem dX2_keep_17 : decode cX2_keep 17 = .ok (.iconst 1, 1) := by decide +kernel
theorem dX2_keep_18 : decode cX2_keep 18 = .ok (.iadd, 1) := by decide +kernel
theorem dX2_keep_19 : decode cX2_keep 19 = .ok (.bipush 16, 2) := by decide +kernel
theorem dX2_keep_21 : decode cX2_keep 21 = .ok (.irem, 1) := by decide +kernel
theorem dX2_keep_22 : decode cX2_keep 22 = .ok (.putfield 24, 3) := by decide +kernel
theorem dX2_keep_25 : decode cX2_keep 25 = .ok (.aload_n 0, 1) := by decide +kernel
theorem dX2_keep_26 : decode cX2_keep 26 = .ok (.aload_n 0, 1) := by decide +kernel
theorem dX2_keep_27 : decode cX2_keep 27 = .ok (.getfield 20, 3) := by decide +kernel
theorem dX2_keep_30 : decode cX2_keep 30 = .ok (.iconst 1, 1) := by decide +kernel
theorem dX2_keep_31 : decode cX2_keep 31 = .ok (.iadd, 1) := by decide +kernel
theorem dX2_keep_32 : decode cX2_keep 32 = .ok (.bipush 16, 2) := by decide +kernel
theorem dX2_keep_34 : decode cX2_keep 34 = .ok (.invokestatic 31, 3) := by decide +kernel
theorem dX2_keep_37 : decode cX2_keep 37 = .ok (.putfield 20, 3) := by decide +kernel
theorem dX2_keep_40 : decode cX2_keep 40 = .ok (.return_, 1) := by decide +kernel
theorem dX2_takeBack_0 : decode cX2_takeBack 0 = .ok (.aload_n 0, 1) := by decide +kernel
theorem dX2_takeBack_1 : decode cX2_takeBack 1 = .ok (.aload_n 0, 1) := by decide +kernel
theorem dX2_takeBack_2 : decode cX2_takeBack 2 = .ok (.getfield 24, 3) := by decide +kernel
theorem dX2_takeBack_5 : decode cX2_takeBack 5 = .ok (.bipush 16, 2) := by decide +kernel
theorem dX2_takeBack_7 : decode cX2_takeBack 7 = .ok (.iadd, 1) := by decide +kernel
theorem dX2_takeBack_8 : decode cX2_takeBack 8 = .ok (.iconst 1, 1) := by decide +kernel
theorem dX2_takeBack_9 : decode cX2_takeBack 9 = .ok (.isub, 1) := by decide +kernel
theorem dX2_takeBack_10 : decode cX2_takeBack 10 = .ok (.bipush 16, 2) := by decide +kernel
theorem dX2_takeBack_12 : decode cX2_takeBack 12 = .ok (.irem, 1) := by decide +kernel
theorem dX2_takeBack_13 : decode cX2_takeBack 13 = .ok (.putfield 24, 3) := by decide +kernel
theorem dX2_takeBack_16 : decode cX2_takeBack 16 = .ok (.aload_n 0, 1) := by decide +kernel
theorem dX2_takeBack_17 : decode cX2_takeBack 17 = .ok (.getfield 14, 3) := by decide +kernel
theorem dX2_takeBack_20 : decode cX2_takeBack 20 = .ok (.aload_n 0, 1) := by decide +kernel
theorem dX2_takeBack_21 : decode cX2_takeBack 21 = .ok (.getfield 24, 3) := by decide +kernel
theorem dX2_takeBack_24 : decode cX2_takeBack 24 = .ok (.aload_n 1, 1) := by decide +kernel
theorem dX2_takeBack_25 : decode cX2_takeBack 25 = .ok (.invokevirtual 37, 3) := by decide +kernel
theorem dX2_takeBack_28 : decode cX2_takeBack 28 = .ok (.aload_n 0, 1) := by decide +kernel
theorem dX2_takeBack_29 : decode cX2_takeBack 29 = .ok (.dup, 1) := by decide +kernel
theorem dX2_takeBack_30 : decode cX2_takeBack 30 = .ok (.getfield 20, 3) := by decide +kernel
theorem dX2_takeBack_33 : decode cX2_takeBack 33 = .ok (.iconst 1, 1) := by decide +kernel
theorem dX2_takeBack_34 : decode cX2_takeBack 34 = .ok (.isub, 1) := by decide +kernel
theorem dX2_takeBack_35 : decode cX2_takeBack 35 = .ok (.putfield 20, 3) := by decide +kernel
theorem dX2_takeBack_38 : decode cX2_takeBack 38 = .ok (.return_, 1) := by decide +kernel
theorem dX3_init_0 : decode cX3_init 0 = .ok (.aload_n 0, 1) := by decide +kernel
theorem dX3_init_1 : decode cX3_init 1 = .ok (.invokespecial 1, 3) := by decide +kernel
theorem dX3_init_4 : decode cX3_init 4 = .ok (.aload_n 0, 1) := by decide +kernel
theorem dX3_init_5 : decode cX3_init 5 = .ok (.iload_n 1, 1) := by decide +kernel
theorem dX3_init_6 : decode cX3_init 6 = .ok (.iconst 0, 1) := by decide +kernel
theorem dX3_init_7 : decode cX3_init 7 = .ok (.invokestatic 7, 3) := by decide +kernel
theorem dX3_init_10 : decode cX3_init 10 = .ok (.newarray .int, 2) := by decide +kernel
theorem dX3_init_12 : decode cX3_init 12 = .ok (.putfield 13, 3) := by decide +kernel
theorem dX3_init_15 : decode cX3_init 15 = .ok (.aload_n 0, 1) := by decide +kernel
theorem dX3_init_16 : decode cX3_init 16 = .ok (.iload_n 1, 1) := by decide +kernel
theorem dX3_init_17 : decode cX3_init 17 = .ok (.iconst 0, 1) := by decide +kernel
theorem dX3_init_18 : decode cX3_init 18 = .ok (.invokestatic 7, 3) := by decide +kernel
theorem dX3_init_21 : decode cX3_init 21 = .ok (.newarray .int, 2) := by decide +kernel
theorem dX3_init_23 : decode cX3_init 23 = .ok (.putfield 19, 3) := by decide +kernel
theorem dX3_init_26 : decode cX3_init 26 = .ok (.return_, 1) := by decide +kernel
theorem dX3_hasRoom_0 : decode cX3_hasRoom 0 = .ok (.aload_n 0, 1) := by decide +kernel
theorem dX3_hasRoom_1 : decode cX3_hasRoom 1 = .ok (.getfield 22, 3) := by decide +kernel
theorem dX3_hasRoom_4 : decode cX3_hasRoom 4 = .ok (.ifCond .lt 31, 3) := by decide +kernel
theorem dX3_hasRoom_7 : decode cX3_hasRoom 7 = .ok (.aload_n 0, 1) := by decide +kernel
theorem dX3_hasRoom_8 : decode cX3_hasRoom 8 = .ok (.getfield 22, 3) := by decide +kernel
theorem dX3_hasRoom_11 : decode cX3_hasRoom 11 = .ok (.aload_n 0, 1) := by decide +kernel
theorem dX3_hasRoom_12 : decode cX3_hasRoom 12 = .ok (.getfield 13, 3) := by decide +kernel
theorem dX3_hasRoom_15 : decode cX3_hasRoom 15 = .ok (.arraylength, 1) := by decide +kernel
theorem dX3_hasRoom_16 : decode cX3_hasRoom 16 = .ok (.if_icmp .ge 19, 3) := by decide +kernel
theorem dX3_hasRoom_19 : decode cX3_hasRoom 19 = .ok (.aload_n 0, 1) := by decide +kernel
theorem dX3_hasRoom_20 : decode cX3_hasRoom 20 = .ok (.getfield 22, 3) := by decide +kernel
theorem dX3_hasRoom_23 : decode cX3_hasRoom 23 = .ok (.aload_n 0, 1) := by decide +kernel
theorem dX3_hasRoom_24 : decode cX3_hasRoom 24 = .ok (.getfield 19, 3) := by decide +kernel
theorem dX3_hasRoom_27 : decode cX3_hasRoom 27 = .ok (.arraylength, 1) := by decide +kernel
theorem dX3_hasRoom_28 : decode cX3_hasRoom 28 = .ok (.if_icmp .ge 7, 3) := by decide +kernel
theorem dX3_hasRoom_31 : decode cX3_hasRoom 31 = .ok (.iconst 1, 1) := by decide +kernel
theorem dX3_hasRoom_32 : decode cX3_hasRoom 32 = .ok (.goto 4, 3) := by decide +kernel
theorem dX3_hasRoom_35 : decode cX3_hasRoom 35 = .ok (.iconst 0, 1) := by decide +kernel
theorem dX3_hasRoom_36 : decode cX3_hasRoom 36 = .ok (.ireturn, 1) := by decide +kernel
theorem dX3_addPair_0 : decode cX3_addPair 0 = .ok (.aload_n 0, 1) := by decide +kernel
theorem dX3_addPair_1 : decode cX3_addPair 1 = .ok (.invokevirtual 26, 3) := by decide +kernel
theorem dX3_addPair_4 : decode cX3_addPair 4 = .ok (.ifCond .eq 33, 3) := by decide +kernel
theorem dX3_addPair_7 : decode cX3_addPair 7 = .ok (.aload_n 0, 1) := by decide +kernel
theorem dX3_addPair_8 : decode cX3_addPair 8 = .ok (.getfield 13, 3) := by decide +kernel
theorem dX3_addPair_11 : decode cX3_addPair 11 = .ok (.aload_n 0, 1) := by decide +kernel
theorem dX3_addPair_12 : decode cX3_addPair 12 = .ok (.getfield 22, 3) := by decide +kernel
theorem dX3_addPair_15 : decode cX3_addPair 15 = .ok (.iload_n 1, 1) := by decide +kernel
theorem dX3_addPair_16 : decode cX3_addPair 16 = .ok (.iastore, 1) := by decide +kernel
theorem dX3_addPair_17 : decode cX3_addPair 17 = .ok (.aload_n 0, 1) := by decide +kernel
theorem dX3_addPair_18 : decode cX3_addPair 18 = .ok (.getfield 19, 3) := by decide +kernel
theorem dX3_addPair_21 : decode cX3_addPair 21 = .ok (.aload_n 0, 1) := by decide +kernel
theorem dX3_addPair_22 : decode cX3_addPair 22 = .ok (.getfield 22, 3) := by decide +kernel
theorem dX3_addPair_25 : decode cX3_addPair 25 = .ok (.iload_n 2, 1) := by decide +kernel
theorem dX3_addPair_26 : decode cX3_addPair 26 = .ok (.iastore, 1) := by decide +kernel
theorem dX3_addPair_27 : decode cX3_addPair 27 = .ok (.aload_n 0, 1) := by decide +kernel
theorem dX3_addPair_28 : decode cX3_addPair 28 = .ok (.dup, 1) := by decide +kernel
theorem dX3_addPair_29 : decode cX3_addPair 29 = .ok (.getfield 22, 3) := by decide +kernel
theorem dX3_addPair_32 : decode cX3_addPair 32 = .ok (.iconst 1, 1) := by decide +kernel
theorem dX3_addPair_33 : decode cX3_addPair 33 = .ok (.iadd, 1) := by decide +kernel
theorem dX3_addPair_34 : decode cX3_addPair 34 = .ok (.putfield 22, 3) := by decide +kernel
theorem dX3_addPair_37 : decode cX3_addPair 37 = .ok (.return_, 1) := by decide +kernel
theorem dX3_firstOf_0 : decode cX3_firstOf 0 = .ok (.aload_n 0, 1) := by decide +kernel
theorem dX3_firstOf_1 : decode cX3_firstOf 1 = .ok (.getfield 13, 3) := by decide +kernel
theorem dX3_firstOf_4 : decode cX3_firstOf 4 = .ok (.iload_n 1, 1) := by decide +kernel
theorem dX3_firstOf_5 : decode cX3_firstOf 5 = .ok (.invokestatic 30, 3) := by decide +kernel
theorem dX3_firstOf_8 : decode cX3_firstOf 8 = .ok (.ireturn, 1) := by decide +kernel
theorem dX3_secondOf_0 : decode cX3_secondOf 0 = .ok (.aload_n 0, 1) := by decide +kernel
theorem dX3_secondOf_1 : decode cX3_secondOf 1 = .ok (.getfield 19, 3) := by decide +kernel
theorem dX3_secondOf_4 : decode cX3_secondOf 4 = .ok (.iload_n 1, 1) := by decide +kernel
theorem dX3_secondOf_5 : decode cX3_secondOf 5 = .ok (.invokestatic 30, 3) := by decide +kernel
theorem dX3_secondOf_8 : decode cX3_secondOf 8 = .ok (.ireturn, 1) := by decide +kernel
theorem dX3_hasFirst_0 : decode cX3_hasFirst 0 = .ok (.iconst 0, 1) := by decide +kernel
theorem dX3_hasFirst_1 : decode cX3_hasFirst 1 = .ok (.istore_n 2, 1) := by decide +kernel
theorem dX3_hasFirst_2 : decode cX3_hasFirst 2 = .ok (.iload_n 2, 1) := by decide +kernel
theorem dX3_hasFirst_3 : decode cX3_hasFirst 3 = .ok (.aload_n 0, 1) := by decide +kernel
theorem dX3_hasFirst_4 : decode cX3_hasFirst 4 = .ok (.getfield 22, 3) := by decide +kernel
theorem dX3_hasFirst_7 : decode cX3_hasFirst 7 = .ok (.if_icmp .ge 30, 3) := by decide +kernel
theorem dX3_hasFirst_10 : decode cX3_hasFirst 10 = .ok (.iload_n 2, 1) := by decide +kernel
theorem dX3_hasFirst_11 : decode cX3_hasFirst 11 = .ok (.aload_n 0, 1) := by decide +kernel
theorem dX3_hasFirst_12 : decode cX3_hasFirst 12 = .ok (.getfield 13, 3) := by decide +kernel
theorem dX3_hasFirst_15 : decode cX3_hasFirst 15 = .ok (.arraylength, 1) := by decide +kernel
theorem dX3_hasFirst_16 : decode cX3_hasFirst 16 = .ok (.if_icmp .ge 21, 3) := by decide +kernel
theorem dX3_hasFirst_19 : decode cX3_hasFirst 19 = .ok (.aload_n 0, 1) := by decide +kernel
theorem dX3_hasFirst_20 : decode cX3_hasFirst 20 = .ok (.getfield 13, 3) := by decide +kernel
theorem dX3_hasFirst_23 : decode cX3_hasFirst 23 = .ok (.iload_n 2, 1) := by decide +kernel
theorem dX3_hasFirst_24 : decode cX3_hasFirst 24 = .ok (.iaload, 1) := by decide +kernel
theorem dX3_hasFirst_25 : decode cX3_hasFirst 25 = .ok (.iload_n 1, 1) := by decide +kernel
theorem dX3_hasFirst_26 : decode cX3_hasFirst 26 = .ok (.if_icmp .ne 5, 3) := by decide +kernel
theorem dX3_hasFirst_29 : decode cX3_hasFirst 29 = .ok (.iconst 1, 1) := by decide +kernel
theorem dX3_hasFirst_30 : decode cX3_hasFirst 30 = .ok (.ireturn, 1) := by decide +kernel
theorem dX3_hasFirst_31 : decode cX3_hasFirst 31 = .ok (.iinc 2 1, 3) := by decide +kernel
theorem dX3_hasFirst_34 : decode cX3_hasFirst 34 = .ok (.goto (-32), 3) := by decide +kernel
theorem dX3_hasFirst_37 : decode cX3_hasFirst 37 = .ok (.iconst 0, 1) := by decide +kernel
theorem dX3_hasFirst_38 : decode cX3_hasFirst 38 = .ok (.ireturn, 1) := by decide +kernel
theorem dX4_init_0 : decode cX4_init 0 = .ok (.aload_n 0, 1) := by decide +kernel
theorem dX4_init_1 : decode cX4_init 1 = .ok (.invokespecial 3, 3) := by decide +kernel
theorem dX4_init_4 : decode cX4_init 4 = .ok (.aload_n 0, 1) := by decide +kernel
theorem dX4_init_5 : decode cX4_init 5 = .ok (.aload_n 1, 1) := by decide +kernel
theorem dX4_init_6 : decode cX4_init 6 = .ok (.putfield 9, 3) := by decide +kernel
theorem dX4_init_9 : decode cX4_init 9 = .ok (.aload_n 0, 1) := by decide +kernel
theorem dX4_init_10 : decode cX4_init 10 = .ok (.aload_n 2, 1) := by decide +kernel
theorem dX4_init_11 : decode cX4_init 11 = .ok (.putfield 15, 3) := by decide +kernel
theorem dX4_init_14 : decode cX4_init 14 = .ok (.return_, 1) := by decide +kernel
theorem dX4_tellAll_0 : decode cX4_tellAll 0 = .ok (.aload_n 0, 1) := by decide +kernel
theorem dX4_tellAll_1 : decode cX4_tellAll 1 = .ok (.iload_n 1, 1) := by decide +kernel
theorem dX4_tellAll_2 : decode cX4_tellAll 2 = .ok (.aload_n 0, 1) := by decide +kernel
theorem dX4_tellAll_3 : decode cX4_tellAll 3 = .ok (.getfield 9, 3) := by decide +kernel
theorem dX4_tellAll_6 : decode cX4_tellAll 6 = .ok (.arraylength, 1) := by decide +kernel
theorem dX4_tellAll_7 : decode cX4_tellAll 7 = .ok (.invokestatic 19, 3) := by decide +kernel
theorem dX4_tellAll_10 : decode cX4_tellAll 10 = .ok (.putfield 25, 3) := by decide +kernel
theorem dX4_tellAll_13 : decode cX4_tellAll 13 = .ok (.aload_n 0, 1) := by decide +kernel
theorem dX4_tellAll_14 : decode cX4_tellAll 14 = .ok (.aload_n 2, 1) := by decide +kernel
theorem dX4_tellAll_15 : decode cX4_tellAll 15 = .ok (.putfield 15, 3) := by decide +kernel
theorem dX4_tellAll_18 : decode cX4_tellAll 18 = .ok (.aload_n 0, 1) := by decide +kernel
theorem dX4_tellAll_19 : decode cX4_tellAll 19 = .ok (.getfield 15, 3) := by decide +kernel
theorem dX4_tellAll_22 : decode cX4_tellAll 22 = .ok (.invokevirtual 29, 3) := by decide +kernel
theorem dX4_tellAll_25 : decode cX4_tellAll 25 = .ok (.aload_n 0, 1) := by decide +kernel
theorem dX4_tellAll_26 : decode cX4_tellAll 26 = .ok (.iconst 0, 1) := by decide +kernel
theorem dX4_tellAll_27 : decode cX4_tellAll 27 = .ok (.putfield 34, 3) := by decide +kernel
theorem dX4_tellAll_30 : decode cX4_tellAll 30 = .ok (.aload_n 0, 1) := by decide +kernel
theorem dX4_tellAll_31 : decode cX4_tellAll 31 = .ok (.iconst 0, 1) := by decide +kernel
theorem dX4_tellAll_32 : decode cX4_tellAll 32 = .ok (.putfield 38, 3) := by decide +kernel
theorem dX4_tellAll_35 : decode cX4_tellAll 35 = .ok (.aload_n 0, 1) := by decide +kernel
theorem dX4_tellAll_36 : decode cX4_tellAll 36 = .ok (.iconst 0, 1) := by decide +kernel
theorem dX4_tellAll_37 : decode cX4_tellAll 37 = .ok (.putfield 41, 3) := by decide +kernel
theorem dX4_tellAll_40 : decode cX4_tellAll 40 = .ok (.aload_n 0, 1) := by decide +kernel
theorem dX4_tellAll_41 : decode cX4_tellAll 41 = .ok (.iconst 0, 1) := by decide +kernel
theorem dX4_tellAll_42 : decode cX4_tellAll 42 = .ok (.putfield 44, 3) := by decide +kernel
theorem dX4_tellAll_45 : decode cX4_tellAll 45 = .ok (.aload_n 0, 1) := by decide +kernel
theorem dX4_tellAll_46 : decode cX4_tellAll 46 = .ok (.invokevirtual 47, 3) := by decide +kernel
theorem dX4_tellAll_49 : decode cX4_tellAll 49 = .ok (.iconst 1, 1) := by decide +kernel
theorem dX4_tellAll_50 : decode cX4_tellAll 50 = .ok (.istore_n 3, 1) := by decide +kernel
theorem dX4_tellAll_51 : decode cX4_tellAll 51 = .ok (.iconst 0, 1) := by decide +kernel
theorem dX4_tellAll_52 : decode cX4_tellAll 52 = .ok (.istore 4, 2) := by decide +kernel
theorem dX4_tellAll_54 : decode cX4_tellAll 54 = .ok (.iload_n 3, 1) := by decide +kernel
theorem dX4_tellAll_55 : decode cX4_tellAll 55 = .ok (.ifCond .eq 38, 3) := by decide +kernel
theorem dX4_tellAll_58 : decode cX4_tellAll 58 = .ok (.iload 4, 2) := by decide +kernel
theorem dX4_tellAll_60 : decode cX4_tellAll 60 = .ok (.aload_n 0, 1) := by decide +kernel
theorem dX4_tellAll_61 : decode cX4_tellAll 61 = .ok (.getfield 25, 3) := by decide +kernel
theorem dX4_tellAll_64 : decode cX4_tellAll 64 = .ok (.if_icmp .gt 29, 3) := by decide +kernel
theorem dX4_tellAll_67 : decode cX4_tellAll 67 = .ok (.aload_n 0, 1) := by decide +kernel
theorem dX4_tellAll_68 : decode cX4_tellAll 68 = .ok (.invokevirtual 50, 3) := by decide +kernel
theorem dX4_tellAll_71 : decode cX4_tellAll 71 = .ok (.ifCond .eq 14, 3) := by decide +kernel
theorem dX4_tellAll_74 : decode cX4_tellAll 74 = .ok (.aload_n 0, 1) := by decide +kernel
theorem dX4_tellAll_75 : decode cX4_tellAll 75 = .ok (.invokevirtual 54, 3) := by decide +kernel
theorem dX4_tellAll_78 : decode cX4_tellAll 78 = .ok (.ifCond .eq 7, 3) := by decide +kernel
theorem dX4_tellAll_81 : decode cX4_tellAll 81 = .ok (.iconst 1, 1) := by decide +kernel
theorem dX4_tellAll_82 : decode cX4_tellAll 82 = .ok (.goto 4, 3) := by decide +kernel
theorem dX4_tellAll_85 : decode cX4_tellAll 85 = .ok (.iconst 0, 1) := by decide +kernel
theorem dX4_tellAll_86 : decode cX4_tellAll 86 = .ok (.istore_n 3, 1) := by decide +kernel
theorem dX4_tellAll_87 : decode cX4_tellAll 87 = .ok (.iinc 4 1, 3) := by decide +kernel
theorem dX4_tellAll_90 : decode cX4_tellAll 90 = .ok (.goto (-36), 3) := by decide +kernel
theorem dX4_tellAll_93 : decode cX4_tellAll 93 = .ok (.aload_n 0, 1) := by decide +kernel
theorem dX4_tellAll_94 : decode cX4_tellAll 94 = .ok (.getfield 41, 3) := by decide +kernel
theorem dX4_tellAll_97 : decode cX4_tellAll 97 = .ok (.ifCond .ne 27, 3) := by decide +kernel
theorem dX4_tellAll_100 : decode cX4_tellAll 100 = .ok (.aload_n 0, 1) := by decide +kernel
theorem dX4_tellAll_101 : decode cX4_tellAll 101 = .ok (.getfield 15, 3) := by decide +kernel
theorem dX4_tellAll_104 : decode cX4_tellAll 104 = .ok (.getfield 57, 3) := by decide +kernel
theorem dX4_tellAll_107 : decode cX4_tellAll 107 = .ok (.getfield 61, 3) := by decide +kernel
theorem dX4_tellAll_110 : decode cX4_tellAll 110 = .ok (.ifCond .ne 14, 3) := by decide +kernel
theorem dX4_tellAll_113 : decode cX4_tellAll 113 = .ok (.aload_n 0, 1) := by decide +kernel
theorem dX4_tellAll_114 : decode cX4_tellAll 114 = .ok (.bipush 6, 2) := by decide +kernel
theorem dX4_tellAll_116 : decode cX4_tellAll 116 = .ok (.aload_n 0, 1) := by decide +kernel
theorem dX4_tellAll_117 : decode cX4_tellAll 117 = .ok (.getfield 25, 3) := by decide +kernel
theorem dX4_tellAll_120 : decode cX4_tellAll 120 = .ok (.invokevirtual 66, 3) := by decide +kernel
theorem dX4_tellAll_123 : decode cX4_tellAll 123 = .ok (.pop, 1) := by decide +kernel
theorem dX4_tellAll_124 : decode cX4_tellAll 124 = .ok (.return_, 1) := by decide +kernel
theorem dX4_stopAt_0 : decode cX4_stopAt 0 = .ok (.aload_n 0, 1) := by decide +kernel
theorem dX4_stopAt_1 : decode cX4_stopAt 1 = .ok (.iload_n 1, 1) := by decide +kernel
theorem dX4_stopAt_2 : decode cX4_stopAt 2 = .ok (.putfield 41, 3) := by decide +kernel
theorem dX4_stopAt_5 : decode cX4_stopAt 5 = .ok (.aload_n 0, 1) := by decide +kernel
theorem dX4_stopAt_6 : decode cX4_stopAt 6 = .ok (.iload_n 2, 1) := by decide +kernel
theorem dX4_stopAt_7 : decode cX4_stopAt 7 = .ok (.putfield 44, 3) := by decide +kernel
theorem dX4_stopAt_10 : decode cX4_stopAt 10 = .ok (.iconst 0, 1) := by decide +kernel
theorem dX4_stopAt_11 : decode cX4_stopAt 11 = .ok (.ireturn, 1) := by decide +kernel
theorem dX4_takeLine_0 : decode cX4_takeLine 0 = .ok (.aload_n 0, 1) := by decide +kernel
theorem dX4_takeLine_1 : decode cX4_takeLine 1 = .ok (.getfield 15, 3) := by decide +kernel
theorem dX4_takeLine_4 : decode cX4_takeLine 4 = .ok (.getfield 57, 3) := by decide +kernel
theorem dX4_takeLine_7 : decode cX4_takeLine 7 = .ok (.getfield 70, 3) := by decide +kernel
theorem dX4_takeLine_10 : decode cX4_takeLine 10 = .ok (.istore_n 1, 1) := by decide +kernel
theorem dX4_takeLine_11 : decode cX4_takeLine 11 = .ok (.aload_n 0, 1) := by decide +kernel
theorem dX4_takeLine_12 : decode cX4_takeLine 12 = .ok (.ldc 73, 2) := by decide +kernel
theorem dX4_takeLine_14 : decode cX4_takeLine 14 = .ok (.invokevirtual 75, 3) := by decide +kernel
theorem dX4_takeLine_17 : decode cX4_takeLine 17 = .ok (.ifCond .eq 8, 3) := by decide +kernel
theorem dX4_takeLine_20 : decode cX4_takeLine 20 = .ok (.aload_n 0, 1) := by decide +kernel
theorem dX4_takeLine_21 : decode cX4_takeLine 21 = .ok (.invokevirtual 79, 3) := by decide +kernel
theorem dX4_takeLine_24 : decode cX4_takeLine 24 = .ok (.ireturn, 1) := by decide +kernel
theorem dX4_takeLine_25 : decode cX4_takeLine 25 = .ok (.aload_n 0, 1) := by decide +kernel
theorem dX4_takeLine_26 : decode cX4_takeLine 26 = .ok (.ldc 82, 2) := by decide +kernel
theorem dX4_takeLine_28 : decode cX4_takeLine 28 = .ok (.invokevirtual 75, 3) := by decide +kernel
theorem dX4_takeLine_31 : decode cX4_takeLine 31 = .ok (.ifCond .eq 8, 3) := by decide +kernel
theorem dX4_takeLine_34 : decode cX4_takeLine 34 = .ok (.aload_n 0, 1) := by decide +kernel
theorem dX4_takeLine_35 : decode cX4_takeLine 35 = .ok (.invokevirtual 84, 3) := by decide +kernel
theorem dX4_takeLine_38 : decode cX4_takeLine 38 = .ok (.ireturn, 1) := by decide +kernel
theorem dX4_takeLine_39 : decode cX4_takeLine 39 = .ok (.aload_n 0, 1) := by decide +kernel
theorem dX4_takeLine_40 : decode cX4_takeLine 40 = .ok (.ldc 87, 2) := by decide +kernel
theorem dX4_takeLine_42 : decode cX4_takeLine 42 = .ok (.invokevirtual 75, 3) := by decide +kernel
theorem dX4_takeLine_45 : decode cX4_takeLine 45 = .ok (.ifCond .eq 17, 3) := by decide +kernel
theorem dX4_takeLine_48 : decode cX4_takeLine 48 = .ok (.aload_n 0, 1) := by decide +kernel
theorem dX4_takeLine_49 : decode cX4_takeLine 49 = .ok (.aload_n 0, 1) := by decide +kernel
theorem dX4_takeLine_50 : decode cX4_takeLine 50 = .ok (.getfield 15, 3) := by decide +kernel
theorem dX4_takeLine_53 : decode cX4_takeLine 53 = .ok (.getfield 89, 3) := by decide +kernel
theorem dX4_takeLine_56 : decode cX4_takeLine 56 = .ok (.iload_n 1, 1) := by decide +kernel
theorem dX4_takeLine_57 : decode cX4_takeLine 57 = .ok (.iconst 1, 1) := by decide +kernel
theorem dX4_takeLine_58 : decode cX4_takeLine 58 = .ok (.invokevirtual 93, 3) := by decide +kernel
theorem dX4_takeLine_61 : decode cX4_takeLine 61 = .ok (.ireturn, 1) := by decide +kernel
theorem dX4_takeLine_62 : decode cX4_takeLine 62 = .ok (.aload_n 0, 1) := by decide +kernel
theorem dX4_takeLine_63 : decode cX4_takeLine 63 = .ok (.ldc 97, 2) := by decide +kernel
theorem dX4_takeLine_65 : decode cX4_takeLine 65 = .ok (.invokevirtual 75, 3) := by decide +kernel
theorem dX4_takeLine_68 : decode cX4_takeLine 68 = .ok (.ifCond .eq 17, 3) := by decide +kernel
theorem dX4_takeLine_71 : decode cX4_takeLine 71 = .ok (.aload_n 0, 1) := by decide +kernel
theorem dX4_takeLine_72 : decode cX4_takeLine 72 = .ok (.aload_n 0, 1) := by decide +kernel
theorem dX4_takeLine_73 : decode cX4_takeLine 73 = .ok (.getfield 15, 3) := by decide +kernel
theorem dX4_takeLine_76 : decode cX4_takeLine 76 = .ok (.getfield 99, 3) := by decide +kernel
theorem dX4_takeLine_79 : decode cX4_takeLine 79 = .ok (.iload_n 1, 1) := by decide +kernel
theorem dX4_takeLine_80 : decode cX4_takeLine 80 = .ok (.iconst 0, 1) := by decide +kernel
theorem dX4_takeLine_81 : decode cX4_takeLine 81 = .ok (.invokevirtual 93, 3) := by decide +kernel
theorem dX4_takeLine_84 : decode cX4_takeLine 84 = .ok (.ireturn, 1) := by decide +kernel
theorem dX4_takeLine_85 : decode cX4_takeLine 85 = .ok (.aload_n 0, 1) := by decide +kernel
theorem dX4_takeLine_86 : decode cX4_takeLine 86 = .ok (.ldc 102, 2) := by decide +kernel
theorem dX4_takeLine_88 : decode cX4_takeLine 88 = .ok (.invokevirtual 75, 3) := by decide +kernel
theorem dX4_takeLine_91 : decode cX4_takeLine 91 = .ok (.ifCond .eq 26, 3) := by decide +kernel
theorem dX4_takeLine_94 : decode cX4_takeLine 94 = .ok (.aload_n 0, 1) := by decide +kernel
theorem dX4_takeLine_95 : decode cX4_takeLine 95 = .ok (.aload_n 0, 1) := by decide +kernel
theorem dX4_takeLine_96 : decode cX4_takeLine 96 = .ok (.getfield 15, 3) := by decide +kernel
theorem dX4_takeLine_99 : decode cX4_takeLine 99 = .ok (.getfield 104, 3) := by decide +kernel
theorem dX4_takeLine_102 : decode cX4_takeLine 102 = .ok (.aload_n 0, 1) := by decide +kernel
theorem dX4_takeLine_103 : decode cX4_takeLine 103 = .ok (.getfield 15, 3) := by decide +kernel
theorem dX4_takeLine_106 : decode cX4_takeLine 106 = .ok (.getfield 99, 3) := by decide +kernel
theorem dX4_takeLine_109 : decode cX4_takeLine 109 = .ok (.getfield 106, 3) := by decide +kernel
theorem dX4_takeLine_112 : decode cX4_takeLine 112 = .ok (.iconst 1, 1) := by decide +kernel
theorem dX4_takeLine_113 : decode cX4_takeLine 113 = .ok (.invokevirtual 93, 3) := by decide +kernel
theorem dX4_takeLine_116 : decode cX4_takeLine 116 = .ok (.ireturn, 1) := by decide +kernel
theorem dX4_takeLine_117 : decode cX4_takeLine 117 = .ok (.aload_n 0, 1) := by decide +kernel
theorem dX4_takeLine_118 : decode cX4_takeLine 118 = .ok (.ldc 111, 2) := by decide +kernel
theorem dX4_takeLine_120 : decode cX4_takeLine 120 = .ok (.invokevirtual 75, 3) := by decide +kernel
theorem dX4_takeLine_123 : decode cX4_takeLine 123 = .ok (.ifCond .eq 17, 3) := by decide +kernel
theorem dX4_takeLine_126 : decode cX4_takeLine 126 = .ok (.aload_n 0, 1) := by decide +kernel
theorem dX4_takeLine_127 : decode cX4_takeLine 127 = .ok (.aload_n 0, 1) := by decide +kernel
theorem dX4_takeLine_128 : decode cX4_takeLine 128 = .ok (.getfield 15, 3) := by decide +kernel
theorem dX4_takeLine_131 : decode cX4_takeLine 131 = .ok (.getfield 113, 3) := by decide +kernel
theorem dX4_takeLine_134 : decode cX4_takeLine 134 = .ok (.iload_n 1, 1) := by decide +kernel
theorem dX4_takeLine_135 : decode cX4_takeLine 135 = .ok (.iconst 1, 1) := by decide +kernel
theorem dX4_takeLine_136 : decode cX4_takeLine 136 = .ok (.invokevirtual 93, 3) := by decide +kernel
theorem dX4_takeLine_139 : decode cX4_takeLine 139 = .ok (.ireturn, 1) := by decide +kernel
theorem dX4_takeLine_140 : decode cX4_takeLine 140 = .ok (.aload_n 0, 1) := by decide +kernel
theorem dX4_takeLine_141 : decode cX4_takeLine 141 = .ok (.iconst 1, 1) := by decide +kernel
theorem dX4_takeLine_142 : decode cX4_takeLine 142 = .ok (.aload_n 0, 1) := by decide +kernel
theorem dX4_takeLine_143 : decode cX4_takeLine 143 = .ok (.getfield 116, 3) := by decide +kernel
theorem dX4_takeLine_146 : decode cX4_takeLine 146 = .ok (.invokevirtual 66, 3) := by decide +kernel
theorem dX4_takeLine_149 : decode cX4_takeLine 149 = .ok (.ireturn, 1) := by decide +kernel
theorem dX4_takeSemicolon_0 : decode cX4_takeSemicolon 0 = .ok (.aload_n 0, 1) := by decide +kernel
theorem dX4_takeSemicolon_1 : decode cX4_takeSemicolon 1 = .ok (.getfield 119, 3) := by decide +kernel
theorem dX4_takeSemicolon_4 : decode cX4_takeSemicolon 4 = .ok (.ifCond .ne 5, 3) := by decide +kernel
theorem dX4_takeSemicolon_7 : decode cX4_takeSemicolon 7 = .ok (.iconst 0, 1) := by decide +kernel
theorem dX4_takeSemicolon_8 : decode cX4_takeSemicolon 8 = .ok (.ireturn, 1) := by decide +kernel
theorem dX4_takeSemicolon_9 : decode cX4_takeSemicolon 9 = .ok (.aload_n 0, 1) := by decide +kernel
theorem dX4_takeSemicolon_10 : decode cX4_takeSemicolon 10 = .ok (.getfield 119, 3) := by decide +kernel
theorem dX4_takeSemicolon_13 : decode cX4_takeSemicolon 13 = .ok (.iconst 3, 1) := by decide +kernel
theorem dX4_takeSemicolon_14 : decode cX4_takeSemicolon 14 = .ok (.if_icmp .eq 13, 3) := by decide +kernel
theorem dX4_takeSemicolon_17 : decode cX4_takeSemicolon 17 = .ok (.aload_n 0, 1) := by decide +kernel
theorem dX4_takeSemicolon_18 : decode cX4_takeSemicolon 18 = .ok (.iconst 1, 1) := by decide +kernel
theorem dX4_takeSemicolon_19 : decode cX4_takeSemicolon 19 = .ok (.aload_n 0, 1) := by decide +kernel
theorem dX4_takeSemicolon_20 : decode cX4_takeSemicolon 20 = .ok (.getfield 116, 3) := by decide +kernel
theorem dX4_takeSemicolon_23 : decode cX4_takeSemicolon 23 = .ok (.invokevirtual 66, 3) := by decide +kernel
theorem dX4_takeSemicolon_26 : decode cX4_takeSemicolon 26 = .ok (.ireturn, 1) := by decide +kernel
theorem dX4_takeSemicolon_27 : decode cX4_takeSemicolon 27 = .ok (.aload_n 0, 1) := by decide +kernel
theorem dX4_takeSemicolon_28 : decode cX4_takeSemicolon 28 = .ok (.invokevirtual 47, 3) := by decide +kernel
theorem dX4_takeSemicolon_31 : decode cX4_takeSemicolon 31 = .ok (.iconst 1, 1) := by decide +kernel
theorem dX4_takeSemicolon_32 : decode cX4_takeSemicolon 32 = .ok (.ireturn, 1) := by decide +kernel
theorem dX4_takeDisk_0 : decode cX4_takeDisk 0 = .ok (.aload_n 0, 1) := by decide +kernel
theorem dX4_takeDisk_1 : decode cX4_takeDisk 1 = .ok (.getfield 34, 3) := by decide +kernel
theorem dX4_takeDisk_4 : decode cX4_takeDisk 4 = .ok (.ifCond .eq 13, 3) := by decide +kernel
theorem dX4_takeDisk_7 : decode cX4_takeDisk 7 = .ok (.aload_n 0, 1) := by decide +kernel
theorem dX4_takeDisk_8 : decode cX4_takeDisk 8 = .ok (.iconst 3, 1) := by decide +kernel
theorem dX4_takeDisk_9 : decode cX4_takeDisk 9 = .ok (.aload_n 0, 1) := by decide +kernel
theorem dX4_takeDisk_10 : decode cX4_takeDisk 10 = .ok (.getfield 116, 3) := by decide +kernel
theorem dX4_takeDisk_13 : decode cX4_takeDisk 13 = .ok (.invokevirtual 66, 3) := by decide +kernel
theorem dX4_takeDisk_16 : decode cX4_takeDisk 16 = .ok (.ireturn, 1) := by decide +kernel
theorem dX4_takeDisk_17 : decode cX4_takeDisk 17 = .ok (.aload_n 0, 1) := by decide +kernel
theorem dX4_takeDisk_18 : decode cX4_takeDisk 18 = .ok (.iconst 1, 1) := by decide +kernel
theorem dX4_takeDisk_19 : decode cX4_takeDisk 19 = .ok (.putfield 34, 3) := by decide +kernel
theorem dX4_takeDisk_22 : decode cX4_takeDisk 22 = .ok (.aload_n 0, 1) := by decide +kernel
theorem dX4_takeDisk_23 : decode cX4_takeDisk 23 = .ok (.invokevirtual 47, 3) := by decide +kernel
theorem dX4_takeDisk_26 : decode cX4_takeDisk 26 = .ok (.aload_n 0, 1) := by decide +kernel
theorem dX4_takeDisk_27 : decode cX4_takeDisk 27 = .ok (.ldc 122, 2) := by decide +kernel
theorem dX4_takeDisk_29 : decode cX4_takeDisk 29 = .ok (.invokevirtual 124, 3) := by decide +kernel
theorem dX4_takeDisk_32 : decode cX4_takeDisk 32 = .ok (.ifCond .eq 12, 3) := by decide +kernel
theorem dX4_takeDisk_35 : decode cX4_takeDisk 35 = .ok (.aload_n 0, 1) := by decide +kernel
theorem dX4_takeDisk_36 : decode cX4_takeDisk 36 = .ok (.iconst 1, 1) := by decide +kernel
theorem dX4_takeDisk_37 : decode cX4_takeDisk 37 = .ok (.iconst 3, 1) := by decide +kernel
theorem dX4_takeDisk_38 : decode cX4_takeDisk 38 = .ok (.invokevirtual 127, 3) := by decide +kernel
theorem dX4_takeDisk_41 : decode cX4_takeDisk 41 = .ok (.ifCond .ne 5, 3) := by decide +kernel
theorem dX4_takeDisk_44 : decode cX4_takeDisk 44 = .ok (.iconst 0, 1) := by decide +kernel
theorem dX4_takeDisk_45 : decode cX4_takeDisk 45 = .ok (.ireturn, 1) := by decide +kernel
theorem dX4_takeDisk_46 : decode cX4_takeDisk 46 = .ok (.aload_n 0, 1) := by decide +kernel
theorem dX4_takeDisk_47 : decode cX4_takeDisk 47 = .ok (.getfield 15, 3) := by decide +kernel
theorem dX4_takeDisk_50 : decode cX4_takeDisk 50 = .ok (.getfield 57, 3) := by decide +kernel
theorem dX4_takeDisk_53 : decode cX4_takeDisk 53 = .ok (.aload_n 0, 1) := by decide +kernel
theorem dX4_takeDisk_54 : decode cX4_takeDisk 54 = .ok (.getfield 130, 3) := by decide +kernel
theorem dX4_takeDisk_57 : decode cX4_takeDisk 57 = .ok (.putfield 133, 3) := by decide +kernel
theorem dX4_takeDisk_60 : decode cX4_takeDisk 60 = .ok (.aload_n 0, 1) := by decide +kernel
theorem dX4_takeDisk_61 : decode cX4_takeDisk 61 = .ok (.ldc 135, 2) := by decide +kernel
theorem dX4_takeDisk_63 : decode cX4_takeDisk 63 = .ok (.invokevirtual 124, 3) := by decide +kernel
theorem dX4_takeDisk_66 : decode cX4_takeDisk 66 = .ok (.ifCond .eq 13, 3) := by decide +kernel
theorem dX4_takeDisk_69 : decode cX4_takeDisk 69 = .ok (.aload_n 0, 1) := by decide +kernel
theorem dX4_takeDisk_70 : decode cX4_takeDisk 70 = .ok (.iconst 2, 1) := by decide +kernel
theorem dX4_takeDisk_71 : decode cX4_takeDisk 71 = .ok (.bipush 24, 2) := by decide +kernel
theorem dX4_takeDisk_73 : decode cX4_takeDisk 73 = .ok (.invokevirtual 127, 3) := by decide +kernel
theorem dX4_takeDisk_76 : decode cX4_takeDisk 76 = .ok (.ifCond .ne 5, 3) := by decide +kernel
theorem dX4_takeDisk_79 : decode cX4_takeDisk 79 = .ok (.iconst 0, 1) := by decide +kernel
theorem dX4_takeDisk_80 : decode cX4_takeDisk 80 = .ok (.ireturn, 1) := by decide +kernel
theorem dX4_takeDisk_81 : decode cX4_takeDisk 81 = .ok (.aload_n 0, 1) := by decide +kernel
theorem dX4_takeDisk_82 : decode cX4_takeDisk 82 = .ok (.getfield 15, 3) := by decide +kernel
theorem dX4_takeDisk_85 : decode cX4_takeDisk 85 = .ok (.getfield 57, 3) := by decide +kernel
theorem dX4_takeDisk_88 : decode cX4_takeDisk 88 = .ok (.aload_n 0, 1) := by decide +kernel
theorem dX4_takeDisk_89 : decode cX4_takeDisk 89 = .ok (.getfield 130, 3) := by decide +kernel
theorem dX4_takeDisk_92 : decode cX4_takeDisk 92 = .ok (.putfield 137, 3) := by decide +kernel
theorem dX4_takeDisk_95 : decode cX4_takeDisk 95 = .ok (.aload_n 0, 1) := by decide +kernel
theorem dX4_takeDisk_96 : decode cX4_takeDisk 96 = .ok (.getfield 15, 3) := by decide +kernel
theorem dX4_takeDisk_99 : decode cX4_takeDisk 99 = .ok (.getfield 57, 3) := by decide +kernel
theorem dX4_takeDisk_102 : decode cX4_takeDisk 102 = .ok (.aload_n 0, 1) := by decide +kernel
theorem dX4_takeDisk_103 : decode cX4_takeDisk 103 = .ok (.ldc 140, 2) := by decide +kernel
theorem dX4_takeDisk_105 : decode cX4_takeDisk 105 = .ok (.invokevirtual 75, 3) := by decide +kernel
theorem dX4_takeDisk_108 : decode cX4_takeDisk 108 = .ok (.putfield 142, 3) := by decide +kernel
theorem dX4_takeDisk_111 : decode cX4_takeDisk 111 = .ok (.aload_n 0, 1) := by decide +kernel
theorem dX4_takeDisk_112 : decode cX4_takeDisk 112 = .ok (.getfield 15, 3) := by decide +kernel
theorem dX4_takeDisk_115 : decode cX4_takeDisk 115 = .ok (.getfield 57, 3) := by decide +kernel
theorem dX4_takeDisk_118 : decode cX4_takeDisk 118 = .ok (.getfield 142, 3) := by decide +kernel
theorem dX4_takeDisk_121 : decode cX4_takeDisk 121 = .ok (.ifCond .eq 12, 3) := by decide +kernel
theorem dX4_takeDisk_124 : decode cX4_takeDisk 124 = .ok (.aload_n 0, 1) := by decide +kernel
theorem dX4_takeDisk_125 : decode cX4_takeDisk 125 = .ok (.ldc 140, 2) := by decide +kernel
theorem dX4_takeDisk_127 : decode cX4_takeDisk 127 = .ok (.invokevirtual 124, 3) := by decide +kernel
theorem dX4_takeDisk_130 : decode cX4_takeDisk 130 = .ok (.goto 9, 3) := by decide +kernel
theorem dX4_takeDisk_133 : decode cX4_takeDisk 133 = .ok (.aload_n 0, 1) := by decide +kernel
theorem dX4_takeDisk_134 : decode cX4_takeDisk 134 = .ok (.ldc 144, 2) := by decide +kernel
theorem dX4_takeDisk_136 : decode cX4_takeDisk 136 = .ok (.invokevirtual 124, 3) := by decide +kernel
theorem dX4_takeDisk_139 : decode cX4_takeDisk 139 = .ok (.ireturn, 1) := by decide +kernel
theorem dX4_takeBand_0 : decode cX4_takeBand 0 = .ok (.aload_n 0, 1) := by decide +kernel
theorem dX4_takeBand_1 : decode cX4_takeBand 1 = .ok (.aload_n 0, 1) := by decide +kernel
theorem dX4_takeBand_2 : decode cX4_takeBand 2 = .ok (.getfield 15, 3) := by decide +kernel
theorem dX4_takeBand_5 : decode cX4_takeBand 5 = .ok (.getfield 57, 3) := by decide +kernel
theorem dX4_takeBand_8 : decode cX4_takeBand 8 = .ok (.getfield 61, 3) := by decide +kernel
theorem dX4_takeBand_11 : decode cX4_takeBand 11 = .ok (.bipush 6, 2) := by decide +kernel
theorem dX4_takeBand_13 : decode cX4_takeBand 13 = .ok (.if_icmp .ge 7, 3) := by decide +kernel
theorem dX4_takeBand_16 : decode cX4_takeBand 16 = .ok (.iconst 1, 1) := by decide +kernel
theorem dX4_takeBand_17 : decode cX4_takeBand 17 = .ok (.goto 4, 3) := by decide +kernel
theorem dX4_takeBand_20 : decode cX4_takeBand 20 = .ok (.iconst 0, 1) := by decide +kernel
theorem dX4_takeBand_21 : decode cX4_takeBand 21 = .ok (.invokevirtual 146, 3) := by decide +kernel
theorem dX4_takeBand_24 : decode cX4_takeBand 24 = .ok (.ifCond .ne 5, 3) := by decide +kernel
theorem dX4_takeBand_27 : decode cX4_takeBand 27 = .ok (.iconst 0, 1) := by decide +kernel
theorem dX4_takeBand_28 : decode cX4_takeBand 28 = .ok (.ireturn, 1) := by decide +kernel
theorem dX4_takeBand_29 : decode cX4_takeBand 29 = .ok (.aload_n 0, 1) := by decide +kernel
theorem dX4_takeBand_30 : decode cX4_takeBand 30 = .ok (.iconst 2, 1) := by decide +kernel
theorem dX4_takeBand_31 : decode cX4_takeBand 31 = .ok (.bipush 8, 2) := by decide +kernel
theorem dX4_takeBand_33 : decode cX4_takeBand 33 = .ok (.invokevirtual 127, 3) := by decide +kernel
theorem dX4_takeBand_36 : decode cX4_takeBand 36 = .ok (.ifCond .ne 5, 3) := by decide +kernel
theorem dX4_takeBand_39 : decode cX4_takeBand 39 = .ok (.iconst 0, 1) := by decide +kernel
theorem dX4_takeBand_40 : decode cX4_takeBand 40 = .ok (.ireturn, 1) := by decide +kernel
theorem dX4_takeBand_41 : decode cX4_takeBand 41 = .ok (.aload_n 0, 1) := by decide +kernel
theorem dX4_takeBand_42 : decode cX4_takeBand 42 = .ok (.getfield 15, 3) := by decide +kernel
theorem dX4_takeBand_45 : decode cX4_takeBand 45 = .ok (.getfield 57, 3) := by decide +kernel
theorem dX4_takeBand_48 : decode cX4_takeBand 48 = .ok (.aload_n 0, 1) := by decide +kernel
theorem dX4_takeBand_49 : decode cX4_takeBand 49 = .ok (.getfield 130, 3) := by decide +kernel
theorem dX4_takeBand_52 : decode cX4_takeBand 52 = .ok (.invokevirtual 150, 3) := by decide +kernel
theorem dX4_takeBand_55 : decode cX4_takeBand 55 = .ok (.iconst 1, 1) := by decide +kernel
theorem dX4_takeBand_56 : decode cX4_takeBand 56 = .ok (.ireturn, 1) := by decide +kernel
theorem dX4_takePair_0 : decode cX4_takePair 0 = .ok (.aload_n 0, 1) := by decide +kernel
theorem dX4_takePair_1 : decode cX4_takePair 1 = .ok (.aload_n 1, 1) := by decide +kernel
theorem dX4_takePair_2 : decode cX4_takePair 2 = .ok (.invokevirtual 154, 3) := by decide +kernel
theorem dX4_takePair_5 : decode cX4_takePair 5 = .ok (.invokevirtual 146, 3) := by decide +kernel
theorem dX4_takePair_8 : decode cX4_takePair 8 = .ok (.ifCond .ne 5, 3) := by decide +kernel
theorem dX4_takePair_11 : decode cX4_takePair 11 = .ok (.iconst 0, 1) := by decide +kernel
theorem dX4_takePair_12 : decode cX4_takePair 12 = .ok (.ireturn, 1) := by decide +kernel
theorem dX4_takePair_13 : decode cX4_takePair 13 = .ok (.aload_n 0, 1) := by decide +kernel
theorem dX4_takePair_14 : decode cX4_takePair 14 = .ok (.getfield 116, 3) := by decide +kernel
theorem dX4_takePair_17 : decode cX4_takePair 17 = .ok (.istore 4, 2) := by decide +kernel
theorem dX4_takePair_19 : decode cX4_takePair 19 = .ok (.aload_n 0, 1) := by decide +kernel
theorem dX4_takePair_20 : decode cX4_takePair 20 = .ok (.iconst 0, 1) := by decide +kernel
theorem dX4_takePair_21 : decode cX4_takePair 21 = .ok (.sipush 9999, 3) := by decide +kernel
theorem dX4_takePair_24 : decode cX4_takePair 24 = .ok (.invokevirtual 127, 3) := by decide +kernel
theorem dX4_takePair_27 : decode cX4_takePair 27 = .ok (.ifCond .ne 5, 3) := by decide +kernel
theorem dX4_takePair_30 : decode cX4_takePair 30 = .ok (.iconst 0, 1) := by decide +kernel
theorem dX4_takePair_31 : decode cX4_takePair 31 = .ok (.ireturn, 1) := by decide +kernel
theorem dX4_takePair_32 : decode cX4_takePair 32 = .ok (.aload_n 0, 1) := by decide +kernel
theorem dX4_takePair_33 : decode cX4_takePair 33 = .ok (.getfield 130, 3) := by decide +kernel
theorem dX4_takePair_36 : decode cX4_takePair 36 = .ok (.istore 5, 2) := by decide +kernel
theorem dX4_takePair_38 : decode cX4_takePair 38 = .ok (.iload 5, 2) := by decide +kernel
theorem dX4_takePair_40 : decode cX4_takePair 40 = .ok (.iload_n 2, 1) := by decide +kernel
theorem dX4_takePair_41 : decode cX4_takePair 41 = .ok (.if_icmp .lt 11, 3) := by decide +kernel
theorem dX4_takePair_44 : decode cX4_takePair 44 = .ok (.aload_n 0, 1) := by decide +kernel
theorem dX4_takePair_45 : decode cX4_takePair 45 = .ok (.iconst 2, 1) := by decide +kernel
theorem dX4_takePair_46 : decode cX4_takePair 46 = .ok (.iload 4, 2) := by decide +kernel
theorem dX4_takePair_48 : decode cX4_takePair 48 = .ok (.invokevirtual 66, 3) := by decide +kernel
theorem dX4_takePair_51 : decode cX4_takePair 51 = .ok (.ireturn, 1) := by decide +kernel
theorem dX4_takePair_52 : decode cX4_takePair 52 = .ok (.iload_n 3, 1) := by decide +kernel
theorem dX4_takePair_53 : decode cX4_takePair 53 = .ok (.ifCond .eq 20, 3) := by decide +kernel
theorem dX4_takePair_56 : decode cX4_takePair 56 = .ok (.aload_n 1, 1) := by decide +kernel
theorem dX4_takePair_57 : decode cX4_takePair 57 = .ok (.iload 5, 2) := by decide +kernel
theorem dX4_takePair_59 : decode cX4_takePair 59 = .ok (.invokevirtual 157, 3) := by decide +kernel
theorem dX4_takePair_62 : decode cX4_takePair 62 = .ok (.ifCond .eq 11, 3) := by decide +kernel
theorem dX4_takePair_65 : decode cX4_takePair 65 = .ok (.aload_n 0, 1) := by decide +kernel
theorem dX4_takePair_66 : decode cX4_takePair 66 = .ok (.iconst 3, 1) := by decide +kernel
theorem dX4_takePair_67 : decode cX4_takePair 67 = .ok (.iload 4, 2) := by decide +kernel
theorem dX4_takePair_69 : decode cX4_takePair 69 = .ok (.invokevirtual 66, 3) := by decide +kernel
theorem dX4_takePair_72 : decode cX4_takePair 72 = .ok (.ireturn, 1) := by decide +kernel
theorem dX4_takePair_73 : decode cX4_takePair 73 = .ok (.aload_n 0, 1) := by decide +kernel
theorem dX4_takePair_74 : decode cX4_takePair 74 = .ok (.iconst 0, 1) := by decide +kernel
theorem dX4_takePair_75 : decode cX4_takePair 75 = .ok (.sipush 9999, 3) := by decide +kernel
theorem dX4_takePair_78 : decode cX4_takePair 78 = .ok (.invokevirtual 127, 3) := by decide +kernel
theorem dX4_takePair_81 : decode cX4_takePair 81 = .ok (.ifCond .ne 5, 3) := by decide +kernel
theorem dX4_takePair_84 : decode cX4_takePair 84 = .ok (.iconst 0, 1) := by decide +kernel
theorem dX4_takePair_85 : decode cX4_takePair 85 = .ok (.ireturn, 1) := by decide +kernel
theorem dX4_takePair_86 : decode cX4_takePair 86 = .ok (.aload_n 1, 1) := by decide +kernel
theorem dX4_takePair_87 : decode cX4_takePair 87 = .ok (.iload 5, 2) := by decide +kernel
theorem dX4_takePair_89 : decode cX4_takePair 89 = .ok (.aload_n 0, 1) := by decide +kernel
theorem dX4_takePair_90 : decode cX4_takePair 90 = .ok (.getfield 130, 3) := by decide +kernel
theorem dX4_takePair_93 : decode cX4_takePair 93 = .ok (.invokevirtual 161, 3) := by decide +kernel
theorem dX4_takePair_96 : decode cX4_takePair 96 = .ok (.iconst 1, 1) := by decide +kernel
theorem dX4_takePair_97 : decode cX4_takePair 97 = .ok (.ireturn, 1) := by decide +kernel
theorem dX4_takeFirstWord_0 : decode cX4_takeFirstWord 0 = .ok (.aload_n 0, 1) := by decide +kernel
theorem dX4_takeFirstWord_1 : decode cX4_takeFirstWord 1 = .ok (.getfield 34, 3) := by decide +kernel
theorem dX4_takeFirstWord_4 : decode cX4_takeFirstWord 4 = .ok (.ifCond .ne 14, 3) := by decide +kernel
theorem dX4_takeFirstWord_7 : decode cX4_takeFirstWord 7 = .ok (.aload_n 0, 1) := by decide +kernel
theorem dX4_takeFirstWord_8 : decode cX4_takeFirstWord 8 = .ok (.bipush 6, 2) := by decide +kernel
theorem dX4_takeFirstWord_10 : decode cX4_takeFirstWord 10 = .ok (.aload_n 0, 1) := by decide +kernel
theorem dX4_takeFirstWord_11 : decode cX4_takeFirstWord 11 = .ok (.getfield 116, 3) := by decide +kernel
theorem dX4_takeFirstWord_14 : decode cX4_takeFirstWord 14 = .ok (.invokevirtual 66, 3) := by decide +kernel
theorem dX4_takeFirstWord_17 : decode cX4_takeFirstWord 17 = .ok (.ireturn, 1) := by decide +kernel
theorem dX4_takeFirstWord_18 : decode cX4_takeFirstWord 18 = .ok (.iload_n 1, 1) := by decide +kernel
theorem dX4_takeFirstWord_19 : decode cX4_takeFirstWord 19 = .ok (.ifCond .ne 13, 3) := by decide +kernel
theorem dX4_takeFirstWord_22 : decode cX4_takeFirstWord 22 = .ok (.aload_n 0, 1) := by decide +kernel
theorem dX4_takeFirstWord_23 : decode cX4_takeFirstWord 23 = .ok (.iconst 5, 1) := by decide +kernel
theorem dX4_takeFirstWord_24 : decode cX4_takeFirstWord 24 = .ok (.aload_n 0, 1) := by decide +kernel
theorem dX4_takeFirstWord_25 : decode cX4_takeFirstWord 25 = .ok (.getfield 116, 3) := by decide +kernel
theorem dX4_takeFirstWord_28 : decode cX4_takeFirstWord 28 = .ok (.invokevirtual 66, 3) := by decide +kernel
theorem dX4_takeFirstWord_31 : decode cX4_takeFirstWord 31 = .ok (.ireturn, 1) := by decide +kernel
theorem dX4_takeFirstWord_32 : decode cX4_takeFirstWord 32 = .ok (.aload_n 0, 1) := by decide +kernel
theorem dX4_takeFirstWord_33 : decode cX4_takeFirstWord 33 = .ok (.invokevirtual 47, 3) := by decide +kernel
theorem dX4_takeFirstWord_36 : decode cX4_takeFirstWord 36 = .ok (.iconst 1, 1) := by decide +kernel
theorem dX4_takeFirstWord_37 : decode cX4_takeFirstWord 37 = .ok (.ireturn, 1) := by decide +kernel
theorem dX4_takeWord_0 : decode cX4_takeWord 0 = .ok (.aload_n 0, 1) := by decide +kernel
theorem dX4_takeWord_1 : decode cX4_takeWord 1 = .ok (.aload_n 1, 1) := by decide +kernel
theorem dX4_takeWord_2 : decode cX4_takeWord 2 = .ok (.invokevirtual 75, 3) := by decide +kernel
theorem dX4_takeWord_5 : decode cX4_takeWord 5 = .ok (.ifCond .ne 13, 3) := by decide +kernel
theorem dX4_takeWord_8 : decode cX4_takeWord 8 = .ok (.aload_n 0, 1) := by decide +kernel
theorem dX4_takeWord_9 : decode cX4_takeWord 9 = .ok (.iconst 1, 1) := by decide +kernel
theorem dX4_takeWord_10 : decode cX4_takeWord 10 = .ok (.aload_n 0, 1) := by decide +kernel
theorem dX4_takeWord_11 : decode cX4_takeWord 11 = .ok (.getfield 116, 3) := by decide +kernel
theorem dX4_takeWord_14 : decode cX4_takeWord 14 = .ok (.invokevirtual 66, 3) := by decide +kernel
theorem dX4_takeWord_17 : decode cX4_takeWord 17 = .ok (.ireturn, 1) := by decide +kernel
theorem dX4_takeWord_18 : decode cX4_takeWord 18 = .ok (.aload_n 0, 1) := by decide +kernel
theorem dX4_takeWord_19 : decode cX4_takeWord 19 = .ok (.invokevirtual 47, 3) := by decide +kernel
theorem dX4_takeWord_22 : decode cX4_takeWord 22 = .ok (.iconst 1, 1) := by decide +kernel
theorem dX4_takeWord_23 : decode cX4_takeWord 23 = .ok (.ireturn, 1) := by decide +kernel
theorem dX4_takeWhole_0 : decode cX4_takeWhole 0 = .ok (.aload_n 0, 1) := by decide +kernel
theorem dX4_takeWhole_1 : decode cX4_takeWhole 1 = .ok (.getfield 119, 3) := by decide +kernel
theorem dX4_takeWhole_4 : decode cX4_takeWhole 4 = .ok (.iconst 2, 1) := by decide +kernel
theorem dX4_takeWhole_5 : decode cX4_takeWhole 5 = .ok (.if_icmp .eq 13, 3) := by decide +kernel
theorem dX4_takeWhole_8 : decode cX4_takeWhole 8 = .ok (.aload_n 0, 1) := by decide +kernel
theorem dX4_takeWhole_9 : decode cX4_takeWhole 9 = .ok (.iconst 1, 1) := by decide +kernel
theorem dX4_takeWhole_10 : decode cX4_takeWhole 10 = .ok (.aload_n 0, 1) := by decide +kernel
theorem dX4_takeWhole_11 : decode cX4_takeWhole 11 = .ok (.getfield 116, 3) := by decide +kernel
theorem dX4_takeWhole_14 : decode cX4_takeWhole 14 = .ok (.invokevirtual 66, 3) := by decide +kernel
theorem dX4_takeWhole_17 : decode cX4_takeWhole 17 = .ok (.ireturn, 1) := by decide +kernel
theorem dX4_takeWhole_18 : decode cX4_takeWhole 18 = .ok (.aload_n 0, 1) := by decide +kernel
theorem dX4_takeWhole_19 : decode cX4_takeWhole 19 = .ok (.iconst 0, 1) := by decide +kernel
theorem dX4_takeWhole_20 : decode cX4_takeWhole 20 = .ok (.putfield 130, 3) := by decide +kernel
theorem dX4_takeWhole_23 : decode cX4_takeWhole 23 = .ok (.aload_n 0, 1) := by decide +kernel
theorem dX4_takeWhole_24 : decode cX4_takeWhole 24 = .ok (.getfield 116, 3) := by decide +kernel
theorem dX4_takeWhole_27 : decode cX4_takeWhole 27 = .ok (.istore_n 3, 1) := by decide +kernel
theorem dX4_takeWhole_28 : decode cX4_takeWhole 28 = .ok (.iload_n 3, 1) := by decide +kernel
theorem dX4_takeWhole_29 : decode cX4_takeWhole 29 = .ok (.aload_n 0, 1) := by decide +kernel
theorem dX4_takeWhole_30 : decode cX4_takeWhole 30 = .ok (.getfield 38, 3) := by decide +kernel
theorem dX4_takeWhole_33 : decode cX4_takeWhole 33 = .ok (.if_icmp .ge 37, 3) := by decide +kernel
theorem dX4_takeWhole_36 : decode cX4_takeWhole 36 = .ok (.iload_n 3, 1) := by decide +kernel
theorem dX4_takeWhole_37 : decode cX4_takeWhole 37 = .ok (.aload_n 0, 1) := by decide +kernel
theorem dX4_takeWhole_38 : decode cX4_takeWhole 38 = .ok (.getfield 25, 3) := by decide +kernel
theorem dX4_takeWhole_41 : decode cX4_takeWhole 41 = .ok (.if_icmp .ge 29, 3) := by decide +kernel
theorem dX4_takeWhole_44 : decode cX4_takeWhole 44 = .ok (.aload_n 0, 1) := by decide +kernel
theorem dX4_takeWhole_45 : decode cX4_takeWhole 45 = .ok (.bipush 10, 2) := by decide +kernel
theorem dX4_takeWhole_47 : decode cX4_takeWhole 47 = .ok (.aload_n 0, 1) := by decide +kernel
theorem dX4_takeWhole_48 : decode cX4_takeWhole 48 = .ok (.getfield 130, 3) := by decide +kernel
theorem dX4_takeWhole_51 : decode cX4_takeWhole 51 = .ok (.imul, 1) := by decide +kernel
theorem dX4_takeWhole_52 : decode cX4_takeWhole 52 = .ok (.aload_n 0, 1) := by decide +kernel
theorem dX4_takeWhole_53 : decode cX4_takeWhole 53 = .ok (.iload_n 3, 1) := by decide +kernel
theorem dX4_takeWhole_54 : decode cX4_takeWhole 54 = .ok (.invokevirtual 165, 3) := by decide +kernel
theorem dX4_takeWhole_57 : decode cX4_takeWhole 57 = .ok (.iadd, 1) := by decide +kernel
theorem dX4_takeWhole_58 : decode cX4_takeWhole 58 = .ok (.bipush 48, 2) := by decide +kernel
theorem dX4_takeWhole_60 : decode cX4_takeWhole 60 = .ok (.isub, 1) := by decide +kernel
theorem dX4_takeWhole_61 : decode cX4_takeWhole 61 = .ok (.putfield 130, 3) := by decide +kernel
theorem dX4_takeWhole_64 : decode cX4_takeWhole 64 = .ok (.iinc 3 1, 3) := by decide +kernel
theorem dX4_takeWhole_67 : decode cX4_takeWhole 67 = .ok (.goto (-39), 3) := by decide +kernel
theorem dX4_takeWhole_70 : decode cX4_takeWhole 70 = .ok (.aload_n 0, 1) := by decide +kernel
theorem dX4_takeWhole_71 : decode cX4_takeWhole 71 = .ok (.getfield 130, 3) := by decide +kernel
theorem dX4_takeWhole_74 : decode cX4_takeWhole 74 = .ok (.iload_n 1, 1) := by decide +kernel
theorem dX4_takeWhole_75 : decode cX4_takeWhole 75 = .ok (.if_icmp .lt 11, 3) := by decide +kernel
theorem dX4_takeWhole_78 : decode cX4_takeWhole 78 = .ok (.aload_n 0, 1) := by decide +kernel
theorem dX4_takeWhole_79 : decode cX4_takeWhole 79 = .ok (.getfield 130, 3) := by decide +kernel
theorem dX4_takeWhole_82 : decode cX4_takeWhole 82 = .ok (.iload_n 2, 1) := by decide +kernel
theorem dX4_takeWhole_83 : decode cX4_takeWhole 83 = .ok (.if_icmp .le 13, 3) := by decide +kernel
theorem dX4_takeWhole_86 : decode cX4_takeWhole 86 = .ok (.aload_n 0, 1) := by decide +kernel
theorem dX4_takeWhole_87 : decode cX4_takeWhole 87 = .ok (.iconst 4, 1) := by decide +kernel
theorem dX4_takeWhole_88 : decode cX4_takeWhole 88 = .ok (.aload_n 0, 1) := by decide +kernel
theorem dX4_takeWhole_89 : decode cX4_takeWhole 89 = .ok (.getfield 116, 3) := by decide +kernel
theorem dX4_takeWhole_92 : decode cX4_takeWhole 92 = .ok (.invokevirtual 66, 3) := by decide +kernel
theorem dX4_takeWhole_95 : decode cX4_takeWhole 95 = .ok (.ireturn, 1) := by decide +kernel
theorem dX4_takeWhole_96 : decode cX4_takeWhole 96 = .ok (.aload_n 0, 1) := by decide +kernel
theorem dX4_takeWhole_97 : decode cX4_takeWhole 97 = .ok (.invokevirtual 47, 3) := by decide +kernel
theorem dX4_takeWhole_100 : decode cX4_takeWhole 100 = .ok (.iconst 1, 1) := by decide +kernel
theorem dX4_takeWhole_101 : decode cX4_takeWhole 101 = .ok (.ireturn, 1) := by decide +kernel
theorem dX4_isWord_0 : decode cX4_isWord 0 = .ok (.aload_n 0, 1) := by decide +kernel
theorem dX4_isWord_1 : decode cX4_isWord 1 = .ok (.getfield 119, 3) := by decide +kernel
theorem dX4_isWord_4 : decode cX4_isWord 4 = .ok (.iconst 1, 1) := by decide +kernel
theorem dX4_isWord_5 : decode cX4_isWord 5 = .ok (.if_icmp .ne 19, 3) := by decide +kernel
theorem dX4_isWord_8 : decode cX4_isWord 8 = .ok (.aload_n 0, 1) := by decide +kernel
theorem dX4_isWord_9 : decode cX4_isWord 9 = .ok (.getfield 38, 3) := by decide +kernel
theorem dX4_isWord_12 : decode cX4_isWord 12 = .ok (.aload_n 0, 1) := by decide +kernel
theorem dX4_isWord_13 : decode cX4_isWord 13 = .ok (.getfield 116, 3) := by decide +kernel
theorem dX4_isWord_16 : decode cX4_isWord 16 = .ok (.isub, 1) := by decide +kernel
theorem dX4_isWord_17 : decode cX4_isWord 17 = .ok (.aload_n 1, 1) := by decide +kernel
theorem dX4_isWord_18 : decode cX4_isWord 18 = .ok (.invokevirtual 169, 3) := by decide +kernel
theorem dX4_isWord_21 : decode cX4_isWord 21 = .ok (.if_icmp .eq 5, 3) := by decide +kernel
theorem dX4_isWord_24 : decode cX4_isWord 24 = .ok (.iconst 0, 1) := by decide +kernel
theorem dX4_isWord_25 : decode cX4_isWord 25 = .ok (.ireturn, 1) := by decide +kernel
theorem dX4_isWord_26 : decode cX4_isWord 26 = .ok (.iconst 0, 1) := by decide +kernel
theorem dX4_isWord_27 : decode cX4_isWord 27 = .ok (.istore_n 2, 1) := by decide +kernel
theorem dX4_isWord_28 : decode cX4_isWord 28 = .ok (.iload_n 2, 1) := by decide +kernel
theorem dX4_isWord_29 : decode cX4_isWord 29 = .ok (.aload_n 1, 1) := by decide +kernel
theorem dX4_isWord_30 : decode cX4_isWord 30 = .ok (.invokevirtual 169, 3) := by decide +kernel
theorem dX4_isWord_33 : decode cX4_isWord 33 = .ok (.if_icmp .ge 29, 3) := by decide +kernel
theorem dX4_isWord_36 : decode cX4_isWord 36 = .ok (.aload_n 0, 1) := by decide +kernel
theorem dX4_isWord_37 : decode cX4_isWord 37 = .ok (.aload_n 0, 1) := by decide +kernel
theorem dX4_isWord_38 : decode cX4_isWord 38 = .ok (.getfield 116, 3) := by decide +kernel
theorem dX4_isWord_41 : decode cX4_isWord 41 = .ok (.iload_n 2, 1) := by decide +kernel
theorem dX4_isWord_42 : decode cX4_isWord 42 = .ok (.iadd, 1) := by decide +kernel
theorem dX4_isWord_43 : decode cX4_isWord 43 = .ok (.invokevirtual 165, 3) := by decide +kernel
theorem dX4_isWord_46 : decode cX4_isWord 46 = .ok (.aload_n 1, 1) := by decide +kernel
theorem dX4_isWord_47 : decode cX4_isWord 47 = .ok (.iload_n 2, 1) := by decide +kernel
theorem dX4_isWord_48 : decode cX4_isWord 48 = .ok (.invokevirtual 175, 3) := by decide +kernel
theorem dX4_isWord_51 : decode cX4_isWord 51 = .ok (.if_icmp .eq 5, 3) := by decide +kernel
theorem dX4_isWord_54 : decode cX4_isWord 54 = .ok (.iconst 0, 1) := by decide +kernel
theorem dX4_isWord_55 : decode cX4_isWord 55 = .ok (.ireturn, 1) := by decide +kernel
theorem dX4_isWord_56 : decode cX4_isWord 56 = .ok (.iinc 2 1, 3) := by decide +kernel
theorem dX4_isWord_59 : decode cX4_isWord 59 = .ok (.goto (-31), 3) := by decide +kernel
theorem dX4_isWord_62 : decode cX4_isWord 62 = .ok (.iconst 1, 1) := by decide +kernel
theorem dX4_isWord_63 : decode cX4_isWord 63 = .ok (.ireturn, 1) := by decide +kernel
theorem dX4_moveOn_0 : decode cX4_moveOn 0 = .ok (.aload_n 0, 1) := by decide +kernel
theorem dX4_moveOn_1 : decode cX4_moveOn 1 = .ok (.aload_n 0, 1) := by decide +kernel
theorem dX4_moveOn_2 : decode cX4_moveOn 2 = .ok (.aload_n 0, 1) := by decide +kernel
theorem dX4_moveOn_3 : decode cX4_moveOn 3 = .ok (.getfield 38, 3) := by decide +kernel
theorem dX4_moveOn_6 : decode cX4_moveOn 6 = .ok (.bipush 32, 2) := by decide +kernel
theorem dX4_moveOn_8 : decode cX4_moveOn 8 = .ok (.bipush 32, 2) := by decide +kernel
theorem dX4_moveOn_10 : decode cX4_moveOn 10 = .ok (.invokevirtual 179, 3) := by decide +kernel
theorem dX4_moveOn_13 : decode cX4_moveOn 13 = .ok (.putfield 116, 3) := by decide +kernel
theorem dX4_moveOn_16 : decode cX4_moveOn 16 = .ok (.aload_n 0, 1) := by decide +kernel
theorem dX4_moveOn_17 : decode cX4_moveOn 17 = .ok (.aload_n 0, 1) := by decide +kernel
theorem dX4_moveOn_18 : decode cX4_moveOn 18 = .ok (.getfield 116, 3) := by decide +kernel
theorem dX4_moveOn_21 : decode cX4_moveOn 21 = .ok (.invokevirtual 165, 3) := by decide +kernel
theorem dX4_moveOn_24 : decode cX4_moveOn 24 = .ok (.istore_n 1, 1) := by decide +kernel
theorem dX4_moveOn_25 : decode cX4_moveOn 25 = .ok (.aload_n 0, 1) := by decide +kernel
theorem dX4_moveOn_26 : decode cX4_moveOn 26 = .ok (.getfield 116, 3) := by decide +kernel
theorem dX4_moveOn_29 : decode cX4_moveOn 29 = .ok (.aload_n 0, 1) := by decide +kernel
theorem dX4_moveOn_30 : decode cX4_moveOn 30 = .ok (.getfield 25, 3) := by decide +kernel
theorem dX4_moveOn_33 : decode cX4_moveOn 33 = .ok (.if_icmp .lt 19, 3) := by decide +kernel
theorem dX4_moveOn_36 : decode cX4_moveOn 36 = .ok (.aload_n 0, 1) := by decide +kernel
theorem dX4_moveOn_37 : decode cX4_moveOn 37 = .ok (.iconst 0, 1) := by decide +kernel
theorem dX4_moveOn_38 : decode cX4_moveOn 38 = .ok (.putfield 119, 3) := by decide +kernel
theorem dX4_moveOn_41 : decode cX4_moveOn 41 = .ok (.aload_n 0, 1) := by decide +kernel
theorem dX4_moveOn_42 : decode cX4_moveOn 42 = .ok (.aload_n 0, 1) := by decide +kernel
theorem dX4_moveOn_43 : decode cX4_moveOn 43 = .ok (.getfield 25, 3) := by decide +kernel
theorem dX4_moveOn_46 : decode cX4_moveOn 46 = .ok (.putfield 38, 3) := by decide +kernel
theorem dX4_moveOn_49 : decode cX4_moveOn 49 = .ok (.goto 149, 3) := by decide +kernel
theorem dX4_moveOn_52 : decode cX4_moveOn 52 = .ok (.iload_n 1, 1) := by decide +kernel
theorem dX4_moveOn_53 : decode cX4_moveOn 53 = .ok (.bipush 59, 2) := by decide +kernel
theorem dX4_moveOn_55 : decode cX4_moveOn 55 = .ok (.if_icmp .ne 21, 3) := by decide +kernel
theorem dX4_moveOn_58 : decode cX4_moveOn 58 = .ok (.aload_n 0, 1) := by decide +kernel
theorem dX4_moveOn_59 : decode cX4_moveOn 59 = .ok (.iconst 3, 1) := by decide +kernel
theorem dX4_moveOn_60 : decode cX4_moveOn 60 = .ok (.putfield 119, 3) := by decide +kernel
theorem dX4_moveOn_63 : decode cX4_moveOn 63 = .ok (.aload_n 0, 1) := by decide +kernel
theorem dX4_moveOn_64 : decode cX4_moveOn 64 = .ok (.aload_n 0, 1) := by decide +kernel
theorem dX4_moveOn_65 : decode cX4_moveOn 65 = .ok (.getfield 116, 3) := by decide +kernel
theorem dX4_moveOn_68 : decode cX4_moveOn 68 = .ok (.iconst 1, 1) := by decide +kernel
theorem dX4_moveOn_69 : decode cX4_moveOn 69 = .ok (.iadd, 1) := by decide +kernel
theorem dX4_moveOn_70 : decode cX4_moveOn 70 = .ok (.putfield 38, 3) := by decide +kernel
theorem dX4_moveOn_73 : decode cX4_moveOn 73 = .ok (.goto 125, 3) := by decide +kernel
theorem dX4_moveOn_76 : decode cX4_moveOn 76 = .ok (.iload_n 1, 1) := by decide +kernel
theorem dX4_moveOn_77 : decode cX4_moveOn 77 = .ok (.bipush 97, 2) := by decide +kernel
theorem dX4_moveOn_79 : decode cX4_moveOn 79 = .ok (.if_icmp .lt 51, 3) := by decide +kernel
theorem dX4_moveOn_82 : decode cX4_moveOn 82 = .ok (.iload_n 1, 1) := by decide +kernel
theorem dX4_moveOn_83 : decode cX4_moveOn 83 = .ok (.bipush 122, 2) := by decide +kernel
theorem dX4_moveOn_85 : decode cX4_moveOn 85 = .ok (.if_icmp .gt 45, 3) := by decide +kernel
theorem dX4_moveOn_88 : decode cX4_moveOn 88 = .ok (.aload_n 0, 1) := by decide +kernel
theorem dX4_moveOn_89 : decode cX4_moveOn 89 = .ok (.aload_n 0, 1) := by decide +kernel
theorem dX4_moveOn_90 : decode cX4_moveOn 90 = .ok (.aload_n 0, 1) := by decide +kernel
theorem dX4_moveOn_91 : decode cX4_moveOn 91 = .ok (.getfield 116, 3) := by decide +kernel
theorem dX4_moveOn_94 : decode cX4_moveOn 94 = .ok (.bipush 97, 2) := by decide +kernel
theorem dX4_moveOn_96 : decode cX4_moveOn 96 = .ok (.bipush 122, 2) := by decide +kernel
theorem dX4_moveOn_98 : decode cX4_moveOn 98 = .ok (.invokevirtual 179, 3) := by decide +kernel
theorem dX4_moveOn_101 : decode cX4_moveOn 101 = .ok (.putfield 38, 3) := by decide +kernel
theorem dX4_moveOn_104 : decode cX4_moveOn 104 = .ok (.aload_n 0, 1) := by decide +kernel
theorem dX4_moveOn_105 : decode cX4_moveOn 105 = .ok (.aload_n 0, 1) := by decide +kernel
theorem dX4_moveOn_106 : decode cX4_moveOn 106 = .ok (.getfield 38, 3) := by decide +kernel
theorem dX4_moveOn_109 : decode cX4_moveOn 109 = .ok (.aload_n 0, 1) := by decide +kernel
theorem dX4_moveOn_110 : decode cX4_moveOn 110 = .ok (.getfield 116, 3) := by decide +kernel
theorem dX4_moveOn_113 : decode cX4_moveOn 113 = .ok (.isub, 1) := by decide +kernel
theorem dX4_moveOn_114 : decode cX4_moveOn 114 = .ok (.bipush 8, 2) := by decide +kernel
theorem dX4_moveOn_116 : decode cX4_moveOn 116 = .ok (.if_icmp .gt 7, 3) := by decide +kernel
theorem dX4_moveOn_119 : decode cX4_moveOn 119 = .ok (.iconst 1, 1) := by decide +kernel
theorem dX4_moveOn_120 : decode cX4_moveOn 120 = .ok (.goto 4, 3) := by decide +kernel
theorem dX4_moveOn_123 : decode cX4_moveOn 123 = .ok (.iconst 4, 1) := by decide +kernel
theorem dX4_moveOn_124 : decode cX4_moveOn 124 = .ok (.putfield 119, 3) := by decide +kernel
theorem dX4_moveOn_127 : decode cX4_moveOn 127 = .ok (.goto 71, 3) := by decide +kernel
theorem dX4_moveOn_130 : decode cX4_moveOn 130 = .ok (.iload_n 1, 1) := by decide +kernel
theorem dX4_moveOn_131 : decode cX4_moveOn 131 = .ok (.bipush 48, 2) := by decide +kernel
theorem dX4_moveOn_133 : decode cX4_moveOn 133 = .ok (.if_icmp .lt 50, 3) := by decide +kernel
theorem dX4_moveOn_136 : decode cX4_moveOn 136 = .ok (.iload_n 1, 1) := by decide +kernel
theorem dX4_moveOn_137 : decode cX4_moveOn 137 = .ok (.bipush 57, 2) := by decide +kernel
theorem dX4_moveOn_139 : decode cX4_moveOn 139 = .ok (.if_icmp .gt 44, 3) := by decide +kernel
theorem dX4_moveOn_142 : decode cX4_moveOn 142 = .ok (.aload_n 0, 1) := by decide +kernel
theorem dX4_moveOn_143 : decode cX4_moveOn 143 = .ok (.aload_n 0, 1) := by decide +kernel
theorem dX4_moveOn_144 : decode cX4_moveOn 144 = .ok (.aload_n 0, 1) := by decide +kernel
theorem dX4_moveOn_145 : decode cX4_moveOn 145 = .ok (.getfield 116, 3) := by decide +kernel
theorem dX4_moveOn_148 : decode cX4_moveOn 148 = .ok (.bipush 48, 2) := by decide +kernel
theorem dX4_moveOn_150 : decode cX4_moveOn 150 = .ok (.bipush 57, 2) := by decide +kernel
theorem dX4_moveOn_152 : decode cX4_moveOn 152 = .ok (.invokevirtual 179, 3) := by decide +kernel
theorem dX4_moveOn_155 : decode cX4_moveOn 155 = .ok (.putfield 38, 3) := by decide +kernel
theorem dX4_moveOn_158 : decode cX4_moveOn 158 = .ok (.aload_n 0, 1) := by decide +kernel
theorem dX4_moveOn_159 : decode cX4_moveOn 159 = .ok (.aload_n 0, 1) := by decide +kernel
theorem dX4_moveOn_160 : decode cX4_moveOn 160 = .ok (.getfield 38, 3) := by decide +kernel
theorem dX4_moveOn_163 : decode cX4_moveOn 163 = .ok (.aload_n 0, 1) := by decide +kernel
theorem dX4_moveOn_164 : decode cX4_moveOn 164 = .ok (.getfield 116, 3) := by decide +kernel
theorem dX4_moveOn_167 : decode cX4_moveOn 167 = .ok (.isub, 1) := by decide +kernel
theorem dX4_moveOn_168 : decode cX4_moveOn 168 = .ok (.iconst 4, 1) := by decide +kernel
theorem dX4_moveOn_169 : decode cX4_moveOn 169 = .ok (.if_icmp .gt 7, 3) := by decide +kernel
theorem dX4_moveOn_172 : decode cX4_moveOn 172 = .ok (.iconst 2, 1) := by decide +kernel
theorem dX4_moveOn_173 : decode cX4_moveOn 173 = .ok (.goto 4, 3) := by decide +kernel
theorem dX4_moveOn_176 : decode cX4_moveOn 176 = .ok (.iconst 4, 1) := by decide +kernel
theorem dX4_moveOn_177 : decode cX4_moveOn 177 = .ok (.putfield 119, 3) := by decide +kernel
theorem dX4_moveOn_180 : decode cX4_moveOn 180 = .ok (.goto 18, 3) := by decide +kernel
theorem dX4_moveOn_183 : decode cX4_moveOn 183 = .ok (.aload_n 0, 1) := by decide +kernel
theorem dX4_moveOn_184 : decode cX4_moveOn 184 = .ok (.iconst 4, 1) := by decide +kernel
theorem dX4_moveOn_185 : decode cX4_moveOn 185 = .ok (.putfield 119, 3) := by decide +kernel
theorem dX4_moveOn_188 : decode cX4_moveOn 188 = .ok (.aload_n 0, 1) := by decide +kernel
theorem dX4_moveOn_189 : decode cX4_moveOn 189 = .ok (.aload_n 0, 1) := by decide +kernel
theorem dX4_moveOn_190 : decode cX4_moveOn 190 = .ok (.getfield 116, 3) := by decide +kernel
theorem dX4_moveOn_193 : decode cX4_moveOn 193 = .ok (.iconst 1, 1) := by decide +kernel
theorem dX4_moveOn_194 : decode cX4_moveOn 194 = .ok (.iadd, 1) := by decide +kernel
theorem dX4_moveOn_195 : decode cX4_moveOn 195 = .ok (.putfield 38, 3) := by decide +kernel
theorem dX4_moveOn_198 : decode cX4_moveOn 198 = .ok (.return_, 1) := by decide +kernel
theorem dX4_behindRun_0 : decode cX4_behindRun 0 = .ok (.iload_n 1, 1) := by decide +kernel
theorem dX4_behindRun_1 : decode cX4_behindRun 1 = .ok (.istore 4, 2) := by decide +kernel
theorem dX4_behindRun_3 : decode cX4_behindRun 3 = .ok (.iload 4, 2) := by decide +kernel
theorem dX4_behindRun_5 : decode cX4_behindRun 5 = .ok (.aload_n 0, 1) := by decide +kernel
theorem dX4_behindRun_6 : decode cX4_behindRun 6 = .ok (.getfield 25, 3) := by decide +kernel
theorem dX4_behindRun_9 : decode cX4_behindRun 9 = .ok (.if_icmp .ge 29, 3) := by decide +kernel
theorem dX4_behindRun_12 : decode cX4_behindRun 12 = .ok (.aload_n 0, 1) := by decide +kernel
theorem dX4_behindRun_13 : decode cX4_behindRun 13 = .ok (.iload 4, 2) := by decide +kernel
theorem dX4_behindRun_15 : decode cX4_behindRun 15 = .ok (.invokevirtual 165, 3) := by decide +kernel
theorem dX4_behindRun_18 : decode cX4_behindRun 18 = .ok (.iload_n 2, 1) := by decide +kernel
theorem dX4_behindRun_19 : decode cX4_behindRun 19 = .ok (.if_icmp .lt 19, 3) := by decide +kernel
theorem dX4_behindRun_22 : decode cX4_behindRun 22 = .ok (.aload_n 0, 1) := by decide +kernel
theorem dX4_behindRun_23 : decode cX4_behindRun 23 = .ok (.iload 4, 2) := by decide +kernel
theorem dX4_behindRun_25 : decode cX4_behindRun 25 = .ok (.invokevirtual 165, 3) := by decide +kernel
theorem dX4_behindRun_28 : decode cX4_behindRun 28 = .ok (.iload_n 3, 1) := by decide +kernel
theorem dX4_behindRun_29 : decode cX4_behindRun 29 = .ok (.if_icmp .gt 9, 3) := by decide +kernel
theorem dX4_behindRun_32 : decode cX4_behindRun 32 = .ok (.iinc 4 1, 3) := by decide +kernel
theorem dX4_behindRun_35 : decode cX4_behindRun 35 = .ok (.goto (-32), 3) := by decide +kernel
theorem dX4_behindRun_38 : decode cX4_behindRun 38 = .ok (.iload 4, 2) := by decide +kernel
theorem dX4_behindRun_40 : decode cX4_behindRun 40 = .ok (.ireturn, 1) := by decide +kernel
theorem dX4_byteAt_0 : decode cX4_byteAt 0 = .ok (.iload_n 1, 1) := by decide +kernel
theorem dX4_byteAt_1 : decode cX4_byteAt 1 = .ok (.ifCond .lt 29, 3) := by decide +kernel
theorem dX4_byteAt_4 : decode cX4_byteAt 4 = .ok (.iload_n 1, 1) := by decide +kernel
theorem dX4_byteAt_5 : decode cX4_byteAt 5 = .ok (.aload_n 0, 1) := by decide +kernel
theorem dX4_byteAt_6 : decode cX4_byteAt 6 = .ok (.getfield 25, 3) := by decide +kernel
theorem dX4_byteAt_9 : decode cX4_byteAt 9 = .ok (.if_icmp .ge 21, 3) := by decide +kernel
theorem dX4_byteAt_12 : decode cX4_byteAt 12 = .ok (.iload_n 1, 1) := by decide +kernel
theorem dX4_byteAt_13 : decode cX4_byteAt 13 = .ok (.aload_n 0, 1) := by decide +kernel
theorem dX4_byteAt_14 : decode cX4_byteAt 14 = .ok (.getfield 9, 3) := by decide +kernel
theorem dX4_byteAt_17 : decode cX4_byteAt 17 = .ok (.arraylength, 1) := by decide +kernel
theorem dX4_byteAt_18 : decode cX4_byteAt 18 = .ok (.if_icmp .ge 12, 3) := by decide +kernel
theorem dX4_byteAt_21 : decode cX4_byteAt 21 = .ok (.aload_n 0, 1) := by decide +kernel
theorem dX4_byteAt_22 : decode cX4_byteAt 22 = .ok (.getfield 9, 3) := by decide +kernel
theorem dX4_byteAt_25 : decode cX4_byteAt 25 = .ok (.iload_n 1, 1) := by decide +kernel
theorem dX4_byteAt_26 : decode cX4_byteAt 26 = .ok (.baload, 1) := by decide +kernel
theorem dX4_byteAt_27 : decode cX4_byteAt 27 = .ok (.goto 4, 3) := by decide +kernel
theorem dX4_byteAt_30 : decode cX4_byteAt 30 = .ok (.iconst 0, 1) := by decide +kernel
theorem dX4_byteAt_31 : decode cX4_byteAt 31 = .ok (.ireturn, 1) := by decide +kernel
theorem dX5_init_0 : decode cX5_init 0 = .ok (.aload_n 0, 1) := by decide +kernel
theorem dX5_init_1 : decode cX5_init 1 = .ok (.invokespecial 3, 3) := by decide +kernel
theorem dX5_init_4 : decode cX5_init 4 = .ok (.aload_n 0, 1) := by decide +kernel
theorem dX5_init_5 : decode cX5_init 5 = .ok (.bipush 24, 2) := by decide +kernel
theorem dX5_init_7 : decode cX5_init 7 = .ok (.newarray .int, 2) := by decide +kernel
theorem dX5_init_9 : decode cX5_init 9 = .ok (.putfield 9, 3) := by decide +kernel
theorem dX5_init_12 : decode cX5_init 12 = .ok (.aload_n 0, 1) := by decide +kernel
theorem dX5_init_13 : decode cX5_init 13 = .ok (.bipush 24, 2) := by decide +kernel
theorem dX5_init_15 : decode cX5_init 15 = .ok (.newarray .int, 2) := by decide +kernel
theorem dX5_init_17 : decode cX5_init 17 = .ok (.putfield 15, 3) := by decide +kernel
theorem dX5_init_20 : decode cX5_init 20 = .ok (.aload_n 0, 1) := by decide +kernel
theorem dX5_init_21 : decode cX5_init 21 = .ok (.bipush 48, 2) := by decide +kernel
theorem dX5_init_23 : decode cX5_init 23 = .ok (.newarray .int, 2) := by decide +kernel
theorem dX5_init_25 : decode cX5_init 25 = .ok (.putfield 18, 3) := by decide +kernel
theorem dX5_init_28 : decode cX5_init 28 = .ok (.return_, 1) := by decide +kernel
theorem dX5_empty_0 : decode cX5_empty 0 = .ok (.aload_n 0, 1) := by decide +kernel
theorem dX5_empty_1 : decode cX5_empty 1 = .ok (.iconst 0, 1) := by decide +kernel
theorem dX5_empty_2 : decode cX5_empty 2 = .ok (.putfield 21, 3) := by decide +kernel
theorem dX5_empty_5 : decode cX5_empty 5 = .ok (.aload_n 0, 1) := by decide +kernel
theorem dX5_empty_6 : decode cX5_empty 6 = .ok (.iconst 0, 1) := by decide +kernel
theorem dX5_empty_7 : decode cX5_empty 7 = .ok (.putfield 25, 3) := by decide +kernel
theorem dX5_empty_10 : decode cX5_empty 10 = .ok (.aload_n 0, 1) := by decide +kernel
theorem dX5_empty_11 : decode cX5_empty 11 = .ok (.iconst 0, 1) := by decide +kernel
theorem dX5_empty_12 : decode cX5_empty 12 = .ok (.putfield 28, 3) := by decide +kernel
theorem dX5_empty_15 : decode cX5_empty 15 = .ok (.aload_n 0, 1) := by decide +kernel
theorem dX5_empty_16 : decode cX5_empty 16 = .ok (.iconst 0, 1) := by decide +kernel
theorem dX5_empty_17 : decode cX5_empty 17 = .ok (.putfield 31, 3) := by decide +kernel
theorem dX5_empty_20 : decode cX5_empty 20 = .ok (.aload_n 0, 1) := by decide +kernel
theorem dX5_empty_21 : decode cX5_empty 21 = .ok (.iconst 0, 1) := by decide +kernel
theorem dX5_empty_22 : decode cX5_empty 22 = .ok (.putfield 34, 3) := by decide +kernel
theorem dX5_empty_25 : decode cX5_empty 25 = .ok (.return_, 1) := by decide +kernel
theorem dX5_addBand_0 : decode cX5_addBand 0 = .ok (.aload_n 0, 1) := by decide +kernel
theorem dX5_addBand_1 : decode cX5_addBand 1 = .ok (.getfield 21, 3) := by decide +kernel
theorem dX5_addBand_4 : decode cX5_addBand 4 = .ok (.ifCond .lt 27, 3) := by decide +kernel
theorem dX5_addBand_7 : decode cX5_addBand 7 = .ok (.aload_n 0, 1) := by decide +kernel
theorem dX5_addBand_8 : decode cX5_addBand 8 = .ok (.getfield 21, 3) := by decide +kernel
theorem dX5_addBand_11 : decode cX5_addBand 11 = .ok (.aload_n 0, 1) := by decide +kernel
theorem dX5_addBand_12 : decode cX5_addBand 12 = .ok (.getfield 9, 3) := by decide +kernel
theorem dX5_addBand_15 : decode cX5_addBand 15 = .ok (.arraylength, 1) := by decide +kernel
theorem dX5_addBand_16 : decode cX5_addBand 16 = .ok (.if_icmp .ge 15, 3) := by decide +kernel
theorem dX5_addBand_19 : decode cX5_addBand 19 = .ok (.aload_n 0, 1) := by decide +kernel
theorem dX5_addBand_20 : decode cX5_addBand 20 = .ok (.getfield 21, 3) := by decide +kernel
theorem dX5_addBand_23 : decode cX5_addBand 23 = .ok (.aload_n 0, 1) := by decide +kernel
theorem dX5_addBand_24 : decode cX5_addBand 24 = .ok (.getfield 15, 3) := by decide +kernel
theorem dX5_addBand_27 : decode cX5_addBand 27 = .ok (.arraylength, 1) := by decide +kernel
theorem dX5_addBand_28 : decode cX5_addBand 28 = .ok (.if_icmp .lt 4, 3) := by decide +kernel
theorem dX5_addBand_31 : decode cX5_addBand 31 = .ok (.return_, 1) := by decide +kernel
theorem dX5_addBand_32 : decode cX5_addBand 32 = .ok (.aload_n 0, 1) := by decide +kernel
theorem dX5_addBand_33 : decode cX5_addBand 33 = .ok (.getfield 9, 3) := by decide +kernel
theorem dX5_addBand_36 : decode cX5_addBand 36 = .ok (.aload_n 0, 1) := by decide +kernel
theorem dX5_addBand_37 : decode cX5_addBand 37 = .ok (.getfield 21, 3) := by decide +kernel
theorem dX5_addBand_40 : decode cX5_addBand 40 = .ok (.aload_n 0, 1) := by decide +kernel
theorem dX5_addBand_41 : decode cX5_addBand 41 = .ok (.getfield 25, 3) := by decide +kernel
theorem dX5_addBand_44 : decode cX5_addBand 44 = .ok (.iastore, 1) := by decide +kernel
theorem dX5_addBand_45 : decode cX5_addBand 45 = .ok (.aload_n 0, 1) := by decide +kernel
theorem dX5_addBand_46 : decode cX5_addBand 46 = .ok (.getfield 15, 3) := by decide +kernel
theorem dX5_addBand_49 : decode cX5_addBand 49 = .ok (.aload_n 0, 1) := by decide +kernel
theorem dX5_addBand_50 : decode cX5_addBand 50 = .ok (.getfield 21, 3) := by decide +kernel
theorem dX5_addBand_53 : decode cX5_addBand 53 = .ok (.iload_n 1, 1) := by decide +kernel
theorem dX5_addBand_54 : decode cX5_addBand 54 = .ok (.iastore, 1) := by decide +kernel
theorem dX5_addBand_55 : decode cX5_addBand 55 = .ok (.aload_n 0, 1) := by decide +kernel
theorem dX5_addBand_56 : decode cX5_addBand 56 = .ok (.getfield 25, 3) := by decide +kernel
theorem dX5_addBand_59 : decode cX5_addBand 59 = .ok (.istore_n 2, 1) := by decide +kernel
theorem dX5_addBand_60 : decode cX5_addBand 60 = .ok (.iload_n 2, 1) := by decide +kernel
theorem dX5_addBand_61 : decode cX5_addBand 61 = .ok (.ifCond .lt 38, 3) := by decide +kernel
theorem dX5_addBand_64 : decode cX5_addBand 64 = .ok (.iload_n 2, 1) := by decide +kernel
theorem dX5_addBand_65 : decode cX5_addBand 65 = .ok (.aload_n 0, 1) := by decide +kernel
theorem dX5_addBand_66 : decode cX5_addBand 66 = .ok (.getfield 25, 3) := by decide +kernel
theorem dX5_addBand_69 : decode cX5_addBand 69 = .ok (.iload_n 1, 1) := by decide +kernel
theorem dX5_addBand_70 : decode cX5_addBand 70 = .ok (.iadd, 1) := by decide +kernel
theorem dX5_addBand_71 : decode cX5_addBand 71 = .ok (.if_icmp .ge 28, 3) := by decide +kernel
theorem dX5_addBand_74 : decode cX5_addBand 74 = .ok (.iload_n 2, 1) := by decide +kernel
theorem dX5_addBand_75 : decode cX5_addBand 75 = .ok (.aload_n 0, 1) := by decide +kernel
theorem dX5_addBand_76 : decode cX5_addBand 76 = .ok (.getfield 18, 3) := by decide +kernel
theorem dX5_addBand_79 : decode cX5_addBand 79 = .ok (.arraylength, 1) := by decide +kernel
theorem dX5_addBand_80 : decode cX5_addBand 80 = .ok (.if_icmp .ge 19, 3) := by decide +kernel
theorem dX5_addBand_83 : decode cX5_addBand 83 = .ok (.aload_n 0, 1) := by decide +kernel
theorem dX5_addBand_84 : decode cX5_addBand 84 = .ok (.getfield 18, 3) := by decide +kernel
theorem dX5_addBand_87 : decode cX5_addBand 87 = .ok (.iload_n 2, 1) := by decide +kernel
theorem dX5_addBand_88 : decode cX5_addBand 88 = .ok (.aload_n 0, 1) := by decide +kernel
theorem dX5_addBand_89 : decode cX5_addBand 89 = .ok (.getfield 21, 3) := by decide +kernel
theorem dX5_addBand_92 : decode cX5_addBand 92 = .ok (.iastore, 1) := by decide +kernel
theorem dX5_addBand_93 : decode cX5_addBand 93 = .ok (.iinc 2 1, 3) := by decide +kernel
theorem dX5_addBand_96 : decode cX5_addBand 96 = .ok (.goto (-36), 3) := by decide +kernel
theorem dX5_addBand_99 : decode cX5_addBand 99 = .ok (.aload_n 0, 1) := by decide +kernel
theorem dX5_addBand_100 : decode cX5_addBand 100 = .ok (.dup, 1) := by decide +kernel
theorem dX5_addBand_101 : decode cX5_addBand 101 = .ok (.getfield 25, 3) := by decide +kernel
theorem dX5_addBand_104 : decode cX5_addBand 104 = .ok (.iload_n 1, 1) := by decide +kernel
theorem dX5_addBand_105 : decode cX5_addBand 105 = .ok (.iadd, 1) := by decide +kernel
theorem dX5_addBand_106 : decode cX5_addBand 106 = .ok (.putfield 25, 3) := by decide +kernel
theorem dX5_addBand_109 : decode cX5_addBand 109 = .ok (.aload_n 0, 1) := by decide +kernel
theorem dX5_addBand_110 : decode cX5_addBand 110 = .ok (.dup, 1) := by decide +kernel
theorem dX5_addBand_111 : decode cX5_addBand 111 = .ok (.getfield 21, 3) := by decide +kernel
theorem dX5_addBand_114 : decode cX5_addBand 114 = .ok (.iconst 1, 1) := by decide +kernel
theorem dX5_addBand_115 : decode cX5_addBand 115 = .ok (.iadd, 1) := by decide +kernel
theorem dX5_addBand_116 : decode cX5_addBand 116 = .ok (.putfield 21, 3) := by decide +kernel
theorem dX5_addBand_119 : decode cX5_addBand 119 = .ok (.return_, 1) := by decide +kernel
theorem dX5_firstOf_0 : decode cX5_firstOf 0 = .ok (.aload_n 0, 1) := by decide +kernel
theorem dX5_firstOf_1 : decode cX5_firstOf 1 = .ok (.getfield 9, 3) := by decide +kernel
theorem dX5_firstOf_4 : decode cX5_firstOf 4 = .ok (.iload_n 1, 1) := by decide +kernel
theorem dX5_firstOf_5 : decode cX5_firstOf 5 = .ok (.invokestatic 38, 3) := by decide +kernel
theorem dX5_firstOf_8 : decode cX5_firstOf 8 = .ok (.ireturn, 1) := by decide +kernel
theorem dX5_tracksOf_0 : decode cX5_tracksOf 0 = .ok (.aload_n 0, 1) := by decide +kernel
theorem dX5_tracksOf_1 : decode cX5_tracksOf 1 = .ok (.getfield 15, 3) := by decide +kernel
theorem dX5_tracksOf_4 : decode cX5_tracksOf 4 = .ok (.iload_n 1, 1) := by decide +kernel
theorem dX5_tracksOf_5 : decode cX5_tracksOf 5 = .ok (.invokestatic 38, 3) := by decide +kernel
theorem dX5_tracksOf_8 : decode cX5_tracksOf 8 = .ok (.ireturn, 1) := by decide +kernel
theorem dX5_stepsOf_0 : decode cX5_stepsOf 0 = .ok (.iconst 2, 1) := by decide +kernel
theorem dX5_stepsOf_1 : decode cX5_stepsOf 1 = .ok (.aload_n 0, 1) := by decide +kernel
theorem dX5_stepsOf_2 : decode cX5_stepsOf 2 = .ok (.iload_n 1, 1) := by decide +kernel
theorem dX5_stepsOf_3 : decode cX5_stepsOf 3 = .ok (.invokevirtual 42, 3) := by decide +kernel
theorem dX5_stepsOf_6 : decode cX5_stepsOf 6 = .ok (.imul, 1) := by decide +kernel
theorem dX5_stepsOf_7 : decode cX5_stepsOf 7 = .ok (.iconst 2, 1) := by decide +kernel
theorem dX5_stepsOf_8 : decode cX5_stepsOf 8 = .ok (.iadd, 1) := by decide +kernel
theorem dX5_stepsOf_9 : decode cX5_stepsOf 9 = .ok (.ireturn, 1) := by decide +kernel
theorem dX5_bandHolding_0 : decode cX5_bandHolding 0 = .ok (.aload_n 0, 1) := by decide +kernel
theorem dX5_bandHolding_1 : decode cX5_bandHolding 1 = .ok (.getfield 18, 3) := by decide +kernel
theorem dX5_bandHolding_4 : decode cX5_bandHolding 4 = .ok (.iload_n 1, 1) := by decide +kernel
theorem dX5_bandHolding_5 : decode cX5_bandHolding 5 = .ok (.invokestatic 38, 3) := by decide +kernel
theorem dX5_bandHolding_8 : decode cX5_bandHolding 8 = .ok (.ireturn, 1) := by decide +kernel
theorem dX5_becomeBySize_0 : decode cX5_becomeBySize 0 = .ok (.aload_n 0, 1) := by decide +kernel
theorem dX5_becomeBySize_1 : decode cX5_becomeBySize 1 = .ok (.aload_n 1, 1) := by decide +kernel
theorem dX5_becomeBySize_2 : decode cX5_becomeBySize 2 = .ok (.invokevirtual 46, 3) := by decide +kernel
theorem dX5_becomeBySize_5 : decode cX5_becomeBySize 5 = .ok (.iconst 0, 1) := by decide +kernel
theorem dX5_becomeBySize_6 : decode cX5_becomeBySize 6 = .ok (.istore_n 3, 1) := by decide +kernel
theorem dX5_becomeBySize_7 : decode cX5_becomeBySize 7 = .ok (.iload_n 2, 1) := by decide +kernel
theorem dX5_becomeBySize_8 : decode cX5_becomeBySize 8 = .ok (.ifCond .le 32, 3) := by decide +kernel
theorem dX5_becomeBySize_11 : decode cX5_becomeBySize 11 = .ok (.iload_n 3, 1) := by decide +kernel
theorem dX5_becomeBySize_12 : decode cX5_becomeBySize 12 = .ok (.aload_n 1, 1) := by decide +kernel
theorem dX5_becomeBySize_13 : decode cX5_becomeBySize 13 = .ok (.getfield 25, 3) := by decide +kernel
theorem dX5_becomeBySize_16 : decode cX5_becomeBySize 16 = .ok (.if_icmp .ge 24, 3) := by decide +kernel
theorem dX5_becomeBySize_19 : decode cX5_becomeBySize 19 = .ok (.aload_n 0, 1) := by decide +kernel
theorem dX5_becomeBySize_20 : decode cX5_becomeBySize 20 = .ok (.iload_n 2, 1) := by decide +kernel
theorem dX5_becomeBySize_21 : decode cX5_becomeBySize 21 = .ok (.aload_n 1, 1) := by decide +kernel
theorem dX5_becomeBySize_22 : decode cX5_becomeBySize 22 = .ok (.getfield 25, 3) := by decide +kernel
theorem dX5_becomeBySize_25 : decode cX5_becomeBySize 25 = .ok (.iload_n 3, 1) := by decide +kernel
theorem dX5_becomeBySize_26 : decode cX5_becomeBySize 26 = .ok (.isub, 1) := by decide +kernel
theorem dX5_becomeBySize_27 : decode cX5_becomeBySize 27 = .ok (.invokestatic 50, 3) := by decide +kernel
theorem dX5_becomeBySize_30 : decode cX5_becomeBySize 30 = .ok (.invokevirtual 56, 3) := by decide +kernel
theorem dX5_becomeBySize_33 : decode cX5_becomeBySize 33 = .ok (.iload_n 3, 1) := by decide +kernel
theorem dX5_becomeBySize_34 : decode cX5_becomeBySize 34 = .ok (.iload_n 2, 1) := by decide +kernel
theorem dX5_becomeBySize_35 : decode cX5_becomeBySize 35 = .ok (.iadd, 1) := by decide +kernel
theorem dX5_becomeBySize_36 : decode cX5_becomeBySize 36 = .ok (.istore_n 3, 1) := by decide +kernel
theorem dX5_becomeBySize_37 : decode cX5_becomeBySize 37 = .ok (.goto (-30), 3) := by decide +kernel
theorem dX5_becomeBySize_40 : decode cX5_becomeBySize 40 = .ok (.return_, 1) := by decide +kernel
theorem dX5_becomeByLog_0 : decode cX5_becomeByLog 0 = .ok (.aload_n 0, 1) := by decide +kernel
theorem dX5_becomeByLog_1 : decode cX5_becomeByLog 1 = .ok (.aload_n 1, 1) := by decide +kernel
theorem dX5_becomeByLog_2 : decode cX5_becomeByLog 2 = .ok (.invokevirtual 46, 3) := by decide +kernel
theorem dX5_becomeByLog_5 : decode cX5_becomeByLog 5 = .ok (.iconst 0, 1) := by decide +kernel
theorem dX5_becomeByLog_6 : decode cX5_becomeByLog 6 = .ok (.istore_n 3, 1) := by decide +kernel
theorem dX5_becomeByLog_7 : decode cX5_becomeByLog 7 = .ok (.iload_n 3, 1) := by decide +kernel
theorem dX5_becomeByLog_8 : decode cX5_becomeByLog 8 = .ok (.aload_n 1, 1) := by decide +kernel
theorem dX5_becomeByLog_9 : decode cX5_becomeByLog 9 = .ok (.getfield 21, 3) := by decide +kernel
theorem dX5_becomeByLog_12 : decode cX5_becomeByLog 12 = .ok (.if_icmp .ge 18, 3) := by decide +kernel
theorem dX5_becomeByLog_15 : decode cX5_becomeByLog 15 = .ok (.aload_n 0, 1) := by decide +kernel
theorem dX5_becomeByLog_16 : decode cX5_becomeByLog 16 = .ok (.aload_n 1, 1) := by decide +kernel
theorem dX5_becomeByLog_17 : decode cX5_becomeByLog 17 = .ok (.iload_n 3, 1) := by decide +kernel
theorem dX5_becomeByLog_18 : decode cX5_becomeByLog 18 = .ok (.invokevirtual 42, 3) := by decide +kernel
theorem dX5_becomeByLog_21 : decode cX5_becomeByLog 21 = .ok (.invokevirtual 56, 3) := by decide +kernel
theorem dX5_becomeByLog_24 : decode cX5_becomeByLog 24 = .ok (.iinc 3 1, 3) := by decide +kernel
theorem dX5_becomeByLog_27 : decode cX5_becomeByLog 27 = .ok (.goto (-20), 3) := by decide +kernel
theorem dX5_becomeByLog_30 : decode cX5_becomeByLog 30 = .ok (.aload_n 0, 1) := by decide +kernel
theorem dX5_becomeByLog_31 : decode cX5_becomeByLog 31 = .ok (.iload_n 2, 1) := by decide +kernel
theorem dX5_becomeByLog_32 : decode cX5_becomeByLog 32 = .ok (.putfield 31, 3) := by decide +kernel
theorem dX5_becomeByLog_35 : decode cX5_becomeByLog 35 = .ok (.return_, 1) := by decide +kernel
theorem dX5_takeRules_0 : decode cX5_takeRules 0 = .ok (.aload_n 0, 1) := by decide +kernel
theorem dX5_takeRules_1 : decode cX5_takeRules 1 = .ok (.invokevirtual 60, 3) := by decide +kernel
theorem dX5_takeRules_4 : decode cX5_takeRules 4 = .ok (.aload_n 0, 1) := by decide +kernel
theorem dX5_takeRules_5 : decode cX5_takeRules 5 = .ok (.aload_n 1, 1) := by decide +kernel
theorem dX5_takeRules_6 : decode cX5_takeRules 6 = .ok (.getfield 28, 3) := by decide +kernel
theorem dX5_takeRules_9 : decode cX5_takeRules 9 = .ok (.putfield 28, 3) := by decide +kernel
theorem dX5_takeRules_12 : decode cX5_takeRules 12 = .ok (.aload_n 0, 1) := by decide +kernel
theorem dX5_takeRules_13 : decode cX5_takeRules 13 = .ok (.aload_n 1, 1) := by decide +kernel
theorem dX5_takeRules_14 : decode cX5_takeRules 14 = .ok (.getfield 31, 3) := by decide +kernel
theorem dX5_takeRules_17 : decode cX5_takeRules 17 = .ok (.putfield 31, 3) := by decide +kernel
theorem dX5_takeRules_20 : decode cX5_takeRules 20 = .ok (.aload_n 0, 1) := by decide +kernel
theorem dX5_takeRules_21 : decode cX5_takeRules 21 = .ok (.aload_n 1, 1) := by decide +kernel
theorem dX5_takeRules_22 : decode cX5_takeRules 22 = .ok (.getfield 34, 3) := by decide +kernel
theorem dX5_takeRules_25 : decode cX5_takeRules 25 = .ok (.putfield 34, 3) := by decide +kernel
theorem dX5_takeRules_28 : decode cX5_takeRules 28 = .ok (.return_, 1) := by decide +kernel
theorem dX6_init_0 : decode cX6_init 0 = .ok (.aload_n 0, 1) := by decide +kernel
theorem dX6_init_1 : decode cX6_init 1 = .ok (.invokespecial 1, 3) := by decide +kernel
theorem dX6_init_4 : decode cX6_init 4 = .ok (.aload_n 0, 1) := by decide +kernel
theorem dX6_init_5 : decode cX6_init 5 = .ok (.iload_n 1, 1) := by decide +kernel
theorem dX6_init_6 : decode cX6_init 6 = .ok (.iconst 0, 1) := by decide +kernel
theorem dX6_init_7 : decode cX6_init 7 = .ok (.invokestatic 7, 3) := by decide +kernel
theorem dX6_init_10 : decode cX6_init 10 = .ok (.anewarray 13, 3) := by decide +kernel
theorem dX6_init_13 : decode cX6_init 13 = .ok (.putfield 15, 3) := by decide +kernel
theorem dX6_init_16 : decode cX6_init 16 = .ok (.iconst 0, 1) := by decide +kernel
theorem dX6_init_17 : decode cX6_init 17 = .ok (.istore_n 2, 1) := by decide +kernel
theorem dX6_init_18 : decode cX6_init 18 = .ok (.iload_n 2, 1) := by decide +kernel
theorem dX6_init_19 : decode cX6_init 19 = .ok (.aload_n 0, 1) := by decide +kernel
theorem dX6_init_20 : decode cX6_init 20 = .ok (.getfield 15, 3) := by decide +kernel
theorem dX6_init_23 : decode cX6_init 23 = .ok (.arraylength, 1) := by decide +kernel
theorem dX6_init_24 : decode cX6_init 24 = .ok (.if_icmp .ge 22, 3) := by decide +kernel
theorem dX6_init_27 : decode cX6_init 27 = .ok (.aload_n 0, 1) := by decide +kernel
theorem dX6_init_28 : decode cX6_init 28 = .ok (.getfield 15, 3) := by decide +kernel
theorem dX6_init_31 : decode cX6_init 31 = .ok (.iload_n 2, 1) := by decide +kernel
theorem dX6_init_32 : decode cX6_init 32 = .ok (.new 13, 3) := by decide +kernel
theorem dX6_init_35 : decode cX6_init 35 = .ok (.dup, 1) := by decide +kernel
theorem dX6_init_36 : decode cX6_init 36 = .ok (.invokespecial 21, 3) := by decide +kernel
theorem dX6_init_39 : decode cX6_init 39 = .ok (.aastore, 1) := by decide +kernel
theorem dX6_init_40 : decode cX6_init 40 = .ok (.iinc 2 1, 3) := by decide +kernel
theorem dX6_init_43 : decode cX6_init 43 = .ok (.goto (-25), 3) := by decide +kernel
theorem dX6_init_46 : decode cX6_init 46 = .ok (.return_, 1) := by decide +kernel
theorem dX6_copyAt_0 : decode cX6_copyAt 0 = .ok (.iload_n 1, 1) := by decide +kernel
theorem dX6_copyAt_1 : decode cX6_copyAt 1 = .ok (.ifCond .lt 21, 3) := by decide +kernel
theorem dX6_copyAt_4 : decode cX6_copyAt 4 = .ok (.iload_n 1, 1) := by decide +kernel
theorem dX6_copyAt_5 : decode cX6_copyAt 5 = .ok (.aload_n 0, 1) := by decide +kernel
theorem dX6_copyAt_6 : decode cX6_copyAt 6 = .ok (.getfield 15, 3) := by decide +kernel
theorem dX6_copyAt_9 : decode cX6_copyAt 9 = .ok (.arraylength, 1) := by decide +kernel
theorem dX6_copyAt_10 : decode cX6_copyAt 10 = .ok (.if_icmp .ge 12, 3) := by decide +kernel
theorem dX6_copyAt_13 : decode cX6_copyAt 13 = .ok (.aload_n 0, 1) := by decide +kernel
theorem dX6_copyAt_14 : decode cX6_copyAt 14 = .ok (.getfield 15, 3) := by decide +kernel
theorem dX6_copyAt_17 : decode cX6_copyAt 17 = .ok (.iload_n 1, 1) := by decide +kernel
theorem dX6_copyAt_18 : decode cX6_copyAt 18 = .ok (.aaload, 1) := by decide +kernel
theorem dX6_copyAt_19 : decode cX6_copyAt 19 = .ok (.goto 4, 3) := by decide +kernel
theorem dX6_copyAt_22 : decode cX6_copyAt 22 = .ok (.aconst_null, 1) := by decide +kernel
theorem dX6_copyAt_23 : decode cX6_copyAt 23 = .ok (.areturn, 1) := by decide +kernel
theorem dX6_layIn_0 : decode cX6_layIn 0 = .ok (.aload_n 0, 1) := by decide +kernel
theorem dX6_layIn_1 : decode cX6_layIn 1 = .ok (.iload_n 1, 1) := by decide +kernel
theorem dX6_layIn_2 : decode cX6_layIn 2 = .ok (.invokevirtual 22, 3) := by decide +kernel
theorem dX6_layIn_5 : decode cX6_layIn 5 = .ok (.astore_n 3, 1) := by decide +kernel
theorem dX6_layIn_6 : decode cX6_layIn 6 = .ok (.aload_n 3, 1) := by decide +kernel
theorem dX6_layIn_7 : decode cX6_layIn 7 = .ok (.ifnull 8, 3) := by decide +kernel
theorem dX6_layIn_10 : decode cX6_layIn 10 = .ok (.aload_n 3, 1) := by decide +kernel
theorem dX6_layIn_11 : decode cX6_layIn 11 = .ok (.aload_n 2, 1) := by decide +kernel
theorem dX6_layIn_12 : decode cX6_layIn 12 = .ok (.invokevirtual 26, 3) := by decide +kernel
theorem dX6_layIn_15 : decode cX6_layIn 15 = .ok (.return_, 1) := by decide +kernel
theorem dX6_takeOut_0 : decode cX6_takeOut 0 = .ok (.aload_n 0, 1) := by decide +kernel
theorem dX6_takeOut_1 : decode cX6_takeOut 1 = .ok (.iload_n 1, 1) := by decide +kernel
theorem dX6_takeOut_2 : decode cX6_takeOut 2 = .ok (.invokevirtual 22, 3) := by decide +kernel
theorem dX6_takeOut_5 : decode cX6_takeOut 5 = .ok (.astore_n 3, 1) := by decide +kernel
theorem dX6_takeOut_6 : decode cX6_takeOut 6 = .ok (.aload_n 3, 1) := by decide +kernel
theorem dX6_takeOut_7 : decode cX6_takeOut 7 = .ok (.ifnull 8, 3) := by decide +kernel
theorem dX6_takeOut_10 : decode cX6_takeOut 10 = .ok (.aload_n 2, 1) := by decide +kernel
theorem dX6_takeOut_11 : decode cX6_takeOut 11 = .ok (.aload_n 3, 1) := by decide +kernel
theorem dX6_takeOut_12 : decode cX6_takeOut 12 = .ok (.invokevirtual 26, 3) := by decide +kernel
theorem dX6_takeOut_15 : decode cX6_takeOut 15 = .ok (.return_, 1) := by decide +kernel
theorem dX7_init_0 : decode cX7_init 0 = .ok (.aload_n 0, 1) := by decide +kernel
theorem dX7_init_1 : decode cX7_init 1 = .ok (.invokespecial 3, 3) := by decide +kernel
theorem dX7_init_4 : decode cX7_init 4 = .ok (.aload_n 0, 1) := by decide +kernel
theorem dX7_init_5 : decode cX7_init 5 = .ok (.bipush 48, 2) := by decide +kernel
theorem dX7_init_7 : decode cX7_init 7 = .ok (.newarray .int, 2) := by decide +kernel
theorem dX7_init_9 : decode cX7_init 9 = .ok (.putfield 9, 3) := by decide +kernel
theorem dX7_init_12 : decode cX7_init 12 = .ok (.aload_n 0, 1) := by decide +kernel
theorem dX7_init_13 : decode cX7_init 13 = .ok (.bipush 24, 2) := by decide +kernel
theorem dX7_init_15 : decode cX7_init 15 = .ok (.newarray .int, 2) := by decide +kernel
theorem dX7_init_17 : decode cX7_init 17 = .ok (.putfield 15, 3) := by decide +kernel
theorem dX7_init_20 : decode cX7_init 20 = .ok (.aload_n 0, 1) := by decide +kernel
theorem dX7_init_21 : decode cX7_init 21 = .ok (.bipush 24, 2) := by decide +kernel
theorem dX7_init_23 : decode cX7_init 23 = .ok (.newarray .int, 2) := by decide +kernel
theorem dX7_init_25 : decode cX7_init 25 = .ok (.putfield 18, 3) := by decide +kernel
theorem dX7_init_28 : decode cX7_init 28 = .ok (.aload_n 0, 1) := by decide +kernel
theorem dX7_init_29 : decode cX7_init 29 = .ok (.bipush 8, 2) := by decide +kernel
theorem dX7_init_31 : decode cX7_init 31 = .ok (.newarray .int, 2) := by decide +kernel
theorem dX7_init_33 : decode cX7_init 33 = .ok (.putfield 21, 3) := by decide +kernel
theorem dX7_init_36 : decode cX7_init 36 = .ok (.return_, 1) := by decide +kernel
theorem dX7_begin_0 : decode cX7_begin 0 = .ok (.iconst 0, 1) := by decide +kernel
theorem dX7_begin_1 : decode cX7_begin 1 = .ok (.istore_n 2, 1) := by decide +kernel
theorem dX7_begin_2 : decode cX7_begin 2 = .ok (.iload_n 2, 1) := by decide +kernel
theorem dX7_begin_3 : decode cX7_begin 3 = .ok (.aload_n 0, 1) := by decide +kernel
theorem dX7_begin_4 : decode cX7_begin 4 = .ok (.getfield 9, 3) := by decide +kernel
theorem dX7_begin_7 : decode cX7_begin 7 = .ok (.arraylength, 1) := by decide +kernel
theorem dX7_begin_8 : decode cX7_begin 8 = .ok (.if_icmp .ge 16, 3) := by decide +kernel
theorem dX7_begin_11 : decode cX7_begin 11 = .ok (.aload_n 0, 1) := by decide +kernel
theorem dX7_begin_12 : decode cX7_begin 12 = .ok (.getfield 9, 3) := by decide +kernel
theorem dX7_begin_15 : decode cX7_begin 15 = .ok (.iload_n 2, 1) := by decide +kernel
theorem dX7_begin_16 : decode cX7_begin 16 = .ok (.iconst 0, 1) := by decide +kernel
theorem dX7_begin_17 : decode cX7_begin 17 = .ok (.iastore, 1) := by decide +kernel
theorem dX7_begin_18 : decode cX7_begin 18 = .ok (.iinc 2 1, 3) := by decide +kernel
theorem dX7_begin_21 : decode cX7_begin 21 = .ok (.goto (-19), 3) := by decide +kernel
theorem dX7_begin_24 : decode cX7_begin 24 = .ok (.iconst 0, 1) := by decide +kernel
theorem dX7_begin_25 : decode cX7_begin 25 = .ok (.istore_n 2, 1) := by decide +kernel
theorem dX7_begin_26 : decode cX7_begin 26 = .ok (.iload_n 2, 1) := by decide +kernel
theorem dX7_begin_27 : decode cX7_begin 27 = .ok (.aload_n 1, 1) := by decide +kernel
theorem dX7_begin_28 : decode cX7_begin 28 = .ok (.getfield 24, 3) := by decide +kernel
theorem dX7_begin_31 : decode cX7_begin 31 = .ok (.if_icmp .ge 39, 3) := by decide +kernel
theorem dX7_begin_34 : decode cX7_begin 34 = .ok (.aload_n 1, 1) := by decide +kernel
theorem dX7_begin_35 : decode cX7_begin 35 = .ok (.iload_n 2, 1) := by decide +kernel
theorem dX7_begin_36 : decode cX7_begin 36 = .ok (.invokevirtual 30, 3) := by decide +kernel
theorem dX7_begin_39 : decode cX7_begin 39 = .ok (.istore_n 3, 1) := by decide +kernel
theorem dX7_begin_40 : decode cX7_begin 40 = .ok (.iload_n 3, 1) := by decide +kernel
theorem dX7_begin_41 : decode cX7_begin 41 = .ok (.ifCond .lt 23, 3) := by decide +kernel
theorem dX7_begin_44 : decode cX7_begin 44 = .ok (.iload_n 3, 1) := by decide +kernel
theorem dX7_begin_45 : decode cX7_begin 45 = .ok (.aload_n 0, 1) := by decide +kernel
theorem dX7_begin_46 : decode cX7_begin 46 = .ok (.getfield 9, 3) := by decide +kernel
theorem dX7_begin_49 : decode cX7_begin 49 = .ok (.arraylength, 1) := by decide +kernel
theorem dX7_begin_50 : decode cX7_begin 50 = .ok (.if_icmp .ge 14, 3) := by decide +kernel
theorem dX7_begin_53 : decode cX7_begin 53 = .ok (.aload_n 0, 1) := by decide +kernel
theorem dX7_begin_54 : decode cX7_begin 54 = .ok (.getfield 9, 3) := by decide +kernel
theorem dX7_begin_57 : decode cX7_begin 57 = .ok (.iload_n 3, 1) := by decide +kernel
theorem dX7_begin_58 : decode cX7_begin 58 = .ok (.aload_n 1, 1) := by decide +kernel
theorem dX7_begin_59 : decode cX7_begin 59 = .ok (.iload_n 2, 1) := by decide +kernel
theorem dX7_begin_60 : decode cX7_begin 60 = .ok (.invokevirtual 34, 3) := by decide +kernel
theorem dX7_begin_63 : decode cX7_begin 63 = .ok (.iastore, 1) := by decide +kernel
theorem dX7_begin_64 : decode cX7_begin 64 = .ok (.iinc 2 1, 3) := by decide +kernel
theorem dX7_begin_67 : decode cX7_begin 67 = .ok (.goto (-41), 3) := by decide +kernel
theorem dX7_begin_70 : decode cX7_begin 70 = .ok (.aload_n 0, 1) := by decide +kernel
theorem dX7_begin_71 : decode cX7_begin 71 = .ok (.iconst 0, 1) := by decide +kernel
theorem dX7_begin_72 : decode cX7_begin 72 = .ok (.putfield 37, 3) := by decide +kernel
theorem dX7_begin_75 : decode cX7_begin 75 = .ok (.aload_n 0, 1) := by decide +kernel
theorem dX7_begin_76 : decode cX7_begin 76 = .ok (.invokevirtual 40, 3) := by decide +kernel
theorem dX7_begin_79 : decode cX7_begin 79 = .ok (.aload_n 0, 1) := by decide +kernel
theorem dX7_begin_80 : decode cX7_begin 80 = .ok (.iconst 0, 1) := by decide +kernel
theorem dX7_begin_81 : decode cX7_begin 81 = .ok (.putfield 43, 3) := by decide +kernel
theorem dX7_begin_84 : decode cX7_begin 84 = .ok (.aload_n 0, 1) := by decide +kernel
theorem dX7_begin_85 : decode cX7_begin 85 = .ok (.iconst 0, 1) := by decide +kernel
theorem dX7_begin_86 : decode cX7_begin 86 = .ok (.putfield 47, 3) := by decide +kernel
theorem dX7_begin_89 : decode cX7_begin 89 = .ok (.aload_n 0, 1) := by decide +kernel
theorem dX7_begin_90 : decode cX7_begin 90 = .ok (.iconst 0, 1) := by decide +kernel
theorem dX7_begin_91 : decode cX7_begin 91 = .ok (.putfield 50, 3) := by decide +kernel
theorem dX7_begin_94 : decode cX7_begin 94 = .ok (.return_, 1) := by decide +kernel
theorem dX7_copyFrom_0 : decode cX7_copyFrom 0 = .ok (.aload_n 1, 1) := by decide +kernel
theorem dX7_copyFrom_1 : decode cX7_copyFrom 1 = .ok (.getfield 9, 3) := by decide +kernel
theorem dX7_copyFrom_4 : decode cX7_copyFrom 4 = .ok (.iconst 0, 1) := by decide +kernel
theorem dX7_copyFrom_5 : decode cX7_copyFrom 5 = .ok (.aload_n 0, 1) := by decide +kernel
theorem dX7_copyFrom_6 : decode cX7_copyFrom 6 = .ok (.getfield 9, 3) := by decide +kernel
theorem dX7_copyFrom_9 : decode cX7_copyFrom 9 = .ok (.iconst 0, 1) := by decide +kernel
theorem dX7_copyFrom_10 : decode cX7_copyFrom 10 = .ok (.bipush 48, 2) := by decide +kernel
theorem dX7_copyFrom_12 : decode cX7_copyFrom 12 = .ok (.invokestatic 53, 3) := by decide +kernel
theorem dX7_copyFrom_15 : decode cX7_copyFrom 15 = .ok (.aload_n 1, 1) := by decide +kernel
theorem dX7_copyFrom_16 : decode cX7_copyFrom 16 = .ok (.getfield 15, 3) := by decide +kernel
theorem dX7_copyFrom_19 : decode cX7_copyFrom 19 = .ok (.iconst 0, 1) := by decide +kernel
theorem dX7_copyFrom_20 : decode cX7_copyFrom 20 = .ok (.aload_n 0, 1) := by decide +kernel
theorem dX7_copyFrom_21 : decode cX7_copyFrom 21 = .ok (.getfield 15, 3) := by decide +kernel
theorem dX7_copyFrom_24 : decode cX7_copyFrom 24 = .ok (.iconst 0, 1) := by decide +kernel
theorem dX7_copyFrom_25 : decode cX7_copyFrom 25 = .ok (.bipush 24, 2) := by decide +kernel
theorem dX7_copyFrom_27 : decode cX7_copyFrom 27 = .ok (.invokestatic 53, 3) := by decide +kernel
theorem dX7_copyFrom_30 : decode cX7_copyFrom 30 = .ok (.aload_n 1, 1) := by decide +kernel
theorem dX7_copyFrom_31 : decode cX7_copyFrom 31 = .ok (.getfield 18, 3) := by decide +kernel
theorem dX7_copyFrom_34 : decode cX7_copyFrom 34 = .ok (.iconst 0, 1) := by decide +kernel
theorem dX7_copyFrom_35 : decode cX7_copyFrom 35 = .ok (.aload_n 0, 1) := by decide +kernel
theorem dX7_copyFrom_36 : decode cX7_copyFrom 36 = .ok (.getfield 18, 3) := by decide +kernel
theorem dX7_copyFrom_39 : decode cX7_copyFrom 39 = .ok (.iconst 0, 1) := by decide +kernel
theorem dX7_copyFrom_40 : decode cX7_copyFrom 40 = .ok (.bipush 24, 2) := by decide +kernel
theorem dX7_copyFrom_42 : decode cX7_copyFrom 42 = .ok (.invokestatic 53, 3) := by decide +kernel
theorem dX7_copyFrom_45 : decode cX7_copyFrom 45 = .ok (.aload_n 1, 1) := by decide +kernel
theorem dX7_copyFrom_46 : decode cX7_copyFrom 46 = .ok (.getfield 21, 3) := by decide +kernel
theorem dX7_copyFrom_49 : decode cX7_copyFrom 49 = .ok (.iconst 0, 1) := by decide +kernel
theorem dX7_copyFrom_50 : decode cX7_copyFrom 50 = .ok (.aload_n 0, 1) := by decide +kernel
theorem dX7_copyFrom_51 : decode cX7_copyFrom 51 = .ok (.getfield 21, 3) := by decide +kernel
theorem dX7_copyFrom_54 : decode cX7_copyFrom 54 = .ok (.iconst 0, 1) := by decide +kernel
theorem dX7_copyFrom_55 : decode cX7_copyFrom 55 = .ok (.bipush 8, 2) := by decide +kernel
theorem dX7_copyFrom_57 : decode cX7_copyFrom 57 = .ok (.invokestatic 53, 3) := by decide +kernel
theorem dX7_copyFrom_60 : decode cX7_copyFrom 60 = .ok (.aload_n 0, 1) := by decide +kernel
theorem dX7_copyFrom_61 : decode cX7_copyFrom 61 = .ok (.aload_n 1, 1) := by decide +kernel
theorem dX7_copyFrom_62 : decode cX7_copyFrom 62 = .ok (.getfield 37, 3) := by decide +kernel
theorem dX7_copyFrom_65 : decode cX7_copyFrom 65 = .ok (.putfield 37, 3) := by decide +kernel
theorem dX7_copyFrom_68 : decode cX7_copyFrom 68 = .ok (.aload_n 0, 1) := by decide +kernel
theorem dX7_copyFrom_69 : decode cX7_copyFrom 69 = .ok (.aload_n 1, 1) := by decide +kernel
theorem dX7_copyFrom_70 : decode cX7_copyFrom 70 = .ok (.getfield 59, 3) := by decide +kernel
theorem dX7_copyFrom_73 : decode cX7_copyFrom 73 = .ok (.putfield 59, 3) := by decide +kernel
theorem dX7_copyFrom_76 : decode cX7_copyFrom 76 = .ok (.aload_n 0, 1) := by decide +kernel
theorem dX7_copyFrom_77 : decode cX7_copyFrom 77 = .ok (.aload_n 1, 1) := by decide +kernel
theorem dX7_copyFrom_78 : decode cX7_copyFrom 78 = .ok (.getfield 62, 3) := by decide +kernel
theorem dX7_copyFrom_81 : decode cX7_copyFrom 81 = .ok (.putfield 62, 3) := by decide +kernel
theorem dX7_copyFrom_84 : decode cX7_copyFrom 84 = .ok (.aload_n 0, 1) := by decide +kernel
theorem dX7_copyFrom_85 : decode cX7_copyFrom 85 = .ok (.aload_n 1, 1) := by decide +kernel
theorem dX7_copyFrom_86 : decode cX7_copyFrom 86 = .ok (.getfield 65, 3) := by decide +kernel
theorem dX7_copyFrom_89 : decode cX7_copyFrom 89 = .ok (.putfield 65, 3) := by decide +kernel
theorem dX7_copyFrom_92 : decode cX7_copyFrom 92 = .ok (.aload_n 0, 1) := by decide +kernel
theorem dX7_copyFrom_93 : decode cX7_copyFrom 93 = .ok (.aload_n 1, 1) := by decide +kernel
theorem dX7_copyFrom_94 : decode cX7_copyFrom 94 = .ok (.getfield 43, 3) := by decide +kernel
theorem dX7_copyFrom_97 : decode cX7_copyFrom 97 = .ok (.putfield 43, 3) := by decide +kernel
theorem dX7_copyFrom_100 : decode cX7_copyFrom 100 = .ok (.aload_n 0, 1) := by decide +kernel
theorem dX7_copyFrom_101 : decode cX7_copyFrom 101 = .ok (.aload_n 1, 1) := by decide +kernel
theorem dX7_copyFrom_102 : decode cX7_copyFrom 102 = .ok (.getfield 47, 3) := by decide +kernel
theorem dX7_copyFrom_105 : decode cX7_copyFrom 105 = .ok (.putfield 47, 3) := by decide +kernel
theorem dX7_copyFrom_108 : decode cX7_copyFrom 108 = .ok (.aload_n 0, 1) := by decide +kernel
theorem dX7_copyFrom_109 : decode cX7_copyFrom 109 = .ok (.aload_n 1, 1) := by decide +kernel
theorem dX7_copyFrom_110 : decode cX7_copyFrom 110 = .ok (.getfield 50, 3) := by decide +kernel
theorem dX7_copyFrom_113 : decode cX7_copyFrom 113 = .ok (.putfield 50, 3) := by decide +kernel
theorem dX7_copyFrom_116 : decode cX7_copyFrom 116 = .ok (.return_, 1) := by decide +kernel
theorem dX7_livePlaceOf_0 : decode cX7_livePlaceOf 0 = .ok (.aload_n 0, 1) := by decide +kernel
theorem dX7_livePlaceOf_1 : decode cX7_livePlaceOf 1 = .ok (.getfield 37, 3) := by decide +kernel
theorem dX7_livePlaceOf_4 : decode cX7_livePlaceOf 4 = .ok (.aload_n 0, 1) := by decide +kernel
theorem dX7_livePlaceOf_5 : decode cX7_livePlaceOf 5 = .ok (.getfield 15, 3) := by decide +kernel
theorem dX7_livePlaceOf_8 : decode cX7_livePlaceOf 8 = .ok (.arraylength, 1) := by decide +kernel
theorem dX7_livePlaceOf_9 : decode cX7_livePlaceOf 9 = .ok (.invokestatic 68, 3) := by decide +kernel
theorem dX7_livePlaceOf_12 : decode cX7_livePlaceOf 12 = .ok (.iconst 1, 1) := by decide +kernel
theorem dX7_livePlaceOf_13 : decode cX7_livePlaceOf 13 = .ok (.isub, 1) := by decide +kernel
theorem dX7_livePlaceOf_14 : decode cX7_livePlaceOf 14 = .ok (.istore_n 2, 1) := by decide +kernel
theorem dX7_livePlaceOf_15 : decode cX7_livePlaceOf 15 = .ok (.iload_n 2, 1) := by decide +kernel
theorem dX7_livePlaceOf_16 : decode cX7_livePlaceOf 16 = .ok (.ifCond .lt 21, 3) := by decide +kernel
theorem dX7_livePlaceOf_19 : decode cX7_livePlaceOf 19 = .ok (.aload_n 0, 1) := by decide +kernel
theorem dX7_livePlaceOf_20 : decode cX7_livePlaceOf 20 = .ok (.getfield 15, 3) := by decide +kernel
theorem dX7_livePlaceOf_23 : decode cX7_livePlaceOf 23 = .ok (.iload_n 2, 1) := by decide +kernel
theorem dX7_livePlaceOf_24 : decode cX7_livePlaceOf 24 = .ok (.iaload, 1) := by decide +kernel
theorem dX7_livePlaceOf_25 : decode cX7_livePlaceOf 25 = .ok (.iload_n 1, 1) := by decide +kernel
theorem dX7_livePlaceOf_26 : decode cX7_livePlaceOf 26 = .ok (.if_icmp .ne 5, 3) := by decide +kernel
theorem dX7_livePlaceOf_29 : decode cX7_livePlaceOf 29 = .ok (.iload_n 2, 1) := by decide +kernel
theorem dX7_livePlaceOf_30 : decode cX7_livePlaceOf 30 = .ok (.ireturn, 1) := by decide +kernel
theorem dX7_livePlaceOf_31 : decode cX7_livePlaceOf 31 = .ok (.iinc 2 (-1), 3) := by decide +kernel
theorem dX7_livePlaceOf_34 : decode cX7_livePlaceOf 34 = .ok (.goto (-19), 3) := by decide +kernel
theorem dX7_livePlaceOf_37 : decode cX7_livePlaceOf 37 = .ok (.iconst (-1), 1) := by decide +kernel
theorem dX7_livePlaceOf_38 : decode cX7_livePlaceOf 38 = .ok (.ireturn, 1) := by decide +kernel
theorem dX7_isLive_0 : decode cX7_isLive 0 = .ok (.aload_n 0, 1) := by decide +kernel
theorem dX7_isLive_1 : decode cX7_isLive 1 = .ok (.aload_n 0, 1) := by decide +kernel
theorem dX7_isLive_2 : decode cX7_isLive 2 = .ok (.getfield 15, 3) := by decide +kernel
theorem dX7_isLive_5 : decode cX7_isLive 5 = .ok (.iload_n 1, 1) := by decide +kernel
theorem dX7_isLive_6 : decode cX7_isLive 6 = .ok (.invokestatic 74, 3) := by decide +kernel
theorem dX7_isLive_9 : decode cX7_isLive 9 = .ok (.invokevirtual 78, 3) := by decide +kernel
theorem dX7_isLive_12 : decode cX7_isLive 12 = .ok (.iload_n 1, 1) := by decide +kernel
theorem dX7_isLive_13 : decode cX7_isLive 13 = .ok (.if_icmp .ne 7, 3) := by decide +kernel
theorem dX7_isLive_16 : decode cX7_isLive 16 = .ok (.iconst 1, 1) := by decide +kernel
theorem dX7_isLive_17 : decode cX7_isLive 17 = .ok (.goto 4, 3) := by decide +kernel
theorem dX7_isLive_20 : decode cX7_isLive 20 = .ok (.iconst 0, 1) := by decide +kernel
theorem dX7_isLive_21 : decode cX7_isLive 21 = .ok (.ireturn, 1) := by decide +kernel
theorem dX7_valueOf_0 : decode cX7_valueOf 0 = .ok (.aload_n 0, 1) := by decide +kernel
theorem dX7_valueOf_1 : decode cX7_valueOf 1 = .ok (.iload_n 1, 1) := by decide +kernel
theorem dX7_valueOf_2 : decode cX7_valueOf 2 = .ok (.invokevirtual 78, 3) := by decide +kernel
theorem dX7_valueOf_5 : decode cX7_valueOf 5 = .ok (.istore_n 2, 1) := by decide +kernel
theorem dX7_valueOf_6 : decode cX7_valueOf 6 = .ok (.iload_n 2, 1) := by decide +kernel
theorem dX7_valueOf_7 : decode cX7_valueOf 7 = .ok (.ifCond .lt 14, 3) := by decide +kernel
theorem dX7_valueOf_10 : decode cX7_valueOf 10 = .ok (.aload_n 0, 1) := by decide +kernel
theorem dX7_valueOf_11 : decode cX7_valueOf 11 = .ok (.getfield 18, 3) := by decide +kernel
theorem dX7_valueOf_14 : decode cX7_valueOf 14 = .ok (.iload_n 2, 1) := by decide +kernel
theorem dX7_valueOf_15 : decode cX7_valueOf 15 = .ok (.invokestatic 74, 3) := by decide +kernel
theorem dX7_valueOf_18 : decode cX7_valueOf 18 = .ok (.goto 11, 3) := by decide +kernel
theorem dX7_valueOf_21 : decode cX7_valueOf 21 = .ok (.aload_n 0, 1) := by decide +kernel
theorem dX7_valueOf_22 : decode cX7_valueOf 22 = .ok (.getfield 9, 3) := by decide +kernel
theorem dX7_valueOf_25 : decode cX7_valueOf 25 = .ok (.iload_n 1, 1) := by decide +kernel
theorem dX7_valueOf_26 : decode cX7_valueOf 26 = .ok (.invokestatic 74, 3) := by decide +kernel
theorem dX7_valueOf_29 : decode cX7_valueOf 29 = .ok (.ireturn, 1) := by decide +kernel
theorem dX7_entriesOf_0 : decode cX7_entriesOf 0 = .ok (.iconst 0, 1) := by decide +kernel
theorem dX7_entriesOf_1 : decode cX7_entriesOf 1 = .ok (.istore_n 3, 1) := by decide +kernel
theorem dX7_entriesOf_2 : decode cX7_entriesOf 2 = .ok (.iconst 0, 1) := by decide +kernel
theorem dX7_entriesOf_3 : decode cX7_entriesOf 3 = .ok (.istore 4, 2) := by decide +kernel
theorem dX7_entriesOf_5 : decode cX7_entriesOf 5 = .ok (.iload 4, 2) := by decide +kernel
theorem dX7_entriesOf_7 : decode cX7_entriesOf 7 = .ok (.aload_n 0, 1) := by decide +kernel
theorem dX7_entriesOf_8 : decode cX7_entriesOf 8 = .ok (.getfield 37, 3) := by decide +kernel
theorem dX7_entriesOf_11 : decode cX7_entriesOf 11 = .ok (.if_icmp .ge 29, 3) := by decide +kernel
theorem dX7_entriesOf_14 : decode cX7_entriesOf 14 = .ok (.aload_n 1, 1) := by decide +kernel
theorem dX7_entriesOf_15 : decode cX7_entriesOf 15 = .ok (.aload_n 0, 1) := by decide +kernel
theorem dX7_entriesOf_16 : decode cX7_entriesOf 16 = .ok (.getfield 15, 3) := by decide +kernel
theorem dX7_entriesOf_19 : decode cX7_entriesOf 19 = .ok (.iload 4, 2) := by decide +kernel
theorem dX7_entriesOf_21 : decode cX7_entriesOf 21 = .ok (.invokestatic 74, 3) := by decide +kernel
theorem dX7_entriesOf_24 : decode cX7_entriesOf 24 = .ok (.invokevirtual 81, 3) := by decide +kernel
theorem dX7_entriesOf_27 : decode cX7_entriesOf 27 = .ok (.iload_n 2, 1) := by decide +kernel
theorem dX7_entriesOf_28 : decode cX7_entriesOf 28 = .ok (.if_icmp .ne 6, 3) := by decide +kernel
theorem dX7_entriesOf_31 : decode cX7_entriesOf 31 = .ok (.iinc 3 1, 3) := by decide +kernel
theorem dX7_entriesOf_34 : decode cX7_entriesOf 34 = .ok (.iinc 4 1, 3) := by decide +kernel
theorem dX7_entriesOf_37 : decode cX7_entriesOf 37 = .ok (.goto (-32), 3) := by decide +kernel
theorem dX7_entriesOf_40 : decode cX7_entriesOf 40 = .ok (.iload_n 3, 1) := by decide +kernel
theorem dX7_entriesOf_41 : decode cX7_entriesOf 41 = .ok (.ireturn, 1) := by decide +kernel
theorem dX7_liveEntriesOf_0 : decode cX7_liveEntriesOf 0 = .ok (.iconst 0, 1) := by decide +kernel
theorem dX7_liveEntriesOf_1 : decode cX7_liveEntriesOf 1 = .ok (.istore_n 3, 1) := by decide +kernel
theorem dX7_liveEntriesOf_2 : decode cX7_liveEntriesOf 2 = .ok (.iconst 0, 1) := by decide +kernel
theorem dX7_liveEntriesOf_3 : decode cX7_liveEntriesOf 3 = .ok (.istore 4, 2) := by decide +kernel
theorem dX7_liveEntriesOf_5 : decode cX7_liveEntriesOf 5 = .ok (.iload 4, 2) := by decide +kernel
theorem dX7_liveEntriesOf_7 : decode cX7_liveEntriesOf 7 = .ok (.aload_n 0, 1) := by decide +kernel
theorem dX7_liveEntriesOf_8 : decode cX7_liveEntriesOf 8 = .ok (.getfield 37, 3) := by decide +kernel
theorem dX7_liveEntriesOf_11 : decode cX7_liveEntriesOf 11 = .ok (.if_icmp .ge 38, 3) := by decide +kernel
theorem dX7_liveEntriesOf_14 : decode cX7_liveEntriesOf 14 = .ok (.aload_n 1, 1) := by decide +kernel
theorem dX7_liveEntriesOf_15 : decode cX7_liveEntriesOf 15 = .ok (.aload_n 0, 1) := by decide +kernel
theorem dX7_liveEntriesOf_16 : decode cX7_liveEntriesOf 16 = .ok (.getfield 15, 3) := by decide +kernel
theorem dX7_liveEntriesOf_19 : decode cX7_liveEntriesOf 19 = .ok (.iload 4, 2) := by decide +kernel
theorem dX7_liveEntriesOf_21 : decode cX7_liveEntriesOf 21 = .ok (.invokestatic 74, 3) := by decide +kernel
theorem dX7_liveEntriesOf_24 : decode cX7_liveEntriesOf 24 = .ok (.invokevirtual 81, 3) := by decide +kernel
theorem dX7_liveEntriesOf_27 : decode cX7_liveEntriesOf 27 = .ok (.iload_n 2, 1) := by decide +kernel
theorem dX7_liveEntriesOf_28 : decode cX7_liveEntriesOf 28 = .ok (.if_icmp .ne 15, 3) := by decide +kernel
theorem dX7_liveEntriesOf_31 : decode cX7_liveEntriesOf 31 = .ok (.aload_n 0, 1) := by decide +kernel
theorem dX7_liveEntriesOf_32 : decode cX7_liveEntriesOf 32 = .ok (.iload 4, 2) := by decide +kernel
theorem dX7_liveEntriesOf_34 : decode cX7_liveEntriesOf 34 = .ok (.invokevirtual 86, 3) := by decide +kernel
theorem dX7_liveEntriesOf_37 : decode cX7_liveEntriesOf 37 = .ok (.ifCond .eq 6, 3) := by decide +kernel
theorem dX7_liveEntriesOf_40 : decode cX7_liveEntriesOf 40 = .ok (.iinc 3 1, 3) := by decide +kernel
theorem dX7_liveEntriesOf_43 : decode cX7_liveEntriesOf 43 = .ok (.iinc 4 1, 3) := by decide +kernel
theorem dX7_liveEntriesOf_46 : decode cX7_liveEntriesOf 46 = .ok (.goto (-41), 3) := by decide +kernel
theorem dX7_liveEntriesOf_49 : decode cX7_liveEntriesOf 49 = .ok (.iload_n 3, 1) := by decide +kernel
theorem dX7_liveEntriesOf_50 : decode cX7_liveEntriesOf 50 = .ok (.ireturn, 1) := by decide +kernel
theorem dX7_damagedOf_0 : decode cX7_damagedOf 0 = .ok (.iconst 0, 1) := by decide +kernel
theorem dX7_damagedOf_1 : decode cX7_damagedOf 1 = .ok (.istore_n 3, 1) := by decide +kernel
theorem dX7_damagedOf_2 : decode cX7_damagedOf 2 = .ok (.iconst 0, 1) := by decide +kernel
theorem dX7_damagedOf_3 : decode cX7_damagedOf 3 = .ok (.istore 4, 2) := by decide +kernel
theorem dX7_damagedOf_5 : decode cX7_damagedOf 5 = .ok (.iload 4, 2) := by decide +kernel
theorem dX7_damagedOf_7 : decode cX7_damagedOf 7 = .ok (.aload_n 1, 1) := by decide +kernel
theorem dX7_damagedOf_8 : decode cX7_damagedOf 8 = .ok (.iload_n 2, 1) := by decide +kernel
theorem dX7_damagedOf_9 : decode cX7_damagedOf 9 = .ok (.invokevirtual 90, 3) := by decide +kernel
theorem dX7_damagedOf_12 : decode cX7_damagedOf 12 = .ok (.if_icmp .ge 32, 3) := by decide +kernel
theorem dX7_damagedOf_15 : decode cX7_damagedOf 15 = .ok (.aload_n 0, 1) := by decide +kernel
theorem dX7_damagedOf_16 : decode cX7_damagedOf 16 = .ok (.getfield 9, 3) := by decide +kernel
theorem dX7_damagedOf_19 : decode cX7_damagedOf 19 = .ok (.aload_n 1, 1) := by decide +kernel
theorem dX7_damagedOf_20 : decode cX7_damagedOf 20 = .ok (.iload_n 2, 1) := by decide +kernel
theorem dX7_damagedOf_21 : decode cX7_damagedOf 21 = .ok (.invokevirtual 93, 3) := by decide +kernel
theorem dX7_damagedOf_24 : decode cX7_damagedOf 24 = .ok (.iload 4, 2) := by decide +kernel
theorem dX7_damagedOf_26 : decode cX7_damagedOf 26 = .ok (.iadd, 1) := by decide +kernel
theorem dX7_damagedOf_27 : decode cX7_damagedOf 27 = .ok (.invokestatic 74, 3) := by decide +kernel
theorem dX7_damagedOf_30 : decode cX7_damagedOf 30 = .ok (.bipush (-2), 2) := by decide +kernel
theorem dX7_damagedOf_32 : decode cX7_damagedOf 32 = .ok (.if_icmp .ne 6, 3) := by decide +kernel
theorem dX7_damagedOf_35 : decode cX7_damagedOf 35 = .ok (.iinc 3 1, 3) := by decide +kernel
theorem dX7_damagedOf_38 : decode cX7_damagedOf 38 = .ok (.iinc 4 1, 3) := by decide +kernel
theorem dX7_damagedOf_41 : decode cX7_damagedOf 41 = .ok (.goto (-36), 3) := by decide +kernel
theorem dX7_damagedOf_44 : decode cX7_damagedOf 44 = .ok (.iload_n 3, 1) := by decide +kernel
theorem dX7_damagedOf_45 : decode cX7_damagedOf 45 = .ok (.ireturn, 1) := by decide +kernel
theorem dX7_damagedInAll_0 : decode cX7_damagedInAll 0 = .ok (.iconst 0, 1) := by decide +kernel
theorem dX7_damagedInAll_1 : decode cX7_damagedInAll 1 = .ok (.istore_n 2, 1) := by decide +kernel
theorem dX7_damagedInAll_2 : decode cX7_damagedInAll 2 = .ok (.iconst 0, 1) := by decide +kernel
theorem dX7_damagedInAll_3 : decode cX7_damagedInAll 3 = .ok (.istore_n 3, 1) := by decide +kernel
theorem dX7_damagedInAll_4 : decode cX7_damagedInAll 4 = .ok (.iload_n 3, 1) := by decide +kernel
theorem dX7_damagedInAll_5 : decode cX7_damagedInAll 5 = .ok (.aload_n 1, 1) := by decide +kernel
theorem dX7_damagedInAll_6 : decode cX7_damagedInAll 6 = .ok (.getfield 94, 3) := by decide +kernel
theorem dX7_damagedInAll_9 : decode cX7_damagedInAll 9 = .ok (.if_icmp .ge 18, 3) := by decide +kernel
theorem dX7_damagedInAll_12 : decode cX7_damagedInAll 12 = .ok (.iload_n 2, 1) := by decide +kernel
theorem dX7_damagedInAll_13 : decode cX7_damagedInAll 13 = .ok (.aload_n 0, 1) := by decide +kernel
theorem dX7_damagedInAll_14 : decode cX7_damagedInAll 14 = .ok (.aload_n 1, 1) := by decide +kernel
theorem dX7_damagedInAll_15 : decode cX7_damagedInAll 15 = .ok (.iload_n 3, 1) := by decide +kernel
theorem dX7_damagedInAll_16 : decode cX7_damagedInAll 16 = .ok (.invokevirtual 97, 3) := by decide +kernel
theorem dX7_damagedInAll_19 : decode cX7_damagedInAll 19 = .ok (.iadd, 1) := by decide +kernel
theorem dX7_damagedInAll_20 : decode cX7_damagedInAll 20 = .ok (.istore_n 2, 1) := by decide +kernel
theorem dX7_damagedInAll_21 : decode cX7_damagedInAll 21 = .ok (.iinc 3 1, 3) := by decide +kernel
theorem dX7_damagedInAll_24 : decode cX7_damagedInAll 24 = .ok (.goto (-20), 3) := by decide +kernel
theorem dX7_damagedInAll_27 : decode cX7_damagedInAll 27 = .ok (.iload_n 2, 1) := by decide +kernel
theorem dX7_damagedInAll_28 : decode cX7_damagedInAll 28 = .ok (.ireturn, 1) := by decide +kernel
theorem dX7_beginsExtent_0 : decode cX7_beginsExtent 0 = .ok (.aload_n 0, 1) := by decide +kernel
theorem dX7_beginsExtent_1 : decode cX7_beginsExtent 1 = .ok (.iload_n 1, 1) := by decide +kernel
theorem dX7_beginsExtent_2 : decode cX7_beginsExtent 2 = .ok (.invokevirtual 78, 3) := by decide +kernel
theorem dX7_beginsExtent_5 : decode cX7_beginsExtent 5 = .ok (.istore_n 2, 1) := by decide +kernel
theorem dX7_beginsExtent_6 : decode cX7_beginsExtent 6 = .ok (.iload_n 2, 1) := by decide +kernel
theorem dX7_beginsExtent_7 : decode cX7_beginsExtent 7 = .ok (.ifCond .eq 20, 3) := by decide +kernel
theorem dX7_beginsExtent_10 : decode cX7_beginsExtent 10 = .ok (.iload_n 2, 1) := by decide +kernel
theorem dX7_beginsExtent_11 : decode cX7_beginsExtent 11 = .ok (.ifCond .le 20, 3) := by decide +kernel
theorem dX7_beginsExtent_14 : decode cX7_beginsExtent 14 = .ok (.aload_n 0, 1) := by decide +kernel
theorem dX7_beginsExtent_15 : decode cX7_beginsExtent 15 = .ok (.iload_n 1, 1) := by decide +kernel
theorem dX7_beginsExtent_16 : decode cX7_beginsExtent 16 = .ok (.iconst 1, 1) := by decide +kernel
theorem dX7_beginsExtent_17 : decode cX7_beginsExtent 17 = .ok (.isub, 1) := by decide +kernel
theorem dX7_beginsExtent_18 : decode cX7_beginsExtent 18 = .ok (.invokevirtual 78, 3) := by decide +kernel
theorem dX7_beginsExtent_21 : decode cX7_beginsExtent 21 = .ok (.iload_n 2, 1) := by decide +kernel
theorem dX7_beginsExtent_22 : decode cX7_beginsExtent 22 = .ok (.iconst 1, 1) := by decide +kernel
theorem dX7_beginsExtent_23 : decode cX7_beginsExtent 23 = .ok (.isub, 1) := by decide +kernel
theorem dX7_beginsExtent_24 : decode cX7_beginsExtent 24 = .ok (.if_icmp .eq 7, 3) := by decide +kernel
theorem dX7_beginsExtent_27 : decode cX7_beginsExtent 27 = .ok (.iconst 1, 1) := by decide +kernel
theorem dX7_beginsExtent_28 : decode cX7_beginsExtent 28 = .ok (.goto 4, 3) := by decide +kernel
theorem dX7_beginsExtent_31 : decode cX7_beginsExtent 31 = .ok (.iconst 0, 1) := by decide +kernel
theorem dX7_beginsExtent_32 : decode cX7_beginsExtent 32 = .ok (.ireturn, 1) := by decide +kernel
theorem dX7_extentsBegunBy_0 : decode cX7_extentsBegunBy 0 = .ok (.iconst 0, 1) := by decide +kernel
theorem dX7_extentsBegunBy_1 : decode cX7_extentsBegunBy 1 = .ok (.istore_n 2, 1) := by decide +kernel
theorem dX7_extentsBegunBy_2 : decode cX7_extentsBegunBy 2 = .ok (.iconst 0, 1) := by decide +kernel
theorem dX7_extentsBegunBy_3 : decode cX7_extentsBegunBy 3 = .ok (.istore_n 3, 1) := by decide +kernel
theorem dX7_extentsBegunBy_4 : decode cX7_extentsBegunBy 4 = .ok (.iload_n 3, 1) := by decide +kernel
theorem dX7_extentsBegunBy_5 : decode cX7_extentsBegunBy 5 = .ok (.iload_n 1, 1) := by decide +kernel
theorem dX7_extentsBegunBy_6 : decode cX7_extentsBegunBy 6 = .ok (.if_icmp .gt 26, 3) := by decide +kernel
theorem dX7_extentsBegunBy_9 : decode cX7_extentsBegunBy 9 = .ok (.iload_n 3, 1) := by decide +kernel
theorem dX7_extentsBegunBy_10 : decode cX7_extentsBegunBy 10 = .ok (.bipush 48, 2) := by decide +kernel
theorem dX7_extentsBegunBy_12 : decode cX7_extentsBegunBy 12 = .ok (.if_icmp .ge 20, 3) := by decide +kernel
theorem dX7_extentsBegunBy_15 : decode cX7_extentsBegunBy 15 = .ok (.aload_n 0, 1) := by decide +kernel
theorem dX7_extentsBegunBy_16 : decode cX7_extentsBegunBy 16 = .ok (.iload_n 3, 1) := by decide +kernel
theorem dX7_extentsBegunBy_17 : decode cX7_extentsBegunBy 17 = .ok (.invokevirtual 101, 3) := by decide +kernel
theorem dX7_extentsBegunBy_20 : decode cX7_extentsBegunBy 20 = .ok (.ifCond .eq 6, 3) := by decide +kernel
theorem dX7_extentsBegunBy_23 : decode cX7_extentsBegunBy 23 = .ok (.iinc 2 1, 3) := by decide +kernel
theorem dX7_extentsBegunBy_26 : decode cX7_extentsBegunBy 26 = .ok (.iinc 3 1, 3) := by decide +kernel
theorem dX7_extentsBegunBy_29 : decode cX7_extentsBegunBy 29 = .ok (.goto (-25), 3) := by decide +kernel
theorem dX7_extentsBegunBy_32 : decode cX7_extentsBegunBy 32 = .ok (.iload_n 2, 1) := by decide +kernel
theorem dX7_extentsBegunBy_33 : decode cX7_extentsBegunBy 33 = .ok (.ireturn, 1) := by decide +kernel
theorem dX7_firstOfExtent_0 : decode cX7_firstOfExtent 0 = .ok (.iconst 0, 1) := by decide +kernel
theorem dX7_firstOfExtent_1 : decode cX7_firstOfExtent 1 = .ok (.istore_n 3, 1) := by decide +kernel
theorem dX7_firstOfExtent_2 : decode cX7_firstOfExtent 2 = .ok (.iconst 0, 1) := by decide +kernel
theorem dX7_firstOfExtent_3 : decode cX7_firstOfExtent 3 = .ok (.istore 4, 2) := by decide +kernel
theorem dX7_firstOfExtent_5 : decode cX7_firstOfExtent 5 = .ok (.iload 4, 2) := by decide +kernel
theorem dX7_firstOfExtent_7 : decode cX7_firstOfExtent 7 = .ok (.iload_n 2, 1) := by decide +kernel
theorem dX7_firstOfExtent_8 : decode cX7_firstOfExtent 8 = .ok (.if_icmp .ge 29, 3) := by decide +kernel
theorem dX7_firstOfExtent_11 : decode cX7_firstOfExtent 11 = .ok (.aload_n 0, 1) := by decide +kernel
theorem dX7_firstOfExtent_12 : decode cX7_firstOfExtent 12 = .ok (.iload 4, 2) := by decide +kernel
theorem dX7_firstOfExtent_14 : decode cX7_firstOfExtent 14 = .ok (.invokevirtual 101, 3) := by decide +kernel
theorem dX7_firstOfExtent_17 : decode cX7_firstOfExtent 17 = .ok (.ifCond .eq 14, 3) := by decide +kernel
theorem dX7_firstOfExtent_20 : decode cX7_firstOfExtent 20 = .ok (.iload_n 3, 1) := by decide +kernel
theorem dX7_firstOfExtent_21 : decode cX7_firstOfExtent 21 = .ok (.iload_n 1, 1) := by decide +kernel
theorem dX7_firstOfExtent_22 : decode cX7_firstOfExtent 22 = .ok (.if_icmp .ne 6, 3) := by decide +kernel
theorem dX7_firstOfExtent_25 : decode cX7_firstOfExtent 25 = .ok (.iload 4, 2) := by decide +kernel
theorem dX7_firstOfExtent_27 : decode cX7_firstOfExtent 27 = .ok (.ireturn, 1) := by decide +kernel
theorem dX7_firstOfExtent_28 : decode cX7_firstOfExtent 28 = .ok (.iinc 3 1, 3) := by decide +kernel
theorem dX7_firstOfExtent_31 : decode cX7_firstOfExtent 31 = .ok (.iinc 4 1, 3) := by decide +kernel
theorem dX7_firstOfExtent_34 : decode cX7_firstOfExtent 34 = .ok (.goto (-29), 3) := by decide +kernel
theorem dX7_firstOfExtent_37 : decode cX7_firstOfExtent 37 = .ok (.bipush (-2), 2) := by decide +kernel
theorem dX7_firstOfExtent_39 : decode cX7_firstOfExtent 39 = .ok (.ireturn, 1) := by decide +kernel
theorem dX7_extentLength_0 : decode cX7_extentLength 0 = .ok (.iload_n 1, 1) := by decide +kernel
theorem dX7_extentLength_1 : decode cX7_extentLength 1 = .ok (.iconst 1, 1) := by decide +kernel
theorem dX7_extentLength_2 : decode cX7_extentLength 2 = .ok (.iadd, 1) := by decide +kernel
theorem dX7_extentLength_3 : decode cX7_extentLength 3 = .ok (.istore_n 3, 1) := by decide +kernel
theorem dX7_extentLength_4 : decode cX7_extentLength 4 = .ok (.iload_n 3, 1) := by decide +kernel
theorem dX7_extentLength_5 : decode cX7_extentLength 5 = .ok (.iload_n 2, 1) := by decide +kernel
theorem dX7_extentLength_6 : decode cX7_extentLength 6 = .ok (.if_icmp .ge 25, 3) := by decide +kernel
theorem dX7_extentLength_9 : decode cX7_extentLength 9 = .ok (.aload_n 0, 1) := by decide +kernel
theorem dX7_extentLength_10 : decode cX7_extentLength 10 = .ok (.iload_n 3, 1) := by decide +kernel
theorem dX7_extentLength_11 : decode cX7_extentLength 11 = .ok (.invokevirtual 78, 3) := by decide +kernel
theorem dX7_extentLength_14 : decode cX7_extentLength 14 = .ok (.ifCond .lt 17, 3) := by decide +kernel
theorem dX7_extentLength_17 : decode cX7_extentLength 17 = .ok (.aload_n 0, 1) := by decide +kernel
theorem dX7_extentLength_18 : decode cX7_extentLength 18 = .ok (.iload_n 3, 1) := by decide +kernel
theorem dX7_extentLength_19 : decode cX7_extentLength 19 = .ok (.invokevirtual 101, 3) := by decide +kernel
theorem dX7_extentLength_22 : decode cX7_extentLength 22 = .ok (.ifCond .ne 9, 3) := by decide +kernel
theorem dX7_extentLength_25 : decode cX7_extentLength 25 = .ok (.iinc 3 1, 3) := by decide +kernel
theorem dX7_extentLength_28 : decode cX7_extentLength 28 = .ok (.goto (-24), 3) := by decide +kernel
theorem dX7_extentLength_31 : decode cX7_extentLength 31 = .ok (.iload_n 3, 1) := by decide +kernel
theorem dX7_extentLength_32 : decode cX7_extentLength 32 = .ok (.iload_n 1, 1) := by decide +kernel
theorem dX7_extentLength_33 : decode cX7_extentLength 33 = .ok (.isub, 1) := by decide +kernel
theorem dX7_extentLength_34 : decode cX7_extentLength 34 = .ok (.ireturn, 1) := by decide +kernel
theorem dX7_nextBand_0 : decode cX7_nextBand 0 = .ok (.aload_n 0, 1) := by decide +kernel
theorem dX7_nextBand_1 : decode cX7_nextBand 1 = .ok (.getfield 37, 3) := by decide +kernel
theorem dX7_nextBand_4 : decode cX7_nextBand 4 = .ok (.ifCond .ne 6, 3) := by decide +kernel
theorem dX7_nextBand_7 : decode cX7_nextBand 7 = .ok (.bipush (-2), 2) := by decide +kernel
theorem dX7_nextBand_9 : decode cX7_nextBand 9 = .ok (.ireturn, 1) := by decide +kernel
theorem dX7_nextBand_10 : decode cX7_nextBand 10 = .ok (.aload_n 1, 1) := by decide +kernel
theorem dX7_nextBand_11 : decode cX7_nextBand 11 = .ok (.getfield 104, 3) := by decide +kernel
theorem dX7_nextBand_14 : decode cX7_nextBand 14 = .ok (.ifCond .eq 16, 3) := by decide +kernel
theorem dX7_nextBand_17 : decode cX7_nextBand 17 = .ok (.aload_n 1, 1) := by decide +kernel
theorem dX7_nextBand_18 : decode cX7_nextBand 18 = .ok (.aload_n 0, 1) := by decide +kernel
theorem dX7_nextBand_19 : decode cX7_nextBand 19 = .ok (.getfield 15, 3) := by decide +kernel
theorem dX7_nextBand_22 : decode cX7_nextBand 22 = .ok (.iconst 0, 1) := by decide +kernel
theorem dX7_nextBand_23 : decode cX7_nextBand 23 = .ok (.invokestatic 74, 3) := by decide +kernel
theorem dX7_nextBand_26 : decode cX7_nextBand 26 = .ok (.invokevirtual 81, 3) := by decide +kernel
theorem dX7_nextBand_29 : decode cX7_nextBand 29 = .ok (.ireturn, 1) := by decide +kernel
theorem dX7_nextBand_30 : decode cX7_nextBand 30 = .ok (.iconst 0, 1) := by decide +kernel
theorem dX7_nextBand_31 : decode cX7_nextBand 31 = .ok (.istore_n 2, 1) := by decide +kernel
theorem dX7_nextBand_32 : decode cX7_nextBand 32 = .ok (.iconst 0, 1) := by decide +kernel
theorem dX7_nextBand_33 : decode cX7_nextBand 33 = .ok (.istore_n 3, 1) := by decide +kernel
theorem dX7_nextBand_34 : decode cX7_nextBand 34 = .ok (.iconst 0, 1) := by decide +kernel
theorem dX7_nextBand_35 : decode cX7_nextBand 35 = .ok (.istore 4, 2) := by decide +kernel
theorem dX7_nextBand_37 : decode cX7_nextBand 37 = .ok (.iload 4, 2) := by decide +kernel
theorem dX7_nextBand_39 : decode cX7_nextBand 39 = .ok (.aload_n 1, 1) := by decide +kernel
theorem dX7_nextBand_40 : decode cX7_nextBand 40 = .ok (.getfield 94, 3) := by decide +kernel
theorem dX7_nextBand_43 : decode cX7_nextBand 43 = .ok (.if_icmp .ge 30, 3) := by decide +kernel
theorem dX7_nextBand_46 : decode cX7_nextBand 46 = .ok (.aload_n 0, 1) := by decide +kernel
theorem dX7_nextBand_47 : decode cX7_nextBand 47 = .ok (.aload_n 1, 1) := by decide +kernel
theorem dX7_nextBand_48 : decode cX7_nextBand 48 = .ok (.iload 4, 2) := by decide +kernel
theorem dX7_nextBand_50 : decode cX7_nextBand 50 = .ok (.invokevirtual 107, 3) := by decide +kernel
theorem dX7_nextBand_53 : decode cX7_nextBand 53 = .ok (.istore 5, 2) := by decide +kernel
theorem dX7_nextBand_55 : decode cX7_nextBand 55 = .ok (.iload 5, 2) := by decide +kernel
theorem dX7_nextBand_57 : decode cX7_nextBand 57 = .ok (.iload_n 3, 1) := by decide +kernel
theorem dX7_nextBand_58 : decode cX7_nextBand 58 = .ok (.if_icmp .le 9, 3) := by decide +kernel
theorem dX7_nextBand_61 : decode cX7_nextBand 61 = .ok (.iload 5, 2) := by decide +kernel
theorem dX7_nextBand_63 : decode cX7_nextBand 63 = .ok (.istore_n 3, 1) := by decide +kernel
theorem dX7_nextBand_64 : decode cX7_nextBand 64 = .ok (.iload 4, 2) := by decide +kernel
theorem dX7_nextBand_66 : decode cX7_nextBand 66 = .ok (.istore_n 2, 1) := by decide +kernel
theorem dX7_nextBand_67 : decode cX7_nextBand 67 = .ok (.iinc 4 1, 3) := by decide +kernel
theorem dX7_nextBand_70 : decode cX7_nextBand 70 = .ok (.goto (-33), 3) := by decide +kernel
theorem dX7_nextBand_73 : decode cX7_nextBand 73 = .ok (.iload_n 2, 1) := by decide +kernel
theorem dX7_nextBand_74 : decode cX7_nextBand 74 = .ok (.ireturn, 1) := by decide +kernel
theorem dX7_addEntry_0 : decode cX7_addEntry 0 = .ok (.aload_n 0, 1) := by decide +kernel
theorem dX7_addEntry_1 : decode cX7_addEntry 1 = .ok (.getfield 37, 3) := by decide +kernel
theorem dX7_addEntry_4 : decode cX7_addEntry 4 = .ok (.aload_n 1, 1) := by decide +kernel
theorem dX7_addEntry_5 : decode cX7_addEntry 5 = .ok (.getfield 110, 3) := by decide +kernel
theorem dX7_addEntry_8 : decode cX7_addEntry 8 = .ok (.if_icmp .lt 33, 3) := by decide +kernel
theorem dX7_addEntry_11 : decode cX7_addEntry 11 = .ok (.aload_n 0, 1) := by decide +kernel
theorem dX7_addEntry_12 : decode cX7_addEntry 12 = .ok (.aload_n 1, 1) := by decide +kernel
theorem dX7_addEntry_13 : decode cX7_addEntry 13 = .ok (.invokevirtual 113, 3) := by decide +kernel
theorem dX7_addEntry_16 : decode cX7_addEntry 16 = .ok (.istore 4, 2) := by decide +kernel
theorem dX7_addEntry_18 : decode cX7_addEntry 18 = .ok (.aload_n 0, 1) := by decide +kernel
theorem dX7_addEntry_19 : decode cX7_addEntry 19 = .ok (.aload_n 1, 1) := by decide +kernel
theorem dX7_addEntry_20 : decode cX7_addEntry 20 = .ok (.iload 4, 2) := by decide +kernel
theorem dX7_addEntry_22 : decode cX7_addEntry 22 = .ok (.aload_n 1, 1) := by decide +kernel
theorem dX7_addEntry_23 : decode cX7_addEntry 23 = .ok (.iload 4, 2) := by decide +kernel
theorem dX7_addEntry_25 : decode cX7_addEntry 25 = .ok (.invokevirtual 117, 3) := by decide +kernel
theorem dX7_addEntry_28 : decode cX7_addEntry 28 = .ok (.invokevirtual 120, 3) := by decide +kernel
theorem dX7_addEntry_31 : decode cX7_addEntry 31 = .ok (.aload_n 0, 1) := by decide +kernel
theorem dX7_addEntry_32 : decode cX7_addEntry 32 = .ok (.dup, 1) := by decide +kernel
theorem dX7_addEntry_33 : decode cX7_addEntry 33 = .ok (.getfield 50, 3) := by decide +kernel
theorem dX7_addEntry_36 : decode cX7_addEntry 36 = .ok (.iconst 1, 1) := by decide +kernel
theorem dX7_addEntry_37 : decode cX7_addEntry 37 = .ok (.iadd, 1) := by decide +kernel
theorem dX7_addEntry_38 : decode cX7_addEntry 38 = .ok (.putfield 50, 3) := by decide +kernel
theorem dX7_addEntry_41 : decode cX7_addEntry 41 = .ok (.aload_n 0, 1) := by decide +kernel
theorem dX7_addEntry_42 : decode cX7_addEntry 42 = .ok (.getfield 37, 3) := by decide +kernel
theorem dX7_addEntry_45 : decode cX7_addEntry 45 = .ok (.ifCond .lt 67, 3) := by decide +kernel
theorem dX7_addEntry_48 : decode cX7_addEntry 48 = .ok (.aload_n 0, 1) := by decide +kernel
theorem dX7_addEntry_49 : decode cX7_addEntry 49 = .ok (.getfield 37, 3) := by decide +kernel
theorem dX7_addEntry_52 : decode cX7_addEntry 52 = .ok (.aload_n 0, 1) := by decide +kernel
theorem dX7_addEntry_53 : decode cX7_addEntry 53 = .ok (.getfield 15, 3) := by decide +kernel
theorem dX7_addEntry_56 : decode cX7_addEntry 56 = .ok (.arraylength, 1) := by decide +kernel
theorem dX7_addEntry_57 : decode cX7_addEntry 57 = .ok (.if_icmp .ge 55, 3) := by decide +kernel
theorem dX7_addEntry_60 : decode cX7_addEntry 60 = .ok (.aload_n 0, 1) := by decide +kernel
theorem dX7_addEntry_61 : decode cX7_addEntry 61 = .ok (.getfield 37, 3) := by decide +kernel
theorem dX7_addEntry_64 : decode cX7_addEntry 64 = .ok (.aload_n 0, 1) := by decide +kernel
theorem dX7_addEntry_65 : decode cX7_addEntry 65 = .ok (.getfield 18, 3) := by decide +kernel
theorem dX7_addEntry_68 : decode cX7_addEntry 68 = .ok (.arraylength, 1) := by decide +kernel
theorem dX7_addEntry_69 : decode cX7_addEntry 69 = .ok (.if_icmp .ge 43, 3) := by decide +kernel
theorem dX7_addEntry_72 : decode cX7_addEntry 72 = .ok (.aload_n 0, 1) := by decide +kernel
theorem dX7_addEntry_73 : decode cX7_addEntry 73 = .ok (.getfield 15, 3) := by decide +kernel
theorem dX7_addEntry_76 : decode cX7_addEntry 76 = .ok (.aload_n 0, 1) := by decide +kernel
theorem dX7_addEntry_77 : decode cX7_addEntry 77 = .ok (.getfield 37, 3) := by decide +kernel
theorem dX7_addEntry_80 : decode cX7_addEntry 80 = .ok (.iload_n 2, 1) := by decide +kernel
theorem dX7_addEntry_81 : decode cX7_addEntry 81 = .ok (.iastore, 1) := by decide +kernel
theorem dX7_addEntry_82 : decode cX7_addEntry 82 = .ok (.aload_n 0, 1) := by decide +kernel
theorem dX7_addEntry_83 : decode cX7_addEntry 83 = .ok (.getfield 18, 3) := by decide +kernel
theorem dX7_addEntry_86 : decode cX7_addEntry 86 = .ok (.aload_n 0, 1) := by decide +kernel
theorem dX7_addEntry_87 : decode cX7_addEntry 87 = .ok (.getfield 37, 3) := by decide +kernel
theorem dX7_addEntry_90 : decode cX7_addEntry 90 = .ok (.iload_n 3, 1) := by decide +kernel
theorem dX7_addEntry_91 : decode cX7_addEntry 91 = .ok (.iastore, 1) := by decide +kernel
theorem dX7_addEntry_92 : decode cX7_addEntry 92 = .ok (.aload_n 0, 1) := by decide +kernel
theorem dX7_addEntry_93 : decode cX7_addEntry 93 = .ok (.dup, 1) := by decide +kernel
theorem dX7_addEntry_94 : decode cX7_addEntry 94 = .ok (.getfield 37, 3) := by decide +kernel
theorem dX7_addEntry_97 : decode cX7_addEntry 97 = .ok (.iconst 1, 1) := by decide +kernel
theorem dX7_addEntry_98 : decode cX7_addEntry 98 = .ok (.iadd, 1) := by decide +kernel
theorem dX7_addEntry_99 : decode cX7_addEntry 99 = .ok (.putfield 37, 3) := by decide +kernel
theorem dX7_addEntry_102 : decode cX7_addEntry 102 = .ok (.aload_n 0, 1) := by decide +kernel
theorem dX7_addEntry_103 : decode cX7_addEntry 103 = .ok (.dup, 1) := by decide +kernel
theorem dX7_addEntry_104 : decode cX7_addEntry 104 = .ok (.getfield 47, 3) := by decide +kernel
theorem dX7_addEntry_107 : decode cX7_addEntry 107 = .ok (.iconst 1, 1) := by decide +kernel
theorem dX7_addEntry_108 : decode cX7_addEntry 108 = .ok (.iadd, 1) := by decide +kernel
theorem dX7_addEntry_109 : decode cX7_addEntry 109 = .ok (.putfield 47, 3) := by decide +kernel
theorem dX7_addEntry_112 : decode cX7_addEntry 112 = .ok (.return_, 1) := by decide +kernel
theorem dX7_doSteps_0 : decode cX7_doSteps 0 = .ok (.aload_n 1, 1) := by decide +kernel
theorem dX7_doSteps_1 : decode cX7_doSteps 1 = .ok (.iload_n 2, 1) := by decide +kernel
theorem dX7_doSteps_2 : decode cX7_doSteps 2 = .ok (.invokevirtual 90, 3) := by decide +kernel
theorem dX7_doSteps_5 : decode cX7_doSteps 5 = .ok (.istore 4, 2) := by decide +kernel
theorem dX7_doSteps_7 : decode cX7_doSteps 7 = .ok (.aload_n 0, 1) := by decide +kernel
theorem dX7_doSteps_8 : decode cX7_doSteps 8 = .ok (.iload_n 2, 1) := by decide +kernel
theorem dX7_doSteps_9 : decode cX7_doSteps 9 = .ok (.putfield 62, 3) := by decide +kernel
theorem dX7_doSteps_12 : decode cX7_doSteps 12 = .ok (.iconst 0, 1) := by decide +kernel
theorem dX7_doSteps_13 : decode cX7_doSteps 13 = .ok (.istore 5, 2) := by decide +kernel
theorem dX7_doSteps_15 : decode cX7_doSteps 15 = .ok (.iload 5, 2) := by decide +kernel
theorem dX7_doSteps_17 : decode cX7_doSteps 17 = .ok (.iload 4, 2) := by decide +kernel
theorem dX7_doSteps_19 : decode cX7_doSteps 19 = .ok (.if_icmp .ge 62, 3) := by decide +kernel
theorem dX7_doSteps_22 : decode cX7_doSteps 22 = .ok (.iload 5, 2) := by decide +kernel
theorem dX7_doSteps_24 : decode cX7_doSteps 24 = .ok (.iload_n 3, 1) := by decide +kernel
theorem dX7_doSteps_25 : decode cX7_doSteps 25 = .ok (.if_icmp .ge 56, 3) := by decide +kernel
theorem dX7_doSteps_28 : decode cX7_doSteps 28 = .ok (.iload 5, 2) := by decide +kernel
theorem dX7_doSteps_30 : decode cX7_doSteps 30 = .ok (.aload_n 0, 1) := by decide +kernel
theorem dX7_doSteps_31 : decode cX7_doSteps 31 = .ok (.getfield 21, 3) := by decide +kernel
theorem dX7_doSteps_34 : decode cX7_doSteps 34 = .ok (.arraylength, 1) := by decide +kernel
theorem dX7_doSteps_35 : decode cX7_doSteps 35 = .ok (.if_icmp .ge 46, 3) := by decide +kernel
theorem dX7_doSteps_38 : decode cX7_doSteps 38 = .ok (.aload_n 0, 1) := by decide +kernel
theorem dX7_doSteps_39 : decode cX7_doSteps 39 = .ok (.getfield 21, 3) := by decide +kernel
theorem dX7_doSteps_42 : decode cX7_doSteps 42 = .ok (.iload 5, 2) := by decide +kernel
theorem dX7_doSteps_44 : decode cX7_doSteps 44 = .ok (.aload_n 0, 1) := by decide +kernel
theorem dX7_doSteps_45 : decode cX7_doSteps 45 = .ok (.aload_n 1, 1) := by decide +kernel
theorem dX7_doSteps_46 : decode cX7_doSteps 46 = .ok (.iload_n 2, 1) := by decide +kernel
theorem dX7_doSteps_47 : decode cX7_doSteps 47 = .ok (.invokevirtual 93, 3) := by decide +kernel
theorem dX7_doSteps_50 : decode cX7_doSteps 50 = .ok (.iload 5, 2) := by decide +kernel
theorem dX7_doSteps_52 : decode cX7_doSteps 52 = .ok (.iadd, 1) := by decide +kernel
theorem dX7_doSteps_53 : decode cX7_doSteps 53 = .ok (.invokevirtual 124, 3) := by decide +kernel
theorem dX7_doSteps_56 : decode cX7_doSteps 56 = .ok (.iastore, 1) := by decide +kernel
theorem dX7_doSteps_57 : decode cX7_doSteps 57 = .ok (.aload_n 0, 1) := by decide +kernel
theorem dX7_doSteps_58 : decode cX7_doSteps 58 = .ok (.iload 5, 2) := by decide +kernel
theorem dX7_doSteps_60 : decode cX7_doSteps 60 = .ok (.iconst 1, 1) := by decide +kernel
theorem dX7_doSteps_61 : decode cX7_doSteps 61 = .ok (.iadd, 1) := by decide +kernel
theorem dX7_doSteps_62 : decode cX7_doSteps 62 = .ok (.putfield 59, 3) := by decide +kernel
theorem dX7_doSteps_65 : decode cX7_doSteps 65 = .ok (.aload_n 0, 1) := by decide +kernel
theorem dX7_doSteps_66 : decode cX7_doSteps 66 = .ok (.dup, 1) := by decide +kernel
theorem dX7_doSteps_67 : decode cX7_doSteps 67 = .ok (.getfield 47, 3) := by decide +kernel
theorem dX7_doSteps_70 : decode cX7_doSteps 70 = .ok (.iconst 1, 1) := by decide +kernel
theorem dX7_doSteps_71 : decode cX7_doSteps 71 = .ok (.iadd, 1) := by decide +kernel
theorem dX7_doSteps_72 : decode cX7_doSteps 72 = .ok (.putfield 47, 3) := by decide +kernel
theorem dX7_doSteps_75 : decode cX7_doSteps 75 = .ok (.iinc 5 1, 3) := by decide +kernel
theorem dX7_doSteps_78 : decode cX7_doSteps 78 = .ok (.goto (-63), 3) := by decide +kernel
theorem dX7_doSteps_81 : decode cX7_doSteps 81 = .ok (.aload_n 0, 1) := by decide +kernel
theorem dX7_doSteps_82 : decode cX7_doSteps 82 = .ok (.iload_n 3, 1) := by decide +kernel
theorem dX7_doSteps_83 : decode cX7_doSteps 83 = .ok (.iload 4, 2) := by decide +kernel
theorem dX7_doSteps_85 : decode cX7_doSteps 85 = .ok (.if_icmp .le 7, 3) := by decide +kernel
theorem dX7_doSteps_88 : decode cX7_doSteps 88 = .ok (.iconst 1, 1) := by decide +kernel
theorem dX7_doSteps_89 : decode cX7_doSteps 89 = .ok (.goto 4, 3) := by decide +kernel
theorem dX7_doSteps_92 : decode cX7_doSteps 92 = .ok (.iconst 0, 1) := by decide +kernel
theorem dX7_doSteps_93 : decode cX7_doSteps 93 = .ok (.putfield 65, 3) := by decide +kernel
theorem dX7_doSteps_96 : decode cX7_doSteps 96 = .ok (.iconst 0, 1) := by decide +kernel
theorem dX7_doSteps_97 : decode cX7_doSteps 97 = .ok (.istore 5, 2) := by decide +kernel
theorem dX7_doSteps_99 : decode cX7_doSteps 99 = .ok (.iload 5, 2) := by decide +kernel
theorem dX7_doSteps_101 : decode cX7_doSteps 101 = .ok (.iload 4, 2) := by decide +kernel
theorem dX7_doSteps_103 : decode cX7_doSteps 103 = .ok (.if_icmp .ge 27, 3) := by decide +kernel
theorem dX7_doSteps_106 : decode cX7_doSteps 106 = .ok (.iload 5, 2) := by decide +kernel
theorem dX7_doSteps_108 : decode cX7_doSteps 108 = .ok (.iload_n 3, 1) := by decide +kernel
theorem dX7_doSteps_109 : decode cX7_doSteps 109 = .ok (.iload 4, 2) := by decide +kernel
theorem dX7_doSteps_111 : decode cX7_doSteps 111 = .ok (.isub, 1) := by decide +kernel
theorem dX7_doSteps_112 : decode cX7_doSteps 112 = .ok (.iconst 1, 1) := by decide +kernel
theorem dX7_doSteps_113 : decode cX7_doSteps 113 = .ok (.isub, 1) := by decide +kernel
theorem dX7_doSteps_114 : decode cX7_doSteps 114 = .ok (.if_icmp .ge 16, 3) := by decide +kernel
theorem dX7_doSteps_117 : decode cX7_doSteps 117 = .ok (.aload_n 0, 1) := by decide +kernel
theorem dX7_doSteps_118 : decode cX7_doSteps 118 = .ok (.aload_n 1, 1) := by decide +kernel
theorem dX7_doSteps_119 : decode cX7_doSteps 119 = .ok (.iload 5, 2) := by decide +kernel
theorem dX7_doSteps_121 : decode cX7_doSteps 121 = .ok (.invokevirtual 127, 3) := by decide +kernel
theorem dX7_doSteps_124 : decode cX7_doSteps 124 = .ok (.iinc 5 1, 3) := by decide +kernel
theorem dX7_doSteps_127 : decode cX7_doSteps 127 = .ok (.goto (-28), 3) := by decide +kernel
theorem dX7_doSteps_130 : decode cX7_doSteps 130 = .ok (.iload_n 3, 1) := by decide +kernel
theorem dX7_doSteps_131 : decode cX7_doSteps 131 = .ok (.aload_n 1, 1) := by decide +kernel
theorem dX7_doSteps_132 : decode cX7_doSteps 132 = .ok (.iload_n 2, 1) := by decide +kernel
theorem dX7_doSteps_133 : decode cX7_doSteps 133 = .ok (.invokevirtual 117, 3) := by decide +kernel
theorem dX7_doSteps_136 : decode cX7_doSteps 136 = .ok (.if_icmp .lt 13, 3) := by decide +kernel
theorem dX7_doSteps_139 : decode cX7_doSteps 139 = .ok (.aload_n 0, 1) := by decide +kernel
theorem dX7_doSteps_140 : decode cX7_doSteps 140 = .ok (.aload_n 1, 1) := by decide +kernel
theorem dX7_doSteps_141 : decode cX7_doSteps 141 = .ok (.iload_n 2, 1) := by decide +kernel
theorem dX7_doSteps_142 : decode cX7_doSteps 142 = .ok (.invokevirtual 131, 3) := by decide +kernel
theorem dX7_doSteps_145 : decode cX7_doSteps 145 = .ok (.aload_n 0, 1) := by decide +kernel
theorem dX7_doSteps_146 : decode cX7_doSteps 146 = .ok (.invokevirtual 40, 3) := by decide +kernel
theorem dX7_doSteps_149 : decode cX7_doSteps 149 = .ok (.return_, 1) := by decide +kernel
theorem dX7_writeFromJournal_0 : decode cX7_writeFromJournal 0 = .ok (.aload_n 1, 1) := by decide +kernel
theorem dX7_writeFromJournal_1 : decode cX7_writeFromJournal 1 = .ok (.aload_n 0, 1) := by decide +kernel
theorem dX7_writeFromJournal_2 : decode cX7_writeFromJournal 2 = .ok (.getfield 62, 3) := by decide +kernel
theorem dX7_writeFromJournal_5 : decode cX7_writeFromJournal 5 = .ok (.invokevirtual 93, 3) := by decide +kernel
theorem dX7_writeFromJournal_8 : decode cX7_writeFromJournal 8 = .ok (.iload_n 2, 1) := by decide +kernel
theorem dX7_writeFromJournal_9 : decode cX7_writeFromJournal 9 = .ok (.iadd, 1) := by decide +kernel
theorem dX7_writeFromJournal_10 : decode cX7_writeFromJournal 10 = .ok (.istore_n 3, 1) := by decide +kernel
theorem dX7_writeFromJournal_11 : decode cX7_writeFromJournal 11 = .ok (.aload_n 1, 1) := by decide +kernel
theorem dX7_writeFromJournal_12 : decode cX7_writeFromJournal 12 = .ok (.aload_n 0, 1) := by decide +kernel
theorem dX7_writeFromJournal_13 : decode cX7_writeFromJournal 13 = .ok (.getfield 62, 3) := by decide +kernel
theorem dX7_writeFromJournal_16 : decode cX7_writeFromJournal 16 = .ok (.invokevirtual 93, 3) := by decide +kernel
theorem dX7_writeFromJournal_19 : decode cX7_writeFromJournal 19 = .ok (.aload_n 1, 1) := by decide +kernel
theorem dX7_writeFromJournal_20 : decode cX7_writeFromJournal 20 = .ok (.aload_n 0, 1) := by decide +kernel
theorem dX7_writeFromJournal_21 : decode cX7_writeFromJournal 21 = .ok (.getfield 62, 3) := by decide +kernel
theorem dX7_writeFromJournal_24 : decode cX7_writeFromJournal 24 = .ok (.invokevirtual 90, 3) := by decide +kernel
theorem dX7_writeFromJournal_27 : decode cX7_writeFromJournal 27 = .ok (.iadd, 1) := by decide +kernel
theorem dX7_writeFromJournal_28 : decode cX7_writeFromJournal 28 = .ok (.istore 4, 2) := by decide +kernel
theorem dX7_writeFromJournal_30 : decode cX7_writeFromJournal 30 = .ok (.iload_n 3, 1) := by decide +kernel
theorem dX7_writeFromJournal_31 : decode cX7_writeFromJournal 31 = .ok (.ifCond .lt 12, 3) := by decide +kernel
theorem dX7_writeFromJournal_34 : decode cX7_writeFromJournal 34 = .ok (.iload_n 3, 1) := by decide +kernel
theorem dX7_writeFromJournal_35 : decode cX7_writeFromJournal 35 = .ok (.aload_n 0, 1) := by decide +kernel
theorem dX7_writeFromJournal_36 : decode cX7_writeFromJournal 36 = .ok (.getfield 9, 3) := by decide +kernel
theorem dX7_writeFromJournal_39 : decode cX7_writeFromJournal 39 = .ok (.arraylength, 1) := by decide +kernel
theorem dX7_writeFromJournal_40 : decode cX7_writeFromJournal 40 = .ok (.if_icmp .lt 4, 3) := by decide +kernel
theorem dX7_writeFromJournal_43 : decode cX7_writeFromJournal 43 = .ok (.return_, 1) := by decide +kernel
theorem dX7_writeFromJournal_44 : decode cX7_writeFromJournal 44 = .ok (.aload_n 0, 1) := by decide +kernel
theorem dX7_writeFromJournal_45 : decode cX7_writeFromJournal 45 = .ok (.getfield 9, 3) := by decide +kernel
theorem dX7_writeFromJournal_48 : decode cX7_writeFromJournal 48 = .ok (.iload_n 3, 1) := by decide +kernel
theorem dX7_writeFromJournal_49 : decode cX7_writeFromJournal 49 = .ok (.aload_n 0, 1) := by decide +kernel
theorem dX7_writeFromJournal_50 : decode cX7_writeFromJournal 50 = .ok (.getfield 21, 3) := by decide +kernel
theorem dX7_writeFromJournal_53 : decode cX7_writeFromJournal 53 = .ok (.iload_n 2, 1) := by decide +kernel
theorem dX7_writeFromJournal_54 : decode cX7_writeFromJournal 54 = .ok (.invokestatic 74, 3) := by decide +kernel
theorem dX7_writeFromJournal_57 : decode cX7_writeFromJournal 57 = .ok (.iastore, 1) := by decide +kernel
theorem dX7_writeFromJournal_58 : decode cX7_writeFromJournal 58 = .ok (.iload_n 3, 1) := by decide +kernel
theorem dX7_writeFromJournal_59 : decode cX7_writeFromJournal 59 = .ok (.iconst 1, 1) := by decide +kernel
theorem dX7_writeFromJournal_60 : decode cX7_writeFromJournal 60 = .ok (.iadd, 1) := by decide +kernel
theorem dX7_writeFromJournal_61 : decode cX7_writeFromJournal 61 = .ok (.istore 5, 2) := by decide +kernel
theorem dX7_writeFromJournal_63 : decode cX7_writeFromJournal 63 = .ok (.iload 5, 2) := by decide +kernel
theorem dX7_writeFromJournal_65 : decode cX7_writeFromJournal 65 = .ok (.iload_n 3, 1) := by decide +kernel
theorem dX7_writeFromJournal_66 : decode cX7_writeFromJournal 66 = .ok (.aload_n 1, 1) := by decide +kernel
theorem dX7_writeFromJournal_67 : decode cX7_writeFromJournal 67 = .ok (.getfield 134, 3) := by decide +kernel
theorem dX7_writeFromJournal_70 : decode cX7_writeFromJournal 70 = .ok (.iadd, 1) := by decide +kernel
theorem dX7_writeFromJournal_71 : decode cX7_writeFromJournal 71 = .ok (.if_icmp .gt 35, 3) := by decide +kernel
theorem dX7_writeFromJournal_74 : decode cX7_writeFromJournal 74 = .ok (.iload 5, 2) := by decide +kernel
theorem dX7_writeFromJournal_76 : decode cX7_writeFromJournal 76 = .ok (.iload 4, 2) := by decide +kernel
theorem dX7_writeFromJournal_78 : decode cX7_writeFromJournal 78 = .ok (.if_icmp .ge 28, 3) := by decide +kernel
theorem dX7_writeFromJournal_81 : decode cX7_writeFromJournal 81 = .ok (.iload 5, 2) := by decide +kernel
theorem dX7_writeFromJournal_83 : decode cX7_writeFromJournal 83 = .ok (.aload_n 0, 1) := by decide +kernel
theorem dX7_writeFromJournal_84 : decode cX7_writeFromJournal 84 = .ok (.getfield 9, 3) := by decide +kernel
theorem dX7_writeFromJournal_87 : decode cX7_writeFromJournal 87 = .ok (.arraylength, 1) := by decide +kernel
theorem dX7_writeFromJournal_88 : decode cX7_writeFromJournal 88 = .ok (.if_icmp .ge 18, 3) := by decide +kernel
theorem dX7_writeFromJournal_91 : decode cX7_writeFromJournal 91 = .ok (.aload_n 0, 1) := by decide +kernel
theorem dX7_writeFromJournal_92 : decode cX7_writeFromJournal 92 = .ok (.getfield 9, 3) := by decide +kernel
theorem dX7_writeFromJournal_95 : decode cX7_writeFromJournal 95 = .ok (.iload 5, 2) := by decide +kernel
theorem dX7_writeFromJournal_97 : decode cX7_writeFromJournal 97 = .ok (.bipush (-2), 2) := by decide +kernel
theorem dX7_writeFromJournal_99 : decode cX7_writeFromJournal 99 = .ok (.iastore, 1) := by decide +kernel
theorem dX7_writeFromJournal_100 : decode cX7_writeFromJournal 100 = .ok (.iinc 5 1, 3) := by decide +kernel
theorem dX7_writeFromJournal_103 : decode cX7_writeFromJournal 103 = .ok (.goto (-40), 3) := by decide +kernel
theorem dX7_writeFromJournal_106 : decode cX7_writeFromJournal 106 = .ok (.aload_n 0, 1) := by decide +kernel
theorem dX7_writeFromJournal_107 : decode cX7_writeFromJournal 107 = .ok (.dup, 1) := by decide +kernel
theorem dX7_writeFromJournal_108 : decode cX7_writeFromJournal 108 = .ok (.getfield 47, 3) := by decide +kernel
theorem dX7_writeFromJournal_111 : decode cX7_writeFromJournal 111 = .ok (.iconst 1, 1) := by decide +kernel
theorem dX7_writeFromJournal_112 : decode cX7_writeFromJournal 112 = .ok (.iadd, 1) := by decide +kernel
theorem dX7_writeFromJournal_113 : decode cX7_writeFromJournal 113 = .ok (.putfield 47, 3) := by decide +kernel
theorem dX7_writeFromJournal_116 : decode cX7_writeFromJournal 116 = .ok (.return_, 1) := by decide +kernel
theorem dX7_dropEntriesOf_0 : decode cX7_dropEntriesOf 0 = .ok (.iconst 0, 1) := by decide +kernel
theorem dX7_dropEntriesOf_1 : decode cX7_dropEntriesOf 1 = .ok (.istore_n 3, 1) := by decide +kernel
theorem dX7_dropEntriesOf_2 : decode cX7_dropEntriesOf 2 = .ok (.iconst 0, 1) := by decide +kernel
theorem dX7_dropEntriesOf_3 : decode cX7_dropEntriesOf 3 = .ok (.istore 4, 2) := by decide +kernel
theorem dX7_dropEntriesOf_5 : decode cX7_dropEntriesOf 5 = .ok (.iload 4, 2) := by decide +kernel
theorem dX7_dropEntriesOf_7 : decode cX7_dropEntriesOf 7 = .ok (.aload_n 0, 1) := by decide +kernel
theorem dX7_dropEntriesOf_8 : decode cX7_dropEntriesOf 8 = .ok (.getfield 37, 3) := by decide +kernel
theorem dX7_dropEntriesOf_11 : decode cX7_dropEntriesOf 11 = .ok (.if_icmp .ge 73, 3) := by decide +kernel
theorem dX7_dropEntriesOf_14 : decode cX7_dropEntriesOf 14 = .ok (.iload 4, 2) := by decide +kernel
theorem dX7_dropEntriesOf_16 : decode cX7_dropEntriesOf 16 = .ok (.aload_n 0, 1) := by decide +kernel
theorem dX7_dropEntriesOf_17 : decode cX7_dropEntriesOf 17 = .ok (.getfield 15, 3) := by decide +kernel
theorem dX7_dropEntriesOf_20 : decode cX7_dropEntriesOf 20 = .ok (.arraylength, 1) := by decide +kernel
theorem dX7_dropEntriesOf_21 : decode cX7_dropEntriesOf 21 = .ok (.if_icmp .ge 63, 3) := by decide +kernel
theorem dX7_dropEntriesOf_24 : decode cX7_dropEntriesOf 24 = .ok (.iload 4, 2) := by decide +kernel
theorem dX7_dropEntriesOf_26 : decode cX7_dropEntriesOf 26 = .ok (.aload_n 0, 1) := by decide +kernel
theorem dX7_dropEntriesOf_27 : decode cX7_dropEntriesOf 27 = .ok (.getfield 18, 3) := by decide +kernel
theorem dX7_dropEntriesOf_30 : decode cX7_dropEntriesOf 30 = .ok (.arraylength, 1) := by decide +kernel
theorem dX7_dropEntriesOf_31 : decode cX7_dropEntriesOf 31 = .ok (.if_icmp .ge 53, 3) := by decide +kernel
theorem dX7_dropEntriesOf_34 : decode cX7_dropEntriesOf 34 = .ok (.aload_n 1, 1) := by decide +kernel
theorem dX7_dropEntriesOf_35 : decode cX7_dropEntriesOf 35 = .ok (.aload_n 0, 1) := by decide +kernel
theorem dX7_dropEntriesOf_36 : decode cX7_dropEntriesOf 36 = .ok (.getfield 15, 3) := by decide +kernel
theorem dX7_dropEntriesOf_39 : decode cX7_dropEntriesOf 39 = .ok (.iload 4, 2) := by decide +kernel
theorem dX7_dropEntriesOf_41 : decode cX7_dropEntriesOf 41 = .ok (.iaload, 1) := by decide +kernel
theorem dX7_dropEntriesOf_42 : decode cX7_dropEntriesOf 42 = .ok (.invokevirtual 81, 3) := by decide +kernel
theorem dX7_dropEntriesOf_45 : decode cX7_dropEntriesOf 45 = .ok (.iload_n 2, 1) := by decide +kernel
theorem dX7_dropEntriesOf_46 : decode cX7_dropEntriesOf 46 = .ok (.if_icmp .eq 32, 3) := by decide +kernel
theorem dX7_dropEntriesOf_49 : decode cX7_dropEntriesOf 49 = .ok (.aload_n 0, 1) := by decide +kernel
theorem dX7_dropEntriesOf_50 : decode cX7_dropEntriesOf 50 = .ok (.getfield 15, 3) := by decide +kernel
theorem dX7_dropEntriesOf_53 : decode cX7_dropEntriesOf 53 = .ok (.iload_n 3, 1) := by decide +kernel
theorem dX7_dropEntriesOf_54 : decode cX7_dropEntriesOf 54 = .ok (.aload_n 0, 1) := by decide +kernel
theorem dX7_dropEntriesOf_55 : decode cX7_dropEntriesOf 55 = .ok (.getfield 15, 3) := by decide +kernel
theorem dX7_dropEntriesOf_58 : decode cX7_dropEntriesOf 58 = .ok (.iload 4, 2) := by decide +kernel
theorem dX7_dropEntriesOf_60 : decode cX7_dropEntriesOf 60 = .ok (.iaload, 1) := by decide +kernel
theorem dX7_dropEntriesOf_61 : decode cX7_dropEntriesOf 61 = .ok (.iastore, 1) := by decide +kernel
theorem dX7_dropEntriesOf_62 : decode cX7_dropEntriesOf 62 = .ok (.aload_n 0, 1) := by decide +kernel
theorem dX7_dropEntriesOf_63 : decode cX7_dropEntriesOf 63 = .ok (.getfield 18, 3) := by decide +kernel
theorem dX7_dropEntriesOf_66 : decode cX7_dropEntriesOf 66 = .ok (.iload_n 3, 1) := by decide +kernel
theorem dX7_dropEntriesOf_67 : decode cX7_dropEntriesOf 67 = .ok (.aload_n 0, 1) := by decide +kernel
theorem dX7_dropEntriesOf_68 : decode cX7_dropEntriesOf 68 = .ok (.getfield 18, 3) := by decide +kernel
theorem dX7_dropEntriesOf_71 : decode cX7_dropEntriesOf 71 = .ok (.iload 4, 2) := by decide +kernel
theorem dX7_dropEntriesOf_73 : decode cX7_dropEntriesOf 73 = .ok (.iaload, 1) := by decide +kernel
theorem dX7_dropEntriesOf_74 : decode cX7_dropEntriesOf 74 = .ok (.iastore, 1) := by decide +kernel
theorem dX7_dropEntriesOf_75 : decode cX7_dropEntriesOf 75 = .ok (.iinc 3 1, 3) := by decide +kernel
theorem dX7_dropEntriesOf_78 : decode cX7_dropEntriesOf 78 = .ok (.iinc 4 1, 3) := by decide +kernel
theorem dX7_dropEntriesOf_81 : decode cX7_dropEntriesOf 81 = .ok (.goto (-76), 3) := by decide +kernel
theorem dX7_dropEntriesOf_84 : decode cX7_dropEntriesOf 84 = .ok (.aload_n 0, 1) := by decide +kernel
theorem dX7_dropEntriesOf_85 : decode cX7_dropEntriesOf 85 = .ok (.iload_n 3, 1) := by decide +kernel
theorem dX7_dropEntriesOf_86 : decode cX7_dropEntriesOf 86 = .ok (.putfield 37, 3) := by decide +kernel
theorem dX7_dropEntriesOf_89 : decode cX7_dropEntriesOf 89 = .ok (.return_, 1) := by decide +kernel
theorem dX7_emptyJournal_0 : decode cX7_emptyJournal 0 = .ok (.aload_n 0, 1) := by decide +kernel
theorem dX7_emptyJournal_1 : decode cX7_emptyJournal 1 = .ok (.iconst 0, 1) := by decide +kernel
theorem dX7_emptyJournal_2 : decode cX7_emptyJournal 2 = .ok (.putfield 59, 3) := by decide +kernel
theorem dX7_emptyJournal_5 : decode cX7_emptyJournal 5 = .ok (.aload_n 0, 1) := by decide +kernel
theorem dX7_emptyJournal_6 : decode cX7_emptyJournal 6 = .ok (.iconst (-1), 1) := by decide +kernel
theorem dX7_emptyJournal_7 : decode cX7_emptyJournal 7 = .ok (.putfield 62, 3) := by decide +kernel
theorem dX7_emptyJournal_10 : decode cX7_emptyJournal 10 = .ok (.aload_n 0, 1) := by decide +kernel
theorem dX7_emptyJournal_11 : decode cX7_emptyJournal 11 = .ok (.iconst 0, 1) := by decide +kernel
theorem dX7_emptyJournal_12 : decode cX7_emptyJournal 12 = .ok (.putfield 65, 3) := by decide +kernel
theorem dX7_emptyJournal_15 : decode cX7_emptyJournal 15 = .ok (.return_, 1) := by decide +kernel
theorem dX7_cutPower_0 : decode cX7_cutPower 0 = .ok (.aload_n 0, 1) := by decide +kernel
theorem dX7_cutPower_1 : decode cX7_cutPower 1 = .ok (.aload_n 1, 1) := by decide +kernel
theorem dX7_cutPower_2 : decode cX7_cutPower 2 = .ok (.iload_n 2, 1) := by decide +kernel
theorem dX7_cutPower_3 : decode cX7_cutPower 3 = .ok (.iload_n 3, 1) := by decide +kernel
theorem dX7_cutPower_4 : decode cX7_cutPower 4 = .ok (.invokevirtual 120, 3) := by decide +kernel
theorem dX7_cutPower_7 : decode cX7_cutPower 7 = .ok (.aload_n 0, 1) := by decide +kernel
theorem dX7_cutPower_8 : decode cX7_cutPower 8 = .ok (.iconst 1, 1) := by decide +kernel
theorem dX7_cutPower_9 : decode cX7_cutPower 9 = .ok (.putfield 43, 3) := by decide +kernel
theorem dX7_cutPower_12 : decode cX7_cutPower 12 = .ok (.return_, 1) := by decide +kernel
theorem dX7_comeBack_0 : decode cX7_comeBack 0 = .ok (.bipush (-2), 2) := by decide +kernel
theorem dX7_comeBack_2 : decode cX7_comeBack 2 = .ok (.istore_n 2, 1) := by decide +kernel
theorem dX7_comeBack_3 : decode cX7_comeBack 3 = .ok (.aload_n 0, 1) := by decide +kernel
theorem dX7_comeBack_4 : decode cX7_comeBack 4 = .ok (.getfield 65, 3) := by decide +kernel
theorem dX7_comeBack_7 : decode cX7_comeBack 7 = .ok (.ifCond .eq 37, 3) := by decide +kernel
theorem dX7_comeBack_10 : decode cX7_comeBack 10 = .ok (.aload_n 0, 1) := by decide +kernel
theorem dX7_comeBack_11 : decode cX7_comeBack 11 = .ok (.getfield 62, 3) := by decide +kernel
theorem dX7_comeBack_14 : decode cX7_comeBack 14 = .ok (.istore_n 2, 1) := by decide +kernel
theorem dX7_comeBack_15 : decode cX7_comeBack 15 = .ok (.iconst 0, 1) := by decide +kernel
theorem dX7_comeBack_16 : decode cX7_comeBack 16 = .ok (.istore_n 3, 1) := by decide +kernel
theorem dX7_comeBack_17 : decode cX7_comeBack 17 = .ok (.iload_n 3, 1) := by decide +kernel
theorem dX7_comeBack_18 : decode cX7_comeBack 18 = .ok (.aload_n 1, 1) := by decide +kernel
theorem dX7_comeBack_19 : decode cX7_comeBack 19 = .ok (.iload_n 2, 1) := by decide +kernel
theorem dX7_comeBack_20 : decode cX7_comeBack 20 = .ok (.invokevirtual 90, 3) := by decide +kernel
theorem dX7_comeBack_23 : decode cX7_comeBack 23 = .ok (.if_icmp .ge 15, 3) := by decide +kernel
theorem dX7_comeBack_26 : decode cX7_comeBack 26 = .ok (.aload_n 0, 1) := by decide +kernel
theorem dX7_comeBack_27 : decode cX7_comeBack 27 = .ok (.aload_n 1, 1) := by decide +kernel
theorem dX7_comeBack_28 : decode cX7_comeBack 28 = .ok (.iload_n 3, 1) := by decide +kernel
theorem dX7_comeBack_29 : decode cX7_comeBack 29 = .ok (.invokevirtual 127, 3) := by decide +kernel
theorem dX7_comeBack_32 : decode cX7_comeBack 32 = .ok (.iinc 3 1, 3) := by decide +kernel
theorem dX7_comeBack_35 : decode cX7_comeBack 35 = .ok (.goto (-18), 3) := by decide +kernel
theorem dX7_comeBack_38 : decode cX7_comeBack 38 = .ok (.aload_n 0, 1) := by decide +kernel
theorem dX7_comeBack_39 : decode cX7_comeBack 39 = .ok (.aload_n 1, 1) := by decide +kernel
theorem dX7_comeBack_40 : decode cX7_comeBack 40 = .ok (.iload_n 2, 1) := by decide +kernel
theorem dX7_comeBack_41 : decode cX7_comeBack 41 = .ok (.invokevirtual 131, 3) := by decide +kernel
theorem dX7_comeBack_44 : decode cX7_comeBack 44 = .ok (.aload_n 0, 1) := by decide +kernel
theorem dX7_comeBack_45 : decode cX7_comeBack 45 = .ok (.invokevirtual 40, 3) := by decide +kernel
theorem dX7_comeBack_48 : decode cX7_comeBack 48 = .ok (.aload_n 0, 1) := by decide +kernel
theorem dX7_comeBack_49 : decode cX7_comeBack 49 = .ok (.iconst 0, 1) := by decide +kernel
theorem dX7_comeBack_50 : decode cX7_comeBack 50 = .ok (.putfield 43, 3) := by decide +kernel
theorem dX7_comeBack_53 : decode cX7_comeBack 53 = .ok (.iload_n 2, 1) := by decide +kernel
theorem dX7_comeBack_54 : decode cX7_comeBack 54 = .ok (.ireturn, 1) := by decide +kernel
theorem dX8_init_0 : decode cX8_init 0 = .ok (.aload_n 0, 1) := by decide +kernel
theorem dX8_init_1 : decode cX8_init 1 = .ok (.invokespecial 3, 3) := by decide +kernel
theorem dX8_init_4 : decode cX8_init 4 = .ok (.aload_n 0, 1) := by decide +kernel
theorem dX8_init_5 : decode cX8_init 5 = .ok (.new 9, 3) := by decide +kernel
theorem dX8_init_8 : decode cX8_init 8 = .ok (.dup, 1) := by decide +kernel
theorem dX8_init_9 : decode cX8_init 9 = .ok (.invokespecial 11, 3) := by decide +kernel
theorem dX8_init_12 : decode cX8_init 12 = .ok (.putfield 12, 3) := by decide +kernel
theorem dX8_init_15 : decode cX8_init 15 = .ok (.aload_n 0, 1) := by decide +kernel
theorem dX8_init_16 : decode cX8_init 16 = .ok (.new 18, 3) := by decide +kernel
theorem dX8_init_19 : decode cX8_init 19 = .ok (.dup, 1) := by decide +kernel
theorem dX8_init_20 : decode cX8_init 20 = .ok (.bipush 12, 2) := by decide +kernel
theorem dX8_init_22 : decode cX8_init 22 = .ok (.invokespecial 20, 3) := by decide +kernel
theorem dX8_init_25 : decode cX8_init 25 = .ok (.putfield 23, 3) := by decide +kernel
theorem dX8_init_28 : decode cX8_init 28 = .ok (.aload_n 0, 1) := by decide +kernel
theorem dX8_init_29 : decode cX8_init 29 = .ok (.new 18, 3) := by decide +kernel
theorem dX8_init_32 : decode cX8_init 32 = .ok (.dup, 1) := by decide +kernel
theorem dX8_init_33 : decode cX8_init 33 = .ok (.bipush 16, 2) := by decide +kernel
theorem dX8_init_35 : decode cX8_init 35 = .ok (.invokespecial 20, 3) := by decide +kernel
theorem dX8_init_38 : decode cX8_init 38 = .ok (.putfield 27, 3) := by decide +kernel
theorem dX8_init_41 : decode cX8_init 41 = .ok (.aload_n 0, 1) := by decide +kernel
theorem dX8_init_42 : decode cX8_init 42 = .ok (.new 18, 3) := by decide +kernel
theorem dX8_init_45 : decode cX8_init 45 = .ok (.dup, 1) := by decide +kernel
theorem dX8_init_46 : decode cX8_init 46 = .ok (.iconst 4, 1) := by decide +kernel
theorem dX8_init_47 : decode cX8_init 47 = .ok (.invokespecial 20, 3) := by decide +kernel
theorem dX8_init_50 : decode cX8_init 50 = .ok (.putfield 30, 3) := by decide +kernel
theorem dX8_init_53 : decode cX8_init 53 = .ok (.aload_n 0, 1) := by decide +kernel
theorem dX8_init_54 : decode cX8_init 54 = .ok (.new 18, 3) := by decide +kernel
theorem dX8_init_57 : decode cX8_init 57 = .ok (.dup, 1) := by decide +kernel
theorem dX8_init_58 : decode cX8_init 58 = .ok (.bipush 6, 2) := by decide +kernel
theorem dX8_init_60 : decode cX8_init 60 = .ok (.invokespecial 20, 3) := by decide +kernel
theorem dX8_init_63 : decode cX8_init 63 = .ok (.putfield 33, 3) := by decide +kernel
theorem dX8_init_66 : decode cX8_init 66 = .ok (.return_, 1) := by decide +kernel
theorem dX8_empty_0 : decode cX8_empty 0 = .ok (.aload_n 0, 1) := by decide +kernel
theorem dX8_empty_1 : decode cX8_empty 1 = .ok (.getfield 12, 3) := by decide +kernel
theorem dX8_empty_4 : decode cX8_empty 4 = .ok (.invokevirtual 36, 3) := by decide +kernel
theorem dX8_empty_7 : decode cX8_empty 7 = .ok (.aload_n 0, 1) := by decide +kernel
theorem dX8_empty_8 : decode cX8_empty 8 = .ok (.getfield 23, 3) := by decide +kernel
theorem dX8_empty_11 : decode cX8_empty 11 = .ok (.iconst 0, 1) := by decide +kernel
theorem dX8_empty_12 : decode cX8_empty 12 = .ok (.putfield 39, 3) := by decide +kernel
theorem dX8_empty_15 : decode cX8_empty 15 = .ok (.aload_n 0, 1) := by decide +kernel
theorem dX8_empty_16 : decode cX8_empty 16 = .ok (.getfield 27, 3) := by decide +kernel
theorem dX8_empty_19 : decode cX8_empty 19 = .ok (.iconst 0, 1) := by decide +kernel
theorem dX8_empty_20 : decode cX8_empty 20 = .ok (.putfield 39, 3) := by decide +kernel
theorem dX8_empty_23 : decode cX8_empty 23 = .ok (.aload_n 0, 1) := by decide +kernel
theorem dX8_empty_24 : decode cX8_empty 24 = .ok (.getfield 30, 3) := by decide +kernel
theorem dX8_empty_27 : decode cX8_empty 27 = .ok (.iconst 0, 1) := by decide +kernel
theorem dX8_empty_28 : decode cX8_empty 28 = .ok (.putfield 39, 3) := by decide +kernel
theorem dX8_empty_31 : decode cX8_empty 31 = .ok (.aload_n 0, 1) := by decide +kernel
theorem dX8_empty_32 : decode cX8_empty 32 = .ok (.getfield 33, 3) := by decide +kernel
theorem dX8_empty_35 : decode cX8_empty 35 = .ok (.iconst 0, 1) := by decide +kernel
theorem dX8_empty_36 : decode cX8_empty 36 = .ok (.putfield 39, 3) := by decide +kernel
theorem dX8_empty_39 : decode cX8_empty 39 = .ok (.return_, 1) := by decide +kernel
theorem dX8_valueWritten_0 : decode cX8_valueWritten 0 = .ok (.iconst 0, 1) := by decide +kernel
theorem dX8_valueWritten_1 : decode cX8_valueWritten 1 = .ok (.istore_n 3, 1) := by decide +kernel
theorem dX8_valueWritten_2 : decode cX8_valueWritten 2 = .ok (.iload_n 3, 1) := by decide +kernel
theorem dX8_valueWritten_3 : decode cX8_valueWritten 3 = .ok (.aload_n 0, 1) := by decide +kernel
theorem dX8_valueWritten_4 : decode cX8_valueWritten 4 = .ok (.getfield 30, 3) := by decide +kernel
theorem dX8_valueWritten_7 : decode cX8_valueWritten 7 = .ok (.getfield 39, 3) := by decide +kernel
theorem dX8_valueWritten_10 : decode cX8_valueWritten 10 = .ok (.if_icmp .ge 39, 3) := by decide +kernel
theorem dX8_valueWritten_13 : decode cX8_valueWritten 13 = .ok (.iload_n 2, 1) := by decide +kernel
theorem dX8_valueWritten_14 : decode cX8_valueWritten 14 = .ok (.iload_n 3, 1) := by decide +kernel
theorem dX8_valueWritten_15 : decode cX8_valueWritten 15 = .ok (.ishr, 1) := by decide +kernel
theorem dX8_valueWritten_16 : decode cX8_valueWritten 16 = .ok (.iconst 1, 1) := by decide +kernel
theorem dX8_valueWritten_17 : decode cX8_valueWritten 17 = .ok (.iand, 1) := by decide +kernel
theorem dX8_valueWritten_18 : decode cX8_valueWritten 18 = .ok (.iconst 1, 1) := by decide +kernel
theorem dX8_valueWritten_19 : decode cX8_valueWritten 19 = .ok (.if_icmp .ne 24, 3) := by decide +kernel
theorem dX8_valueWritten_22 : decode cX8_valueWritten 22 = .ok (.aload_n 0, 1) := by decide +kernel
theorem dX8_valueWritten_23 : decode cX8_valueWritten 23 = .ok (.getfield 30, 3) := by decide +kernel
theorem dX8_valueWritten_26 : decode cX8_valueWritten 26 = .ok (.iload_n 3, 1) := by decide +kernel
theorem dX8_valueWritten_27 : decode cX8_valueWritten 27 = .ok (.invokevirtual 43, 3) := by decide +kernel
theorem dX8_valueWritten_30 : decode cX8_valueWritten 30 = .ok (.iload_n 1, 1) := by decide +kernel
theorem dX8_valueWritten_31 : decode cX8_valueWritten 31 = .ok (.if_icmp .ne 12, 3) := by decide +kernel
theorem dX8_valueWritten_34 : decode cX8_valueWritten 34 = .ok (.aload_n 0, 1) := by decide +kernel
theorem dX8_valueWritten_35 : decode cX8_valueWritten 35 = .ok (.getfield 30, 3) := by decide +kernel
theorem dX8_valueWritten_38 : decode cX8_valueWritten 38 = .ok (.iload_n 3, 1) := by decide +kernel
theorem dX8_valueWritten_39 : decode cX8_valueWritten 39 = .ok (.invokevirtual 47, 3) := by decide +kernel
theorem dX8_valueWritten_42 : decode cX8_valueWritten 42 = .ok (.ireturn, 1) := by decide +kernel
theorem dX8_valueWritten_43 : decode cX8_valueWritten 43 = .ok (.iinc 3 1, 3) := by decide +kernel
theorem dX8_valueWritten_46 : decode cX8_valueWritten 46 = .ok (.goto (-44), 3) := by decide +kernel
theorem dX8_valueWritten_49 : decode cX8_valueWritten 49 = .ok (.aload_n 0, 1) := by decide +kernel
theorem dX8_valueWritten_50 : decode cX8_valueWritten 50 = .ok (.getfield 27, 3) := by decide +kernel
theorem dX8_valueWritten_53 : decode cX8_valueWritten 53 = .ok (.iload_n 1, 1) := by decide +kernel
theorem dX8_valueWritten_54 : decode cX8_valueWritten 54 = .ok (.invokevirtual 47, 3) := by decide +kernel
theorem dX8_valueWritten_57 : decode cX8_valueWritten 57 = .ok (.ireturn, 1) := by decide +kernel
theorem dX9_init_0 : decode cX9_init 0 = .ok (.aload_n 0, 1) := by decide +kernel
theorem dX9_init_1 : decode cX9_init 1 = .ok (.invokespecial 3, 3) := by decide +kernel
theorem dX9_init_4 : decode cX9_init 4 = .ok (.aload_n 0, 1) := by decide +kernel
theorem dX9_init_5 : decode cX9_init 5 = .ok (.sipush 700, 3) := by decide +kernel
theorem dX9_init_8 : decode cX9_init 8 = .ok (.newarray .byte, 2) := by decide +kernel
theorem dX9_init_10 : decode cX9_init 10 = .ok (.putfield 9, 3) := by decide +kernel
theorem dX9_init_13 : decode cX9_init 13 = .ok (.aload_n 0, 1) := by decide +kernel
theorem dX9_init_14 : decode cX9_init 14 = .ok (.new 13, 3) := by decide +kernel
theorem dX9_init_17 : decode cX9_init 17 = .ok (.dup, 1) := by decide +kernel
theorem dX9_init_18 : decode cX9_init 18 = .ok (.invokespecial 15, 3) := by decide +kernel
theorem dX9_init_21 : decode cX9_init 21 = .ok (.putfield 16, 3) := by decide +kernel
theorem dX9_init_24 : decode cX9_init 24 = .ok (.aload_n 0, 1) := by decide +kernel
theorem dX9_init_25 : decode cX9_init 25 = .ok (.new 13, 3) := by decide +kernel
theorem dX9_init_28 : decode cX9_init 28 = .ok (.dup, 1) := by decide +kernel
theorem dX9_init_29 : decode cX9_init 29 = .ok (.invokespecial 15, 3) := by decide +kernel
theorem dX9_init_32 : decode cX9_init 32 = .ok (.putfield 20, 3) := by decide +kernel
theorem dX9_init_35 : decode cX9_init 35 = .ok (.aload_n 0, 1) := by decide +kernel
theorem dX9_init_36 : decode cX9_init 36 = .ok (.new 23, 3) := by decide +kernel
theorem dX9_init_39 : decode cX9_init 39 = .ok (.dup, 1) := by decide +kernel
theorem dX9_init_40 : decode cX9_init 40 = .ok (.aload_n 0, 1) := by decide +kernel
theorem dX9_init_41 : decode cX9_init 41 = .ok (.getfield 9, 3) := by decide +kernel
theorem dX9_init_44 : decode cX9_init 44 = .ok (.aload_n 0, 1) := by decide +kernel
theorem dX9_init_45 : decode cX9_init 45 = .ok (.getfield 20, 3) := by decide +kernel
theorem dX9_init_48 : decode cX9_init 48 = .ok (.invokespecial 25, 3) := by decide +kernel
theorem dX9_init_51 : decode cX9_init 51 = .ok (.putfield 28, 3) := by decide +kernel
theorem dX9_init_54 : decode cX9_init 54 = .ok (.aload_n 0, 1) := by decide +kernel
theorem dX9_init_55 : decode cX9_init 55 = .ok (.new 32, 3) := by decide +kernel
theorem dX9_init_58 : decode cX9_init 58 = .ok (.dup, 1) := by decide +kernel
theorem dX9_init_59 : decode cX9_init 59 = .ok (.invokespecial 34, 3) := by decide +kernel
theorem dX9_init_62 : decode cX9_init 62 = .ok (.putfield 35, 3) := by decide +kernel
theorem dX9_init_65 : decode cX9_init 65 = .ok (.aload_n 0, 1) := by decide +kernel
theorem dX9_init_66 : decode cX9_init 66 = .ok (.new 39, 3) := by decide +kernel
theorem dX9_init_69 : decode cX9_init 69 = .ok (.dup, 1) := by decide +kernel
theorem dX9_init_70 : decode cX9_init 70 = .ok (.invokespecial 41, 3) := by decide +kernel
theorem dX9_init_73 : decode cX9_init 73 = .ok (.putfield 42, 3) := by decide +kernel
theorem dX9_init_76 : decode cX9_init 76 = .ok (.aload_n 0, 1) := by decide +kernel
theorem dX9_init_77 : decode cX9_init 77 = .ok (.new 39, 3) := by decide +kernel
theorem dX9_init_80 : decode cX9_init 80 = .ok (.dup, 1) := by decide +kernel
theorem dX9_init_81 : decode cX9_init 81 = .ok (.invokespecial 41, 3) := by decide +kernel
theorem dX9_init_84 : decode cX9_init 84 = .ok (.putfield 46, 3) := by decide +kernel
theorem dX9_init_87 : decode cX9_init 87 = .ok (.aload_n 0, 1) := by decide +kernel
theorem dX9_init_88 : decode cX9_init 88 = .ok (.new 49, 3) := by decide +kernel
theorem dX9_init_91 : decode cX9_init 91 = .ok (.dup, 1) := by decide +kernel
theorem dX9_init_92 : decode cX9_init 92 = .ok (.invokespecial 51, 3) := by decide +kernel
theorem dX9_init_95 : decode cX9_init 95 = .ok (.putfield 52, 3) := by decide +kernel
theorem dX9_init_98 : decode cX9_init 98 = .ok (.aload_n 0, 1) := by decide +kernel
theorem dX9_init_99 : decode cX9_init 99 = .ok (.new 56, 3) := by decide +kernel
theorem dX9_init_102 : decode cX9_init 102 = .ok (.dup, 1) := by decide +kernel
theorem dX9_init_103 : decode cX9_init 103 = .ok (.invokespecial 58, 3) := by decide +kernel
theorem dX9_init_106 : decode cX9_init 106 = .ok (.putfield 59, 3) := by decide +kernel
theorem dX9_init_109 : decode cX9_init 109 = .ok (.aload_n 0, 1) := by decide +kernel
theorem dX9_init_110 : decode cX9_init 110 = .ok (.new 63, 3) := by decide +kernel
theorem dX9_init_113 : decode cX9_init 113 = .ok (.dup, 1) := by decide +kernel
theorem dX9_init_114 : decode cX9_init 114 = .ok (.invokespecial 65, 3) := by decide +kernel
theorem dX9_init_117 : decode cX9_init 117 = .ok (.putfield 66, 3) := by decide +kernel
theorem dX9_init_120 : decode cX9_init 120 = .ok (.aload_n 0, 1) := by decide +kernel
theorem dX9_init_121 : decode cX9_init 121 = .ok (.new 70, 3) := by decide +kernel
theorem dX9_init_124 : decode cX9_init 124 = .ok (.dup, 1) := by decide +kernel
theorem dX9_init_125 : decode cX9_init 125 = .ok (.iconst 3, 1) := by decide +kernel
theorem dX9_init_126 : decode cX9_init 126 = .ok (.invokespecial 72, 3) := by decide +kernel
theorem dX9_init_129 : decode cX9_init 129 = .ok (.putfield 75, 3) := by decide +kernel
theorem dX9_init_132 : decode cX9_init 132 = .ok (.return_, 1) := by decide +kernel
theorem dX9_feed_0 : decode cX9_feed 0 = .ok (.aload_n 0, 1) := by decide +kernel
theorem dX9_feed_1 : decode cX9_feed 1 = .ok (.getfield 79, 3) := by decide +kernel
theorem dX9_feed_4 : decode cX9_feed 4 = .ok (.sipush 680, 3) := by decide +kernel
theorem dX9_feed_7 : decode cX9_feed 7 = .ok (.if_icmp .le 5, 3) := by decide +kernel
theorem dX9_feed_10 : decode cX9_feed 10 = .ok (.iconst (-1), 1) := by decide +kernel
theorem dX9_feed_11 : decode cX9_feed 11 = .ok (.ireturn, 1) := by decide +kernel
theorem dX9_feed_12 : decode cX9_feed 12 = .ok (.aload_n 0, 1) := by decide +kernel
theorem dX9_feed_13 : decode cX9_feed 13 = .ok (.iload_n 1, 1) := by decide +kernel
theorem dX9_feed_14 : decode cX9_feed 14 = .ok (.invokevirtual 83, 3) := by decide +kernel
theorem dX9_feed_17 : decode cX9_feed 17 = .ok (.aload_n 0, 1) := by decide +kernel
theorem dX9_feed_18 : decode cX9_feed 18 = .ok (.iload_n 2, 1) := by decide +kernel
theorem dX9_feed_19 : decode cX9_feed 19 = .ok (.invokevirtual 83, 3) := by decide +kernel
theorem dX9_feed_22 : decode cX9_feed 22 = .ok (.aload_n 0, 1) := by decide +kernel
theorem dX9_feed_23 : decode cX9_feed 23 = .ok (.iload_n 3, 1) := by decide +kernel
theorem dX9_feed_24 : decode cX9_feed 24 = .ok (.invokevirtual 83, 3) := by decide +kernel
theorem dX9_feed_27 : decode cX9_feed 27 = .ok (.aload_n 0, 1) := by decide +kernel
theorem dX9_feed_28 : decode cX9_feed 28 = .ok (.iload 4, 2) := by decide +kernel
theorem dX9_feed_30 : decode cX9_feed 30 = .ok (.invokevirtual 83, 3) := by decide +kernel
theorem dX9_feed_33 : decode cX9_feed 33 = .ok (.aload_n 0, 1) := by decide +kernel
theorem dX9_feed_34 : decode cX9_feed 34 = .ok (.iload 5, 2) := by decide +kernel
theorem dX9_feed_36 : decode cX9_feed 36 = .ok (.invokevirtual 83, 3) := by decide +kernel
theorem dX9_feed_39 : decode cX9_feed 39 = .ok (.aload_n 0, 1) := by decide +kernel
theorem dX9_feed_40 : decode cX9_feed 40 = .ok (.getfield 79, 3) := by decide +kernel
theorem dX9_feed_43 : decode cX9_feed 43 = .ok (.ireturn, 1) := by decide +kernel
theorem dX9_feedNumber_0 : decode cX9_feedNumber 0 = .ok (.bipush 24, 2) := by decide +kernel
theorem dX9_feedNumber_2 : decode cX9_feedNumber 2 = .ok (.istore_n 2, 1) := by decide +kernel
theorem dX9_feedNumber_3 : decode cX9_feedNumber 3 = .ok (.iload_n 2, 1) := by decide +kernel
theorem dX9_feedNumber_4 : decode cX9_feedNumber 4 = .ok (.ifCond .lt 51, 3) := by decide +kernel
theorem dX9_feedNumber_7 : decode cX9_feedNumber 7 = .ok (.aload_n 0, 1) := by decide +kernel
theorem dX9_feedNumber_8 : decode cX9_feedNumber 8 = .ok (.getfield 79, 3) := by decide +kernel
theorem dX9_feedNumber_11 : decode cX9_feedNumber 11 = .ok (.ifCond .lt 38, 3) := by decide +kernel
theorem dX9_feedNumber_14 : decode cX9_feedNumber 14 = .ok (.aload_n 0, 1) := by decide +kernel
theorem dX9_feedNumber_15 : decode cX9_feedNumber 15 = .ok (.getfield 79, 3) := by decide +kernel
theorem dX9_feedNumber_18 : decode cX9_feedNumber 18 = .ok (.aload_n 0, 1) := by decide +kernel
theorem dX9_feedNumber_19 : decode cX9_feedNumber 19 = .ok (.getfield 9, 3) := by decide +kernel
theorem dX9_feedNumber_22 : decode cX9_feedNumber 22 = .ok (.arraylength, 1) := by decide +kernel
theorem dX9_feedNumber_23 : decode cX9_feedNumber 23 = .ok (.if_icmp .ge 26, 3) := by decide +kernel
theorem dX9_feedNumber_26 : decode cX9_feedNumber 26 = .ok (.aload_n 0, 1) := by decide +kernel
theorem dX9_feedNumber_27 : decode cX9_feedNumber 27 = .ok (.getfield 9, 3) := by decide +kernel
theorem dX9_feedNumber_30 : decode cX9_feedNumber 30 = .ok (.aload_n 0, 1) := by decide +kernel
theorem dX9_feedNumber_31 : decode cX9_feedNumber 31 = .ok (.getfield 79, 3) := by decide +kernel
theorem dX9_feedNumber_34 : decode cX9_feedNumber 34 = .ok (.iload_n 1, 1) := by decide +kernel
theorem dX9_feedNumber_35 : decode cX9_feedNumber 35 = .ok (.iload_n 2, 1) := by decide +kernel
theorem dX9_feedNumber_36 : decode cX9_feedNumber 36 = .ok (.ishr, 1) := by decide +kernel
theorem dX9_feedNumber_37 : decode cX9_feedNumber 37 = .ok (.i2b, 1) := by decide +kernel
theorem dX9_feedNumber_38 : decode cX9_feedNumber 38 = .ok (.bastore, 1) := by decide +kernel
theorem dX9_feedNumber_39 : decode cX9_feedNumber 39 = .ok (.aload_n 0, 1) := by decide +kernel
theorem dX9_feedNumber_40 : decode cX9_feedNumber 40 = .ok (.dup, 1) := by decide +kernel
theorem dX9_feedNumber_41 : decode cX9_feedNumber 41 = .ok (.getfield 79, 3) := by decide +kernel
theorem dX9_feedNumber_44 : decode cX9_feedNumber 44 = .ok (.iconst 1, 1) := by decide +kernel
theorem dX9_feedNumber_45 : decode cX9_feedNumber 45 = .ok (.iadd, 1) := by decide +kernel
theorem dX9_feedNumber_46 : decode cX9_feedNumber 46 = .ok (.putfield 79, 3) := by decide +kernel
theorem dX9_feedNumber_49 : decode cX9_feedNumber 49 = .ok (.iinc 2 (-8), 3) := by decide +kernel
theorem dX9_feedNumber_52 : decode cX9_feedNumber 52 = .ok (.goto (-49), 3) := by decide +kernel
theorem dX9_feedNumber_55 : decode cX9_feedNumber 55 = .ok (.return_, 1) := by decide +kernel
theorem dX9_disk_0 : decode cX9_disk 0 = .ok (.iload_n 1, 1) := by decide +kernel
theorem dX9_disk_1 : decode cX9_disk 1 = .ok (.ifCond .lt 11, 3) := by decide +kernel
theorem dX9_disk_4 : decode cX9_disk 4 = .ok (.iload_n 1, 1) := by decide +kernel
theorem dX9_disk_5 : decode cX9_disk 5 = .ok (.aload_n 0, 1) := by decide +kernel
theorem dX9_disk_6 : decode cX9_disk 6 = .ok (.getfield 79, 3) := by decide +kernel
theorem dX9_disk_9 : decode cX9_disk 9 = .ok (.if_icmp .le 9, 3) := by decide +kernel
theorem dX9_disk_12 : decode cX9_disk 12 = .ok (.aload_n 0, 1) := by decide +kernel
theorem dX9_disk_13 : decode cX9_disk 13 = .ok (.iconst 2, 1) := by decide +kernel
theorem dX9_disk_14 : decode cX9_disk 14 = .ok (.invokevirtual 86, 3) := by decide +kernel
theorem dX9_disk_17 : decode cX9_disk 17 = .ok (.ireturn, 1) := by decide +kernel
theorem dX9_disk_18 : decode cX9_disk 18 = .ok (.aload_n 0, 1) := by decide +kernel
theorem dX9_disk_19 : decode cX9_disk 19 = .ok (.getfield 28, 3) := by decide +kernel
theorem dX9_disk_22 : decode cX9_disk 22 = .ok (.iload_n 1, 1) := by decide +kernel
theorem dX9_disk_23 : decode cX9_disk 23 = .ok (.aload_n 0, 1) := by decide +kernel
theorem dX9_disk_24 : decode cX9_disk 24 = .ok (.getfield 20, 3) := by decide +kernel
theorem dX9_disk_27 : decode cX9_disk 27 = .ok (.invokevirtual 90, 3) := by decide +kernel
theorem dX9_disk_30 : decode cX9_disk 30 = .ok (.aload_n 0, 1) := by decide +kernel
theorem dX9_disk_31 : decode cX9_disk 31 = .ok (.iconst 0, 1) := by decide +kernel
theorem dX9_disk_32 : decode cX9_disk 32 = .ok (.putfield 79, 3) := by decide +kernel
theorem dX9_disk_35 : decode cX9_disk 35 = .ok (.aload_n 0, 1) := by decide +kernel
theorem dX9_disk_36 : decode cX9_disk 36 = .ok (.aload_n 0, 1) := by decide +kernel
theorem dX9_disk_37 : decode cX9_disk 37 = .ok (.getfield 28, 3) := by decide +kernel
theorem dX9_disk_40 : decode cX9_disk 40 = .ok (.getfield 94, 3) := by decide +kernel
theorem dX9_disk_43 : decode cX9_disk 43 = .ok (.putfield 97, 3) := by decide +kernel
theorem dX9_disk_46 : decode cX9_disk 46 = .ok (.aload_n 0, 1) := by decide +kernel
theorem dX9_disk_47 : decode cX9_disk 47 = .ok (.aload_n 0, 1) := by decide +kernel
theorem dX9_disk_48 : decode cX9_disk 48 = .ok (.getfield 28, 3) := by decide +kernel
theorem dX9_disk_51 : decode cX9_disk 51 = .ok (.getfield 100, 3) := by decide +kernel
theorem dX9_disk_54 : decode cX9_disk 54 = .ok (.putfield 103, 3) := by decide +kernel
theorem dX9_disk_57 : decode cX9_disk 57 = .ok (.aload_n 0, 1) := by decide +kernel
theorem dX9_disk_58 : decode cX9_disk 58 = .ok (.getfield 97, 3) := by decide +kernel
theorem dX9_disk_61 : decode cX9_disk 61 = .ok (.ifCond .eq 9, 3) := by decide +kernel
theorem dX9_disk_64 : decode cX9_disk 64 = .ok (.aload_n 0, 1) := by decide +kernel
theorem dX9_disk_65 : decode cX9_disk 65 = .ok (.iconst 4, 1) := by decide +kernel
theorem dX9_disk_66 : decode cX9_disk 66 = .ok (.invokevirtual 86, 3) := by decide +kernel
theorem dX9_disk_69 : decode cX9_disk 69 = .ok (.ireturn, 1) := by decide +kernel
theorem dX9_disk_70 : decode cX9_disk 70 = .ok (.aload_n 0, 1) := by decide +kernel
theorem dX9_disk_71 : decode cX9_disk 71 = .ok (.getfield 16, 3) := by decide +kernel
theorem dX9_disk_74 : decode cX9_disk 74 = .ok (.astore_n 2, 1) := by decide +kernel
theorem dX9_disk_75 : decode cX9_disk 75 = .ok (.aload_n 0, 1) := by decide +kernel
theorem dX9_disk_76 : decode cX9_disk 76 = .ok (.aload_n 0, 1) := by decide +kernel
theorem dX9_disk_77 : decode cX9_disk 77 = .ok (.getfield 20, 3) := by decide +kernel
theorem dX9_disk_80 : decode cX9_disk 80 = .ok (.putfield 16, 3) := by decide +kernel
theorem dX9_disk_83 : decode cX9_disk 83 = .ok (.aload_n 0, 1) := by decide +kernel
theorem dX9_disk_84 : decode cX9_disk 84 = .ok (.aload_n 2, 1) := by decide +kernel
theorem dX9_disk_85 : decode cX9_disk 85 = .ok (.putfield 20, 3) := by decide +kernel
theorem dX9_disk_88 : decode cX9_disk 88 = .ok (.aload_n 0, 1) := by decide +kernel
theorem dX9_disk_89 : decode cX9_disk 89 = .ok (.invokevirtual 106, 3) := by decide +kernel
theorem dX9_disk_92 : decode cX9_disk 92 = .ok (.aload_n 0, 1) := by decide +kernel
theorem dX9_disk_93 : decode cX9_disk 93 = .ok (.aload_n 0, 1) := by decide +kernel
theorem dX9_disk_94 : decode cX9_disk 94 = .ok (.getfield 16, 3) := by decide +kernel
theorem dX9_disk_97 : decode cX9_disk 97 = .ok (.getfield 109, 3) := by decide +kernel
theorem dX9_disk_100 : decode cX9_disk 100 = .ok (.getfield 112, 3) := by decide +kernel
theorem dX9_disk_103 : decode cX9_disk 103 = .ok (.invokevirtual 115, 3) := by decide +kernel
theorem dX9_disk_106 : decode cX9_disk 106 = .ok (.ireturn, 1) := by decide +kernel
theorem dX9_beginAnew_0 : decode cX9_beginAnew 0 = .ok (.aload_n 0, 1) := by decide +kernel
theorem dX9_beginAnew_1 : decode cX9_beginAnew 1 = .ok (.getfield 42, 3) := by decide +kernel
theorem dX9_beginAnew_4 : decode cX9_beginAnew 4 = .ok (.aload_n 0, 1) := by decide +kernel
theorem dX9_beginAnew_5 : decode cX9_beginAnew 5 = .ok (.getfield 16, 3) := by decide +kernel
theorem dX9_beginAnew_8 : decode cX9_beginAnew 8 = .ok (.getfield 118, 3) := by decide +kernel
theorem dX9_beginAnew_11 : decode cX9_beginAnew 11 = .ok (.invokevirtual 122, 3) := by decide +kernel
theorem dX9_beginAnew_14 : decode cX9_beginAnew 14 = .ok (.aload_n 0, 1) := by decide +kernel
theorem dX9_beginAnew_15 : decode cX9_beginAnew 15 = .ok (.getfield 66, 3) := by decide +kernel
theorem dX9_beginAnew_18 : decode cX9_beginAnew 18 = .ok (.invokevirtual 126, 3) := by decide +kernel
theorem dX9_beginAnew_21 : decode cX9_beginAnew 21 = .ok (.aload_n 0, 1) := by decide +kernel
theorem dX9_beginAnew_22 : decode cX9_beginAnew 22 = .ok (.iconst 0, 1) := by decide +kernel
theorem dX9_beginAnew_23 : decode cX9_beginAnew 23 = .ok (.putfield 129, 3) := by decide +kernel
theorem dX9_beginAnew_26 : decode cX9_beginAnew 26 = .ok (.aload_n 0, 1) := by decide +kernel
theorem dX9_beginAnew_27 : decode cX9_beginAnew 27 = .ok (.getfield 35, 3) := by decide +kernel
theorem dX9_beginAnew_30 : decode cX9_beginAnew 30 = .ok (.iconst 0, 1) := by decide +kernel
theorem dX9_beginAnew_31 : decode cX9_beginAnew 31 = .ok (.putfield 132, 3) := by decide +kernel
theorem dX9_beginAnew_34 : decode cX9_beginAnew 34 = .ok (.iconst 0, 1) := by decide +kernel
theorem dX9_beginAnew_35 : decode cX9_beginAnew 35 = .ok (.istore_n 1, 1) := by decide +kernel
theorem dX9_beginAnew_36 : decode cX9_beginAnew 36 = .ok (.iload_n 1, 1) := by decide +kernel
theorem dX9_beginAnew_37 : decode cX9_beginAnew 37 = .ok (.bipush 16, 2) := by decide +kernel
theorem dX9_beginAnew_39 : decode cX9_beginAnew 39 = .ok (.if_icmp .ge 54, 3) := by decide +kernel
theorem dX9_beginAnew_42 : decode cX9_beginAnew 42 = .ok (.iload_n 1, 1) := by decide +kernel
theorem dX9_beginAnew_43 : decode cX9_beginAnew 43 = .ok (.iconst 1, 1) := by decide +kernel
theorem dX9_beginAnew_44 : decode cX9_beginAnew 44 = .ok (.aload_n 0, 1) := by decide +kernel
theorem dX9_beginAnew_45 : decode cX9_beginAnew 45 = .ok (.getfield 16, 3) := by decide +kernel
theorem dX9_beginAnew_48 : decode cX9_beginAnew 48 = .ok (.getfield 135, 3) := by decide +kernel
theorem dX9_beginAnew_51 : decode cX9_beginAnew 51 = .ok (.getfield 138, 3) := by decide +kernel
theorem dX9_beginAnew_54 : decode cX9_beginAnew 54 = .ok (.ishl, 1) := by decide +kernel
theorem dX9_beginAnew_55 : decode cX9_beginAnew 55 = .ok (.if_icmp .ge 38, 3) := by decide +kernel
theorem dX9_beginAnew_58 : decode cX9_beginAnew 58 = .ok (.aload_n 0, 1) := by decide +kernel
theorem dX9_beginAnew_59 : decode cX9_beginAnew 59 = .ok (.aload_n 0, 1) := by decide +kernel
theorem dX9_beginAnew_60 : decode cX9_beginAnew 60 = .ok (.getfield 16, 3) := by decide +kernel
theorem dX9_beginAnew_63 : decode cX9_beginAnew 63 = .ok (.getfield 109, 3) := by decide +kernel
theorem dX9_beginAnew_66 : decode cX9_beginAnew 66 = .ok (.iload_n 1, 1) := by decide +kernel
theorem dX9_beginAnew_67 : decode cX9_beginAnew 67 = .ok (.invokevirtual 141, 3) := by decide +kernel
theorem dX9_beginAnew_70 : decode cX9_beginAnew 70 = .ok (.aload_n 0, 1) := by decide +kernel
theorem dX9_beginAnew_71 : decode cX9_beginAnew 71 = .ok (.invokevirtual 145, 3) := by decide +kernel
theorem dX9_beginAnew_74 : decode cX9_beginAnew 74 = .ok (.bipush (-2), 2) := by decide +kernel
theorem dX9_beginAnew_76 : decode cX9_beginAnew 76 = .ok (.if_icmp .ne 11, 3) := by decide +kernel
theorem dX9_beginAnew_79 : decode cX9_beginAnew 79 = .ok (.aload_n 0, 1) := by decide +kernel
theorem dX9_beginAnew_80 : decode cX9_beginAnew 80 = .ok (.getfield 35, 3) := by decide +kernel
theorem dX9_beginAnew_83 : decode cX9_beginAnew 83 = .ok (.iload_n 1, 1) := by decide +kernel
theorem dX9_beginAnew_84 : decode cX9_beginAnew 84 = .ok (.invokevirtual 149, 3) := by decide +kernel
theorem dX9_beginAnew_87 : decode cX9_beginAnew 87 = .ok (.iinc 1 1, 3) := by decide +kernel
theorem dX9_beginAnew_90 : decode cX9_beginAnew 90 = .ok (.goto (-54), 3) := by decide +kernel
theorem dX9_beginAnew_93 : decode cX9_beginAnew 93 = .ok (.return_, 1) := by decide +kernel
theorem dX9_fault_0 : decode cX9_fault 0 = .ok (.aload_n 0, 1) := by decide +kernel
theorem dX9_fault_1 : decode cX9_fault 1 = .ok (.getfield 97, 3) := by decide +kernel
theorem dX9_fault_4 : decode cX9_fault 4 = .ok (.ireturn, 1) := by decide +kernel
theorem dX9_where_0 : decode cX9_where 0 = .ok (.aload_n 0, 1) := by decide +kernel
theorem dX9_where_1 : decode cX9_where 1 = .ok (.getfield 152, 3) := by decide +kernel
theorem dX9_where_4 : decode cX9_where 4 = .ok (.iconst 4, 1) := by decide +kernel
theorem dX9_where_5 : decode cX9_where 5 = .ok (.if_icmp .ne 10, 3) := by decide +kernel
theorem dX9_where_8 : decode cX9_where 8 = .ok (.aload_n 0, 1) := by decide +kernel
theorem dX9_where_9 : decode cX9_where 9 = .ok (.getfield 103, 3) := by decide +kernel
theorem dX9_where_12 : decode cX9_where 12 = .ok (.goto 4, 3) := by decide +kernel
theorem dX9_where_15 : decode cX9_where 15 = .ok (.iconst (-1), 1) := by decide +kernel
theorem dX9_where_16 : decode cX9_where 16 = .ok (.ireturn, 1) := by decide +kernel
theorem dX9_refuse_0 : decode cX9_refuse 0 = .ok (.aload_n 0, 1) := by decide +kernel
theorem dX9_refuse_1 : decode cX9_refuse 1 = .ok (.iload_n 1, 1) := by decide +kernel
theorem dX9_refuse_2 : decode cX9_refuse 2 = .ok (.putfield 152, 3) := by decide +kernel
theorem dX9_refuse_5 : decode cX9_refuse 5 = .ok (.iconst (-1), 1) := by decide +kernel
theorem dX9_refuse_6 : decode cX9_refuse 6 = .ok (.ireturn, 1) := by decide +kernel
theorem dX9_accept_0 : decode cX9_accept 0 = .ok (.aload_n 0, 1) := by decide +kernel
theorem dX9_accept_1 : decode cX9_accept 1 = .ok (.iconst 0, 1) := by decide +kernel
theorem dX9_accept_2 : decode cX9_accept 2 = .ok (.putfield 152, 3) := by decide +kernel
theorem dX9_accept_5 : decode cX9_accept 5 = .ok (.iload_n 1, 1) := by decide +kernel
theorem dX9_accept_6 : decode cX9_accept 6 = .ok (.ireturn, 1) := by decide +kernel
theorem dX9_hasDisk_0 : decode cX9_hasDisk 0 = .ok (.aload_n 0, 1) := by decide +kernel
theorem dX9_hasDisk_1 : decode cX9_hasDisk 1 = .ok (.getfield 16, 3) := by decide +kernel
theorem dX9_hasDisk_4 : decode cX9_hasDisk 4 = .ok (.getfield 109, 3) := by decide +kernel
theorem dX9_hasDisk_7 : decode cX9_hasDisk 7 = .ok (.getfield 155, 3) := by decide +kernel
theorem dX9_hasDisk_10 : decode cX9_hasDisk 10 = .ok (.ifCond .le 7, 3) := by decide +kernel
theorem dX9_hasDisk_13 : decode cX9_hasDisk 13 = .ok (.iconst 1, 1) := by decide +kernel
theorem dX9_hasDisk_14 : decode cX9_hasDisk 14 = .ok (.goto 4, 3) := by decide +kernel
theorem dX9_hasDisk_17 : decode cX9_hasDisk 17 = .ok (.iconst 0, 1) := by decide +kernel
theorem dX9_hasDisk_18 : decode cX9_hasDisk 18 = .ok (.ireturn, 1) := by decide +kernel
theorem dX9_hasTrack_0 : decode cX9_hasTrack 0 = .ok (.iload_n 1, 1) := by decide +kernel
theorem dX9_hasTrack_1 : decode cX9_hasTrack 1 = .ok (.ifCond .lt 21, 3) := by decide +kernel
theorem dX9_hasTrack_4 : decode cX9_hasTrack 4 = .ok (.iload_n 1, 1) := by decide +kernel
theorem dX9_hasTrack_5 : decode cX9_hasTrack 5 = .ok (.aload_n 0, 1) := by decide +kernel
theorem dX9_hasTrack_6 : decode cX9_hasTrack 6 = .ok (.getfield 16, 3) := by decide +kernel
theorem dX9_hasTrack_9 : decode cX9_hasTrack 9 = .ok (.getfield 109, 3) := by decide +kernel
theorem dX9_hasTrack_12 : decode cX9_hasTrack 12 = .ok (.getfield 112, 3) := by decide +kernel
theorem dX9_hasTrack_15 : decode cX9_hasTrack 15 = .ok (.if_icmp .ge 7, 3) := by decide +kernel
theorem dX9_hasTrack_18 : decode cX9_hasTrack 18 = .ok (.iconst 1, 1) := by decide +kernel
theorem dX9_hasTrack_19 : decode cX9_hasTrack 19 = .ok (.goto 4, 3) := by decide +kernel
theorem dX9_hasTrack_22 : decode cX9_hasTrack 22 = .ok (.iconst 0, 1) := by decide +kernel
theorem dX9_hasTrack_23 : decode cX9_hasTrack 23 = .ok (.ireturn, 1) := by decide +kernel
theorem dX9_hasBand_0 : decode cX9_hasBand 0 = .ok (.iload_n 1, 1) := by decide +kernel
theorem dX9_hasBand_1 : decode cX9_hasBand 1 = .ok (.ifCond .lt 21, 3) := by decide +kernel
theorem dX9_hasBand_4 : decode cX9_hasBand 4 = .ok (.iload_n 1, 1) := by decide +kernel
theorem dX9_hasBand_5 : decode cX9_hasBand 5 = .ok (.aload_n 0, 1) := by decide +kernel
theorem dX9_hasBand_6 : decode cX9_hasBand 6 = .ok (.getfield 16, 3) := by decide +kernel
theorem dX9_hasBand_9 : decode cX9_hasBand 9 = .ok (.getfield 109, 3) := by decide +kernel
theorem dX9_hasBand_12 : decode cX9_hasBand 12 = .ok (.getfield 155, 3) := by decide +kernel
theorem dX9_hasBand_15 : decode cX9_hasBand 15 = .ok (.if_icmp .ge 7, 3) := by decide +kernel
theorem dX9_hasBand_18 : decode cX9_hasBand 18 = .ok (.iconst 1, 1) := by decide +kernel
theorem dX9_hasBand_19 : decode cX9_hasBand 19 = .ok (.goto 4, 3) := by decide +kernel
theorem dX9_hasBand_22 : decode cX9_hasBand 22 = .ok (.iconst 0, 1) := by decide +kernel
theorem dX9_hasBand_23 : decode cX9_hasBand 23 = .ok (.ireturn, 1) := by decide +kernel
theorem dX9_read_0 : decode cX9_read 0 = .ok (.aload_n 0, 1) := by decide +kernel
theorem dX9_read_1 : decode cX9_read 1 = .ok (.iload_n 1, 1) := by decide +kernel
theorem dX9_read_2 : decode cX9_read 2 = .ok (.invokevirtual 158, 3) := by decide +kernel
theorem dX9_read_5 : decode cX9_read 5 = .ok (.ifCond .ne 9, 3) := by decide +kernel
theorem dX9_read_8 : decode cX9_read 8 = .ok (.aload_n 0, 1) := by decide +kernel
theorem dX9_read_9 : decode cX9_read 9 = .ok (.iconst 1, 1) := by decide +kernel
theorem dX9_read_10 : decode cX9_read 10 = .ok (.invokevirtual 86, 3) := by decide +kernel
theorem dX9_read_13 : decode cX9_read 13 = .ok (.ireturn, 1) := by decide +kernel
theorem dX9_read_14 : decode cX9_read 14 = .ok (.aload_n 0, 1) := by decide +kernel
theorem dX9_read_15 : decode cX9_read 15 = .ok (.getfield 42, 3) := by decide +kernel
theorem dX9_read_18 : decode cX9_read 18 = .ok (.getfield 162, 3) := by decide +kernel
theorem dX9_read_21 : decode cX9_read 21 = .ok (.ifCond .eq 9, 3) := by decide +kernel
theorem dX9_read_24 : decode cX9_read 24 = .ok (.aload_n 0, 1) := by decide +kernel
theorem dX9_read_25 : decode cX9_read 25 = .ok (.iconst 5, 1) := by decide +kernel
theorem dX9_read_26 : decode cX9_read 26 = .ok (.invokevirtual 86, 3) := by decide +kernel
theorem dX9_read_29 : decode cX9_read 29 = .ok (.ireturn, 1) := by decide +kernel
theorem dX9_read_30 : decode cX9_read 30 = .ok (.aload_n 0, 1) := by decide +kernel
theorem dX9_read_31 : decode cX9_read 31 = .ok (.aload_n 0, 1) := by decide +kernel
theorem dX9_read_32 : decode cX9_read 32 = .ok (.getfield 42, 3) := by decide +kernel
theorem dX9_read_35 : decode cX9_read 35 = .ok (.iload_n 1, 1) := by decide +kernel
theorem dX9_read_36 : decode cX9_read 36 = .ok (.invokevirtual 166, 3) := by decide +kernel
theorem dX9_read_39 : decode cX9_read 39 = .ok (.invokevirtual 115, 3) := by decide +kernel
theorem dX9_read_42 : decode cX9_read 42 = .ok (.ireturn, 1) := by decide +kernel
theorem dX9_track_0 : decode cX9_track 0 = .ok (.aload_n 0, 1) := by decide +kernel
theorem dX9_track_1 : decode cX9_track 1 = .ok (.iload_n 1, 1) := by decide +kernel
theorem dX9_track_2 : decode cX9_track 2 = .ok (.invokevirtual 158, 3) := by decide +kernel
theorem dX9_track_5 : decode cX9_track 5 = .ok (.ifCond .ne 9, 3) := by decide +kernel
theorem dX9_track_8 : decode cX9_track 8 = .ok (.aload_n 0, 1) := by decide +kernel
theorem dX9_track_9 : decode cX9_track 9 = .ok (.iconst 1, 1) := by decide +kernel
theorem dX9_track_10 : decode cX9_track 10 = .ok (.invokevirtual 86, 3) := by decide +kernel
theorem dX9_track_13 : decode cX9_track 13 = .ok (.ireturn, 1) := by decide +kernel
theorem dX9_track_14 : decode cX9_track 14 = .ok (.aload_n 0, 1) := by decide +kernel
theorem dX9_track_15 : decode cX9_track 15 = .ok (.aload_n 0, 1) := by decide +kernel
theorem dX9_track_16 : decode cX9_track 16 = .ok (.getfield 42, 3) := by decide +kernel
theorem dX9_track_19 : decode cX9_track 19 = .ok (.getfield 169, 3) := by decide +kernel
theorem dX9_track_22 : decode cX9_track 22 = .ok (.iload_n 1, 1) := by decide +kernel
theorem dX9_track_23 : decode cX9_track 23 = .ok (.invokestatic 173, 3) := by decide +kernel
theorem dX9_track_26 : decode cX9_track 26 = .ok (.invokevirtual 115, 3) := by decide +kernel
theorem dX9_track_29 : decode cX9_track 29 = .ok (.ireturn, 1) := by decide +kernel
theorem dX9_bandOf_0 : decode cX9_bandOf 0 = .ok (.aload_n 0, 1) := by decide +kernel
theorem dX9_bandOf_1 : decode cX9_bandOf 1 = .ok (.iload_n 1, 1) := by decide +kernel
theorem dX9_bandOf_2 : decode cX9_bandOf 2 = .ok (.invokevirtual 158, 3) := by decide +kernel
theorem dX9_bandOf_5 : decode cX9_bandOf 5 = .ok (.ifCond .ne 9, 3) := by decide +kernel
theorem dX9_bandOf_8 : decode cX9_bandOf 8 = .ok (.aload_n 0, 1) := by decide +kernel
theorem dX9_bandOf_9 : decode cX9_bandOf 9 = .ok (.iconst 1, 1) := by decide +kernel
theorem dX9_bandOf_10 : decode cX9_bandOf 10 = .ok (.invokevirtual 86, 3) := by decide +kernel
theorem dX9_bandOf_13 : decode cX9_bandOf 13 = .ok (.ireturn, 1) := by decide +kernel
theorem dX9_bandOf_14 : decode cX9_bandOf 14 = .ok (.aload_n 0, 1) := by decide +kernel
theorem dX9_bandOf_15 : decode cX9_bandOf 15 = .ok (.aload_n 0, 1) := by decide +kernel
theorem dX9_bandOf_16 : decode cX9_bandOf 16 = .ok (.getfield 16, 3) := by decide +kernel
theorem dX9_bandOf_19 : decode cX9_bandOf 19 = .ok (.getfield 109, 3) := by decide +kernel
theorem dX9_bandOf_22 : decode cX9_bandOf 22 = .ok (.iload_n 1, 1) := by decide +kernel
theorem dX9_bandOf_23 : decode cX9_bandOf 23 = .ok (.invokevirtual 177, 3) := by decide +kernel
theorem dX9_bandOf_26 : decode cX9_bandOf 26 = .ok (.invokevirtual 115, 3) := by decide +kernel
theorem dX9_bandOf_29 : decode cX9_bandOf 29 = .ok (.ireturn, 1) := by decide +kernel
theorem dX9_band_0 : decode cX9_band 0 = .ok (.aload_n 0, 1) := by decide +kernel
theorem dX9_band_1 : decode cX9_band 1 = .ok (.iload_n 1, 1) := by decide +kernel
theorem dX9_band_2 : decode cX9_band 2 = .ok (.invokevirtual 180, 3) := by decide +kernel
theorem dX9_band_5 : decode cX9_band 5 = .ok (.ifCond .ne 9, 3) := by decide +kernel
theorem dX9_band_8 : decode cX9_band 8 = .ok (.aload_n 0, 1) := by decide +kernel
theorem dX9_band_9 : decode cX9_band 9 = .ok (.iconst 1, 1) := by decide +kernel
theorem dX9_band_10 : decode cX9_band 10 = .ok (.invokevirtual 86, 3) := by decide +kernel
theorem dX9_band_13 : decode cX9_band 13 = .ok (.ireturn, 1) := by decide +kernel
theorem dX9_band_14 : decode cX9_band 14 = .ok (.iload_n 2, 1) := by decide +kernel
theorem dX9_band_15 : decode cX9_band 15 = .ok (.tableswitch 125 0 4 #[33, 49, 65, 85, 105], 33) := by decide +kernel
theorem dX9_band_48 : decode cX9_band 48 = .ok (.aload_n 0, 1) := by decide +kernel
theorem dX9_band_49 : decode cX9_band 49 = .ok (.aload_n 0, 1) := by decide +kernel
theorem dX9_band_50 : decode cX9_band 50 = .ok (.getfield 16, 3) := by decide +kernel
theorem dX9_band_53 : decode cX9_band 53 = .ok (.getfield 109, 3) := by decide +kernel
theorem dX9_band_56 : decode cX9_band 56 = .ok (.iload_n 1, 1) := by decide +kernel
theorem dX9_band_57 : decode cX9_band 57 = .ok (.invokevirtual 183, 3) := by decide +kernel
theorem dX9_band_60 : decode cX9_band 60 = .ok (.invokevirtual 115, 3) := by decide +kernel
theorem dX9_band_63 : decode cX9_band 63 = .ok (.ireturn, 1) := by decide +kernel
theorem dX9_band_64 : decode cX9_band 64 = .ok (.aload_n 0, 1) := by decide +kernel
theorem dX9_band_65 : decode cX9_band 65 = .ok (.aload_n 0, 1) := by decide +kernel
theorem dX9_band_66 : decode cX9_band 66 = .ok (.getfield 16, 3) := by decide +kernel
theorem dX9_band_69 : decode cX9_band 69 = .ok (.getfield 109, 3) := by decide +kernel
theorem dX9_band_72 : decode cX9_band 72 = .ok (.iload_n 1, 1) := by decide +kernel
theorem dX9_band_73 : decode cX9_band 73 = .ok (.invokevirtual 186, 3) := by decide +kernel
theorem dX9_band_76 : decode cX9_band 76 = .ok (.invokevirtual 115, 3) := by decide +kernel
theorem dX9_band_79 : decode cX9_band 79 = .ok (.ireturn, 1) := by decide +kernel
theorem dX9_band_80 : decode cX9_band 80 = .ok (.aload_n 0, 1) := by decide +kernel
theorem dX9_band_81 : decode cX9_band 81 = .ok (.aload_n 0, 1) := by decide +kernel
theorem dX9_band_82 : decode cX9_band 82 = .ok (.getfield 42, 3) := by decide +kernel
theorem dX9_band_85 : decode cX9_band 85 = .ok (.aload_n 0, 1) := by decide +kernel
theorem dX9_band_86 : decode cX9_band 86 = .ok (.getfield 16, 3) := by decide +kernel
theorem dX9_band_89 : decode cX9_band 89 = .ok (.getfield 109, 3) := by decide +kernel
theorem dX9_band_92 : decode cX9_band 92 = .ok (.iload_n 1, 1) := by decide +kernel
theorem dX9_band_93 : decode cX9_band 93 = .ok (.invokevirtual 189, 3) := by decide +kernel
theorem dX9_band_96 : decode cX9_band 96 = .ok (.invokevirtual 115, 3) := by decide +kernel
theorem dX9_band_99 : decode cX9_band 99 = .ok (.ireturn, 1) := by decide +kernel
theorem dX9_band_100 : decode cX9_band 100 = .ok (.aload_n 0, 1) := by decide +kernel
theorem dX9_band_101 : decode cX9_band 101 = .ok (.aload_n 0, 1) := by decide +kernel
theorem dX9_band_102 : decode cX9_band 102 = .ok (.getfield 42, 3) := by decide +kernel
theorem dX9_band_105 : decode cX9_band 105 = .ok (.aload_n 0, 1) := by decide +kernel
theorem dX9_band_106 : decode cX9_band 106 = .ok (.getfield 16, 3) := by decide +kernel
theorem dX9_band_109 : decode cX9_band 109 = .ok (.getfield 109, 3) := by decide +kernel
theorem dX9_band_112 : decode cX9_band 112 = .ok (.iload_n 1, 1) := by decide +kernel
theorem dX9_band_113 : decode cX9_band 113 = .ok (.invokevirtual 193, 3) := by decide +kernel
theorem dX9_band_116 : decode cX9_band 116 = .ok (.invokevirtual 115, 3) := by decide +kernel
theorem dX9_band_119 : decode cX9_band 119 = .ok (.ireturn, 1) := by decide +kernel
theorem dX9_band_120 : decode cX9_band 120 = .ok (.aload_n 0, 1) := by decide +kernel
theorem dX9_band_121 : decode cX9_band 121 = .ok (.aload_n 0, 1) := by decide +kernel
theorem dX9_band_122 : decode cX9_band 122 = .ok (.getfield 42, 3) := by decide +kernel
theorem dX9_band_125 : decode cX9_band 125 = .ok (.aload_n 0, 1) := by decide +kernel
theorem dX9_band_126 : decode cX9_band 126 = .ok (.getfield 16, 3) := by decide +kernel
theorem dX9_band_129 : decode cX9_band 129 = .ok (.getfield 109, 3) := by decide +kernel
theorem dX9_band_132 : decode cX9_band 132 = .ok (.iload_n 1, 1) := by decide +kernel
theorem dX9_band_133 : decode cX9_band 133 = .ok (.invokevirtual 196, 3) := by decide +kernel
theorem dX9_band_136 : decode cX9_band 136 = .ok (.invokevirtual 115, 3) := by decide +kernel
theorem dX9_band_139 : decode cX9_band 139 = .ok (.ireturn, 1) := by decide +kernel
theorem dX9_band_140 : decode cX9_band 140 = .ok (.aload_n 0, 1) := by decide +kernel
theorem dX9_band_141 : decode cX9_band 141 = .ok (.iconst 1, 1) := by decide +kernel
theorem dX9_band_142 : decode cX9_band 142 = .ok (.invokevirtual 86, 3) := by decide +kernel
theorem dX9_band_145 : decode cX9_band 145 = .ok (.ireturn, 1) := by decide +kernel
theorem dX9_wide_0 : decode cX9_wide 0 = .ok (.aload_n 0, 1) := by decide +kernel
theorem dX9_wide_1 : decode cX9_wide 1 = .ok (.invokevirtual 199, 3) := by decide +kernel
theorem dX9_wide_4 : decode cX9_wide 4 = .ok (.ifCond .ne 9, 3) := by decide +kernel
theorem dX9_wide_7 : decode cX9_wide 7 = .ok (.aload_n 0, 1) := by decide +kernel
theorem dX9_wide_8 : decode cX9_wide 8 = .ok (.iconst 1, 1) := by decide +kernel
theorem dX9_wide_9 : decode cX9_wide 9 = .ok (.invokevirtual 86, 3) := by decide +kernel
theorem dX9_wide_12 : decode cX9_wide 12 = .ok (.ireturn, 1) := by decide +kernel
theorem dX9_wide_13 : decode cX9_wide 13 = .ok (.aload_n 0, 1) := by decide +kernel
theorem dX9_wide_14 : decode cX9_wide 14 = .ok (.aload_n 0, 1) := by decide +kernel
theorem dX9_wide_15 : decode cX9_wide 15 = .ok (.getfield 16, 3) := by decide +kernel
theorem dX9_wide_18 : decode cX9_wide 18 = .ok (.getfield 109, 3) := by decide +kernel
theorem dX9_wide_21 : decode cX9_wide 21 = .ok (.getfield 112, 3) := by decide +kernel
theorem dX9_wide_24 : decode cX9_wide 24 = .ok (.aload_n 0, 1) := by decide +kernel
theorem dX9_wide_25 : decode cX9_wide 25 = .ok (.getfield 16, 3) := by decide +kernel
theorem dX9_wide_28 : decode cX9_wide 28 = .ok (.getfield 109, 3) := by decide +kernel
theorem dX9_wide_31 : decode cX9_wide 31 = .ok (.getfield 155, 3) := by decide +kernel
theorem dX9_wide_34 : decode cX9_wide 34 = .ok (.iconst 1, 1) := by decide +kernel
theorem dX9_wide_35 : decode cX9_wide 35 = .ok (.isub, 1) := by decide +kernel
theorem dX9_wide_36 : decode cX9_wide 36 = .ok (.aload_n 0, 1) := by decide +kernel
theorem dX9_wide_37 : decode cX9_wide 37 = .ok (.getfield 16, 3) := by decide +kernel
theorem dX9_wide_40 : decode cX9_wide 40 = .ok (.getfield 109, 3) := by decide +kernel
theorem dX9_wide_43 : decode cX9_wide 43 = .ok (.getfield 203, 3) := by decide +kernel
theorem dX9_wide_46 : decode cX9_wide 46 = .ok (.imul, 1) := by decide +kernel
theorem dX9_wide_47 : decode cX9_wide 47 = .ok (.iadd, 1) := by decide +kernel
theorem dX9_wide_48 : decode cX9_wide 48 = .ok (.invokevirtual 115, 3) := by decide +kernel
theorem dX9_wide_51 : decode cX9_wide 51 = .ok (.ireturn, 1) := by decide +kernel
theorem dX9_down_0 : decode cX9_down 0 = .ok (.aload_n 0, 1) := by decide +kernel
theorem dX9_down_1 : decode cX9_down 1 = .ok (.invokevirtual 199, 3) := by decide +kernel
theorem dX9_down_4 : decode cX9_down 4 = .ok (.ifCond .ne 9, 3) := by decide +kernel
theorem dX9_down_7 : decode cX9_down 7 = .ok (.aload_n 0, 1) := by decide +kernel
theorem dX9_down_8 : decode cX9_down 8 = .ok (.iconst 1, 1) := by decide +kernel
theorem dX9_down_9 : decode cX9_down 9 = .ok (.invokevirtual 86, 3) := by decide +kernel
theorem dX9_down_12 : decode cX9_down 12 = .ok (.ireturn, 1) := by decide +kernel
theorem dX9_down_13 : decode cX9_down 13 = .ok (.aload_n 0, 1) := by decide +kernel
theorem dX9_down_14 : decode cX9_down 14 = .ok (.aload_n 0, 1) := by decide +kernel
theorem dX9_down_15 : decode cX9_down 15 = .ok (.getfield 42, 3) := by decide +kernel
theorem dX9_down_18 : decode cX9_down 18 = .ok (.getfield 162, 3) := by decide +kernel
theorem dX9_down_21 : decode cX9_down 21 = .ok (.ifCond .eq 7, 3) := by decide +kernel
theorem dX9_down_24 : decode cX9_down 24 = .ok (.iconst 1, 1) := by decide +kernel
theorem dX9_down_25 : decode cX9_down 25 = .ok (.goto 4, 3) := by decide +kernel
theorem dX9_down_28 : decode cX9_down 28 = .ok (.iconst 0, 1) := by decide +kernel
theorem dX9_down_29 : decode cX9_down 29 = .ok (.invokevirtual 115, 3) := by decide +kernel
theorem dX9_down_32 : decode cX9_down 32 = .ok (.ireturn, 1) := by decide +kernel
theorem dX9_journal_0 : decode cX9_journal 0 = .ok (.aload_n 0, 1) := by decide +kernel
theorem dX9_journal_1 : decode cX9_journal 1 = .ok (.invokevirtual 199, 3) := by decide +kernel
theorem dX9_journal_4 : decode cX9_journal 4 = .ok (.ifCond .ne 9, 3) := by decide +kernel
theorem dX9_journal_7 : decode cX9_journal 7 = .ok (.aload_n 0, 1) := by decide +kernel
theorem dX9_journal_8 : decode cX9_journal 8 = .ok (.iconst 1, 1) := by decide +kernel
theorem dX9_journal_9 : decode cX9_journal 9 = .ok (.invokevirtual 86, 3) := by decide +kernel
theorem dX9_journal_12 : decode cX9_journal 12 = .ok (.ireturn, 1) := by decide +kernel
theorem dX9_journal_13 : decode cX9_journal 13 = .ok (.aload_n 0, 1) := by decide +kernel
theorem dX9_journal_14 : decode cX9_journal 14 = .ok (.aload_n 0, 1) := by decide +kernel
theorem dX9_journal_15 : decode cX9_journal 15 = .ok (.getfield 42, 3) := by decide +kernel
theorem dX9_journal_18 : decode cX9_journal 18 = .ok (.getfield 206, 3) := by decide +kernel
theorem dX9_journal_21 : decode cX9_journal 21 = .ok (.invokevirtual 115, 3) := by decide +kernel
theorem dX9_journal_24 : decode cX9_journal 24 = .ok (.ireturn, 1) := by decide +kernel
theorem dX9_entries_0 : decode cX9_entries 0 = .ok (.aload_n 0, 1) := by decide +kernel
theorem dX9_entries_1 : decode cX9_entries 1 = .ok (.invokevirtual 199, 3) := by decide +kernel
theorem dX9_entries_4 : decode cX9_entries 4 = .ok (.ifCond .ne 9, 3) := by decide +kernel
theorem dX9_entries_7 : decode cX9_entries 7 = .ok (.aload_n 0, 1) := by decide +kernel
theorem dX9_entries_8 : decode cX9_entries 8 = .ok (.iconst 1, 1) := by decide +kernel
theorem dX9_entries_9 : decode cX9_entries 9 = .ok (.invokevirtual 86, 3) := by decide +kernel
theorem dX9_entries_12 : decode cX9_entries 12 = .ok (.ireturn, 1) := by decide +kernel
theorem dX9_entries_13 : decode cX9_entries 13 = .ok (.aload_n 0, 1) := by decide +kernel
theorem dX9_entries_14 : decode cX9_entries 14 = .ok (.aload_n 0, 1) := by decide +kernel
theorem dX9_entries_15 : decode cX9_entries 15 = .ok (.getfield 42, 3) := by decide +kernel
theorem dX9_entries_18 : decode cX9_entries 18 = .ok (.getfield 209, 3) := by decide +kernel
theorem dX9_entries_21 : decode cX9_entries 21 = .ok (.invokevirtual 115, 3) := by decide +kernel
theorem dX9_entries_24 : decode cX9_entries 24 = .ok (.ireturn, 1) := by decide +kernel
theorem dX9_entry_0 : decode cX9_entry 0 = .ok (.iload_n 1, 1) := by decide +kernel
theorem dX9_entry_1 : decode cX9_entry 1 = .ok (.ifCond .lt 14, 3) := by decide +kernel
theorem dX9_entry_4 : decode cX9_entry 4 = .ok (.iload_n 1, 1) := by decide +kernel
theorem dX9_entry_5 : decode cX9_entry 5 = .ok (.aload_n 0, 1) := by decide +kernel
theorem dX9_entry_6 : decode cX9_entry 6 = .ok (.getfield 42, 3) := by decide +kernel
theorem dX9_entry_9 : decode cX9_entry 9 = .ok (.getfield 209, 3) := by decide +kernel
theorem dX9_entry_12 : decode cX9_entry 12 = .ok (.if_icmp .lt 9, 3) := by decide +kernel
theorem dX9_entry_15 : decode cX9_entry 15 = .ok (.aload_n 0, 1) := by decide +kernel
theorem dX9_entry_16 : decode cX9_entry 16 = .ok (.iconst 1, 1) := by decide +kernel
theorem dX9_entry_17 : decode cX9_entry 17 = .ok (.invokevirtual 86, 3) := by decide +kernel
theorem dX9_entry_20 : decode cX9_entry 20 = .ok (.ireturn, 1) := by decide +kernel
theorem dX9_entry_21 : decode cX9_entry 21 = .ok (.iload_n 2, 1) := by decide +kernel
theorem dX9_entry_22 : decode cX9_entry 22 = .ok (.tableswitch 79 0 2 #[26, 42, 58], 26) := by decide +kernel
theorem dX9_entry_48 : decode cX9_entry 48 = .ok (.aload_n 0, 1) := by decide +kernel
theorem dX9_entry_49 : decode cX9_entry 49 = .ok (.aload_n 0, 1) := by decide +kernel
theorem dX9_entry_50 : decode cX9_entry 50 = .ok (.getfield 42, 3) := by decide +kernel
theorem dX9_entry_53 : decode cX9_entry 53 = .ok (.getfield 212, 3) := by decide +kernel
theorem dX9_entry_56 : decode cX9_entry 56 = .ok (.iload_n 1, 1) := by decide +kernel
theorem dX9_entry_57 : decode cX9_entry 57 = .ok (.invokestatic 173, 3) := by decide +kernel
theorem dX9_entry_60 : decode cX9_entry 60 = .ok (.invokevirtual 115, 3) := by decide +kernel
theorem dX9_entry_63 : decode cX9_entry 63 = .ok (.ireturn, 1) := by decide +kernel
theorem dX9_entry_64 : decode cX9_entry 64 = .ok (.aload_n 0, 1) := by decide +kernel
theorem dX9_entry_65 : decode cX9_entry 65 = .ok (.aload_n 0, 1) := by decide +kernel
theorem dX9_entry_66 : decode cX9_entry 66 = .ok (.getfield 42, 3) := by decide +kernel
theorem dX9_entry_69 : decode cX9_entry 69 = .ok (.getfield 215, 3) := by decide +kernel
theorem dX9_entry_72 : decode cX9_entry 72 = .ok (.iload_n 1, 1) := by decide +kernel
theorem dX9_entry_73 : decode cX9_entry 73 = .ok (.invokestatic 173, 3) := by decide +kernel
theorem dX9_entry_76 : decode cX9_entry 76 = .ok (.invokevirtual 115, 3) := by decide +kernel
theorem dX9_entry_79 : decode cX9_entry 79 = .ok (.ireturn, 1) := by decide +kernel
theorem dX9_entry_80 : decode cX9_entry 80 = .ok (.aload_n 0, 1) := by decide +kernel
theorem dX9_entry_81 : decode cX9_entry 81 = .ok (.aload_n 0, 1) := by decide +kernel
theorem dX9_entry_82 : decode cX9_entry 82 = .ok (.getfield 42, 3) := by decide +kernel
theorem dX9_entry_85 : decode cX9_entry 85 = .ok (.iload_n 1, 1) := by decide +kernel
theorem dX9_entry_86 : decode cX9_entry 86 = .ok (.invokevirtual 218, 3) := by decide +kernel
theorem dX9_entry_89 : decode cX9_entry 89 = .ok (.ifCond .eq 7, 3) := by decide +kernel
theorem dX9_entry_92 : decode cX9_entry 92 = .ok (.iconst 1, 1) := by decide +kernel
theorem dX9_entry_93 : decode cX9_entry 93 = .ok (.goto 4, 3) := by decide +kernel
theorem dX9_entry_96 : decode cX9_entry 96 = .ok (.iconst 0, 1) := by decide +kernel
theorem dX9_entry_97 : decode cX9_entry 97 = .ok (.invokevirtual 115, 3) := by decide +kernel
theorem dX9_entry_100 : decode cX9_entry 100 = .ok (.ireturn, 1) := by decide +kernel
theorem dX9_entry_101 : decode cX9_entry 101 = .ok (.aload_n 0, 1) := by decide +kernel
theorem dX9_entry_102 : decode cX9_entry 102 = .ok (.iconst 1, 1) := by decide +kernel
theorem dX9_entry_103 : decode cX9_entry 103 = .ok (.invokevirtual 86, 3) := by decide +kernel
theorem dX9_entry_106 : decode cX9_entry 106 = .ok (.ireturn, 1) := by decide +kernel
theorem dX9_live_0 : decode cX9_live 0 = .ok (.aload_n 0, 1) := by decide +kernel
theorem dX9_live_1 : decode cX9_live 1 = .ok (.invokevirtual 199, 3) := by decide +kernel
theorem dX9_live_4 : decode cX9_live 4 = .ok (.ifCond .ne 9, 3) := by decide +kernel
theorem dX9_live_7 : decode cX9_live 7 = .ok (.aload_n 0, 1) := by decide +kernel
theorem dX9_live_8 : decode cX9_live 8 = .ok (.iconst 1, 1) := by decide +kernel
theorem dX9_live_9 : decode cX9_live 9 = .ok (.invokevirtual 86, 3) := by decide +kernel
theorem dX9_live_12 : decode cX9_live 12 = .ok (.ireturn, 1) := by decide +kernel
theorem dX9_live_13 : decode cX9_live 13 = .ok (.iconst 0, 1) := by decide +kernel
theorem dX9_live_14 : decode cX9_live 14 = .ok (.istore_n 1, 1) := by decide +kernel
theorem dX9_live_15 : decode cX9_live 15 = .ok (.iconst 0, 1) := by decide +kernel
theorem dX9_live_16 : decode cX9_live 16 = .ok (.istore_n 2, 1) := by decide +kernel
theorem dX9_live_17 : decode cX9_live 17 = .ok (.iload_n 2, 1) := by decide +kernel
theorem dX9_live_18 : decode cX9_live 18 = .ok (.aload_n 0, 1) := by decide +kernel
theorem dX9_live_19 : decode cX9_live 19 = .ok (.getfield 42, 3) := by decide +kernel
theorem dX9_live_22 : decode cX9_live 22 = .ok (.getfield 209, 3) := by decide +kernel
theorem dX9_live_25 : decode cX9_live 25 = .ok (.if_icmp .ge 23, 3) := by decide +kernel
theorem dX9_live_28 : decode cX9_live 28 = .ok (.aload_n 0, 1) := by decide +kernel
theorem dX9_live_29 : decode cX9_live 29 = .ok (.getfield 42, 3) := by decide +kernel
theorem dX9_live_32 : decode cX9_live 32 = .ok (.iload_n 2, 1) := by decide +kernel
theorem dX9_live_33 : decode cX9_live 33 = .ok (.invokevirtual 218, 3) := by decide +kernel
theorem dX9_live_36 : decode cX9_live 36 = .ok (.ifCond .eq 6, 3) := by decide +kernel
theorem dX9_live_39 : decode cX9_live 39 = .ok (.iinc 1 1, 3) := by decide +kernel
theorem dX9_live_42 : decode cX9_live 42 = .ok (.iinc 2 1, 3) := by decide +kernel
theorem dX9_live_45 : decode cX9_live 45 = .ok (.goto (-28), 3) := by decide +kernel
theorem dX9_live_48 : decode cX9_live 48 = .ok (.aload_n 0, 1) := by decide +kernel
theorem dX9_live_49 : decode cX9_live 49 = .ok (.iload_n 1, 1) := by decide +kernel
theorem dX9_live_50 : decode cX9_live 50 = .ok (.invokevirtual 115, 3) := by decide +kernel
theorem dX9_live_53 : decode cX9_live 53 = .ok (.ireturn, 1) := by decide +kernel
theorem dX9_extents_0 : decode cX9_extents 0 = .ok (.aload_n 0, 1) := by decide +kernel
theorem dX9_extents_1 : decode cX9_extents 1 = .ok (.invokevirtual 199, 3) := by decide +kernel
theorem dX9_extents_4 : decode cX9_extents 4 = .ok (.ifCond .ne 9, 3) := by decide +kernel
theorem dX9_extents_7 : decode cX9_extents 7 = .ok (.aload_n 0, 1) := by decide +kernel
theorem dX9_extents_8 : decode cX9_extents 8 = .ok (.iconst 1, 1) := by decide +kernel
theorem dX9_extents_9 : decode cX9_extents 9 = .ok (.invokevirtual 86, 3) := by decide +kernel
theorem dX9_extents_12 : decode cX9_extents 12 = .ok (.ireturn, 1) := by decide +kernel
theorem dX9_extents_13 : decode cX9_extents 13 = .ok (.aload_n 0, 1) := by decide +kernel
theorem dX9_extents_14 : decode cX9_extents 14 = .ok (.aload_n 0, 1) := by decide +kernel
theorem dX9_extents_15 : decode cX9_extents 15 = .ok (.getfield 42, 3) := by decide +kernel
theorem dX9_extents_18 : decode cX9_extents 18 = .ok (.aload_n 0, 1) := by decide +kernel
theorem dX9_extents_19 : decode cX9_extents 19 = .ok (.getfield 16, 3) := by decide +kernel
theorem dX9_extents_22 : decode cX9_extents 22 = .ok (.getfield 109, 3) := by decide +kernel
theorem dX9_extents_25 : decode cX9_extents 25 = .ok (.getfield 112, 3) := by decide +kernel
theorem dX9_extents_28 : decode cX9_extents 28 = .ok (.iconst 1, 1) := by decide +kernel
theorem dX9_extents_29 : decode cX9_extents 29 = .ok (.isub, 1) := by decide +kernel
theorem dX9_extents_30 : decode cX9_extents 30 = .ok (.invokevirtual 221, 3) := by decide +kernel
theorem dX9_extents_33 : decode cX9_extents 33 = .ok (.invokevirtual 115, 3) := by decide +kernel
theorem dX9_extents_36 : decode cX9_extents 36 = .ok (.ireturn, 1) := by decide +kernel
theorem dX9_extent_0 : decode cX9_extent 0 = .ok (.aload_n 0, 1) := by decide +kernel
theorem dX9_extent_1 : decode cX9_extent 1 = .ok (.getfield 42, 3) := by decide +kernel
theorem dX9_extent_4 : decode cX9_extent 4 = .ok (.iload_n 1, 1) := by decide +kernel
theorem dX9_extent_5 : decode cX9_extent 5 = .ok (.aload_n 0, 1) := by decide +kernel
theorem dX9_extent_6 : decode cX9_extent 6 = .ok (.getfield 16, 3) := by decide +kernel
theorem dX9_extent_9 : decode cX9_extent 9 = .ok (.getfield 109, 3) := by decide +kernel
theorem dX9_extent_12 : decode cX9_extent 12 = .ok (.getfield 112, 3) := by decide +kernel
theorem dX9_extent_15 : decode cX9_extent 15 = .ok (.invokevirtual 224, 3) := by decide +kernel
theorem dX9_extent_18 : decode cX9_extent 18 = .ok (.istore_n 3, 1) := by decide +kernel
theorem dX9_extent_19 : decode cX9_extent 19 = .ok (.iload_n 3, 1) := by decide +kernel
theorem dX9_extent_20 : decode cX9_extent 20 = .ok (.bipush (-2), 2) := by decide +kernel
theorem dX9_extent_22 : decode cX9_extent 22 = .ok (.if_icmp .ne 9, 3) := by decide +kernel
theorem dX9_extent_25 : decode cX9_extent 25 = .ok (.aload_n 0, 1) := by decide +kernel
theorem dX9_extent_26 : decode cX9_extent 26 = .ok (.iconst 1, 1) := by decide +kernel
theorem dX9_extent_27 : decode cX9_extent 27 = .ok (.invokevirtual 86, 3) := by decide +kernel
theorem dX9_extent_30 : decode cX9_extent 30 = .ok (.ireturn, 1) := by decide +kernel
theorem dX9_extent_31 : decode cX9_extent 31 = .ok (.iload_n 2, 1) := by decide +kernel
theorem dX9_extent_32 : decode cX9_extent 32 = .ok (.tableswitch 70 0 2 #[28, 34, 57], 28) := by decide +kernel
theorem dX9_extent_60 : decode cX9_extent 60 = .ok (.aload_n 0, 1) := by decide +kernel
theorem dX9_extent_61 : decode cX9_extent 61 = .ok (.iload_n 3, 1) := by decide +kernel
theorem dX9_extent_62 : decode cX9_extent 62 = .ok (.invokevirtual 115, 3) := by decide +kernel
theorem dX9_extent_65 : decode cX9_extent 65 = .ok (.ireturn, 1) := by decide +kernel
theorem dX9_extent_66 : decode cX9_extent 66 = .ok (.aload_n 0, 1) := by decide +kernel
theorem dX9_extent_67 : decode cX9_extent 67 = .ok (.aload_n 0, 1) := by decide +kernel
theorem dX9_extent_68 : decode cX9_extent 68 = .ok (.getfield 42, 3) := by decide +kernel
theorem dX9_extent_71 : decode cX9_extent 71 = .ok (.iload_n 3, 1) := by decide +kernel
theorem dX9_extent_72 : decode cX9_extent 72 = .ok (.aload_n 0, 1) := by decide +kernel
theorem dX9_extent_73 : decode cX9_extent 73 = .ok (.getfield 16, 3) := by decide +kernel
theorem dX9_extent_76 : decode cX9_extent 76 = .ok (.getfield 109, 3) := by decide +kernel
theorem dX9_extent_79 : decode cX9_extent 79 = .ok (.getfield 112, 3) := by decide +kernel
theorem dX9_extent_82 : decode cX9_extent 82 = .ok (.invokevirtual 228, 3) := by decide +kernel
theorem dX9_extent_85 : decode cX9_extent 85 = .ok (.invokevirtual 115, 3) := by decide +kernel
theorem dX9_extent_88 : decode cX9_extent 88 = .ok (.ireturn, 1) := by decide +kernel
theorem dX9_extent_89 : decode cX9_extent 89 = .ok (.aload_n 0, 1) := by decide +kernel
theorem dX9_extent_90 : decode cX9_extent 90 = .ok (.aload_n 0, 1) := by decide +kernel
theorem dX9_extent_91 : decode cX9_extent 91 = .ok (.getfield 42, 3) := by decide +kernel
theorem dX9_extent_94 : decode cX9_extent 94 = .ok (.iload_n 3, 1) := by decide +kernel
theorem dX9_extent_95 : decode cX9_extent 95 = .ok (.invokevirtual 231, 3) := by decide +kernel
theorem dX9_extent_98 : decode cX9_extent 98 = .ok (.invokevirtual 115, 3) := by decide +kernel
theorem dX9_extent_101 : decode cX9_extent 101 = .ok (.ireturn, 1) := by decide +kernel
theorem dX9_extent_102 : decode cX9_extent 102 = .ok (.aload_n 0, 1) := by decide +kernel
theorem dX9_extent_103 : decode cX9_extent 103 = .ok (.iconst 1, 1) := by decide +kernel
theorem dX9_extent_104 : decode cX9_extent 104 = .ok (.invokevirtual 86, 3) := by decide +kernel
theorem dX9_extent_107 : decode cX9_extent 107 = .ok (.ireturn, 1) := by decide +kernel
theorem dX9_extentFrom_0 : decode cX9_extentFrom 0 = .ok (.aload_n 0, 1) := by decide +kernel
theorem dX9_extentFrom_1 : decode cX9_extentFrom 1 = .ok (.iload_n 1, 1) := by decide +kernel
theorem dX9_extentFrom_2 : decode cX9_extentFrom 2 = .ok (.invokevirtual 158, 3) := by decide +kernel
theorem dX9_extentFrom_5 : decode cX9_extentFrom 5 = .ok (.ifCond .ne 9, 3) := by decide +kernel
theorem dX9_extentFrom_8 : decode cX9_extentFrom 8 = .ok (.aload_n 0, 1) := by decide +kernel
theorem dX9_extentFrom_9 : decode cX9_extentFrom 9 = .ok (.iconst 1, 1) := by decide +kernel
theorem dX9_extentFrom_10 : decode cX9_extentFrom 10 = .ok (.invokevirtual 86, 3) := by decide +kernel
theorem dX9_extentFrom_13 : decode cX9_extentFrom 13 = .ok (.ireturn, 1) := by decide +kernel
theorem dX9_extentFrom_14 : decode cX9_extentFrom 14 = .ok (.aload_n 0, 1) := by decide +kernel
theorem dX9_extentFrom_15 : decode cX9_extentFrom 15 = .ok (.getfield 42, 3) := by decide +kernel
theorem dX9_extentFrom_18 : decode cX9_extentFrom 18 = .ok (.iload_n 1, 1) := by decide +kernel
theorem dX9_extentFrom_19 : decode cX9_extentFrom 19 = .ok (.invokevirtual 221, 3) := by decide +kernel
theorem dX9_extentFrom_22 : decode cX9_extentFrom 22 = .ok (.istore_n 2, 1) := by decide +kernel
theorem dX9_extentFrom_23 : decode cX9_extentFrom 23 = .ok (.aload_n 0, 1) := by decide +kernel
theorem dX9_extentFrom_24 : decode cX9_extentFrom 24 = .ok (.getfield 42, 3) := by decide +kernel
theorem dX9_extentFrom_27 : decode cX9_extentFrom 27 = .ok (.iload_n 1, 1) := by decide +kernel
theorem dX9_extentFrom_28 : decode cX9_extentFrom 28 = .ok (.invokevirtual 231, 3) := by decide +kernel
theorem dX9_extentFrom_31 : decode cX9_extentFrom 31 = .ok (.ifCond .lt 11, 3) := by decide +kernel
theorem dX9_extentFrom_34 : decode cX9_extentFrom 34 = .ok (.aload_n 0, 1) := by decide +kernel
theorem dX9_extentFrom_35 : decode cX9_extentFrom 35 = .ok (.iload_n 2, 1) := by decide +kernel
theorem dX9_extentFrom_36 : decode cX9_extentFrom 36 = .ok (.iconst 1, 1) := by decide +kernel
theorem dX9_extentFrom_37 : decode cX9_extentFrom 37 = .ok (.isub, 1) := by decide +kernel
theorem dX9_extentFrom_38 : decode cX9_extentFrom 38 = .ok (.invokevirtual 115, 3) := by decide +kernel
theorem dX9_extentFrom_41 : decode cX9_extentFrom 41 = .ok (.ireturn, 1) := by decide +kernel
theorem dX9_extentFrom_42 : decode cX9_extentFrom 42 = .ok (.aload_n 0, 1) := by decide +kernel
theorem dX9_extentFrom_43 : decode cX9_extentFrom 43 = .ok (.iload_n 2, 1) := by decide +kernel
theorem dX9_extentFrom_44 : decode cX9_extentFrom 44 = .ok (.aload_n 0, 1) := by decide +kernel
theorem dX9_extentFrom_45 : decode cX9_extentFrom 45 = .ok (.getfield 42, 3) := by decide +kernel
theorem dX9_extentFrom_48 : decode cX9_extentFrom 48 = .ok (.aload_n 0, 1) := by decide +kernel
theorem dX9_extentFrom_49 : decode cX9_extentFrom 49 = .ok (.getfield 16, 3) := by decide +kernel
theorem dX9_extentFrom_52 : decode cX9_extentFrom 52 = .ok (.getfield 109, 3) := by decide +kernel
theorem dX9_extentFrom_55 : decode cX9_extentFrom 55 = .ok (.getfield 112, 3) := by decide +kernel
theorem dX9_extentFrom_58 : decode cX9_extentFrom 58 = .ok (.iconst 1, 1) := by decide +kernel
theorem dX9_extentFrom_59 : decode cX9_extentFrom 59 = .ok (.isub, 1) := by decide +kernel
theorem dX9_extentFrom_60 : decode cX9_extentFrom 60 = .ok (.invokevirtual 221, 3) := by decide +kernel
theorem dX9_extentFrom_63 : decode cX9_extentFrom 63 = .ok (.if_icmp .ge 7, 3) := by decide +kernel
theorem dX9_extentFrom_66 : decode cX9_extentFrom 66 = .ok (.iload_n 2, 1) := by decide +kernel
theorem dX9_extentFrom_67 : decode cX9_extentFrom 67 = .ok (.goto 5, 3) := by decide +kernel
theorem dX9_extentFrom_70 : decode cX9_extentFrom 70 = .ok (.bipush (-2), 2) := by decide +kernel
theorem dX9_extentFrom_72 : decode cX9_extentFrom 72 = .ok (.invokevirtual 115, 3) := by decide +kernel
theorem dX9_extentFrom_75 : decode cX9_extentFrom 75 = .ok (.ireturn, 1) := by decide +kernel
theorem dX9_cleansNext_0 : decode cX9_cleansNext 0 = .ok (.aload_n 0, 1) := by decide +kernel
theorem dX9_cleansNext_1 : decode cX9_cleansNext 1 = .ok (.invokevirtual 199, 3) := by decide +kernel
theorem dX9_cleansNext_4 : decode cX9_cleansNext 4 = .ok (.ifCond .ne 9, 3) := by decide +kernel
theorem dX9_cleansNext_7 : decode cX9_cleansNext 7 = .ok (.aload_n 0, 1) := by decide +kernel
theorem dX9_cleansNext_8 : decode cX9_cleansNext 8 = .ok (.iconst 1, 1) := by decide +kernel
theorem dX9_cleansNext_9 : decode cX9_cleansNext 9 = .ok (.invokevirtual 86, 3) := by decide +kernel
theorem dX9_cleansNext_12 : decode cX9_cleansNext 12 = .ok (.ireturn, 1) := by decide +kernel
theorem dX9_cleansNext_13 : decode cX9_cleansNext 13 = .ok (.aload_n 0, 1) := by decide +kernel
theorem dX9_cleansNext_14 : decode cX9_cleansNext 14 = .ok (.aload_n 0, 1) := by decide +kernel
theorem dX9_cleansNext_15 : decode cX9_cleansNext 15 = .ok (.getfield 42, 3) := by decide +kernel
theorem dX9_cleansNext_18 : decode cX9_cleansNext 18 = .ok (.aload_n 0, 1) := by decide +kernel
theorem dX9_cleansNext_19 : decode cX9_cleansNext 19 = .ok (.getfield 16, 3) := by decide +kernel
theorem dX9_cleansNext_22 : decode cX9_cleansNext 22 = .ok (.getfield 109, 3) := by decide +kernel
theorem dX9_cleansNext_25 : decode cX9_cleansNext 25 = .ok (.invokevirtual 234, 3) := by decide +kernel
theorem dX9_cleansNext_28 : decode cX9_cleansNext 28 = .ok (.invokevirtual 115, 3) := by decide +kernel
theorem dX9_cleansNext_31 : decode cX9_cleansNext 31 = .ok (.ireturn, 1) := by decide +kernel
theorem dX9_cleansThen_0 : decode cX9_cleansThen 0 = .ok (.aload_n 0, 1) := by decide +kernel
theorem dX9_cleansThen_1 : decode cX9_cleansThen 1 = .ok (.invokevirtual 199, 3) := by decide +kernel
theorem dX9_cleansThen_4 : decode cX9_cleansThen 4 = .ok (.ifCond .eq 7, 3) := by decide +kernel
theorem dX9_cleansThen_7 : decode cX9_cleansThen 7 = .ok (.iload_n 1, 1) := by decide +kernel
theorem dX9_cleansThen_8 : decode cX9_cleansThen 8 = .ok (.ifCond .ge 9, 3) := by decide +kernel
theorem dX9_cleansThen_11 : decode cX9_cleansThen 11 = .ok (.aload_n 0, 1) := by decide +kernel
theorem dX9_cleansThen_12 : decode cX9_cleansThen 12 = .ok (.iconst 1, 1) := by decide +kernel
theorem dX9_cleansThen_13 : decode cX9_cleansThen 13 = .ok (.invokevirtual 86, 3) := by decide +kernel
theorem dX9_cleansThen_16 : decode cX9_cleansThen 16 = .ok (.ireturn, 1) := by decide +kernel
theorem dX9_cleansThen_17 : decode cX9_cleansThen 17 = .ok (.iload_n 1, 1) := by decide +kernel
theorem dX9_cleansThen_18 : decode cX9_cleansThen 18 = .ok (.aload_n 0, 1) := by decide +kernel
theorem dX9_cleansThen_19 : decode cX9_cleansThen 19 = .ok (.getfield 16, 3) := by decide +kernel
theorem dX9_cleansThen_22 : decode cX9_cleansThen 22 = .ok (.getfield 109, 3) := by decide +kernel
theorem dX9_cleansThen_25 : decode cX9_cleansThen 25 = .ok (.getfield 155, 3) := by decide +kernel
theorem dX9_cleansThen_28 : decode cX9_cleansThen 28 = .ok (.if_icmp .lt 10, 3) := by decide +kernel
theorem dX9_cleansThen_31 : decode cX9_cleansThen 31 = .ok (.aload_n 0, 1) := by decide +kernel
theorem dX9_cleansThen_32 : decode cX9_cleansThen 32 = .ok (.bipush (-2), 2) := by decide +kernel
theorem dX9_cleansThen_34 : decode cX9_cleansThen 34 = .ok (.invokevirtual 115, 3) := by decide +kernel
theorem dX9_cleansThen_37 : decode cX9_cleansThen 37 = .ok (.ireturn, 1) := by decide +kernel
theorem dX9_cleansThen_38 : decode cX9_cleansThen 38 = .ok (.aload_n 0, 1) := by decide +kernel
theorem dX9_cleansThen_39 : decode cX9_cleansThen 39 = .ok (.getfield 46, 3) := by decide +kernel
theorem dX9_cleansThen_42 : decode cX9_cleansThen 42 = .ok (.aload_n 0, 1) := by decide +kernel
theorem dX9_cleansThen_43 : decode cX9_cleansThen 43 = .ok (.getfield 42, 3) := by decide +kernel
theorem dX9_cleansThen_46 : decode cX9_cleansThen 46 = .ok (.invokevirtual 238, 3) := by decide +kernel
theorem dX9_cleansThen_49 : decode cX9_cleansThen 49 = .ok (.iconst 0, 1) := by decide +kernel
theorem dX9_cleansThen_50 : decode cX9_cleansThen 50 = .ok (.istore_n 2, 1) := by decide +kernel
theorem dX9_cleansThen_51 : decode cX9_cleansThen 51 = .ok (.iload_n 2, 1) := by decide +kernel
theorem dX9_cleansThen_52 : decode cX9_cleansThen 52 = .ok (.iload_n 1, 1) := by decide +kernel
theorem dX9_cleansThen_53 : decode cX9_cleansThen 53 = .ok (.if_icmp .ge 37, 3) := by decide +kernel
theorem dX9_cleansThen_56 : decode cX9_cleansThen 56 = .ok (.aload_n 0, 1) := by decide +kernel
theorem dX9_cleansThen_57 : decode cX9_cleansThen 57 = .ok (.getfield 46, 3) := by decide +kernel
theorem dX9_cleansThen_60 : decode cX9_cleansThen 60 = .ok (.aload_n 0, 1) := by decide +kernel
theorem dX9_cleansThen_61 : decode cX9_cleansThen 61 = .ok (.getfield 16, 3) := by decide +kernel
theorem dX9_cleansThen_64 : decode cX9_cleansThen 64 = .ok (.getfield 109, 3) := by decide +kernel
theorem dX9_cleansThen_67 : decode cX9_cleansThen 67 = .ok (.aload_n 0, 1) := by decide +kernel
theorem dX9_cleansThen_68 : decode cX9_cleansThen 68 = .ok (.getfield 46, 3) := by decide +kernel
theorem dX9_cleansThen_71 : decode cX9_cleansThen 71 = .ok (.aload_n 0, 1) := by decide +kernel
theorem dX9_cleansThen_72 : decode cX9_cleansThen 72 = .ok (.getfield 16, 3) := by decide +kernel
theorem dX9_cleansThen_75 : decode cX9_cleansThen 75 = .ok (.getfield 109, 3) := by decide +kernel
theorem dX9_cleansThen_78 : decode cX9_cleansThen 78 = .ok (.invokevirtual 234, 3) := by decide +kernel
theorem dX9_cleansThen_81 : decode cX9_cleansThen 81 = .ok (.invokevirtual 242, 3) := by decide +kernel
theorem dX9_cleansThen_84 : decode cX9_cleansThen 84 = .ok (.iinc 2 1, 3) := by decide +kernel
theorem dX9_cleansThen_87 : decode cX9_cleansThen 87 = .ok (.goto (-36), 3) := by decide +kernel
theorem dX9_cleansThen_90 : decode cX9_cleansThen 90 = .ok (.aload_n 0, 1) := by decide +kernel
theorem dX9_cleansThen_91 : decode cX9_cleansThen 91 = .ok (.aload_n 0, 1) := by decide +kernel
theorem dX9_cleansThen_92 : decode cX9_cleansThen 92 = .ok (.getfield 46, 3) := by decide +kernel
theorem dX9_cleansThen_95 : decode cX9_cleansThen 95 = .ok (.aload_n 0, 1) := by decide +kernel
theorem dX9_cleansThen_96 : decode cX9_cleansThen 96 = .ok (.getfield 16, 3) := by decide +kernel
theorem dX9_cleansThen_99 : decode cX9_cleansThen 99 = .ok (.getfield 109, 3) := by decide +kernel
theorem dX9_cleansThen_102 : decode cX9_cleansThen 102 = .ok (.invokevirtual 234, 3) := by decide +kernel
theorem dX9_cleansThen_105 : decode cX9_cleansThen 105 = .ok (.invokevirtual 115, 3) := by decide +kernel
theorem dX9_cleansThen_108 : decode cX9_cleansThen 108 = .ok (.ireturn, 1) := by decide +kernel
theorem dX9_steps_0 : decode cX9_steps 0 = .ok (.aload_n 0, 1) := by decide +kernel
theorem dX9_steps_1 : decode cX9_steps 1 = .ok (.iload_n 1, 1) := by decide +kernel
theorem dX9_steps_2 : decode cX9_steps 2 = .ok (.invokevirtual 180, 3) := by decide +kernel
theorem dX9_steps_5 : decode cX9_steps 5 = .ok (.ifCond .ne 9, 3) := by decide +kernel
theorem dX9_steps_8 : decode cX9_steps 8 = .ok (.aload_n 0, 1) := by decide +kernel
theorem dX9_steps_9 : decode cX9_steps 9 = .ok (.iconst 1, 1) := by decide +kernel
theorem dX9_steps_10 : decode cX9_steps 10 = .ok (.invokevirtual 86, 3) := by decide +kernel
theorem dX9_steps_13 : decode cX9_steps 13 = .ok (.ireturn, 1) := by decide +kernel
theorem dX9_steps_14 : decode cX9_steps 14 = .ok (.aload_n 0, 1) := by decide +kernel
theorem dX9_steps_15 : decode cX9_steps 15 = .ok (.aload_n 0, 1) := by decide +kernel
theorem dX9_steps_16 : decode cX9_steps 16 = .ok (.getfield 16, 3) := by decide +kernel
theorem dX9_steps_19 : decode cX9_steps 19 = .ok (.getfield 109, 3) := by decide +kernel
theorem dX9_steps_22 : decode cX9_steps 22 = .ok (.iload_n 1, 1) := by decide +kernel
theorem dX9_steps_23 : decode cX9_steps 23 = .ok (.invokevirtual 245, 3) := by decide +kernel
theorem dX9_steps_26 : decode cX9_steps 26 = .ok (.invokevirtual 115, 3) := by decide +kernel
theorem dX9_steps_29 : decode cX9_steps 29 = .ok (.ireturn, 1) := by decide +kernel
theorem dX9_rids_0 : decode cX9_rids 0 = .ok (.aload_n 0, 1) := by decide +kernel
theorem dX9_rids_1 : decode cX9_rids 1 = .ok (.iload_n 1, 1) := by decide +kernel
theorem dX9_rids_2 : decode cX9_rids 2 = .ok (.invokevirtual 180, 3) := by decide +kernel
theorem dX9_rids_5 : decode cX9_rids 5 = .ok (.ifCond .ne 9, 3) := by decide +kernel
theorem dX9_rids_8 : decode cX9_rids 8 = .ok (.aload_n 0, 1) := by decide +kernel
theorem dX9_rids_9 : decode cX9_rids 9 = .ok (.iconst 1, 1) := by decide +kernel
theorem dX9_rids_10 : decode cX9_rids 10 = .ok (.invokevirtual 86, 3) := by decide +kernel
theorem dX9_rids_13 : decode cX9_rids 13 = .ok (.ireturn, 1) := by decide +kernel
theorem dX9_rids_14 : decode cX9_rids 14 = .ok (.aload_n 0, 1) := by decide +kernel
theorem dX9_rids_15 : decode cX9_rids 15 = .ok (.aload_n 0, 1) := by decide +kernel
theorem dX9_rids_16 : decode cX9_rids 16 = .ok (.getfield 42, 3) := by decide +kernel
theorem dX9_rids_19 : decode cX9_rids 19 = .ok (.aload_n 0, 1) := by decide +kernel
theorem dX9_rids_20 : decode cX9_rids 20 = .ok (.getfield 16, 3) := by decide +kernel
theorem dX9_rids_23 : decode cX9_rids 23 = .ok (.getfield 109, 3) := by decide +kernel
theorem dX9_rids_26 : decode cX9_rids 26 = .ok (.iload_n 1, 1) := by decide +kernel
theorem dX9_rids_27 : decode cX9_rids 27 = .ok (.invokevirtual 189, 3) := by decide +kernel
theorem dX9_rids_30 : decode cX9_rids 30 = .ok (.invokevirtual 115, 3) := by decide +kernel
theorem dX9_rids_33 : decode cX9_rids 33 = .ok (.ireturn, 1) := by decide +kernel
theorem dX9_damages_0 : decode cX9_damages 0 = .ok (.aload_n 0, 1) := by decide +kernel
theorem dX9_damages_1 : decode cX9_damages 1 = .ok (.iload_n 1, 1) := by decide +kernel
theorem dX9_damages_2 : decode cX9_damages 2 = .ok (.iload_n 2, 1) := by decide +kernel
theorem dX9_damages_3 : decode cX9_damages 3 = .ok (.invokevirtual 248, 3) := by decide +kernel
theorem dX9_damages_6 : decode cX9_damages 6 = .ok (.istore_n 3, 1) := by decide +kernel
theorem dX9_damages_7 : decode cX9_damages 7 = .ok (.iload_n 3, 1) := by decide +kernel
theorem dX9_damages_8 : decode cX9_damages 8 = .ok (.ifCond .eq 9, 3) := by decide +kernel
theorem dX9_damages_11 : decode cX9_damages 11 = .ok (.aload_n 0, 1) := by decide +kernel
theorem dX9_damages_12 : decode cX9_damages 12 = .ok (.iload_n 3, 1) := by decide +kernel
theorem dX9_damages_13 : decode cX9_damages 13 = .ok (.invokevirtual 86, 3) := by decide +kernel
theorem dX9_damages_16 : decode cX9_damages 16 = .ok (.ireturn, 1) := by decide +kernel
theorem dX9_damages_17 : decode cX9_damages 17 = .ok (.aload_n 0, 1) := by decide +kernel
theorem dX9_damages_18 : decode cX9_damages 18 = .ok (.iload_n 1, 1) := by decide +kernel
theorem dX9_damages_19 : decode cX9_damages 19 = .ok (.iload_n 2, 1) := by decide +kernel
theorem dX9_damages_20 : decode cX9_damages 20 = .ok (.invokevirtual 251, 3) := by decide +kernel
theorem dX9_damages_23 : decode cX9_damages 23 = .ok (.aload_n 0, 1) := by decide +kernel
theorem dX9_damages_24 : decode cX9_damages 24 = .ok (.aload_n 0, 1) := by decide +kernel
theorem dX9_damages_25 : decode cX9_damages 25 = .ok (.getfield 46, 3) := by decide +kernel
theorem dX9_damages_28 : decode cX9_damages 28 = .ok (.aload_n 0, 1) := by decide +kernel
theorem dX9_damages_29 : decode cX9_damages 29 = .ok (.getfield 16, 3) := by decide +kernel
theorem dX9_damages_32 : decode cX9_damages 32 = .ok (.getfield 109, 3) := by decide +kernel
theorem dX9_damages_35 : decode cX9_damages 35 = .ok (.invokevirtual 255, 3) := by decide +kernel
theorem dX9_damages_38 : decode cX9_damages 38 = .ok (.invokevirtual 115, 3) := by decide +kernel
theorem dX9_damages_41 : decode cX9_damages 41 = .ok (.ireturn, 1) := by decide +kernel
theorem dX9_fullThen_0 : decode cX9_fullThen 0 = .ok (.aload_n 0, 1) := by decide +kernel
theorem dX9_fullThen_1 : decode cX9_fullThen 1 = .ok (.iload_n 1, 1) := by decide +kernel
theorem dX9_fullThen_2 : decode cX9_fullThen 2 = .ok (.iload_n 2, 1) := by decide +kernel
theorem dX9_fullThen_3 : decode cX9_fullThen 3 = .ok (.invokevirtual 248, 3) := by decide +kernel
theorem dX9_fullThen_6 : decode cX9_fullThen 6 = .ok (.istore_n 3, 1) := by decide +kernel
theorem dX9_fullThen_7 : decode cX9_fullThen 7 = .ok (.iload_n 3, 1) := by decide +kernel
theorem dX9_fullThen_8 : decode cX9_fullThen 8 = .ok (.ifCond .eq 9, 3) := by decide +kernel
theorem dX9_fullThen_11 : decode cX9_fullThen 11 = .ok (.aload_n 0, 1) := by decide +kernel
theorem dX9_fullThen_12 : decode cX9_fullThen 12 = .ok (.iload_n 3, 1) := by decide +kernel
theorem dX9_fullThen_13 : decode cX9_fullThen 13 = .ok (.invokevirtual 86, 3) := by decide +kernel
theorem dX9_fullThen_16 : decode cX9_fullThen 16 = .ok (.ireturn, 1) := by decide +kernel
theorem dX9_fullThen_17 : decode cX9_fullThen 17 = .ok (.aload_n 0, 1) := by decide +kernel
theorem dX9_fullThen_18 : decode cX9_fullThen 18 = .ok (.iload_n 1, 1) := by decide +kernel
theorem dX9_fullThen_19 : decode cX9_fullThen 19 = .ok (.iload_n 2, 1) := by decide +kernel
theorem dX9_fullThen_20 : decode cX9_fullThen 20 = .ok (.invokevirtual 251, 3) := by decide +kernel
theorem dX9_fullThen_23 : decode cX9_fullThen 23 = .ok (.aload_n 0, 1) := by decide +kernel
theorem dX9_fullThen_24 : decode cX9_fullThen 24 = .ok (.aload_n 0, 1) := by decide +kernel
theorem dX9_fullThen_25 : decode cX9_fullThen 25 = .ok (.getfield 46, 3) := by decide +kernel
theorem dX9_fullThen_28 : decode cX9_fullThen 28 = .ok (.getfield 258, 3) := by decide +kernel
theorem dX9_fullThen_31 : decode cX9_fullThen 31 = .ok (.ifCond .eq 7, 3) := by decide +kernel
theorem dX9_fullThen_34 : decode cX9_fullThen 34 = .ok (.iconst 1, 1) := by decide +kernel
theorem dX9_fullThen_35 : decode cX9_fullThen 35 = .ok (.goto 4, 3) := by decide +kernel
theorem dX9_fullThen_38 : decode cX9_fullThen 38 = .ok (.iconst 0, 1) := by decide +kernel
theorem dX9_fullThen_39 : decode cX9_fullThen 39 = .ok (.invokevirtual 115, 3) := by decide +kernel
theorem dX9_fullThen_42 : decode cX9_fullThen 42 = .ok (.ireturn, 1) := by decide +kernel
theorem dX9_readThen_0 : decode cX9_readThen 0 = .ok (.aload_n 0, 1) := by decide +kernel
theorem dX9_readThen_1 : decode cX9_readThen 1 = .ok (.iload_n 3, 1) := by decide +kernel
theorem dX9_readThen_2 : decode cX9_readThen 2 = .ok (.invokevirtual 158, 3) := by decide +kernel
theorem dX9_readThen_5 : decode cX9_readThen 5 = .ok (.ifCond .ne 9, 3) := by decide +kernel
theorem dX9_readThen_8 : decode cX9_readThen 8 = .ok (.aload_n 0, 1) := by decide +kernel
theorem dX9_readThen_9 : decode cX9_readThen 9 = .ok (.iconst 1, 1) := by decide +kernel
theorem dX9_readThen_10 : decode cX9_readThen 10 = .ok (.invokevirtual 86, 3) := by decide +kernel
theorem dX9_readThen_13 : decode cX9_readThen 13 = .ok (.ireturn, 1) := by decide +kernel
theorem dX9_readThen_14 : decode cX9_readThen 14 = .ok (.aload_n 0, 1) := by decide +kernel
theorem dX9_readThen_15 : decode cX9_readThen 15 = .ok (.iload_n 1, 1) := by decide +kernel
theorem dX9_readThen_16 : decode cX9_readThen 16 = .ok (.iload_n 2, 1) := by decide +kernel
theorem dX9_readThen_17 : decode cX9_readThen 17 = .ok (.invokevirtual 248, 3) := by decide +kernel
theorem dX9_readThen_20 : decode cX9_readThen 20 = .ok (.istore 4, 2) := by decide +kernel
theorem dX9_readThen_22 : decode cX9_readThen 22 = .ok (.iload 4, 2) := by decide +kernel
theorem dX9_readThen_24 : decode cX9_readThen 24 = .ok (.ifCond .eq 10, 3) := by decide +kernel
theorem dX9_readThen_27 : decode cX9_readThen 27 = .ok (.aload_n 0, 1) := by decide +kernel
theorem dX9_readThen_28 : decode cX9_readThen 28 = .ok (.iload 4, 2) := by decide +kernel
theorem dX9_readThen_30 : decode cX9_readThen 30 = .ok (.invokevirtual 86, 3) := by decide +kernel
theorem dX9_readThen_33 : decode cX9_readThen 33 = .ok (.ireturn, 1) := by decide +kernel
theorem dX9_readThen_34 : decode cX9_readThen 34 = .ok (.aload_n 0, 1) := by decide +kernel
theorem dX9_readThen_35 : decode cX9_readThen 35 = .ok (.iload_n 1, 1) := by decide +kernel
theorem dX9_readThen_36 : decode cX9_readThen 36 = .ok (.iload_n 2, 1) := by decide +kernel
theorem dX9_readThen_37 : decode cX9_readThen 37 = .ok (.invokevirtual 251, 3) := by decide +kernel
theorem dX9_readThen_40 : decode cX9_readThen 40 = .ok (.aload_n 0, 1) := by decide +kernel
theorem dX9_readThen_41 : decode cX9_readThen 41 = .ok (.getfield 46, 3) := by decide +kernel
theorem dX9_readThen_44 : decode cX9_readThen 44 = .ok (.aload_n 0, 1) := by decide +kernel
theorem dX9_readThen_45 : decode cX9_readThen 45 = .ok (.getfield 16, 3) := by decide +kernel
theorem dX9_readThen_48 : decode cX9_readThen 48 = .ok (.getfield 109, 3) := by decide +kernel
theorem dX9_readThen_51 : decode cX9_readThen 51 = .ok (.invokevirtual 261, 3) := by decide +kernel
theorem dX9_readThen_54 : decode cX9_readThen 54 = .ok (.pop, 1) := by decide +kernel
theorem dX9_readThen_55 : decode cX9_readThen 55 = .ok (.aload_n 0, 1) := by decide +kernel
theorem dX9_readThen_56 : decode cX9_readThen 56 = .ok (.aload_n 0, 1) := by decide +kernel
theorem dX9_readThen_57 : decode cX9_readThen 57 = .ok (.getfield 46, 3) := by decide +kernel
theorem dX9_readThen_60 : decode cX9_readThen 60 = .ok (.iload_n 3, 1) := by decide +kernel
theorem dX9_readThen_61 : decode cX9_readThen 61 = .ok (.invokevirtual 166, 3) := by decide +kernel
theorem dX9_readThen_64 : decode cX9_readThen 64 = .ok (.invokevirtual 115, 3) := by decide +kernel
theorem dX9_readThen_67 : decode cX9_readThen 67 = .ok (.ireturn, 1) := by decide +kernel
theorem dX9_recoversBy_0 : decode cX9_recoversBy 0 = .ok (.aload_n 0, 1) := by decide +kernel
theorem dX9_recoversBy_1 : decode cX9_recoversBy 1 = .ok (.iload_n 1, 1) := by decide +kernel
theorem dX9_recoversBy_2 : decode cX9_recoversBy 2 = .ok (.iload_n 2, 1) := by decide +kernel
theorem dX9_recoversBy_3 : decode cX9_recoversBy 3 = .ok (.invokevirtual 248, 3) := by decide +kernel
theorem dX9_recoversBy_6 : decode cX9_recoversBy 6 = .ok (.istore_n 3, 1) := by decide +kernel
theorem dX9_recoversBy_7 : decode cX9_recoversBy 7 = .ok (.iload_n 3, 1) := by decide +kernel
theorem dX9_recoversBy_8 : decode cX9_recoversBy 8 = .ok (.ifCond .eq 9, 3) := by decide +kernel
theorem dX9_recoversBy_11 : decode cX9_recoversBy 11 = .ok (.aload_n 0, 1) := by decide +kernel
theorem dX9_recoversBy_12 : decode cX9_recoversBy 12 = .ok (.iload_n 3, 1) := by decide +kernel
theorem dX9_recoversBy_13 : decode cX9_recoversBy 13 = .ok (.invokevirtual 86, 3) := by decide +kernel
theorem dX9_recoversBy_16 : decode cX9_recoversBy 16 = .ok (.ireturn, 1) := by decide +kernel
theorem dX9_recoversBy_17 : decode cX9_recoversBy 17 = .ok (.aload_n 0, 1) := by decide +kernel
theorem dX9_recoversBy_18 : decode cX9_recoversBy 18 = .ok (.iload_n 1, 1) := by decide +kernel
theorem dX9_recoversBy_19 : decode cX9_recoversBy 19 = .ok (.iload_n 2, 1) := by decide +kernel
theorem dX9_recoversBy_20 : decode cX9_recoversBy 20 = .ok (.invokevirtual 251, 3) := by decide +kernel
theorem dX9_recoversBy_23 : decode cX9_recoversBy 23 = .ok (.aload_n 0, 1) := by decide +kernel
theorem dX9_recoversBy_24 : decode cX9_recoversBy 24 = .ok (.getfield 46, 3) := by decide +kernel
theorem dX9_recoversBy_27 : decode cX9_recoversBy 27 = .ok (.getfield 264, 3) := by decide +kernel
theorem dX9_recoversBy_30 : decode cX9_recoversBy 30 = .ok (.istore 4, 2) := by decide +kernel
theorem dX9_recoversBy_32 : decode cX9_recoversBy 32 = .ok (.aload_n 0, 1) := by decide +kernel
theorem dX9_recoversBy_33 : decode cX9_recoversBy 33 = .ok (.getfield 46, 3) := by decide +kernel
theorem dX9_recoversBy_36 : decode cX9_recoversBy 36 = .ok (.aload_n 0, 1) := by decide +kernel
theorem dX9_recoversBy_37 : decode cX9_recoversBy 37 = .ok (.getfield 16, 3) := by decide +kernel
theorem dX9_recoversBy_40 : decode cX9_recoversBy 40 = .ok (.getfield 109, 3) := by decide +kernel
theorem dX9_recoversBy_43 : decode cX9_recoversBy 43 = .ok (.invokevirtual 261, 3) := by decide +kernel
theorem dX9_recoversBy_46 : decode cX9_recoversBy 46 = .ok (.pop, 1) := by decide +kernel
theorem dX9_recoversBy_47 : decode cX9_recoversBy 47 = .ok (.aload_n 0, 1) := by decide +kernel
theorem dX9_recoversBy_48 : decode cX9_recoversBy 48 = .ok (.aload_n 0, 1) := by decide +kernel
theorem dX9_recoversBy_49 : decode cX9_recoversBy 49 = .ok (.getfield 46, 3) := by decide +kernel
theorem dX9_recoversBy_52 : decode cX9_recoversBy 52 = .ok (.getfield 264, 3) := by decide +kernel
theorem dX9_recoversBy_55 : decode cX9_recoversBy 55 = .ok (.iload 4, 2) := by decide +kernel
theorem dX9_recoversBy_57 : decode cX9_recoversBy 57 = .ok (.isub, 1) := by decide +kernel
theorem dX9_recoversBy_58 : decode cX9_recoversBy 58 = .ok (.invokevirtual 115, 3) := by decide +kernel
theorem dX9_recoversBy_61 : decode cX9_recoversBy 61 = .ok (.ireturn, 1) := by decide +kernel
theorem dX9_whyNoCut_0 : decode cX9_whyNoCut 0 = .ok (.aload_n 0, 1) := by decide +kernel
theorem dX9_whyNoCut_1 : decode cX9_whyNoCut 1 = .ok (.iload_n 1, 1) := by decide +kernel
theorem dX9_whyNoCut_2 : decode cX9_whyNoCut 2 = .ok (.invokevirtual 180, 3) := by decide +kernel
theorem dX9_whyNoCut_5 : decode cX9_whyNoCut 5 = .ok (.ifCond .ne 5, 3) := by decide +kernel
theorem dX9_whyNoCut_8 : decode cX9_whyNoCut 8 = .ok (.iconst 1, 1) := by decide +kernel
theorem dX9_whyNoCut_9 : decode cX9_whyNoCut 9 = .ok (.ireturn, 1) := by decide +kernel
theorem dX9_whyNoCut_10 : decode cX9_whyNoCut 10 = .ok (.iload_n 2, 1) := by decide +kernel
theorem dX9_whyNoCut_11 : decode cX9_whyNoCut 11 = .ok (.ifCond .lt 18, 3) := by decide +kernel
theorem dX9_whyNoCut_14 : decode cX9_whyNoCut 14 = .ok (.iload_n 2, 1) := by decide +kernel
theorem dX9_whyNoCut_15 : decode cX9_whyNoCut 15 = .ok (.aload_n 0, 1) := by decide +kernel
theorem dX9_whyNoCut_16 : decode cX9_whyNoCut 16 = .ok (.getfield 16, 3) := by decide +kernel
theorem dX9_whyNoCut_19 : decode cX9_whyNoCut 19 = .ok (.getfield 109, 3) := by decide +kernel
theorem dX9_whyNoCut_22 : decode cX9_whyNoCut 22 = .ok (.iload_n 1, 1) := by decide +kernel
theorem dX9_whyNoCut_23 : decode cX9_whyNoCut 23 = .ok (.invokevirtual 245, 3) := by decide +kernel
theorem dX9_whyNoCut_26 : decode cX9_whyNoCut 26 = .ok (.if_icmp .le 5, 3) := by decide +kernel
theorem dX9_whyNoCut_29 : decode cX9_whyNoCut 29 = .ok (.iconst 2, 1) := by decide +kernel
theorem dX9_whyNoCut_30 : decode cX9_whyNoCut 30 = .ok (.ireturn, 1) := by decide +kernel
theorem dX9_whyNoCut_31 : decode cX9_whyNoCut 31 = .ok (.aload_n 0, 1) := by decide +kernel
theorem dX9_whyNoCut_32 : decode cX9_whyNoCut 32 = .ok (.getfield 42, 3) := by decide +kernel
theorem dX9_whyNoCut_35 : decode cX9_whyNoCut 35 = .ok (.getfield 162, 3) := by decide +kernel
theorem dX9_whyNoCut_38 : decode cX9_whyNoCut 38 = .ok (.ifCond .eq 7, 3) := by decide +kernel
theorem dX9_whyNoCut_41 : decode cX9_whyNoCut 41 = .ok (.iconst 5, 1) := by decide +kernel
theorem dX9_whyNoCut_42 : decode cX9_whyNoCut 42 = .ok (.goto 4, 3) := by decide +kernel
theorem dX9_whyNoCut_45 : decode cX9_whyNoCut 45 = .ok (.iconst 0, 1) := by decide +kernel
theorem dX9_whyNoCut_46 : decode cX9_whyNoCut 46 = .ok (.ireturn, 1) := by decide +kernel
theorem dX9_tryCut_0 : decode cX9_tryCut 0 = .ok (.aload_n 0, 1) := by decide +kernel
theorem dX9_tryCut_1 : decode cX9_tryCut 1 = .ok (.getfield 46, 3) := by decide +kernel
theorem dX9_tryCut_4 : decode cX9_tryCut 4 = .ok (.aload_n 0, 1) := by decide +kernel
theorem dX9_tryCut_5 : decode cX9_tryCut 5 = .ok (.getfield 42, 3) := by decide +kernel
theorem dX9_tryCut_8 : decode cX9_tryCut 8 = .ok (.invokevirtual 238, 3) := by decide +kernel
theorem dX9_tryCut_11 : decode cX9_tryCut 11 = .ok (.aload_n 0, 1) := by decide +kernel
theorem dX9_tryCut_12 : decode cX9_tryCut 12 = .ok (.getfield 46, 3) := by decide +kernel
theorem dX9_tryCut_15 : decode cX9_tryCut 15 = .ok (.aload_n 0, 1) := by decide +kernel
theorem dX9_tryCut_16 : decode cX9_tryCut 16 = .ok (.getfield 16, 3) := by decide +kernel
theorem dX9_tryCut_19 : decode cX9_tryCut 19 = .ok (.getfield 109, 3) := by decide +kernel
theorem dX9_tryCut_22 : decode cX9_tryCut 22 = .ok (.iload_n 1, 1) := by decide +kernel
theorem dX9_tryCut_23 : decode cX9_tryCut 23 = .ok (.iload_n 2, 1) := by decide +kernel
theorem dX9_tryCut_24 : decode cX9_tryCut 24 = .ok (.invokevirtual 267, 3) := by decide +kernel
theorem dX9_tryCut_27 : decode cX9_tryCut 27 = .ok (.return_, 1) := by decide +kernel
theorem dX9_runWrites_0 : decode cX9_runWrites 0 = .ok (.aload_n 0, 1) := by decide +kernel
theorem dX9_runWrites_1 : decode cX9_runWrites 1 = .ok (.invokevirtual 199, 3) := by decide +kernel
theorem dX9_runWrites_4 : decode cX9_runWrites 4 = .ok (.ifCond .ne 9, 3) := by decide +kernel
theorem dX9_runWrites_7 : decode cX9_runWrites 7 = .ok (.aload_n 0, 1) := by decide +kernel
theorem dX9_runWrites_8 : decode cX9_runWrites 8 = .ok (.iconst 1, 1) := by decide +kernel
theorem dX9_runWrites_9 : decode cX9_runWrites 9 = .ok (.invokevirtual 86, 3) := by decide +kernel
theorem dX9_runWrites_12 : decode cX9_runWrites 12 = .ok (.ireturn, 1) := by decide +kernel
theorem dX9_runWrites_13 : decode cX9_runWrites 13 = .ok (.aload_n 0, 1) := by decide +kernel
theorem dX9_runWrites_14 : decode cX9_runWrites 14 = .ok (.aload_n 0, 1) := by decide +kernel
theorem dX9_runWrites_15 : decode cX9_runWrites 15 = .ok (.getfield 16, 3) := by decide +kernel
theorem dX9_runWrites_18 : decode cX9_runWrites 18 = .ok (.getfield 109, 3) := by decide +kernel
theorem dX9_runWrites_21 : decode cX9_runWrites 21 = .ok (.iconst 0, 1) := by decide +kernel
theorem dX9_runWrites_22 : decode cX9_runWrites 22 = .ok (.invokevirtual 141, 3) := by decide +kernel
theorem dX9_runWrites_25 : decode cX9_runWrites 25 = .ok (.aload_n 0, 1) := by decide +kernel
theorem dX9_runWrites_26 : decode cX9_runWrites 26 = .ok (.aload_n 0, 1) := by decide +kernel
theorem dX9_runWrites_27 : decode cX9_runWrites 27 = .ok (.getfield 46, 3) := by decide +kernel
theorem dX9_runWrites_30 : decode cX9_runWrites 30 = .ok (.getfield 264, 3) := by decide +kernel
theorem dX9_runWrites_33 : decode cX9_runWrites 33 = .ok (.invokevirtual 115, 3) := by decide +kernel
theorem dX9_runWrites_36 : decode cX9_runWrites 36 = .ok (.ireturn, 1) := by decide +kernel
theorem dX9_runCleans_0 : decode cX9_runCleans 0 = .ok (.aload_n 0, 1) := by decide +kernel
theorem dX9_runCleans_1 : decode cX9_runCleans 1 = .ok (.invokevirtual 199, 3) := by decide +kernel
theorem dX9_runCleans_4 : decode cX9_runCleans 4 = .ok (.ifCond .ne 9, 3) := by decide +kernel
theorem dX9_runCleans_7 : decode cX9_runCleans 7 = .ok (.aload_n 0, 1) := by decide +kernel
theorem dX9_runCleans_8 : decode cX9_runCleans 8 = .ok (.iconst 1, 1) := by decide +kernel
theorem dX9_runCleans_9 : decode cX9_runCleans 9 = .ok (.invokevirtual 86, 3) := by decide +kernel
theorem dX9_runCleans_12 : decode cX9_runCleans 12 = .ok (.ireturn, 1) := by decide +kernel
theorem dX9_runCleans_13 : decode cX9_runCleans 13 = .ok (.aload_n 0, 1) := by decide +kernel
theorem dX9_runCleans_14 : decode cX9_runCleans 14 = .ok (.aload_n 0, 1) := by decide +kernel
theorem dX9_runCleans_15 : decode cX9_runCleans 15 = .ok (.getfield 16, 3) := by decide +kernel
theorem dX9_runCleans_18 : decode cX9_runCleans 18 = .ok (.getfield 109, 3) := by decide +kernel
theorem dX9_runCleans_21 : decode cX9_runCleans 21 = .ok (.iconst 0, 1) := by decide +kernel
theorem dX9_runCleans_22 : decode cX9_runCleans 22 = .ok (.invokevirtual 141, 3) := by decide +kernel
theorem dX9_runCleans_25 : decode cX9_runCleans 25 = .ok (.aload_n 0, 1) := by decide +kernel
theorem dX9_runCleans_26 : decode cX9_runCleans 26 = .ok (.aload_n 0, 1) := by decide +kernel
theorem dX9_runCleans_27 : decode cX9_runCleans 27 = .ok (.getfield 46, 3) := by decide +kernel
theorem dX9_runCleans_30 : decode cX9_runCleans 30 = .ok (.getfield 271, 3) := by decide +kernel
theorem dX9_runCleans_33 : decode cX9_runCleans 33 = .ok (.invokevirtual 115, 3) := by decide +kernel
theorem dX9_runCleans_36 : decode cX9_runCleans 36 = .ok (.ireturn, 1) := by decide +kernel
theorem dX9_runRead_0 : decode cX9_runRead 0 = .ok (.aload_n 0, 1) := by decide +kernel
theorem dX9_runRead_1 : decode cX9_runRead 1 = .ok (.iload_n 1, 1) := by decide +kernel
theorem dX9_runRead_2 : decode cX9_runRead 2 = .ok (.invokevirtual 158, 3) := by decide +kernel
theorem dX9_runRead_5 : decode cX9_runRead 5 = .ok (.ifCond .ne 9, 3) := by decide +kernel
theorem dX9_runRead_8 : decode cX9_runRead 8 = .ok (.aload_n 0, 1) := by decide +kernel
theorem dX9_runRead_9 : decode cX9_runRead 9 = .ok (.iconst 1, 1) := by decide +kernel
theorem dX9_runRead_10 : decode cX9_runRead 10 = .ok (.invokevirtual 86, 3) := by decide +kernel
theorem dX9_runRead_13 : decode cX9_runRead 13 = .ok (.ireturn, 1) := by decide +kernel
theorem dX9_runRead_14 : decode cX9_runRead 14 = .ok (.aload_n 0, 1) := by decide +kernel
theorem dX9_runRead_15 : decode cX9_runRead 15 = .ok (.aload_n 0, 1) := by decide +kernel
theorem dX9_runRead_16 : decode cX9_runRead 16 = .ok (.getfield 16, 3) := by decide +kernel
theorem dX9_runRead_19 : decode cX9_runRead 19 = .ok (.getfield 109, 3) := by decide +kernel
theorem dX9_runRead_22 : decode cX9_runRead 22 = .ok (.iconst 0, 1) := by decide +kernel
theorem dX9_runRead_23 : decode cX9_runRead 23 = .ok (.invokevirtual 141, 3) := by decide +kernel
theorem dX9_runRead_26 : decode cX9_runRead 26 = .ok (.aload_n 0, 1) := by decide +kernel
theorem dX9_runRead_27 : decode cX9_runRead 27 = .ok (.aload_n 0, 1) := by decide +kernel
theorem dX9_runRead_28 : decode cX9_runRead 28 = .ok (.getfield 46, 3) := by decide +kernel
theorem dX9_runRead_31 : decode cX9_runRead 31 = .ok (.iload_n 1, 1) := by decide +kernel
theorem dX9_runRead_32 : decode cX9_runRead 32 = .ok (.invokevirtual 166, 3) := by decide +kernel
theorem dX9_runRead_35 : decode cX9_runRead 35 = .ok (.invokevirtual 115, 3) := by decide +kernel
theorem dX9_runRead_38 : decode cX9_runRead 38 = .ok (.ireturn, 1) := by decide +kernel
theorem dX9_factor_0 : decode cX9_factor 0 = .ok (.aload_n 0, 1) := by decide +kernel
theorem dX9_factor_1 : decode cX9_factor 1 = .ok (.invokevirtual 199, 3) := by decide +kernel
theorem dX9_factor_4 : decode cX9_factor 4 = .ok (.ifCond .ne 10, 3) := by decide +kernel
theorem dX9_factor_7 : decode cX9_factor 7 = .ok (.aload_n 0, 1) := by decide +kernel
theorem dX9_factor_8 : decode cX9_factor 8 = .ok (.iconst 1, 1) := by decide +kernel
theorem dX9_factor_9 : decode cX9_factor 9 = .ok (.invokevirtual 86, 3) := by decide +kernel
theorem dX9_factor_12 : decode cX9_factor 12 = .ok (.i2l, 1) := by decide +kernel
theorem dX9_factor_13 : decode cX9_factor 13 = .ok (.lreturn, 1) := by decide +kernel
theorem dX9_factor_14 : decode cX9_factor 14 = .ok (.aload_n 0, 1) := by decide +kernel
theorem dX9_factor_15 : decode cX9_factor 15 = .ok (.aload_n 0, 1) := by decide +kernel
theorem dX9_factor_16 : decode cX9_factor 16 = .ok (.getfield 16, 3) := by decide +kernel
theorem dX9_factor_19 : decode cX9_factor 19 = .ok (.getfield 109, 3) := by decide +kernel
theorem dX9_factor_22 : decode cX9_factor 22 = .ok (.iconst 0, 1) := by decide +kernel
theorem dX9_factor_23 : decode cX9_factor 23 = .ok (.invokevirtual 141, 3) := by decide +kernel
theorem dX9_factor_26 : decode cX9_factor 26 = .ok (.aload_n 0, 1) := by decide +kernel
theorem dX9_factor_27 : decode cX9_factor 27 = .ok (.getfield 46, 3) := by decide +kernel
theorem dX9_factor_30 : decode cX9_factor 30 = .ok (.getfield 264, 3) := by decide +kernel
theorem dX9_factor_33 : decode cX9_factor 33 = .ok (.istore_n 2, 1) := by decide +kernel
theorem dX9_factor_34 : decode cX9_factor 34 = .ok (.aload_n 0, 1) := by decide +kernel
theorem dX9_factor_35 : decode cX9_factor 35 = .ok (.getfield 16, 3) := by decide +kernel
theorem dX9_factor_38 : decode cX9_factor 38 = .ok (.getfield 274, 3) := by decide +kernel
theorem dX9_factor_41 : decode cX9_factor 41 = .ok (.getfield 138, 3) := by decide +kernel
theorem dX9_factor_44 : decode cX9_factor 44 = .ok (.istore_n 3, 1) := by decide +kernel
theorem dX9_factor_45 : decode cX9_factor 45 = .ok (.iload_n 2, 1) := by decide +kernel
theorem dX9_factor_46 : decode cX9_factor 46 = .ok (.iload_n 3, 1) := by decide +kernel
theorem dX9_factor_47 : decode cX9_factor 47 = .ok (.invokestatic 277, 3) := by decide +kernel
theorem dX9_factor_50 : decode cX9_factor 50 = .ok (.istore 4, 2) := by decide +kernel
theorem dX9_factor_52 : decode cX9_factor 52 = .ok (.iload_n 3, 1) := by decide +kernel
theorem dX9_factor_53 : decode cX9_factor 53 = .ok (.ifCond .eq 8, 3) := by decide +kernel
theorem dX9_factor_56 : decode cX9_factor 56 = .ok (.iload 4, 2) := by decide +kernel
theorem dX9_factor_58 : decode cX9_factor 58 = .ok (.ifCond .ne 18, 3) := by decide +kernel
theorem dX9_factor_61 : decode cX9_factor 61 = .ok (.aload_n 0, 1) := by decide +kernel
theorem dX9_factor_62 : decode cX9_factor 62 = .ok (.iload_n 1, 1) := by decide +kernel
theorem dX9_factor_63 : decode cX9_factor 63 = .ok (.ifCond .eq 7, 3) := by decide +kernel
theorem dX9_factor_66 : decode cX9_factor 66 = .ok (.iconst 1, 1) := by decide +kernel
theorem dX9_factor_67 : decode cX9_factor 67 = .ok (.goto 4, 3) := by decide +kernel
theorem dX9_factor_70 : decode cX9_factor 70 = .ok (.iconst 0, 1) := by decide +kernel
theorem dX9_factor_71 : decode cX9_factor 71 = .ok (.invokevirtual 115, 3) := by decide +kernel
theorem dX9_factor_74 : decode cX9_factor 74 = .ok (.i2l, 1) := by decide +kernel
theorem dX9_factor_75 : decode cX9_factor 75 = .ok (.lreturn, 1) := by decide +kernel
theorem dX9_factor_76 : decode cX9_factor 76 = .ok (.aload_n 0, 1) := by decide +kernel
theorem dX9_factor_77 : decode cX9_factor 77 = .ok (.iload_n 1, 1) := by decide +kernel
theorem dX9_factor_78 : decode cX9_factor 78 = .ok (.ifCond .eq 7, 3) := by decide +kernel
theorem dX9_factor_81 : decode cX9_factor 81 = .ok (.iload_n 3, 1) := by decide +kernel
theorem dX9_factor_82 : decode cX9_factor 82 = .ok (.goto 4, 3) := by decide +kernel
theorem dX9_factor_85 : decode cX9_factor 85 = .ok (.iload_n 2, 1) := by decide +kernel
theorem dX9_factor_86 : decode cX9_factor 86 = .ok (.iload 4, 2) := by decide +kernel
theorem dX9_factor_88 : decode cX9_factor 88 = .ok (.idiv, 1) := by decide +kernel
theorem dX9_factor_89 : decode cX9_factor 89 = .ok (.invokevirtual 115, 3) := by decide +kernel
theorem dX9_factor_92 : decode cX9_factor 92 = .ok (.i2l, 1) := by decide +kernel
theorem dX9_factor_93 : decode cX9_factor 93 = .ok (.lreturn, 1) := by decide +kernel
theorem dX9_greatestDivisor_0 : decode cX9_greatestDivisor 0 = .ok (.iload_n 0, 1) := by decide +kernel
theorem dX9_greatestDivisor_1 : decode cX9_greatestDivisor 1 = .ok (.istore_n 2, 1) := by decide +kernel
theorem dX9_greatestDivisor_2 : decode cX9_greatestDivisor 2 = .ok (.iload_n 1, 1) := by decide +kernel
theorem dX9_greatestDivisor_3 : decode cX9_greatestDivisor 3 = .ok (.istore_n 3, 1) := by decide +kernel
theorem dX9_greatestDivisor_4 : decode cX9_greatestDivisor 4 = .ok (.iconst 0, 1) := by decide +kernel
theorem dX9_greatestDivisor_5 : decode cX9_greatestDivisor 5 = .ok (.istore 4, 2) := by decide +kernel
theorem dX9_greatestDivisor_7 : decode cX9_greatestDivisor 7 = .ok (.iload 4, 2) := by decide +kernel
theorem dX9_greatestDivisor_9 : decode cX9_greatestDivisor 9 = .ok (.bipush 64, 2) := by decide +kernel
theorem dX9_greatestDivisor_11 : decode cX9_greatestDivisor 11 = .ok (.if_icmp .ge 23, 3) := by decide +kernel
theorem dX9_greatestDivisor_14 : decode cX9_greatestDivisor 14 = .ok (.iload_n 3, 1) := by decide +kernel
theorem dX9_greatestDivisor_15 : decode cX9_greatestDivisor 15 = .ok (.ifCond .eq 19, 3) := by decide +kernel
theorem dX9_greatestDivisor_18 : decode cX9_greatestDivisor 18 = .ok (.iload_n 2, 1) := by decide +kernel
theorem dX9_greatestDivisor_19 : decode cX9_greatestDivisor 19 = .ok (.iload_n 3, 1) := by decide +kernel
theorem dX9_greatestDivisor_20 : decode cX9_greatestDivisor 20 = .ok (.irem, 1) := by decide +kernel
theorem dX9_greatestDivisor_21 : decode cX9_greatestDivisor 21 = .ok (.istore 5, 2) := by decide +kernel
theorem dX9_greatestDivisor_23 : decode cX9_greatestDivisor 23 = .ok (.iload_n 3, 1) := by decide +kernel
theorem dX9_greatestDivisor_24 : decode cX9_greatestDivisor 24 = .ok (.istore_n 2, 1) := by decide +kernel
theorem dX9_greatestDivisor_25 : decode cX9_greatestDivisor 25 = .ok (.iload 5, 2) := by decide +kernel
theorem dX9_greatestDivisor_27 : decode cX9_greatestDivisor 27 = .ok (.istore_n 3, 1) := by decide +kernel
theorem dX9_greatestDivisor_28 : decode cX9_greatestDivisor 28 = .ok (.iinc 4 1, 3) := by decide +kernel
theorem dX9_greatestDivisor_31 : decode cX9_greatestDivisor 31 = .ok (.goto (-24), 3) := by decide +kernel
theorem dX9_greatestDivisor_34 : decode cX9_greatestDivisor 34 = .ok (.iload_n 2, 1) := by decide +kernel
theorem dX9_greatestDivisor_35 : decode cX9_greatestDivisor 35 = .ok (.ireturn, 1) := by decide +kernel
theorem dX9_bySize_0 : decode cX9_bySize 0 = .ok (.aload_n 0, 1) := by decide +kernel
theorem dX9_bySize_1 : decode cX9_bySize 1 = .ok (.invokevirtual 199, 3) := by decide +kernel
theorem dX9_bySize_4 : decode cX9_bySize 4 = .ok (.ifCond .ne 9, 3) := by decide +kernel
theorem dX9_bySize_7 : decode cX9_bySize 7 = .ok (.aload_n 0, 1) := by decide +kernel
theorem dX9_bySize_8 : decode cX9_bySize 8 = .ok (.iconst 1, 1) := by decide +kernel
theorem dX9_bySize_9 : decode cX9_bySize 9 = .ok (.invokevirtual 86, 3) := by decide +kernel
theorem dX9_bySize_12 : decode cX9_bySize 12 = .ok (.ireturn, 1) := by decide +kernel
theorem dX9_bySize_13 : decode cX9_bySize 13 = .ok (.iload_n 1, 1) := by decide +kernel
theorem dX9_bySize_14 : decode cX9_bySize 14 = .ok (.iconst 2, 1) := by decide +kernel
theorem dX9_bySize_15 : decode cX9_bySize 15 = .ok (.if_icmp .lt 9, 3) := by decide +kernel
theorem dX9_bySize_18 : decode cX9_bySize 18 = .ok (.iload_n 1, 1) := by decide +kernel
theorem dX9_bySize_19 : decode cX9_bySize 19 = .ok (.bipush 8, 2) := by decide +kernel
theorem dX9_bySize_21 : decode cX9_bySize 21 = .ok (.if_icmp .le 9, 3) := by decide +kernel
theorem dX9_bySize_24 : decode cX9_bySize 24 = .ok (.aload_n 0, 1) := by decide +kernel
theorem dX9_bySize_25 : decode cX9_bySize 25 = .ok (.iconst 2, 1) := by decide +kernel
theorem dX9_bySize_26 : decode cX9_bySize 26 = .ok (.invokevirtual 86, 3) := by decide +kernel
theorem dX9_bySize_29 : decode cX9_bySize 29 = .ok (.ireturn, 1) := by decide +kernel
theorem dX9_bySize_30 : decode cX9_bySize 30 = .ok (.aload_n 0, 1) := by decide +kernel
theorem dX9_bySize_31 : decode cX9_bySize 31 = .ok (.aload_n 0, 1) := by decide +kernel
theorem dX9_bySize_32 : decode cX9_bySize 32 = .ok (.iload_n 1, 1) := by decide +kernel
theorem dX9_bySize_33 : decode cX9_bySize 33 = .ok (.invokevirtual 280, 3) := by decide +kernel
theorem dX9_bySize_36 : decode cX9_bySize 36 = .ok (.invokevirtual 115, 3) := by decide +kernel
theorem dX9_bySize_39 : decode cX9_bySize 39 = .ok (.ireturn, 1) := by decide +kernel
theorem dX9_bestSize_0 : decode cX9_bestSize 0 = .ok (.aload_n 0, 1) := by decide +kernel
theorem dX9_bestSize_1 : decode cX9_bestSize 1 = .ok (.invokevirtual 199, 3) := by decide +kernel
theorem dX9_bestSize_4 : decode cX9_bestSize 4 = .ok (.ifCond .ne 9, 3) := by decide +kernel
theorem dX9_bestSize_7 : decode cX9_bestSize 7 = .ok (.aload_n 0, 1) := by decide +kernel
theorem dX9_bestSize_8 : decode cX9_bestSize 8 = .ok (.iconst 1, 1) := by decide +kernel
theorem dX9_bestSize_9 : decode cX9_bestSize 9 = .ok (.invokevirtual 86, 3) := by decide +kernel
theorem dX9_bestSize_12 : decode cX9_bestSize 12 = .ok (.ireturn, 1) := by decide +kernel
theorem dX9_bestSize_13 : decode cX9_bestSize 13 = .ok (.bipush 8, 2) := by decide +kernel
theorem dX9_bestSize_15 : decode cX9_bestSize 15 = .ok (.istore_n 1, 1) := by decide +kernel
theorem dX9_bestSize_16 : decode cX9_bestSize 16 = .ok (.aload_n 0, 1) := by decide +kernel
theorem dX9_bestSize_17 : decode cX9_bestSize 17 = .ok (.bipush 8, 2) := by decide +kernel
theorem dX9_bestSize_19 : decode cX9_bestSize 19 = .ok (.invokevirtual 280, 3) := by decide +kernel
theorem dX9_bestSize_22 : decode cX9_bestSize 22 = .ok (.istore_n 2, 1) := by decide +kernel
theorem dX9_bestSize_23 : decode cX9_bestSize 23 = .ok (.bipush 7, 2) := by decide +kernel
theorem dX9_bestSize_25 : decode cX9_bestSize 25 = .ok (.istore_n 3, 1) := by decide +kernel
theorem dX9_bestSize_26 : decode cX9_bestSize 26 = .ok (.iload_n 3, 1) := by decide +kernel
theorem dX9_bestSize_27 : decode cX9_bestSize 27 = .ok (.iconst 2, 1) := by decide +kernel
theorem dX9_bestSize_28 : decode cX9_bestSize 28 = .ok (.if_icmp .lt 27, 3) := by decide +kernel
theorem dX9_bestSize_31 : decode cX9_bestSize 31 = .ok (.aload_n 0, 1) := by decide +kernel
theorem dX9_bestSize_32 : decode cX9_bestSize 32 = .ok (.iload_n 3, 1) := by decide +kernel
theorem dX9_bestSize_33 : decode cX9_bestSize 33 = .ok (.invokevirtual 280, 3) := by decide +kernel
theorem dX9_bestSize_36 : decode cX9_bestSize 36 = .ok (.istore 4, 2) := by decide +kernel
theorem dX9_bestSize_38 : decode cX9_bestSize 38 = .ok (.iload 4, 2) := by decide +kernel
theorem dX9_bestSize_40 : decode cX9_bestSize 40 = .ok (.iload_n 2, 1) := by decide +kernel
theorem dX9_bestSize_41 : decode cX9_bestSize 41 = .ok (.if_icmp .ge 8, 3) := by decide +kernel
theorem dX9_bestSize_44 : decode cX9_bestSize 44 = .ok (.iload 4, 2) := by decide +kernel
theorem dX9_bestSize_46 : decode cX9_bestSize 46 = .ok (.istore_n 2, 1) := by decide +kernel
theorem dX9_bestSize_47 : decode cX9_bestSize 47 = .ok (.iload_n 3, 1) := by decide +kernel
theorem dX9_bestSize_48 : decode cX9_bestSize 48 = .ok (.istore_n 1, 1) := by decide +kernel
theorem dX9_bestSize_49 : decode cX9_bestSize 49 = .ok (.iinc 3 (-1), 3) := by decide +kernel
theorem dX9_bestSize_52 : decode cX9_bestSize 52 = .ok (.goto (-26), 3) := by decide +kernel
theorem dX9_bestSize_55 : decode cX9_bestSize 55 = .ok (.aload_n 0, 1) := by decide +kernel
theorem dX9_bestSize_56 : decode cX9_bestSize 56 = .ok (.iload_n 1, 1) := by decide +kernel
theorem dX9_bestSize_57 : decode cX9_bestSize 57 = .ok (.invokevirtual 115, 3) := by decide +kernel
theorem dX9_bestSize_60 : decode cX9_bestSize 60 = .ok (.ireturn, 1) := by decide +kernel
theorem dX9_trackWritesBySize_0 : decode cX9_trackWritesBySize 0 = .ok (.aload_n 0, 1) := by decide +kernel
theorem dX9_trackWritesBySize_1 : decode cX9_trackWritesBySize 1 = .ok (.getfield 52, 3) := by decide +kernel
theorem dX9_trackWritesBySize_4 : decode cX9_trackWritesBySize 4 = .ok (.aload_n 0, 1) := by decide +kernel
theorem dX9_trackWritesBySize_5 : decode cX9_trackWritesBySize 5 = .ok (.getfield 16, 3) := by decide +kernel
theorem dX9_trackWritesBySize_8 : decode cX9_trackWritesBySize 8 = .ok (.getfield 109, 3) := by decide +kernel
theorem dX9_trackWritesBySize_11 : decode cX9_trackWritesBySize 11 = .ok (.iload_n 1, 1) := by decide +kernel
theorem dX9_trackWritesBySize_12 : decode cX9_trackWritesBySize 12 = .ok (.invokevirtual 283, 3) := by decide +kernel
theorem dX9_trackWritesBySize_15 : decode cX9_trackWritesBySize 15 = .ok (.aload_n 0, 1) := by decide +kernel
theorem dX9_trackWritesBySize_16 : decode cX9_trackWritesBySize 16 = .ok (.aload_n 0, 1) := by decide +kernel
theorem dX9_trackWritesBySize_17 : decode cX9_trackWritesBySize 17 = .ok (.getfield 52, 3) := by decide +kernel
theorem dX9_trackWritesBySize_20 : decode cX9_trackWritesBySize 20 = .ok (.iconst 0, 1) := by decide +kernel
theorem dX9_trackWritesBySize_21 : decode cX9_trackWritesBySize 21 = .ok (.invokevirtual 141, 3) := by decide +kernel
theorem dX9_trackWritesBySize_24 : decode cX9_trackWritesBySize 24 = .ok (.aload_n 0, 1) := by decide +kernel
theorem dX9_trackWritesBySize_25 : decode cX9_trackWritesBySize 25 = .ok (.getfield 46, 3) := by decide +kernel
theorem dX9_trackWritesBySize_28 : decode cX9_trackWritesBySize 28 = .ok (.getfield 264, 3) := by decide +kernel
theorem dX9_trackWritesBySize_31 : decode cX9_trackWritesBySize 31 = .ok (.ireturn, 1) := by decide +kernel
theorem dX9_byLog_0 : decode cX9_byLog 0 = .ok (.aload_n 0, 1) := by decide +kernel
theorem dX9_byLog_1 : decode cX9_byLog 1 = .ok (.invokevirtual 199, 3) := by decide +kernel
theorem dX9_byLog_4 : decode cX9_byLog 4 = .ok (.ifCond .ne 9, 3) := by decide +kernel
theorem dX9_byLog_7 : decode cX9_byLog 7 = .ok (.aload_n 0, 1) := by decide +kernel
theorem dX9_byLog_8 : decode cX9_byLog 8 = .ok (.iconst 1, 1) := by decide +kernel
theorem dX9_byLog_9 : decode cX9_byLog 9 = .ok (.invokevirtual 86, 3) := by decide +kernel
theorem dX9_byLog_12 : decode cX9_byLog 12 = .ok (.ireturn, 1) := by decide +kernel
theorem dX9_byLog_13 : decode cX9_byLog 13 = .ok (.iload_n 1, 1) := by decide +kernel
theorem dX9_byLog_14 : decode cX9_byLog 14 = .ok (.iconst 2, 1) := by decide +kernel
theorem dX9_byLog_15 : decode cX9_byLog 15 = .ok (.if_icmp .lt 9, 3) := by decide +kernel
theorem dX9_byLog_18 : decode cX9_byLog 18 = .ok (.iload_n 1, 1) := by decide +kernel
theorem dX9_byLog_19 : decode cX9_byLog 19 = .ok (.bipush 24, 2) := by decide +kernel
theorem dX9_byLog_21 : decode cX9_byLog 21 = .ok (.if_icmp .le 9, 3) := by decide +kernel
theorem dX9_byLog_24 : decode cX9_byLog 24 = .ok (.aload_n 0, 1) := by decide +kernel
theorem dX9_byLog_25 : decode cX9_byLog 25 = .ok (.iconst 2, 1) := by decide +kernel
theorem dX9_byLog_26 : decode cX9_byLog 26 = .ok (.invokevirtual 86, 3) := by decide +kernel
theorem dX9_byLog_29 : decode cX9_byLog 29 = .ok (.ireturn, 1) := by decide +kernel
theorem dX9_byLog_30 : decode cX9_byLog 30 = .ok (.aload_n 0, 1) := by decide +kernel
theorem dX9_byLog_31 : decode cX9_byLog 31 = .ok (.aload_n 0, 1) := by decide +kernel
theorem dX9_byLog_32 : decode cX9_byLog 32 = .ok (.iload_n 1, 1) := by decide +kernel
theorem dX9_byLog_33 : decode cX9_byLog 33 = .ok (.invokevirtual 286, 3) := by decide +kernel
theorem dX9_byLog_36 : decode cX9_byLog 36 = .ok (.invokevirtual 115, 3) := by decide +kernel
theorem dX9_byLog_39 : decode cX9_byLog 39 = .ok (.ireturn, 1) := by decide +kernel
theorem dX9_logFor_0 : decode cX9_logFor 0 = .ok (.aload_n 0, 1) := by decide +kernel
theorem dX9_logFor_1 : decode cX9_logFor 1 = .ok (.invokevirtual 199, 3) := by decide +kernel
theorem dX9_logFor_4 : decode cX9_logFor 4 = .ok (.ifCond .ne 9, 3) := by decide +kernel
theorem dX9_logFor_7 : decode cX9_logFor 7 = .ok (.aload_n 0, 1) := by decide +kernel
theorem dX9_logFor_8 : decode cX9_logFor 8 = .ok (.iconst 1, 1) := by decide +kernel
theorem dX9_logFor_9 : decode cX9_logFor 9 = .ok (.invokevirtual 86, 3) := by decide +kernel
theorem dX9_logFor_12 : decode cX9_logFor 12 = .ok (.ireturn, 1) := by decide +kernel
theorem dX9_logFor_13 : decode cX9_logFor 13 = .ok (.iload_n 1, 1) := by decide +kernel
theorem dX9_logFor_14 : decode cX9_logFor 14 = .ok (.ifCond .lt 9, 3) := by decide +kernel
theorem dX9_logFor_17 : decode cX9_logFor 17 = .ok (.iload_n 1, 1) := by decide +kernel
theorem dX9_logFor_18 : decode cX9_logFor 18 = .ok (.bipush 16, 2) := by decide +kernel
theorem dX9_logFor_20 : decode cX9_logFor 20 = .ok (.if_icmp .le 9, 3) := by decide +kernel
theorem dX9_logFor_23 : decode cX9_logFor 23 = .ok (.aload_n 0, 1) := by decide +kernel
theorem dX9_logFor_24 : decode cX9_logFor 24 = .ok (.iconst 2, 1) := by decide +kernel
theorem dX9_logFor_25 : decode cX9_logFor 25 = .ok (.invokevirtual 86, 3) := by decide +kernel
theorem dX9_logFor_28 : decode cX9_logFor 28 = .ok (.ireturn, 1) := by decide +kernel
theorem dX9_logFor_29 : decode cX9_logFor 29 = .ok (.iconst 2, 1) := by decide +kernel
theorem dX9_logFor_30 : decode cX9_logFor 30 = .ok (.istore_n 2, 1) := by decide +kernel
theorem dX9_logFor_31 : decode cX9_logFor 31 = .ok (.iload_n 2, 1) := by decide +kernel
theorem dX9_logFor_32 : decode cX9_logFor 32 = .ok (.bipush 24, 2) := by decide +kernel
theorem dX9_logFor_34 : decode cX9_logFor 34 = .ok (.if_icmp .gt 24, 3) := by decide +kernel
theorem dX9_logFor_37 : decode cX9_logFor 37 = .ok (.aload_n 0, 1) := by decide +kernel
theorem dX9_logFor_38 : decode cX9_logFor 38 = .ok (.iload_n 2, 1) := by decide +kernel
theorem dX9_logFor_39 : decode cX9_logFor 39 = .ok (.invokevirtual 286, 3) := by decide +kernel
theorem dX9_logFor_42 : decode cX9_logFor 42 = .ok (.iload_n 1, 1) := by decide +kernel
theorem dX9_logFor_43 : decode cX9_logFor 43 = .ok (.if_icmp .gt 9, 3) := by decide +kernel
theorem dX9_logFor_46 : decode cX9_logFor 46 = .ok (.aload_n 0, 1) := by decide +kernel
theorem dX9_logFor_47 : decode cX9_logFor 47 = .ok (.iload_n 2, 1) := by decide +kernel
theorem dX9_logFor_48 : decode cX9_logFor 48 = .ok (.invokevirtual 115, 3) := by decide +kernel
theorem dX9_logFor_51 : decode cX9_logFor 51 = .ok (.ireturn, 1) := by decide +kernel
theorem dX9_logFor_52 : decode cX9_logFor 52 = .ok (.iinc 2 1, 3) := by decide +kernel
theorem dX9_logFor_55 : decode cX9_logFor 55 = .ok (.goto (-24), 3) := by decide +kernel
theorem dX9_logFor_58 : decode cX9_logFor 58 = .ok (.aload_n 0, 1) := by decide +kernel
theorem dX9_logFor_59 : decode cX9_logFor 59 = .ok (.bipush (-2), 2) := by decide +kernel
theorem dX9_logFor_61 : decode cX9_logFor 61 = .ok (.invokevirtual 115, 3) := by decide +kernel
theorem dX9_logFor_64 : decode cX9_logFor 64 = .ok (.ireturn, 1) := by decide +kernel
theorem dX9_cleaningsByLog_0 : decode cX9_cleaningsByLog 0 = .ok (.aload_n 0, 1) := by decide +kernel
theorem dX9_cleaningsByLog_1 : decode cX9_cleaningsByLog 1 = .ok (.getfield 52, 3) := by decide +kernel
theorem dX9_cleaningsByLog_4 : decode cX9_cleaningsByLog 4 = .ok (.aload_n 0, 1) := by decide +kernel
theorem dX9_cleaningsByLog_5 : decode cX9_cleaningsByLog 5 = .ok (.getfield 16, 3) := by decide +kernel
theorem dX9_cleaningsByLog_8 : decode cX9_cleaningsByLog 8 = .ok (.getfield 109, 3) := by decide +kernel
theorem dX9_cleaningsByLog_11 : decode cX9_cleaningsByLog 11 = .ok (.iload_n 1, 1) := by decide +kernel
theorem dX9_cleaningsByLog_12 : decode cX9_cleaningsByLog 12 = .ok (.invokevirtual 289, 3) := by decide +kernel
theorem dX9_cleaningsByLog_15 : decode cX9_cleaningsByLog 15 = .ok (.aload_n 0, 1) := by decide +kernel
theorem dX9_cleaningsByLog_16 : decode cX9_cleaningsByLog 16 = .ok (.aload_n 0, 1) := by decide +kernel
theorem dX9_cleaningsByLog_17 : decode cX9_cleaningsByLog 17 = .ok (.getfield 52, 3) := by decide +kernel
theorem dX9_cleaningsByLog_20 : decode cX9_cleaningsByLog 20 = .ok (.iconst 0, 1) := by decide +kernel
theorem dX9_cleaningsByLog_21 : decode cX9_cleaningsByLog 21 = .ok (.invokevirtual 141, 3) := by decide +kernel
theorem dX9_cleaningsByLog_24 : decode cX9_cleaningsByLog 24 = .ok (.aload_n 0, 1) := by decide +kernel
theorem dX9_cleaningsByLog_25 : decode cX9_cleaningsByLog 25 = .ok (.getfield 46, 3) := by decide +kernel
theorem dX9_cleaningsByLog_28 : decode cX9_cleaningsByLog 28 = .ok (.getfield 271, 3) := by decide +kernel
theorem dX9_cleaningsByLog_31 : decode cX9_cleaningsByLog 31 = .ok (.ireturn, 1) := by decide +kernel
theorem dX9_runOn_0 : decode cX9_runOn 0 = .ok (.aload_n 0, 1) := by decide +kernel
theorem dX9_runOn_1 : decode cX9_runOn 1 = .ok (.getfield 46, 3) := by decide +kernel
theorem dX9_runOn_4 : decode cX9_runOn 4 = .ok (.aload_n 0, 1) := by decide +kernel
theorem dX9_runOn_5 : decode cX9_runOn 5 = .ok (.getfield 16, 3) := by decide +kernel
theorem dX9_runOn_8 : decode cX9_runOn 8 = .ok (.getfield 118, 3) := by decide +kernel
theorem dX9_runOn_11 : decode cX9_runOn 11 = .ok (.invokevirtual 122, 3) := by decide +kernel
theorem dX9_runOn_14 : decode cX9_runOn 14 = .ok (.iconst 0, 1) := by decide +kernel
theorem dX9_runOn_15 : decode cX9_runOn 15 = .ok (.istore_n 3, 1) := by decide +kernel
theorem dX9_runOn_16 : decode cX9_runOn 16 = .ok (.iload_n 3, 1) := by decide +kernel
theorem dX9_runOn_17 : decode cX9_runOn 17 = .ok (.aload_n 0, 1) := by decide +kernel
theorem dX9_runOn_18 : decode cX9_runOn 18 = .ok (.getfield 16, 3) := by decide +kernel
theorem dX9_runOn_21 : decode cX9_runOn 21 = .ok (.getfield 274, 3) := by decide +kernel
theorem dX9_runOn_24 : decode cX9_runOn 24 = .ok (.getfield 138, 3) := by decide +kernel
theorem dX9_runOn_27 : decode cX9_runOn 27 = .ok (.if_icmp .ge 37, 3) := by decide +kernel
theorem dX9_runOn_30 : decode cX9_runOn 30 = .ok (.aload_n 0, 1) := by decide +kernel
theorem dX9_runOn_31 : decode cX9_runOn 31 = .ok (.getfield 46, 3) := by decide +kernel
theorem dX9_runOn_34 : decode cX9_runOn 34 = .ok (.aload_n 1, 1) := by decide +kernel
theorem dX9_runOn_35 : decode cX9_runOn 35 = .ok (.aload_n 0, 1) := by decide +kernel
theorem dX9_runOn_36 : decode cX9_runOn 36 = .ok (.getfield 16, 3) := by decide +kernel
theorem dX9_runOn_39 : decode cX9_runOn 39 = .ok (.getfield 274, 3) := by decide +kernel
theorem dX9_runOn_42 : decode cX9_runOn 42 = .ok (.iload_n 3, 1) := by decide +kernel
theorem dX9_runOn_43 : decode cX9_runOn 43 = .ok (.invokevirtual 292, 3) := by decide +kernel
theorem dX9_runOn_46 : decode cX9_runOn 46 = .ok (.aload_n 0, 1) := by decide +kernel
theorem dX9_runOn_47 : decode cX9_runOn 47 = .ok (.getfield 16, 3) := by decide +kernel
theorem dX9_runOn_50 : decode cX9_runOn 50 = .ok (.iload_n 3, 1) := by decide +kernel
theorem dX9_runOn_51 : decode cX9_runOn 51 = .ok (.iload_n 2, 1) := by decide +kernel
theorem dX9_runOn_52 : decode cX9_runOn 52 = .ok (.invokevirtual 293, 3) := by decide +kernel
theorem dX9_runOn_55 : decode cX9_runOn 55 = .ok (.invokevirtual 296, 3) := by decide +kernel
theorem dX9_runOn_58 : decode cX9_runOn 58 = .ok (.iinc 3 1, 3) := by decide +kernel
theorem dX9_runOn_61 : decode cX9_runOn 61 = .ok (.goto (-45), 3) := by decide +kernel
theorem dX9_runOn_64 : decode cX9_runOn 64 = .ok (.return_, 1) := by decide +kernel
theorem dX9_fits_0 : decode cX9_fits 0 = .ok (.aload_n 0, 1) := by decide +kernel
theorem dX9_fits_1 : decode cX9_fits 1 = .ok (.invokevirtual 199, 3) := by decide +kernel
theorem dX9_fits_4 : decode cX9_fits 4 = .ok (.ifCond .ne 9, 3) := by decide +kernel
theorem dX9_fits_7 : decode cX9_fits 7 = .ok (.aload_n 0, 1) := by decide +kernel
theorem dX9_fits_8 : decode cX9_fits 8 = .ok (.iconst 1, 1) := by decide +kernel
theorem dX9_fits_9 : decode cX9_fits 9 = .ok (.invokevirtual 86, 3) := by decide +kernel
theorem dX9_fits_12 : decode cX9_fits 12 = .ok (.ireturn, 1) := by decide +kernel
theorem dX9_fits_13 : decode cX9_fits 13 = .ok (.aload_n 0, 1) := by decide +kernel
theorem dX9_fits_14 : decode cX9_fits 14 = .ok (.aload_n 0, 1) := by decide +kernel
theorem dX9_fits_15 : decode cX9_fits 15 = .ok (.getfield 35, 3) := by decide +kernel
theorem dX9_fits_18 : decode cX9_fits 18 = .ok (.getfield 132, 3) := by decide +kernel
theorem dX9_fits_21 : decode cX9_fits 21 = .ok (.invokevirtual 115, 3) := by decide +kernel
theorem dX9_fits_24 : decode cX9_fits 24 = .ok (.ireturn, 1) := by decide +kernel
theorem dX9_fitAt_0 : decode cX9_fitAt 0 = .ok (.aload_n 0, 1) := by decide +kernel
theorem dX9_fitAt_1 : decode cX9_fitAt 1 = .ok (.invokevirtual 199, 3) := by decide +kernel
theorem dX9_fitAt_4 : decode cX9_fitAt 4 = .ok (.ifCond .eq 18, 3) := by decide +kernel
theorem dX9_fitAt_7 : decode cX9_fitAt 7 = .ok (.iload_n 1, 1) := by decide +kernel
theorem dX9_fitAt_8 : decode cX9_fitAt 8 = .ok (.ifCond .lt 14, 3) := by decide +kernel
theorem dX9_fitAt_11 : decode cX9_fitAt 11 = .ok (.iload_n 1, 1) := by decide +kernel
theorem dX9_fitAt_12 : decode cX9_fitAt 12 = .ok (.aload_n 0, 1) := by decide +kernel
theorem dX9_fitAt_13 : decode cX9_fitAt 13 = .ok (.getfield 35, 3) := by decide +kernel
theorem dX9_fitAt_16 : decode cX9_fitAt 16 = .ok (.getfield 132, 3) := by decide +kernel
theorem dX9_fitAt_19 : decode cX9_fitAt 19 = .ok (.if_icmp .lt 9, 3) := by decide +kernel
theorem dX9_fitAt_22 : decode cX9_fitAt 22 = .ok (.aload_n 0, 1) := by decide +kernel
theorem dX9_fitAt_23 : decode cX9_fitAt 23 = .ok (.iconst 1, 1) := by decide +kernel
theorem dX9_fitAt_24 : decode cX9_fitAt 24 = .ok (.invokevirtual 86, 3) := by decide +kernel
theorem dX9_fitAt_27 : decode cX9_fitAt 27 = .ok (.ireturn, 1) := by decide +kernel
theorem dX9_fitAt_28 : decode cX9_fitAt 28 = .ok (.aload_n 0, 1) := by decide +kernel
theorem dX9_fitAt_29 : decode cX9_fitAt 29 = .ok (.aload_n 0, 1) := by decide +kernel
theorem dX9_fitAt_30 : decode cX9_fitAt 30 = .ok (.getfield 35, 3) := by decide +kernel
theorem dX9_fitAt_33 : decode cX9_fitAt 33 = .ok (.getfield 299, 3) := by decide +kernel
theorem dX9_fitAt_36 : decode cX9_fitAt 36 = .ok (.iload_n 1, 1) := by decide +kernel
theorem dX9_fitAt_37 : decode cX9_fitAt 37 = .ok (.invokestatic 173, 3) := by decide +kernel
theorem dX9_fitAt_40 : decode cX9_fitAt 40 = .ok (.invokevirtual 115, 3) := by decide +kernel
theorem dX9_fitAt_43 : decode cX9_fitAt 43 = .ok (.ireturn, 1) := by decide +kernel
theorem dX9_could_0 : decode cX9_could 0 = .ok (.aload_n 0, 1) := by decide +kernel
theorem dX9_could_1 : decode cX9_could 1 = .ok (.invokevirtual 199, 3) := by decide +kernel
theorem dX9_could_4 : decode cX9_could 4 = .ok (.ifCond .ne 9, 3) := by decide +kernel
theorem dX9_could_7 : decode cX9_could 7 = .ok (.aload_n 0, 1) := by decide +kernel
theorem dX9_could_8 : decode cX9_could 8 = .ok (.iconst 1, 1) := by decide +kernel
theorem dX9_could_9 : decode cX9_could 9 = .ok (.invokevirtual 86, 3) := by decide +kernel
theorem dX9_could_12 : decode cX9_could 12 = .ok (.ireturn, 1) := by decide +kernel
theorem dX9_could_13 : decode cX9_could 13 = .ok (.aload_n 0, 1) := by decide +kernel
theorem dX9_could_14 : decode cX9_could 14 = .ok (.aload_n 0, 1) := by decide +kernel
theorem dX9_could_15 : decode cX9_could 15 = .ok (.getfield 35, 3) := by decide +kernel
theorem dX9_could_18 : decode cX9_could 18 = .ok (.invokevirtual 302, 3) := by decide +kernel
theorem dX9_could_21 : decode cX9_could 21 = .ok (.invokevirtual 115, 3) := by decide +kernel
theorem dX9_could_24 : decode cX9_could 24 = .ok (.ireturn, 1) := by decide +kernel
theorem dX9_surely_0 : decode cX9_surely 0 = .ok (.aload_n 0, 1) := by decide +kernel
theorem dX9_surely_1 : decode cX9_surely 1 = .ok (.invokevirtual 199, 3) := by decide +kernel
theorem dX9_surely_4 : decode cX9_surely 4 = .ok (.ifCond .ne 9, 3) := by decide +kernel
theorem dX9_surely_7 : decode cX9_surely 7 = .ok (.aload_n 0, 1) := by decide +kernel
theorem dX9_surely_8 : decode cX9_surely 8 = .ok (.iconst 1, 1) := by decide +kernel
theorem dX9_surely_9 : decode cX9_surely 9 = .ok (.invokevirtual 86, 3) := by decide +kernel
theorem dX9_surely_12 : decode cX9_surely 12 = .ok (.ireturn, 1) := by decide +kernel
theorem dX9_surely_13 : decode cX9_surely 13 = .ok (.aload_n 0, 1) := by decide +kernel
theorem dX9_surely_14 : decode cX9_surely 14 = .ok (.aload_n 0, 1) := by decide +kernel
theorem dX9_surely_15 : decode cX9_surely 15 = .ok (.getfield 35, 3) := by decide +kernel
theorem dX9_surely_18 : decode cX9_surely 18 = .ok (.invokevirtual 305, 3) := by decide +kernel
theorem dX9_surely_21 : decode cX9_surely 21 = .ok (.invokevirtual 115, 3) := by decide +kernel
theorem dX9_surely_24 : decode cX9_surely 24 = .ok (.ireturn, 1) := by decide +kernel
theorem dX9_ask_0 : decode cX9_ask 0 = .ok (.aload_n 0, 1) := by decide +kernel
theorem dX9_ask_1 : decode cX9_ask 1 = .ok (.invokevirtual 199, 3) := by decide +kernel
theorem dX9_ask_4 : decode cX9_ask 4 = .ok (.ifCond .ne 9, 3) := by decide +kernel
theorem dX9_ask_7 : decode cX9_ask 7 = .ok (.aload_n 0, 1) := by decide +kernel
theorem dX9_ask_8 : decode cX9_ask 8 = .ok (.iconst 1, 1) := by decide +kernel
theorem dX9_ask_9 : decode cX9_ask 9 = .ok (.invokevirtual 86, 3) := by decide +kernel
theorem dX9_ask_12 : decode cX9_ask 12 = .ok (.ireturn, 1) := by decide +kernel
theorem dX9_ask_13 : decode cX9_ask 13 = .ok (.aload_n 0, 1) := by decide +kernel
theorem dX9_ask_14 : decode cX9_ask 14 = .ok (.aload_n 0, 1) := by decide +kernel
theorem dX9_ask_15 : decode cX9_ask 15 = .ok (.getfield 35, 3) := by decide +kernel
theorem dX9_ask_18 : decode cX9_ask 18 = .ok (.aload_n 0, 1) := by decide +kernel
theorem dX9_ask_19 : decode cX9_ask 19 = .ok (.getfield 16, 3) := by decide +kernel
theorem dX9_ask_22 : decode cX9_ask 22 = .ok (.getfield 135, 3) := by decide +kernel
theorem dX9_ask_25 : decode cX9_ask 25 = .ok (.getfield 138, 3) := by decide +kernel
theorem dX9_ask_28 : decode cX9_ask 28 = .ok (.invokevirtual 308, 3) := by decide +kernel
theorem dX9_ask_31 : decode cX9_ask 31 = .ok (.invokevirtual 115, 3) := by decide +kernel
theorem dX9_ask_34 : decode cX9_ask 34 = .ok (.ireturn, 1) := by decide +kernel
theorem dX9_askLeaves_0 : decode cX9_askLeaves 0 = .ok (.aload_n 0, 1) := by decide +kernel
theorem dX9_askLeaves_1 : decode cX9_askLeaves 1 = .ok (.invokevirtual 199, 3) := by decide +kernel
theorem dX9_askLeaves_4 : decode cX9_askLeaves 4 = .ok (.ifCond .ne 9, 3) := by decide +kernel
theorem dX9_askLeaves_7 : decode cX9_askLeaves 7 = .ok (.aload_n 0, 1) := by decide +kernel
theorem dX9_askLeaves_8 : decode cX9_askLeaves 8 = .ok (.iconst 1, 1) := by decide +kernel
theorem dX9_askLeaves_9 : decode cX9_askLeaves 9 = .ok (.invokevirtual 86, 3) := by decide +kernel
theorem dX9_askLeaves_12 : decode cX9_askLeaves 12 = .ok (.ireturn, 1) := by decide +kernel
theorem dX9_askLeaves_13 : decode cX9_askLeaves 13 = .ok (.aload_n 0, 1) := by decide +kernel
theorem dX9_askLeaves_14 : decode cX9_askLeaves 14 = .ok (.getfield 35, 3) := by decide +kernel
theorem dX9_askLeaves_17 : decode cX9_askLeaves 17 = .ok (.aload_n 0, 1) := by decide +kernel
theorem dX9_askLeaves_18 : decode cX9_askLeaves 18 = .ok (.getfield 16, 3) := by decide +kernel
theorem dX9_askLeaves_21 : decode cX9_askLeaves 21 = .ok (.getfield 135, 3) := by decide +kernel
theorem dX9_askLeaves_24 : decode cX9_askLeaves 24 = .ok (.getfield 138, 3) := by decide +kernel
theorem dX9_askLeaves_27 : decode cX9_askLeaves 27 = .ok (.invokevirtual 308, 3) := by decide +kernel
theorem dX9_askLeaves_30 : decode cX9_askLeaves 30 = .ok (.istore_n 1, 1) := by decide +kernel
theorem dX9_askLeaves_31 : decode cX9_askLeaves 31 = .ok (.aload_n 0, 1) := by decide +kernel
theorem dX9_askLeaves_32 : decode cX9_askLeaves 32 = .ok (.iload_n 1, 1) := by decide +kernel
theorem dX9_askLeaves_33 : decode cX9_askLeaves 33 = .ok (.bipush (-2), 2) := by decide +kernel
theorem dX9_askLeaves_35 : decode cX9_askLeaves 35 = .ok (.if_icmp .ne 8, 3) := by decide +kernel
theorem dX9_askLeaves_38 : decode cX9_askLeaves 38 = .ok (.bipush (-2), 2) := by decide +kernel
theorem dX9_askLeaves_40 : decode cX9_askLeaves 40 = .ok (.goto 11, 3) := by decide +kernel
theorem dX9_askLeaves_43 : decode cX9_askLeaves 43 = .ok (.aload_n 0, 1) := by decide +kernel
theorem dX9_askLeaves_44 : decode cX9_askLeaves 44 = .ok (.getfield 35, 3) := by decide +kernel
theorem dX9_askLeaves_47 : decode cX9_askLeaves 47 = .ok (.iload_n 1, 1) := by decide +kernel
theorem dX9_askLeaves_48 : decode cX9_askLeaves 48 = .ok (.invokevirtual 311, 3) := by decide +kernel
theorem dX9_askLeaves_51 : decode cX9_askLeaves 51 = .ok (.invokevirtual 115, 3) := by decide +kernel
theorem dX9_askLeaves_54 : decode cX9_askLeaves 54 = .ok (.ireturn, 1) := by decide +kernel
theorem dX9_judge_0 : decode cX9_judge 0 = .ok (.aload_n 0, 1) := by decide +kernel
theorem dX9_judge_1 : decode cX9_judge 1 = .ok (.invokevirtual 199, 3) := by decide +kernel
theorem dX9_judge_4 : decode cX9_judge 4 = .ok (.ifCond .ne 9, 3) := by decide +kernel
theorem dX9_judge_7 : decode cX9_judge 7 = .ok (.aload_n 0, 1) := by decide +kernel
theorem dX9_judge_8 : decode cX9_judge 8 = .ok (.iconst 1, 1) := by decide +kernel
theorem dX9_judge_9 : decode cX9_judge 9 = .ok (.invokevirtual 86, 3) := by decide +kernel
theorem dX9_judge_12 : decode cX9_judge 12 = .ok (.ireturn, 1) := by decide +kernel
theorem dX9_judge_13 : decode cX9_judge 13 = .ok (.aload_n 0, 1) := by decide +kernel
theorem dX9_judge_14 : decode cX9_judge 14 = .ok (.aload_n 0, 1) := by decide +kernel
theorem dX9_judge_15 : decode cX9_judge 15 = .ok (.getfield 16, 3) := by decide +kernel
theorem dX9_judge_18 : decode cX9_judge 18 = .ok (.getfield 109, 3) := by decide +kernel
theorem dX9_judge_21 : decode cX9_judge 21 = .ok (.iconst 0, 1) := by decide +kernel
theorem dX9_judge_22 : decode cX9_judge 22 = .ok (.invokevirtual 141, 3) := by decide +kernel
theorem dX9_judge_25 : decode cX9_judge 25 = .ok (.aload_n 0, 1) := by decide +kernel
theorem dX9_judge_26 : decode cX9_judge 26 = .ok (.aload_n 0, 1) := by decide +kernel
theorem dX9_judge_27 : decode cX9_judge 27 = .ok (.invokevirtual 145, 3) := by decide +kernel
theorem dX9_judge_30 : decode cX9_judge 30 = .ok (.invokevirtual 115, 3) := by decide +kernel
theorem dX9_judge_33 : decode cX9_judge 33 = .ok (.ireturn, 1) := by decide +kernel
theorem dX9_firstReadOtherwise_0 : decode cX9_firstReadOtherwise 0 = .ok (.iconst 0, 1) := by decide +kernel
theorem dX9_firstReadOtherwise_1 : decode cX9_firstReadOtherwise 1 = .ok (.istore_n 1, 1) := by decide +kernel
theorem dX9_firstReadOtherwise_2 : decode cX9_firstReadOtherwise 2 = .ok (.iload_n 1, 1) := by decide +kernel
theorem dX9_firstReadOtherwise_3 : decode cX9_firstReadOtherwise 3 = .ok (.aload_n 0, 1) := by decide +kernel
theorem dX9_firstReadOtherwise_4 : decode cX9_firstReadOtherwise 4 = .ok (.getfield 16, 3) := by decide +kernel
theorem dX9_firstReadOtherwise_7 : decode cX9_firstReadOtherwise 7 = .ok (.getfield 314, 3) := by decide +kernel
theorem dX9_firstReadOtherwise_10 : decode cX9_firstReadOtherwise 10 = .ok (.getfield 138, 3) := by decide +kernel
theorem dX9_firstReadOtherwise_13 : decode cX9_firstReadOtherwise 13 = .ok (.if_icmp .ge 43, 3) := by decide +kernel
theorem dX9_firstReadOtherwise_16 : decode cX9_firstReadOtherwise 16 = .ok (.aload_n 0, 1) := by decide +kernel
theorem dX9_firstReadOtherwise_17 : decode cX9_firstReadOtherwise 17 = .ok (.getfield 46, 3) := by decide +kernel
theorem dX9_firstReadOtherwise_20 : decode cX9_firstReadOtherwise 20 = .ok (.aload_n 0, 1) := by decide +kernel
theorem dX9_firstReadOtherwise_21 : decode cX9_firstReadOtherwise 21 = .ok (.getfield 16, 3) := by decide +kernel
theorem dX9_firstReadOtherwise_24 : decode cX9_firstReadOtherwise 24 = .ok (.getfield 314, 3) := by decide +kernel
theorem dX9_firstReadOtherwise_27 : decode cX9_firstReadOtherwise 27 = .ok (.iload_n 1, 1) := by decide +kernel
theorem dX9_firstReadOtherwise_28 : decode cX9_firstReadOtherwise 28 = .ok (.invokevirtual 292, 3) := by decide +kernel
theorem dX9_firstReadOtherwise_31 : decode cX9_firstReadOtherwise 31 = .ok (.invokevirtual 166, 3) := by decide +kernel
theorem dX9_firstReadOtherwise_34 : decode cX9_firstReadOtherwise 34 = .ok (.aload_n 0, 1) := by decide +kernel
theorem dX9_firstReadOtherwise_35 : decode cX9_firstReadOtherwise 35 = .ok (.getfield 16, 3) := by decide +kernel
theorem dX9_firstReadOtherwise_38 : decode cX9_firstReadOtherwise 38 = .ok (.getfield 314, 3) := by decide +kernel
theorem dX9_firstReadOtherwise_41 : decode cX9_firstReadOtherwise 41 = .ok (.iload_n 1, 1) := by decide +kernel
theorem dX9_firstReadOtherwise_42 : decode cX9_firstReadOtherwise 42 = .ok (.invokevirtual 317, 3) := by decide +kernel
theorem dX9_firstReadOtherwise_45 : decode cX9_firstReadOtherwise 45 = .ok (.if_icmp .eq 5, 3) := by decide +kernel
theorem dX9_firstReadOtherwise_48 : decode cX9_firstReadOtherwise 48 = .ok (.iload_n 1, 1) := by decide +kernel
theorem dX9_firstReadOtherwise_49 : decode cX9_firstReadOtherwise 49 = .ok (.ireturn, 1) := by decide +kernel
theorem dX9_firstReadOtherwise_50 : decode cX9_firstReadOtherwise 50 = .ok (.iinc 1 1, 3) := by decide +kernel
theorem dX9_firstReadOtherwise_53 : decode cX9_firstReadOtherwise 53 = .ok (.goto (-51), 3) := by decide +kernel
theorem dX9_firstReadOtherwise_56 : decode cX9_firstReadOtherwise 56 = .ok (.bipush (-2), 2) := by decide +kernel
theorem dX9_firstReadOtherwise_58 : decode cX9_firstReadOtherwise 58 = .ok (.ireturn, 1) := by decide +kernel
theorem dX9_drawnRead_0 : decode cX9_drawnRead 0 = .ok (.aload_n 0, 1) := by decide +kernel
theorem dX9_drawnRead_1 : decode cX9_drawnRead 1 = .ok (.iload_n 1, 1) := by decide +kernel
theorem dX9_drawnRead_2 : decode cX9_drawnRead 2 = .ok (.invokevirtual 158, 3) := by decide +kernel
theorem dX9_drawnRead_5 : decode cX9_drawnRead 5 = .ok (.ifCond .ne 9, 3) := by decide +kernel
theorem dX9_drawnRead_8 : decode cX9_drawnRead 8 = .ok (.aload_n 0, 1) := by decide +kernel
theorem dX9_drawnRead_9 : decode cX9_drawnRead 9 = .ok (.iconst 1, 1) := by decide +kernel
theorem dX9_drawnRead_10 : decode cX9_drawnRead 10 = .ok (.invokevirtual 86, 3) := by decide +kernel
theorem dX9_drawnRead_13 : decode cX9_drawnRead 13 = .ok (.ireturn, 1) := by decide +kernel
theorem dX9_drawnRead_14 : decode cX9_drawnRead 14 = .ok (.iload_n 2, 1) := by decide +kernel
theorem dX9_drawnRead_15 : decode cX9_drawnRead 15 = .ok (.iload_n 3, 1) := by decide +kernel
theorem dX9_drawnRead_16 : decode cX9_drawnRead 16 = .ok (.invokestatic 320, 3) := by decide +kernel
theorem dX9_drawnRead_19 : decode cX9_drawnRead 19 = .ok (.ifCond .ne 9, 3) := by decide +kernel
theorem dX9_drawnRead_22 : decode cX9_drawnRead 22 = .ok (.aload_n 0, 1) := by decide +kernel
theorem dX9_drawnRead_23 : decode cX9_drawnRead 23 = .ok (.iconst 2, 1) := by decide +kernel
theorem dX9_drawnRead_24 : decode cX9_drawnRead 24 = .ok (.invokevirtual 86, 3) := by decide +kernel
theorem dX9_drawnRead_27 : decode cX9_drawnRead 27 = .ok (.ireturn, 1) := by decide +kernel
theorem dX9_drawnRead_28 : decode cX9_drawnRead 28 = .ok (.aload_n 0, 1) := by decide +kernel
theorem dX9_drawnRead_29 : decode cX9_drawnRead 29 = .ok (.iload_n 2, 1) := by decide +kernel
theorem dX9_drawnRead_30 : decode cX9_drawnRead 30 = .ok (.iload_n 3, 1) := by decide +kernel
theorem dX9_drawnRead_31 : decode cX9_drawnRead 31 = .ok (.invokevirtual 324, 3) := by decide +kernel
theorem dX9_drawnRead_34 : decode cX9_drawnRead 34 = .ok (.aload_n 0, 1) := by decide +kernel
theorem dX9_drawnRead_35 : decode cX9_drawnRead 35 = .ok (.aload_n 0, 1) := by decide +kernel
theorem dX9_drawnRead_36 : decode cX9_drawnRead 36 = .ok (.getfield 46, 3) := by decide +kernel
theorem dX9_drawnRead_39 : decode cX9_drawnRead 39 = .ok (.iload_n 1, 1) := by decide +kernel
theorem dX9_drawnRead_40 : decode cX9_drawnRead 40 = .ok (.invokevirtual 166, 3) := by decide +kernel
theorem dX9_drawnRead_43 : decode cX9_drawnRead 43 = .ok (.invokevirtual 115, 3) := by decide +kernel
theorem dX9_drawnRead_46 : decode cX9_drawnRead 46 = .ok (.ireturn, 1) := by decide +kernel
theorem dX9_drawnWrites_0 : decode cX9_drawnWrites 0 = .ok (.aload_n 0, 1) := by decide +kernel
theorem dX9_drawnWrites_1 : decode cX9_drawnWrites 1 = .ok (.invokevirtual 199, 3) := by decide +kernel
theorem dX9_drawnWrites_4 : decode cX9_drawnWrites 4 = .ok (.ifCond .ne 9, 3) := by decide +kernel
theorem dX9_drawnWrites_7 : decode cX9_drawnWrites 7 = .ok (.aload_n 0, 1) := by decide +kernel
theorem dX9_drawnWrites_8 : decode cX9_drawnWrites 8 = .ok (.iconst 1, 1) := by decide +kernel
theorem dX9_drawnWrites_9 : decode cX9_drawnWrites 9 = .ok (.invokevirtual 86, 3) := by decide +kernel
theorem dX9_drawnWrites_12 : decode cX9_drawnWrites 12 = .ok (.ireturn, 1) := by decide +kernel
theorem dX9_drawnWrites_13 : decode cX9_drawnWrites 13 = .ok (.iload_n 1, 1) := by decide +kernel
theorem dX9_drawnWrites_14 : decode cX9_drawnWrites 14 = .ok (.iload_n 2, 1) := by decide +kernel
theorem dX9_drawnWrites_15 : decode cX9_drawnWrites 15 = .ok (.invokestatic 320, 3) := by decide +kernel
theorem dX9_drawnWrites_18 : decode cX9_drawnWrites 18 = .ok (.ifCond .ne 9, 3) := by decide +kernel
theorem dX9_drawnWrites_21 : decode cX9_drawnWrites 21 = .ok (.aload_n 0, 1) := by decide +kernel
theorem dX9_drawnWrites_22 : decode cX9_drawnWrites 22 = .ok (.iconst 2, 1) := by decide +kernel
theorem dX9_drawnWrites_23 : decode cX9_drawnWrites 23 = .ok (.invokevirtual 86, 3) := by decide +kernel
theorem dX9_drawnWrites_26 : decode cX9_drawnWrites 26 = .ok (.ireturn, 1) := by decide +kernel
theorem dX9_drawnWrites_27 : decode cX9_drawnWrites 27 = .ok (.aload_n 0, 1) := by decide +kernel
theorem dX9_drawnWrites_28 : decode cX9_drawnWrites 28 = .ok (.iload_n 1, 1) := by decide +kernel
theorem dX9_drawnWrites_29 : decode cX9_drawnWrites 29 = .ok (.iload_n 2, 1) := by decide +kernel
theorem dX9_drawnWrites_30 : decode cX9_drawnWrites 30 = .ok (.invokevirtual 324, 3) := by decide +kernel
theorem dX9_drawnWrites_33 : decode cX9_drawnWrites 33 = .ok (.aload_n 0, 1) := by decide +kernel
theorem dX9_drawnWrites_34 : decode cX9_drawnWrites 34 = .ok (.aload_n 0, 1) := by decide +kernel
theorem dX9_drawnWrites_35 : decode cX9_drawnWrites 35 = .ok (.getfield 46, 3) := by decide +kernel
theorem dX9_drawnWrites_38 : decode cX9_drawnWrites 38 = .ok (.getfield 264, 3) := by decide +kernel
theorem dX9_drawnWrites_41 : decode cX9_drawnWrites 41 = .ok (.aload_n 0, 1) := by decide +kernel
theorem dX9_drawnWrites_42 : decode cX9_drawnWrites 42 = .ok (.getfield 42, 3) := by decide +kernel
theorem dX9_drawnWrites_45 : decode cX9_drawnWrites 45 = .ok (.getfield 264, 3) := by decide +kernel
theorem dX9_drawnWrites_48 : decode cX9_drawnWrites 48 = .ok (.isub, 1) := by decide +kernel
theorem dX9_drawnWrites_49 : decode cX9_drawnWrites 49 = .ok (.invokevirtual 115, 3) := by decide +kernel
theorem dX9_drawnWrites_52 : decode cX9_drawnWrites 52 = .ok (.ireturn, 1) := by decide +kernel
theorem dX9_canDraw_0 : decode cX9_canDraw 0 = .ok (.iload_n 0, 1) := by decide +kernel
theorem dX9_canDraw_1 : decode cX9_canDraw 1 = .ok (.ifCond .lt 24, 3) := by decide +kernel
theorem dX9_canDraw_4 : decode cX9_canDraw 4 = .ok (.iload_n 0, 1) := by decide +kernel
theorem dX9_canDraw_5 : decode cX9_canDraw 5 = .ok (.ldc_w 327, 3) := by decide +kernel
theorem dX9_canDraw_8 : decode cX9_canDraw 8 = .ok (.if_icmp .gt 17, 3) := by decide +kernel
theorem dX9_canDraw_11 : decode cX9_canDraw 11 = .ok (.iload_n 1, 1) := by decide +kernel
theorem dX9_canDraw_12 : decode cX9_canDraw 12 = .ok (.ifCond .lt 13, 3) := by decide +kernel
theorem dX9_canDraw_15 : decode cX9_canDraw 15 = .ok (.iload_n 1, 1) := by decide +kernel
theorem dX9_canDraw_16 : decode cX9_canDraw 16 = .ok (.bipush 100, 2) := by decide +kernel
theorem dX9_canDraw_18 : decode cX9_canDraw 18 = .ok (.if_icmp .gt 7, 3) := by decide +kernel
theorem dX9_canDraw_21 : decode cX9_canDraw 21 = .ok (.iconst 1, 1) := by decide +kernel
theorem dX9_canDraw_22 : decode cX9_canDraw 22 = .ok (.goto 4, 3) := by decide +kernel
theorem dX9_canDraw_25 : decode cX9_canDraw 25 = .ok (.iconst 0, 1) := by decide +kernel
theorem dX9_canDraw_26 : decode cX9_canDraw 26 = .ok (.ireturn, 1) := by decide +kernel
theorem dX9_tryDraws_0 : decode cX9_tryDraws 0 = .ok (.aload_n 0, 1) := by decide +kernel
theorem dX9_tryDraws_1 : decode cX9_tryDraws 1 = .ok (.getfield 46, 3) := by decide +kernel
theorem dX9_tryDraws_4 : decode cX9_tryDraws 4 = .ok (.aload_n 0, 1) := by decide +kernel
theorem dX9_tryDraws_5 : decode cX9_tryDraws 5 = .ok (.getfield 42, 3) := by decide +kernel
theorem dX9_tryDraws_8 : decode cX9_tryDraws 8 = .ok (.invokevirtual 238, 3) := by decide +kernel
theorem dX9_tryDraws_11 : decode cX9_tryDraws 11 = .ok (.aload_n 0, 1) := by decide +kernel
theorem dX9_tryDraws_12 : decode cX9_tryDraws 12 = .ok (.getfield 46, 3) := by decide +kernel
theorem dX9_tryDraws_15 : decode cX9_tryDraws 15 = .ok (.getfield 162, 3) := by decide +kernel
theorem dX9_tryDraws_18 : decode cX9_tryDraws 18 = .ok (.ifCond .eq 18, 3) := by decide +kernel
theorem dX9_tryDraws_21 : decode cX9_tryDraws 21 = .ok (.aload_n 0, 1) := by decide +kernel
theorem dX9_tryDraws_22 : decode cX9_tryDraws 22 = .ok (.getfield 46, 3) := by decide +kernel
theorem dX9_tryDraws_25 : decode cX9_tryDraws 25 = .ok (.aload_n 0, 1) := by decide +kernel
theorem dX9_tryDraws_26 : decode cX9_tryDraws 26 = .ok (.getfield 16, 3) := by decide +kernel
theorem dX9_tryDraws_29 : decode cX9_tryDraws 29 = .ok (.getfield 109, 3) := by decide +kernel
theorem dX9_tryDraws_32 : decode cX9_tryDraws 32 = .ok (.invokevirtual 261, 3) := by decide +kernel
theorem dX9_tryDraws_35 : decode cX9_tryDraws 35 = .ok (.pop, 1) := by decide +kernel
theorem dX9_tryDraws_36 : decode cX9_tryDraws 36 = .ok (.aload_n 0, 1) := by decide +kernel
theorem dX9_tryDraws_37 : decode cX9_tryDraws 37 = .ok (.getfield 59, 3) := by decide +kernel
theorem dX9_tryDraws_40 : decode cX9_tryDraws 40 = .ok (.iload_n 1, 1) := by decide +kernel
theorem dX9_tryDraws_41 : decode cX9_tryDraws 41 = .ok (.putfield 328, 3) := by decide +kernel
theorem dX9_tryDraws_44 : decode cX9_tryDraws 44 = .ok (.iconst 0, 1) := by decide +kernel
theorem dX9_tryDraws_45 : decode cX9_tryDraws 45 = .ok (.istore_n 3, 1) := by decide +kernel
theorem dX9_tryDraws_46 : decode cX9_tryDraws 46 = .ok (.iload_n 3, 1) := by decide +kernel
theorem dX9_tryDraws_47 : decode cX9_tryDraws 47 = .ok (.iload_n 2, 1) := by decide +kernel
theorem dX9_tryDraws_48 : decode cX9_tryDraws 48 = .ok (.if_icmp .ge 27, 3) := by decide +kernel
theorem dX9_tryDraws_51 : decode cX9_tryDraws 51 = .ok (.aload_n 0, 1) := by decide +kernel
theorem dX9_tryDraws_52 : decode cX9_tryDraws 52 = .ok (.getfield 59, 3) := by decide +kernel
theorem dX9_tryDraws_55 : decode cX9_tryDraws 55 = .ok (.aload_n 0, 1) := by decide +kernel
theorem dX9_tryDraws_56 : decode cX9_tryDraws 56 = .ok (.getfield 16, 3) := by decide +kernel
theorem dX9_tryDraws_59 : decode cX9_tryDraws 59 = .ok (.getfield 109, 3) := by decide +kernel
theorem dX9_tryDraws_62 : decode cX9_tryDraws 62 = .ok (.aload_n 0, 1) := by decide +kernel
theorem dX9_tryDraws_63 : decode cX9_tryDraws 63 = .ok (.getfield 46, 3) := by decide +kernel
theorem dX9_tryDraws_66 : decode cX9_tryDraws 66 = .ok (.invokevirtual 331, 3) := by decide +kernel
theorem dX9_tryDraws_69 : decode cX9_tryDraws 69 = .ok (.iinc 3 1, 3) := by decide +kernel
theorem dX9_tryDraws_72 : decode cX9_tryDraws 72 = .ok (.goto (-26), 3) := by decide +kernel
theorem dX9_tryDraws_75 : decode cX9_tryDraws 75 = .ok (.return_, 1) := by decide +kernel
theorem dX9_write_0 : decode cX9_write 0 = .ok (.aload_n 0, 1) := by decide +kernel
theorem dX9_write_1 : decode cX9_write 1 = .ok (.iload_n 1, 1) := by decide +kernel
theorem dX9_write_2 : decode cX9_write 2 = .ok (.invokevirtual 158, 3) := by decide +kernel
theorem dX9_write_5 : decode cX9_write 5 = .ok (.ifCond .ne 9, 3) := by decide +kernel
theorem dX9_write_8 : decode cX9_write 8 = .ok (.aload_n 0, 1) := by decide +kernel
theorem dX9_write_9 : decode cX9_write 9 = .ok (.iconst 1, 1) := by decide +kernel
theorem dX9_write_10 : decode cX9_write 10 = .ok (.invokevirtual 86, 3) := by decide +kernel
theorem dX9_write_13 : decode cX9_write 13 = .ok (.ireturn, 1) := by decide +kernel
theorem dX9_write_14 : decode cX9_write 14 = .ok (.iload_n 2, 1) := by decide +kernel
theorem dX9_write_15 : decode cX9_write 15 = .ok (.ifCond .lt 10, 3) := by decide +kernel
theorem dX9_write_18 : decode cX9_write 18 = .ok (.iload_n 2, 1) := by decide +kernel
theorem dX9_write_19 : decode cX9_write 19 = .ok (.sipush 9999, 3) := by decide +kernel
theorem dX9_write_22 : decode cX9_write 22 = .ok (.if_icmp .le 9, 3) := by decide +kernel
theorem dX9_write_25 : decode cX9_write 25 = .ok (.aload_n 0, 1) := by decide +kernel
theorem dX9_write_26 : decode cX9_write 26 = .ok (.iconst 2, 1) := by decide +kernel
theorem dX9_write_27 : decode cX9_write 27 = .ok (.invokevirtual 86, 3) := by decide +kernel
theorem dX9_write_30 : decode cX9_write 30 = .ok (.ireturn, 1) := by decide +kernel
theorem dX9_write_31 : decode cX9_write 31 = .ok (.aload_n 0, 1) := by decide +kernel
theorem dX9_write_32 : decode cX9_write 32 = .ok (.getfield 42, 3) := by decide +kernel
theorem dX9_write_35 : decode cX9_write 35 = .ok (.getfield 162, 3) := by decide +kernel
theorem dX9_write_38 : decode cX9_write 38 = .ok (.ifCond .eq 9, 3) := by decide +kernel
theorem dX9_write_41 : decode cX9_write 41 = .ok (.aload_n 0, 1) := by decide +kernel
theorem dX9_write_42 : decode cX9_write 42 = .ok (.iconst 5, 1) := by decide +kernel
theorem dX9_write_43 : decode cX9_write 43 = .ok (.invokevirtual 86, 3) := by decide +kernel
theorem dX9_write_46 : decode cX9_write 46 = .ok (.ireturn, 1) := by decide +kernel
theorem dX9_write_47 : decode cX9_write 47 = .ok (.aload_n 0, 1) := by decide +kernel
theorem dX9_write_48 : decode cX9_write 48 = .ok (.getfield 66, 3) := by decide +kernel
theorem dX9_write_51 : decode cX9_write 51 = .ok (.aload_n 0, 1) := by decide +kernel
theorem dX9_write_52 : decode cX9_write 52 = .ok (.getfield 42, 3) := by decide +kernel
theorem dX9_write_55 : decode cX9_write 55 = .ok (.invokevirtual 335, 3) := by decide +kernel
theorem dX9_write_58 : decode cX9_write 58 = .ok (.aload_n 0, 1) := by decide +kernel
theorem dX9_write_59 : decode cX9_write 59 = .ok (.getfield 42, 3) := by decide +kernel
theorem dX9_write_62 : decode cX9_write 62 = .ok (.aload_n 0, 1) := by decide +kernel
theorem dX9_write_63 : decode cX9_write 63 = .ok (.getfield 16, 3) := by decide +kernel
theorem dX9_write_66 : decode cX9_write 66 = .ok (.getfield 109, 3) := by decide +kernel
theorem dX9_write_69 : decode cX9_write 69 = .ok (.iload_n 1, 1) := by decide +kernel
theorem dX9_write_70 : decode cX9_write 70 = .ok (.iload_n 2, 1) := by decide +kernel
theorem dX9_write_71 : decode cX9_write 71 = .ok (.invokevirtual 296, 3) := by decide +kernel
theorem dX9_write_74 : decode cX9_write 74 = .ok (.aload_n 0, 1) := by decide +kernel
theorem dX9_write_75 : decode cX9_write 75 = .ok (.aload_n 0, 1) := by decide +kernel
theorem dX9_write_76 : decode cX9_write 76 = .ok (.getfield 42, 3) := by decide +kernel
theorem dX9_write_79 : decode cX9_write 79 = .ok (.getfield 209, 3) := by decide +kernel
theorem dX9_write_82 : decode cX9_write 82 = .ok (.iconst 1, 1) := by decide +kernel
theorem dX9_write_83 : decode cX9_write 83 = .ok (.isub, 1) := by decide +kernel
theorem dX9_write_84 : decode cX9_write 84 = .ok (.invokevirtual 115, 3) := by decide +kernel
theorem dX9_write_87 : decode cX9_write 87 = .ok (.ireturn, 1) := by decide +kernel
theorem dX9_clean_0 : decode cX9_clean 0 = .ok (.aload_n 0, 1) := by decide +kernel
theorem dX9_clean_1 : decode cX9_clean 1 = .ok (.iload_n 1, 1) := by decide +kernel
theorem dX9_clean_2 : decode cX9_clean 2 = .ok (.invokevirtual 180, 3) := by decide +kernel
theorem dX9_clean_5 : decode cX9_clean 5 = .ok (.ifCond .ne 9, 3) := by decide +kernel
theorem dX9_clean_8 : decode cX9_clean 8 = .ok (.aload_n 0, 1) := by decide +kernel
theorem dX9_clean_9 : decode cX9_clean 9 = .ok (.iconst 1, 1) := by decide +kernel
theorem dX9_clean_10 : decode cX9_clean 10 = .ok (.invokevirtual 86, 3) := by decide +kernel
theorem dX9_clean_13 : decode cX9_clean 13 = .ok (.ireturn, 1) := by decide +kernel
theorem dX9_clean_14 : decode cX9_clean 14 = .ok (.aload_n 0, 1) := by decide +kernel
theorem dX9_clean_15 : decode cX9_clean 15 = .ok (.getfield 42, 3) := by decide +kernel
theorem dX9_clean_18 : decode cX9_clean 18 = .ok (.getfield 162, 3) := by decide +kernel
theorem dX9_clean_21 : decode cX9_clean 21 = .ok (.ifCond .eq 9, 3) := by decide +kernel
theorem dX9_clean_24 : decode cX9_clean 24 = .ok (.aload_n 0, 1) := by decide +kernel
theorem dX9_clean_25 : decode cX9_clean 25 = .ok (.iconst 5, 1) := by decide +kernel
theorem dX9_clean_26 : decode cX9_clean 26 = .ok (.invokevirtual 86, 3) := by decide +kernel
theorem dX9_clean_29 : decode cX9_clean 29 = .ok (.ireturn, 1) := by decide +kernel
theorem dX9_clean_30 : decode cX9_clean 30 = .ok (.aload_n 0, 1) := by decide +kernel
theorem dX9_clean_31 : decode cX9_clean 31 = .ok (.getfield 66, 3) := by decide +kernel
theorem dX9_clean_34 : decode cX9_clean 34 = .ok (.aload_n 0, 1) := by decide +kernel
theorem dX9_clean_35 : decode cX9_clean 35 = .ok (.getfield 42, 3) := by decide +kernel
theorem dX9_clean_38 : decode cX9_clean 38 = .ok (.invokevirtual 335, 3) := by decide +kernel
theorem dX9_clean_41 : decode cX9_clean 41 = .ok (.aload_n 0, 1) := by decide +kernel
theorem dX9_clean_42 : decode cX9_clean 42 = .ok (.getfield 42, 3) := by decide +kernel
theorem dX9_clean_45 : decode cX9_clean 45 = .ok (.getfield 209, 3) := by decide +kernel
theorem dX9_clean_48 : decode cX9_clean 48 = .ok (.istore_n 2, 1) := by decide +kernel
theorem dX9_clean_49 : decode cX9_clean 49 = .ok (.aload_n 0, 1) := by decide +kernel
theorem dX9_clean_50 : decode cX9_clean 50 = .ok (.getfield 42, 3) := by decide +kernel
theorem dX9_clean_53 : decode cX9_clean 53 = .ok (.aload_n 0, 1) := by decide +kernel
theorem dX9_clean_54 : decode cX9_clean 54 = .ok (.getfield 16, 3) := by decide +kernel
theorem dX9_clean_57 : decode cX9_clean 57 = .ok (.getfield 109, 3) := by decide +kernel
theorem dX9_clean_60 : decode cX9_clean 60 = .ok (.iload_n 1, 1) := by decide +kernel
theorem dX9_clean_61 : decode cX9_clean 61 = .ok (.aload_n 0, 1) := by decide +kernel
theorem dX9_clean_62 : decode cX9_clean 62 = .ok (.getfield 16, 3) := by decide +kernel
theorem dX9_clean_65 : decode cX9_clean 65 = .ok (.getfield 109, 3) := by decide +kernel
theorem dX9_clean_68 : decode cX9_clean 68 = .ok (.iload_n 1, 1) := by decide +kernel
theorem dX9_clean_69 : decode cX9_clean 69 = .ok (.invokevirtual 245, 3) := by decide +kernel
theorem dX9_clean_72 : decode cX9_clean 72 = .ok (.invokevirtual 338, 3) := by decide +kernel
theorem dX9_clean_75 : decode cX9_clean 75 = .ok (.aload_n 0, 1) := by decide +kernel
theorem dX9_clean_76 : decode cX9_clean 76 = .ok (.iload_n 2, 1) := by decide +kernel
theorem dX9_clean_77 : decode cX9_clean 77 = .ok (.aload_n 0, 1) := by decide +kernel
theorem dX9_clean_78 : decode cX9_clean 78 = .ok (.getfield 42, 3) := by decide +kernel
theorem dX9_clean_81 : decode cX9_clean 81 = .ok (.getfield 209, 3) := by decide +kernel
theorem dX9_clean_84 : decode cX9_clean 84 = .ok (.isub, 1) := by decide +kernel
theorem dX9_clean_85 : decode cX9_clean 85 = .ok (.invokevirtual 115, 3) := by decide +kernel
theorem dX9_clean_88 : decode cX9_clean 88 = .ok (.ireturn, 1) := by decide +kernel
theorem dX9_cut_0 : decode cX9_cut 0 = .ok (.aload_n 0, 1) := by decide +kernel
theorem dX9_cut_1 : decode cX9_cut 1 = .ok (.iload_n 1, 1) := by decide +kernel
theorem dX9_cut_2 : decode cX9_cut 2 = .ok (.iload_n 2, 1) := by decide +kernel
theorem dX9_cut_3 : decode cX9_cut 3 = .ok (.invokevirtual 248, 3) := by decide +kernel
theorem dX9_cut_6 : decode cX9_cut 6 = .ok (.istore_n 3, 1) := by decide +kernel
theorem dX9_cut_7 : decode cX9_cut 7 = .ok (.iload_n 3, 1) := by decide +kernel
theorem dX9_cut_8 : decode cX9_cut 8 = .ok (.ifCond .eq 9, 3) := by decide +kernel
theorem dX9_cut_11 : decode cX9_cut 11 = .ok (.aload_n 0, 1) := by decide +kernel
theorem dX9_cut_12 : decode cX9_cut 12 = .ok (.iload_n 3, 1) := by decide +kernel
theorem dX9_cut_13 : decode cX9_cut 13 = .ok (.invokevirtual 86, 3) := by decide +kernel
theorem dX9_cut_16 : decode cX9_cut 16 = .ok (.ireturn, 1) := by decide +kernel
theorem dX9_cut_17 : decode cX9_cut 17 = .ok (.aload_n 0, 1) := by decide +kernel
theorem dX9_cut_18 : decode cX9_cut 18 = .ok (.getfield 66, 3) := by decide +kernel
theorem dX9_cut_21 : decode cX9_cut 21 = .ok (.aload_n 0, 1) := by decide +kernel
theorem dX9_cut_22 : decode cX9_cut 22 = .ok (.getfield 42, 3) := by decide +kernel
theorem dX9_cut_25 : decode cX9_cut 25 = .ok (.invokevirtual 335, 3) := by decide +kernel
theorem dX9_cut_28 : decode cX9_cut 28 = .ok (.aload_n 0, 1) := by decide +kernel
theorem dX9_cut_29 : decode cX9_cut 29 = .ok (.getfield 42, 3) := by decide +kernel
theorem dX9_cut_32 : decode cX9_cut 32 = .ok (.aload_n 0, 1) := by decide +kernel
theorem dX9_cut_33 : decode cX9_cut 33 = .ok (.getfield 16, 3) := by decide +kernel
theorem dX9_cut_36 : decode cX9_cut 36 = .ok (.getfield 109, 3) := by decide +kernel
theorem dX9_cut_39 : decode cX9_cut 39 = .ok (.iload_n 1, 1) := by decide +kernel
theorem dX9_cut_40 : decode cX9_cut 40 = .ok (.iload_n 2, 1) := by decide +kernel
theorem dX9_cut_41 : decode cX9_cut 41 = .ok (.invokevirtual 267, 3) := by decide +kernel
theorem dX9_cut_44 : decode cX9_cut 44 = .ok (.aload_n 0, 1) := by decide +kernel
theorem dX9_cut_45 : decode cX9_cut 45 = .ok (.aload_n 0, 1) := by decide +kernel
theorem dX9_cut_46 : decode cX9_cut 46 = .ok (.getfield 42, 3) := by decide +kernel
theorem dX9_cut_49 : decode cX9_cut 49 = .ok (.aload_n 0, 1) := by decide +kernel
theorem dX9_cut_50 : decode cX9_cut 50 = .ok (.getfield 16, 3) := by decide +kernel
theorem dX9_cut_53 : decode cX9_cut 53 = .ok (.getfield 109, 3) := by decide +kernel
theorem dX9_cut_56 : decode cX9_cut 56 = .ok (.invokevirtual 255, 3) := by decide +kernel
theorem dX9_cut_59 : decode cX9_cut 59 = .ok (.invokevirtual 115, 3) := by decide +kernel
theorem dX9_cut_62 : decode cX9_cut 62 = .ok (.ireturn, 1) := by decide +kernel
theorem dX9_recover_0 : decode cX9_recover 0 = .ok (.aload_n 0, 1) := by decide +kernel
theorem dX9_recover_1 : decode cX9_recover 1 = .ok (.invokevirtual 199, 3) := by decide +kernel
theorem dX9_recover_4 : decode cX9_recover 4 = .ok (.ifCond .ne 9, 3) := by decide +kernel
theorem dX9_recover_7 : decode cX9_recover 7 = .ok (.aload_n 0, 1) := by decide +kernel
theorem dX9_recover_8 : decode cX9_recover 8 = .ok (.iconst 1, 1) := by decide +kernel
theorem dX9_recover_9 : decode cX9_recover 9 = .ok (.invokevirtual 86, 3) := by decide +kernel
theorem dX9_recover_12 : decode cX9_recover 12 = .ok (.ireturn, 1) := by decide +kernel
theorem dX9_recover_13 : decode cX9_recover 13 = .ok (.aload_n 0, 1) := by decide +kernel
theorem dX9_recover_14 : decode cX9_recover 14 = .ok (.getfield 42, 3) := by decide +kernel
theorem dX9_recover_17 : decode cX9_recover 17 = .ok (.getfield 162, 3) := by decide +kernel
theorem dX9_recover_20 : decode cX9_recover 20 = .ok (.ifCond .ne 9, 3) := by decide +kernel
theorem dX9_recover_23 : decode cX9_recover 23 = .ok (.aload_n 0, 1) := by decide +kernel
theorem dX9_recover_24 : decode cX9_recover 24 = .ok (.iconst 5, 1) := by decide +kernel
theorem dX9_recover_25 : decode cX9_recover 25 = .ok (.invokevirtual 86, 3) := by decide +kernel
theorem dX9_recover_28 : decode cX9_recover 28 = .ok (.ireturn, 1) := by decide +kernel
theorem dX9_recover_29 : decode cX9_recover 29 = .ok (.aload_n 0, 1) := by decide +kernel
theorem dX9_recover_30 : decode cX9_recover 30 = .ok (.getfield 66, 3) := by decide +kernel
theorem dX9_recover_33 : decode cX9_recover 33 = .ok (.aload_n 0, 1) := by decide +kernel
theorem dX9_recover_34 : decode cX9_recover 34 = .ok (.getfield 42, 3) := by decide +kernel
theorem dX9_recover_37 : decode cX9_recover 37 = .ok (.invokevirtual 335, 3) := by decide +kernel
theorem dX9_recover_40 : decode cX9_recover 40 = .ok (.aload_n 0, 1) := by decide +kernel
theorem dX9_recover_41 : decode cX9_recover 41 = .ok (.aload_n 0, 1) := by decide +kernel
theorem dX9_recover_42 : decode cX9_recover 42 = .ok (.getfield 42, 3) := by decide +kernel
theorem dX9_recover_45 : decode cX9_recover 45 = .ok (.aload_n 0, 1) := by decide +kernel
theorem dX9_recover_46 : decode cX9_recover 46 = .ok (.getfield 16, 3) := by decide +kernel
theorem dX9_recover_49 : decode cX9_recover 49 = .ok (.getfield 109, 3) := by decide +kernel
theorem dX9_recover_52 : decode cX9_recover 52 = .ok (.invokevirtual 261, 3) := by decide +kernel
theorem dX9_recover_55 : decode cX9_recover 55 = .ok (.invokevirtual 115, 3) := by decide +kernel
theorem dX9_recover_58 : decode cX9_recover 58 = .ok (.ireturn, 1) := by decide +kernel
theorem dX9_undo_0 : decode cX9_undo 0 = .ok (.aload_n 0, 1) := by decide +kernel
theorem dX9_undo_1 : decode cX9_undo 1 = .ok (.getfield 66, 3) := by decide +kernel
theorem dX9_undo_4 : decode cX9_undo 4 = .ok (.getfield 341, 3) := by decide +kernel
theorem dX9_undo_7 : decode cX9_undo 7 = .ok (.ifCond .ne 12, 3) := by decide +kernel
theorem dX9_undo_10 : decode cX9_undo 10 = .ok (.aload_n 0, 1) := by decide +kernel
theorem dX9_undo_11 : decode cX9_undo 11 = .ok (.bipush 6, 2) := by decide +kernel
theorem dX9_undo_13 : decode cX9_undo 13 = .ok (.invokevirtual 86, 3) := by decide +kernel
theorem dX9_undo_16 : decode cX9_undo 16 = .ok (.pop, 1) := by decide +kernel
theorem dX9_undo_17 : decode cX9_undo 17 = .ok (.iconst 0, 1) := by decide +kernel
theorem dX9_undo_18 : decode cX9_undo 18 = .ok (.ireturn, 1) := by decide +kernel
theorem dX9_undo_19 : decode cX9_undo 19 = .ok (.aload_n 0, 1) := by decide +kernel
theorem dX9_undo_20 : decode cX9_undo 20 = .ok (.getfield 66, 3) := by decide +kernel
theorem dX9_undo_23 : decode cX9_undo 23 = .ok (.aload_n 0, 1) := by decide +kernel
theorem dX9_undo_24 : decode cX9_undo 24 = .ok (.getfield 42, 3) := by decide +kernel
theorem dX9_undo_27 : decode cX9_undo 27 = .ok (.invokevirtual 342, 3) := by decide +kernel
theorem dX9_undo_30 : decode cX9_undo 30 = .ok (.aload_n 0, 1) := by decide +kernel
theorem dX9_undo_31 : decode cX9_undo 31 = .ok (.iconst 0, 1) := by decide +kernel
theorem dX9_undo_32 : decode cX9_undo 32 = .ok (.putfield 152, 3) := by decide +kernel
theorem dX9_undo_35 : decode cX9_undo 35 = .ok (.iconst 1, 1) := by decide +kernel
theorem dX9_undo_36 : decode cX9_undo 36 = .ok (.ireturn, 1) := by decide +kernel
theorem dX9_image_0 : decode cX9_image 0 = .ok (.aload_n 0, 1) := by decide +kernel
theorem dX9_image_1 : decode cX9_image 1 = .ok (.invokevirtual 199, 3) := by decide +kernel
theorem dX9_image_4 : decode cX9_image 4 = .ok (.ifCond .ne 9, 3) := by decide +kernel
theorem dX9_image_7 : decode cX9_image 7 = .ok (.aload_n 0, 1) := by decide +kernel
theorem dX9_image_8 : decode cX9_image 8 = .ok (.iconst 1, 1) := by decide +kernel
theorem dX9_image_9 : decode cX9_image 9 = .ok (.invokevirtual 86, 3) := by decide +kernel
theorem dX9_image_12 : decode cX9_image 12 = .ok (.ireturn, 1) := by decide +kernel
theorem dX9_image_13 : decode cX9_image 13 = .ok (.aload_n 0, 1) := by decide +kernel
theorem dX9_image_14 : decode cX9_image 14 = .ok (.getfield 129, 3) := by decide +kernel
theorem dX9_image_17 : decode cX9_image 17 = .ok (.iconst 3, 1) := by decide +kernel
theorem dX9_image_18 : decode cX9_image 18 = .ok (.if_icmp .lt 9, 3) := by decide +kernel
theorem dX9_image_21 : decode cX9_image 21 = .ok (.aload_n 0, 1) := by decide +kernel
theorem dX9_image_22 : decode cX9_image 22 = .ok (.iconst 3, 1) := by decide +kernel
theorem dX9_image_23 : decode cX9_image 23 = .ok (.invokevirtual 86, 3) := by decide +kernel
theorem dX9_image_26 : decode cX9_image 26 = .ok (.ireturn, 1) := by decide +kernel
theorem dX9_image_27 : decode cX9_image 27 = .ok (.aload_n 0, 1) := by decide +kernel
theorem dX9_image_28 : decode cX9_image 28 = .ok (.getfield 75, 3) := by decide +kernel
theorem dX9_image_31 : decode cX9_image 31 = .ok (.aload_n 0, 1) := by decide +kernel
theorem dX9_image_32 : decode cX9_image 32 = .ok (.getfield 129, 3) := by decide +kernel
theorem dX9_image_35 : decode cX9_image 35 = .ok (.aload_n 0, 1) := by decide +kernel
theorem dX9_image_36 : decode cX9_image 36 = .ok (.getfield 42, 3) := by decide +kernel
theorem dX9_image_39 : decode cX9_image 39 = .ok (.invokevirtual 345, 3) := by decide +kernel
theorem dX9_image_42 : decode cX9_image 42 = .ok (.aload_n 0, 1) := by decide +kernel
theorem dX9_image_43 : decode cX9_image 43 = .ok (.dup, 1) := by decide +kernel
theorem dX9_image_44 : decode cX9_image 44 = .ok (.getfield 129, 3) := by decide +kernel
theorem dX9_image_47 : decode cX9_image 47 = .ok (.iconst 1, 1) := by decide +kernel
theorem dX9_image_48 : decode cX9_image 48 = .ok (.iadd, 1) := by decide +kernel
theorem dX9_image_49 : decode cX9_image 49 = .ok (.putfield 129, 3) := by decide +kernel
theorem dX9_image_52 : decode cX9_image 52 = .ok (.aload_n 0, 1) := by decide +kernel
theorem dX9_image_53 : decode cX9_image 53 = .ok (.aload_n 0, 1) := by decide +kernel
theorem dX9_image_54 : decode cX9_image 54 = .ok (.getfield 129, 3) := by decide +kernel
theorem dX9_image_57 : decode cX9_image 57 = .ok (.iconst 1, 1) := by decide +kernel
theorem dX9_image_58 : decode cX9_image 58 = .ok (.isub, 1) := by decide +kernel
theorem dX9_image_59 : decode cX9_image 59 = .ok (.invokevirtual 115, 3) := by decide +kernel
theorem dX9_image_62 : decode cX9_image 62 = .ok (.ireturn, 1) := by decide +kernel
theorem dX9_back_0 : decode cX9_back 0 = .ok (.iload_n 1, 1) := by decide +kernel
theorem dX9_back_1 : decode cX9_back 1 = .ok (.ifCond .lt 11, 3) := by decide +kernel
theorem dX9_back_4 : decode cX9_back 4 = .ok (.iload_n 1, 1) := by decide +kernel
theorem dX9_back_5 : decode cX9_back 5 = .ok (.aload_n 0, 1) := by decide +kernel
theorem dX9_back_6 : decode cX9_back 6 = .ok (.getfield 129, 3) := by decide +kernel
theorem dX9_back_9 : decode cX9_back 9 = .ok (.if_icmp .lt 11, 3) := by decide +kernel
theorem dX9_back_12 : decode cX9_back 12 = .ok (.aload_n 0, 1) := by decide +kernel
theorem dX9_back_13 : decode cX9_back 13 = .ok (.iconst 1, 1) := by decide +kernel
theorem dX9_back_14 : decode cX9_back 14 = .ok (.invokevirtual 86, 3) := by decide +kernel
theorem dX9_back_17 : decode cX9_back 17 = .ok (.pop, 1) := by decide +kernel
theorem dX9_back_18 : decode cX9_back 18 = .ok (.iconst 0, 1) := by decide +kernel
theorem dX9_back_19 : decode cX9_back 19 = .ok (.ireturn, 1) := by decide +kernel
theorem dX9_back_20 : decode cX9_back 20 = .ok (.aload_n 0, 1) := by decide +kernel
theorem dX9_back_21 : decode cX9_back 21 = .ok (.getfield 75, 3) := by decide +kernel
theorem dX9_back_24 : decode cX9_back 24 = .ok (.iload_n 1, 1) := by decide +kernel
theorem dX9_back_25 : decode cX9_back 25 = .ok (.aload_n 0, 1) := by decide +kernel
theorem dX9_back_26 : decode cX9_back 26 = .ok (.getfield 42, 3) := by decide +kernel
theorem dX9_back_29 : decode cX9_back 29 = .ok (.invokevirtual 349, 3) := by decide +kernel
theorem dX9_back_32 : decode cX9_back 32 = .ok (.aload_n 0, 1) := by decide +kernel
theorem dX9_back_33 : decode cX9_back 33 = .ok (.getfield 66, 3) := by decide +kernel
theorem dX9_back_36 : decode cX9_back 36 = .ok (.invokevirtual 126, 3) := by decide +kernel
theorem dX9_back_39 : decode cX9_back 39 = .ok (.aload_n 0, 1) := by decide +kernel
theorem dX9_back_40 : decode cX9_back 40 = .ok (.iconst 0, 1) := by decide +kernel
theorem dX9_back_41 : decode cX9_back 41 = .ok (.putfield 152, 3) := by decide +kernel
theorem dX9_back_44 : decode cX9_back 44 = .ok (.iconst 1, 1) := by decide +kernel
theorem dX9_back_45 : decode cX9_back 45 = .ok (.ireturn, 1) := by decide +kernel
theorem dX9_led_0 : decode cX9_led 0 = .ok (.iconst 0, 1) := by decide +kernel
theorem dX9_led_1 : decode cX9_led 1 = .ok (.istore_n 2, 1) := by decide +kernel
theorem dX9_led_2 : decode cX9_led 2 = .ok (.iconst 0, 1) := by decide +kernel
theorem dX9_led_3 : decode cX9_led 3 = .ok (.istore_n 3, 1) := by decide +kernel
theorem dX9_led_4 : decode cX9_led 4 = .ok (.iload_n 3, 1) := by decide +kernel
theorem dX9_led_5 : decode cX9_led 5 = .ok (.aload_n 0, 1) := by decide +kernel
theorem dX9_led_6 : decode cX9_led 6 = .ok (.getfield 16, 3) := by decide +kernel
theorem dX9_led_9 : decode cX9_led 9 = .ok (.getfield 109, 3) := by decide +kernel
theorem dX9_led_12 : decode cX9_led 12 = .ok (.getfield 112, 3) := by decide +kernel
theorem dX9_led_15 : decode cX9_led 15 = .ok (.if_icmp .ge 30, 3) := by decide +kernel
theorem dX9_led_18 : decode cX9_led 18 = .ok (.aload_n 0, 1) := by decide +kernel
theorem dX9_led_19 : decode cX9_led 19 = .ok (.getfield 42, 3) := by decide +kernel
theorem dX9_led_22 : decode cX9_led 22 = .ok (.iload_n 3, 1) := by decide +kernel
theorem dX9_led_23 : decode cX9_led 23 = .ok (.invokevirtual 231, 3) := by decide +kernel
theorem dX9_led_26 : decode cX9_led 26 = .ok (.ifCond .ge 13, 3) := by decide +kernel
theorem dX9_led_29 : decode cX9_led 29 = .ok (.iload_n 2, 1) := by decide +kernel
theorem dX9_led_30 : decode cX9_led 30 = .ok (.iload_n 1, 1) := by decide +kernel
theorem dX9_led_31 : decode cX9_led 31 = .ok (.if_icmp .ne 5, 3) := by decide +kernel
theorem dX9_led_34 : decode cX9_led 34 = .ok (.iload_n 3, 1) := by decide +kernel
theorem dX9_led_35 : decode cX9_led 35 = .ok (.ireturn, 1) := by decide +kernel
theorem dX9_led_36 : decode cX9_led 36 = .ok (.iinc 2 1, 3) := by decide +kernel
theorem dX9_led_39 : decode cX9_led 39 = .ok (.iinc 3 1, 3) := by decide +kernel
theorem dX9_led_42 : decode cX9_led 42 = .ok (.goto (-38), 3) := by decide +kernel
theorem dX9_led_45 : decode cX9_led 45 = .ok (.new 352, 3) := by decide +kernel
theorem dX9_led_48 : decode cX9_led 48 = .ok (.dup, 1) := by decide +kernel
theorem dX9_led_49 : decode cX9_led 49 = .ok (.invokespecial 354, 3) := by decide +kernel
theorem dX9_led_52 : decode cX9_led 52 = .ok (.athrow, 1) := by decide +kernel
theorem dX9_size_0 : decode cX9_size 0 = .ok (.iload_n 1, 1) := by decide +kernel
theorem dX9_size_1 : decode cX9_size 1 = .ok (.tableswitch 185 0 11 #[63, 74, 85, 104, 115, 126, 137, 148, 159, 167, 175, 180], 63) := by decide +kernel
theorem dX9_size_64 : decode cX9_size 64 = .ok (.aload_n 0, 1) := by decide +kernel
theorem dX9_size_65 : decode cX9_size 65 = .ok (.getfield 16, 3) := by decide +kernel
theorem dX9_size_68 : decode cX9_size 68 = .ok (.getfield 109, 3) := by decide +kernel
theorem dX9_size_71 : decode cX9_size 71 = .ok (.getfield 203, 3) := by decide +kernel
theorem dX9_size_74 : decode cX9_size 74 = .ok (.ireturn, 1) := by decide +kernel
theorem dX9_size_75 : decode cX9_size 75 = .ok (.aload_n 0, 1) := by decide +kernel
theorem dX9_size_76 : decode cX9_size 76 = .ok (.getfield 16, 3) := by decide +kernel
theorem dX9_size_79 : decode cX9_size 79 = .ok (.getfield 109, 3) := by decide +kernel
theorem dX9_size_82 : decode cX9_size 82 = .ok (.getfield 355, 3) := by decide +kernel
theorem dX9_size_85 : decode cX9_size 85 = .ok (.ireturn, 1) := by decide +kernel
theorem dX9_size_86 : decode cX9_size 86 = .ok (.aload_n 0, 1) := by decide +kernel
theorem dX9_size_87 : decode cX9_size 87 = .ok (.getfield 16, 3) := by decide +kernel
theorem dX9_size_90 : decode cX9_size 90 = .ok (.getfield 109, 3) := by decide +kernel
theorem dX9_size_93 : decode cX9_size 93 = .ok (.getfield 358, 3) := by decide +kernel
theorem dX9_size_96 : decode cX9_size 96 = .ok (.ifCond .eq 7, 3) := by decide +kernel
theorem dX9_size_99 : decode cX9_size 99 = .ok (.iconst 1, 1) := by decide +kernel
theorem dX9_size_100 : decode cX9_size 100 = .ok (.goto 4, 3) := by decide +kernel
theorem dX9_size_103 : decode cX9_size 103 = .ok (.iconst 0, 1) := by decide +kernel
theorem dX9_size_104 : decode cX9_size 104 = .ok (.ireturn, 1) := by decide +kernel
theorem dX9_size_105 : decode cX9_size 105 = .ok (.aload_n 0, 1) := by decide +kernel
theorem dX9_size_106 : decode cX9_size 106 = .ok (.getfield 16, 3) := by decide +kernel
theorem dX9_size_109 : decode cX9_size 109 = .ok (.getfield 109, 3) := by decide +kernel
theorem dX9_size_112 : decode cX9_size 112 = .ok (.getfield 155, 3) := by decide +kernel
theorem dX9_size_115 : decode cX9_size 115 = .ok (.ireturn, 1) := by decide +kernel
theorem dX9_size_116 : decode cX9_size 116 = .ok (.aload_n 0, 1) := by decide +kernel
theorem dX9_size_117 : decode cX9_size 117 = .ok (.getfield 16, 3) := by decide +kernel
theorem dX9_size_120 : decode cX9_size 120 = .ok (.getfield 109, 3) := by decide +kernel
theorem dX9_size_123 : decode cX9_size 123 = .ok (.getfield 112, 3) := by decide +kernel
theorem dX9_size_126 : decode cX9_size 126 = .ok (.ireturn, 1) := by decide +kernel
theorem dX9_size_127 : decode cX9_size 127 = .ok (.aload_n 0, 1) := by decide +kernel
theorem dX9_size_128 : decode cX9_size 128 = .ok (.getfield 16, 3) := by decide +kernel
theorem dX9_size_131 : decode cX9_size 131 = .ok (.getfield 274, 3) := by decide +kernel
theorem dX9_size_134 : decode cX9_size 134 = .ok (.getfield 138, 3) := by decide +kernel
theorem dX9_size_137 : decode cX9_size 137 = .ok (.ireturn, 1) := by decide +kernel
theorem dX9_size_138 : decode cX9_size 138 = .ok (.aload_n 0, 1) := by decide +kernel
theorem dX9_size_139 : decode cX9_size 139 = .ok (.getfield 16, 3) := by decide +kernel
theorem dX9_size_142 : decode cX9_size 142 = .ok (.getfield 135, 3) := by decide +kernel
theorem dX9_size_145 : decode cX9_size 145 = .ok (.getfield 138, 3) := by decide +kernel
theorem dX9_size_148 : decode cX9_size 148 = .ok (.ireturn, 1) := by decide +kernel
theorem dX9_size_149 : decode cX9_size 149 = .ok (.aload_n 0, 1) := by decide +kernel
theorem dX9_size_150 : decode cX9_size 150 = .ok (.getfield 16, 3) := by decide +kernel
theorem dX9_size_153 : decode cX9_size 153 = .ok (.getfield 314, 3) := by decide +kernel
theorem dX9_size_156 : decode cX9_size 156 = .ok (.getfield 138, 3) := by decide +kernel
theorem dX9_size_159 : decode cX9_size 159 = .ok (.ireturn, 1) := by decide +kernel
theorem dX9_size_160 : decode cX9_size 160 = .ok (.aload_n 0, 1) := by decide +kernel
theorem dX9_size_161 : decode cX9_size 161 = .ok (.getfield 42, 3) := by decide +kernel
theorem dX9_size_164 : decode cX9_size 164 = .ok (.getfield 264, 3) := by decide +kernel
theorem dX9_size_167 : decode cX9_size 167 = .ok (.ireturn, 1) := by decide +kernel
theorem dX9_size_168 : decode cX9_size 168 = .ok (.aload_n 0, 1) := by decide +kernel
theorem dX9_size_169 : decode cX9_size 169 = .ok (.getfield 66, 3) := by decide +kernel
theorem dX9_size_172 : decode cX9_size 172 = .ok (.getfield 341, 3) := by decide +kernel
theorem dX9_size_175 : decode cX9_size 175 = .ok (.ireturn, 1) := by decide +kernel
theorem dX9_size_176 : decode cX9_size 176 = .ok (.aload_n 0, 1) := by decide +kernel
theorem dX9_size_177 : decode cX9_size 177 = .ok (.getfield 129, 3) := by decide +kernel
theorem dX9_size_180 : decode cX9_size 180 = .ok (.ireturn, 1) := by decide +kernel
theorem dX9_size_181 : decode cX9_size 181 = .ok (.aload_n 0, 1) := by decide +kernel
theorem dX9_size_182 : decode cX9_size 182 = .ok (.getfield 79, 3) := by decide +kernel
theorem dX9_size_185 : decode cX9_size 185 = .ok (.ireturn, 1) := by decide +kernel
theorem dX9_size_186 : decode cX9_size 186 = .ok (.iconst (-1), 1) := by decide +kernel
theorem dX9_size_187 : decode cX9_size 187 = .ok (.ireturn, 1) := by decide +kernel
theorem dX9_trouble_0 : decode cX9_trouble 0 = .ok (.aload_n 0, 1) := by decide +kernel
theorem dX9_trouble_1 : decode cX9_trouble 1 = .ok (.getfield 152, 3) := by decide +kernel
theorem dX9_trouble_4 : decode cX9_trouble 4 = .ok (.ireturn, 1) := by decide +kernel
theorem dX9_at_0 : decode cX9_at 0 = .ok (.iload_n 1, 1) := by decide +kernel
theorem dX9_at_1 : decode cX9_at 1 = .ok (.ifCond .lt 15, 3) := by decide +kernel
theorem dX9_at_4 : decode cX9_at 4 = .ok (.iload_n 1, 1) := by decide +kernel
theorem dX9_at_5 : decode cX9_at 5 = .ok (.aload_n 0, 1) := by decide +kernel
theorem dX9_at_6 : decode cX9_at 6 = .ok (.arraylength, 1) := by decide +kernel
theorem dX9_at_7 : decode cX9_at 7 = .ok (.if_icmp .ge 9, 3) := by decide +kernel
theorem dX9_at_10 : decode cX9_at 10 = .ok (.aload_n 0, 1) := by decide +kernel
theorem dX9_at_11 : decode cX9_at 11 = .ok (.iload_n 1, 1) := by decide +kernel
theorem dX9_at_12 : decode cX9_at 12 = .ok (.iaload, 1) := by decide +kernel
theorem dX9_at_13 : decode cX9_at 13 = .ok (.goto 4, 3) := by decide +kernel
theorem dX9_at_16 : decode cX9_at 16 = .ok (.iconst 0, 1) := by decide +kernel
theorem dX9_at_17 : decode cX9_at 17 = .ok (.ireturn, 1) := by decide +kernel
theorem dJ9_max_7cf53_0 : decode cJ9_max_7cf53 0 = .ok (.iload_n 0, 1) := by decide +kernel
theorem dJ9_max_7cf53_1 : decode cJ9_max_7cf53 1 = .ok (.iload_n 1, 1) := by decide +kernel
theorem dJ9_max_7cf53_2 : decode cJ9_max_7cf53 2 = .ok (.if_icmp .lt 7, 3) := by decide +kernel
theorem dJ9_max_7cf53_5 : decode cJ9_max_7cf53 5 = .ok (.iload_n 0, 1) := by decide +kernel
theorem dJ9_max_7cf53_6 : decode cJ9_max_7cf53 6 = .ok (.goto 4, 3) := by decide +kernel
theorem dJ9_max_7cf53_9 : decode cJ9_max_7cf53 9 = .ok (.iload_n 1, 1) := by decide +kernel
theorem dJ9_max_7cf53_10 : decode cJ9_max_7cf53 10 = .ok (.ireturn, 1) := by decide +kernel
theorem dJ9_min_7cf53_0 : decode cJ9_min_7cf53 0 = .ok (.iload_n 0, 1) := by decide +kernel
theorem dJ9_min_7cf53_1 : decode cJ9_min_7cf53 1 = .ok (.iload_n 1, 1) := by decide +kernel
theorem dJ9_min_7cf53_2 : decode cJ9_min_7cf53 2 = .ok (.if_icmp .gt 7, 3) := by decide +kernel
theorem dJ9_min_7cf53_5 : decode cJ9_min_7cf53 5 = .ok (.iload_n 0, 1) := by decide +kernel
theorem dJ9_min_7cf53_6 : decode cJ9_min_7cf53 6 = .ok (.goto 4, 3) := by decide +kernel
theorem dJ9_min_7cf53_9 : decode cJ9_min_7cf53 9 = .ok (.iload_n 1, 1) := by decide +kernel
theorem dJ9_min_7cf53_10 : decode cJ9_min_7cf53 10 = .ok (.ireturn, 1) := by decide +kernel
theorem dJ0_length_8abf5_0 : decode cJ0_length_8abf5 0 = .ok (.aload_n 0, 1) := by decide +kernel
theorem dJ0_length_8abf5_1 : decode cJ0_length_8abf5 1 = .ok (.getfield 9, 3) := by decide +kernel
theorem dJ0_length_8abf5_4 : decode cJ0_length_8abf5 4 = .ok (.arraylength, 1) := by decide +kernel
theorem dJ0_length_8abf5_5 : decode cJ0_length_8abf5 5 = .ok (.aload_n 0, 1) := by decide +kernel
theorem dJ0_length_8abf5_6 : decode cJ0_length_8abf5 6 = .ok (.invokevirtual 335, 3) := by decide +kernel
theorem dJ0_length_8abf5_9 : decode cJ0_length_8abf5 9 = .ok (.ishr, 1) := by decide +kernel
theorem dJ0_length_8abf5_10 : decode cJ0_length_8abf5 10 = .ok (.ireturn, 1) := by decide +kernel
theorem dJ0_charAt_5068e_0 : decode cJ0_charAt_5068e 0 = .ok (.aload_n 0, 1) := by decide +kernel
theorem dJ0_charAt_5068e_1 : decode cJ0_charAt_5068e 1 = .ok (.invokevirtual 492, 3) := by decide +kernel
theorem dJ0_charAt_5068e_4 : decode cJ0_charAt_5068e 4 = .ok (.ifCond .eq 12, 3) := by decide +kernel
theorem dJ0_charAt_5068e_7 : decode cJ0_charAt_5068e 7 = .ok (.aload_n 0, 1) := by decide +kernel
theorem dJ0_charAt_5068e_8 : decode cJ0_charAt_5068e 8 = .ok (.getfield 9, 3) := by decide +kernel
theorem dJ0_charAt_5068e_11 : decode cJ0_charAt_5068e 11 = .ok (.iload_n 1, 1) := by decide +kernel
theorem dJ0_charAt_5068e_12 : decode cJ0_charAt_5068e 12 = .ok (.invokestatic 495, 3) := by decide +kernel
theorem dJ0_charAt_5068e_15 : decode cJ0_charAt_5068e 15 = .ok (.ireturn, 1) := by decide +kernel
theorem dJ0_charAt_5068e_16 : decode cJ0_charAt_5068e 16 = .ok (.aload_n 0, 1) := by decide +kernel
theorem dJ0_charAt_5068e_17 : decode cJ0_charAt_5068e 17 = .ok (.getfield 9, 3) := by decide +kernel
theorem dJ0_charAt_5068e_20 : decode cJ0_charAt_5068e 20 = .ok (.iload_n 1, 1) := by decide +kernel
theorem dJ0_charAt_5068e_21 : decode cJ0_charAt_5068e 21 = .ok (.invokestatic 498, 3) := by decide +kernel
theorem dJ0_charAt_5068e_24 : decode cJ0_charAt_5068e 24 = .ok (.ireturn, 1) := by decide +kernel
theorem dJ0_coder_7d493_0 : decode cJ0_coder_7d493 0 = .ok (.getstatic 38, 3) := by decide +kernel
theorem dJ0_coder_7d493_3 : decode cJ0_coder_7d493 3 = .ok (.ifCond .eq 10, 3) := by decide +kernel
theorem dJ0_coder_7d493_6 : decode cJ0_coder_7d493 6 = .ok (.aload_n 0, 1) := by decide +kernel
theorem dJ0_coder_7d493_7 : decode cJ0_coder_7d493 7 = .ok (.getfield 15, 3) := by decide +kernel
theorem dJ0_coder_7d493_10 : decode cJ0_coder_7d493 10 = .ok (.goto 4, 3) := by decide +kernel
theorem dJ0_coder_7d493_13 : decode cJ0_coder_7d493 13 = .ok (.iconst 1, 1) := by decide +kernel
theorem dJ0_coder_7d493_14 : decode cJ0_coder_7d493 14 = .ok (.ireturn, 1) := by decide +kernel
theorem dJ0_isLatin1_aae02_0 : decode cJ0_isLatin1_aae02 0 = .ok (.getstatic 38, 3) := by decide +kernel
theorem dJ0_isLatin1_aae02_3 : decode cJ0_isLatin1_aae02 3 = .ok (.ifCond .eq 14, 3) := by decide +kernel
theorem dJ0_isLatin1_aae02_6 : decode cJ0_isLatin1_aae02 6 = .ok (.aload_n 0, 1) := by decide +kernel
theorem dJ0_isLatin1_aae02_7 : decode cJ0_isLatin1_aae02 7 = .ok (.getfield 15, 3) := by decide +kernel
theorem dJ0_isLatin1_aae02_10 : decode cJ0_isLatin1_aae02 10 = .ok (.ifCond .ne 7, 3) := by decide +kernel
theorem dJ0_isLatin1_aae02_13 : decode cJ0_isLatin1_aae02 13 = .ok (.iconst 1, 1) := by decide +kernel
theorem dJ0_isLatin1_aae02_14 : decode cJ0_isLatin1_aae02 14 = .ok (.goto 4, 3) := by decide +kernel
theorem dJ0_isLatin1_aae02_17 : decode cJ0_isLatin1_aae02 17 = .ok (.iconst 0, 1) := by decide +kernel
theorem dJ0_isLatin1_aae02_18 : decode cJ0_isLatin1_aae02 18 = .ok (.ireturn, 1) := by decide +kernel
theorem dJ0_checkIndex_df160_0 : decode cJ0_checkIndex_df160 0 = .ok (.iload_n 0, 1) := by decide +kernel
theorem dJ0_checkIndex_df160_1 : decode cJ0_checkIndex_df160 1 = .ok (.iload_n 1, 1) := by decide +kernel
theorem dJ0_checkIndex_df160_2 : decode cJ0_checkIndex_df160 2 = .ok (.getstatic 1053, 3) := by decide +kernel
theorem dJ0_checkIndex_df160_5 : decode cJ0_checkIndex_df160 5 = .ok (.invokestatic 1059, 3) := by decide +kernel
theorem dJ0_checkIndex_df160_8 : decode cJ0_checkIndex_df160 8 = .ok (.pop, 1) := by decide +kernel
theorem dJ0_checkIndex_df160_9 : decode cJ0_checkIndex_df160 9 = .ok (.return_, 1) := by decide +kernel
theorem dJ1_charAt_3b067_0 : decode cJ1_charAt_3b067 0 = .ok (.iload_n 1, 1) := by decide +kernel
theorem dJ1_charAt_3b067_1 : decode cJ1_charAt_3b067 1 = .ok (.aload_n 0, 1) := by decide +kernel
theorem dJ1_charAt_3b067_2 : decode cJ1_charAt_3b067 2 = .ok (.arraylength, 1) := by decide +kernel
theorem dJ1_charAt_3b067_3 : decode cJ1_charAt_3b067 3 = .ok (.invokestatic 9, 3) := by decide +kernel
theorem dJ1_charAt_3b067_6 : decode cJ1_charAt_3b067 6 = .ok (.aload_n 0, 1) := by decide +kernel
theorem dJ1_charAt_3b067_7 : decode cJ1_charAt_3b067 7 = .ok (.iload_n 1, 1) := by decide +kernel
theorem dJ1_charAt_3b067_8 : decode cJ1_charAt_3b067 8 = .ok (.baload, 1) := by decide +kernel
theorem dJ1_charAt_3b067_9 : decode cJ1_charAt_3b067 9 = .ok (.sipush 255, 3) := by decide +kernel
theorem dJ1_charAt_3b067_12 : decode cJ1_charAt_3b067 12 = .ok (.iand, 1) := by decide +kernel
theorem dJ1_charAt_3b067_13 : decode cJ1_charAt_3b067 13 = .ok (.i2c, 1) := by decide +kernel
theorem dJ1_charAt_3b067_14 : decode cJ1_charAt_3b067 14 = .ok (.ireturn, 1) := by decide +kernel
theorem dJ2_getChar_3b067_0 : decode cJ2_getChar_3b067 0 = .ok (.getstatic 44, 3) := by decide +kernel
theorem dJ2_getChar_3b067_3 : decode cJ2_getChar_3b067 3 = .ok (.ifCond .ne 25, 3) := by decide +kernel
theorem dJ2_getChar_3b067_6 : decode cJ2_getChar_3b067 6 = .ok (.iload_n 1, 1) := by decide +kernel
theorem dJ2_getChar_3b067_7 : decode cJ2_getChar_3b067 7 = .ok (.ifCond .lt 11, 3) := by decide +kernel
theorem dJ2_getChar_3b067_10 : decode cJ2_getChar_3b067 10 = .ok (.iload_n 1, 1) := by decide +kernel
theorem dJ2_getChar_3b067_11 : decode cJ2_getChar_3b067 11 = .ok (.aload_n 0, 1) := by decide +kernel
theorem dJ2_getChar_3b067_12 : decode cJ2_getChar_3b067 12 = .ok (.invokestatic 48, 3) := by decide +kernel
theorem dJ2_getChar_3b067_15 : decode cJ2_getChar_3b067 15 = .ok (.if_icmp .lt 13, 3) := by decide +kernel
theorem dJ2_getChar_3b067_18 : decode cJ2_getChar_3b067 18 = .ok (.new 52, 3) := by decide +kernel
theorem dJ2_getChar_3b067_21 : decode cJ2_getChar_3b067 21 = .ok (.dup, 1) := by decide +kernel
theorem dJ2_getChar_3b067_22 : decode cJ2_getChar_3b067 22 = .ok (.ldc 54, 2) := by decide +kernel
theorem dJ2_getChar_3b067_24 : decode cJ2_getChar_3b067 24 = .ok (.invokespecial 56, 3) := by decide +kernel
theorem dJ2_getChar_3b067_27 : decode cJ2_getChar_3b067 27 = .ok (.athrow, 1) := by decide +kernel
theorem dJ2_getChar_3b067_28 : decode cJ2_getChar_3b067 28 = .ok (.iload_n 1, 1) := by decide +kernel
theorem dJ2_getChar_3b067_29 : decode cJ2_getChar_3b067 29 = .ok (.iconst 1, 1) := by decide +kernel
theorem dJ2_getChar_3b067_30 : decode cJ2_getChar_3b067 30 = .ok (.ishl, 1) := by decide +kernel
theorem dJ2_getChar_3b067_31 : decode cJ2_getChar_3b067 31 = .ok (.istore_n 1, 1) := by decide +kernel
theorem dJ2_getChar_3b067_32 : decode cJ2_getChar_3b067 32 = .ok (.aload_n 0, 1) := by decide +kernel
theorem dJ2_getChar_3b067_33 : decode cJ2_getChar_3b067 33 = .ok (.iload_n 1, 1) := by decide +kernel
theorem dJ2_getChar_3b067_34 : decode cJ2_getChar_3b067 34 = .ok (.iinc 1 1, 3) := by decide +kernel
theorem dJ2_getChar_3b067_37 : decode cJ2_getChar_3b067 37 = .ok (.baload, 1) := by decide +kernel
theorem dJ2_getChar_3b067_38 : decode cJ2_getChar_3b067 38 = .ok (.sipush 255, 3) := by decide +kernel
theorem dJ2_getChar_3b067_41 : decode cJ2_getChar_3b067 41 = .ok (.iand, 1) := by decide +kernel
theorem dJ2_getChar_3b067_42 : decode cJ2_getChar_3b067 42 = .ok (.getstatic 59, 3) := by decide +kernel
theorem dJ2_getChar_3b067_45 : decode cJ2_getChar_3b067 45 = .ok (.ishl, 1) := by decide +kernel
theorem dJ2_getChar_3b067_46 : decode cJ2_getChar_3b067 46 = .ok (.aload_n 0, 1) := by decide +kernel
theorem dJ2_getChar_3b067_47 : decode cJ2_getChar_3b067 47 = .ok (.iload_n 1, 1) := by decide +kernel
theorem dJ2_getChar_3b067_48 : decode cJ2_getChar_3b067 48 = .ok (.baload, 1) := by decide +kernel
theorem dJ2_getChar_3b067_49 : decode cJ2_getChar_3b067 49 = .ok (.sipush 255, 3) := by decide +kernel
theorem dJ2_getChar_3b067_52 : decode cJ2_getChar_3b067 52 = .ok (.iand, 1) := by decide +kernel
theorem dJ2_getChar_3b067_53 : decode cJ2_getChar_3b067 53 = .ok (.getstatic 63, 3) := by decide +kernel
theorem dJ2_getChar_3b067_56 : decode cJ2_getChar_3b067 56 = .ok (.ishl, 1) := by decide +kernel
theorem dJ2_getChar_3b067_57 : decode cJ2_getChar_3b067 57 = .ok (.ior, 1) := by decide +kernel
theorem dJ2_getChar_3b067_58 : decode cJ2_getChar_3b067 58 = .ok (.i2c, 1) := by decide +kernel
theorem dJ2_getChar_3b067_59 : decode cJ2_getChar_3b067 59 = .ok (.ireturn, 1) := by decide +kernel
theorem dJ2_length_9d52b_0 : decode cJ2_length_9d52b 0 = .ok (.aload_n 0, 1) := by decide +kernel
theorem dJ2_length_9d52b_1 : decode cJ2_length_9d52b 1 = .ok (.arraylength, 1) := by decide +kernel
theorem dJ2_length_9d52b_2 : decode cJ2_length_9d52b 2 = .ok (.iconst 1, 1) := by decide +kernel
theorem dJ2_length_9d52b_3 : decode cJ2_length_9d52b 3 = .ok (.ishr, 1) := by decide +kernel
theorem dJ2_length_9d52b_4 : decode cJ2_length_9d52b 4 = .ok (.ireturn, 1) := by decide +kernel
theorem dJ2_charAt_3b067_0 : decode cJ2_charAt_3b067 0 = .ok (.iload_n 1, 1) := by decide +kernel
theorem dJ2_charAt_3b067_1 : decode cJ2_charAt_3b067 1 = .ok (.aload_n 0, 1) := by decide +kernel
theorem dJ2_charAt_3b067_2 : decode cJ2_charAt_3b067 2 = .ok (.invokestatic 67, 3) := by decide +kernel
theorem dJ2_charAt_3b067_5 : decode cJ2_charAt_3b067 5 = .ok (.aload_n 0, 1) := by decide +kernel
theorem dJ2_charAt_3b067_6 : decode cJ2_charAt_3b067 6 = .ok (.iload_n 1, 1) := by decide +kernel
theorem dJ2_charAt_3b067_7 : decode cJ2_charAt_3b067 7 = .ok (.invokestatic 71, 3) := by decide +kernel
theorem dJ2_charAt_3b067_10 : decode cJ2_charAt_3b067 10 = .ok (.ireturn, 1) := by decide +kernel
theorem dJ2_checkIndex_2214a_0 : decode cJ2_checkIndex_2214a 0 = .ok (.iload_n 0, 1) := by decide +kernel
theorem dJ2_checkIndex_2214a_1 : decode cJ2_checkIndex_2214a 1 = .ok (.aload_n 1, 1) := by decide +kernel
theorem dJ2_checkIndex_2214a_2 : decode cJ2_checkIndex_2214a 2 = .ok (.invokestatic 48, 3) := by decide +kernel
theorem dJ2_checkIndex_2214a_5 : decode cJ2_checkIndex_2214a 5 = .ok (.invokestatic 414, 3) := by decide +kernel
theorem dJ2_checkIndex_2214a_8 : decode cJ2_checkIndex_2214a 8 = .ok (.return_, 1) := by decide +kernel
theorem dJ3_checkIndex_8e157_0 : decode cJ3_checkIndex_8e157 0 = .ok (.iload_n 0, 1) := by decide +kernel
theorem dJ3_checkIndex_8e157_1 : decode cJ3_checkIndex_8e157 1 = .ok (.ifCond .lt 8, 3) := by decide +kernel
theorem dJ3_checkIndex_8e157_4 : decode cJ3_checkIndex_8e157 4 = .ok (.iload_n 0, 1) := by decide +kernel
theorem dJ3_checkIndex_8e157_5 : decode cJ3_checkIndex_8e157 5 = .ok (.iload_n 1, 1) := by decide +kernel
theorem dJ3_checkIndex_8e157_6 : decode cJ3_checkIndex_8e157 6 = .ok (.if_icmp .lt 10, 3) := by decide +kernel
theorem dJ3_checkIndex_8e157_9 : decode cJ3_checkIndex_8e157 9 = .ok (.aload_n 2, 1) := by decide +kernel
theorem dJ3_checkIndex_8e157_10 : decode cJ3_checkIndex_8e157 10 = .ok (.iload_n 0, 1) := by decide +kernel
theorem dJ3_checkIndex_8e157_11 : decode cJ3_checkIndex_8e157 11 = .ok (.iload_n 1, 1) := by decide +kernel
theorem dJ3_checkIndex_8e157_12 : decode cJ3_checkIndex_8e157 12 = .ok (.invokestatic 95, 3) := by decide +kernel
theorem dJ3_checkIndex_8e157_15 : decode cJ3_checkIndex_8e157 15 = .ok (.athrow, 1) := by decide +kernel
theorem dJ3_checkIndex_8e157_16 : decode cJ3_checkIndex_8e157 16 = .ok (.iload_n 0, 1) := by decide +kernel
theorem dJ3_checkIndex_8e157_17 : decode cJ3_checkIndex_8e157 17 = .ok (.ireturn, 1) := by decide +kernel
