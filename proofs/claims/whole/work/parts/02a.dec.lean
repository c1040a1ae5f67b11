theorem dX0_init_0 : decode cX0_init 0 = .ok (.aload_n 0, 1) := by decide +kernel
theorem dX0_init_1 : decode cX0_init 1 = .ok (.invokespecial 3, 3) := by decide +kernel
theorem dX0_init_4 : decode cX0_init 4 = .ok (.aload_n 0, 1) := by decide +kernel
theorem dX0_init_5 : decode cX0_init 5 = .ok (.bipush 6, 2) := by decide +kernel
theorem dX0_init_7 : decode cX0_init 7 = .ok (.newarray .int, 2) := by decide +kernel
theorem dX0_init_9 : decode cX0_init 9 = .ok (.putfield 11, 3) := by decide +kernel
theorem dX0_init_12 : decode cX0_init 12 = .ok (.return_, 1) := by decide +kernel
theorem dX0_linesThatFit_0 : decode cX0_linesThatFit 0 = .ok (.iconst 0, 1) := by decide +kernel
theorem dX0_linesThatFit_1 : decode cX0_linesThatFit 1 = .ok (.istore_n 2, 1) := by decide +kernel
theorem dX0_linesThatFit_2 : decode cX0_linesThatFit 2 = .ok (.iconst 1, 1) := by decide +kernel
theorem dX0_linesThatFit_3 : decode cX0_linesThatFit 3 = .ok (.istore_n 3, 1) := by decide +kernel
theorem dX0_linesThatFit_4 : decode cX0_linesThatFit 4 = .ok (.iload_n 3, 1) := by decide +kernel
theorem dX0_linesThatFit_5 : decode cX0_linesThatFit 5 = .ok (.bipush 60, 2) := by decide +kernel
theorem dX0_linesThatFit_7 : decode cX0_linesThatFit 7 = .ok (.if_icmp .gt 21, 3) := by decide +kernel
theorem dX0_linesThatFit_10 : decode cX0_linesThatFit 10 = .ok (.aload_n 0, 1) := by decide +kernel
theorem dX0_linesThatFit_11 : decode cX0_linesThatFit 11 = .ok (.aload_n 1, 1) := by decide +kernel
theorem dX0_linesThatFit_12 : decode cX0_linesThatFit 12 = .ok (.iload_n 3, 1) := by decide +kernel
theorem dX0_linesThatFit_13 : decode cX0_linesThatFit 13 = .ok (.invokevirtual 17, 3) := by decide +kernel
theorem dX0_linesThatFit_16 : decode cX0_linesThatFit 16 = .ok (.ifCond .eq 6, 3) := by decide +kernel
theorem dX0_linesThatFit_19 : decode cX0_linesThatFit 19 = .ok (.iinc 2 1, 3) := by decide +kernel
theorem dX0_linesThatFit_22 : decode cX0_linesThatFit 22 = .ok (.iinc 3 1, 3) := by decide +kernel
theorem dX0_linesThatFit_25 : decode cX0_linesThatFit 25 = .ok (.goto (-21), 3) := by decide +kernel
theorem dX0_linesThatFit_28 : decode cX0_linesThatFit 28 = .ok (.iload_n 2, 1) := by decide +kernel
theorem dX0_linesThatFit_29 : decode cX0_linesThatFit 29 = .ok (.ireturn, 1) := by decide +kernel
theorem dX0_leastLine_0 : decode cX0_leastLine 0 = .ok (.iconst 1, 1) := by decide +kernel
theorem dX0_leastLine_1 : decode cX0_leastLine 1 = .ok (.istore_n 2, 1) := by decide +kernel
theorem dX0_leastLine_2 : decode cX0_leastLine 2 = .ok (.iload_n 2, 1) := by decide +kernel
theorem dX0_leastLine_3 : decode cX0_leastLine 3 = .ok (.bipush 60, 2) := by decide +kernel
theorem dX0_leastLine_5 : decode cX0_leastLine 5 = .ok (.if_icmp .gt 20, 3) := by decide +kernel
theorem dX0_leastLine_8 : decode cX0_leastLine 8 = .ok (.aload_n 0, 1) := by decide +kernel
theorem dX0_leastLine_9 : decode cX0_leastLine 9 = .ok (.aload_n 1, 1) := by decide +kernel
theorem dX0_leastLine_10 : decode cX0_leastLine 10 = .ok (.iload_n 2, 1) := by decide +kernel
theorem dX0_leastLine_11 : decode cX0_leastLine 11 = .ok (.invokevirtual 17, 3) := by decide +kernel
theorem dX0_leastLine_14 : decode cX0_leastLine 14 = .ok (.ifCond .eq 5, 3) := by decide +kernel
theorem dX0_leastLine_17 : decode cX0_leastLine 17 = .ok (.iload_n 2, 1) := by decide +kernel
theorem dX0_leastLine_18 : decode cX0_leastLine 18 = .ok (.ireturn, 1) := by decide +kernel
theorem dX0_leastLine_19 : decode cX0_leastLine 19 = .ok (.iinc 2 1, 3) := by decide +kernel
theorem dX0_leastLine_22 : decode cX0_leastLine 22 = .ok (.goto (-20), 3) := by decide +kernel
theorem dX0_leastLine_25 : decode cX0_leastLine 25 = .ok (.iconst (-1), 1) := by decide +kernel
theorem dX0_leastLine_26 : decode cX0_leastLine 26 = .ok (.ireturn, 1) := by decide +kernel
theorem dX0_greatestLine_0 : decode cX0_greatestLine 0 = .ok (.bipush 60, 2) := by decide +kernel
theorem dX0_greatestLine_2 : decode cX0_greatestLine 2 = .ok (.istore_n 2, 1) := by decide +kernel
theorem dX0_greatestLine_3 : decode cX0_greatestLine 3 = .ok (.iload_n 2, 1) := by decide +kernel
theorem dX0_greatestLine_4 : decode cX0_greatestLine 4 = .ok (.iconst 1, 1) := by decide +kernel
theorem dX0_greatestLine_5 : decode cX0_greatestLine 5 = .ok (.if_icmp .lt 20, 3) := by decide +kernel
theorem dX0_greatestLine_8 : decode cX0_greatestLine 8 = .ok (.aload_n 0, 1) := by decide +kernel
theorem dX0_greatestLine_9 : decode cX0_greatestLine 9 = .ok (.aload_n 1, 1) := by decide +kernel
theorem dX0_greatestLine_10 : decode cX0_greatestLine 10 = .ok (.iload_n 2, 1) := by decide +kernel
theorem dX0_greatestLine_11 : decode cX0_greatestLine 11 = .ok (.invokevirtual 17, 3) := by decide +kernel
theorem dX0_greatestLine_14 : decode cX0_greatestLine 14 = .ok (.ifCond .eq 5, 3) := by decide +kernel
theorem dX0_greatestLine_17 : decode cX0_greatestLine 17 = .ok (.iload_n 2, 1) := by decide +kernel
theorem dX0_greatestLine_18 : decode cX0_greatestLine 18 = .ok (.ireturn, 1) := by decide +kernel
theorem dX0_greatestLine_19 : decode cX0_greatestLine 19 = .ok (.iinc 2 (-1), 3) := by decide +kernel
theorem dX0_greatestLine_22 : decode cX0_greatestLine 22 = .ok (.goto (-19), 3) := by decide +kernel
theorem dX0_greatestLine_25 : decode cX0_greatestLine 25 = .ok (.iconst (-1), 1) := by decide +kernel
theorem dX0_greatestLine_26 : decode cX0_greatestLine 26 = .ok (.ireturn, 1) := by decide +kernel
theorem dX0_nextLength_0 : decode cX0_nextLength 0 = .ok (.aload_n 0, 1) := by decide +kernel
theorem dX0_nextLength_1 : decode cX0_nextLength 1 = .ok (.aload_n 1, 1) := by decide +kernel
theorem dX0_nextLength_2 : decode cX0_nextLength 2 = .ok (.invokevirtual 21, 3) := by decide +kernel
theorem dX0_nextLength_5 : decode cX0_nextLength 5 = .ok (.istore_n 2, 1) := by decide +kernel
theorem dX0_nextLength_6 : decode cX0_nextLength 6 = .ok (.iconst (-1), 1) := by decide +kernel
theorem dX0_nextLength_7 : decode cX0_nextLength 7 = .ok (.istore_n 3, 1) := by decide +kernel
theorem dX0_nextLength_8 : decode cX0_nextLength 8 = .ok (.iload_n 2, 1) := by decide +kernel
theorem dX0_nextLength_9 : decode cX0_nextLength 9 = .ok (.iconst 1, 1) := by decide +kernel
theorem dX0_nextLength_10 : decode cX0_nextLength 10 = .ok (.iadd, 1) := by decide +kernel
theorem dX0_nextLength_11 : decode cX0_nextLength 11 = .ok (.istore 4, 2) := by decide +kernel
theorem dX0_nextLength_13 : decode cX0_nextLength 13 = .ok (.iconst 1, 1) := by decide +kernel
theorem dX0_nextLength_14 : decode cX0_nextLength 14 = .ok (.istore 5, 2) := by decide +kernel
theorem dX0_nextLength_16 : decode cX0_nextLength 16 = .ok (.iload 5, 2) := by decide +kernel
theorem dX0_nextLength_18 : decode cX0_nextLength 18 = .ok (.bipush 60, 2) := by decide +kernel
theorem dX0_nextLength_20 : decode cX0_nextLength 20 = .ok (.if_icmp .gt 49, 3) := by decide +kernel
theorem dX0_nextLength_23 : decode cX0_nextLength 23 = .ok (.iload 4, 2) := by decide +kernel
theorem dX0_nextLength_25 : decode cX0_nextLength 25 = .ok (.iconst 1, 1) := by decide +kernel
theorem dX0_nextLength_26 : decode cX0_nextLength 26 = .ok (.if_icmp .le 43, 3) := by decide +kernel
theorem dX0_nextLength_29 : decode cX0_nextLength 29 = .ok (.aload_n 0, 1) := by decide +kernel
theorem dX0_nextLength_30 : decode cX0_nextLength 30 = .ok (.aload_n 1, 1) := by decide +kernel
theorem dX0_nextLength_31 : decode cX0_nextLength 31 = .ok (.iload 5, 2) := by decide +kernel
theorem dX0_nextLength_33 : decode cX0_nextLength 33 = .ok (.invokevirtual 17, 3) := by decide +kernel
theorem dX0_nextLength_36 : decode cX0_nextLength 36 = .ok (.ifCond .eq 6, 3) := by decide +kernel
theorem dX0_nextLength_39 : decode cX0_nextLength 39 = .ok (.iinc 2 (-1), 3) := by decide +kernel
theorem dX0_nextLength_42 : decode cX0_nextLength 42 = .ok (.iload_n 2, 1) := by decide +kernel
theorem dX0_nextLength_43 : decode cX0_nextLength 43 = .ok (.iconst 1, 1) := by decide +kernel
theorem dX0_nextLength_44 : decode cX0_nextLength 44 = .ok (.invokestatic 25, 3) := by decide +kernel
theorem dX0_nextLength_47 : decode cX0_nextLength 47 = .ok (.istore 6, 2) := by decide +kernel
theorem dX0_nextLength_49 : decode cX0_nextLength 49 = .ok (.iload 6, 2) := by decide +kernel
theorem dX0_nextLength_51 : decode cX0_nextLength 51 = .ok (.iload 4, 2) := by decide +kernel
theorem dX0_nextLength_53 : decode cX0_nextLength 53 = .ok (.if_icmp .ge 10, 3) := by decide +kernel
theorem dX0_nextLength_56 : decode cX0_nextLength 56 = .ok (.iload 6, 2) := by decide +kernel
theorem dX0_nextLength_58 : decode cX0_nextLength 58 = .ok (.istore 4, 2) := by decide +kernel
theorem dX0_nextLength_60 : decode cX0_nextLength 60 = .ok (.iload 5, 2) := by decide +kernel
theorem dX0_nextLength_62 : decode cX0_nextLength 62 = .ok (.istore_n 3, 1) := by decide +kernel
theorem dX0_nextLength_63 : decode cX0_nextLength 63 = .ok (.iinc 5 1, 3) := by decide +kernel
theorem dX0_nextLength_66 : decode cX0_nextLength 66 = .ok (.goto (-50), 3) := by decide +kernel
theorem dX0_nextLength_69 : decode cX0_nextLength 69 = .ok (.iload_n 3, 1) := by decide +kernel
theorem dX0_nextLength_70 : decode cX0_nextLength 70 = .ok (.ireturn, 1) := by decide +kernel
theorem dX0_stringKinds_0 : decode cX0_stringKinds 0 = .ok (.iconst 0, 1) := by decide +kernel
theorem dX0_stringKinds_1 : decode cX0_stringKinds 1 = .ok (.istore_n 3, 1) := by decide +kernel
theorem dX0_stringKinds_2 : decode cX0_stringKinds 2 = .ok (.iconst 0, 1) := by decide +kernel
theorem dX0_stringKinds_3 : decode cX0_stringKinds 3 = .ok (.istore 4, 2) := by decide +kernel
theorem dX0_stringKinds_5 : decode cX0_stringKinds 5 = .ok (.iload 4, 2) := by decide +kernel
theorem dX0_stringKinds_7 : decode cX0_stringKinds 7 = .ok (.bipush 6, 2) := by decide +kernel
theorem dX0_stringKinds_9 : decode cX0_stringKinds 9 = .ok (.if_icmp .ge 27, 3) := by decide +kernel
theorem dX0_stringKinds_12 : decode cX0_stringKinds 12 = .ok (.aload_n 0, 1) := by decide +kernel
theorem dX0_stringKinds_13 : decode cX0_stringKinds 13 = .ok (.aload_n 1, 1) := by decide +kernel
theorem dX0_stringKinds_14 : decode cX0_stringKinds 14 = .ok (.iload_n 2, 1) := by decide +kernel
theorem dX0_stringKinds_15 : decode cX0_stringKinds 15 = .ok (.iload 4, 2) := by decide +kernel
theorem dX0_stringKinds_17 : decode cX0_stringKinds 17 = .ok (.invokevirtual 31, 3) := by decide +kernel
theorem dX0_stringKinds_20 : decode cX0_stringKinds 20 = .ok (.ifCond .eq 10, 3) := by decide +kernel
theorem dX0_stringKinds_23 : decode cX0_stringKinds 23 = .ok (.iload_n 3, 1) := by decide +kernel
theorem dX0_stringKinds_24 : decode cX0_stringKinds 24 = .ok (.iconst 1, 1) := by decide +kernel
theorem dX0_stringKinds_25 : decode cX0_stringKinds 25 = .ok (.iload 4, 2) := by decide +kernel
theorem dX0_stringKinds_27 : decode cX0_stringKinds 27 = .ok (.ishl, 1) := by decide +kernel
theorem dX0_stringKinds_28 : decode cX0_stringKinds 28 = .ok (.ior, 1) := by decide +kernel
theorem dX0_stringKinds_29 : decode cX0_stringKinds 29 = .ok (.istore_n 3, 1) := by decide +kernel
theorem dX0_stringKinds_30 : decode cX0_stringKinds 30 = .ok (.iinc 4 1, 3) := by decide +kernel
theorem dX0_stringKinds_33 : decode cX0_stringKinds 33 = .ok (.goto (-28), 3) := by decide +kernel
theorem dX0_stringKinds_36 : decode cX0_stringKinds 36 = .ok (.iload_n 3, 1) := by decide +kernel
theorem dX0_stringKinds_37 : decode cX0_stringKinds 37 = .ok (.ireturn, 1) := by decide +kernel
theorem dX0_nextHour_0 : decode cX0_nextHour 0 = .ok (.aload_n 0, 1) := by decide +kernel
theorem dX0_nextHour_1 : decode cX0_nextHour 1 = .ok (.aload_n 1, 1) := by decide +kernel
theorem dX0_nextHour_2 : decode cX0_nextHour 2 = .ok (.iload_n 2, 1) := by decide +kernel
theorem dX0_nextHour_3 : decode cX0_nextHour 3 = .ok (.invokevirtual 35, 3) := by decide +kernel
theorem dX0_nextHour_6 : decode cX0_nextHour 6 = .ok (.istore_n 3, 1) := by decide +kernel
theorem dX0_nextHour_7 : decode cX0_nextHour 7 = .ok (.iconst (-1), 1) := by decide +kernel
theorem dX0_nextHour_8 : decode cX0_nextHour 8 = .ok (.istore 4, 2) := by decide +kernel
theorem dX0_nextHour_10 : decode cX0_nextHour 10 = .ok (.bipush 7, 2) := by decide +kernel
theorem dX0_nextHour_12 : decode cX0_nextHour 12 = .ok (.istore 5, 2) := by decide +kernel
theorem dX0_nextHour_14 : decode cX0_nextHour 14 = .ok (.iconst 0, 1) := by decide +kernel
theorem dX0_nextHour_15 : decode cX0_nextHour 15 = .ok (.istore 6, 2) := by decide +kernel
theorem dX0_nextHour_17 : decode cX0_nextHour 17 = .ok (.iload 6, 2) := by decide +kernel
theorem dX0_nextHour_19 : decode cX0_nextHour 19 = .ok (.bipush 24, 2) := by decide +kernel
theorem dX0_nextHour_21 : decode cX0_nextHour 21 = .ok (.if_icmp .ge 81, 3) := by decide +kernel
theorem dX0_nextHour_24 : decode cX0_nextHour 24 = .ok (.iload_n 3, 1) := by decide +kernel
theorem dX0_nextHour_25 : decode cX0_nextHour 25 = .ok (.ifCond .eq 77, 3) := by decide +kernel
theorem dX0_nextHour_28 : decode cX0_nextHour 28 = .ok (.aload_n 0, 1) := by decide +kernel
theorem dX0_nextHour_29 : decode cX0_nextHour 29 = .ok (.iconst 0, 1) := by decide +kernel
theorem dX0_nextHour_30 : decode cX0_nextHour 30 = .ok (.putfield 39, 3) := by decide +kernel
theorem dX0_nextHour_33 : decode cX0_nextHour 33 = .ok (.iconst 0, 1) := by decide +kernel
theorem dX0_nextHour_34 : decode cX0_nextHour 34 = .ok (.istore 7, 2) := by decide +kernel
theorem dX0_nextHour_36 : decode cX0_nextHour 36 = .ok (.iload 7, 2) := by decide +kernel
theorem dX0_nextHour_38 : decode cX0_nextHour 38 = .ok (.bipush 6, 2) := by decide +kernel
theorem dX0_nextHour_40 : decode cX0_nextHour 40 = .ok (.if_icmp .ge 35, 3) := by decide +kernel
theorem dX0_nextHour_43 : decode cX0_nextHour 43 = .ok (.iload_n 3, 1) := by decide +kernel
theorem dX0_nextHour_44 : decode cX0_nextHour 44 = .ok (.iload 7, 2) := by decide +kernel
theorem dX0_nextHour_46 : decode cX0_nextHour 46 = .ok (.ishr, 1) := by decide +kernel
theorem dX0_nextHour_47 : decode cX0_nextHour 47 = .ok (.iconst 1, 1) := by decide +kernel
theorem dX0_nextHour_48 : decode cX0_nextHour 48 = .ok (.iand, 1) := by decide +kernel
theorem dX0_nextHour_49 : decode cX0_nextHour 49 = .ok (.iconst 1, 1) := by decide +kernel
theorem dX0_nextHour_50 : decode cX0_nextHour 50 = .ok (.if_icmp .ne 19, 3) := by decide +kernel
theorem dX0_nextHour_53 : decode cX0_nextHour 53 = .ok (.aload_n 0, 1) := by decide +kernel
theorem dX0_nextHour_54 : decode cX0_nextHour 54 = .ok (.iload 7, 2) := by decide +kernel
theorem dX0_nextHour_56 : decode cX0_nextHour 56 = .ok (.aload_n 1, 1) := by decide +kernel
theorem dX0_nextHour_57 : decode cX0_nextHour 57 = .ok (.iload_n 2, 1) := by decide +kernel
theorem dX0_nextHour_58 : decode cX0_nextHour 58 = .ok (.invokevirtual 43, 3) := by decide +kernel
theorem dX0_nextHour_61 : decode cX0_nextHour 61 = .ok (.iload 6, 2) := by decide +kernel
theorem dX0_nextHour_63 : decode cX0_nextHour 63 = .ok (.invokestatic 49, 3) := by decide +kernel
theorem dX0_nextHour_66 : decode cX0_nextHour 66 = .ok (.invokevirtual 53, 3) := by decide +kernel
theorem dX0_nextHour_69 : decode cX0_nextHour 69 = .ok (.iinc 7 1, 3) := by decide +kernel
theorem dX0_nextHour_72 : decode cX0_nextHour 72 = .ok (.goto (-36), 3) := by decide +kernel
theorem dX0_nextHour_75 : decode cX0_nextHour 75 = .ok (.aload_n 0, 1) := by decide +kernel
theorem dX0_nextHour_76 : decode cX0_nextHour 76 = .ok (.invokevirtual 57, 3) := by decide +kernel
theorem dX0_nextHour_79 : decode cX0_nextHour 79 = .ok (.istore 7, 2) := by decide +kernel
theorem dX0_nextHour_81 : decode cX0_nextHour 81 = .ok (.iload 7, 2) := by decide +kernel
theorem dX0_nextHour_83 : decode cX0_nextHour 83 = .ok (.iload 5, 2) := by decide +kernel
theorem dX0_nextHour_85 : decode cX0_nextHour 85 = .ok (.if_icmp .ge 11, 3) := by decide +kernel
theorem dX0_nextHour_88 : decode cX0_nextHour 88 = .ok (.iload 7, 2) := by decide +kernel
theorem dX0_nextHour_90 : decode cX0_nextHour 90 = .ok (.istore 5, 2) := by decide +kernel
theorem dX0_nextHour_92 : decode cX0_nextHour 92 = .ok (.iload 6, 2) := by decide +kernel
theorem dX0_nextHour_94 : decode cX0_nextHour 94 = .ok (.istore 4, 2) := by decide +kernel
theorem dX0_nextHour_96 : decode cX0_nextHour 96 = .ok (.iinc 6 1, 3) := by decide +kernel
theorem dX0_nextHour_99 : decode cX0_nextHour 99 = .ok (.goto (-82), 3) := by decide +kernel
theorem dX0_nextHour_102 : decode cX0_nextHour 102 = .ok (.iload 4, 2) := by decide +kernel
theorem dX0_nextHour_104 : decode cX0_nextHour 104 = .ok (.ireturn, 1) := by decide +kernel
theorem dX0_houseKinds_0 : decode cX0_houseKinds 0 = .ok (.iconst 0, 1) := by decide +kernel
theorem dX0_houseKinds_1 : decode cX0_houseKinds 1 = .ok (.istore_n 3, 1) := by decide +kernel
theorem dX0_houseKinds_2 : decode cX0_houseKinds 2 = .ok (.iconst 0, 1) := by decide +kernel
theorem dX0_houseKinds_3 : decode cX0_houseKinds 3 = .ok (.istore 4, 2) := by decide +kernel
theorem dX0_houseKinds_5 : decode cX0_houseKinds 5 = .ok (.iload 4, 2) := by decide +kernel
theorem dX0_houseKinds_7 : decode cX0_houseKinds 7 = .ok (.bipush 6, 2) := by decide +kernel
theorem dX0_houseKinds_9 : decode cX0_houseKinds 9 = .ok (.if_icmp .ge 27, 3) := by decide +kernel
theorem dX0_houseKinds_12 : decode cX0_houseKinds 12 = .ok (.aload_n 0, 1) := by decide +kernel
theorem dX0_houseKinds_13 : decode cX0_houseKinds 13 = .ok (.aload_n 1, 1) := by decide +kernel
theorem dX0_houseKinds_14 : decode cX0_houseKinds 14 = .ok (.iload_n 2, 1) := by decide +kernel
theorem dX0_houseKinds_15 : decode cX0_houseKinds 15 = .ok (.iload 4, 2) := by decide +kernel
theorem dX0_houseKinds_17 : decode cX0_houseKinds 17 = .ok (.invokevirtual 61, 3) := by decide +kernel
theorem dX0_houseKinds_20 : decode cX0_houseKinds 20 = .ok (.ifCond .eq 10, 3) := by decide +kernel
theorem dX0_houseKinds_23 : decode cX0_houseKinds 23 = .ok (.iload_n 3, 1) := by decide +kernel
theorem dX0_houseKinds_24 : decode cX0_houseKinds 24 = .ok (.iconst 1, 1) := by decide +kernel
theorem dX0_houseKinds_25 : decode cX0_houseKinds 25 = .ok (.iload 4, 2) := by decide +kernel
theorem dX0_houseKinds_27 : decode cX0_houseKinds 27 = .ok (.ishl, 1) := by decide +kernel
theorem dX0_houseKinds_28 : decode cX0_houseKinds 28 = .ok (.ior, 1) := by decide +kernel
theorem dX0_houseKinds_29 : decode cX0_houseKinds 29 = .ok (.istore_n 3, 1) := by decide +kernel
theorem dX0_houseKinds_30 : decode cX0_houseKinds 30 = .ok (.iinc 4 1, 3) := by decide +kernel
theorem dX0_houseKinds_33 : decode cX0_houseKinds 33 = .ok (.goto (-28), 3) := by decide +kernel
theorem dX0_houseKinds_36 : decode cX0_houseKinds 36 = .ok (.iload_n 3, 1) := by decide +kernel
theorem dX0_houseKinds_37 : decode cX0_houseKinds 37 = .ok (.ireturn, 1) := by decide +kernel
theorem dX0_nextQuestion_0 : decode cX0_nextQuestion 0 = .ok (.aload_n 0, 1) := by decide +kernel
theorem dX0_nextQuestion_1 : decode cX0_nextQuestion 1 = .ok (.aload_n 1, 1) := by decide +kernel
theorem dX0_nextQuestion_2 : decode cX0_nextQuestion 2 = .ok (.iload_n 2, 1) := by decide +kernel
theorem dX0_nextQuestion_3 : decode cX0_nextQuestion 3 = .ok (.invokevirtual 64, 3) := by decide +kernel
theorem dX0_nextQuestion_6 : decode cX0_nextQuestion 6 = .ok (.istore_n 3, 1) := by decide +kernel
theorem dX0_nextQuestion_7 : decode cX0_nextQuestion 7 = .ok (.iconst (-1), 1) := by decide +kernel
theorem dX0_nextQuestion_8 : decode cX0_nextQuestion 8 = .ok (.istore 4, 2) := by decide +kernel
theorem dX0_nextQuestion_10 : decode cX0_nextQuestion 10 = .ok (.bipush 7, 2) := by decide +kernel
theorem dX0_nextQuestion_12 : decode cX0_nextQuestion 12 = .ok (.istore 5, 2) := by decide +kernel
theorem dX0_nextQuestion_14 : decode cX0_nextQuestion 14 = .ok (.iconst 0, 1) := by decide +kernel
theorem dX0_nextQuestion_15 : decode cX0_nextQuestion 15 = .ok (.istore 6, 2) := by decide +kernel
theorem dX0_nextQuestion_17 : decode cX0_nextQuestion 17 = .ok (.iload 6, 2) := by decide +kernel
theorem dX0_nextQuestion_19 : decode cX0_nextQuestion 19 = .ok (.sipush 199, 3) := by decide +kernel
theorem dX0_nextQuestion_22 : decode cX0_nextQuestion 22 = .ok (.if_icmp .gt 84, 3) := by decide +kernel
theorem dX0_nextQuestion_25 : decode cX0_nextQuestion 25 = .ok (.iload_n 3, 1) := by decide +kernel
theorem dX0_nextQuestion_26 : decode cX0_nextQuestion 26 = .ok (.ifCond .eq 80, 3) := by decide +kernel
theorem dX0_nextQuestion_29 : decode cX0_nextQuestion 29 = .ok (.aload_n 0, 1) := by decide +kernel
theorem dX0_nextQuestion_30 : decode cX0_nextQuestion 30 = .ok (.iconst 0, 1) := by decide +kernel
theorem dX0_nextQuestion_31 : decode cX0_nextQuestion 31 = .ok (.putfield 39, 3) := by decide +kernel
theorem dX0_nextQuestion_34 : decode cX0_nextQuestion 34 = .ok (.iconst 0, 1) := by decide +kernel
theorem dX0_nextQuestion_35 : decode cX0_nextQuestion 35 = .ok (.istore 7, 2) := by decide +kernel
theorem dX0_nextQuestion_37 : decode cX0_nextQuestion 37 = .ok (.iload 7, 2) := by decide +kernel
theorem dX0_nextQuestion_39 : decode cX0_nextQuestion 39 = .ok (.bipush 6, 2) := by decide +kernel
theorem dX0_nextQuestion_41 : decode cX0_nextQuestion 41 = .ok (.if_icmp .ge 38, 3) := by decide +kernel
theorem dX0_nextQuestion_44 : decode cX0_nextQuestion 44 = .ok (.iload_n 3, 1) := by decide +kernel
theorem dX0_nextQuestion_45 : decode cX0_nextQuestion 45 = .ok (.iload 7, 2) := by decide +kernel
theorem dX0_nextQuestion_47 : decode cX0_nextQuestion 47 = .ok (.ishr, 1) := by decide +kernel
theorem dX0_nextQuestion_48 : decode cX0_nextQuestion 48 = .ok (.iconst 1, 1) := by decide +kernel
theorem dX0_nextQuestion_49 : decode cX0_nextQuestion 49 = .ok (.iand, 1) := by decide +kernel
theorem dX0_nextQuestion_50 : decode cX0_nextQuestion 50 = .ok (.iconst 1, 1) := by decide +kernel
theorem dX0_nextQuestion_51 : decode cX0_nextQuestion 51 = .ok (.if_icmp .ne 22, 3) := by decide +kernel
theorem dX0_nextQuestion_54 : decode cX0_nextQuestion 54 = .ok (.aload_n 0, 1) := by decide +kernel
theorem dX0_nextQuestion_55 : decode cX0_nextQuestion 55 = .ok (.iload 7, 2) := by decide +kernel
theorem dX0_nextQuestion_57 : decode cX0_nextQuestion 57 = .ok (.iload 6, 2) := by decide +kernel
theorem dX0_nextQuestion_59 : decode cX0_nextQuestion 59 = .ok (.bipush 100, 2) := by decide +kernel
theorem dX0_nextQuestion_61 : decode cX0_nextQuestion 61 = .ok (.irem, 1) := by decide +kernel
theorem dX0_nextQuestion_62 : decode cX0_nextQuestion 62 = .ok (.iload 6, 2) := by decide +kernel
theorem dX0_nextQuestion_64 : decode cX0_nextQuestion 64 = .ok (.bipush 100, 2) := by decide +kernel
theorem dX0_nextQuestion_66 : decode cX0_nextQuestion 66 = .ok (.idiv, 1) := by decide +kernel
theorem dX0_nextQuestion_67 : decode cX0_nextQuestion 67 = .ok (.invokestatic 67, 3) := by decide +kernel
theorem dX0_nextQuestion_70 : decode cX0_nextQuestion 70 = .ok (.invokevirtual 53, 3) := by decide +kernel
theorem dX0_nextQuestion_73 : decode cX0_nextQuestion 73 = .ok (.iinc 7 1, 3) := by decide +kernel
theorem dX0_nextQuestion_76 : decode cX0_nextQuestion 76 = .ok (.goto (-39), 3) := by decide +kernel
theorem dX0_nextQuestion_79 : decode cX0_nextQuestion 79 = .ok (.aload_n 0, 1) := by decide +kernel
theorem dX0_nextQuestion_80 : decode cX0_nextQuestion 80 = .ok (.invokevirtual 57, 3) := by decide +kernel
theorem dX0_nextQuestion_83 : decode cX0_nextQuestion 83 = .ok (.istore 7, 2) := by decide +kernel
theorem dX0_nextQuestion_85 : decode cX0_nextQuestion 85 = .ok (.iload 7, 2) := by decide +kernel
theorem dX0_nextQuestion_87 : decode cX0_nextQuestion 87 = .ok (.iload 5, 2) := by decide +kernel
theorem dX0_nextQuestion_89 : decode cX0_nextQuestion 89 = .ok (.if_icmp .ge 11, 3) := by decide +kernel
theorem dX0_nextQuestion_92 : decode cX0_nextQuestion 92 = .ok (.iload 7, 2) := by decide +kernel
theorem dX0_nextQuestion_94 : decode cX0_nextQuestion 94 = .ok (.istore 5, 2) := by decide +kernel
theorem dX0_nextQuestion_96 : decode cX0_nextQuestion 96 = .ok (.iload 6, 2) := by decide +kernel
theorem dX0_nextQuestion_98 : decode cX0_nextQuestion 98 = .ok (.istore 4, 2) := by decide +kernel
theorem dX0_nextQuestion_100 : decode cX0_nextQuestion 100 = .ok (.iinc 6 1, 3) := by decide +kernel
theorem dX0_nextQuestion_103 : decode cX0_nextQuestion 103 = .ok (.goto (-86), 3) := by decide +kernel
theorem dX0_nextQuestion_106 : decode cX0_nextQuestion 106 = .ok (.iload 4, 2) := by decide +kernel
theorem dX0_nextQuestion_108 : decode cX0_nextQuestion 108 = .ok (.ireturn, 1) := by decide +kernel
theorem dX0_fits_0 : decode cX0_fits 0 = .ok (.iconst 0, 1) := by decide +kernel
theorem dX0_fits_1 : decode cX0_fits 1 = .ok (.istore_n 3, 1) := by decide +kernel
theorem dX0_fits_2 : decode cX0_fits 2 = .ok (.iload_n 3, 1) := by decide +kernel
theorem dX0_fits_3 : decode cX0_fits 3 = .ok (.aload_n 1, 1) := by decide +kernel
theorem dX0_fits_4 : decode cX0_fits 4 = .ok (.getfield 70, 3) := by decide +kernel
theorem dX0_fits_7 : decode cX0_fits 7 = .ok (.getfield 74, 3) := by decide +kernel
theorem dX0_fits_10 : decode cX0_fits 10 = .ok (.if_icmp .ge 36, 3) := by decide +kernel
theorem dX0_fits_13 : decode cX0_fits 13 = .ok (.aload_n 1, 1) := by decide +kernel
theorem dX0_fits_14 : decode cX0_fits 14 = .ok (.getfield 70, 3) := by decide +kernel
theorem dX0_fits_17 : decode cX0_fits 17 = .ok (.iload_n 3, 1) := by decide +kernel
theorem dX0_fits_18 : decode cX0_fits 18 = .ok (.iconst 0, 1) := by decide +kernel
theorem dX0_fits_19 : decode cX0_fits 19 = .ok (.invokevirtual 79, 3) := by decide +kernel
theorem dX0_fits_22 : decode cX0_fits 22 = .ok (.iload_n 2, 1) := by decide +kernel
theorem dX0_fits_23 : decode cX0_fits 23 = .ok (.invokestatic 82, 3) := by decide +kernel
theorem dX0_fits_26 : decode cX0_fits 26 = .ok (.aload_n 1, 1) := by decide +kernel
theorem dX0_fits_27 : decode cX0_fits 27 = .ok (.getfield 70, 3) := by decide +kernel
theorem dX0_fits_30 : decode cX0_fits 30 = .ok (.iload_n 3, 1) := by decide +kernel
theorem dX0_fits_31 : decode cX0_fits 31 = .ok (.iconst 1, 1) := by decide +kernel
theorem dX0_fits_32 : decode cX0_fits 32 = .ok (.invokevirtual 79, 3) := by decide +kernel
theorem dX0_fits_35 : decode cX0_fits 35 = .ok (.if_icmp .eq 5, 3) := by decide +kernel
theorem dX0_fits_38 : decode cX0_fits 38 = .ok (.iconst 0, 1) := by decide +kernel
theorem dX0_fits_39 : decode cX0_fits 39 = .ok (.ireturn, 1) := by decide +kernel
theorem dX0_fits_40 : decode cX0_fits 40 = .ok (.iinc 3 1, 3) := by decide +kernel
theorem dX0_fits_43 : decode cX0_fits 43 = .ok (.goto (-41), 3) := by decide +kernel
theorem dX0_fits_46 : decode cX0_fits 46 = .ok (.iconst 1, 1) := by decide +kernel
theorem dX0_fits_47 : decode cX0_fits 47 = .ok (.ireturn, 1) := by decide +kernel
theorem dX0_notesFit_0 : decode cX0_notesFit 0 = .ok (.iconst 0, 1) := by decide +kernel
theorem dX0_notesFit_1 : decode cX0_notesFit 1 = .ok (.istore 4, 2) := by decide +kernel
theorem dX0_notesFit_3 : decode cX0_notesFit 3 = .ok (.iload 4, 2) := by decide +kernel
theorem dX0_notesFit_5 : decode cX0_notesFit 5 = .ok (.aload_n 1, 1) := by decide +kernel
theorem dX0_notesFit_6 : decode cX0_notesFit 6 = .ok (.getfield 85, 3) := by decide +kernel
theorem dX0_notesFit_9 : decode cX0_notesFit 9 = .ok (.getfield 74, 3) := by decide +kernel
theorem dX0_notesFit_12 : decode cX0_notesFit 12 = .ok (.if_icmp .ge 62, 3) := by decide +kernel
theorem dX0_notesFit_15 : decode cX0_notesFit 15 = .ok (.aload_n 1, 1) := by decide +kernel
theorem dX0_notesFit_16 : decode cX0_notesFit 16 = .ok (.getfield 85, 3) := by decide +kernel
theorem dX0_notesFit_19 : decode cX0_notesFit 19 = .ok (.iload 4, 2) := by decide +kernel
theorem dX0_notesFit_21 : decode cX0_notesFit 21 = .ok (.iconst 0, 1) := by decide +kernel
theorem dX0_notesFit_22 : decode cX0_notesFit 22 = .ok (.invokevirtual 79, 3) := by decide +kernel
theorem dX0_notesFit_25 : decode cX0_notesFit 25 = .ok (.iload_n 2, 1) := by decide +kernel
theorem dX0_notesFit_26 : decode cX0_notesFit 26 = .ok (.if_icmp .ne 42, 3) := by decide +kernel
theorem dX0_notesFit_29 : decode cX0_notesFit 29 = .ok (.iload_n 3, 1) := by decide +kernel
theorem dX0_notesFit_30 : decode cX0_notesFit 30 = .ok (.aload_n 1, 1) := by decide +kernel
theorem dX0_notesFit_31 : decode cX0_notesFit 31 = .ok (.getfield 85, 3) := by decide +kernel
theorem dX0_notesFit_34 : decode cX0_notesFit 34 = .ok (.iload 4, 2) := by decide +kernel
theorem dX0_notesFit_36 : decode cX0_notesFit 36 = .ok (.iconst 1, 1) := by decide +kernel
theorem dX0_notesFit_37 : decode cX0_notesFit 37 = .ok (.invokevirtual 79, 3) := by decide +kernel
theorem dX0_notesFit_40 : decode cX0_notesFit 40 = .ok (.aload_n 1, 1) := by decide +kernel
theorem dX0_notesFit_41 : decode cX0_notesFit 41 = .ok (.getfield 85, 3) := by decide +kernel
theorem dX0_notesFit_44 : decode cX0_notesFit 44 = .ok (.iload 4, 2) := by decide +kernel
theorem dX0_notesFit_46 : decode cX0_notesFit 46 = .ok (.iconst 2, 1) := by decide +kernel
theorem dX0_notesFit_47 : decode cX0_notesFit 47 = .ok (.invokevirtual 79, 3) := by decide +kernel
theorem dX0_notesFit_50 : decode cX0_notesFit 50 = .ok (.invokestatic 49, 3) := by decide +kernel
theorem dX0_notesFit_53 : decode cX0_notesFit 53 = .ok (.aload_n 1, 1) := by decide +kernel
theorem dX0_notesFit_54 : decode cX0_notesFit 54 = .ok (.getfield 85, 3) := by decide +kernel
theorem dX0_notesFit_57 : decode cX0_notesFit 57 = .ok (.iload 4, 2) := by decide +kernel
theorem dX0_notesFit_59 : decode cX0_notesFit 59 = .ok (.iconst 3, 1) := by decide +kernel
theorem dX0_notesFit_60 : decode cX0_notesFit 60 = .ok (.invokevirtual 79, 3) := by decide +kernel
theorem dX0_notesFit_63 : decode cX0_notesFit 63 = .ok (.if_icmp .eq 5, 3) := by decide +kernel
theorem dX0_notesFit_66 : decode cX0_notesFit 66 = .ok (.iconst 0, 1) := by decide +kernel
theorem dX0_notesFit_67 : decode cX0_notesFit 67 = .ok (.ireturn, 1) := by decide +kernel
theorem dX0_notesFit_68 : decode cX0_notesFit 68 = .ok (.iinc 4 1, 3) := by decide +kernel
theorem dX0_notesFit_71 : decode cX0_notesFit 71 = .ok (.goto (-68), 3) := by decide +kernel
theorem dX0_notesFit_74 : decode cX0_notesFit 74 = .ok (.iconst 1, 1) := by decide +kernel
theorem dX0_notesFit_75 : decode cX0_notesFit 75 = .ok (.ireturn, 1) := by decide +kernel
theorem dX0_marksFit_0 : decode cX0_marksFit 0 = .ok (.iconst 0, 1) := by decide +kernel
theorem dX0_marksFit_1 : decode cX0_marksFit 1 = .ok (.istore 4, 2) := by decide +kernel
theorem dX0_marksFit_3 : decode cX0_marksFit 3 = .ok (.iload 4, 2) := by decide +kernel
theorem dX0_marksFit_5 : decode cX0_marksFit 5 = .ok (.aload_n 1, 1) := by decide +kernel
theorem dX0_marksFit_6 : decode cX0_marksFit 6 = .ok (.getfield 88, 3) := by decide +kernel
theorem dX0_marksFit_9 : decode cX0_marksFit 9 = .ok (.getfield 74, 3) := by decide +kernel
theorem dX0_marksFit_12 : decode cX0_marksFit 12 = .ok (.if_icmp .ge 62, 3) := by decide +kernel
theorem dX0_marksFit_15 : decode cX0_marksFit 15 = .ok (.aload_n 1, 1) := by decide +kernel
theorem dX0_marksFit_16 : decode cX0_marksFit 16 = .ok (.getfield 88, 3) := by decide +kernel
theorem dX0_marksFit_19 : decode cX0_marksFit 19 = .ok (.iload 4, 2) := by decide +kernel
theorem dX0_marksFit_21 : decode cX0_marksFit 21 = .ok (.iconst 0, 1) := by decide +kernel
theorem dX0_marksFit_22 : decode cX0_marksFit 22 = .ok (.invokevirtual 79, 3) := by decide +kernel
theorem dX0_marksFit_25 : decode cX0_marksFit 25 = .ok (.iload_n 2, 1) := by decide +kernel
theorem dX0_marksFit_26 : decode cX0_marksFit 26 = .ok (.if_icmp .ne 42, 3) := by decide +kernel
theorem dX0_marksFit_29 : decode cX0_marksFit 29 = .ok (.iload_n 3, 1) := by decide +kernel
theorem dX0_marksFit_30 : decode cX0_marksFit 30 = .ok (.aload_n 1, 1) := by decide +kernel
theorem dX0_marksFit_31 : decode cX0_marksFit 31 = .ok (.getfield 88, 3) := by decide +kernel
theorem dX0_marksFit_34 : decode cX0_marksFit 34 = .ok (.iload 4, 2) := by decide +kernel
theorem dX0_marksFit_36 : decode cX0_marksFit 36 = .ok (.iconst 1, 1) := by decide +kernel
theorem dX0_marksFit_37 : decode cX0_marksFit 37 = .ok (.invokevirtual 79, 3) := by decide +kernel
theorem dX0_marksFit_40 : decode cX0_marksFit 40 = .ok (.aload_n 1, 1) := by decide +kernel
theorem dX0_marksFit_41 : decode cX0_marksFit 41 = .ok (.getfield 88, 3) := by decide +kernel
theorem dX0_marksFit_44 : decode cX0_marksFit 44 = .ok (.iload 4, 2) := by decide +kernel
theorem dX0_marksFit_46 : decode cX0_marksFit 46 = .ok (.iconst 2, 1) := by decide +kernel
theorem dX0_marksFit_47 : decode cX0_marksFit 47 = .ok (.invokevirtual 79, 3) := by decide +kernel
theorem dX0_marksFit_50 : decode cX0_marksFit 50 = .ok (.invokestatic 67, 3) := by decide +kernel
theorem dX0_marksFit_53 : decode cX0_marksFit 53 = .ok (.aload_n 1, 1) := by decide +kernel
theorem dX0_marksFit_54 : decode cX0_marksFit 54 = .ok (.getfield 88, 3) := by decide +kernel
theorem dX0_marksFit_57 : decode cX0_marksFit 57 = .ok (.iload 4, 2) := by decide +kernel
theorem dX0_marksFit_59 : decode cX0_marksFit 59 = .ok (.iconst 3, 1) := by decide +kernel
theorem dX0_marksFit_60 : decode cX0_marksFit 60 = .ok (.invokevirtual 79, 3) := by decide +kernel
theorem dX0_marksFit_63 : decode cX0_marksFit 63 = .ok (.if_icmp .eq 5, 3) := by decide +kernel
theorem dX0_marksFit_66 : decode cX0_marksFit 66 = .ok (.iconst 0, 1) := by decide +kernel
theorem dX0_marksFit_67 : decode cX0_marksFit 67 = .ok (.ireturn, 1) := by decide +kernel
theorem dX0_marksFit_68 : decode cX0_marksFit 68 = .ok (.iinc 4 1, 3) := by decide +kernel
theorem dX0_marksFit_71 : decode cX0_marksFit 71 = .ok (.goto (-68), 3) := by decide +kernel
theorem dX0_marksFit_74 : decode cX0_marksFit 74 = .ok (.iconst 1, 1) := by decide +kernel
theorem dX0_marksFit_75 : decode cX0_marksFit 75 = .ok (.ireturn, 1) := by decide +kernel
theorem dX0_putAnswer_0 : decode cX0_putAnswer 0 = .ok (.aload_n 0, 1) := by decide +kernel
theorem dX0_putAnswer_1 : decode cX0_putAnswer 1 = .ok (.getfield 39, 3) := by decide +kernel
theorem dX0_putAnswer_4 : decode cX0_putAnswer 4 = .ok (.iconst 0, 1) := by decide +kernel
theorem dX0_putAnswer_5 : decode cX0_putAnswer 5 = .ok (.iconst 5, 1) := by decide +kernel
theorem dX0_putAnswer_6 : decode cX0_putAnswer 6 = .ok (.invokestatic 91, 3) := by decide +kernel
theorem dX0_putAnswer_9 : decode cX0_putAnswer 9 = .ok (.ifCond .eq 23, 3) := by decide +kernel
theorem dX0_putAnswer_12 : decode cX0_putAnswer 12 = .ok (.aload_n 0, 1) := by decide +kernel
theorem dX0_putAnswer_13 : decode cX0_putAnswer 13 = .ok (.getfield 11, 3) := by decide +kernel
theorem dX0_putAnswer_16 : decode cX0_putAnswer 16 = .ok (.aload_n 0, 1) := by decide +kernel
theorem dX0_putAnswer_17 : decode cX0_putAnswer 17 = .ok (.getfield 39, 3) := by decide +kernel
theorem dX0_putAnswer_20 : decode cX0_putAnswer 20 = .ok (.iload_n 1, 1) := by decide +kernel
theorem dX0_putAnswer_21 : decode cX0_putAnswer 21 = .ok (.iastore, 1) := by decide +kernel
theorem dX0_putAnswer_22 : decode cX0_putAnswer 22 = .ok (.aload_n 0, 1) := by decide +kernel
theorem dX0_putAnswer_23 : decode cX0_putAnswer 23 = .ok (.dup, 1) := by decide +kernel
theorem dX0_putAnswer_24 : decode cX0_putAnswer 24 = .ok (.getfield 39, 3) := by decide +kernel
theorem dX0_putAnswer_27 : decode cX0_putAnswer 27 = .ok (.iconst 1, 1) := by decide +kernel
theorem dX0_putAnswer_28 : decode cX0_putAnswer 28 = .ok (.iadd, 1) := by decide +kernel
theorem dX0_putAnswer_29 : decode cX0_putAnswer 29 = .ok (.putfield 39, 3) := by decide +kernel
theorem dX0_putAnswer_32 : decode cX0_putAnswer 32 = .ok (.return_, 1) := by decide +kernel
theorem dX0_mostAlike_0 : decode cX0_mostAlike 0 = .ok (.iconst 0, 1) := by decide +kernel
theorem dX0_mostAlike_1 : decode cX0_mostAlike 1 = .ok (.istore_n 1, 1) := by decide +kernel
theorem dX0_mostAlike_2 : decode cX0_mostAlike 2 = .ok (.iconst 0, 1) := by decide +kernel
theorem dX0_mostAlike_3 : decode cX0_mostAlike 3 = .ok (.istore_n 2, 1) := by decide +kernel
theorem dX0_mostAlike_4 : decode cX0_mostAlike 4 = .ok (.iload_n 2, 1) := by decide +kernel
theorem dX0_mostAlike_5 : decode cX0_mostAlike 5 = .ok (.aload_n 0, 1) := by decide +kernel
theorem dX0_mostAlike_6 : decode cX0_mostAlike 6 = .ok (.getfield 39, 3) := by decide +kernel
theorem dX0_mostAlike_9 : decode cX0_mostAlike 9 = .ok (.if_icmp .ge 57, 3) := by decide +kernel
theorem dX0_mostAlike_12 : decode cX0_mostAlike 12 = .ok (.iload_n 2, 1) := by decide +kernel
theorem dX0_mostAlike_13 : decode cX0_mostAlike 13 = .ok (.bipush 6, 2) := by decide +kernel
theorem dX0_mostAlike_15 : decode cX0_mostAlike 15 = .ok (.if_icmp .ge 51, 3) := by decide +kernel
theorem dX0_mostAlike_18 : decode cX0_mostAlike 18 = .ok (.iconst 1, 1) := by decide +kernel
theorem dX0_mostAlike_19 : decode cX0_mostAlike 19 = .ok (.istore_n 3, 1) := by decide +kernel
theorem dX0_mostAlike_20 : decode cX0_mostAlike 20 = .ok (.iconst 0, 1) := by decide +kernel
theorem dX0_mostAlike_21 : decode cX0_mostAlike 21 = .ok (.istore 4, 2) := by decide +kernel
theorem dX0_mostAlike_23 : decode cX0_mostAlike 23 = .ok (.iload 4, 2) := by decide +kernel
theorem dX0_mostAlike_25 : decode cX0_mostAlike 25 = .ok (.iload_n 2, 1) := by decide +kernel
theorem dX0_mostAlike_26 : decode cX0_mostAlike 26 = .ok (.if_icmp .ge 28, 3) := by decide +kernel
theorem dX0_mostAlike_29 : decode cX0_mostAlike 29 = .ok (.aload_n 0, 1) := by decide +kernel
theorem dX0_mostAlike_30 : decode cX0_mostAlike 30 = .ok (.getfield 11, 3) := by decide +kernel
theorem dX0_mostAlike_33 : decode cX0_mostAlike 33 = .ok (.iload 4, 2) := by decide +kernel
theorem dX0_mostAlike_35 : decode cX0_mostAlike 35 = .ok (.iaload, 1) := by decide +kernel
theorem dX0_mostAlike_36 : decode cX0_mostAlike 36 = .ok (.aload_n 0, 1) := by decide +kernel
theorem dX0_mostAlike_37 : decode cX0_mostAlike 37 = .ok (.getfield 11, 3) := by decide +kernel
theorem dX0_mostAlike_40 : decode cX0_mostAlike 40 = .ok (.iload_n 2, 1) := by decide +kernel
theorem dX0_mostAlike_41 : decode cX0_mostAlike 41 = .ok (.iaload, 1) := by decide +kernel
theorem dX0_mostAlike_42 : decode cX0_mostAlike 42 = .ok (.if_icmp .ne 6, 3) := by decide +kernel
theorem dX0_mostAlike_45 : decode cX0_mostAlike 45 = .ok (.iinc 3 1, 3) := by decide +kernel
theorem dX0_mostAlike_48 : decode cX0_mostAlike 48 = .ok (.iinc 4 1, 3) := by decide +kernel
theorem dX0_mostAlike_51 : decode cX0_mostAlike 51 = .ok (.goto (-28), 3) := by decide +kernel
theorem dX0_mostAlike_54 : decode cX0_mostAlike 54 = .ok (.iload_n 1, 1) := by decide +kernel
theorem dX0_mostAlike_55 : decode cX0_mostAlike 55 = .ok (.iload_n 3, 1) := by decide +kernel
theorem dX0_mostAlike_56 : decode cX0_mostAlike 56 = .ok (.invokestatic 25, 3) := by decide +kernel
theorem dX0_mostAlike_59 : decode cX0_mostAlike 59 = .ok (.istore_n 1, 1) := by decide +kernel
theorem dX0_mostAlike_60 : decode cX0_mostAlike 60 = .ok (.iinc 2 1, 3) := by decide +kernel
theorem dX0_mostAlike_63 : decode cX0_mostAlike 63 = .ok (.goto (-59), 3) := by decide +kernel
theorem dX0_mostAlike_66 : decode cX0_mostAlike 66 = .ok (.iload_n 1, 1) := by decide +kernel
theorem dX0_mostAlike_67 : decode cX0_mostAlike 67 = .ok (.ireturn, 1) := by decide +kernel
theorem dX1_known_0 : decode cX1_known 0 = .ok (.iload_n 0, 1) := by decide +kernel
theorem dX1_known_1 : decode cX1_known 1 = .ok (.iconst 0, 1) := by decide +kernel
theorem dX1_known_2 : decode cX1_known 2 = .ok (.iconst 5, 1) := by decide +kernel
theorem dX1_known_3 : decode cX1_known 3 = .ok (.invokestatic 11, 3) := by decide +kernel
theorem dX1_known_6 : decode cX1_known 6 = .ok (.ireturn, 1) := by decide +kernel
theorem dX1_shown_0 : decode cX1_shown 0 = .ok (.iload_n 2, 1) := by decide +kernel
theorem dX1_shown_1 : decode cX1_shown 1 = .ok (.bipush 24, 2) := by decide +kernel
theorem dX1_shown_3 : decode cX1_shown 3 = .ok (.irem, 1) := by decide +kernel
theorem dX1_shown_4 : decode cX1_shown 4 = .ok (.istore_n 3, 1) := by decide +kernel
theorem dX1_shown_5 : decode cX1_shown 5 = .ok (.iload_n 3, 1) := by decide +kernel
theorem dX1_shown_6 : decode cX1_shown 6 = .ok (.bipush 6, 2) := by decide +kernel
theorem dX1_shown_8 : decode cX1_shown 8 = .ok (.if_icmp .lt 9, 3) := by decide +kernel
theorem dX1_shown_11 : decode cX1_shown 11 = .ok (.iload_n 3, 1) := by decide +kernel
theorem dX1_shown_12 : decode cX1_shown 12 = .ok (.bipush 18, 2) := by decide +kernel
theorem dX1_shown_14 : decode cX1_shown 14 = .ok (.if_icmp .lt 7, 3) := by decide +kernel
theorem dX1_shown_17 : decode cX1_shown 17 = .ok (.iconst 0, 1) := by decide +kernel
theorem dX1_shown_18 : decode cX1_shown 18 = .ok (.goto 4, 3) := by decide +kernel
theorem dX1_shown_21 : decode cX1_shown 21 = .ok (.iload_n 1, 1) := by decide +kernel
theorem dX1_shown_22 : decode cX1_shown 22 = .ok (.istore 4, 2) := by decide +kernel
theorem dX1_shown_24 : decode cX1_shown 24 = .ok (.iload_n 1, 1) := by decide +kernel
theorem dX1_shown_25 : decode cX1_shown 25 = .ok (.iconst 5, 1) := by decide +kernel
theorem dX1_shown_26 : decode cX1_shown 26 = .ok (.iadd, 1) := by decide +kernel
theorem dX1_shown_27 : decode cX1_shown 27 = .ok (.istore 5, 2) := by decide +kernel
theorem dX1_shown_29 : decode cX1_shown 29 = .ok (.iload_n 0, 1) := by decide +kernel
theorem dX1_shown_30 : decode cX1_shown 30 = .ok (.tableswitch 64 1 5 #[34, 37, 44, 47, 54], 34) := by decide +kernel
theorem dX1_shown_64 : decode cX1_shown 64 = .ok (.iload 4, 2) := by decide +kernel
theorem dX1_shown_66 : decode cX1_shown 66 = .ok (.ireturn, 1) := by decide +kernel
theorem dX1_shown_67 : decode cX1_shown 67 = .ok (.iload_n 1, 1) := by decide +kernel
theorem dX1_shown_68 : decode cX1_shown 68 = .ok (.bipush 10, 2) := by decide +kernel
theorem dX1_shown_70 : decode cX1_shown 70 = .ok (.invokestatic 15, 3) := by decide +kernel
theorem dX1_shown_73 : decode cX1_shown 73 = .ok (.ireturn, 1) := by decide +kernel
theorem dX1_shown_74 : decode cX1_shown 74 = .ok (.iload 5, 2) := by decide +kernel
theorem dX1_shown_76 : decode cX1_shown 76 = .ok (.ireturn, 1) := by decide +kernel
theorem dX1_shown_77 : decode cX1_shown 77 = .ok (.iload 4, 2) := by decide +kernel
theorem dX1_shown_79 : decode cX1_shown 79 = .ok (.iconst 1, 1) := by decide +kernel
theorem dX1_shown_80 : decode cX1_shown 80 = .ok (.iadd, 1) := by decide +kernel
theorem dX1_shown_81 : decode cX1_shown 81 = .ok (.iconst 2, 1) := by decide +kernel
theorem dX1_shown_82 : decode cX1_shown 82 = .ok (.idiv, 1) := by decide +kernel
theorem dX1_shown_83 : decode cX1_shown 83 = .ok (.ireturn, 1) := by decide +kernel
theorem dX1_shown_84 : decode cX1_shown 84 = .ok (.iconst 2, 1) := by decide +kernel
theorem dX1_shown_85 : decode cX1_shown 85 = .ok (.iload 5, 2) := by decide +kernel
theorem dX1_shown_87 : decode cX1_shown 87 = .ok (.imul, 1) := by decide +kernel
theorem dX1_shown_88 : decode cX1_shown 88 = .ok (.bipush 99, 2) := by decide +kernel
theorem dX1_shown_90 : decode cX1_shown 90 = .ok (.invokestatic 15, 3) := by decide +kernel
theorem dX1_shown_93 : decode cX1_shown 93 = .ok (.ireturn, 1) := by decide +kernel
theorem dX1_shown_94 : decode cX1_shown 94 = .ok (.iload_n 1, 1) := by decide +kernel
theorem dX1_shown_95 : decode cX1_shown 95 = .ok (.ireturn, 1) := by decide +kernel
theorem dX1_charged_0 : decode cX1_charged 0 = .ok (.iload_n 1, 1) := by decide +kernel
theorem dX1_charged_1 : decode cX1_charged 1 = .ok (.iconst 1, 1) := by decide +kernel
theorem dX1_charged_2 : decode cX1_charged 2 = .ok (.iadd, 1) := by decide +kernel
theorem dX1_charged_3 : decode cX1_charged 3 = .ok (.iconst 2, 1) := by decide +kernel
theorem dX1_charged_4 : decode cX1_charged 4 = .ok (.idiv, 1) := by decide +kernel
theorem dX1_charged_5 : decode cX1_charged 5 = .ok (.istore_n 3, 1) := by decide +kernel
theorem dX1_charged_6 : decode cX1_charged 6 = .ok (.iload_n 3, 1) := by decide +kernel
theorem dX1_charged_7 : decode cX1_charged 7 = .ok (.iload_n 1, 1) := by decide +kernel
theorem dX1_charged_8 : decode cX1_charged 8 = .ok (.bipush 10, 2) := by decide +kernel
theorem dX1_charged_10 : decode cX1_charged 10 = .ok (.idiv, 1) := by decide +kernel
theorem dX1_charged_11 : decode cX1_charged 11 = .ok (.iadd, 1) := by decide +kernel
theorem dX1_charged_12 : decode cX1_charged 12 = .ok (.istore 4, 2) := by decide +kernel
theorem dX1_charged_14 : decode cX1_charged 14 = .ok (.iload_n 1, 1) := by decide +kernel
theorem dX1_charged_15 : decode cX1_charged 15 = .ok (.iconst 1, 1) := by decide +kernel
theorem dX1_charged_16 : decode cX1_charged 16 = .ok (.if_icmp .lt 9, 3) := by decide +kernel
theorem dX1_charged_19 : decode cX1_charged 19 = .ok (.iload_n 3, 1) := by decide +kernel
theorem dX1_charged_20 : decode cX1_charged 20 = .ok (.iconst 3, 1) := by decide +kernel
theorem dX1_charged_21 : decode cX1_charged 21 = .ok (.iadd, 1) := by decide +kernel
theorem dX1_charged_22 : decode cX1_charged 22 = .ok (.goto 4, 3) := by decide +kernel
theorem dX1_charged_25 : decode cX1_charged 25 = .ok (.iload_n 3, 1) := by decide +kernel
theorem dX1_charged_26 : decode cX1_charged 26 = .ok (.istore 5, 2) := by decide +kernel
theorem dX1_charged_28 : decode cX1_charged 28 = .ok (.iload_n 0, 1) := by decide +kernel
theorem dX1_charged_29 : decode cX1_charged 29 = .ok (.tableswitch 71 1 5 #[35, 38, 51, 54, 62], 35) := by decide +kernel
theorem dX1_charged_64 : decode cX1_charged 64 = .ok (.iload 4, 2) := by decide +kernel
theorem dX1_charged_66 : decode cX1_charged 66 = .ok (.ireturn, 1) := by decide +kernel
theorem dX1_charged_67 : decode cX1_charged 67 = .ok (.iload_n 2, 1) := by decide +kernel
theorem dX1_charged_68 : decode cX1_charged 68 = .ok (.bipush 7, 2) := by decide +kernel
theorem dX1_charged_70 : decode cX1_charged 70 = .ok (.irem, 1) := by decide +kernel
theorem dX1_charged_71 : decode cX1_charged 71 = .ok (.ifCond .ne 7, 3) := by decide +kernel
theorem dX1_charged_74 : decode cX1_charged 74 = .ok (.iconst 0, 1) := by decide +kernel
theorem dX1_charged_75 : decode cX1_charged 75 = .ok (.goto 4, 3) := by decide +kernel
theorem dX1_charged_78 : decode cX1_charged 78 = .ok (.iload_n 3, 1) := by decide +kernel
theorem dX1_charged_79 : decode cX1_charged 79 = .ok (.ireturn, 1) := by decide +kernel
theorem dX1_charged_80 : decode cX1_charged 80 = .ok (.iload 5, 2) := by decide +kernel
theorem dX1_charged_82 : decode cX1_charged 82 = .ok (.ireturn, 1) := by decide +kernel
theorem dX1_charged_83 : decode cX1_charged 83 = .ok (.iload 4, 2) := by decide +kernel
theorem dX1_charged_85 : decode cX1_charged 85 = .ok (.bipush 25, 2) := by decide +kernel
theorem dX1_charged_87 : decode cX1_charged 87 = .ok (.invokestatic 15, 3) := by decide +kernel
theorem dX1_charged_90 : decode cX1_charged 90 = .ok (.ireturn, 1) := by decide +kernel
theorem dX1_charged_91 : decode cX1_charged 91 = .ok (.iload 5, 2) := by decide +kernel
theorem dX1_charged_93 : decode cX1_charged 93 = .ok (.iconst 4, 1) := by decide +kernel
theorem dX1_charged_94 : decode cX1_charged 94 = .ok (.iadd, 1) := by decide +kernel
theorem dX1_charged_95 : decode cX1_charged 95 = .ok (.iconst 5, 1) := by decide +kernel
theorem dX1_charged_96 : decode cX1_charged 96 = .ok (.idiv, 1) := by decide +kernel
theorem dX1_charged_97 : decode cX1_charged 97 = .ok (.iconst 5, 1) := by decide +kernel
theorem dX1_charged_98 : decode cX1_charged 98 = .ok (.imul, 1) := by decide +kernel
theorem dX1_charged_99 : decode cX1_charged 99 = .ok (.ireturn, 1) := by decide +kernel
theorem dX1_charged_100 : decode cX1_charged 100 = .ok (.iload_n 3, 1) := by decide +kernel
theorem dX1_charged_101 : decode cX1_charged 101 = .ok (.ireturn, 1) := by decide +kernel
theorem dX1_brought_0 : decode cX1_brought 0 = .ok (.iload_n 0, 1) := by decide +kernel
theorem dX1_brought_1 : decode cX1_brought 1 = .ok (.iload_n 1, 1) := by decide +kernel
theorem dX1_brought_2 : decode cX1_brought 2 = .ok (.if_icmp .lt 11, 3) := by decide +kernel
theorem dX1_brought_5 : decode cX1_brought 5 = .ok (.iload_n 0, 1) := by decide +kernel
theorem dX1_brought_6 : decode cX1_brought 6 = .ok (.iconst 1, 1) := by decide +kernel
theorem dX1_brought_7 : decode cX1_brought 7 = .ok (.iadd, 1) := by decide +kernel
theorem dX1_brought_8 : decode cX1_brought 8 = .ok (.iload_n 1, 1) := by decide +kernel
theorem dX1_brought_9 : decode cX1_brought 9 = .ok (.isub, 1) := by decide +kernel
theorem dX1_brought_10 : decode cX1_brought 10 = .ok (.goto 4, 3) := by decide +kernel
theorem dX1_brought_13 : decode cX1_brought 13 = .ok (.iconst 0, 1) := by decide +kernel
theorem dX1_brought_14 : decode cX1_brought 14 = .ok (.ireturn, 1) := by decide +kernel
theorem dX2_init_0 : decode cX2_init 0 = .ok (.aload_n 0, 1) := by decide +kernel
theorem dX2_init_1 : decode cX2_init 1 = .ok (.invokespecial 3, 3) := by decide +kernel
theorem dX2_init_4 : decode cX2_init 4 = .ok (.aload_n 0, 1) := by decide +kernel
theorem dX2_init_5 : decode cX2_init 5 = .ok (.bipush 20, 2) := by decide +kernel
theorem dX2_init_7 : decode cX2_init 7 = .ok (.putfield 9, 3) := by decide +kernel
theorem dX2_init_10 : decode cX2_init 10 = .ok (.aload_n 0, 1) := by decide +kernel
theorem dX2_init_11 : decode cX2_init 11 = .ok (.bipush 100, 2) := by decide +kernel
theorem dX2_init_13 : decode cX2_init 13 = .ok (.putfield 15, 3) := by decide +kernel
theorem dX2_init_16 : decode cX2_init 16 = .ok (.aload_n 0, 1) := by decide +kernel
theorem dX2_init_17 : decode cX2_init 17 = .ok (.new 18, 3) := by decide +kernel
theorem dX2_init_20 : decode cX2_init 20 = .ok (.dup, 1) := by decide +kernel
theorem dX2_init_21 : decode cX2_init 21 = .ok (.iconst 5, 1) := by decide +kernel
theorem dX2_init_22 : decode cX2_init 22 = .ok (.invokespecial 20, 3) := by decide +kernel
theorem dX2_init_25 : decode cX2_init 25 = .ok (.putfield 23, 3) := by decide +kernel
theorem dX2_init_28 : decode cX2_init 28 = .ok (.aload_n 0, 1) := by decide +kernel
theorem dX2_init_29 : decode cX2_init 29 = .ok (.new 18, 3) := by decide +kernel
theorem dX2_init_32 : decode cX2_init 32 = .ok (.dup, 1) := by decide +kernel
theorem dX2_init_33 : decode cX2_init 33 = .ok (.bipush 6, 2) := by decide +kernel
theorem dX2_init_35 : decode cX2_init 35 = .ok (.invokespecial 20, 3) := by decide +kernel
theorem dX2_init_38 : decode cX2_init 38 = .ok (.putfield 27, 3) := by decide +kernel
theorem dX2_init_41 : decode cX2_init 41 = .ok (.aload_n 0, 1) := by decide +kernel
theorem dX2_init_42 : decode cX2_init 42 = .ok (.new 18, 3) := by decide +kernel
theorem dX2_init_45 : decode cX2_init 45 = .ok (.dup, 1) := by decide +kernel
theorem dX2_init_46 : decode cX2_init 46 = .ok (.bipush 6, 2) := by decide +kernel
theorem dX2_init_48 : decode cX2_init 48 = .ok (.invokespecial 20, 3) := by decide +kernel
theorem dX2_init_51 : decode cX2_init 51 = .ok (.putfield 30, 3) := by decide +kernel
theorem dX2_init_54 : decode cX2_init 54 = .ok (.aload_n 0, 1) := by decide +kernel
theorem dX2_init_55 : decode cX2_init 55 = .ok (.new 18, 3) := by decide +kernel
theorem dX2_init_58 : decode cX2_init 58 = .ok (.dup, 1) := by decide +kernel
theorem dX2_init_59 : decode cX2_init 59 = .ok (.bipush 6, 2) := by decide +kernel
theorem dX2_init_61 : decode cX2_init 61 = .ok (.invokespecial 20, 3) := by decide +kernel
theorem dX2_init_64 : decode cX2_init 64 = .ok (.putfield 33, 3) := by decide +kernel
theorem dX2_init_67 : decode cX2_init 67 = .ok (.aload_n 0, 1) := by decide +kernel
theorem dX2_init_68 : decode cX2_init 68 = .ok (.new 18, 3) := by decide +kernel
theorem dX2_init_71 : decode cX2_init 71 = .ok (.dup, 1) := by decide +kernel
theorem dX2_init_72 : decode cX2_init 72 = .ok (.bipush 8, 2) := by decide +kernel
theorem dX2_init_74 : decode cX2_init 74 = .ok (.invokespecial 20, 3) := by decide +kernel
theorem dX2_init_77 : decode cX2_init 77 = .ok (.putfield 36, 3) := by decide +kernel
theorem dX2_init_80 : decode cX2_init 80 = .ok (.return_, 1) := by decide +kernel
theorem dX2_start_0 : decode cX2_start 0 = .ok (.aload_n 0, 1) := by decide +kernel
theorem dX2_start_1 : decode cX2_start 1 = .ok (.iload_n 1, 1) := by decide +kernel
theorem dX2_start_2 : decode cX2_start 2 = .ok (.putfield 9, 3) := by decide +kernel
theorem dX2_start_5 : decode cX2_start 5 = .ok (.aload_n 0, 1) := by decide +kernel
theorem dX2_start_6 : decode cX2_start 6 = .ok (.iload_n 2, 1) := by decide +kernel
theorem dX2_start_7 : decode cX2_start 7 = .ok (.putfield 15, 3) := by decide +kernel
theorem dX2_start_10 : decode cX2_start 10 = .ok (.aload_n 0, 1) := by decide +kernel
theorem dX2_start_11 : decode cX2_start 11 = .ok (.iconst 0, 1) := by decide +kernel
theorem dX2_start_12 : decode cX2_start 12 = .ok (.putfield 39, 3) := by decide +kernel
theorem dX2_start_15 : decode cX2_start 15 = .ok (.aload_n 0, 1) := by decide +kernel
theorem dX2_start_16 : decode cX2_start 16 = .ok (.iconst 0, 1) := by decide +kernel
theorem dX2_start_17 : decode cX2_start 17 = .ok (.putfield 42, 3) := by decide +kernel
theorem dX2_start_20 : decode cX2_start 20 = .ok (.aload_n 0, 1) := by decide +kernel
theorem dX2_start_21 : decode cX2_start 21 = .ok (.iconst 0, 1) := by decide +kernel
theorem dX2_start_22 : decode cX2_start 22 = .ok (.putfield 45, 3) := by decide +kernel
theorem dX2_start_25 : decode cX2_start 25 = .ok (.aload_n 0, 1) := by decide +kernel
theorem dX2_start_26 : decode cX2_start 26 = .ok (.iconst 0, 1) := by decide +kernel
theorem dX2_start_27 : decode cX2_start 27 = .ok (.putfield 48, 3) := by decide +kernel
theorem dX2_start_30 : decode cX2_start 30 = .ok (.aload_n 0, 1) := by decide +kernel
theorem dX2_start_31 : decode cX2_start 31 = .ok (.iconst 0, 1) := by decide +kernel
theorem dX2_start_32 : decode cX2_start 32 = .ok (.putfield 51, 3) := by decide +kernel
theorem dX2_start_35 : decode cX2_start 35 = .ok (.aload_n 0, 1) := by decide +kernel
theorem dX2_start_36 : decode cX2_start 36 = .ok (.getfield 23, 3) := by decide +kernel
theorem dX2_start_39 : decode cX2_start 39 = .ok (.invokevirtual 54, 3) := by decide +kernel
theorem dX2_start_42 : decode cX2_start 42 = .ok (.aload_n 0, 1) := by decide +kernel
theorem dX2_start_43 : decode cX2_start 43 = .ok (.getfield 27, 3) := by decide +kernel
theorem dX2_start_46 : decode cX2_start 46 = .ok (.invokevirtual 54, 3) := by decide +kernel
theorem dX2_start_49 : decode cX2_start 49 = .ok (.aload_n 0, 1) := by decide +kernel
theorem dX2_start_50 : decode cX2_start 50 = .ok (.getfield 30, 3) := by decide +kernel
theorem dX2_start_53 : decode cX2_start 53 = .ok (.invokevirtual 54, 3) := by decide +kernel
theorem dX2_start_56 : decode cX2_start 56 = .ok (.aload_n 0, 1) := by decide +kernel
theorem dX2_start_57 : decode cX2_start 57 = .ok (.getfield 33, 3) := by decide +kernel
theorem dX2_start_60 : decode cX2_start 60 = .ok (.invokevirtual 54, 3) := by decide +kernel
theorem dX2_start_63 : decode cX2_start 63 = .ok (.aload_n 0, 1) := by decide +kernel
theorem dX2_start_64 : decode cX2_start 64 = .ok (.getfield 36, 3) := by decide +kernel
theorem dX2_start_67 : decode cX2_start 67 = .ok (.invokevirtual 54, 3) := by decide +kernel
theorem dX2_start_70 : decode cX2_start 70 = .ok (.return_, 1) := by decide +kernel
theorem dX2_copyFrom_0 : decode cX2_copyFrom 0 = .ok (.aload_n 0, 1) := by decide +kernel
theorem dX2_copyFrom_1 : decode cX2_copyFrom 1 = .ok (.aload_n 1, 1) := by decide +kernel
theorem dX2_copyFrom_2 : decode cX2_copyFrom 2 = .ok (.getfield 9, 3) := by decide +kernel
theorem dX2_copyFrom_5 : decode cX2_copyFrom 5 = .ok (.putfield 9, 3) := by decide +kernel
theorem dX2_copyFrom_8 : decode cX2_copyFrom 8 = .ok (.aload_n 0, 1) := by decide +kernel
theorem dX2_copyFrom_9 : decode cX2_copyFrom 9 = .ok (.aload_n 1, 1) := by decide +kernel
theorem dX2_copyFrom_10 : decode cX2_copyFrom 10 = .ok (.getfield 39, 3) := by decide +kernel
theorem dX2_copyFrom_13 : decode cX2_copyFrom 13 = .ok (.putfield 39, 3) := by decide +kernel
theorem dX2_copyFrom_16 : decode cX2_copyFrom 16 = .ok (.aload_n 0, 1) := by decide +kernel
theorem dX2_copyFrom_17 : decode cX2_copyFrom 17 = .ok (.aload_n 1, 1) := by decide +kernel
theorem dX2_copyFrom_18 : decode cX2_copyFrom 18 = .ok (.getfield 42, 3) := by decide +kernel
theorem dX2_copyFrom_21 : decode cX2_copyFrom 21 = .ok (.putfield 42, 3) := by decide +kernel
theorem dX2_copyFrom_24 : decode cX2_copyFrom 24 = .ok (.aload_n 0, 1) := by decide +kernel
theorem dX2_copyFrom_25 : decode cX2_copyFrom 25 = .ok (.aload_n 1, 1) := by decide +kernel
theorem dX2_copyFrom_26 : decode cX2_copyFrom 26 = .ok (.getfield 15, 3) := by decide +kernel
theorem dX2_copyFrom_29 : decode cX2_copyFrom 29 = .ok (.putfield 15, 3) := by decide +kernel
theorem dX2_copyFrom_32 : decode cX2_copyFrom 32 = .ok (.aload_n 0, 1) := by decide +kernel
theorem dX2_copyFrom_33 : decode cX2_copyFrom 33 = .ok (.aload_n 1, 1) := by decide +kernel
theorem dX2_copyFrom_34 : decode cX2_copyFrom 34 = .ok (.getfield 45, 3) := by decide +kernel
theorem dX2_copyFrom_37 : decode cX2_copyFrom 37 = .ok (.putfield 45, 3) := by decide +kernel
theorem dX2_copyFrom_40 : decode cX2_copyFrom 40 = .ok (.aload_n 0, 1) := by decide +kernel
theorem dX2_copyFrom_41 : decode cX2_copyFrom 41 = .ok (.aload_n 1, 1) := by decide +kernel
theorem dX2_copyFrom_42 : decode cX2_copyFrom 42 = .ok (.getfield 48, 3) := by decide +kernel
theorem dX2_copyFrom_45 : decode cX2_copyFrom 45 = .ok (.putfield 48, 3) := by decide +kernel
theorem dX2_copyFrom_48 : decode cX2_copyFrom 48 = .ok (.aload_n 0, 1) := by decide +kernel
theorem dX2_copyFrom_49 : decode cX2_copyFrom 49 = .ok (.aload_n 1, 1) := by decide +kernel
theorem dX2_copyFrom_50 : decode cX2_copyFrom 50 = .ok (.getfield 51, 3) := by decide +kernel
theorem dX2_copyFrom_53 : decode cX2_copyFrom 53 = .ok (.putfield 51, 3) := by decide +kernel
theorem dX2_copyFrom_56 : decode cX2_copyFrom 56 = .ok (.aload_n 0, 1) := by decide +kernel
theorem dX2_copyFrom_57 : decode cX2_copyFrom 57 = .ok (.getfield 23, 3) := by decide +kernel
theorem dX2_copyFrom_60 : decode cX2_copyFrom 60 = .ok (.aload_n 1, 1) := by decide +kernel
theorem dX2_copyFrom_61 : decode cX2_copyFrom 61 = .ok (.getfield 23, 3) := by decide +kernel
theorem dX2_copyFrom_64 : decode cX2_copyFrom 64 = .ok (.invokevirtual 57, 3) := by decide +kernel
theorem dX2_copyFrom_67 : decode cX2_copyFrom 67 = .ok (.aload_n 0, 1) := by decide +kernel
theorem dX2_copyFrom_68 : decode cX2_copyFrom 68 = .ok (.getfield 27, 3) := by decide +kernel
theorem dX2_copyFrom_71 : decode cX2_copyFrom 71 = .ok (.aload_n 1, 1) := by decide +kernel
theorem dX2_copyFrom_72 : decode cX2_copyFrom 72 = .ok (.getfield 27, 3) := by decide +kernel
theorem dX2_copyFrom_75 : decode cX2_copyFrom 75 = .ok (.invokevirtual 57, 3) := by decide +kernel
theorem dX2_copyFrom_78 : decode cX2_copyFrom 78 = .ok (.aload_n 0, 1) := by decide +kernel
theorem dX2_copyFrom_79 : decode cX2_copyFrom 79 = .ok (.getfield 30, 3) := by decide +kernel
theorem dX2_copyFrom_82 : decode cX2_copyFrom 82 = .ok (.aload_n 1, 1) := by decide +kernel
theorem dX2_copyFrom_83 : decode cX2_copyFrom 83 = .ok (.getfield 30, 3) := by decide +kernel
theorem dX2_copyFrom_86 : decode cX2_copyFrom 86 = .ok (.invokevirtual 57, 3) := by decide +kernel
theorem dX2_copyFrom_89 : decode cX2_copyFrom 89 = .ok (.aload_n 0, 1) := by decide +kernel
theorem dX2_copyFrom_90 : decode cX2_copyFrom 90 = .ok (.getfield 33, 3) := by decide +kernel
theorem dX2_copyFrom_93 : decode cX2_copyFrom 93 = .ok (.aload_n 1, 1) := by decide +kernel
theorem dX2_copyFrom_94 : decode cX2_copyFrom 94 = .ok (.getfield 33, 3) := by decide +kernel
theorem dX2_copyFrom_97 : decode cX2_copyFrom 97 = .ok (.invokevirtual 57, 3) := by decide +kernel
theorem dX2_copyFrom_100 : decode cX2_copyFrom 100 = .ok (.aload_n 0, 1) := by decide +kernel
theorem dX2_copyFrom_101 : decode cX2_copyFrom 101 = .ok (.getfield 36, 3) := by decide +kernel
theorem dX2_copyFrom_104 : decode cX2_copyFrom 104 = .ok (.aload_n 1, 1) := by decide +kernel
theorem dX2_copyFrom_105 : decode cX2_copyFrom 105 = .ok (.getfield 36, 3) := by decide +kernel
theorem dX2_copyFrom_108 : decode cX2_copyFrom 108 = .ok (.invokevirtual 57, 3) := by decide +kernel
theorem dX2_copyFrom_111 : decode cX2_copyFrom 111 = .ok (.return_, 1) := by decide +kernel
theorem dX2_figure_0 : decode cX2_figure 0 = .ok (.iload_n 1, 1) := by decide +kernel
theorem dX2_figure_1 : decode cX2_figure 1 = .ok (.tableswitch 69 0 5 #[39, 44, 49, 54, 59, 64], 39) := by decide +kernel
theorem dX2_figure_40 : decode cX2_figure 40 = .ok (.aload_n 0, 1) := by decide +kernel
theorem dX2_figure_41 : decode cX2_figure 41 = .ok (.getfield 9, 3) := by decide +kernel
theorem dX2_figure_44 : decode cX2_figure 44 = .ok (.ireturn, 1) := by decide +kernel
theorem dX2_figure_45 : decode cX2_figure 45 = .ok (.aload_n 0, 1) := by decide +kernel
theorem dX2_figure_46 : decode cX2_figure 46 = .ok (.getfield 39, 3) := by decide +kernel
theorem dX2_figure_49 : decode cX2_figure 49 = .ok (.ireturn, 1) := by decide +kernel
theorem dX2_figure_50 : decode cX2_figure 50 = .ok (.aload_n 0, 1) := by decide +kernel
theorem dX2_figure_51 : decode cX2_figure 51 = .ok (.getfield 42, 3) := by decide +kernel
theorem dX2_figure_54 : decode cX2_figure 54 = .ok (.ireturn, 1) := by decide +kernel
theorem dX2_figure_55 : decode cX2_figure 55 = .ok (.aload_n 0, 1) := by decide +kernel
theorem dX2_figure_56 : decode cX2_figure 56 = .ok (.getfield 15, 3) := by decide +kernel
theorem dX2_figure_59 : decode cX2_figure 59 = .ok (.ireturn, 1) := by decide +kernel
theorem dX2_figure_60 : decode cX2_figure 60 = .ok (.aload_n 0, 1) := by decide +kernel
theorem dX2_figure_61 : decode cX2_figure 61 = .ok (.getfield 45, 3) := by decide +kernel
theorem dX2_figure_64 : decode cX2_figure 64 = .ok (.ireturn, 1) := by decide +kernel
theorem dX2_figure_65 : decode cX2_figure 65 = .ok (.aload_n 0, 1) := by decide +kernel
theorem dX2_figure_66 : decode cX2_figure 66 = .ok (.getfield 48, 3) := by decide +kernel
theorem dX2_figure_69 : decode cX2_figure 69 = .ok (.ireturn, 1) := by decide +kernel
theorem dX2_figure_70 : decode cX2_figure 70 = .ok (.aload_n 0, 1) := by decide +kernel
theorem dX2_figure_71 : decode cX2_figure 71 = .ok (.getfield 51, 3) := by decide +kernel
theorem dX2_figure_74 : decode cX2_figure 74 = .ok (.ireturn, 1) := by decide +kernel
theorem dX2_houseKind_0 : decode cX2_houseKind 0 = .ok (.iload_n 1, 1) := by decide +kernel
theorem dX2_houseKind_1 : decode cX2_houseKind 1 = .ok (.ifCond .ne 10, 3) := by decide +kernel
theorem dX2_houseKind_4 : decode cX2_houseKind 4 = .ok (.aload_n 0, 1) := by decide +kernel
theorem dX2_houseKind_5 : decode cX2_houseKind 5 = .ok (.getfield 39, 3) := by decide +kernel
theorem dX2_houseKind_8 : decode cX2_houseKind 8 = .ok (.goto 7, 3) := by decide +kernel
theorem dX2_houseKind_11 : decode cX2_houseKind 11 = .ok (.aload_n 0, 1) := by decide +kernel
theorem dX2_houseKind_12 : decode cX2_houseKind 12 = .ok (.getfield 42, 3) := by decide +kernel
theorem dX2_houseKind_15 : decode cX2_houseKind 15 = .ok (.ireturn, 1) := by decide +kernel
theorem dX2_setHouse_0 : decode cX2_setHouse 0 = .ok (.iload_n 1, 1) := by decide +kernel
theorem dX2_setHouse_1 : decode cX2_setHouse 1 = .ok (.ifCond .ne 11, 3) := by decide +kernel
theorem dX2_setHouse_4 : decode cX2_setHouse 4 = .ok (.aload_n 0, 1) := by decide +kernel
theorem dX2_setHouse_5 : decode cX2_setHouse 5 = .ok (.iload_n 2, 1) := by decide +kernel
theorem dX2_setHouse_6 : decode cX2_setHouse 6 = .ok (.putfield 39, 3) := by decide +kernel
theorem dX2_setHouse_9 : decode cX2_setHouse 9 = .ok (.goto 8, 3) := by decide +kernel
theorem dX2_setHouse_12 : decode cX2_setHouse 12 = .ok (.aload_n 0, 1) := by decide +kernel
theorem dX2_setHouse_13 : decode cX2_setHouse 13 = .ok (.iload_n 2, 1) := by decide +kernel
theorem dX2_setHouse_14 : decode cX2_setHouse 14 = .ok (.putfield 42, 3) := by decide +kernel
theorem dX2_setHouse_17 : decode cX2_setHouse 17 = .ok (.return_, 1) := by decide +kernel
theorem dX2_has_0 : decode cX2_has 0 = .ok (.iload_n 1, 1) := by decide +kernel
theorem dX2_has_1 : decode cX2_has 1 = .ok (.iconst 0, 1) := by decide +kernel
theorem dX2_has_2 : decode cX2_has 2 = .ok (.aload_n 0, 1) := by decide +kernel
theorem dX2_has_3 : decode cX2_has 3 = .ok (.getfield 23, 3) := by decide +kernel
theorem dX2_has_6 : decode cX2_has 6 = .ok (.getfield 61, 3) := by decide +kernel
theorem dX2_has_9 : decode cX2_has 9 = .ok (.iconst 1, 1) := by decide +kernel
theorem dX2_has_10 : decode cX2_has 10 = .ok (.isub, 1) := by decide +kernel
theorem dX2_has_11 : decode cX2_has 11 = .ok (.invokestatic 64, 3) := by decide +kernel
theorem dX2_has_14 : decode cX2_has 14 = .ok (.ireturn, 1) := by decide +kernel
theorem dX2_kindOf_0 : decode cX2_kindOf 0 = .ok (.aload_n 0, 1) := by decide +kernel
theorem dX2_kindOf_1 : decode cX2_kindOf 1 = .ok (.getfield 23, 3) := by decide +kernel
theorem dX2_kindOf_4 : decode cX2_kindOf 4 = .ok (.iload_n 1, 1) := by decide +kernel
theorem dX2_kindOf_5 : decode cX2_kindOf 5 = .ok (.iconst 0, 1) := by decide +kernel
theorem dX2_kindOf_6 : decode cX2_kindOf 6 = .ok (.invokevirtual 68, 3) := by decide +kernel
theorem dX2_kindOf_9 : decode cX2_kindOf 9 = .ok (.ireturn, 1) := by decide +kernel
theorem dX2_lengthOf_0 : decode cX2_lengthOf 0 = .ok (.aload_n 0, 1) := by decide +kernel
theorem dX2_lengthOf_1 : decode cX2_lengthOf 1 = .ok (.getfield 23, 3) := by decide +kernel
theorem dX2_lengthOf_4 : decode cX2_lengthOf 4 = .ok (.iload_n 1, 1) := by decide +kernel
theorem dX2_lengthOf_5 : decode cX2_lengthOf 5 = .ok (.iconst 1, 1) := by decide +kernel
theorem dX2_lengthOf_6 : decode cX2_lengthOf 6 = .ok (.invokevirtual 68, 3) := by decide +kernel
theorem dX2_lengthOf_9 : decode cX2_lengthOf 9 = .ok (.ireturn, 1) := by decide +kernel
theorem dX2_shownIn_0 : decode cX2_shownIn 0 = .ok (.aload_n 0, 1) := by decide +kernel
theorem dX2_shownIn_1 : decode cX2_shownIn 1 = .ok (.iload_n 1, 1) := by decide +kernel
theorem dX2_shownIn_2 : decode cX2_shownIn 2 = .ok (.invokevirtual 72, 3) := by decide +kernel
theorem dX2_shownIn_5 : decode cX2_shownIn 5 = .ok (.aload_n 0, 1) := by decide +kernel
theorem dX2_shownIn_6 : decode cX2_shownIn 6 = .ok (.iload_n 1, 1) := by decide +kernel
theorem dX2_shownIn_7 : decode cX2_shownIn 7 = .ok (.invokevirtual 76, 3) := by decide +kernel
theorem dX2_shownIn_10 : decode cX2_shownIn 10 = .ok (.aload_n 0, 1) := by decide +kernel
theorem dX2_shownIn_11 : decode cX2_shownIn 11 = .ok (.getfield 51, 3) := by decide +kernel
theorem dX2_shownIn_14 : decode cX2_shownIn 14 = .ok (.iload_n 2, 1) := by decide +kernel
theorem dX2_shownIn_15 : decode cX2_shownIn 15 = .ok (.iadd, 1) := by decide +kernel
theorem dX2_shownIn_16 : decode cX2_shownIn 16 = .ok (.invokestatic 79, 3) := by decide +kernel
theorem dX2_shownIn_19 : decode cX2_shownIn 19 = .ok (.ireturn, 1) := by decide +kernel
theorem dX2_costIn_0 : decode cX2_costIn 0 = .ok (.aload_n 0, 1) := by decide +kernel
theorem dX2_costIn_1 : decode cX2_costIn 1 = .ok (.aload_n 0, 1) := by decide +kernel
theorem dX2_costIn_2 : decode cX2_costIn 2 = .ok (.iload_n 1, 1) := by decide +kernel
theorem dX2_costIn_3 : decode cX2_costIn 3 = .ok (.iload_n 2, 1) := by decide +kernel
theorem dX2_costIn_4 : decode cX2_costIn 4 = .ok (.invokevirtual 85, 3) := by decide +kernel
theorem dX2_costIn_7 : decode cX2_costIn 7 = .ok (.aload_n 0, 1) := by decide +kernel
theorem dX2_costIn_8 : decode cX2_costIn 8 = .ok (.getfield 51, 3) := by decide +kernel
theorem dX2_costIn_11 : decode cX2_costIn 11 = .ok (.iload_n 2, 1) := by decide +kernel
theorem dX2_costIn_12 : decode cX2_costIn 12 = .ok (.iadd, 1) := by decide +kernel
theorem dX2_costIn_13 : decode cX2_costIn 13 = .ok (.invokevirtual 88, 3) := by decide +kernel
theorem dX2_costIn_16 : decode cX2_costIn 16 = .ok (.ireturn, 1) := by decide +kernel
theorem dX2_costOfCut_0 : decode cX2_costOfCut 0 = .ok (.aload_n 0, 1) := by decide +kernel
theorem dX2_costOfCut_1 : decode cX2_costOfCut 1 = .ok (.iload_n 1, 1) := by decide +kernel
theorem dX2_costOfCut_2 : decode cX2_costOfCut 2 = .ok (.iload_n 2, 1) := by decide +kernel
theorem dX2_costOfCut_3 : decode cX2_costOfCut 3 = .ok (.aload_n 0, 1) := by decide +kernel
theorem dX2_costOfCut_4 : decode cX2_costOfCut 4 = .ok (.getfield 51, 3) := by decide +kernel
theorem dX2_costOfCut_7 : decode cX2_costOfCut 7 = .ok (.invokestatic 79, 3) := by decide +kernel
theorem dX2_costOfCut_10 : decode cX2_costOfCut 10 = .ok (.aload_n 0, 1) := by decide +kernel
theorem dX2_costOfCut_11 : decode cX2_costOfCut 11 = .ok (.getfield 51, 3) := by decide +kernel
theorem dX2_costOfCut_14 : decode cX2_costOfCut 14 = .ok (.invokevirtual 88, 3) := by decide +kernel
theorem dX2_costOfCut_17 : decode cX2_costOfCut 17 = .ok (.aload_n 0, 1) := by decide +kernel
theorem dX2_costOfCut_18 : decode cX2_costOfCut 18 = .ok (.iload_n 1, 1) := by decide +kernel
theorem dX2_costOfCut_19 : decode cX2_costOfCut 19 = .ok (.iload_n 3, 1) := by decide +kernel
theorem dX2_costOfCut_20 : decode cX2_costOfCut 20 = .ok (.aload_n 0, 1) := by decide +kernel
theorem dX2_costOfCut_21 : decode cX2_costOfCut 21 = .ok (.getfield 51, 3) := by decide +kernel
theorem dX2_costOfCut_24 : decode cX2_costOfCut 24 = .ok (.invokestatic 79, 3) := by decide +kernel
theorem dX2_costOfCut_27 : decode cX2_costOfCut 27 = .ok (.aload_n 0, 1) := by decide +kernel
theorem dX2_costOfCut_28 : decode cX2_costOfCut 28 = .ok (.getfield 51, 3) := by decide +kernel
theorem dX2_costOfCut_31 : decode cX2_costOfCut 31 = .ok (.invokevirtual 88, 3) := by decide +kernel
theorem dX2_costOfCut_34 : decode cX2_costOfCut 34 = .ok (.iadd, 1) := by decide +kernel
theorem dX2_costOfCut_35 : decode cX2_costOfCut 35 = .ok (.ireturn, 1) := by decide +kernel
theorem dX2_bringing_0 : decode cX2_bringing 0 = .ok (.aload_n 0, 1) := by decide +kernel
theorem dX2_bringing_1 : decode cX2_bringing 1 = .ok (.iload_n 1, 1) := by decide +kernel
theorem dX2_bringing_2 : decode cX2_bringing 2 = .ok (.invokevirtual 76, 3) := by decide +kernel
theorem dX2_bringing_5 : decode cX2_bringing 5 = .ok (.aload_n 0, 1) := by decide +kernel
theorem dX2_bringing_6 : decode cX2_bringing 6 = .ok (.getfield 9, 3) := by decide +kernel
theorem dX2_bringing_9 : decode cX2_bringing 9 = .ok (.invokestatic 91, 3) := by decide +kernel
theorem dX2_bringing_12 : decode cX2_bringing 12 = .ok (.ireturn, 1) := by decide +kernel
theorem dX2_sendString_0 : decode cX2_sendString 0 = .ok (.aload_n 0, 1) := by decide +kernel
theorem dX2_sendString_1 : decode cX2_sendString 1 = .ok (.iload_n 1, 1) := by decide +kernel
theorem dX2_sendString_2 : decode cX2_sendString 2 = .ok (.iconst 0, 1) := by decide +kernel
theorem dX2_sendString_3 : decode cX2_sendString 3 = .ok (.invokevirtual 85, 3) := by decide +kernel
theorem dX2_sendString_6 : decode cX2_sendString 6 = .ok (.istore_n 2, 1) := by decide +kernel
theorem dX2_sendString_7 : decode cX2_sendString 7 = .ok (.aload_n 0, 1) := by decide +kernel
theorem dX2_sendString_8 : decode cX2_sendString 8 = .ok (.iload_n 2, 1) := by decide +kernel
theorem dX2_sendString_9 : decode cX2_sendString 9 = .ok (.aload_n 0, 1) := by decide +kernel
theorem dX2_sendString_10 : decode cX2_sendString 10 = .ok (.getfield 51, 3) := by decide +kernel
theorem dX2_sendString_13 : decode cX2_sendString 13 = .ok (.invokevirtual 88, 3) := by decide +kernel
theorem dX2_sendString_16 : decode cX2_sendString 16 = .ok (.istore_n 3, 1) := by decide +kernel
theorem dX2_sendString_17 : decode cX2_sendString 17 = .ok (.iload_n 3, 1) := by decide +kernel
theorem dX2_sendString_18 : decode cX2_sendString 18 = .ok (.aload_n 0, 1) := by decide +kernel
theorem dX2_sendString_19 : decode cX2_sendString 19 = .ok (.getfield 15, 3) := by decide +kernel
theorem dX2_sendString_22 : decode cX2_sendString 22 = .ok (.if_icmp .le 5, 3) := by decide +kernel
theorem dX2_sendString_25 : decode cX2_sendString 25 = .ok (.iconst 0, 1) := by decide +kernel
theorem dX2_sendString_26 : decode cX2_sendString 26 = .ok (.ireturn, 1) := by decide +kernel
theorem dX2_sendString_27 : decode cX2_sendString 27 = .ok (.aload_n 0, 1) := by decide +kernel
theorem dX2_sendString_28 : decode cX2_sendString 28 = .ok (.getfield 42, 3) := by decide +kernel
theorem dX2_sendString_31 : decode cX2_sendString 31 = .ok (.iload_n 2, 1) := by decide +kernel
theorem dX2_sendString_32 : decode cX2_sendString 32 = .ok (.aload_n 0, 1) := by decide +kernel
theorem dX2_sendString_33 : decode cX2_sendString 33 = .ok (.getfield 51, 3) := by decide +kernel
theorem dX2_sendString_36 : decode cX2_sendString 36 = .ok (.bipush 24, 2) := by decide +kernel
theorem dX2_sendString_38 : decode cX2_sendString 38 = .ok (.idiv, 1) := by decide +kernel
theorem dX2_sendString_39 : decode cX2_sendString 39 = .ok (.invokestatic 94, 3) := by decide +kernel
theorem dX2_sendString_42 : decode cX2_sendString 42 = .ok (.ifCond .le 13, 3) := by decide +kernel
theorem dX2_sendString_45 : decode cX2_sendString 45 = .ok (.aload_n 0, 1) := by decide +kernel
theorem dX2_sendString_46 : decode cX2_sendString 46 = .ok (.dup, 1) := by decide +kernel
theorem dX2_sendString_47 : decode cX2_sendString 47 = .ok (.getfield 48, 3) := by decide +kernel
theorem dX2_sendString_50 : decode cX2_sendString 50 = .ok (.iconst 1, 1) := by decide +kernel
theorem dX2_sendString_51 : decode cX2_sendString 51 = .ok (.iadd, 1) := by decide +kernel
theorem dX2_sendString_52 : decode cX2_sendString 52 = .ok (.putfield 48, 3) := by decide +kernel
theorem dX2_sendString_55 : decode cX2_sendString 55 = .ok (.aload_n 0, 1) := by decide +kernel
theorem dX2_sendString_56 : decode cX2_sendString 56 = .ok (.dup, 1) := by decide +kernel
theorem dX2_sendString_57 : decode cX2_sendString 57 = .ok (.getfield 15, 3) := by decide +kernel
theorem dX2_sendString_60 : decode cX2_sendString 60 = .ok (.iload_n 3, 1) := by decide +kernel
theorem dX2_sendString_61 : decode cX2_sendString 61 = .ok (.isub, 1) := by decide +kernel
theorem dX2_sendString_62 : decode cX2_sendString 62 = .ok (.putfield 15, 3) := by decide +kernel
theorem dX2_sendString_65 : decode cX2_sendString 65 = .ok (.aload_n 0, 1) := by decide +kernel
theorem dX2_sendString_66 : decode cX2_sendString 66 = .ok (.dup, 1) := by decide +kernel
theorem dX2_sendString_67 : decode cX2_sendString 67 = .ok (.getfield 45, 3) := by decide +kernel
theorem dX2_sendString_70 : decode cX2_sendString 70 = .ok (.aload_n 0, 1) := by decide +kernel
theorem dX2_sendString_71 : decode cX2_sendString 71 = .ok (.iload_n 1, 1) := by decide +kernel
theorem dX2_sendString_72 : decode cX2_sendString 72 = .ok (.invokevirtual 97, 3) := by decide +kernel
theorem dX2_sendString_75 : decode cX2_sendString 75 = .ok (.iadd, 1) := by decide +kernel
theorem dX2_sendString_76 : decode cX2_sendString 76 = .ok (.putfield 45, 3) := by decide +kernel
theorem dX2_sendString_79 : decode cX2_sendString 79 = .ok (.aload_n 0, 1) := by decide +kernel
theorem dX2_sendString_80 : decode cX2_sendString 80 = .ok (.dup, 1) := by decide +kernel
theorem dX2_sendString_81 : decode cX2_sendString 81 = .ok (.getfield 51, 3) := by decide +kernel
theorem dX2_sendString_84 : decode cX2_sendString 84 = .ok (.iconst 1, 1) := by decide +kernel
theorem dX2_sendString_85 : decode cX2_sendString 85 = .ok (.iadd, 1) := by decide +kernel
theorem dX2_sendString_86 : decode cX2_sendString 86 = .ok (.putfield 51, 3) := by decide +kernel
theorem dX2_sendString_89 : decode cX2_sendString 89 = .ok (.iconst 1, 1) := by decide +kernel
theorem dX2_sendString_90 : decode cX2_sendString 90 = .ok (.ireturn, 1) := by decide +kernel
theorem dX2_waitHours_0 : decode cX2_waitHours 0 = .ok (.aload_n 0, 1) := by decide +kernel
theorem dX2_waitHours_1 : decode cX2_waitHours 1 = .ok (.aload_n 0, 1) := by decide +kernel
theorem dX2_waitHours_2 : decode cX2_waitHours 2 = .ok (.getfield 51, 3) := by decide +kernel
theorem dX2_waitHours_5 : decode cX2_waitHours 5 = .ok (.iload_n 1, 1) := by decide +kernel
theorem dX2_waitHours_6 : decode cX2_waitHours 6 = .ok (.iadd, 1) := by decide +kernel
theorem dX2_waitHours_7 : decode cX2_waitHours 7 = .ok (.sipush 9999, 3) := by decide +kernel
theorem dX2_waitHours_10 : decode cX2_waitHours 10 = .ok (.invokestatic 100, 3) := by decide +kernel
theorem dX2_waitHours_13 : decode cX2_waitHours 13 = .ok (.putfield 51, 3) := by decide +kernel
theorem dX2_waitHours_16 : decode cX2_waitHours 16 = .ok (.return_, 1) := by decide +kernel
theorem dX2_remember_0 : decode cX2_remember 0 = .ok (.aload_n 0, 1) := by decide +kernel
theorem dX2_remember_1 : decode cX2_remember 1 = .ok (.getfield 36, 3) := by decide +kernel
theorem dX2_remember_4 : decode cX2_remember 4 = .ok (.invokevirtual 105, 3) := by decide +kernel
theorem dX2_remember_7 : decode cX2_remember 7 = .ok (.ifCond .eq 10, 3) := by decide +kernel
theorem dX2_remember_10 : decode cX2_remember 10 = .ok (.aload_n 0, 1) := by decide +kernel
theorem dX2_remember_11 : decode cX2_remember 11 = .ok (.getfield 36, 3) := by decide +kernel
theorem dX2_remember_14 : decode cX2_remember 14 = .ok (.invokevirtual 109, 3) := by decide +kernel
theorem dX2_remember_17 : decode cX2_remember 17 = .ok (.aload_n 0, 1) := by decide +kernel
theorem dX2_remember_18 : decode cX2_remember 18 = .ok (.getfield 36, 3) := by decide +kernel
theorem dX2_remember_21 : decode cX2_remember 21 = .ok (.aload_n 0, 1) := by decide +kernel
theorem dX2_remember_22 : decode cX2_remember 22 = .ok (.getfield 15, 3) := by decide +kernel
theorem dX2_remember_25 : decode cX2_remember 25 = .ok (.aload_n 0, 1) := by decide +kernel
theorem dX2_remember_26 : decode cX2_remember 26 = .ok (.getfield 45, 3) := by decide +kernel
theorem dX2_remember_29 : decode cX2_remember 29 = .ok (.aload_n 0, 1) := by decide +kernel
theorem dX2_remember_30 : decode cX2_remember 30 = .ok (.getfield 48, 3) := by decide +kernel
theorem dX2_remember_33 : decode cX2_remember 33 = .ok (.aload_n 0, 1) := by decide +kernel
theorem dX2_remember_34 : decode cX2_remember 34 = .ok (.getfield 51, 3) := by decide +kernel
theorem dX2_remember_37 : decode cX2_remember 37 = .ok (.invokevirtual 112, 3) := by decide +kernel
theorem dX2_remember_40 : decode cX2_remember 40 = .ok (.return_, 1) := by decide +kernel
theorem dX2_stepBack_0 : decode cX2_stepBack 0 = .ok (.aload_n 0, 1) := by decide +kernel
theorem dX2_stepBack_1 : decode cX2_stepBack 1 = .ok (.getfield 36, 3) := by decide +kernel
theorem dX2_stepBack_4 : decode cX2_stepBack 4 = .ok (.getfield 61, 3) := by decide +kernel
theorem dX2_stepBack_7 : decode cX2_stepBack 7 = .ok (.iconst 1, 1) := by decide +kernel
theorem dX2_stepBack_8 : decode cX2_stepBack 8 = .ok (.isub, 1) := by decide +kernel
theorem dX2_stepBack_9 : decode cX2_stepBack 9 = .ok (.istore_n 1, 1) := by decide +kernel
theorem dX2_stepBack_10 : decode cX2_stepBack 10 = .ok (.iload_n 1, 1) := by decide +kernel
theorem dX2_stepBack_11 : decode cX2_stepBack 11 = .ok (.ifCond .ge 5, 3) := by decide +kernel
theorem dX2_stepBack_14 : decode cX2_stepBack 14 = .ok (.iconst 0, 1) := by decide +kernel
theorem dX2_stepBack_15 : decode cX2_stepBack 15 = .ok (.ireturn, 1) := by decide +kernel
theorem dX2_stepBack_16 : decode cX2_stepBack 16 = .ok (.aload_n 0, 1) := by decide +kernel
theorem dX2_stepBack_17 : decode cX2_stepBack 17 = .ok (.aload_n 0, 1) := by decide +kernel
theorem dX2_stepBack_18 : decode cX2_stepBack 18 = .ok (.getfield 36, 3) := by decide +kernel
theorem dX2_stepBack_21 : decode cX2_stepBack 21 = .ok (.iload_n 1, 1) := by decide +kernel
theorem dX2_stepBack_22 : decode cX2_stepBack 22 = .ok (.iconst 0, 1) := by decide +kernel
theorem dX2_stepBack_23 : decode cX2_stepBack 23 = .ok (.invokevirtual 68, 3) := by decide +kernel
theorem dX2_stepBack_26 : decode cX2_stepBack 26 = .ok (.putfield 15, 3) := by decide +kernel
theorem dX2_stepBack_29 : decode cX2_stepBack 29 = .ok (.aload_n 0, 1) := by decide +kernel
theorem dX2_stepBack_30 : decode cX2_stepBack 30 = .ok (.aload_n 0, 1) := by decide +kernel
theorem dX2_stepBack_31 : decode cX2_stepBack 31 = .ok (.getfield 36, 3) := by decide +kernel
theorem dX2_stepBack_34 : decode cX2_stepBack 34 = .ok (.iload_n 1, 1) := by decide +kernel
theorem dX2_stepBack_35 : decode cX2_stepBack 35 = .ok (.iconst 1, 1) := by decide +kernel
theorem dX2_stepBack_36 : decode cX2_stepBack 36 = .ok (.invokevirtual 68, 3) := by decide +kernel
theorem dX2_stepBack_39 : decode cX2_stepBack 39 = .ok (.putfield 45, 3) := by decide +kernel
theorem dX2_stepBack_42 : decode cX2_stepBack 42 = .ok (.aload_n 0, 1) := by decide +kernel
theorem dX2_stepBack_43 : decode cX2_stepBack 43 = .ok (.aload_n 0, 1) := by decide +kernel
theorem dX2_stepBack_44 : decode cX2_stepBack 44 = .ok (.getfield 36, 3) := by decide +kernel
theorem dX2_stepBack_47 : decode cX2_stepBack 47 = .ok (.iload_n 1, 1) := by decide +kernel
theorem dX2_stepBack_48 : decode cX2_stepBack 48 = .ok (.iconst 2, 1) := by decide +kernel
theorem dX2_stepBack_49 : decode cX2_stepBack 49 = .ok (.invokevirtual 68, 3) := by decide +kernel
theorem dX2_stepBack_52 : decode cX2_stepBack 52 = .ok (.putfield 48, 3) := by decide +kernel
theorem dX2_stepBack_55 : decode cX2_stepBack 55 = .ok (.aload_n 0, 1) := by decide +kernel
theorem dX2_stepBack_56 : decode cX2_stepBack 56 = .ok (.aload_n 0, 1) := by decide +kernel
theorem dX2_stepBack_57 : decode cX2_stepBack 57 = .ok (.getfield 36, 3) := by decide +kernel
theorem dX2_stepBack_60 : decode cX2_stepBack 60 = .ok (.iload_n 1, 1) := by decide +kernel
theorem dX2_stepBack_61 : decode cX2_stepBack 61 = .ok (.iconst 3, 1) := by decide +kernel
theorem dX2_stepBack_62 : decode cX2_stepBack 62 = .ok (.invokevirtual 68, 3) := by decide +kernel
theorem dX2_stepBack_65 : decode cX2_stepBack 65 = .ok (.putfield 51, 3) := by decide +kernel
theorem dX2_stepBack_68 : decode cX2_stepBack 68 = .ok (.aload_n 0, 1) := by decide +kernel
theorem dX2_stepBack_69 : decode cX2_stepBack 69 = .ok (.getfield 36, 3) := by decide +kernel
theorem dX2_stepBack_72 : decode cX2_stepBack 72 = .ok (.invokevirtual 116, 3) := by decide +kernel
theorem dX2_stepBack_75 : decode cX2_stepBack 75 = .ok (.iconst 1, 1) := by decide +kernel
theorem dX2_stepBack_76 : decode cX2_stepBack 76 = .ok (.ireturn, 1) := by decide +kernel
theorem dX2_tollOn_0 : decode cX2_tollOn 0 = .ok (.iload_n 2, 1) := by decide +kernel
theorem dX2_tollOn_1 : decode cX2_tollOn 1 = .ok (.bipush 24, 2) := by decide +kernel
theorem dX2_tollOn_3 : decode cX2_tollOn 3 = .ok (.idiv, 1) := by decide +kernel
theorem dX2_tollOn_4 : decode cX2_tollOn 4 = .ok (.istore_n 3, 1) := by decide +kernel
theorem dX2_tollOn_5 : decode cX2_tollOn 5 = .ok (.aload_n 0, 1) := by decide +kernel
theorem dX2_tollOn_6 : decode cX2_tollOn 6 = .ok (.getfield 39, 3) := by decide +kernel
theorem dX2_tollOn_9 : decode cX2_tollOn 9 = .ok (.iload_n 1, 1) := by decide +kernel
theorem dX2_tollOn_10 : decode cX2_tollOn 10 = .ok (.iload_n 3, 1) := by decide +kernel
theorem dX2_tollOn_11 : decode cX2_tollOn 11 = .ok (.invokestatic 94, 3) := by decide +kernel
theorem dX2_tollOn_14 : decode cX2_tollOn 14 = .ok (.aload_n 0, 1) := by decide +kernel
theorem dX2_tollOn_15 : decode cX2_tollOn 15 = .ok (.getfield 42, 3) := by decide +kernel
theorem dX2_tollOn_18 : decode cX2_tollOn 18 = .ok (.iload_n 1, 1) := by decide +kernel
theorem dX2_tollOn_19 : decode cX2_tollOn 19 = .ok (.iload_n 3, 1) := by decide +kernel
theorem dX2_tollOn_20 : decode cX2_tollOn 20 = .ok (.invokestatic 94, 3) := by decide +kernel
theorem dX2_tollOn_23 : decode cX2_tollOn 23 = .ok (.iadd, 1) := by decide +kernel
theorem dX2_tollOn_24 : decode cX2_tollOn 24 = .ok (.ireturn, 1) := by decide +kernel
theorem dX3_init_0 : decode cX3_init 0 = .ok (.aload_n 0, 1) := by decide +kernel
theorem dX3_init_1 : decode cX3_init 1 = .ok (.invokespecial 1, 3) := by decide +kernel
theorem dX3_init_4 : decode cX3_init 4 = .ok (.aload_n 0, 1) := by decide +kernel
theorem dX3_init_5 : decode cX3_init 5 = .ok (.bipush 32, 2) := by decide +kernel
theorem dX3_init_7 : decode cX3_init 7 = .ok (.newarray .int, 2) := by decide +kernel
theorem dX3_init_9 : decode cX3_init 9 = .ok (.putfield 9, 3) := by decide +kernel
theorem dX3_init_12 : decode cX3_init 12 = .ok (.aload_n 0, 1) := by decide +kernel
theorem dX3_init_13 : decode cX3_init 13 = .ok (.iload_n 1, 1) := by decide +kernel
theorem dX3_init_14 : decode cX3_init 14 = .ok (.bipush 8, 2) := by decide +kernel
theorem dX3_init_16 : decode cX3_init 16 = .ok (.invokestatic 13, 3) := by decide +kernel
theorem dX3_init_19 : decode cX3_init 19 = .ok (.putfield 19, 3) := by decide +kernel
theorem dX3_init_22 : decode cX3_init 22 = .ok (.return_, 1) := by decide +kernel
theorem dX3_isFull_0 : decode cX3_isFull 0 = .ok (.aload_n 0, 1) := by decide +kernel
theorem dX3_isFull_1 : decode cX3_isFull 1 = .ok (.getfield 23, 3) := by decide +kernel
theorem dX3_isFull_4 : decode cX3_isFull 4 = .ok (.aload_n 0, 1) := by decide +kernel
theorem dX3_isFull_5 : decode cX3_isFull 5 = .ok (.getfield 19, 3) := by decide +kernel
theorem dX3_isFull_8 : decode cX3_isFull 8 = .ok (.if_icmp .lt 7, 3) := by decide +kernel
theorem dX3_isFull_11 : decode cX3_isFull 11 = .ok (.iconst 1, 1) := by decide +kernel
theorem dX3_isFull_12 : decode cX3_isFull 12 = .ok (.goto 4, 3) := by decide +kernel
theorem dX3_isFull_15 : decode cX3_isFull 15 = .ok (.iconst 0, 1) := by decide +kernel
theorem dX3_isFull_16 : decode cX3_isFull 16 = .ok (.ireturn, 1) := by decide +kernel
theorem dX3_wipe_0 : decode cX3_wipe 0 = .ok (.aload_n 0, 1) := by decide +kernel
theorem dX3_wipe_1 : decode cX3_wipe 1 = .ok (.iconst 0, 1) := by decide +kernel
theorem dX3_wipe_2 : decode cX3_wipe 2 = .ok (.putfield 23, 3) := by decide +kernel
theorem dX3_wipe_5 : decode cX3_wipe 5 = .ok (.return_, 1) := by decide +kernel
theorem dX3_put_0 : decode cX3_put 0 = .ok (.aload_n 0, 1) := by decide +kernel
theorem dX3_put_1 : decode cX3_put 1 = .ok (.invokevirtual 26, 3) := by decide +kernel
theorem dX3_put_4 : decode cX3_put 4 = .ok (.ifCond .eq 4, 3) := by decide +kernel
theorem dX3_put_7 : decode cX3_put 7 = .ok (.return_, 1) := by decide +kernel
theorem dX3_put_8 : decode cX3_put 8 = .ok (.aload_n 0, 1) := by decide +kernel
theorem dX3_put_9 : decode cX3_put 9 = .ok (.getfield 23, 3) := by decide +kernel
theorem dX3_put_12 : decode cX3_put 12 = .ok (.iconst 4, 1) := by decide +kernel
theorem dX3_put_13 : decode cX3_put 13 = .ok (.imul, 1) := by decide +kernel
theorem dX3_put_14 : decode cX3_put 14 = .ok (.istore 5, 2) := by decide +kernel
theorem dX3_put_16 : decode cX3_put 16 = .ok (.aload_n 0, 1) := by decide +kernel
theorem dX3_put_17 : decode cX3_put 17 = .ok (.getfield 9, 3) := by decide +kernel
theorem dX3_put_20 : decode cX3_put 20 = .ok (.iload 5, 2) := by decide +kernel
theorem dX3_put_22 : decode cX3_put 22 = .ok (.iload_n 1, 1) := by decide +kernel
theorem dX3_put_23 : decode cX3_put 23 = .ok (.iastore, 1) := by decide +kernel
theorem dX3_put_24 : decode cX3_put 24 = .ok (.aload_n 0, 1) := by decide +kernel
theorem dX3_put_25 : decode cX3_put 25 = .ok (.getfield 9, 3) := by decide +kernel
theorem dX3_put_28 : decode cX3_put 28 = .ok (.iload 5, 2) := by decide +kernel
theorem dX3_put_30 : decode cX3_put 30 = .ok (.iconst 1, 1) := by decide +kernel
theorem dX3_put_31 : decode cX3_put 31 = .ok (.iadd, 1) := by decide +kernel
theorem dX3_put_32 : decode cX3_put 32 = .ok (.iload_n 2, 1) := by decide +kernel
theorem dX3_put_33 : decode cX3_put 33 = .ok (.iastore, 1) := by decide +kernel
theorem dX3_put_34 : decode cX3_put 34 = .ok (.aload_n 0, 1) := by decide +kernel
theorem dX3_put_35 : decode cX3_put 35 = .ok (.getfield 9, 3) := by decide +kernel
theorem dX3_put_38 : decode cX3_put 38 = .ok (.iload 5, 2) := by decide +kernel
theorem dX3_put_40 : decode cX3_put 40 = .ok (.iconst 2, 1) := by decide +kernel
theorem dX3_put_41 : decode cX3_put 41 = .ok (.iadd, 1) := by decide +kernel
theorem dX3_put_42 : decode cX3_put 42 = .ok (.iload_n 3, 1) := by decide +kernel
theorem dX3_put_43 : decode cX3_put 43 = .ok (.iastore, 1) := by decide +kernel
theorem dX3_put_44 : decode cX3_put 44 = .ok (.aload_n 0, 1) := by decide +kernel
theorem dX3_put_45 : decode cX3_put 45 = .ok (.getfield 9, 3) := by decide +kernel
theorem dX3_put_48 : decode cX3_put 48 = .ok (.iload 5, 2) := by decide +kernel
theorem dX3_put_50 : decode cX3_put 50 = .ok (.iconst 3, 1) := by decide +kernel
theorem dX3_put_51 : decode cX3_put 51 = .ok (.iadd, 1) := by decide +kernel
theorem dX3_put_52 : decode cX3_put 52 = .ok (.iload 4, 2) := by decide +kernel
theorem dX3_put_54 : decode cX3_put 54 = .ok (.iastore, 1) := by decide +kernel
theorem dX3_put_55 : decode cX3_put 55 = .ok (.aload_n 0, 1) := by decide +kernel
theorem dX3_put_56 : decode cX3_put 56 = .ok (.dup, 1) := by decide +kernel
theorem dX3_put_57 : decode cX3_put 57 = .ok (.getfield 23, 3) := by decide +kernel
theorem dX3_put_60 : decode cX3_put 60 = .ok (.iconst 1, 1) := by decide +kernel
theorem dX3_put_61 : decode cX3_put 61 = .ok (.iadd, 1) := by decide +kernel
theorem dX3_put_62 : decode cX3_put 62 = .ok (.putfield 23, 3) := by decide +kernel
theorem dX3_put_65 : decode cX3_put 65 = .ok (.return_, 1) := by decide +kernel
theorem dX3_cell_0 : decode cX3_cell 0 = .ok (.iload_n 1, 1) := by decide +kernel
theorem dX3_cell_1 : decode cX3_cell 1 = .ok (.ifCond .lt 20, 3) := by decide +kernel
theorem dX3_cell_4 : decode cX3_cell 4 = .ok (.iload_n 1, 1) := by decide +kernel
theorem dX3_cell_5 : decode cX3_cell 5 = .ok (.aload_n 0, 1) := by decide +kernel
theorem dX3_cell_6 : decode cX3_cell 6 = .ok (.getfield 23, 3) := by decide +kernel
theorem dX3_cell_9 : decode cX3_cell 9 = .ok (.if_icmp .ge 12, 3) := by decide +kernel
theorem dX3_cell_12 : decode cX3_cell 12 = .ok (.iload_n 2, 1) := by decide +kernel
theorem dX3_cell_13 : decode cX3_cell 13 = .ok (.ifCond .lt 8, 3) := by decide +kernel
theorem dX3_cell_16 : decode cX3_cell 16 = .ok (.iload_n 2, 1) := by decide +kernel
theorem dX3_cell_17 : decode cX3_cell 17 = .ok (.iconst 4, 1) := by decide +kernel
theorem dX3_cell_18 : decode cX3_cell 18 = .ok (.if_icmp .lt 5, 3) := by decide +kernel
theorem dX3_cell_21 : decode cX3_cell 21 = .ok (.iconst 0, 1) := by decide +kernel
theorem dX3_cell_22 : decode cX3_cell 22 = .ok (.ireturn, 1) := by decide +kernel
theorem dX3_cell_23 : decode cX3_cell 23 = .ok (.aload_n 0, 1) := by decide +kernel
theorem dX3_cell_24 : decode cX3_cell 24 = .ok (.getfield 9, 3) := by decide +kernel
theorem dX3_cell_27 : decode cX3_cell 27 = .ok (.iload_n 1, 1) := by decide +kernel
theorem dX3_cell_28 : decode cX3_cell 28 = .ok (.iconst 4, 1) := by decide +kernel
theorem dX3_cell_29 : decode cX3_cell 29 = .ok (.imul, 1) := by decide +kernel
theorem dX3_cell_30 : decode cX3_cell 30 = .ok (.iload_n 2, 1) := by decide +kernel
theorem dX3_cell_31 : decode cX3_cell 31 = .ok (.iadd, 1) := by decide +kernel
theorem dX3_cell_32 : decode cX3_cell 32 = .ok (.iaload, 1) := by decide +kernel
theorem dX3_cell_33 : decode cX3_cell 33 = .ok (.ireturn, 1) := by decide +kernel
theorem dX3_dropFirst_0 : decode cX3_dropFirst 0 = .ok (.aload_n 0, 1) := by decide +kernel
theorem dX3_dropFirst_1 : decode cX3_dropFirst 1 = .ok (.getfield 23, 3) := by decide +kernel
theorem dX3_dropFirst_4 : decode cX3_dropFirst 4 = .ok (.ifCond .ne 4, 3) := by decide +kernel
theorem dX3_dropFirst_7 : decode cX3_dropFirst 7 = .ok (.return_, 1) := by decide +kernel
theorem dX3_dropFirst_8 : decode cX3_dropFirst 8 = .ok (.iconst 4, 1) := by decide +kernel
theorem dX3_dropFirst_9 : decode cX3_dropFirst 9 = .ok (.istore_n 1, 1) := by decide +kernel
theorem dX3_dropFirst_10 : decode cX3_dropFirst 10 = .ok (.iload_n 1, 1) := by decide +kernel
theorem dX3_dropFirst_11 : decode cX3_dropFirst 11 = .ok (.aload_n 0, 1) := by decide +kernel
theorem dX3_dropFirst_12 : decode cX3_dropFirst 12 = .ok (.getfield 23, 3) := by decide +kernel
theorem dX3_dropFirst_15 : decode cX3_dropFirst 15 = .ok (.iconst 4, 1) := by decide +kernel
theorem dX3_dropFirst_16 : decode cX3_dropFirst 16 = .ok (.imul, 1) := by decide +kernel
theorem dX3_dropFirst_17 : decode cX3_dropFirst 17 = .ok (.if_icmp .ge 23, 3) := by decide +kernel
theorem dX3_dropFirst_20 : decode cX3_dropFirst 20 = .ok (.aload_n 0, 1) := by decide +kernel
theorem dX3_dropFirst_21 : decode cX3_dropFirst 21 = .ok (.getfield 9, 3) := by decide +kernel
theorem dX3_dropFirst_24 : decode cX3_dropFirst 24 = .ok (.iload_n 1, 1) := by decide +kernel
theorem dX3_dropFirst_25 : decode cX3_dropFirst 25 = .ok (.iconst 4, 1) := by decide +kernel
theorem dX3_dropFirst_26 : decode cX3_dropFirst 26 = .ok (.isub, 1) := by decide +kernel
theorem dX3_dropFirst_27 : decode cX3_dropFirst 27 = .ok (.aload_n 0, 1) := by decide +kernel
theorem dX3_dropFirst_28 : decode cX3_dropFirst 28 = .ok (.getfield 9, 3) := by decide +kernel
theorem dX3_dropFirst_31 : decode cX3_dropFirst 31 = .ok (.iload_n 1, 1) := by decide +kernel
theorem dX3_dropFirst_32 : decode cX3_dropFirst 32 = .ok (.iaload, 1) := by decide +kernel
theorem dX3_dropFirst_33 : decode cX3_dropFirst 33 = .ok (.iastore, 1) := by decide +kernel
theorem dX3_dropFirst_34 : decode cX3_dropFirst 34 = .ok (.iinc 1 1, 3) := by decide +kernel
theorem dX3_dropFirst_37 : decode cX3_dropFirst 37 = .ok (.goto (-27), 3) := by decide +kernel
theorem dX3_dropFirst_40 : decode cX3_dropFirst 40 = .ok (.aload_n 0, 1) := by decide +kernel
theorem dX3_dropFirst_41 : decode cX3_dropFirst 41 = .ok (.dup, 1) := by decide +kernel
theorem dX3_dropFirst_42 : decode cX3_dropFirst 42 = .ok (.getfield 23, 3) := by decide +kernel
theorem dX3_dropFirst_45 : decode cX3_dropFirst 45 = .ok (.iconst 1, 1) := by decide +kernel
theorem dX3_dropFirst_46 : decode cX3_dropFirst 46 = .ok (.isub, 1) := by decide +kernel
theorem dX3_dropFirst_47 : decode cX3_dropFirst 47 = .ok (.putfield 23, 3) := by decide +kernel
theorem dX3_dropFirst_50 : decode cX3_dropFirst 50 = .ok (.return_, 1) := by decide +kernel
theorem dX3_dropLast_0 : decode cX3_dropLast 0 = .ok (.aload_n 0, 1) := by decide +kernel
theorem dX3_dropLast_1 : decode cX3_dropLast 1 = .ok (.getfield 23, 3) := by decide +kernel
theorem dX3_dropLast_4 : decode cX3_dropLast 4 = .ok (.ifCond .le 13, 3) := by decide +kernel
theorem dX3_dropLast_7 : decode cX3_dropLast 7 = .ok (.aload_n 0, 1) := by decide +kernel
theorem dX3_dropLast_8 : decode cX3_dropLast 8 = .ok (.dup, 1) := by decide +kernel
theorem dX3_dropLast_9 : decode cX3_dropLast 9 = .ok (.getfield 23, 3) := by decide +kernel
theorem dX3_dropLast_12 : decode cX3_dropLast 12 = .ok (.iconst 1, 1) := by decide +kernel
theorem dX3_dropLast_13 : decode cX3_dropLast 13 = .ok (.isub, 1) := by decide +kernel
theorem dX3_dropLast_14 : decode cX3_dropLast 14 = .ok (.putfield 23, 3) := by decide +kernel
theorem dX3_dropLast_17 : decode cX3_dropLast 17 = .ok (.return_, 1) := by decide +kernel
theorem dX3_copyFrom_0 : decode cX3_copyFrom 0 = .ok (.aload_n 1, 1) := by decide +kernel
theorem dX3_copyFrom_1 : decode cX3_copyFrom 1 = .ok (.getfield 9, 3) := by decide +kernel
theorem dX3_copyFrom_4 : decode cX3_copyFrom 4 = .ok (.iconst 0, 1) := by decide +kernel
theorem dX3_copyFrom_5 : decode cX3_copyFrom 5 = .ok (.aload_n 0, 1) := by decide +kernel
theorem dX3_copyFrom_6 : decode cX3_copyFrom 6 = .ok (.getfield 9, 3) := by decide +kernel
theorem dX3_copyFrom_9 : decode cX3_copyFrom 9 = .ok (.iconst 0, 1) := by decide +kernel
theorem dX3_copyFrom_10 : decode cX3_copyFrom 10 = .ok (.bipush 32, 2) := by decide +kernel
theorem dX3_copyFrom_12 : decode cX3_copyFrom 12 = .ok (.invokestatic 30, 3) := by decide +kernel
theorem dX3_copyFrom_15 : decode cX3_copyFrom 15 = .ok (.aload_n 0, 1) := by decide +kernel
theorem dX3_copyFrom_16 : decode cX3_copyFrom 16 = .ok (.aload_n 1, 1) := by decide +kernel
theorem dX3_copyFrom_17 : decode cX3_copyFrom 17 = .ok (.getfield 23, 3) := by decide +kernel
theorem dX3_copyFrom_20 : decode cX3_copyFrom 20 = .ok (.putfield 23, 3) := by decide +kernel
theorem dX3_copyFrom_23 : decode cX3_copyFrom 23 = .ok (.return_, 1) := by decide +kernel
theorem dX3_digestOn_0 : decode cX3_digestOn 0 = .ok (.lload_n 1, 1) := by decide +kernel
theorem dX3_digestOn_1 : decode cX3_digestOn 1 = .ok (.lstore 4, 2) := by decide +kernel
theorem dX3_digestOn_3 : decode cX3_digestOn 3 = .ok (.iconst 0, 1) := by decide +kernel
theorem dX3_digestOn_4 : decode cX3_digestOn 4 = .ok (.istore 6, 2) := by decide +kernel
theorem dX3_digestOn_6 : decode cX3_digestOn 6 = .ok (.iload 6, 2) := by decide +kernel
theorem dX3_digestOn_8 : decode cX3_digestOn 8 = .ok (.aload_n 0, 1) := by decide +kernel
theorem dX3_digestOn_9 : decode cX3_digestOn 9 = .ok (.getfield 23, 3) := by decide +kernel
theorem dX3_digestOn_12 : decode cX3_digestOn 12 = .ok (.if_icmp .ge 42, 3) := by decide +kernel
theorem dX3_digestOn_15 : decode cX3_digestOn 15 = .ok (.iconst 0, 1) := by decide +kernel
theorem dX3_digestOn_16 : decode cX3_digestOn 16 = .ok (.istore 7, 2) := by decide +kernel
theorem dX3_digestOn_18 : decode cX3_digestOn 18 = .ok (.iload 7, 2) := by decide +kernel
theorem dX3_digestOn_20 : decode cX3_digestOn 20 = .ok (.iload_n 3, 1) := by decide +kernel
theorem dX3_digestOn_21 : decode cX3_digestOn 21 = .ok (.if_icmp .ge 27, 3) := by decide +kernel
theorem dX3_digestOn_24 : decode cX3_digestOn 24 = .ok (.ldc2_w 36, 3) := by decide +kernel
theorem dX3_digestOn_27 : decode cX3_digestOn 27 = .ok (.lload 4, 2) := by decide +kernel
theorem dX3_digestOn_29 : decode cX3_digestOn 29 = .ok (.lmul, 1) := by decide +kernel
theorem dX3_digestOn_30 : decode cX3_digestOn 30 = .ok (.aload_n 0, 1) := by decide +kernel
theorem dX3_digestOn_31 : decode cX3_digestOn 31 = .ok (.iload 6, 2) := by decide +kernel
theorem dX3_digestOn_33 : decode cX3_digestOn 33 = .ok (.iload 7, 2) := by decide +kernel
theorem dX3_digestOn_35 : decode cX3_digestOn 35 = .ok (.invokevirtual 38, 3) := by decide +kernel
theorem dX3_digestOn_38 : decode cX3_digestOn 38 = .ok (.i2l, 1) := by decide +kernel
theorem dX3_digestOn_39 : decode cX3_digestOn 39 = .ok (.ladd, 1) := by decide +kernel
theorem dX3_digestOn_40 : decode cX3_digestOn 40 = .ok (.lstore 4, 2) := by decide +kernel
theorem dX3_digestOn_42 : decode cX3_digestOn 42 = .ok (.iinc 7 1, 3) := by decide +kernel
theorem dX3_digestOn_45 : decode cX3_digestOn 45 = .ok (.goto (-27), 3) := by decide +kernel
theorem dX3_digestOn_48 : decode cX3_digestOn 48 = .ok (.iinc 6 1, 3) := by decide +kernel
theorem dX3_digestOn_51 : decode cX3_digestOn 51 = .ok (.goto (-45), 3) := by decide +kernel
theorem dX3_digestOn_54 : decode cX3_digestOn 54 = .ok (.lload 4, 2) := by decide +kernel
theorem dX3_digestOn_56 : decode cX3_digestOn 56 = .ok (.lreturn, 1) := by decide +kernel
theorem dX4_init_0 : decode cX4_init 0 = .ok (.aload_n 0, 1) := by decide +kernel
theorem dX4_init_1 : decode cX4_init 1 = .ok (.invokespecial 3, 3) := by decide +kernel
theorem dX4_init_4 : decode cX4_init 4 = .ok (.aload_n 0, 1) := by decide +kernel
theorem dX4_init_5 : decode cX4_init 5 = .ok (.bipush 25, 2) := by decide +kernel
theorem dX4_init_7 : decode cX4_init 7 = .ok (.newarray .int, 2) := by decide +kernel
theorem dX4_init_9 : decode cX4_init 9 = .ok (.putfield 9, 3) := by decide +kernel
theorem dX4_init_12 : decode cX4_init 12 = .ok (.aload_n 0, 1) := by decide +kernel
theorem dX4_init_13 : decode cX4_init 13 = .ok (.iconst 5, 1) := by decide +kernel
theorem dX4_init_14 : decode cX4_init 14 = .ok (.newarray .int, 2) := by decide +kernel
theorem dX4_init_16 : decode cX4_init 16 = .ok (.putfield 15, 3) := by decide +kernel
theorem dX4_init_19 : decode cX4_init 19 = .ok (.aload_n 0, 1) := by decide +kernel
theorem dX4_init_20 : decode cX4_init 20 = .ok (.iconst 5, 1) := by decide +kernel
theorem dX4_init_21 : decode cX4_init 21 = .ok (.newarray .int, 2) := by decide +kernel
theorem dX4_init_23 : decode cX4_init 23 = .ok (.putfield 18, 3) := by decide +kernel
theorem dX4_init_26 : decode cX4_init 26 = .ok (.return_, 1) := by decide +kernel
theorem dX4_search_0 : decode cX4_search 0 = .ok (.iconst 0, 1) := by decide +kernel
theorem dX4_search_1 : decode cX4_search 1 = .ok (.istore_n 2, 1) := by decide +kernel
theorem dX4_search_2 : decode cX4_search 2 = .ok (.iload_n 2, 1) := by decide +kernel
theorem dX4_search_3 : decode cX4_search 3 = .ok (.iconst 5, 1) := by decide +kernel
theorem dX4_search_4 : decode cX4_search 4 = .ok (.if_icmp .ge 49, 3) := by decide +kernel
theorem dX4_search_7 : decode cX4_search 7 = .ok (.iconst 0, 1) := by decide +kernel
theorem dX4_search_8 : decode cX4_search 8 = .ok (.istore_n 3, 1) := by decide +kernel
theorem dX4_search_9 : decode cX4_search 9 = .ok (.iload_n 3, 1) := by decide +kernel
theorem dX4_search_10 : decode cX4_search 10 = .ok (.aload_n 1, 1) := by decide +kernel
theorem dX4_search_11 : decode cX4_search 11 = .ok (.getfield 21, 3) := by decide +kernel
theorem dX4_search_14 : decode cX4_search 14 = .ok (.getfield 27, 3) := by decide +kernel
theorem dX4_search_17 : decode cX4_search 17 = .ok (.if_icmp .ge 30, 3) := by decide +kernel
theorem dX4_search_20 : decode cX4_search 20 = .ok (.iload_n 3, 1) := by decide +kernel
theorem dX4_search_21 : decode cX4_search 21 = .ok (.iconst 5, 1) := by decide +kernel
theorem dX4_search_22 : decode cX4_search 22 = .ok (.if_icmp .ge 25, 3) := by decide +kernel
theorem dX4_search_25 : decode cX4_search 25 = .ok (.aload_n 0, 1) := by decide +kernel
theorem dX4_search_26 : decode cX4_search 26 = .ok (.getfield 9, 3) := by decide +kernel
theorem dX4_search_29 : decode cX4_search 29 = .ok (.iload_n 2, 1) := by decide +kernel
theorem dX4_search_30 : decode cX4_search 30 = .ok (.iconst 5, 1) := by decide +kernel
theorem dX4_search_31 : decode cX4_search 31 = .ok (.imul, 1) := by decide +kernel
theorem dX4_search_32 : decode cX4_search 32 = .ok (.iload_n 3, 1) := by decide +kernel
theorem dX4_search_33 : decode cX4_search 33 = .ok (.iadd, 1) := by decide +kernel
theorem dX4_search_34 : decode cX4_search 34 = .ok (.aload_n 1, 1) := by decide +kernel
theorem dX4_search_35 : decode cX4_search 35 = .ok (.iload_n 3, 1) := by decide +kernel
theorem dX4_search_36 : decode cX4_search 36 = .ok (.iload_n 2, 1) := by decide +kernel
theorem dX4_search_37 : decode cX4_search 37 = .ok (.invokevirtual 33, 3) := by decide +kernel
theorem dX4_search_40 : decode cX4_search 40 = .ok (.iastore, 1) := by decide +kernel
theorem dX4_search_41 : decode cX4_search 41 = .ok (.iinc 3 1, 3) := by decide +kernel
theorem dX4_search_44 : decode cX4_search 44 = .ok (.goto (-35), 3) := by decide +kernel
theorem dX4_search_47 : decode cX4_search 47 = .ok (.iinc 2 1, 3) := by decide +kernel
theorem dX4_search_50 : decode cX4_search 50 = .ok (.goto (-48), 3) := by decide +kernel
theorem dX4_search_53 : decode cX4_search 53 = .ok (.aload_n 0, 1) := by decide +kernel
theorem dX4_search_54 : decode cX4_search 54 = .ok (.iconst 0, 1) := by decide +kernel
theorem dX4_search_55 : decode cX4_search 55 = .ok (.putfield 37, 3) := by decide +kernel
theorem dX4_search_58 : decode cX4_search 58 = .ok (.aload_n 0, 1) := by decide +kernel
theorem dX4_search_59 : decode cX4_search 59 = .ok (.iconst 0, 1) := by decide +kernel
theorem dX4_search_60 : decode cX4_search 60 = .ok (.putfield 40, 3) := by decide +kernel
theorem dX4_search_63 : decode cX4_search 63 = .ok (.aload_n 0, 1) := by decide +kernel
theorem dX4_search_64 : decode cX4_search 64 = .ok (.aload_n 1, 1) := by decide +kernel
theorem dX4_search_65 : decode cX4_search 65 = .ok (.iconst 0, 1) := by decide +kernel
theorem dX4_search_66 : decode cX4_search 66 = .ok (.aload_n 1, 1) := by decide +kernel
theorem dX4_search_67 : decode cX4_search 67 = .ok (.getfield 43, 3) := by decide +kernel
theorem dX4_search_70 : decode cX4_search 70 = .ok (.iconst 0, 1) := by decide +kernel
theorem dX4_search_71 : decode cX4_search 71 = .ok (.invokestatic 46, 3) := by decide +kernel
theorem dX4_search_74 : decode cX4_search 74 = .ok (.return_, 1) := by decide +kernel
theorem dX4_isSent_0 : decode cX4_isSent 0 = .ok (.iload_n 1, 1) := by decide +kernel
theorem dX4_isSent_1 : decode cX4_isSent 1 = .ok (.iconst 0, 1) := by decide +kernel
theorem dX4_isSent_2 : decode cX4_isSent 2 = .ok (.aload_n 0, 1) := by decide +kernel
theorem dX4_isSent_3 : decode cX4_isSent 3 = .ok (.getfield 37, 3) := by decide +kernel
theorem dX4_isSent_6 : decode cX4_isSent 6 = .ok (.iconst 5, 1) := by decide +kernel
theorem dX4_isSent_7 : decode cX4_isSent 7 = .ok (.invokestatic 50, 3) := by decide +kernel
theorem dX4_isSent_10 : decode cX4_isSent 10 = .ok (.iconst 1, 1) := by decide +kernel
theorem dX4_isSent_11 : decode cX4_isSent 11 = .ok (.isub, 1) := by decide +kernel
theorem dX4_isSent_12 : decode cX4_isSent 12 = .ok (.invokestatic 55, 3) := by decide +kernel
theorem dX4_isSent_15 : decode cX4_isSent 15 = .ok (.ireturn, 1) := by decide +kernel
theorem dX4_sent_0 : decode cX4_sent 0 = .ok (.aload_n 0, 1) := by decide +kernel
theorem dX4_sent_1 : decode cX4_sent 1 = .ok (.iload_n 1, 1) := by decide +kernel
theorem dX4_sent_2 : decode cX4_sent 2 = .ok (.invokevirtual 59, 3) := by decide +kernel
theorem dX4_sent_5 : decode cX4_sent 5 = .ok (.ifCond .eq 12, 3) := by decide +kernel
theorem dX4_sent_8 : decode cX4_sent 8 = .ok (.aload_n 0, 1) := by decide +kernel
theorem dX4_sent_9 : decode cX4_sent 9 = .ok (.getfield 18, 3) := by decide +kernel
theorem dX4_sent_12 : decode cX4_sent 12 = .ok (.iload_n 1, 1) := by decide +kernel
theorem dX4_sent_13 : decode cX4_sent 13 = .ok (.iaload, 1) := by decide +kernel
theorem dX4_sent_14 : decode cX4_sent 14 = .ok (.goto 4, 3) := by decide +kernel
theorem dX4_sent_17 : decode cX4_sent 17 = .ok (.iconst (-1), 1) := by decide +kernel
theorem dX4_sent_18 : decode cX4_sent 18 = .ok (.ireturn, 1) := by decide +kernel
theorem dX4_extend_0 : decode cX4_extend 0 = .ok (.iload 4, 2) := by decide +kernel
theorem dX4_extend_2 : decode cX4_extend 2 = .ok (.aload_n 0, 1) := by decide +kernel
theorem dX4_extend_3 : decode cX4_extend 3 = .ok (.getfield 40, 3) := by decide +kernel
theorem dX4_extend_6 : decode cX4_extend 6 = .ok (.if_icmp .le 10, 3) := by decide +kernel
theorem dX4_extend_9 : decode cX4_extend 9 = .ok (.aload_n 0, 1) := by decide +kernel
theorem dX4_extend_10 : decode cX4_extend 10 = .ok (.iload_n 2, 1) := by decide +kernel
theorem dX4_extend_11 : decode cX4_extend 11 = .ok (.iload 4, 2) := by decide +kernel
theorem dX4_extend_13 : decode cX4_extend 13 = .ok (.invokevirtual 63, 3) := by decide +kernel
theorem dX4_extend_16 : decode cX4_extend 16 = .ok (.iload_n 2, 1) := by decide +kernel
theorem dX4_extend_17 : decode cX4_extend 17 = .ok (.iconst 0, 1) := by decide +kernel
theorem dX4_extend_18 : decode cX4_extend 18 = .ok (.iconst 4, 1) := by decide +kernel
theorem dX4_extend_19 : decode cX4_extend 19 = .ok (.invokestatic 55, 3) := by decide +kernel
theorem dX4_extend_22 : decode cX4_extend 22 = .ok (.ifCond .ne 4, 3) := by decide +kernel
theorem dX4_extend_25 : decode cX4_extend 25 = .ok (.return_, 1) := by decide +kernel
theorem dX4_extend_26 : decode cX4_extend 26 = .ok (.iconst 0, 1) := by decide +kernel
theorem dX4_extend_27 : decode cX4_extend 27 = .ok (.istore 5, 2) := by decide +kernel
theorem dX4_extend_29 : decode cX4_extend 29 = .ok (.iload 5, 2) := by decide +kernel
theorem dX4_extend_31 : decode cX4_extend 31 = .ok (.aload_n 1, 1) := by decide +kernel
theorem dX4_extend_32 : decode cX4_extend 32 = .ok (.getfield 21, 3) := by decide +kernel
theorem dX4_extend_35 : decode cX4_extend 35 = .ok (.getfield 27, 3) := by decide +kernel
theorem dX4_extend_38 : decode cX4_extend 38 = .ok (.if_icmp .ge 73, 3) := by decide +kernel
theorem dX4_extend_41 : decode cX4_extend 41 = .ok (.iload 5, 2) := by decide +kernel
theorem dX4_extend_43 : decode cX4_extend 43 = .ok (.iconst 5, 1) := by decide +kernel
theorem dX4_extend_44 : decode cX4_extend 44 = .ok (.if_icmp .ge 67, 3) := by decide +kernel
theorem dX4_extend_47 : decode cX4_extend 47 = .ok (.aload_n 0, 1) := by decide +kernel
theorem dX4_extend_48 : decode cX4_extend 48 = .ok (.getfield 9, 3) := by decide +kernel
theorem dX4_extend_51 : decode cX4_extend 51 = .ok (.iload_n 2, 1) := by decide +kernel
theorem dX4_extend_52 : decode cX4_extend 52 = .ok (.iconst 5, 1) := by decide +kernel
theorem dX4_extend_53 : decode cX4_extend 53 = .ok (.imul, 1) := by decide +kernel
theorem dX4_extend_54 : decode cX4_extend 54 = .ok (.iload 5, 2) := by decide +kernel
theorem dX4_extend_56 : decode cX4_extend 56 = .ok (.iadd, 1) := by decide +kernel
theorem dX4_extend_57 : decode cX4_extend 57 = .ok (.iaload, 1) := by decide +kernel
theorem dX4_extend_58 : decode cX4_extend 58 = .ok (.istore 6, 2) := by decide +kernel
theorem dX4_extend_60 : decode cX4_extend 60 = .ok (.iload 6, 2) := by decide +kernel
theorem dX4_extend_62 : decode cX4_extend 62 = .ok (.iload_n 3, 1) := by decide +kernel
theorem dX4_extend_63 : decode cX4_extend 63 = .ok (.if_icmp .gt 42, 3) := by decide +kernel
theorem dX4_extend_66 : decode cX4_extend 66 = .ok (.aload_n 0, 1) := by decide +kernel
theorem dX4_extend_67 : decode cX4_extend 67 = .ok (.iload 5, 2) := by decide +kernel
theorem dX4_extend_69 : decode cX4_extend 69 = .ok (.iload_n 2, 1) := by decide +kernel
theorem dX4_extend_70 : decode cX4_extend 70 = .ok (.invokevirtual 67, 3) := by decide +kernel
theorem dX4_extend_73 : decode cX4_extend 73 = .ok (.ifCond .ne 32, 3) := by decide +kernel
theorem dX4_extend_76 : decode cX4_extend 76 = .ok (.aload_n 0, 1) := by decide +kernel
theorem dX4_extend_77 : decode cX4_extend 77 = .ok (.getfield 15, 3) := by decide +kernel
theorem dX4_extend_80 : decode cX4_extend 80 = .ok (.iload_n 2, 1) := by decide +kernel
theorem dX4_extend_81 : decode cX4_extend 81 = .ok (.iload 5, 2) := by decide +kernel
theorem dX4_extend_83 : decode cX4_extend 83 = .ok (.iastore, 1) := by decide +kernel
theorem dX4_extend_84 : decode cX4_extend 84 = .ok (.aload_n 0, 1) := by decide +kernel
theorem dX4_extend_85 : decode cX4_extend 85 = .ok (.aload_n 1, 1) := by decide +kernel
theorem dX4_extend_86 : decode cX4_extend 86 = .ok (.iload_n 2, 1) := by decide +kernel
theorem dX4_extend_87 : decode cX4_extend 87 = .ok (.iconst 1, 1) := by decide +kernel
theorem dX4_extend_88 : decode cX4_extend 88 = .ok (.iadd, 1) := by decide +kernel
theorem dX4_extend_89 : decode cX4_extend 89 = .ok (.iload_n 3, 1) := by decide +kernel
theorem dX4_extend_90 : decode cX4_extend 90 = .ok (.iload 6, 2) := by decide +kernel
theorem dX4_extend_92 : decode cX4_extend 92 = .ok (.isub, 1) := by decide +kernel
theorem dX4_extend_93 : decode cX4_extend 93 = .ok (.iload 4, 2) := by decide +kernel
theorem dX4_extend_95 : decode cX4_extend 95 = .ok (.aload_n 1, 1) := by decide +kernel
theorem dX4_extend_96 : decode cX4_extend 96 = .ok (.iload 5, 2) := by decide +kernel
theorem dX4_extend_98 : decode cX4_extend 98 = .ok (.invokevirtual 71, 3) := by decide +kernel
theorem dX4_extend_101 : decode cX4_extend 101 = .ok (.iadd, 1) := by decide +kernel
theorem dX4_extend_102 : decode cX4_extend 102 = .ok (.invokestatic 46, 3) := by decide +kernel
theorem dX4_extend_105 : decode cX4_extend 105 = .ok (.iinc 5 1, 3) := by decide +kernel
theorem dX4_extend_108 : decode cX4_extend 108 = .ok (.goto (-79), 3) := by decide +kernel
theorem dX4_extend_111 : decode cX4_extend 111 = .ok (.return_, 1) := by decide +kernel
theorem dX4_keepPath_0 : decode cX4_keepPath 0 = .ok (.aload_n 0, 1) := by decide +kernel
theorem dX4_keepPath_1 : decode cX4_keepPath 1 = .ok (.iload_n 2, 1) := by decide +kernel
theorem dX4_keepPath_2 : decode cX4_keepPath 2 = .ok (.putfield 40, 3) := by decide +kernel
theorem dX4_keepPath_5 : decode cX4_keepPath 5 = .ok (.aload_n 0, 1) := by decide +kernel
theorem dX4_keepPath_6 : decode cX4_keepPath 6 = .ok (.iload_n 1, 1) := by decide +kernel
theorem dX4_keepPath_7 : decode cX4_keepPath 7 = .ok (.putfield 37, 3) := by decide +kernel
theorem dX4_keepPath_10 : decode cX4_keepPath 10 = .ok (.iconst 0, 1) := by decide +kernel
theorem dX4_keepPath_11 : decode cX4_keepPath 11 = .ok (.istore_n 3, 1) := by decide +kernel
theorem dX4_keepPath_12 : decode cX4_keepPath 12 = .ok (.iload_n 3, 1) := by decide +kernel
theorem dX4_keepPath_13 : decode cX4_keepPath 13 = .ok (.iload_n 1, 1) := by decide +kernel
theorem dX4_keepPath_14 : decode cX4_keepPath 14 = .ok (.if_icmp .ge 26, 3) := by decide +kernel
theorem dX4_keepPath_17 : decode cX4_keepPath 17 = .ok (.iload_n 3, 1) := by decide +kernel
theorem dX4_keepPath_18 : decode cX4_keepPath 18 = .ok (.iconst 5, 1) := by decide +kernel
theorem dX4_keepPath_19 : decode cX4_keepPath 19 = .ok (.if_icmp .ge 21, 3) := by decide +kernel
theorem dX4_keepPath_22 : decode cX4_keepPath 22 = .ok (.aload_n 0, 1) := by decide +kernel
theorem dX4_keepPath_23 : decode cX4_keepPath 23 = .ok (.getfield 18, 3) := by decide +kernel
theorem dX4_keepPath_26 : decode cX4_keepPath 26 = .ok (.iload_n 3, 1) := by decide +kernel
theorem dX4_keepPath_27 : decode cX4_keepPath 27 = .ok (.aload_n 0, 1) := by decide +kernel
theorem dX4_keepPath_28 : decode cX4_keepPath 28 = .ok (.getfield 15, 3) := by decide +kernel
theorem dX4_keepPath_31 : decode cX4_keepPath 31 = .ok (.iload_n 3, 1) := by decide +kernel
theorem dX4_keepPath_32 : decode cX4_keepPath 32 = .ok (.iaload, 1) := by decide +kernel
theorem dX4_keepPath_33 : decode cX4_keepPath 33 = .ok (.iastore, 1) := by decide +kernel
theorem dX4_keepPath_34 : decode cX4_keepPath 34 = .ok (.iinc 3 1, 3) := by decide +kernel
theorem dX4_keepPath_37 : decode cX4_keepPath 37 = .ok (.goto (-25), 3) := by decide +kernel
theorem dX4_keepPath_40 : decode cX4_keepPath 40 = .ok (.return_, 1) := by decide +kernel
theorem dX4_isOnPath_0 : decode cX4_isOnPath 0 = .ok (.iconst 0, 1) := by decide +kernel
theorem dX4_isOnPath_1 : decode cX4_isOnPath 1 = .ok (.istore_n 3, 1) := by decide +kernel
theorem dX4_isOnPath_2 : decode cX4_isOnPath 2 = .ok (.iload_n 3, 1) := by decide +kernel
theorem dX4_isOnPath_3 : decode cX4_isOnPath 3 = .ok (.iload_n 2, 1) := by decide +kernel
theorem dX4_isOnPath_4 : decode cX4_isOnPath 4 = .ok (.if_icmp .ge 26, 3) := by decide +kernel
theorem dX4_isOnPath_7 : decode cX4_isOnPath 7 = .ok (.iload_n 3, 1) := by decide +kernel
theorem dX4_isOnPath_8 : decode cX4_isOnPath 8 = .ok (.iconst 5, 1) := by decide +kernel
theorem dX4_isOnPath_9 : decode cX4_isOnPath 9 = .ok (.if_icmp .ge 21, 3) := by decide +kernel
theorem dX4_isOnPath_12 : decode cX4_isOnPath 12 = .ok (.aload_n 0, 1) := by decide +kernel
theorem dX4_isOnPath_13 : decode cX4_isOnPath 13 = .ok (.getfield 15, 3) := by decide +kernel
theorem dX4_isOnPath_16 : decode cX4_isOnPath 16 = .ok (.iload_n 3, 1) := by decide +kernel
theorem dX4_isOnPath_17 : decode cX4_isOnPath 17 = .ok (.iaload, 1) := by decide +kernel
theorem dX4_isOnPath_18 : decode cX4_isOnPath 18 = .ok (.iload_n 1, 1) := by decide +kernel
theorem dX4_isOnPath_19 : decode cX4_isOnPath 19 = .ok (.if_icmp .ne 5, 3) := by decide +kernel
theorem dX4_isOnPath_22 : decode cX4_isOnPath 22 = .ok (.iconst 1, 1) := by decide +kernel
theorem dX4_isOnPath_23 : decode cX4_isOnPath 23 = .ok (.ireturn, 1) := by decide +kernel
theorem dX4_isOnPath_24 : decode cX4_isOnPath 24 = .ok (.iinc 3 1, 3) := by decide +kernel
theorem dX4_isOnPath_27 : decode cX4_isOnPath 27 = .ok (.goto (-25), 3) := by decide +kernel
theorem dX4_isOnPath_30 : decode cX4_isOnPath 30 = .ok (.iconst 0, 1) := by decide +kernel
theorem dX4_isOnPath_31 : decode cX4_isOnPath 31 = .ok (.ireturn, 1) := by decide +kernel
theorem dX5_init_0 : decode cX5_init 0 = .ok (.aload_n 0, 1) := by decide +kernel
theorem dX5_init_1 : decode cX5_init 1 = .ok (.invokespecial 3, 3) := by decide +kernel
theorem dX5_init_4 : decode cX5_init 4 = .ok (.aload_n 0, 1) := by decide +kernel
theorem dX5_init_5 : decode cX5_init 5 = .ok (.sipush 150, 3) := by decide +kernel
theorem dX5_init_8 : decode cX5_init 8 = .ok (.newarray .byte, 2) := by decide +kernel
theorem dX5_init_10 : decode cX5_init 10 = .ok (.putfield 11, 3) := by decide +kernel
theorem dX5_init_13 : decode cX5_init 13 = .ok (.return_, 1) := by decide +kernel
theorem dX5_put_0 : decode cX5_put 0 = .ok (.aload_n 0, 1) := by decide +kernel
theorem dX5_put_1 : decode cX5_put 1 = .ok (.getfield 15, 3) := by decide +kernel
theorem dX5_put_4 : decode cX5_put 4 = .ok (.iconst 0, 1) := by decide +kernel
theorem dX5_put_5 : decode cX5_put 5 = .ok (.sipush 149, 3) := by decide +kernel
theorem dX5_put_8 : decode cX5_put 8 = .ok (.invokestatic 19, 3) := by decide +kernel
theorem dX5_put_11 : decode cX5_put 11 = .ok (.ifCond .ne 5, 3) := by decide +kernel
theorem dX5_put_14 : decode cX5_put 14 = .ok (.iconst 0, 1) := by decide +kernel
theorem dX5_put_15 : decode cX5_put 15 = .ok (.ireturn, 1) := by decide +kernel
theorem dX5_put_16 : decode cX5_put 16 = .ok (.aload_n 0, 1) := by decide +kernel
theorem dX5_put_17 : decode cX5_put 17 = .ok (.getfield 11, 3) := by decide +kernel
theorem dX5_put_20 : decode cX5_put 20 = .ok (.aload_n 0, 1) := by decide +kernel
theorem dX5_put_21 : decode cX5_put 21 = .ok (.getfield 15, 3) := by decide +kernel
theorem dX5_put_24 : decode cX5_put 24 = .ok (.iload_n 1, 1) := by decide +kernel
theorem dX5_put_25 : decode cX5_put 25 = .ok (.i2b, 1) := by decide +kernel
theorem dX5_put_26 : decode cX5_put 26 = .ok (.bastore, 1) := by decide +kernel
theorem dX5_put_27 : decode cX5_put 27 = .ok (.aload_n 0, 1) := by decide +kernel
theorem dX5_put_28 : decode cX5_put 28 = .ok (.dup, 1) := by decide +kernel
theorem dX5_put_29 : decode cX5_put 29 = .ok (.getfield 15, 3) := by decide +kernel
theorem dX5_put_32 : decode cX5_put 32 = .ok (.iconst 1, 1) := by decide +kernel
theorem dX5_put_33 : decode cX5_put 33 = .ok (.iadd, 1) := by decide +kernel
theorem dX5_put_34 : decode cX5_put 34 = .ok (.putfield 15, 3) := by decide +kernel
theorem dX5_put_37 : decode cX5_put 37 = .ok (.iconst 1, 1) := by decide +kernel
theorem dX5_put_38 : decode cX5_put 38 = .ok (.ireturn, 1) := by decide +kernel
theorem dX5_readInto_0 : decode cX5_readInto 0 = .ok (.aload_n 0, 1) := by decide +kernel
theorem dX5_readInto_1 : decode cX5_readInto 1 = .ok (.iconst 0, 1) := by decide +kernel
theorem dX5_readInto_2 : decode cX5_readInto 2 = .ok (.putfield 23, 3) := by decide +kernel
theorem dX5_readInto_5 : decode cX5_readInto 5 = .ok (.aload_n 0, 1) := by decide +kernel
theorem dX5_readInto_6 : decode cX5_readInto 6 = .ok (.aload_n 1, 1) := by decide +kernel
theorem dX5_readInto_7 : decode cX5_readInto 7 = .ok (.invokevirtual 26, 3) := by decide +kernel
theorem dX5_readInto_10 : decode cX5_readInto 10 = .ok (.ifCond .ne 11, 3) := by decide +kernel
theorem dX5_readInto_13 : decode cX5_readInto 13 = .ok (.bipush (-10), 2) := by decide +kernel
theorem dX5_readInto_15 : decode cX5_readInto 15 = .ok (.aload_n 0, 1) := by decide +kernel
theorem dX5_readInto_16 : decode cX5_readInto 16 = .ok (.getfield 30, 3) := by decide +kernel
theorem dX5_readInto_19 : decode cX5_readInto 19 = .ok (.isub, 1) := by decide +kernel
theorem dX5_readInto_20 : decode cX5_readInto 20 = .ok (.ireturn, 1) := by decide +kernel
theorem dX5_readInto_21 : decode cX5_readInto 21 = .ok (.iconst 1, 1) := by decide +kernel
theorem dX5_readInto_22 : decode cX5_readInto 22 = .ok (.istore_n 2, 1) := by decide +kernel
theorem dX5_readInto_23 : decode cX5_readInto 23 = .ok (.aload_n 0, 1) := by decide +kernel
theorem dX5_readInto_24 : decode cX5_readInto 24 = .ok (.invokevirtual 33, 3) := by decide +kernel
theorem dX5_readInto_27 : decode cX5_readInto 27 = .ok (.aload_n 0, 1) := by decide +kernel
theorem dX5_readInto_28 : decode cX5_readInto 28 = .ok (.getfield 36, 3) := by decide +kernel
theorem dX5_readInto_31 : decode cX5_readInto 31 = .ok (.ifCond .eq 43, 3) := by decide +kernel
theorem dX5_readInto_34 : decode cX5_readInto 34 = .ok (.iload_n 2, 1) := by decide +kernel
theorem dX5_readInto_35 : decode cX5_readInto 35 = .ok (.sipush 150, 3) := by decide +kernel
theorem dX5_readInto_38 : decode cX5_readInto 38 = .ok (.if_icmp .gt 36, 3) := by decide +kernel
theorem dX5_readInto_41 : decode cX5_readInto 41 = .ok (.aload_n 0, 1) := by decide +kernel
theorem dX5_readInto_42 : decode cX5_readInto 42 = .ok (.aload_n 1, 1) := by decide +kernel
theorem dX5_readInto_43 : decode cX5_readInto 43 = .ok (.invokevirtual 39, 3) := by decide +kernel
theorem dX5_readInto_46 : decode cX5_readInto 46 = .ok (.ifCond .eq 10, 3) := by decide +kernel
theorem dX5_readInto_49 : decode cX5_readInto 49 = .ok (.aload_n 0, 1) := by decide +kernel
theorem dX5_readInto_50 : decode cX5_readInto 50 = .ok (.invokevirtual 42, 3) := by decide +kernel
theorem dX5_readInto_53 : decode cX5_readInto 53 = .ok (.ifCond .ne 11, 3) := by decide +kernel
theorem dX5_readInto_56 : decode cX5_readInto 56 = .ok (.bipush (-10), 2) := by decide +kernel
theorem dX5_readInto_58 : decode cX5_readInto 58 = .ok (.aload_n 0, 1) := by decide +kernel
theorem dX5_readInto_59 : decode cX5_readInto 59 = .ok (.getfield 30, 3) := by decide +kernel
theorem dX5_readInto_62 : decode cX5_readInto 62 = .ok (.isub, 1) := by decide +kernel
theorem dX5_readInto_63 : decode cX5_readInto 63 = .ok (.ireturn, 1) := by decide +kernel
theorem dX5_readInto_64 : decode cX5_readInto 64 = .ok (.iinc 2 1, 3) := by decide +kernel
theorem dX5_readInto_67 : decode cX5_readInto 67 = .ok (.aload_n 0, 1) := by decide +kernel
theorem dX5_readInto_68 : decode cX5_readInto 68 = .ok (.invokevirtual 33, 3) := by decide +kernel
theorem dX5_readInto_71 : decode cX5_readInto 71 = .ok (.goto (-44), 3) := by decide +kernel
theorem dX5_readInto_74 : decode cX5_readInto 74 = .ok (.iload_n 2, 1) := by decide +kernel
theorem dX5_readInto_75 : decode cX5_readInto 75 = .ok (.ireturn, 1) := by decide +kernel
theorem dX5_readFirst_0 : decode cX5_readFirst 0 = .ok (.aload_n 0, 1) := by decide +kernel
theorem dX5_readFirst_1 : decode cX5_readFirst 1 = .ok (.invokevirtual 33, 3) := by decide +kernel
theorem dX5_readFirst_4 : decode cX5_readFirst 4 = .ok (.aload_n 0, 1) := by decide +kernel
theorem dX5_readFirst_5 : decode cX5_readFirst 5 = .ok (.ldc 46, 2) := by decide +kernel
theorem dX5_readFirst_7 : decode cX5_readFirst 7 = .ok (.invokevirtual 48, 3) := by decide +kernel
theorem dX5_readFirst_10 : decode cX5_readFirst 10 = .ok (.ifCond .eq 13, 3) := by decide +kernel
theorem dX5_readFirst_13 : decode cX5_readFirst 13 = .ok (.aload_n 0, 1) := by decide +kernel
theorem dX5_readFirst_14 : decode cX5_readFirst 14 = .ok (.iconst 1, 1) := by decide +kernel
theorem dX5_readFirst_15 : decode cX5_readFirst 15 = .ok (.bipush 60, 2) := by decide +kernel
theorem dX5_readFirst_17 : decode cX5_readFirst 17 = .ok (.invokevirtual 52, 3) := by decide +kernel
theorem dX5_readFirst_20 : decode cX5_readFirst 20 = .ok (.ifCond .ne 5, 3) := by decide +kernel
theorem dX5_readFirst_23 : decode cX5_readFirst 23 = .ok (.iconst 0, 1) := by decide +kernel
theorem dX5_readFirst_24 : decode cX5_readFirst 24 = .ok (.ireturn, 1) := by decide +kernel
theorem dX5_readFirst_25 : decode cX5_readFirst 25 = .ok (.aload_n 1, 1) := by decide +kernel
theorem dX5_readFirst_26 : decode cX5_readFirst 26 = .ok (.aload_n 0, 1) := by decide +kernel
theorem dX5_readFirst_27 : decode cX5_readFirst 27 = .ok (.getfield 56, 3) := by decide +kernel
theorem dX5_readFirst_30 : decode cX5_readFirst 30 = .ok (.bipush 100, 2) := by decide +kernel
theorem dX5_readFirst_32 : decode cX5_readFirst 32 = .ok (.invokevirtual 59, 3) := by decide +kernel
theorem dX5_readFirst_35 : decode cX5_readFirst 35 = .ok (.aload_n 0, 1) := by decide +kernel
theorem dX5_readFirst_36 : decode cX5_readFirst 36 = .ok (.invokevirtual 42, 3) := by decide +kernel
theorem dX5_readFirst_39 : decode cX5_readFirst 39 = .ok (.ireturn, 1) := by decide +kernel
theorem dX5_readItem_0 : decode cX5_readItem 0 = .ok (.aload_n 0, 1) := by decide +kernel
theorem dX5_readItem_1 : decode cX5_readItem 1 = .ok (.ldc 64, 2) := by decide +kernel
theorem dX5_readItem_3 : decode cX5_readItem 3 = .ok (.invokevirtual 48, 3) := by decide +kernel
theorem dX5_readItem_6 : decode cX5_readItem 6 = .ok (.ifCond .eq 9, 3) := by decide +kernel
theorem dX5_readItem_9 : decode cX5_readItem 9 = .ok (.aload_n 0, 1) := by decide +kernel
theorem dX5_readItem_10 : decode cX5_readItem 10 = .ok (.aload_n 1, 1) := by decide +kernel
theorem dX5_readItem_11 : decode cX5_readItem 11 = .ok (.invokevirtual 66, 3) := by decide +kernel
theorem dX5_readItem_14 : decode cX5_readItem 14 = .ok (.ireturn, 1) := by decide +kernel
theorem dX5_readItem_15 : decode cX5_readItem 15 = .ok (.aload_n 0, 1) := by decide +kernel
theorem dX5_readItem_16 : decode cX5_readItem 16 = .ok (.ldc 69, 2) := by decide +kernel
theorem dX5_readItem_18 : decode cX5_readItem 18 = .ok (.invokevirtual 48, 3) := by decide +kernel
theorem dX5_readItem_21 : decode cX5_readItem 21 = .ok (.ifCond .eq 27, 3) := by decide +kernel
theorem dX5_readItem_24 : decode cX5_readItem 24 = .ok (.aload_n 1, 1) := by decide +kernel
theorem dX5_readItem_25 : decode cX5_readItem 25 = .ok (.getfield 71, 3) := by decide +kernel
theorem dX5_readItem_28 : decode cX5_readItem 28 = .ok (.invokevirtual 75, 3) := by decide +kernel
theorem dX5_readItem_31 : decode cX5_readItem 31 = .ok (.ifCond .ne 15, 3) := by decide +kernel
theorem dX5_readItem_34 : decode cX5_readItem 34 = .ok (.aload_n 0, 1) := by decide +kernel
theorem dX5_readItem_35 : decode cX5_readItem 35 = .ok (.aload_n 1, 1) := by decide +kernel
theorem dX5_readItem_36 : decode cX5_readItem 36 = .ok (.invokevirtual 80, 3) := by decide +kernel
theorem dX5_readItem_39 : decode cX5_readItem 39 = .ok (.ifCond .eq 7, 3) := by decide +kernel
theorem dX5_readItem_42 : decode cX5_readItem 42 = .ok (.iconst 1, 1) := by decide +kernel
theorem dX5_readItem_43 : decode cX5_readItem 43 = .ok (.goto 4, 3) := by decide +kernel
theorem dX5_readItem_46 : decode cX5_readItem 46 = .ok (.iconst 0, 1) := by decide +kernel
theorem dX5_readItem_47 : decode cX5_readItem 47 = .ok (.ireturn, 1) := by decide +kernel
theorem dX5_readItem_48 : decode cX5_readItem 48 = .ok (.aload_n 0, 1) := by decide +kernel
theorem dX5_readItem_49 : decode cX5_readItem 49 = .ok (.ldc 83, 2) := by decide +kernel
theorem dX5_readItem_51 : decode cX5_readItem 51 = .ok (.invokevirtual 48, 3) := by decide +kernel
theorem dX5_readItem_54 : decode cX5_readItem 54 = .ok (.ifCond .eq 9, 3) := by decide +kernel
theorem dX5_readItem_57 : decode cX5_readItem 57 = .ok (.aload_n 0, 1) := by decide +kernel
theorem dX5_readItem_58 : decode cX5_readItem 58 = .ok (.aload_n 1, 1) := by decide +kernel
theorem dX5_readItem_59 : decode cX5_readItem 59 = .ok (.invokevirtual 85, 3) := by decide +kernel
theorem dX5_readItem_62 : decode cX5_readItem 62 = .ok (.ireturn, 1) := by decide +kernel
theorem dX5_readItem_63 : decode cX5_readItem 63 = .ok (.aload_n 0, 1) := by decide +kernel
theorem dX5_readItem_64 : decode cX5_readItem 64 = .ok (.ldc 88, 2) := by decide +kernel
theorem dX5_readItem_66 : decode cX5_readItem 66 = .ok (.invokevirtual 48, 3) := by decide +kernel
theorem dX5_readItem_69 : decode cX5_readItem 69 = .ok (.ifCond .eq 37, 3) := by decide +kernel
theorem dX5_readItem_72 : decode cX5_readItem 72 = .ok (.aload_n 0, 1) := by decide +kernel
theorem dX5_readItem_73 : decode cX5_readItem 73 = .ok (.iconst 0, 1) := by decide +kernel
theorem dX5_readItem_74 : decode cX5_readItem 74 = .ok (.aload_n 1, 1) := by decide +kernel
theorem dX5_readItem_75 : decode cX5_readItem 75 = .ok (.getfield 71, 3) := by decide +kernel
theorem dX5_readItem_78 : decode cX5_readItem 78 = .ok (.getfield 90, 3) := by decide +kernel
theorem dX5_readItem_81 : decode cX5_readItem 81 = .ok (.iconst 1, 1) := by decide +kernel
theorem dX5_readItem_82 : decode cX5_readItem 82 = .ok (.isub, 1) := by decide +kernel
theorem dX5_readItem_83 : decode cX5_readItem 83 = .ok (.invokevirtual 52, 3) := by decide +kernel
theorem dX5_readItem_86 : decode cX5_readItem 86 = .ok (.ifCond .eq 18, 3) := by decide +kernel
theorem dX5_readItem_89 : decode cX5_readItem 89 = .ok (.aload_n 1, 1) := by decide +kernel
theorem dX5_readItem_90 : decode cX5_readItem 90 = .ok (.aload_n 0, 1) := by decide +kernel
theorem dX5_readItem_91 : decode cX5_readItem 91 = .ok (.getfield 56, 3) := by decide +kernel
theorem dX5_readItem_94 : decode cX5_readItem 94 = .ok (.invokevirtual 93, 3) := by decide +kernel
theorem dX5_readItem_97 : decode cX5_readItem 97 = .ok (.ifCond .eq 7, 3) := by decide +kernel
theorem dX5_readItem_100 : decode cX5_readItem 100 = .ok (.iconst 1, 1) := by decide +kernel
theorem dX5_readItem_101 : decode cX5_readItem 101 = .ok (.goto 4, 3) := by decide +kernel
theorem dX5_readItem_104 : decode cX5_readItem 104 = .ok (.iconst 0, 1) := by decide +kernel
theorem dX5_readItem_105 : decode cX5_readItem 105 = .ok (.ireturn, 1) := by decide +kernel
theorem dX5_readItem_106 : decode cX5_readItem 106 = .ok (.aload_n 0, 1) := by decide +kernel
theorem dX5_readItem_107 : decode cX5_readItem 107 = .ok (.ldc 97, 2) := by decide +kernel
theorem dX5_readItem_109 : decode cX5_readItem 109 = .ok (.invokevirtual 48, 3) := by decide +kernel
theorem dX5_readItem_112 : decode cX5_readItem 112 = .ok (.ifCond .eq 15, 3) := by decide +kernel
theorem dX5_readItem_115 : decode cX5_readItem 115 = .ok (.aload_n 0, 1) := by decide +kernel
theorem dX5_readItem_116 : decode cX5_readItem 116 = .ok (.aload_n 1, 1) := by decide +kernel
theorem dX5_readItem_117 : decode cX5_readItem 117 = .ok (.invokevirtual 99, 3) := by decide +kernel
theorem dX5_readItem_120 : decode cX5_readItem 120 = .ok (.ifCond .eq 7, 3) := by decide +kernel
theorem dX5_readItem_123 : decode cX5_readItem 123 = .ok (.iconst 1, 1) := by decide +kernel
theorem dX5_readItem_124 : decode cX5_readItem 124 = .ok (.goto 4, 3) := by decide +kernel
theorem dX5_readItem_127 : decode cX5_readItem 127 = .ok (.iconst 0, 1) := by decide +kernel
theorem dX5_readItem_128 : decode cX5_readItem 128 = .ok (.ireturn, 1) := by decide +kernel
theorem dX5_readHouse_0 : decode cX5_readHouse 0 = .ok (.aload_n 0, 1) := by decide +kernel
theorem dX5_readHouse_1 : decode cX5_readHouse 1 = .ok (.iconst 0, 1) := by decide +kernel
theorem dX5_readHouse_2 : decode cX5_readHouse 2 = .ok (.iconst 1, 1) := by decide +kernel
theorem dX5_readHouse_3 : decode cX5_readHouse 3 = .ok (.invokevirtual 52, 3) := by decide +kernel
theorem dX5_readHouse_6 : decode cX5_readHouse 6 = .ok (.ifCond .ne 5, 3) := by decide +kernel
theorem dX5_readHouse_9 : decode cX5_readHouse 9 = .ok (.iconst 0, 1) := by decide +kernel
theorem dX5_readHouse_10 : decode cX5_readHouse 10 = .ok (.ireturn, 1) := by decide +kernel
theorem dX5_readHouse_11 : decode cX5_readHouse 11 = .ok (.aload_n 0, 1) := by decide +kernel
theorem dX5_readHouse_12 : decode cX5_readHouse 12 = .ok (.getfield 56, 3) := by decide +kernel
theorem dX5_readHouse_15 : decode cX5_readHouse 15 = .ok (.istore_n 2, 1) := by decide +kernel
theorem dX5_readHouse_16 : decode cX5_readHouse 16 = .ok (.aload_n 0, 1) := by decide +kernel
theorem dX5_readHouse_17 : decode cX5_readHouse 17 = .ok (.iconst 0, 1) := by decide +kernel
theorem dX5_readHouse_18 : decode cX5_readHouse 18 = .ok (.iconst 5, 1) := by decide +kernel
theorem dX5_readHouse_19 : decode cX5_readHouse 19 = .ok (.invokevirtual 52, 3) := by decide +kernel
theorem dX5_readHouse_22 : decode cX5_readHouse 22 = .ok (.ifCond .ne 5, 3) := by decide +kernel
theorem dX5_readHouse_25 : decode cX5_readHouse 25 = .ok (.iconst 0, 1) := by decide +kernel
theorem dX5_readHouse_26 : decode cX5_readHouse 26 = .ok (.ireturn, 1) := by decide +kernel
theorem dX5_readHouse_27 : decode cX5_readHouse 27 = .ok (.aload_n 1, 1) := by decide +kernel
theorem dX5_readHouse_28 : decode cX5_readHouse 28 = .ok (.iload_n 2, 1) := by decide +kernel
theorem dX5_readHouse_29 : decode cX5_readHouse 29 = .ok (.aload_n 0, 1) := by decide +kernel
theorem dX5_readHouse_30 : decode cX5_readHouse 30 = .ok (.getfield 56, 3) := by decide +kernel
theorem dX5_readHouse_33 : decode cX5_readHouse 33 = .ok (.invokevirtual 104, 3) := by decide +kernel
theorem dX5_readHouse_36 : decode cX5_readHouse 36 = .ok (.iconst 1, 1) := by decide +kernel
theorem dX5_readHouse_37 : decode cX5_readHouse 37 = .ok (.ireturn, 1) := by decide +kernel
theorem dX5_readString_0 : decode cX5_readString 0 = .ok (.aload_n 0, 1) := by decide +kernel
theorem dX5_readString_1 : decode cX5_readString 1 = .ok (.iconst 0, 1) := by decide +kernel
theorem dX5_readString_2 : decode cX5_readString 2 = .ok (.iconst 5, 1) := by decide +kernel
theorem dX5_readString_3 : decode cX5_readString 3 = .ok (.invokevirtual 52, 3) := by decide +kernel
theorem dX5_readString_6 : decode cX5_readString 6 = .ok (.ifCond .ne 5, 3) := by decide +kernel
theorem dX5_readString_9 : decode cX5_readString 9 = .ok (.iconst 0, 1) := by decide +kernel
theorem dX5_readString_10 : decode cX5_readString 10 = .ok (.ireturn, 1) := by decide +kernel
theorem dX5_readString_11 : decode cX5_readString 11 = .ok (.aload_n 0, 1) := by decide +kernel
theorem dX5_readString_12 : decode cX5_readString 12 = .ok (.getfield 56, 3) := by decide +kernel
theorem dX5_readString_15 : decode cX5_readString 15 = .ok (.istore_n 2, 1) := by decide +kernel
theorem dX5_readString_16 : decode cX5_readString 16 = .ok (.aload_n 0, 1) := by decide +kernel
theorem dX5_readString_17 : decode cX5_readString 17 = .ok (.iconst 1, 1) := by decide +kernel
theorem dX5_readString_18 : decode cX5_readString 18 = .ok (.bipush 60, 2) := by decide +kernel
theorem dX5_readString_20 : decode cX5_readString 20 = .ok (.invokevirtual 52, 3) := by decide +kernel
theorem dX5_readString_23 : decode cX5_readString 23 = .ok (.ifCond .ne 5, 3) := by decide +kernel
theorem dX5_readString_26 : decode cX5_readString 26 = .ok (.iconst 0, 1) := by decide +kernel
theorem dX5_readString_27 : decode cX5_readString 27 = .ok (.ireturn, 1) := by decide +kernel
theorem dX5_readString_28 : decode cX5_readString 28 = .ok (.aload_n 1, 1) := by decide +kernel
theorem dX5_readString_29 : decode cX5_readString 29 = .ok (.getfield 71, 3) := by decide +kernel
theorem dX5_readString_32 : decode cX5_readString 32 = .ok (.iload_n 2, 1) := by decide +kernel
theorem dX5_readString_33 : decode cX5_readString 33 = .ok (.aload_n 0, 1) := by decide +kernel
theorem dX5_readString_34 : decode cX5_readString 34 = .ok (.getfield 56, 3) := by decide +kernel
theorem dX5_readString_37 : decode cX5_readString 37 = .ok (.iconst 0, 1) := by decide +kernel
theorem dX5_readString_38 : decode cX5_readString 38 = .ok (.iconst 0, 1) := by decide +kernel
theorem dX5_readString_39 : decode cX5_readString 39 = .ok (.invokevirtual 107, 3) := by decide +kernel
theorem dX5_readString_42 : decode cX5_readString 42 = .ok (.iconst 1, 1) := by decide +kernel
theorem dX5_readString_43 : decode cX5_readString 43 = .ok (.ireturn, 1) := by decide +kernel
theorem dX5_readPurse_0 : decode cX5_readPurse 0 = .ok (.aload_n 0, 1) := by decide +kernel
theorem dX5_readPurse_1 : decode cX5_readPurse 1 = .ok (.iconst 0, 1) := by decide +kernel
theorem dX5_readPurse_2 : decode cX5_readPurse 2 = .ok (.bipush 99, 2) := by decide +kernel
theorem dX5_readPurse_4 : decode cX5_readPurse 4 = .ok (.invokevirtual 52, 3) := by decide +kernel
theorem dX5_readPurse_7 : decode cX5_readPurse 7 = .ok (.ifCond .ne 5, 3) := by decide +kernel
theorem dX5_readPurse_10 : decode cX5_readPurse 10 = .ok (.iconst 0, 1) := by decide +kernel
theorem dX5_readPurse_11 : decode cX5_readPurse 11 = .ok (.ireturn, 1) := by decide +kernel
theorem dX5_readPurse_12 : decode cX5_readPurse 12 = .ok (.aload_n 1, 1) := by decide +kernel
theorem dX5_readPurse_13 : decode cX5_readPurse 13 = .ok (.bipush 100, 2) := by decide +kernel
theorem dX5_readPurse_15 : decode cX5_readPurse 15 = .ok (.aload_n 0, 1) := by decide +kernel
theorem dX5_readPurse_16 : decode cX5_readPurse 16 = .ok (.getfield 56, 3) := by decide +kernel
theorem dX5_readPurse_19 : decode cX5_readPurse 19 = .ok (.imul, 1) := by decide +kernel
theorem dX5_readPurse_20 : decode cX5_readPurse 20 = .ok (.putfield 111, 3) := by decide +kernel
theorem dX5_readPurse_23 : decode cX5_readPurse 23 = .ok (.iconst 1, 1) := by decide +kernel
theorem dX5_readPurse_24 : decode cX5_readPurse 24 = .ok (.ireturn, 1) := by decide +kernel
theorem dX5_readWait_0 : decode cX5_readWait 0 = .ok (.aload_n 0, 1) := by decide +kernel
theorem dX5_readWait_1 : decode cX5_readWait 1 = .ok (.iconst 1, 1) := by decide +kernel
theorem dX5_readWait_2 : decode cX5_readWait 2 = .ok (.bipush 99, 2) := by decide +kernel
theorem dX5_readWait_4 : decode cX5_readWait 4 = .ok (.invokevirtual 52, 3) := by decide +kernel
theorem dX5_readWait_7 : decode cX5_readWait 7 = .ok (.ifCond .ne 5, 3) := by decide +kernel
theorem dX5_readWait_10 : decode cX5_readWait 10 = .ok (.iconst 0, 1) := by decide +kernel
theorem dX5_readWait_11 : decode cX5_readWait 11 = .ok (.ireturn, 1) := by decide +kernel
theorem dX5_readWait_12 : decode cX5_readWait 12 = .ok (.aload_n 1, 1) := by decide +kernel
theorem dX5_readWait_13 : decode cX5_readWait 13 = .ok (.aload_n 0, 1) := by decide +kernel
theorem dX5_readWait_14 : decode cX5_readWait 14 = .ok (.getfield 56, 3) := by decide +kernel
theorem dX5_readWait_17 : decode cX5_readWait 17 = .ok (.invokevirtual 113, 3) := by decide +kernel
theorem dX5_readWait_20 : decode cX5_readWait 20 = .ok (.iconst 1, 1) := by decide +kernel
theorem dX5_readWait_21 : decode cX5_readWait 21 = .ok (.ireturn, 1) := by decide +kernel
theorem dX5_takeNumber_0 : decode cX5_takeNumber 0 = .ok (.aload_n 0, 1) := by decide +kernel
theorem dX5_takeNumber_1 : decode cX5_takeNumber 1 = .ok (.invokevirtual 33, 3) := by decide +kernel
theorem dX5_takeNumber_4 : decode cX5_takeNumber 4 = .ok (.aload_n 0, 1) := by decide +kernel
theorem dX5_takeNumber_5 : decode cX5_takeNumber 5 = .ok (.getfield 36, 3) := by decide +kernel
theorem dX5_takeNumber_8 : decode cX5_takeNumber 8 = .ok (.iconst 2, 1) := by decide +kernel
theorem dX5_takeNumber_9 : decode cX5_takeNumber 9 = .ok (.if_icmp .ne 19, 3) := by decide +kernel
theorem dX5_takeNumber_12 : decode cX5_takeNumber 12 = .ok (.aload_n 0, 1) := by decide +kernel
theorem dX5_takeNumber_13 : decode cX5_takeNumber 13 = .ok (.getfield 56, 3) := by decide +kernel
theorem dX5_takeNumber_16 : decode cX5_takeNumber 16 = .ok (.iload_n 1, 1) := by decide +kernel
theorem dX5_takeNumber_17 : decode cX5_takeNumber 17 = .ok (.iload_n 2, 1) := by decide +kernel
theorem dX5_takeNumber_18 : decode cX5_takeNumber 18 = .ok (.invokestatic 19, 3) := by decide +kernel
theorem dX5_takeNumber_21 : decode cX5_takeNumber 21 = .ok (.ifCond .eq 7, 3) := by decide +kernel
theorem dX5_takeNumber_24 : decode cX5_takeNumber 24 = .ok (.iconst 1, 1) := by decide +kernel
theorem dX5_takeNumber_25 : decode cX5_takeNumber 25 = .ok (.goto 4, 3) := by decide +kernel
theorem dX5_takeNumber_28 : decode cX5_takeNumber 28 = .ok (.iconst 0, 1) := by decide +kernel
theorem dX5_takeNumber_29 : decode cX5_takeNumber 29 = .ok (.ireturn, 1) := by decide +kernel
theorem dX5_stops_0 : decode cX5_stops 0 = .ok (.aload_n 0, 1) := by decide +kernel
theorem dX5_stops_1 : decode cX5_stops 1 = .ok (.invokevirtual 33, 3) := by decide +kernel
theorem dX5_stops_4 : decode cX5_stops 4 = .ok (.aload_n 0, 1) := by decide +kernel
theorem dX5_stops_5 : decode cX5_stops 5 = .ok (.getfield 36, 3) := by decide +kernel
theorem dX5_stops_8 : decode cX5_stops 8 = .ok (.iconst 3, 1) := by decide +kernel
theorem dX5_stops_9 : decode cX5_stops 9 = .ok (.if_icmp .ne 7, 3) := by decide +kernel
theorem dX5_stops_12 : decode cX5_stops 12 = .ok (.iconst 1, 1) := by decide +kernel
theorem dX5_stops_13 : decode cX5_stops 13 = .ok (.goto 4, 3) := by decide +kernel
theorem dX5_stops_16 : decode cX5_stops 16 = .ok (.iconst 0, 1) := by decide +kernel
theorem dX5_stops_17 : decode cX5_stops 17 = .ok (.ireturn, 1) := by decide +kernel
theorem dX5_isWord_0 : decode cX5_isWord 0 = .ok (.aload_n 0, 1) := by decide +kernel
theorem dX5_isWord_1 : decode cX5_isWord 1 = .ok (.getfield 36, 3) := by decide +kernel
theorem dX5_isWord_4 : decode cX5_isWord 4 = .ok (.iconst 1, 1) := by decide +kernel
theorem dX5_isWord_5 : decode cX5_isWord 5 = .ok (.if_icmp .ne 29, 3) := by decide +kernel
theorem dX5_isWord_8 : decode cX5_isWord 8 = .ok (.aload_n 0, 1) := by decide +kernel
theorem dX5_isWord_9 : decode cX5_isWord 9 = .ok (.getfield 23, 3) := by decide +kernel
theorem dX5_isWord_12 : decode cX5_isWord 12 = .ok (.aload_n 0, 1) := by decide +kernel
theorem dX5_isWord_13 : decode cX5_isWord 13 = .ok (.getfield 30, 3) := by decide +kernel
theorem dX5_isWord_16 : decode cX5_isWord 16 = .ok (.isub, 1) := by decide +kernel
theorem dX5_isWord_17 : decode cX5_isWord 17 = .ok (.aload_n 1, 1) := by decide +kernel
theorem dX5_isWord_18 : decode cX5_isWord 18 = .ok (.invokevirtual 117, 3) := by decide +kernel
theorem dX5_isWord_21 : decode cX5_isWord 21 = .ok (.if_icmp .ne 13, 3) := by decide +kernel
theorem dX5_isWord_24 : decode cX5_isWord 24 = .ok (.aload_n 0, 1) := by decide +kernel
theorem dX5_isWord_25 : decode cX5_isWord 25 = .ok (.getfield 23, 3) := by decide +kernel
theorem dX5_isWord_28 : decode cX5_isWord 28 = .ok (.sipush 150, 3) := by decide +kernel
theorem dX5_isWord_31 : decode cX5_isWord 31 = .ok (.if_icmp .le 5, 3) := by decide +kernel
theorem dX5_isWord_34 : decode cX5_isWord 34 = .ok (.iconst 0, 1) := by decide +kernel
theorem dX5_isWord_35 : decode cX5_isWord 35 = .ok (.ireturn, 1) := by decide +kernel
theorem dX5_isWord_36 : decode cX5_isWord 36 = .ok (.iconst 0, 1) := by decide +kernel
theorem dX5_isWord_37 : decode cX5_isWord 37 = .ok (.istore_n 2, 1) := by decide +kernel
theorem dX5_isWord_38 : decode cX5_isWord 38 = .ok (.iload_n 2, 1) := by decide +kernel
theorem dX5_isWord_39 : decode cX5_isWord 39 = .ok (.aload_n 1, 1) := by decide +kernel
theorem dX5_isWord_40 : decode cX5_isWord 40 = .ok (.invokevirtual 117, 3) := by decide +kernel
theorem dX5_isWord_43 : decode cX5_isWord 43 = .ok (.if_icmp .ge 30, 3) := by decide +kernel
theorem dX5_isWord_46 : decode cX5_isWord 46 = .ok (.aload_n 0, 1) := by decide +kernel
theorem dX5_isWord_47 : decode cX5_isWord 47 = .ok (.getfield 11, 3) := by decide +kernel
theorem dX5_isWord_50 : decode cX5_isWord 50 = .ok (.aload_n 0, 1) := by decide +kernel
theorem dX5_isWord_51 : decode cX5_isWord 51 = .ok (.getfield 30, 3) := by decide +kernel
theorem dX5_isWord_54 : decode cX5_isWord 54 = .ok (.iload_n 2, 1) := by decide +kernel
theorem dX5_isWord_55 : decode cX5_isWord 55 = .ok (.iadd, 1) := by decide +kernel
theorem dX5_isWord_56 : decode cX5_isWord 56 = .ok (.baload, 1) := by decide +kernel
theorem dX5_isWord_57 : decode cX5_isWord 57 = .ok (.aload_n 1, 1) := by decide +kernel
theorem dX5_isWord_58 : decode cX5_isWord 58 = .ok (.iload_n 2, 1) := by decide +kernel
theorem dX5_isWord_59 : decode cX5_isWord 59 = .ok (.invokevirtual 122, 3) := by decide +kernel
theorem dX5_isWord_62 : decode cX5_isWord 62 = .ok (.if_icmp .eq 5, 3) := by decide +kernel
theorem dX5_isWord_65 : decode cX5_isWord 65 = .ok (.iconst 0, 1) := by decide +kernel
theorem dX5_isWord_66 : decode cX5_isWord 66 = .ok (.ireturn, 1) := by decide +kernel
theorem dX5_isWord_67 : decode cX5_isWord 67 = .ok (.iinc 2 1, 3) := by decide +kernel
theorem dX5_isWord_70 : decode cX5_isWord 70 = .ok (.goto (-32), 3) := by decide +kernel
theorem dX5_isWord_73 : decode cX5_isWord 73 = .ok (.iconst 1, 1) := by decide +kernel
theorem dX5_isWord_74 : decode cX5_isWord 74 = .ok (.ireturn, 1) := by decide +kernel
theorem dX5_advance_0 : decode cX5_advance 0 = .ok (.aload_n 0, 1) := by decide +kernel
theorem dX5_advance_1 : decode cX5_advance 1 = .ok (.getfield 23, 3) := by decide +kernel
theorem dX5_advance_4 : decode cX5_advance 4 = .ok (.aload_n 0, 1) := by decide +kernel
theorem dX5_advance_5 : decode cX5_advance 5 = .ok (.getfield 15, 3) := by decide +kernel
theorem dX5_advance_8 : decode cX5_advance 8 = .ok (.if_icmp .ge 28, 3) := by decide +kernel
theorem dX5_advance_11 : decode cX5_advance 11 = .ok (.aload_n 0, 1) := by decide +kernel
theorem dX5_advance_12 : decode cX5_advance 12 = .ok (.aload_n 0, 1) := by decide +kernel
theorem dX5_advance_13 : decode cX5_advance 13 = .ok (.getfield 23, 3) := by decide +kernel
theorem dX5_advance_16 : decode cX5_advance 16 = .ok (.invokevirtual 126, 3) := by decide +kernel
theorem dX5_advance_19 : decode cX5_advance 19 = .ok (.iconst 4, 1) := by decide +kernel
theorem dX5_advance_20 : decode cX5_advance 20 = .ok (.if_icmp .ne 16, 3) := by decide +kernel
theorem dX5_advance_23 : decode cX5_advance 23 = .ok (.aload_n 0, 1) := by decide +kernel
theorem dX5_advance_24 : decode cX5_advance 24 = .ok (.dup, 1) := by decide +kernel
theorem dX5_advance_25 : decode cX5_advance 25 = .ok (.getfield 23, 3) := by decide +kernel
theorem dX5_advance_28 : decode cX5_advance 28 = .ok (.iconst 1, 1) := by decide +kernel
theorem dX5_advance_29 : decode cX5_advance 29 = .ok (.iadd, 1) := by decide +kernel
theorem dX5_advance_30 : decode cX5_advance 30 = .ok (.putfield 23, 3) := by decide +kernel
theorem dX5_advance_33 : decode cX5_advance 33 = .ok (.goto (-33), 3) := by decide +kernel
theorem dX5_advance_36 : decode cX5_advance 36 = .ok (.aload_n 0, 1) := by decide +kernel
theorem dX5_advance_37 : decode cX5_advance 37 = .ok (.aload_n 0, 1) := by decide +kernel
theorem dX5_advance_38 : decode cX5_advance 38 = .ok (.getfield 23, 3) := by decide +kernel
theorem dX5_advance_41 : decode cX5_advance 41 = .ok (.putfield 30, 3) := by decide +kernel
theorem dX5_advance_44 : decode cX5_advance 44 = .ok (.aload_n 0, 1) := by decide +kernel
theorem dX5_advance_45 : decode cX5_advance 45 = .ok (.aload_n 0, 1) := by decide +kernel
theorem dX5_advance_46 : decode cX5_advance 46 = .ok (.aload_n 0, 1) := by decide +kernel
theorem dX5_advance_47 : decode cX5_advance 47 = .ok (.getfield 30, 3) := by decide +kernel
theorem dX5_advance_50 : decode cX5_advance 50 = .ok (.invokevirtual 126, 3) := by decide +kernel
theorem dX5_advance_53 : decode cX5_advance 53 = .ok (.putfield 36, 3) := by decide +kernel
theorem dX5_advance_56 : decode cX5_advance 56 = .ok (.aload_n 0, 1) := by decide +kernel
theorem dX5_advance_57 : decode cX5_advance 57 = .ok (.getfield 36, 3) := by decide +kernel
theorem dX5_advance_60 : decode cX5_advance 60 = .ok (.iconst 1, 1) := by decide +kernel
theorem dX5_advance_61 : decode cX5_advance 61 = .ok (.if_icmp .eq 11, 3) := by decide +kernel
theorem dX5_advance_64 : decode cX5_advance 64 = .ok (.aload_n 0, 1) := by decide +kernel
theorem dX5_advance_65 : decode cX5_advance 65 = .ok (.getfield 36, 3) := by decide +kernel
theorem dX5_advance_68 : decode cX5_advance 68 = .ok (.iconst 2, 1) := by decide +kernel
theorem dX5_advance_69 : decode cX5_advance 69 = .ok (.if_icmp .ne 7, 3) := by decide +kernel
theorem dX5_advance_72 : decode cX5_advance 72 = .ok (.iconst 1, 1) := by decide +kernel
theorem dX5_advance_73 : decode cX5_advance 73 = .ok (.goto 4, 3) := by decide +kernel
theorem dX5_advance_76 : decode cX5_advance 76 = .ok (.iconst 0, 1) := by decide +kernel
theorem dX5_advance_77 : decode cX5_advance 77 = .ok (.istore_n 1, 1) := by decide +kernel
theorem dX5_advance_78 : decode cX5_advance 78 = .ok (.aload_n 0, 1) := by decide +kernel
theorem dX5_advance_79 : decode cX5_advance 79 = .ok (.aload_n 0, 1) := by decide +kernel
theorem dX5_advance_80 : decode cX5_advance 80 = .ok (.getfield 23, 3) := by decide +kernel
theorem dX5_advance_83 : decode cX5_advance 83 = .ok (.iconst 1, 1) := by decide +kernel
theorem dX5_advance_84 : decode cX5_advance 84 = .ok (.iadd, 1) := by decide +kernel
theorem dX5_advance_85 : decode cX5_advance 85 = .ok (.aload_n 0, 1) := by decide +kernel
theorem dX5_advance_86 : decode cX5_advance 86 = .ok (.getfield 15, 3) := by decide +kernel
theorem dX5_advance_89 : decode cX5_advance 89 = .ok (.invokestatic 130, 3) := by decide +kernel
theorem dX5_advance_92 : decode cX5_advance 92 = .ok (.putfield 23, 3) := by decide +kernel
theorem dX5_advance_95 : decode cX5_advance 95 = .ok (.iload_n 1, 1) := by decide +kernel
theorem dX5_advance_96 : decode cX5_advance 96 = .ok (.ifCond .eq 42, 3) := by decide +kernel
theorem dX5_advance_99 : decode cX5_advance 99 = .ok (.aload_n 0, 1) := by decide +kernel
theorem dX5_advance_100 : decode cX5_advance 100 = .ok (.getfield 23, 3) := by decide +kernel
theorem dX5_advance_103 : decode cX5_advance 103 = .ok (.aload_n 0, 1) := by decide +kernel
theorem dX5_advance_104 : decode cX5_advance 104 = .ok (.getfield 15, 3) := by decide +kernel
theorem dX5_advance_107 : decode cX5_advance 107 = .ok (.if_icmp .ge 31, 3) := by decide +kernel
theorem dX5_advance_110 : decode cX5_advance 110 = .ok (.aload_n 0, 1) := by decide +kernel
theorem dX5_advance_111 : decode cX5_advance 111 = .ok (.aload_n 0, 1) := by decide +kernel
theorem dX5_advance_112 : decode cX5_advance 112 = .ok (.getfield 23, 3) := by decide +kernel
theorem dX5_advance_115 : decode cX5_advance 115 = .ok (.invokevirtual 126, 3) := by decide +kernel
theorem dX5_advance_118 : decode cX5_advance 118 = .ok (.aload_n 0, 1) := by decide +kernel
theorem dX5_advance_119 : decode cX5_advance 119 = .ok (.getfield 36, 3) := by decide +kernel
theorem dX5_advance_122 : decode cX5_advance 122 = .ok (.if_icmp .ne 16, 3) := by decide +kernel
theorem dX5_advance_125 : decode cX5_advance 125 = .ok (.aload_n 0, 1) := by decide +kernel
theorem dX5_advance_126 : decode cX5_advance 126 = .ok (.dup, 1) := by decide +kernel
theorem dX5_advance_127 : decode cX5_advance 127 = .ok (.getfield 23, 3) := by decide +kernel
theorem dX5_advance_130 : decode cX5_advance 130 = .ok (.iconst 1, 1) := by decide +kernel
theorem dX5_advance_131 : decode cX5_advance 131 = .ok (.iadd, 1) := by decide +kernel
theorem dX5_advance_132 : decode cX5_advance 132 = .ok (.putfield 23, 3) := by decide +kernel
theorem dX5_advance_135 : decode cX5_advance 135 = .ok (.goto (-40), 3) := by decide +kernel
theorem dX5_advance_138 : decode cX5_advance 138 = .ok (.aload_n 0, 1) := by decide +kernel
theorem dX5_advance_139 : decode cX5_advance 139 = .ok (.getfield 36, 3) := by decide +kernel
theorem dX5_advance_142 : decode cX5_advance 142 = .ok (.iconst 2, 1) := by decide +kernel
theorem dX5_advance_143 : decode cX5_advance 143 = .ok (.if_icmp .ne 7, 3) := by decide +kernel
theorem dX5_advance_146 : decode cX5_advance 146 = .ok (.aload_n 0, 1) := by decide +kernel
theorem dX5_advance_147 : decode cX5_advance 147 = .ok (.invokevirtual 136, 3) := by decide +kernel
theorem dX5_advance_150 : decode cX5_advance 150 = .ok (.return_, 1) := by decide +kernel
theorem dX5_takeFigures_0 : decode cX5_takeFigures 0 = .ok (.aload_n 0, 1) := by decide +kernel
theorem dX5_takeFigures_1 : decode cX5_takeFigures 1 = .ok (.iconst 0, 1) := by decide +kernel
theorem dX5_takeFigures_2 : decode cX5_takeFigures 2 = .ok (.putfield 56, 3) := by decide +kernel
theorem dX5_takeFigures_5 : decode cX5_takeFigures 5 = .ok (.aload_n 0, 1) := by decide +kernel
theorem dX5_takeFigures_6 : decode cX5_takeFigures 6 = .ok (.getfield 23, 3) := by decide +kernel
theorem dX5_takeFigures_9 : decode cX5_takeFigures 9 = .ok (.aload_n 0, 1) := by decide +kernel
theorem dX5_takeFigures_10 : decode cX5_takeFigures 10 = .ok (.getfield 30, 3) := by decide +kernel
theorem dX5_takeFigures_13 : decode cX5_takeFigures 13 = .ok (.isub, 1) := by decide +kernel
theorem dX5_takeFigures_14 : decode cX5_takeFigures 14 = .ok (.iconst 2, 1) := by decide +kernel
theorem dX5_takeFigures_15 : decode cX5_takeFigures 15 = .ok (.if_icmp .le 9, 3) := by decide +kernel
theorem dX5_takeFigures_18 : decode cX5_takeFigures 18 = .ok (.aload_n 0, 1) := by decide +kernel
theorem dX5_takeFigures_19 : decode cX5_takeFigures 19 = .ok (.iconst 5, 1) := by decide +kernel
theorem dX5_takeFigures_20 : decode cX5_takeFigures 20 = .ok (.putfield 36, 3) := by decide +kernel
theorem dX5_takeFigures_23 : decode cX5_takeFigures 23 = .ok (.return_, 1) := by decide +kernel
theorem dX5_takeFigures_24 : decode cX5_takeFigures 24 = .ok (.aload_n 0, 1) := by decide +kernel
theorem dX5_takeFigures_25 : decode cX5_takeFigures 25 = .ok (.getfield 30, 3) := by decide +kernel
theorem dX5_takeFigures_28 : decode cX5_takeFigures 28 = .ok (.istore_n 1, 1) := by decide +kernel
theorem dX5_takeFigures_29 : decode cX5_takeFigures 29 = .ok (.iload_n 1, 1) := by decide +kernel
theorem dX5_takeFigures_30 : decode cX5_takeFigures 30 = .ok (.aload_n 0, 1) := by decide +kernel
theorem dX5_takeFigures_31 : decode cX5_takeFigures 31 = .ok (.getfield 23, 3) := by decide +kernel
theorem dX5_takeFigures_34 : decode cX5_takeFigures 34 = .ok (.if_icmp .ge 37, 3) := by decide +kernel
theorem dX5_takeFigures_37 : decode cX5_takeFigures 37 = .ok (.iload_n 1, 1) := by decide +kernel
theorem dX5_takeFigures_38 : decode cX5_takeFigures 38 = .ok (.sipush 150, 3) := by decide +kernel
theorem dX5_takeFigures_41 : decode cX5_takeFigures 41 = .ok (.if_icmp .ge 30, 3) := by decide +kernel
theorem dX5_takeFigures_44 : decode cX5_takeFigures 44 = .ok (.aload_n 0, 1) := by decide +kernel
theorem dX5_takeFigures_45 : decode cX5_takeFigures 45 = .ok (.bipush 10, 2) := by decide +kernel
theorem dX5_takeFigures_47 : decode cX5_takeFigures 47 = .ok (.aload_n 0, 1) := by decide +kernel
theorem dX5_takeFigures_48 : decode cX5_takeFigures 48 = .ok (.getfield 56, 3) := by decide +kernel
theorem dX5_takeFigures_51 : decode cX5_takeFigures 51 = .ok (.imul, 1) := by decide +kernel
theorem dX5_takeFigures_52 : decode cX5_takeFigures 52 = .ok (.aload_n 0, 1) := by decide +kernel
theorem dX5_takeFigures_53 : decode cX5_takeFigures 53 = .ok (.getfield 11, 3) := by decide +kernel
theorem dX5_takeFigures_56 : decode cX5_takeFigures 56 = .ok (.iload_n 1, 1) := by decide +kernel
theorem dX5_takeFigures_57 : decode cX5_takeFigures 57 = .ok (.baload, 1) := by decide +kernel
theorem dX5_takeFigures_58 : decode cX5_takeFigures 58 = .ok (.iadd, 1) := by decide +kernel
theorem dX5_takeFigures_59 : decode cX5_takeFigures 59 = .ok (.bipush 48, 2) := by decide +kernel
theorem dX5_takeFigures_61 : decode cX5_takeFigures 61 = .ok (.isub, 1) := by decide +kernel
theorem dX5_takeFigures_62 : decode cX5_takeFigures 62 = .ok (.putfield 56, 3) := by decide +kernel
theorem dX5_takeFigures_65 : decode cX5_takeFigures 65 = .ok (.iinc 1 1, 3) := by decide +kernel
theorem dX5_takeFigures_68 : decode cX5_takeFigures 68 = .ok (.goto (-39), 3) := by decide +kernel
theorem dX5_takeFigures_71 : decode cX5_takeFigures 71 = .ok (.return_, 1) := by decide +kernel
theorem dX5_tokenAt_0 : decode cX5_tokenAt 0 = .ok (.iload_n 1, 1) := by decide +kernel
theorem dX5_tokenAt_1 : decode cX5_tokenAt 1 = .ok (.ifCond .lt 18, 3) := by decide +kernel
theorem dX5_tokenAt_4 : decode cX5_tokenAt 4 = .ok (.iload_n 1, 1) := by decide +kernel
theorem dX5_tokenAt_5 : decode cX5_tokenAt 5 = .ok (.aload_n 0, 1) := by decide +kernel
theorem dX5_tokenAt_6 : decode cX5_tokenAt 6 = .ok (.getfield 15, 3) := by decide +kernel
theorem dX5_tokenAt_9 : decode cX5_tokenAt 9 = .ok (.if_icmp .ge 10, 3) := by decide +kernel
theorem dX5_tokenAt_12 : decode cX5_tokenAt 12 = .ok (.iload_n 1, 1) := by decide +kernel
theorem dX5_tokenAt_13 : decode cX5_tokenAt 13 = .ok (.sipush 150, 3) := by decide +kernel
theorem dX5_tokenAt_16 : decode cX5_tokenAt 16 = .ok (.if_icmp .lt 5, 3) := by decide +kernel
theorem dX5_tokenAt_19 : decode cX5_tokenAt 19 = .ok (.iconst 0, 1) := by decide +kernel
theorem dX5_tokenAt_20 : decode cX5_tokenAt 20 = .ok (.ireturn, 1) := by decide +kernel
theorem dX5_tokenAt_21 : decode cX5_tokenAt 21 = .ok (.aload_n 0, 1) := by decide +kernel
theorem dX5_tokenAt_22 : decode cX5_tokenAt 22 = .ok (.getfield 11, 3) := by decide +kernel
theorem dX5_tokenAt_25 : decode cX5_tokenAt 25 = .ok (.iload_n 1, 1) := by decide +kernel
theorem dX5_tokenAt_26 : decode cX5_tokenAt 26 = .ok (.baload, 1) := by decide +kernel
theorem dX5_tokenAt_27 : decode cX5_tokenAt 27 = .ok (.istore_n 2, 1) := by decide +kernel
theorem dX5_tokenAt_28 : decode cX5_tokenAt 28 = .ok (.iload_n 2, 1) := by decide +kernel
theorem dX5_tokenAt_29 : decode cX5_tokenAt 29 = .ok (.bipush 97, 2) := by decide +kernel
theorem dX5_tokenAt_31 : decode cX5_tokenAt 31 = .ok (.if_icmp .lt 11, 3) := by decide +kernel
theorem dX5_tokenAt_34 : decode cX5_tokenAt 34 = .ok (.iload_n 2, 1) := by decide +kernel
theorem dX5_tokenAt_35 : decode cX5_tokenAt 35 = .ok (.bipush 122, 2) := by decide +kernel
theorem dX5_tokenAt_37 : decode cX5_tokenAt 37 = .ok (.if_icmp .gt 5, 3) := by decide +kernel
theorem dX5_tokenAt_40 : decode cX5_tokenAt 40 = .ok (.iconst 1, 1) := by decide +kernel
theorem dX5_tokenAt_41 : decode cX5_tokenAt 41 = .ok (.ireturn, 1) := by decide +kernel
theorem dX5_tokenAt_42 : decode cX5_tokenAt 42 = .ok (.iload_n 2, 1) := by decide +kernel
theorem dX5_tokenAt_43 : decode cX5_tokenAt 43 = .ok (.bipush 48, 2) := by decide +kernel
theorem dX5_tokenAt_45 : decode cX5_tokenAt 45 = .ok (.if_icmp .lt 11, 3) := by decide +kernel
theorem dX5_tokenAt_48 : decode cX5_tokenAt 48 = .ok (.iload_n 2, 1) := by decide +kernel
theorem dX5_tokenAt_49 : decode cX5_tokenAt 49 = .ok (.bipush 57, 2) := by decide +kernel
theorem dX5_tokenAt_51 : decode cX5_tokenAt 51 = .ok (.if_icmp .gt 5, 3) := by decide +kernel
theorem dX5_tokenAt_54 : decode cX5_tokenAt 54 = .ok (.iconst 2, 1) := by decide +kernel
theorem dX5_tokenAt_55 : decode cX5_tokenAt 55 = .ok (.ireturn, 1) := by decide +kernel
theorem dX5_tokenAt_56 : decode cX5_tokenAt 56 = .ok (.iload_n 2, 1) := by decide +kernel
theorem dX5_tokenAt_57 : decode cX5_tokenAt 57 = .ok (.bipush 59, 2) := by decide +kernel
theorem dX5_tokenAt_59 : decode cX5_tokenAt 59 = .ok (.if_icmp .ne 7, 3) := by decide +kernel
theorem dX5_tokenAt_62 : decode cX5_tokenAt 62 = .ok (.iconst 3, 1) := by decide +kernel
theorem dX5_tokenAt_63 : decode cX5_tokenAt 63 = .ok (.goto 14, 3) := by decide +kernel
theorem dX5_tokenAt_66 : decode cX5_tokenAt 66 = .ok (.iload_n 2, 1) := by decide +kernel
theorem dX5_tokenAt_67 : decode cX5_tokenAt 67 = .ok (.bipush 32, 2) := by decide +kernel
theorem dX5_tokenAt_69 : decode cX5_tokenAt 69 = .ok (.if_icmp .ne 7, 3) := by decide +kernel
theorem dX5_tokenAt_72 : decode cX5_tokenAt 72 = .ok (.iconst 4, 1) := by decide +kernel
theorem dX5_tokenAt_73 : decode cX5_tokenAt 73 = .ok (.goto 4, 3) := by decide +kernel
theorem dX5_tokenAt_76 : decode cX5_tokenAt 76 = .ok (.iconst 5, 1) := by decide +kernel
theorem dX5_tokenAt_77 : decode cX5_tokenAt 77 = .ok (.ireturn, 1) := by decide +kernel
theorem dX6_init_0 : decode cX6_init 0 = .ok (.aload_n 0, 1) := by decide +kernel
theorem dX6_init_1 : decode cX6_init 1 = .ok (.invokespecial 3, 3) := by decide +kernel
theorem dX6_init_4 : decode cX6_init 4 = .ok (.aload_n 0, 1) := by decide +kernel
theorem dX6_init_5 : decode cX6_init 5 = .ok (.bipush 36, 2) := by decide +kernel
theorem dX6_init_7 : decode cX6_init 7 = .ok (.newarray .int, 2) := by decide +kernel
theorem dX6_init_9 : decode cX6_init 9 = .ok (.putfield 11, 3) := by decide +kernel
theorem dX6_init_12 : decode cX6_init 12 = .ok (.aload_n 0, 1) := by decide +kernel
theorem dX6_init_13 : decode cX6_init 13 = .ok (.bipush 36, 2) := by decide +kernel
theorem dX6_init_15 : decode cX6_init 15 = .ok (.newarray .int, 2) := by decide +kernel
theorem dX6_init_17 : decode cX6_init 17 = .ok (.putfield 17, 3) := by decide +kernel
theorem dX6_init_20 : decode cX6_init 20 = .ok (.return_, 1) := by decide +kernel
theorem dX6_reckon_0 : decode cX6_reckon 0 = .ok (.iconst 0, 1) := by decide +kernel
theorem dX6_reckon_1 : decode cX6_reckon 1 = .ok (.istore_n 2, 1) := by decide +kernel
theorem dX6_reckon_2 : decode cX6_reckon 2 = .ok (.iload_n 2, 1) := by decide +kernel
theorem dX6_reckon_3 : decode cX6_reckon 3 = .ok (.bipush 6, 2) := by decide +kernel
theorem dX6_reckon_5 : decode cX6_reckon 5 = .ok (.if_icmp .ge 30, 3) := by decide +kernel
theorem dX6_reckon_8 : decode cX6_reckon 8 = .ok (.iconst 0, 1) := by decide +kernel
theorem dX6_reckon_9 : decode cX6_reckon 9 = .ok (.istore_n 3, 1) := by decide +kernel
theorem dX6_reckon_10 : decode cX6_reckon 10 = .ok (.iload_n 3, 1) := by decide +kernel
theorem dX6_reckon_11 : decode cX6_reckon 11 = .ok (.bipush 6, 2) := by decide +kernel
theorem dX6_reckon_13 : decode cX6_reckon 13 = .ok (.if_icmp .ge 16, 3) := by decide +kernel
theorem dX6_reckon_16 : decode cX6_reckon 16 = .ok (.aload_n 0, 1) := by decide +kernel
theorem dX6_reckon_17 : decode cX6_reckon 17 = .ok (.aload_n 1, 1) := by decide +kernel
theorem dX6_reckon_18 : decode cX6_reckon 18 = .ok (.iload_n 2, 1) := by decide +kernel
theorem dX6_reckon_19 : decode cX6_reckon 19 = .ok (.iload_n 3, 1) := by decide +kernel
theorem dX6_reckon_20 : decode cX6_reckon 20 = .ok (.invokevirtual 20, 3) := by decide +kernel
theorem dX6_reckon_23 : decode cX6_reckon 23 = .ok (.iinc 3 1, 3) := by decide +kernel
theorem dX6_reckon_26 : decode cX6_reckon 26 = .ok (.goto (-16), 3) := by decide +kernel
theorem dX6_reckon_29 : decode cX6_reckon 29 = .ok (.iinc 2 1, 3) := by decide +kernel
theorem dX6_reckon_32 : decode cX6_reckon 32 = .ok (.goto (-30), 3) := by decide +kernel
theorem dX6_reckon_35 : decode cX6_reckon 35 = .ok (.return_, 1) := by decide +kernel
theorem dX6_pairs_0 : decode cX6_pairs 0 = .ok (.iconst 0, 1) := by decide +kernel
theorem dX6_pairs_1 : decode cX6_pairs 1 = .ok (.istore_n 1, 1) := by decide +kernel
theorem dX6_pairs_2 : decode cX6_pairs 2 = .ok (.iconst 0, 1) := by decide +kernel
theorem dX6_pairs_3 : decode cX6_pairs 3 = .ok (.istore_n 2, 1) := by decide +kernel
theorem dX6_pairs_4 : decode cX6_pairs 4 = .ok (.iload_n 2, 1) := by decide +kernel
theorem dX6_pairs_5 : decode cX6_pairs 5 = .ok (.bipush 6, 2) := by decide +kernel
theorem dX6_pairs_7 : decode cX6_pairs 7 = .ok (.if_icmp .ge 35, 3) := by decide +kernel
theorem dX6_pairs_10 : decode cX6_pairs 10 = .ok (.iconst 0, 1) := by decide +kernel
theorem dX6_pairs_11 : decode cX6_pairs 11 = .ok (.istore_n 3, 1) := by decide +kernel
theorem dX6_pairs_12 : decode cX6_pairs 12 = .ok (.iload_n 3, 1) := by decide +kernel
theorem dX6_pairs_13 : decode cX6_pairs 13 = .ok (.bipush 6, 2) := by decide +kernel
theorem dX6_pairs_15 : decode cX6_pairs 15 = .ok (.if_icmp .ge 21, 3) := by decide +kernel
theorem dX6_pairs_18 : decode cX6_pairs 18 = .ok (.aload_n 0, 1) := by decide +kernel
theorem dX6_pairs_19 : decode cX6_pairs 19 = .ok (.iload_n 2, 1) := by decide +kernel
theorem dX6_pairs_20 : decode cX6_pairs 20 = .ok (.iload_n 3, 1) := by decide +kernel
theorem dX6_pairs_21 : decode cX6_pairs 21 = .ok (.invokevirtual 24, 3) := by decide +kernel
theorem dX6_pairs_24 : decode cX6_pairs 24 = .ok (.ifCond .eq 6, 3) := by decide +kernel
theorem dX6_pairs_27 : decode cX6_pairs 27 = .ok (.iinc 1 1, 3) := by decide +kernel
theorem dX6_pairs_30 : decode cX6_pairs 30 = .ok (.iinc 3 1, 3) := by decide +kernel
theorem dX6_pairs_33 : decode cX6_pairs 33 = .ok (.goto (-21), 3) := by decide +kernel
theorem dX6_pairs_36 : decode cX6_pairs 36 = .ok (.iinc 2 1, 3) := by decide +kernel
theorem dX6_pairs_39 : decode cX6_pairs 39 = .ok (.goto (-35), 3) := by decide +kernel
theorem dX6_pairs_42 : decode cX6_pairs 42 = .ok (.iload_n 1, 1) := by decide +kernel
theorem dX6_pairs_43 : decode cX6_pairs 43 = .ok (.ireturn, 1) := by decide +kernel
theorem dX6_pair_0 : decode cX6_pair 0 = .ok (.iconst 0, 1) := by decide +kernel
theorem dX6_pair_1 : decode cX6_pair 1 = .ok (.istore_n 2, 1) := by decide +kernel
theorem dX6_pair_2 : decode cX6_pair 2 = .ok (.iconst 0, 1) := by decide +kernel
theorem dX6_pair_3 : decode cX6_pair 3 = .ok (.istore_n 3, 1) := by decide +kernel
theorem dX6_pair_4 : decode cX6_pair 4 = .ok (.iload_n 3, 1) := by decide +kernel
theorem dX6_pair_5 : decode cX6_pair 5 = .ok (.bipush 6, 2) := by decide +kernel
theorem dX6_pair_7 : decode cX6_pair 7 = .ok (.if_icmp .ge 51, 3) := by decide +kernel
theorem dX6_pair_10 : decode cX6_pair 10 = .ok (.iconst 0, 1) := by decide +kernel
theorem dX6_pair_11 : decode cX6_pair 11 = .ok (.istore 4, 2) := by decide +kernel
theorem dX6_pair_13 : decode cX6_pair 13 = .ok (.iload 4, 2) := by decide +kernel
theorem dX6_pair_15 : decode cX6_pair 15 = .ok (.bipush 6, 2) := by decide +kernel
theorem dX6_pair_17 : decode cX6_pair 17 = .ok (.if_icmp .ge 35, 3) := by decide +kernel
theorem dX6_pair_20 : decode cX6_pair 20 = .ok (.aload_n 0, 1) := by decide +kernel
theorem dX6_pair_21 : decode cX6_pair 21 = .ok (.iload_n 3, 1) := by decide +kernel
theorem dX6_pair_22 : decode cX6_pair 22 = .ok (.iload 4, 2) := by decide +kernel
theorem dX6_pair_24 : decode cX6_pair 24 = .ok (.invokevirtual 24, 3) := by decide +kernel
theorem dX6_pair_27 : decode cX6_pair 27 = .ok (.ifCond .eq 19, 3) := by decide +kernel
theorem dX6_pair_30 : decode cX6_pair 30 = .ok (.iload_n 2, 1) := by decide +kernel
theorem dX6_pair_31 : decode cX6_pair 31 = .ok (.iload_n 1, 1) := by decide +kernel
theorem dX6_pair_32 : decode cX6_pair 32 = .ok (.if_icmp .ne 11, 3) := by decide +kernel
theorem dX6_pair_35 : decode cX6_pair 35 = .ok (.bipush 10, 2) := by decide +kernel
theorem dX6_pair_37 : decode cX6_pair 37 = .ok (.iload_n 3, 1) := by decide +kernel
theorem dX6_pair_38 : decode cX6_pair 38 = .ok (.imul, 1) := by decide +kernel
theorem dX6_pair_39 : decode cX6_pair 39 = .ok (.iload 4, 2) := by decide +kernel
theorem dX6_pair_41 : decode cX6_pair 41 = .ok (.iadd, 1) := by decide +kernel
theorem dX6_pair_42 : decode cX6_pair 42 = .ok (.ireturn, 1) := by decide +kernel
theorem dX6_pair_43 : decode cX6_pair 43 = .ok (.iinc 2 1, 3) := by decide +kernel
theorem dX6_pair_46 : decode cX6_pair 46 = .ok (.iinc 4 1, 3) := by decide +kernel
theorem dX6_pair_49 : decode cX6_pair 49 = .ok (.goto (-36), 3) := by decide +kernel
theorem dX6_pair_52 : decode cX6_pair 52 = .ok (.iinc 3 1, 3) := by decide +kernel
theorem dX6_pair_55 : decode cX6_pair 55 = .ok (.goto (-51), 3) := by decide +kernel
theorem dX6_pair_58 : decode cX6_pair 58 = .ok (.iconst (-1), 1) := by decide +kernel
theorem dX6_pair_59 : decode cX6_pair 59 = .ok (.ireturn, 1) := by decide +kernel
theorem dX6_reckonPair_0 : decode cX6_reckonPair 0 = .ok (.aload_n 1, 1) := by decide +kernel
theorem dX6_reckonPair_1 : decode cX6_reckonPair 1 = .ok (.getfield 28, 3) := by decide +kernel
theorem dX6_reckonPair_4 : decode cX6_reckonPair 4 = .ok (.bipush 24, 2) := by decide +kernel
theorem dX6_reckonPair_6 : decode cX6_reckonPair 6 = .ok (.idiv, 1) := by decide +kernel
theorem dX6_reckonPair_7 : decode cX6_reckonPair 7 = .ok (.istore 4, 2) := by decide +kernel
theorem dX6_reckonPair_9 : decode cX6_reckonPair 9 = .ok (.iconst 0, 1) := by decide +kernel
theorem dX6_reckonPair_10 : decode cX6_reckonPair 10 = .ok (.istore 5, 2) := by decide +kernel
theorem dX6_reckonPair_12 : decode cX6_reckonPair 12 = .ok (.iconst 0, 1) := by decide +kernel
theorem dX6_reckonPair_13 : decode cX6_reckonPair 13 = .ok (.istore 6, 2) := by decide +kernel
theorem dX6_reckonPair_15 : decode cX6_reckonPair 15 = .ok (.iconst 0, 1) := by decide +kernel
theorem dX6_reckonPair_16 : decode cX6_reckonPair 16 = .ok (.istore 7, 2) := by decide +kernel
theorem dX6_reckonPair_18 : decode cX6_reckonPair 18 = .ok (.iload 7, 2) := by decide +kernel
theorem dX6_reckonPair_20 : decode cX6_reckonPair 20 = .ok (.aload_n 1, 1) := by decide +kernel
theorem dX6_reckonPair_21 : decode cX6_reckonPair 21 = .ok (.getfield 34, 3) := by decide +kernel
theorem dX6_reckonPair_24 : decode cX6_reckonPair 24 = .ok (.getfield 38, 3) := by decide +kernel
theorem dX6_reckonPair_27 : decode cX6_reckonPair 27 = .ok (.if_icmp .ge 68, 3) := by decide +kernel
theorem dX6_reckonPair_30 : decode cX6_reckonPair 30 = .ok (.aload_n 1, 1) := by decide +kernel
theorem dX6_reckonPair_31 : decode cX6_reckonPair 31 = .ok (.iload 7, 2) := by decide +kernel
theorem dX6_reckonPair_33 : decode cX6_reckonPair 33 = .ok (.iconst 0, 1) := by decide +kernel
theorem dX6_reckonPair_34 : decode cX6_reckonPair 34 = .ok (.invokevirtual 43, 3) := by decide +kernel
theorem dX6_reckonPair_37 : decode cX6_reckonPair 37 = .ok (.istore 8, 2) := by decide +kernel
theorem dX6_reckonPair_39 : decode cX6_reckonPair 39 = .ok (.iload_n 2, 1) := by decide +kernel
theorem dX6_reckonPair_40 : decode cX6_reckonPair 40 = .ok (.iload 8, 2) := by decide +kernel
theorem dX6_reckonPair_42 : decode cX6_reckonPair 42 = .ok (.iload 4, 2) := by decide +kernel
theorem dX6_reckonPair_44 : decode cX6_reckonPair 44 = .ok (.invokestatic 47, 3) := by decide +kernel
theorem dX6_reckonPair_47 : decode cX6_reckonPair 47 = .ok (.istore 9, 2) := by decide +kernel
theorem dX6_reckonPair_49 : decode cX6_reckonPair 49 = .ok (.iload_n 3, 1) := by decide +kernel
theorem dX6_reckonPair_50 : decode cX6_reckonPair 50 = .ok (.iload 8, 2) := by decide +kernel
theorem dX6_reckonPair_52 : decode cX6_reckonPair 52 = .ok (.iload 4, 2) := by decide +kernel
theorem dX6_reckonPair_54 : decode cX6_reckonPair 54 = .ok (.invokestatic 47, 3) := by decide +kernel
theorem dX6_reckonPair_57 : decode cX6_reckonPair 57 = .ok (.istore 10, 2) := by decide +kernel
theorem dX6_reckonPair_59 : decode cX6_reckonPair 59 = .ok (.iload 9, 2) := by decide +kernel
theorem dX6_reckonPair_61 : decode cX6_reckonPair 61 = .ok (.iload 10, 2) := by decide +kernel
theorem dX6_reckonPair_63 : decode cX6_reckonPair 63 = .ok (.iadd, 1) := by decide +kernel
theorem dX6_reckonPair_64 : decode cX6_reckonPair 64 = .ok (.iconst 2, 1) := by decide +kernel
theorem dX6_reckonPair_65 : decode cX6_reckonPair 65 = .ok (.aload_n 1, 1) := by decide +kernel
theorem dX6_reckonPair_66 : decode cX6_reckonPair 66 = .ok (.iload 7, 2) := by decide +kernel
theorem dX6_reckonPair_68 : decode cX6_reckonPair 68 = .ok (.invokevirtual 51, 3) := by decide +kernel
theorem dX6_reckonPair_71 : decode cX6_reckonPair 71 = .ok (.imul, 1) := by decide +kernel
theorem dX6_reckonPair_72 : decode cX6_reckonPair 72 = .ok (.if_icmp .gt 17, 3) := by decide +kernel
theorem dX6_reckonPair_75 : decode cX6_reckonPair 75 = .ok (.iload 5, 2) := by decide +kernel
theorem dX6_reckonPair_77 : decode cX6_reckonPair 77 = .ok (.iload 9, 2) := by decide +kernel
theorem dX6_reckonPair_79 : decode cX6_reckonPair 79 = .ok (.iadd, 1) := by decide +kernel
theorem dX6_reckonPair_80 : decode cX6_reckonPair 80 = .ok (.istore 5, 2) := by decide +kernel
theorem dX6_reckonPair_82 : decode cX6_reckonPair 82 = .ok (.iload 6, 2) := by decide +kernel
theorem dX6_reckonPair_84 : decode cX6_reckonPair 84 = .ok (.iload 10, 2) := by decide +kernel
theorem dX6_reckonPair_86 : decode cX6_reckonPair 86 = .ok (.iadd, 1) := by decide +kernel
theorem dX6_reckonPair_87 : decode cX6_reckonPair 87 = .ok (.istore 6, 2) := by decide +kernel
theorem dX6_reckonPair_89 : decode cX6_reckonPair 89 = .ok (.iinc 7 1, 3) := by decide +kernel
theorem dX6_reckonPair_92 : decode cX6_reckonPair 92 = .ok (.goto (-74), 3) := by decide +kernel
theorem dX6_reckonPair_95 : decode cX6_reckonPair 95 = .ok (.iload_n 2, 1) := by decide +kernel
theorem dX6_reckonPair_96 : decode cX6_reckonPair 96 = .ok (.invokestatic 55, 3) := by decide +kernel
theorem dX6_reckonPair_99 : decode cX6_reckonPair 99 = .ok (.ifCond .eq 36, 3) := by decide +kernel
theorem dX6_reckonPair_102 : decode cX6_reckonPair 102 = .ok (.iload_n 3, 1) := by decide +kernel
theorem dX6_reckonPair_103 : decode cX6_reckonPair 103 = .ok (.invokestatic 55, 3) := by decide +kernel
theorem dX6_reckonPair_106 : decode cX6_reckonPair 106 = .ok (.ifCond .eq 29, 3) := by decide +kernel
theorem dX6_reckonPair_109 : decode cX6_reckonPair 109 = .ok (.aload_n 0, 1) := by decide +kernel
theorem dX6_reckonPair_110 : decode cX6_reckonPair 110 = .ok (.getfield 11, 3) := by decide +kernel
theorem dX6_reckonPair_113 : decode cX6_reckonPair 113 = .ok (.iload_n 2, 1) := by decide +kernel
theorem dX6_reckonPair_114 : decode cX6_reckonPair 114 = .ok (.bipush 6, 2) := by decide +kernel
theorem dX6_reckonPair_116 : decode cX6_reckonPair 116 = .ok (.imul, 1) := by decide +kernel
theorem dX6_reckonPair_117 : decode cX6_reckonPair 117 = .ok (.iload_n 3, 1) := by decide +kernel
theorem dX6_reckonPair_118 : decode cX6_reckonPair 118 = .ok (.iadd, 1) := by decide +kernel
theorem dX6_reckonPair_119 : decode cX6_reckonPair 119 = .ok (.iload 5, 2) := by decide +kernel
theorem dX6_reckonPair_121 : decode cX6_reckonPair 121 = .ok (.iastore, 1) := by decide +kernel
theorem dX6_reckonPair_122 : decode cX6_reckonPair 122 = .ok (.aload_n 0, 1) := by decide +kernel
theorem dX6_reckonPair_123 : decode cX6_reckonPair 123 = .ok (.getfield 17, 3) := by decide +kernel
theorem dX6_reckonPair_126 : decode cX6_reckonPair 126 = .ok (.iload_n 2, 1) := by decide +kernel
theorem dX6_reckonPair_127 : decode cX6_reckonPair 127 = .ok (.bipush 6, 2) := by decide +kernel
theorem dX6_reckonPair_129 : decode cX6_reckonPair 129 = .ok (.imul, 1) := by decide +kernel
theorem dX6_reckonPair_130 : decode cX6_reckonPair 130 = .ok (.iload_n 3, 1) := by decide +kernel
theorem dX6_reckonPair_131 : decode cX6_reckonPair 131 = .ok (.iadd, 1) := by decide +kernel
theorem dX6_reckonPair_132 : decode cX6_reckonPair 132 = .ok (.iload 6, 2) := by decide +kernel
theorem dX6_reckonPair_134 : decode cX6_reckonPair 134 = .ok (.iastore, 1) := by decide +kernel
theorem dX6_reckonPair_135 : decode cX6_reckonPair 135 = .ok (.return_, 1) := by decide +kernel
theorem dX6_rests_0 : decode cX6_rests 0 = .ok (.iload_n 1, 1) := by decide +kernel
theorem dX6_rests_1 : decode cX6_rests 1 = .ok (.invokestatic 55, 3) := by decide +kernel
theorem dX6_rests_4 : decode cX6_rests 4 = .ok (.ifCond .eq 10, 3) := by decide +kernel
theorem dX6_rests_7 : decode cX6_rests 7 = .ok (.iload_n 2, 1) := by decide +kernel
theorem dX6_rests_8 : decode cX6_rests 8 = .ok (.invokestatic 55, 3) := by decide +kernel
theorem dX6_rests_11 : decode cX6_rests 11 = .ok (.ifCond .ne 5, 3) := by decide +kernel
theorem dX6_rests_14 : decode cX6_rests 14 = .ok (.iconst 0, 1) := by decide +kernel
theorem dX6_rests_15 : decode cX6_rests 15 = .ok (.ireturn, 1) := by decide +kernel
theorem dX6_rests_16 : decode cX6_rests 16 = .ok (.iload_n 1, 1) := by decide +kernel
theorem dX6_rests_17 : decode cX6_rests 17 = .ok (.bipush 6, 2) := by decide +kernel
theorem dX6_rests_19 : decode cX6_rests 19 = .ok (.imul, 1) := by decide +kernel
theorem dX6_rests_20 : decode cX6_rests 20 = .ok (.iload_n 2, 1) := by decide +kernel
theorem dX6_rests_21 : decode cX6_rests 21 = .ok (.iadd, 1) := by decide +kernel
theorem dX6_rests_22 : decode cX6_rests 22 = .ok (.istore_n 3, 1) := by decide +kernel
theorem dX6_rests_23 : decode cX6_rests 23 = .ok (.iconst 0, 1) := by decide +kernel
theorem dX6_rests_24 : decode cX6_rests 24 = .ok (.istore 4, 2) := by decide +kernel
theorem dX6_rests_26 : decode cX6_rests 26 = .ok (.iload 4, 2) := by decide +kernel
theorem dX6_rests_28 : decode cX6_rests 28 = .ok (.bipush 6, 2) := by decide +kernel
theorem dX6_rests_30 : decode cX6_rests 30 = .ok (.if_icmp .ge 53, 3) := by decide +kernel
theorem dX6_rests_33 : decode cX6_rests 33 = .ok (.aload_n 0, 1) := by decide +kernel
theorem dX6_rests_34 : decode cX6_rests 34 = .ok (.getfield 11, 3) := by decide +kernel
theorem dX6_rests_37 : decode cX6_rests 37 = .ok (.iload 4, 2) := by decide +kernel
theorem dX6_rests_39 : decode cX6_rests 39 = .ok (.bipush 6, 2) := by decide +kernel
theorem dX6_rests_41 : decode cX6_rests 41 = .ok (.imul, 1) := by decide +kernel
theorem dX6_rests_42 : decode cX6_rests 42 = .ok (.iload_n 2, 1) := by decide +kernel
theorem dX6_rests_43 : decode cX6_rests 43 = .ok (.iadd, 1) := by decide +kernel
theorem dX6_rests_44 : decode cX6_rests 44 = .ok (.iaload, 1) := by decide +kernel
theorem dX6_rests_45 : decode cX6_rests 45 = .ok (.aload_n 0, 1) := by decide +kernel
theorem dX6_rests_46 : decode cX6_rests 46 = .ok (.getfield 11, 3) := by decide +kernel
theorem dX6_rests_49 : decode cX6_rests 49 = .ok (.iload_n 3, 1) := by decide +kernel
theorem dX6_rests_50 : decode cX6_rests 50 = .ok (.iaload, 1) := by decide +kernel
theorem dX6_rests_51 : decode cX6_rests 51 = .ok (.if_icmp .gt 24, 3) := by decide +kernel
theorem dX6_rests_54 : decode cX6_rests 54 = .ok (.aload_n 0, 1) := by decide +kernel
theorem dX6_rests_55 : decode cX6_rests 55 = .ok (.getfield 17, 3) := by decide +kernel
theorem dX6_rests_58 : decode cX6_rests 58 = .ok (.iload_n 1, 1) := by decide +kernel
theorem dX6_rests_59 : decode cX6_rests 59 = .ok (.bipush 6, 2) := by decide +kernel
theorem dX6_rests_61 : decode cX6_rests 61 = .ok (.imul, 1) := by decide +kernel
theorem dX6_rests_62 : decode cX6_rests 62 = .ok (.iload 4, 2) := by decide +kernel
theorem dX6_rests_64 : decode cX6_rests 64 = .ok (.iadd, 1) := by decide +kernel
theorem dX6_rests_65 : decode cX6_rests 65 = .ok (.iaload, 1) := by decide +kernel
theorem dX6_rests_66 : decode cX6_rests 66 = .ok (.aload_n 0, 1) := by decide +kernel
theorem dX6_rests_67 : decode cX6_rests 67 = .ok (.getfield 17, 3) := by decide +kernel
theorem dX6_rests_70 : decode cX6_rests 70 = .ok (.iload_n 3, 1) := by decide +kernel
theorem dX6_rests_71 : decode cX6_rests 71 = .ok (.iaload, 1) := by decide +kernel
theorem dX6_rests_72 : decode cX6_rests 72 = .ok (.if_icmp .le 5, 3) := by decide +kernel
theorem dX6_rests_75 : decode cX6_rests 75 = .ok (.iconst 0, 1) := by decide +kernel
theorem dX6_rests_76 : decode cX6_rests 76 = .ok (.ireturn, 1) := by decide +kernel
theorem dX6_rests_77 : decode cX6_rests 77 = .ok (.iinc 4 1, 3) := by decide +kernel
theorem dX6_rests_80 : decode cX6_rests 80 = .ok (.goto (-54), 3) := by decide +kernel
theorem dX6_rests_83 : decode cX6_rests 83 = .ok (.iconst 1, 1) := by decide +kernel
theorem dX6_rests_84 : decode cX6_rests 84 = .ok (.ireturn, 1) := by decide +kernel
theorem dJ9_max_7cf53_0 : decode cJ9_max_7cf53 0 = .ok (.iload_n 0, 1) := by decide +kernel
theorem dJ9_max_7cf53_1 : decode cJ9_max_7cf53 1 = .ok (.iload_n 1, 1) := by decide +kernel
theorem dJ9_max_7cf53_2 : decode cJ9_max_7cf53 2 = .ok (.if_icmp .lt 7, 3) := by decide +kernel
theorem dJ9_max_7cf53_5 : decode cJ9_max_7cf53 5 = .ok (.iload_n 0, 1) := by decide +kernel
theorem dJ9_max_7cf53_6 : decode cJ9_max_7cf53 6 = .ok (.goto 4, 3) := by decide +kernel
theorem dJ9_max_7cf53_9 : decode cJ9_max_7cf53 9 = .ok (.iload_n 1, 1) := by decide +kernel
theorem dJ9_max_7cf53_10 : decode cJ9_max_7cf53 10 = .ok (.ireturn, 1) := by decide +kernel
theorem dJ9_min_7cf53_0 : decode cJ9_min_7cf53 0 = .ok (.iload_n 0, 1) := by decide +kernel
theorem dJ9_min_7cf53_1 : decode cJ9_min_7cf53 1 = .ok (.iload_n 1, 1) := by decide +kernel
theorem dJ9_min_7cf53_2 : decode cJ9_min_7cf53 2 = .ok (.if_icmp .gt 7, 3) := by decide +kernel
theorem dJ9_min_7cf53_5 : decode cJ9_min_7cf53 5 = .ok (.iload_n 0, 1) := by decide +kernel
theorem dJ9_min_7cf53_6 : decode cJ9_min_7cf53 6 = .ok (.goto 4, 3) := by decide +kernel
theorem dJ9_min_7cf53_9 : decode cJ9_min_7cf53 9 = .ok (.iload_n 1, 1) := by decide +kernel
theorem dJ9_min_7cf53_10 : decode cJ9_min_7cf53 10 = .ok (.ireturn, 1) := by decide +kernel
theorem dJ0_length_8abf5_0 : decode cJ0_length_8abf5 0 = .ok (.aload_n 0, 1) := by decide +kernel
theorem dJ0_length_8abf5_1 : decode cJ0_length_8abf5 1 = .ok (.getfield 9, 3) := by decide +kernel
theorem dJ0_length_8abf5_4 : decode cJ0_length_8abf5 4 = .ok (.arraylength, 1) := by decide +kernel
theorem dJ0_length_8abf5_5 : decode cJ0_length_8abf5 5 = .ok (.aload_n 0, 1) := by decide +kernel
theorem dJ0_length_8abf5_6 : decode cJ0_length_8abf5 6 = .ok (.invokevirtual 335, 3) := by decide +kernel
theorem dJ0_length_8abf5_9 : decode cJ0_length_8abf5 9 = .ok (.ishr, 1) := by decide +kernel
theorem dJ0_length_8abf5_10 : decode cJ0_length_8abf5 10 = .ok (.ireturn, 1) := by decide +kernel
theorem dJ0_charAt_5068e_0 : decode cJ0_charAt_5068e 0 = .ok (.aload_n 0, 1) := by decide +kernel
theorem dJ0_charAt_5068e_1 : decode cJ0_charAt_5068e 1 = .ok (.invokevirtual 492, 3) := by decide +kernel
theorem dJ0_charAt_5068e_4 : decode cJ0_charAt_5068e 4 = .ok (.ifCond .eq 12, 3) := by decide +kernel
theorem dJ0_charAt_5068e_7 : decode cJ0_charAt_5068e 7 = .ok (.aload_n 0, 1) := by decide +kernel
theorem dJ0_charAt_5068e_8 : decode cJ0_charAt_5068e 8 = .ok (.getfield 9, 3) := by decide +kernel
theorem dJ0_charAt_5068e_11 : decode cJ0_charAt_5068e 11 = .ok (.iload_n 1, 1) := by decide +kernel
theorem dJ0_charAt_5068e_12 : decode cJ0_charAt_5068e 12 = .ok (.invokestatic 495, 3) := by decide +kernel
theorem dJ0_charAt_5068e_15 : decode cJ0_charAt_5068e 15 = .ok (.ireturn, 1) := by decide +kernel
theorem dJ0_charAt_5068e_16 : decode cJ0_charAt_5068e 16 = .ok (.aload_n 0, 1) := by decide +kernel
theorem dJ0_charAt_5068e_17 : decode cJ0_charAt_5068e 17 = .ok (.getfield 9, 3) := by decide +kernel
theorem dJ0_charAt_5068e_20 : decode cJ0_charAt_5068e 20 = .ok (.iload_n 1, 1) := by decide +kernel
theorem dJ0_charAt_5068e_21 : decode cJ0_charAt_5068e 21 = .ok (.invokestatic 498, 3) := by decide +kernel
theorem dJ0_charAt_5068e_24 : decode cJ0_charAt_5068e 24 = .ok (.ireturn, 1) := by decide +kernel
theorem dJ0_coder_7d493_0 : decode cJ0_coder_7d493 0 = .ok (.getstatic 38, 3) := by decide +kernel
theorem dJ0_coder_7d493_3 : decode cJ0_coder_7d493 3 = .ok (.ifCond .eq 10, 3) := by decide +kernel
theorem dJ0_coder_7d493_6 : decode cJ0_coder_7d493 6 = .ok (.aload_n 0, 1) := by decide +kernel
theorem dJ0_coder_7d493_7 : decode cJ0_coder_7d493 7 = .ok (.getfield 15, 3) := by decide +kernel
theorem dJ0_coder_7d493_10 : decode cJ0_coder_7d493 10 = .ok (.goto 4, 3) := by decide +kernel
theorem dJ0_coder_7d493_13 : decode cJ0_coder_7d493 13 = .ok (.iconst 1, 1) := by decide +kernel
theorem dJ0_coder_7d493_14 : decode cJ0_coder_7d493 14 = .ok (.ireturn, 1) := by decide +kernel
theorem dJ0_isLatin1_aae02_0 : decode cJ0_isLatin1_aae02 0 = .ok (.getstatic 38, 3) := by decide +kernel
theorem dJ0_isLatin1_aae02_3 : decode cJ0_isLatin1_aae02 3 = .ok (.ifCond .eq 14, 3) := by decide +kernel
theorem dJ0_isLatin1_aae02_6 : decode cJ0_isLatin1_aae02 6 = .ok (.aload_n 0, 1) := by decide +kernel
theorem dJ0_isLatin1_aae02_7 : decode cJ0_isLatin1_aae02 7 = .ok (.getfield 15, 3) := by decide +kernel
theorem dJ0_isLatin1_aae02_10 : decode cJ0_isLatin1_aae02 10 = .ok (.ifCond .ne 7, 3) := by decide +kernel
theorem dJ0_isLatin1_aae02_13 : decode cJ0_isLatin1_aae02 13 = .ok (.iconst 1, 1) := by decide +kernel
theorem dJ0_isLatin1_aae02_14 : decode cJ0_isLatin1_aae02 14 = .ok (.goto 4, 3) := by decide +kernel
theorem dJ0_isLatin1_aae02_17 : decode cJ0_isLatin1_aae02 17 = .ok (.iconst 0, 1) := by decide +kernel
theorem dJ0_isLatin1_aae02_18 : decode cJ0_isLatin1_aae02 18 = .ok (.ireturn, 1) := by decide +kernel
theorem dJ0_checkIndex_df160_0 : decode cJ0_checkIndex_df160 0 = .ok (.iload_n 0, 1) := by decide +kernel
theorem dJ0_checkIndex_df160_1 : decode cJ0_checkIndex_df160 1 = .ok (.iload_n 1, 1) := by decide +kernel
theorem dJ0_checkIndex_df160_2 : decode cJ0_checkIndex_df160 2 = .ok (.getstatic 1053, 3) := by decide +kernel
theorem dJ0_checkIndex_df160_5 : decode cJ0_checkIndex_df160 5 = .ok (.invokestatic 1059, 3) := by decide +kernel
theorem dJ0_checkIndex_df160_8 : decode cJ0_checkIndex_df160 8 = .ok (.pop, 1) := by decide +kernel
theorem dJ0_checkIndex_df160_9 : decode cJ0_checkIndex_df160 9 = .ok (.return_, 1) := by decide +kernel
theorem dJ1_charAt_3b067_0 : decode cJ1_charAt_3b067 0 = .ok (.iload_n 1, 1) := by decide +kernel
theorem dJ1_charAt_3b067_1 : decode cJ1_charAt_3b067 1 = .ok (.aload_n 0, 1) := by decide +kernel
theorem dJ1_charAt_3b067_2 : decode cJ1_charAt_3b067 2 = .ok (.arraylength, 1) := by decide +kernel
theorem dJ1_charAt_3b067_3 : decode cJ1_charAt_3b067 3 = .ok (.invokestatic 9, 3) := by decide +kernel
theorem dJ1_charAt_3b067_6 : decode cJ1_charAt_3b067 6 = .ok (.aload_n 0, 1) := by decide +kernel
theorem dJ1_charAt_3b067_7 : decode cJ1_charAt_3b067 7 = .ok (.iload_n 1, 1) := by decide +kernel
theorem dJ1_charAt_3b067_8 : decode cJ1_charAt_3b067 8 = .ok (.baload, 1) := by decide +kernel
theorem dJ1_charAt_3b067_9 : decode cJ1_charAt_3b067 9 = .ok (.sipush 255, 3) := by decide +kernel
theorem dJ1_charAt_3b067_12 : decode cJ1_charAt_3b067 12 = .ok (.iand, 1) := by decide +kernel
theorem dJ1_charAt_3b067_13 : decode cJ1_charAt_3b067 13 = .ok (.i2c, 1) := by decide +kernel
theorem dJ1_charAt_3b067_14 : decode cJ1_charAt_3b067 14 = .ok (.ireturn, 1) := by decide +kernel
theorem dJ2_getChar_3b067_0 : decode cJ2_getChar_3b067 0 = .ok (.getstatic 44, 3) := by decide +kernel
theorem dJ2_getChar_3b067_3 : decode cJ2_getChar_3b067 3 = .ok (.ifCond .ne 25, 3) := by decide +kernel
theorem dJ2_getChar_3b067_6 : decode cJ2_getChar_3b067 6 = .ok (.iload_n 1, 1) := by decide +kernel
theorem dJ2_getChar_3b067_7 : decode cJ2_getChar_3b067 7 = .ok (.ifCond .lt 11, 3) := by decide +kernel
theorem dJ2_getChar_3b067_10 : decode cJ2_getChar_3b067 10 = .ok (.iload_n 1, 1) := by decide +kernel
theorem dJ2_getChar_3b067_11 : decode cJ2_getChar_3b067 11 = .ok (.aload_n 0, 1) := by decide +kernel
theorem dJ2_getChar_3b067_12 : decode cJ2_getChar_3b067 12 = .ok (.invokestatic 48, 3) := by decide +kernel
theorem dJ2_getChar_3b067_15 : decode cJ2_getChar_3b067 15 = .ok (.if_icmp .lt 13, 3) := by decide +kernel
theorem dJ2_getChar_3b067_18 : decode cJ2_getChar_3b067 18 = .ok (.new 52, 3) := by decide +kernel
theorem dJ2_getChar_3b067_21 : decode cJ2_getChar_3b067 21 = .ok (.dup, 1) := by decide +kernel
theorem dJ2_getChar_3b067_22 : decode cJ2_getChar_3b067 22 = .ok (.ldc 54, 2) := by decide +kernel
theorem dJ2_getChar_3b067_24 : decode cJ2_getChar_3b067 24 = .ok (.invokespecial 56, 3) := by decide +kernel
theorem dJ2_getChar_3b067_27 : decode cJ2_getChar_3b067 27 = .ok (.athrow, 1) := by decide +kernel
theorem dJ2_getChar_3b067_28 : decode cJ2_getChar_3b067 28 = .ok (.iload_n 1, 1) := by decide +kernel
theorem dJ2_getChar_3b067_29 : decode cJ2_getChar_3b067 29 = .ok (.iconst 1, 1) := by decide +kernel
theorem dJ2_getChar_3b067_30 : decode cJ2_getChar_3b067 30 = .ok (.ishl, 1) := by decide +kernel
theorem dJ2_getChar_3b067_31 : decode cJ2_getChar_3b067 31 = .ok (.istore_n 1, 1) := by decide +kernel
theorem dJ2_getChar_3b067_32 : decode cJ2_getChar_3b067 32 = .ok (.aload_n 0, 1) := by decide +kernel
theorem dJ2_getChar_3b067_33 : decode cJ2_getChar_3b067 33 = .ok (.iload_n 1, 1) := by decide +kernel
theorem dJ2_getChar_3b067_34 : decode cJ2_getChar_3b067 34 = .ok (.iinc 1 1, 3) := by decide +kernel
theorem dJ2_getChar_3b067_37 : decode cJ2_getChar_3b067 37 = .ok (.baload, 1) := by decide +kernel
theorem dJ2_getChar_3b067_38 : decode cJ2_getChar_3b067 38 = .ok (.sipush 255, 3) := by decide +kernel
theorem dJ2_getChar_3b067_41 : decode cJ2_getChar_3b067 41 = .ok (.iand, 1) := by decide +kernel
theorem dJ2_getChar_3b067_42 : decode cJ2_getChar_3b067 42 = .ok (.getstatic 59, 3) := by decide +kernel
theorem dJ2_getChar_3b067_45 : decode cJ2_getChar_3b067 45 = .ok (.ishl, 1) := by decide +kernel
theorem dJ2_getChar_3b067_46 : decode cJ2_getChar_3b067 46 = .ok (.aload_n 0, 1) := by decide +kernel
theorem dJ2_getChar_3b067_47 : decode cJ2_getChar_3b067 47 = .ok (.iload_n 1, 1) := by decide +kernel
theorem dJ2_getChar_3b067_48 : decode cJ2_getChar_3b067 48 = .ok (.baload, 1) := by decide +kernel
theorem dJ2_getChar_3b067_49 : decode cJ2_getChar_3b067 49 = .ok (.sipush 255, 3) := by decide +kernel
theorem dJ2_getChar_3b067_52 : decode cJ2_getChar_3b067 52 = .ok (.iand, 1) := by decide +kernel
theorem dJ2_getChar_3b067_53 : decode cJ2_getChar_3b067 53 = .ok (.getstatic 63, 3) := by decide +kernel
theorem dJ2_getChar_3b067_56 : decode cJ2_getChar_3b067 56 = .ok (.ishl, 1) := by decide +kernel
theorem dJ2_getChar_3b067_57 : decode cJ2_getChar_3b067 57 = .ok (.ior, 1) := by decide +kernel
theorem dJ2_getChar_3b067_58 : decode cJ2_getChar_3b067 58 = .ok (.i2c, 1) := by decide +kernel
theorem dJ2_getChar_3b067_59 : decode cJ2_getChar_3b067 59 = .ok (.ireturn, 1) := by decide +kernel
theorem dJ2_length_9d52b_0 : decode cJ2_length_9d52b 0 = .ok (.aload_n 0, 1) := by decide +kernel
theorem dJ2_length_9d52b_1 : decode cJ2_length_9d52b 1 = .ok (.arraylength, 1) := by decide +kernel
theorem dJ2_length_9d52b_2 : decode cJ2_length_9d52b 2 = .ok (.iconst 1, 1) := by decide +kernel
theorem dJ2_length_9d52b_3 : decode cJ2_length_9d52b 3 = .ok (.ishr, 1) := by decide +kernel
theorem dJ2_length_9d52b_4 : decode cJ2_length_9d52b 4 = .ok (.ireturn, 1) := by decide +kernel
theorem dJ2_charAt_3b067_0 : decode cJ2_charAt_3b067 0 = .ok (.iload_n 1, 1) := by decide +kernel
theorem dJ2_charAt_3b067_1 : decode cJ2_charAt_3b067 1 = .ok (.aload_n 0, 1) := by decide +kernel
theorem dJ2_charAt_3b067_2 : decode cJ2_charAt_3b067 2 = .ok (.invokestatic 67, 3) := by decide +kernel
theorem dJ2_charAt_3b067_5 : decode cJ2_charAt_3b067 5 = .ok (.aload_n 0, 1) := by decide +kernel
theorem dJ2_charAt_3b067_6 : decode cJ2_charAt_3b067 6 = .ok (.iload_n 1, 1) := by decide +kernel
theorem dJ2_charAt_3b067_7 : decode cJ2_charAt_3b067 7 = .ok (.invokestatic 71, 3) := by decide +kernel
theorem dJ2_charAt_3b067_10 : decode cJ2_charAt_3b067 10 = .ok (.ireturn, 1) := by decide +kernel
theorem dJ2_checkIndex_2214a_0 : decode cJ2_checkIndex_2214a 0 = .ok (.iload_n 0, 1) := by decide +kernel
theorem dJ2_checkIndex_2214a_1 : decode cJ2_checkIndex_2214a 1 = .ok (.aload_n 1, 1) := by decide +kernel
theorem dJ2_checkIndex_2214a_2 : decode cJ2_checkIndex_2214a 2 = .ok (.invokestatic 48, 3) := by decide +kernel
theorem dJ2_checkIndex_2214a_5 : decode cJ2_checkIndex_2214a 5 = .ok (.invokestatic 414, 3) := by decide +kernel
theorem dJ2_checkIndex_2214a_8 : decode cJ2_checkIndex_2214a 8 = .ok (.return_, 1) := by decide +kernel
theorem dJ3_checkIndex_8e157_0 : decode cJ3_checkIndex_8e157 0 = .ok (.iload_n 0, 1) := by decide +kernel
theorem dJ3_checkIndex_8e157_1 : decode cJ3_checkIndex_8e157 1 = .ok (.ifCond .lt 8, 3) := by decide +kernel
theorem dJ3_checkIndex_8e157_4 : decode cJ3_checkIndex_8e157 4 = .ok (.iload_n 0, 1) := by decide +kernel
theorem dJ3_checkIndex_8e157_5 : decode cJ3_checkIndex_8e157 5 = .ok (.iload_n 1, 1) := by decide +kernel
theorem dJ3_checkIndex_8e157_6 : decode cJ3_checkIndex_8e157 6 = .ok (.if_icmp .lt 10, 3) := by decide +kernel
theorem dJ3_checkIndex_8e157_9 : decode cJ3_checkIndex_8e157 9 = .ok (.aload_n 2, 1) := by decide +kernel
theorem dJ3_checkIndex_8e157_10 : decode cJ3_checkIndex_8e157 10 = .ok (.iload_n 0, 1) := by decide +kernel
theorem dJ3_checkIndex_8e157_11 : decode cJ3_checkIndex_8e157 11 = .ok (.iload_n 1, 1) := by decide +kernel
theorem dJ3_checkIndex_8e157_12 : decode cJ3_checkIndex_8e157 12 = .ok (.invokestatic 95, 3) := by decide +kernel
theorem dJ3_checkIndex_8e157_15 : decode cJ3_checkIndex_8e157 15 = .ok (.athrow, 1) := by decide +kernel
theorem dJ3_checkIndex_8e157_16 : decode cJ3_checkIndex_8e157 16 = .ok (.iload_n 0, 1) := by decide +kernel
theorem dJ3_checkIndex_8e157_17 : decode cJ3_checkIndex_8e157 17 = .ok (.ireturn, 1) := by decide +kernel
