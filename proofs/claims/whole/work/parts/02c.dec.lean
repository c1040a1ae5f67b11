theorem dX8_init_0 : decode cX8_init 0 = .ok (.aload_n 0, 1) := by decide +kernel
theorem dX8_init_1 : decode cX8_init 1 = .ok (.invokespecial 1, 3) := by decide +kernel
theorem dX8_init_4 : decode cX8_init 4 = .ok (.aload_n 0, 1) := by decide +kernel
theorem dX8_init_5 : decode cX8_init 5 = .ok (.sipush 456, 3) := by decide +kernel
theorem dX8_init_8 : decode cX8_init 8 = .ok (.newarray .int, 2) := by decide +kernel
theorem dX8_init_10 : decode cX8_init 10 = .ok (.putfield 7, 3) := by decide +kernel
theorem dX8_init_13 : decode cX8_init 13 = .ok (.aload_n 0, 1) := by decide +kernel
theorem dX8_init_14 : decode cX8_init 14 = .ok (.iconst 2, 1) := by decide +kernel
theorem dX8_init_15 : decode cX8_init 15 = .ok (.newarray .boolean, 2) := by decide +kernel
theorem dX8_init_17 : decode cX8_init 17 = .ok (.putfield 13, 3) := by decide +kernel
theorem dX8_init_20 : decode cX8_init 20 = .ok (.aload_n 0, 1) := by decide +kernel
theorem dX8_init_21 : decode cX8_init 21 = .ok (.sipush 150, 3) := by decide +kernel
theorem dX8_init_24 : decode cX8_init 24 = .ok (.newarray .int, 2) := by decide +kernel
theorem dX8_init_26 : decode cX8_init 26 = .ok (.putfield 17, 3) := by decide +kernel
theorem dX8_init_29 : decode cX8_init 29 = .ok (.aload_n 0, 1) := by decide +kernel
theorem dX8_init_30 : decode cX8_init 30 = .ok (.lconst 0, 1) := by decide +kernel
theorem dX8_init_31 : decode cX8_init 31 = .ok (.putfield 20, 3) := by decide +kernel
theorem dX8_init_34 : decode cX8_init 34 = .ok (.aload_n 0, 1) := by decide +kernel
theorem dX8_init_35 : decode cX8_init 35 = .ok (.lconst 1, 1) := by decide +kernel
theorem dX8_init_36 : decode cX8_init 36 = .ok (.putfield 24, 3) := by decide +kernel
theorem dX8_init_39 : decode cX8_init 39 = .ok (.aload_n 0, 1) := by decide +kernel
theorem dX8_init_40 : decode cX8_init 40 = .ok (.iconst 3, 1) := by decide +kernel
theorem dX8_init_41 : decode cX8_init 41 = .ok (.newarray .int, 2) := by decide +kernel
theorem dX8_init_43 : decode cX8_init 43 = .ok (.putfield 27, 3) := by decide +kernel
theorem dX8_init_46 : decode cX8_init 46 = .ok (.aload_n 0, 1) := by decide +kernel
theorem dX8_init_47 : decode cX8_init 47 = .ok (.bipush 6, 2) := by decide +kernel
theorem dX8_init_49 : decode cX8_init 49 = .ok (.newarray .int, 2) := by decide +kernel
theorem dX8_init_51 : decode cX8_init 51 = .ok (.putfield 30, 3) := by decide +kernel
theorem dX8_init_54 : decode cX8_init 54 = .ok (.aload_n 0, 1) := by decide +kernel
theorem dX8_init_55 : decode cX8_init 55 = .ok (.bipush 6, 2) := by decide +kernel
theorem dX8_init_57 : decode cX8_init 57 = .ok (.newarray .int, 2) := by decide +kernel
theorem dX8_init_59 : decode cX8_init 59 = .ok (.putfield 33, 3) := by decide +kernel
theorem dX8_init_62 : decode cX8_init 62 = .ok (.aload_n 0, 1) := by decide +kernel
theorem dX8_init_63 : decode cX8_init 63 = .ok (.bipush 6, 2) := by decide +kernel
theorem dX8_init_65 : decode cX8_init 65 = .ok (.newarray .int, 2) := by decide +kernel
theorem dX8_init_67 : decode cX8_init 67 = .ok (.putfield 36, 3) := by decide +kernel
theorem dX8_init_70 : decode cX8_init 70 = .ok (.aload_n 0, 1) := by decide +kernel
theorem dX8_init_71 : decode cX8_init 71 = .ok (.iconst 5, 1) := by decide +kernel
theorem dX8_init_72 : decode cX8_init 72 = .ok (.newarray .int, 2) := by decide +kernel
theorem dX8_init_74 : decode cX8_init 74 = .ok (.putfield 39, 3) := by decide +kernel
theorem dX8_init_77 : decode cX8_init 77 = .ok (.aload_n 0, 1) := by decide +kernel
theorem dX8_init_78 : decode cX8_init 78 = .ok (.bipush 62, 2) := by decide +kernel
theorem dX8_init_80 : decode cX8_init 80 = .ok (.newarray .int, 2) := by decide +kernel
theorem dX8_init_82 : decode cX8_init 82 = .ok (.putfield 42, 3) := by decide +kernel
theorem dX8_init_85 : decode cX8_init 85 = .ok (.aload_n 0, 1) := by decide +kernel
theorem dX8_init_86 : decode cX8_init 86 = .ok (.bipush 6, 2) := by decide +kernel
theorem dX8_init_88 : decode cX8_init 88 = .ok (.newarray .int, 2) := by decide +kernel
theorem dX8_init_90 : decode cX8_init 90 = .ok (.putfield 45, 3) := by decide +kernel
theorem dX8_init_93 : decode cX8_init 93 = .ok (.aload_n 0, 1) := by decide +kernel
theorem dX8_init_94 : decode cX8_init 94 = .ok (.iconst 0, 1) := by decide +kernel
theorem dX8_init_95 : decode cX8_init 95 = .ok (.putfield 48, 3) := by decide +kernel
theorem dX8_init_98 : decode cX8_init 98 = .ok (.aload_n 0, 1) := by decide +kernel
theorem dX8_init_99 : decode cX8_init 99 = .ok (.iconst 0, 1) := by decide +kernel
theorem dX8_init_100 : decode cX8_init 100 = .ok (.bipush 20, 2) := by decide +kernel
theorem dX8_init_102 : decode cX8_init 102 = .ok (.bipush 100, 2) := by decide +kernel
theorem dX8_init_104 : decode cX8_init 104 = .ok (.invokevirtual 52, 3) := by decide +kernel
theorem dX8_init_107 : decode cX8_init 107 = .ok (.return_, 1) := by decide +kernel
theorem dX8_in_0 : decode cX8_in 0 = .ok (.lload_n 0, 1) := by decide +kernel
theorem dX8_in_1 : decode cX8_in 1 = .ok (.lload_n 2, 1) := by decide +kernel
theorem dX8_in_2 : decode cX8_in 2 = .ok (.lcmp, 1) := by decide +kernel
theorem dX8_in_3 : decode cX8_in 3 = .ok (.ifCond .lt 14, 3) := by decide +kernel
theorem dX8_in_6 : decode cX8_in 6 = .ok (.lload_n 0, 1) := by decide +kernel
theorem dX8_in_7 : decode cX8_in 7 = .ok (.lload 4, 2) := by decide +kernel
theorem dX8_in_9 : decode cX8_in 9 = .ok (.lcmp, 1) := by decide +kernel
theorem dX8_in_10 : decode cX8_in 10 = .ok (.ifCond .gt 7, 3) := by decide +kernel
theorem dX8_in_13 : decode cX8_in 13 = .ok (.iconst 1, 1) := by decide +kernel
theorem dX8_in_14 : decode cX8_in 14 = .ok (.goto 4, 3) := by decide +kernel
theorem dX8_in_17 : decode cX8_in 17 = .ok (.iconst 0, 1) := by decide +kernel
theorem dX8_in_18 : decode cX8_in 18 = .ok (.ireturn, 1) := by decide +kernel
theorem dX8_has_0 : decode cX8_has 0 = .ok (.iload_n 0, 1) := by decide +kernel
theorem dX8_has_1 : decode cX8_has 1 = .ok (.iload_n 1, 1) := by decide +kernel
theorem dX8_has_2 : decode cX8_has 2 = .ok (.ishr, 1) := by decide +kernel
theorem dX8_has_3 : decode cX8_has 3 = .ok (.iconst 1, 1) := by decide +kernel
theorem dX8_has_4 : decode cX8_has 4 = .ok (.iand, 1) := by decide +kernel
theorem dX8_has_5 : decode cX8_has 5 = .ok (.iconst 1, 1) := by decide +kernel
theorem dX8_has_6 : decode cX8_has 6 = .ok (.if_icmp .ne 7, 3) := by decide +kernel
theorem dX8_has_9 : decode cX8_has 9 = .ok (.iconst 1, 1) := by decide +kernel
theorem dX8_has_10 : decode cX8_has 10 = .ok (.goto 4, 3) := by decide +kernel
theorem dX8_has_13 : decode cX8_has 13 = .ok (.iconst 0, 1) := by decide +kernel
theorem dX8_has_14 : decode cX8_has 14 = .ok (.ireturn, 1) := by decide +kernel
theorem dX8_bad_0 : decode cX8_bad 0 = .ok (.aload_n 0, 1) := by decide +kernel
theorem dX8_bad_1 : decode cX8_bad 1 = .ok (.getfield 27, 3) := by decide +kernel
theorem dX8_bad_4 : decode cX8_bad 4 = .ok (.iconst 0, 1) := by decide +kernel
theorem dX8_bad_5 : decode cX8_bad 5 = .ok (.dup2, 1) := by decide +kernel
theorem dX8_bad_6 : decode cX8_bad 6 = .ok (.iaload, 1) := by decide +kernel
theorem dX8_bad_7 : decode cX8_bad 7 = .ok (.iconst 1, 1) := by decide +kernel
theorem dX8_bad_8 : decode cX8_bad 8 = .ok (.iadd, 1) := by decide +kernel
theorem dX8_bad_9 : decode cX8_bad 9 = .ok (.iastore, 1) := by decide +kernel
theorem dX8_bad_10 : decode cX8_bad 10 = .ok (.iload_n 1, 1) := by decide +kernel
theorem dX8_bad_11 : decode cX8_bad 11 = .ok (.ireturn, 1) := by decide +kernel
theorem dX8_no_0 : decode cX8_no 0 = .ok (.aload_n 0, 1) := by decide +kernel
theorem dX8_no_1 : decode cX8_no 1 = .ok (.getfield 27, 3) := by decide +kernel
theorem dX8_no_4 : decode cX8_no 4 = .ok (.iconst 1, 1) := by decide +kernel
theorem dX8_no_5 : decode cX8_no 5 = .ok (.dup2, 1) := by decide +kernel
theorem dX8_no_6 : decode cX8_no 6 = .ok (.iaload, 1) := by decide +kernel
theorem dX8_no_7 : decode cX8_no 7 = .ok (.iconst 1, 1) := by decide +kernel
theorem dX8_no_8 : decode cX8_no 8 = .ok (.iadd, 1) := by decide +kernel
theorem dX8_no_9 : decode cX8_no 9 = .ok (.iastore, 1) := by decide +kernel
theorem dX8_no_10 : decode cX8_no 10 = .ok (.bipush (-3), 2) := by decide +kernel
theorem dX8_no_12 : decode cX8_no 12 = .ok (.ireturn, 1) := by decide +kernel
theorem dX8_full_0 : decode cX8_full 0 = .ok (.aload_n 0, 1) := by decide +kernel
theorem dX8_full_1 : decode cX8_full 1 = .ok (.getfield 27, 3) := by decide +kernel
theorem dX8_full_4 : decode cX8_full 4 = .ok (.iconst 2, 1) := by decide +kernel
theorem dX8_full_5 : decode cX8_full 5 = .ok (.dup2, 1) := by decide +kernel
theorem dX8_full_6 : decode cX8_full 6 = .ok (.iaload, 1) := by decide +kernel
theorem dX8_full_7 : decode cX8_full 7 = .ok (.iconst 1, 1) := by decide +kernel
theorem dX8_full_8 : decode cX8_full 8 = .ok (.iadd, 1) := by decide +kernel
theorem dX8_full_9 : decode cX8_full 9 = .ok (.iastore, 1) := by decide +kernel
theorem dX8_full_10 : decode cX8_full 10 = .ok (.bipush (-4), 2) := by decide +kernel
theorem dX8_full_12 : decode cX8_full 12 = .ok (.ireturn, 1) := by decide +kernel
theorem dX8_copy_0 : decode cX8_copy 0 = .ok (.iconst 0, 1) := by decide +kernel
theorem dX8_copy_1 : decode cX8_copy 1 = .ok (.istore_n 3, 1) := by decide +kernel
theorem dX8_copy_2 : decode cX8_copy 2 = .ok (.iload_n 3, 1) := by decide +kernel
theorem dX8_copy_3 : decode cX8_copy 3 = .ok (.bipush 114, 2) := by decide +kernel
theorem dX8_copy_5 : decode cX8_copy 5 = .ok (.if_icmp .ge 25, 3) := by decide +kernel
theorem dX8_copy_8 : decode cX8_copy 8 = .ok (.aload_n 0, 1) := by decide +kernel
theorem dX8_copy_9 : decode cX8_copy 9 = .ok (.getfield 7, 3) := by decide +kernel
theorem dX8_copy_12 : decode cX8_copy 12 = .ok (.iload_n 2, 1) := by decide +kernel
theorem dX8_copy_13 : decode cX8_copy 13 = .ok (.iload_n 3, 1) := by decide +kernel
theorem dX8_copy_14 : decode cX8_copy 14 = .ok (.iadd, 1) := by decide +kernel
theorem dX8_copy_15 : decode cX8_copy 15 = .ok (.aload_n 0, 1) := by decide +kernel
theorem dX8_copy_16 : decode cX8_copy 16 = .ok (.getfield 7, 3) := by decide +kernel
theorem dX8_copy_19 : decode cX8_copy 19 = .ok (.iload_n 1, 1) := by decide +kernel
theorem dX8_copy_20 : decode cX8_copy 20 = .ok (.iload_n 3, 1) := by decide +kernel
theorem dX8_copy_21 : decode cX8_copy 21 = .ok (.iadd, 1) := by decide +kernel
theorem dX8_copy_22 : decode cX8_copy 22 = .ok (.iaload, 1) := by decide +kernel
theorem dX8_copy_23 : decode cX8_copy 23 = .ok (.iastore, 1) := by decide +kernel
theorem dX8_copy_24 : decode cX8_copy 24 = .ok (.iinc 3 1, 3) := by decide +kernel
theorem dX8_copy_27 : decode cX8_copy 27 = .ok (.goto (-25), 3) := by decide +kernel
theorem dX8_copy_30 : decode cX8_copy 30 = .ok (.return_, 1) := by decide +kernel
theorem dX8_begins_0 : decode cX8_begins 0 = .ok (.iconst 0, 1) := by decide +kernel
theorem dX8_begins_1 : decode cX8_begins 1 = .ok (.istore 4, 2) := by decide +kernel
theorem dX8_begins_3 : decode cX8_begins 3 = .ok (.iload 4, 2) := by decide +kernel
theorem dX8_begins_5 : decode cX8_begins 5 = .ok (.bipush 114, 2) := by decide +kernel
theorem dX8_begins_7 : decode cX8_begins 7 = .ok (.if_icmp .ge 19, 3) := by decide +kernel
theorem dX8_begins_10 : decode cX8_begins 10 = .ok (.aload_n 0, 1) := by decide +kernel
theorem dX8_begins_11 : decode cX8_begins 11 = .ok (.getfield 7, 3) := by decide +kernel
theorem dX8_begins_14 : decode cX8_begins 14 = .ok (.iload_n 1, 1) := by decide +kernel
theorem dX8_begins_15 : decode cX8_begins 15 = .ok (.iload 4, 2) := by decide +kernel
theorem dX8_begins_17 : decode cX8_begins 17 = .ok (.iadd, 1) := by decide +kernel
theorem dX8_begins_18 : decode cX8_begins 18 = .ok (.iconst 0, 1) := by decide +kernel
theorem dX8_begins_19 : decode cX8_begins 19 = .ok (.iastore, 1) := by decide +kernel
theorem dX8_begins_20 : decode cX8_begins 20 = .ok (.iinc 4 1, 3) := by decide +kernel
theorem dX8_begins_23 : decode cX8_begins 23 = .ok (.goto (-20), 3) := by decide +kernel
theorem dX8_begins_26 : decode cX8_begins 26 = .ok (.aload_n 0, 1) := by decide +kernel
theorem dX8_begins_27 : decode cX8_begins 27 = .ok (.getfield 7, 3) := by decide +kernel
theorem dX8_begins_30 : decode cX8_begins 30 = .ok (.iload_n 1, 1) := by decide +kernel
theorem dX8_begins_31 : decode cX8_begins 31 = .ok (.bipush 11, 2) := by decide +kernel
theorem dX8_begins_33 : decode cX8_begins 33 = .ok (.iadd, 1) := by decide +kernel
theorem dX8_begins_34 : decode cX8_begins 34 = .ok (.iload_n 2, 1) := by decide +kernel
theorem dX8_begins_35 : decode cX8_begins 35 = .ok (.iastore, 1) := by decide +kernel
theorem dX8_begins_36 : decode cX8_begins 36 = .ok (.aload_n 0, 1) := by decide +kernel
theorem dX8_begins_37 : decode cX8_begins 37 = .ok (.getfield 7, 3) := by decide +kernel
theorem dX8_begins_40 : decode cX8_begins 40 = .ok (.iload_n 1, 1) := by decide +kernel
theorem dX8_begins_41 : decode cX8_begins 41 = .ok (.bipush 14, 2) := by decide +kernel
theorem dX8_begins_43 : decode cX8_begins 43 = .ok (.iadd, 1) := by decide +kernel
theorem dX8_begins_44 : decode cX8_begins 44 = .ok (.iload_n 3, 1) := by decide +kernel
theorem dX8_begins_45 : decode cX8_begins 45 = .ok (.iastore, 1) := by decide +kernel
theorem dX8_begins_46 : decode cX8_begins 46 = .ok (.return_, 1) := by decide +kernel
theorem dX8_isString_0 : decode cX8_isString 0 = .ok (.iload_n 1, 1) := by decide +kernel
theorem dX8_isString_1 : decode cX8_isString 1 = .ok (.i2l, 1) := by decide +kernel
theorem dX8_isString_2 : decode cX8_isString 2 = .ok (.lconst 0, 1) := by decide +kernel
theorem dX8_isString_3 : decode cX8_isString 3 = .ok (.aload_n 0, 1) := by decide +kernel
theorem dX8_isString_4 : decode cX8_isString 4 = .ok (.getfield 7, 3) := by decide +kernel
theorem dX8_isString_7 : decode cX8_isString 7 = .ok (.iconst 0, 1) := by decide +kernel
theorem dX8_isString_8 : decode cX8_isString 8 = .ok (.iaload, 1) := by decide +kernel
theorem dX8_isString_9 : decode cX8_isString 9 = .ok (.iconst 1, 1) := by decide +kernel
theorem dX8_isString_10 : decode cX8_isString 10 = .ok (.isub, 1) := by decide +kernel
theorem dX8_isString_11 : decode cX8_isString 11 = .ok (.i2l, 1) := by decide +kernel
theorem dX8_isString_12 : decode cX8_isString 12 = .ok (.invokestatic 56, 3) := by decide +kernel
theorem dX8_isString_15 : decode cX8_isString 15 = .ok (.ireturn, 1) := by decide +kernel
theorem dX8_isHouse_0 : decode cX8_isHouse 0 = .ok (.iload_n 0, 1) := by decide +kernel
theorem dX8_isHouse_1 : decode cX8_isHouse 1 = .ok (.i2l, 1) := by decide +kernel
theorem dX8_isHouse_2 : decode cX8_isHouse 2 = .ok (.lconst 0, 1) := by decide +kernel
theorem dX8_isHouse_3 : decode cX8_isHouse 3 = .ok (.lconst 1, 1) := by decide +kernel
theorem dX8_isHouse_4 : decode cX8_isHouse 4 = .ok (.invokestatic 56, 3) := by decide +kernel
theorem dX8_isHouse_7 : decode cX8_isHouse 7 = .ok (.ireturn, 1) := by decide +kernel
theorem dX8_silk_0 : decode cX8_silk 0 = .ok (.iload_n 1, 1) := by decide +kernel
theorem dX8_silk_1 : decode cX8_silk 1 = .ok (.bipush 6, 2) := by decide +kernel
theorem dX8_silk_3 : decode cX8_silk 3 = .ok (.if_icmp .lt 9, 3) := by decide +kernel
theorem dX8_silk_6 : decode cX8_silk 6 = .ok (.iload_n 1, 1) := by decide +kernel
theorem dX8_silk_7 : decode cX8_silk 7 = .ok (.bipush 18, 2) := by decide +kernel
theorem dX8_silk_9 : decode cX8_silk 9 = .ok (.if_icmp .lt 7, 3) := by decide +kernel
theorem dX8_silk_12 : decode cX8_silk 12 = .ok (.iconst 0, 1) := by decide +kernel
theorem dX8_silk_13 : decode cX8_silk 13 = .ok (.goto 4, 3) := by decide +kernel
theorem dX8_silk_16 : decode cX8_silk 16 = .ok (.iload_n 0, 1) := by decide +kernel
theorem dX8_silk_17 : decode cX8_silk 17 = .ok (.ireturn, 1) := by decide +kernel
theorem dX8_showOf_0 : decode cX8_showOf 0 = .ok (.iload_n 0, 1) := by decide +kernel
theorem dX8_showOf_1 : decode cX8_showOf 1 = .ok (.tableswitch 89 1 5 #[35, 41, 54, 58, 68], 35) := by decide +kernel
theorem dX8_showOf_36 : decode cX8_showOf 36 = .ok (.iload_n 1, 1) := by decide +kernel
theorem dX8_showOf_37 : decode cX8_showOf 37 = .ok (.iload_n 2, 1) := by decide +kernel
theorem dX8_showOf_38 : decode cX8_showOf 38 = .ok (.invokestatic 60, 3) := by decide +kernel
theorem dX8_showOf_41 : decode cX8_showOf 41 = .ok (.ireturn, 1) := by decide +kernel
theorem dX8_showOf_42 : decode cX8_showOf 42 = .ok (.iload_n 1, 1) := by decide +kernel
theorem dX8_showOf_43 : decode cX8_showOf 43 = .ok (.bipush 10, 2) := by decide +kernel
theorem dX8_showOf_45 : decode cX8_showOf 45 = .ok (.if_icmp .le 8, 3) := by decide +kernel
theorem dX8_showOf_48 : decode cX8_showOf 48 = .ok (.bipush 10, 2) := by decide +kernel
theorem dX8_showOf_50 : decode cX8_showOf 50 = .ok (.goto 4, 3) := by decide +kernel
theorem dX8_showOf_53 : decode cX8_showOf 53 = .ok (.iload_n 1, 1) := by decide +kernel
theorem dX8_showOf_54 : decode cX8_showOf 54 = .ok (.ireturn, 1) := by decide +kernel
theorem dX8_showOf_55 : decode cX8_showOf 55 = .ok (.iload_n 1, 1) := by decide +kernel
theorem dX8_showOf_56 : decode cX8_showOf 56 = .ok (.iconst 5, 1) := by decide +kernel
theorem dX8_showOf_57 : decode cX8_showOf 57 = .ok (.iadd, 1) := by decide +kernel
theorem dX8_showOf_58 : decode cX8_showOf 58 = .ok (.ireturn, 1) := by decide +kernel
theorem dX8_showOf_59 : decode cX8_showOf 59 = .ok (.iload_n 1, 1) := by decide +kernel
theorem dX8_showOf_60 : decode cX8_showOf 60 = .ok (.iload_n 2, 1) := by decide +kernel
theorem dX8_showOf_61 : decode cX8_showOf 61 = .ok (.invokestatic 60, 3) := by decide +kernel
theorem dX8_showOf_64 : decode cX8_showOf 64 = .ok (.iconst 1, 1) := by decide +kernel
theorem dX8_showOf_65 : decode cX8_showOf 65 = .ok (.iadd, 1) := by decide +kernel
theorem dX8_showOf_66 : decode cX8_showOf 66 = .ok (.iconst 2, 1) := by decide +kernel
theorem dX8_showOf_67 : decode cX8_showOf 67 = .ok (.idiv, 1) := by decide +kernel
theorem dX8_showOf_68 : decode cX8_showOf 68 = .ok (.ireturn, 1) := by decide +kernel
theorem dX8_showOf_69 : decode cX8_showOf 69 = .ok (.iconst 2, 1) := by decide +kernel
theorem dX8_showOf_70 : decode cX8_showOf 70 = .ok (.iload_n 1, 1) := by decide +kernel
theorem dX8_showOf_71 : decode cX8_showOf 71 = .ok (.iconst 5, 1) := by decide +kernel
theorem dX8_showOf_72 : decode cX8_showOf 72 = .ok (.iadd, 1) := by decide +kernel
theorem dX8_showOf_73 : decode cX8_showOf 73 = .ok (.imul, 1) := by decide +kernel
theorem dX8_showOf_74 : decode cX8_showOf 74 = .ok (.bipush 99, 2) := by decide +kernel
theorem dX8_showOf_76 : decode cX8_showOf 76 = .ok (.if_icmp .le 8, 3) := by decide +kernel
theorem dX8_showOf_79 : decode cX8_showOf 79 = .ok (.bipush 99, 2) := by decide +kernel
theorem dX8_showOf_81 : decode cX8_showOf 81 = .ok (.goto 8, 3) := by decide +kernel
theorem dX8_showOf_84 : decode cX8_showOf 84 = .ok (.iconst 2, 1) := by decide +kernel
theorem dX8_showOf_85 : decode cX8_showOf 85 = .ok (.iload_n 1, 1) := by decide +kernel
theorem dX8_showOf_86 : decode cX8_showOf 86 = .ok (.iconst 5, 1) := by decide +kernel
theorem dX8_showOf_87 : decode cX8_showOf 87 = .ok (.iadd, 1) := by decide +kernel
theorem dX8_showOf_88 : decode cX8_showOf 88 = .ok (.imul, 1) := by decide +kernel
theorem dX8_showOf_89 : decode cX8_showOf 89 = .ok (.ireturn, 1) := by decide +kernel
theorem dX8_showOf_90 : decode cX8_showOf 90 = .ok (.iload_n 1, 1) := by decide +kernel
theorem dX8_showOf_91 : decode cX8_showOf 91 = .ok (.ireturn, 1) := by decide +kernel
theorem dX8_plain_0 : decode cX8_plain 0 = .ok (.iload_n 0, 1) := by decide +kernel
theorem dX8_plain_1 : decode cX8_plain 1 = .ok (.iconst 1, 1) := by decide +kernel
theorem dX8_plain_2 : decode cX8_plain 2 = .ok (.iadd, 1) := by decide +kernel
theorem dX8_plain_3 : decode cX8_plain 3 = .ok (.iconst 2, 1) := by decide +kernel
theorem dX8_plain_4 : decode cX8_plain 4 = .ok (.idiv, 1) := by decide +kernel
theorem dX8_plain_5 : decode cX8_plain 5 = .ok (.ireturn, 1) := by decide +kernel
theorem dX8_steep_0 : decode cX8_steep 0 = .ok (.iload_n 0, 1) := by decide +kernel
theorem dX8_steep_1 : decode cX8_steep 1 = .ok (.invokestatic 64, 3) := by decide +kernel
theorem dX8_steep_4 : decode cX8_steep 4 = .ok (.iload_n 0, 1) := by decide +kernel
theorem dX8_steep_5 : decode cX8_steep 5 = .ok (.bipush 10, 2) := by decide +kernel
theorem dX8_steep_7 : decode cX8_steep 7 = .ok (.idiv, 1) := by decide +kernel
theorem dX8_steep_8 : decode cX8_steep 8 = .ok (.iadd, 1) := by decide +kernel
theorem dX8_steep_9 : decode cX8_steep 9 = .ok (.ireturn, 1) := by decide +kernel
theorem dX8_greedy_0 : decode cX8_greedy 0 = .ok (.iload_n 0, 1) := by decide +kernel
theorem dX8_greedy_1 : decode cX8_greedy 1 = .ok (.iconst 1, 1) := by decide +kernel
theorem dX8_greedy_2 : decode cX8_greedy 2 = .ok (.if_icmp .lt 12, 3) := by decide +kernel
theorem dX8_greedy_5 : decode cX8_greedy 5 = .ok (.iload_n 0, 1) := by decide +kernel
theorem dX8_greedy_6 : decode cX8_greedy 6 = .ok (.invokestatic 64, 3) := by decide +kernel
theorem dX8_greedy_9 : decode cX8_greedy 9 = .ok (.iconst 3, 1) := by decide +kernel
theorem dX8_greedy_10 : decode cX8_greedy 10 = .ok (.iadd, 1) := by decide +kernel
theorem dX8_greedy_11 : decode cX8_greedy 11 = .ok (.goto 7, 3) := by decide +kernel
theorem dX8_greedy_14 : decode cX8_greedy 14 = .ok (.iload_n 0, 1) := by decide +kernel
theorem dX8_greedy_15 : decode cX8_greedy 15 = .ok (.invokestatic 64, 3) := by decide +kernel
theorem dX8_greedy_18 : decode cX8_greedy 18 = .ok (.ireturn, 1) := by decide +kernel
theorem dX8_chargeOf_0 : decode cX8_chargeOf 0 = .ok (.iload_n 0, 1) := by decide +kernel
theorem dX8_chargeOf_1 : decode cX8_chargeOf 1 = .ok (.tableswitch 91 1 5 #[35, 40, 56, 61, 80], 35) := by decide +kernel
theorem dX8_chargeOf_36 : decode cX8_chargeOf 36 = .ok (.iload_n 1, 1) := by decide +kernel
theorem dX8_chargeOf_37 : decode cX8_chargeOf 37 = .ok (.invokestatic 68, 3) := by decide +kernel
theorem dX8_chargeOf_40 : decode cX8_chargeOf 40 = .ok (.ireturn, 1) := by decide +kernel
theorem dX8_chargeOf_41 : decode cX8_chargeOf 41 = .ok (.iload_n 2, 1) := by decide +kernel
theorem dX8_chargeOf_42 : decode cX8_chargeOf 42 = .ok (.bipush 7, 2) := by decide +kernel
theorem dX8_chargeOf_44 : decode cX8_chargeOf 44 = .ok (.irem, 1) := by decide +kernel
theorem dX8_chargeOf_45 : decode cX8_chargeOf 45 = .ok (.ifCond .ne 7, 3) := by decide +kernel
theorem dX8_chargeOf_48 : decode cX8_chargeOf 48 = .ok (.iconst 0, 1) := by decide +kernel
theorem dX8_chargeOf_49 : decode cX8_chargeOf 49 = .ok (.goto 7, 3) := by decide +kernel
theorem dX8_chargeOf_52 : decode cX8_chargeOf 52 = .ok (.iload_n 1, 1) := by decide +kernel
theorem dX8_chargeOf_53 : decode cX8_chargeOf 53 = .ok (.invokestatic 64, 3) := by decide +kernel
theorem dX8_chargeOf_56 : decode cX8_chargeOf 56 = .ok (.ireturn, 1) := by decide +kernel
theorem dX8_chargeOf_57 : decode cX8_chargeOf 57 = .ok (.iload_n 1, 1) := by decide +kernel
theorem dX8_chargeOf_58 : decode cX8_chargeOf 58 = .ok (.invokestatic 71, 3) := by decide +kernel
theorem dX8_chargeOf_61 : decode cX8_chargeOf 61 = .ok (.ireturn, 1) := by decide +kernel
theorem dX8_chargeOf_62 : decode cX8_chargeOf 62 = .ok (.iload_n 1, 1) := by decide +kernel
theorem dX8_chargeOf_63 : decode cX8_chargeOf 63 = .ok (.invokestatic 68, 3) := by decide +kernel
theorem dX8_chargeOf_66 : decode cX8_chargeOf 66 = .ok (.bipush 25, 2) := by decide +kernel
theorem dX8_chargeOf_68 : decode cX8_chargeOf 68 = .ok (.if_icmp .le 8, 3) := by decide +kernel
theorem dX8_chargeOf_71 : decode cX8_chargeOf 71 = .ok (.bipush 25, 2) := by decide +kernel
theorem dX8_chargeOf_73 : decode cX8_chargeOf 73 = .ok (.goto 7, 3) := by decide +kernel
theorem dX8_chargeOf_76 : decode cX8_chargeOf 76 = .ok (.iload_n 1, 1) := by decide +kernel
theorem dX8_chargeOf_77 : decode cX8_chargeOf 77 = .ok (.invokestatic 68, 3) := by decide +kernel
theorem dX8_chargeOf_80 : decode cX8_chargeOf 80 = .ok (.ireturn, 1) := by decide +kernel
theorem dX8_chargeOf_81 : decode cX8_chargeOf 81 = .ok (.iload_n 1, 1) := by decide +kernel
theorem dX8_chargeOf_82 : decode cX8_chargeOf 82 = .ok (.invokestatic 71, 3) := by decide +kernel
theorem dX8_chargeOf_85 : decode cX8_chargeOf 85 = .ok (.iconst 4, 1) := by decide +kernel
theorem dX8_chargeOf_86 : decode cX8_chargeOf 86 = .ok (.iadd, 1) := by decide +kernel
theorem dX8_chargeOf_87 : decode cX8_chargeOf 87 = .ok (.iconst 5, 1) := by decide +kernel
theorem dX8_chargeOf_88 : decode cX8_chargeOf 88 = .ok (.idiv, 1) := by decide +kernel
theorem dX8_chargeOf_89 : decode cX8_chargeOf 89 = .ok (.iconst 5, 1) := by decide +kernel
theorem dX8_chargeOf_90 : decode cX8_chargeOf 90 = .ok (.imul, 1) := by decide +kernel
theorem dX8_chargeOf_91 : decode cX8_chargeOf 91 = .ok (.ireturn, 1) := by decide +kernel
theorem dX8_chargeOf_92 : decode cX8_chargeOf 92 = .ok (.iload_n 1, 1) := by decide +kernel
theorem dX8_chargeOf_93 : decode cX8_chargeOf 93 = .ok (.invokestatic 64, 3) := by decide +kernel
theorem dX8_chargeOf_96 : decode cX8_chargeOf 96 = .ok (.ireturn, 1) := by decide +kernel
theorem dX8_bringsBy_0 : decode cX8_bringsBy 0 = .ok (.iload_n 0, 1) := by decide +kernel
theorem dX8_bringsBy_1 : decode cX8_bringsBy 1 = .ok (.iload_n 1, 1) := by decide +kernel
theorem dX8_bringsBy_2 : decode cX8_bringsBy 2 = .ok (.if_icmp .lt 11, 3) := by decide +kernel
theorem dX8_bringsBy_5 : decode cX8_bringsBy 5 = .ok (.iload_n 0, 1) := by decide +kernel
theorem dX8_bringsBy_6 : decode cX8_bringsBy 6 = .ok (.iconst 1, 1) := by decide +kernel
theorem dX8_bringsBy_7 : decode cX8_bringsBy 7 = .ok (.iadd, 1) := by decide +kernel
theorem dX8_bringsBy_8 : decode cX8_bringsBy 8 = .ok (.iload_n 1, 1) := by decide +kernel
theorem dX8_bringsBy_9 : decode cX8_bringsBy 9 = .ok (.isub, 1) := by decide +kernel
theorem dX8_bringsBy_10 : decode cX8_bringsBy 10 = .ok (.goto 4, 3) := by decide +kernel
theorem dX8_bringsBy_13 : decode cX8_bringsBy 13 = .ok (.iconst 0, 1) := by decide +kernel
theorem dX8_bringsBy_14 : decode cX8_bringsBy 14 = .ok (.ireturn, 1) := by decide +kernel
theorem dX8_province_0 : decode cX8_province 0 = .ok (.iload_n 1, 1) := by decide +kernel
theorem dX8_province_1 : decode cX8_province 1 = .ok (.i2l, 1) := by decide +kernel
theorem dX8_province_2 : decode cX8_province 2 = .ok (.lconst 1, 1) := by decide +kernel
theorem dX8_province_3 : decode cX8_province 3 = .ok (.ldc2_w 74, 3) := by decide +kernel
theorem dX8_province_6 : decode cX8_province 6 = .ok (.invokestatic 56, 3) := by decide +kernel
theorem dX8_province_9 : decode cX8_province 9 = .ok (.ifCond .eq 15, 3) := by decide +kernel
theorem dX8_province_12 : decode cX8_province 12 = .ok (.iload_n 2, 1) := by decide +kernel
theorem dX8_province_13 : decode cX8_province 13 = .ok (.i2l, 1) := by decide +kernel
theorem dX8_province_14 : decode cX8_province 14 = .ok (.lconst 0, 1) := by decide +kernel
theorem dX8_province_15 : decode cX8_province 15 = .ok (.ldc2_w 76, 3) := by decide +kernel
theorem dX8_province_18 : decode cX8_province 18 = .ok (.invokestatic 56, 3) := by decide +kernel
theorem dX8_province_21 : decode cX8_province 21 = .ok (.ifCond .ne 10, 3) := by decide +kernel
theorem dX8_province_24 : decode cX8_province 24 = .ok (.aload_n 0, 1) := by decide +kernel
theorem dX8_province_25 : decode cX8_province 25 = .ok (.bipush (-2), 2) := by decide +kernel
theorem dX8_province_27 : decode cX8_province 27 = .ok (.invokevirtual 78, 3) := by decide +kernel
theorem dX8_province_30 : decode cX8_province 30 = .ok (.ireturn, 1) := by decide +kernel
theorem dX8_province_31 : decode cX8_province 31 = .ok (.aload_n 0, 1) := by decide +kernel
theorem dX8_province_32 : decode cX8_province 32 = .ok (.getfield 7, 3) := by decide +kernel
theorem dX8_province_35 : decode cX8_province 35 = .ok (.iconst 0, 1) := by decide +kernel
theorem dX8_province_36 : decode cX8_province 36 = .ok (.iaload, 1) := by decide +kernel
theorem dX8_province_37 : decode cX8_province 37 = .ok (.istore_n 3, 1) := by decide +kernel
theorem dX8_province_38 : decode cX8_province 38 = .ok (.aload_n 0, 1) := by decide +kernel
theorem dX8_province_39 : decode cX8_province 39 = .ok (.iconst 0, 1) := by decide +kernel
theorem dX8_province_40 : decode cX8_province 40 = .ok (.iload_n 1, 1) := by decide +kernel
theorem dX8_province_41 : decode cX8_province 41 = .ok (.iload_n 2, 1) := by decide +kernel
theorem dX8_province_42 : decode cX8_province 42 = .ok (.invokevirtual 52, 3) := by decide +kernel
theorem dX8_province_45 : decode cX8_province 45 = .ok (.iload_n 3, 1) := by decide +kernel
theorem dX8_province_46 : decode cX8_province 46 = .ok (.ireturn, 1) := by decide +kernel
theorem dX8_house_0 : decode cX8_house 0 = .ok (.iload_n 1, 1) := by decide +kernel
theorem dX8_house_1 : decode cX8_house 1 = .ok (.invokestatic 81, 3) := by decide +kernel
theorem dX8_house_4 : decode cX8_house 4 = .ok (.ifCond .eq 15, 3) := by decide +kernel
theorem dX8_house_7 : decode cX8_house 7 = .ok (.iload_n 2, 1) := by decide +kernel
theorem dX8_house_8 : decode cX8_house 8 = .ok (.i2l, 1) := by decide +kernel
theorem dX8_house_9 : decode cX8_house 9 = .ok (.lconst 0, 1) := by decide +kernel
theorem dX8_house_10 : decode cX8_house 10 = .ok (.ldc2_w 85, 3) := by decide +kernel
theorem dX8_house_13 : decode cX8_house 13 = .ok (.invokestatic 56, 3) := by decide +kernel
theorem dX8_house_16 : decode cX8_house 16 = .ok (.ifCond .ne 10, 3) := by decide +kernel
theorem dX8_house_19 : decode cX8_house 19 = .ok (.aload_n 0, 1) := by decide +kernel
theorem dX8_house_20 : decode cX8_house 20 = .ok (.bipush (-2), 2) := by decide +kernel
theorem dX8_house_22 : decode cX8_house 22 = .ok (.invokevirtual 78, 3) := by decide +kernel
theorem dX8_house_25 : decode cX8_house 25 = .ok (.ireturn, 1) := by decide +kernel
theorem dX8_house_26 : decode cX8_house 26 = .ok (.aload_n 0, 1) := by decide +kernel
theorem dX8_house_27 : decode cX8_house 27 = .ok (.getfield 7, 3) := by decide +kernel
theorem dX8_house_30 : decode cX8_house 30 = .ok (.bipush 12, 2) := by decide +kernel
theorem dX8_house_32 : decode cX8_house 32 = .ok (.iload_n 1, 1) := by decide +kernel
theorem dX8_house_33 : decode cX8_house 33 = .ok (.iadd, 1) := by decide +kernel
theorem dX8_house_34 : decode cX8_house 34 = .ok (.iaload, 1) := by decide +kernel
theorem dX8_house_35 : decode cX8_house 35 = .ok (.istore_n 3, 1) := by decide +kernel
theorem dX8_house_36 : decode cX8_house 36 = .ok (.aload_n 0, 1) := by decide +kernel
theorem dX8_house_37 : decode cX8_house 37 = .ok (.getfield 7, 3) := by decide +kernel
theorem dX8_house_40 : decode cX8_house 40 = .ok (.bipush 12, 2) := by decide +kernel
theorem dX8_house_42 : decode cX8_house 42 = .ok (.iload_n 1, 1) := by decide +kernel
theorem dX8_house_43 : decode cX8_house 43 = .ok (.iadd, 1) := by decide +kernel
theorem dX8_house_44 : decode cX8_house 44 = .ok (.iload_n 2, 1) := by decide +kernel
theorem dX8_house_45 : decode cX8_house 45 = .ok (.iastore, 1) := by decide +kernel
theorem dX8_house_46 : decode cX8_house 46 = .ok (.aload_n 0, 1) := by decide +kernel
theorem dX8_house_47 : decode cX8_house 47 = .ok (.getfield 7, 3) := by decide +kernel
theorem dX8_house_50 : decode cX8_house 50 = .ok (.bipush 81, 2) := by decide +kernel
theorem dX8_house_52 : decode cX8_house 52 = .ok (.iconst 0, 1) := by decide +kernel
theorem dX8_house_53 : decode cX8_house 53 = .ok (.iastore, 1) := by decide +kernel
theorem dX8_house_54 : decode cX8_house 54 = .ok (.iload_n 3, 1) := by decide +kernel
theorem dX8_house_55 : decode cX8_house 55 = .ok (.ireturn, 1) := by decide +kernel
theorem dX8_adds_0 : decode cX8_adds 0 = .ok (.aload_n 0, 1) := by decide +kernel
theorem dX8_adds_1 : decode cX8_adds 1 = .ok (.getfield 7, 3) := by decide +kernel
theorem dX8_adds_4 : decode cX8_adds 4 = .ok (.iload_n 1, 1) := by decide +kernel
theorem dX8_adds_5 : decode cX8_adds 5 = .ok (.iconst 1, 1) := by decide +kernel
theorem dX8_adds_6 : decode cX8_adds 6 = .ok (.iadd, 1) := by decide +kernel
theorem dX8_adds_7 : decode cX8_adds 7 = .ok (.aload_n 0, 1) := by decide +kernel
theorem dX8_adds_8 : decode cX8_adds 8 = .ok (.getfield 7, 3) := by decide +kernel
theorem dX8_adds_11 : decode cX8_adds 11 = .ok (.iload_n 1, 1) := by decide +kernel
theorem dX8_adds_12 : decode cX8_adds 12 = .ok (.iconst 0, 1) := by decide +kernel
theorem dX8_adds_13 : decode cX8_adds 13 = .ok (.iadd, 1) := by decide +kernel
theorem dX8_adds_14 : decode cX8_adds 14 = .ok (.iaload, 1) := by decide +kernel
theorem dX8_adds_15 : decode cX8_adds 15 = .ok (.iadd, 1) := by decide +kernel
theorem dX8_adds_16 : decode cX8_adds 16 = .ok (.iload_n 2, 1) := by decide +kernel
theorem dX8_adds_17 : decode cX8_adds 17 = .ok (.iastore, 1) := by decide +kernel
theorem dX8_adds_18 : decode cX8_adds 18 = .ok (.aload_n 0, 1) := by decide +kernel
theorem dX8_adds_19 : decode cX8_adds 19 = .ok (.getfield 7, 3) := by decide +kernel
theorem dX8_adds_22 : decode cX8_adds 22 = .ok (.iload_n 1, 1) := by decide +kernel
theorem dX8_adds_23 : decode cX8_adds 23 = .ok (.bipush 6, 2) := by decide +kernel
theorem dX8_adds_25 : decode cX8_adds 25 = .ok (.iadd, 1) := by decide +kernel
theorem dX8_adds_26 : decode cX8_adds 26 = .ok (.aload_n 0, 1) := by decide +kernel
theorem dX8_adds_27 : decode cX8_adds 27 = .ok (.getfield 7, 3) := by decide +kernel
theorem dX8_adds_30 : decode cX8_adds 30 = .ok (.iload_n 1, 1) := by decide +kernel
theorem dX8_adds_31 : decode cX8_adds 31 = .ok (.iconst 0, 1) := by decide +kernel
theorem dX8_adds_32 : decode cX8_adds 32 = .ok (.iadd, 1) := by decide +kernel
theorem dX8_adds_33 : decode cX8_adds 33 = .ok (.iaload, 1) := by decide +kernel
theorem dX8_adds_34 : decode cX8_adds 34 = .ok (.iadd, 1) := by decide +kernel
theorem dX8_adds_35 : decode cX8_adds 35 = .ok (.iload_n 3, 1) := by decide +kernel
theorem dX8_adds_36 : decode cX8_adds 36 = .ok (.iastore, 1) := by decide +kernel
theorem dX8_adds_37 : decode cX8_adds 37 = .ok (.aload_n 0, 1) := by decide +kernel
theorem dX8_adds_38 : decode cX8_adds 38 = .ok (.getfield 7, 3) := by decide +kernel
theorem dX8_adds_41 : decode cX8_adds 41 = .ok (.iload_n 1, 1) := by decide +kernel
theorem dX8_adds_42 : decode cX8_adds 42 = .ok (.iconst 0, 1) := by decide +kernel
theorem dX8_adds_43 : decode cX8_adds 43 = .ok (.iadd, 1) := by decide +kernel
theorem dX8_adds_44 : decode cX8_adds 44 = .ok (.dup2, 1) := by decide +kernel
theorem dX8_adds_45 : decode cX8_adds 45 = .ok (.iaload, 1) := by decide +kernel
theorem dX8_adds_46 : decode cX8_adds 46 = .ok (.iconst 1, 1) := by decide +kernel
theorem dX8_adds_47 : decode cX8_adds 47 = .ok (.iadd, 1) := by decide +kernel
theorem dX8_adds_48 : decode cX8_adds 48 = .ok (.iastore, 1) := by decide +kernel
theorem dX8_adds_49 : decode cX8_adds 49 = .ok (.return_, 1) := by decide +kernel
theorem dX8_string_0 : decode cX8_string 0 = .ok (.iload_n 1, 1) := by decide +kernel
theorem dX8_string_1 : decode cX8_string 1 = .ok (.i2l, 1) := by decide +kernel
theorem dX8_string_2 : decode cX8_string 2 = .ok (.lconst 0, 1) := by decide +kernel
theorem dX8_string_3 : decode cX8_string 3 = .ok (.ldc2_w 85, 3) := by decide +kernel
theorem dX8_string_6 : decode cX8_string 6 = .ok (.invokestatic 56, 3) := by decide +kernel
theorem dX8_string_9 : decode cX8_string 9 = .ok (.ifCond .eq 15, 3) := by decide +kernel
theorem dX8_string_12 : decode cX8_string 12 = .ok (.iload_n 2, 1) := by decide +kernel
theorem dX8_string_13 : decode cX8_string 13 = .ok (.i2l, 1) := by decide +kernel
theorem dX8_string_14 : decode cX8_string 14 = .ok (.lconst 1, 1) := by decide +kernel
theorem dX8_string_15 : decode cX8_string 15 = .ok (.ldc2_w 74, 3) := by decide +kernel
theorem dX8_string_18 : decode cX8_string 18 = .ok (.invokestatic 56, 3) := by decide +kernel
theorem dX8_string_21 : decode cX8_string 21 = .ok (.ifCond .ne 10, 3) := by decide +kernel
theorem dX8_string_24 : decode cX8_string 24 = .ok (.aload_n 0, 1) := by decide +kernel
theorem dX8_string_25 : decode cX8_string 25 = .ok (.bipush (-2), 2) := by decide +kernel
theorem dX8_string_27 : decode cX8_string 27 = .ok (.invokevirtual 78, 3) := by decide +kernel
theorem dX8_string_30 : decode cX8_string 30 = .ok (.ireturn, 1) := by decide +kernel
theorem dX8_string_31 : decode cX8_string 31 = .ok (.aload_n 0, 1) := by decide +kernel
theorem dX8_string_32 : decode cX8_string 32 = .ok (.getfield 7, 3) := by decide +kernel
theorem dX8_string_35 : decode cX8_string 35 = .ok (.iconst 0, 1) := by decide +kernel
theorem dX8_string_36 : decode cX8_string 36 = .ok (.iaload, 1) := by decide +kernel
theorem dX8_string_37 : decode cX8_string 37 = .ok (.iconst 5, 1) := by decide +kernel
theorem dX8_string_38 : decode cX8_string 38 = .ok (.if_icmp .ne 8, 3) := by decide +kernel
theorem dX8_string_41 : decode cX8_string 41 = .ok (.aload_n 0, 1) := by decide +kernel
theorem dX8_string_42 : decode cX8_string 42 = .ok (.invokevirtual 87, 3) := by decide +kernel
theorem dX8_string_45 : decode cX8_string 45 = .ok (.ireturn, 1) := by decide +kernel
theorem dX8_string_46 : decode cX8_string 46 = .ok (.aload_n 0, 1) := by decide +kernel
theorem dX8_string_47 : decode cX8_string 47 = .ok (.iconst 0, 1) := by decide +kernel
theorem dX8_string_48 : decode cX8_string 48 = .ok (.iload_n 1, 1) := by decide +kernel
theorem dX8_string_49 : decode cX8_string 49 = .ok (.iload_n 2, 1) := by decide +kernel
theorem dX8_string_50 : decode cX8_string 50 = .ok (.invokevirtual 91, 3) := by decide +kernel
theorem dX8_string_53 : decode cX8_string 53 = .ok (.aload_n 0, 1) := by decide +kernel
theorem dX8_string_54 : decode cX8_string 54 = .ok (.getfield 7, 3) := by decide +kernel
theorem dX8_string_57 : decode cX8_string 57 = .ok (.bipush 81, 2) := by decide +kernel
theorem dX8_string_59 : decode cX8_string 59 = .ok (.iconst 0, 1) := by decide +kernel
theorem dX8_string_60 : decode cX8_string 60 = .ok (.iastore, 1) := by decide +kernel
theorem dX8_string_61 : decode cX8_string 61 = .ok (.aload_n 0, 1) := by decide +kernel
theorem dX8_string_62 : decode cX8_string 62 = .ok (.getfield 7, 3) := by decide +kernel
theorem dX8_string_65 : decode cX8_string 65 = .ok (.iconst 0, 1) := by decide +kernel
theorem dX8_string_66 : decode cX8_string 66 = .ok (.iaload, 1) := by decide +kernel
theorem dX8_string_67 : decode cX8_string 67 = .ok (.iconst 1, 1) := by decide +kernel
theorem dX8_string_68 : decode cX8_string 68 = .ok (.isub, 1) := by decide +kernel
theorem dX8_string_69 : decode cX8_string 69 = .ok (.ireturn, 1) := by decide +kernel
theorem dX8_type_0 : decode cX8_type 0 = .ok (.iload_n 1, 1) := by decide +kernel
theorem dX8_type_1 : decode cX8_type 1 = .ok (.i2l, 1) := by decide +kernel
theorem dX8_type_2 : decode cX8_type 2 = .ok (.lconst 0, 1) := by decide +kernel
theorem dX8_type_3 : decode cX8_type 3 = .ok (.ldc2_w 94, 3) := by decide +kernel
theorem dX8_type_6 : decode cX8_type 6 = .ok (.invokestatic 56, 3) := by decide +kernel
theorem dX8_type_9 : decode cX8_type 9 = .ok (.ifCond .ne 10, 3) := by decide +kernel
theorem dX8_type_12 : decode cX8_type 12 = .ok (.aload_n 0, 1) := by decide +kernel
theorem dX8_type_13 : decode cX8_type 13 = .ok (.bipush (-2), 2) := by decide +kernel
theorem dX8_type_15 : decode cX8_type 15 = .ok (.invokevirtual 78, 3) := by decide +kernel
theorem dX8_type_18 : decode cX8_type 18 = .ok (.ireturn, 1) := by decide +kernel
theorem dX8_type_19 : decode cX8_type 19 = .ok (.aload_n 0, 1) := by decide +kernel
theorem dX8_type_20 : decode cX8_type 20 = .ok (.getfield 48, 3) := by decide +kernel
theorem dX8_type_23 : decode cX8_type 23 = .ok (.sipush 150, 3) := by decide +kernel
theorem dX8_type_26 : decode cX8_type 26 = .ok (.if_icmp .ne 8, 3) := by decide +kernel
theorem dX8_type_29 : decode cX8_type 29 = .ok (.aload_n 0, 1) := by decide +kernel
theorem dX8_type_30 : decode cX8_type 30 = .ok (.invokevirtual 87, 3) := by decide +kernel
theorem dX8_type_33 : decode cX8_type 33 = .ok (.ireturn, 1) := by decide +kernel
theorem dX8_type_34 : decode cX8_type 34 = .ok (.aload_n 0, 1) := by decide +kernel
theorem dX8_type_35 : decode cX8_type 35 = .ok (.getfield 17, 3) := by decide +kernel
theorem dX8_type_38 : decode cX8_type 38 = .ok (.aload_n 0, 1) := by decide +kernel
theorem dX8_type_39 : decode cX8_type 39 = .ok (.getfield 48, 3) := by decide +kernel
theorem dX8_type_42 : decode cX8_type 42 = .ok (.iload_n 1, 1) := by decide +kernel
theorem dX8_type_43 : decode cX8_type 43 = .ok (.iastore, 1) := by decide +kernel
theorem dX8_type_44 : decode cX8_type 44 = .ok (.aload_n 0, 1) := by decide +kernel
theorem dX8_type_45 : decode cX8_type 45 = .ok (.dup, 1) := by decide +kernel
theorem dX8_type_46 : decode cX8_type 46 = .ok (.getfield 48, 3) := by decide +kernel
theorem dX8_type_49 : decode cX8_type 49 = .ok (.iconst 1, 1) := by decide +kernel
theorem dX8_type_50 : decode cX8_type 50 = .ok (.iadd, 1) := by decide +kernel
theorem dX8_type_51 : decode cX8_type 51 = .ok (.putfield 48, 3) := by decide +kernel
theorem dX8_type_54 : decode cX8_type 54 = .ok (.aload_n 0, 1) := by decide +kernel
theorem dX8_type_55 : decode cX8_type 55 = .ok (.getfield 48, 3) := by decide +kernel
theorem dX8_type_58 : decode cX8_type 58 = .ok (.ireturn, 1) := by decide +kernel
theorem dX8_clear_0 : decode cX8_clear 0 = .ok (.aload_n 0, 1) := by decide +kernel
theorem dX8_clear_1 : decode cX8_clear 1 = .ok (.getfield 48, 3) := by decide +kernel
theorem dX8_clear_4 : decode cX8_clear 4 = .ok (.istore_n 1, 1) := by decide +kernel
theorem dX8_clear_5 : decode cX8_clear 5 = .ok (.aload_n 0, 1) := by decide +kernel
theorem dX8_clear_6 : decode cX8_clear 6 = .ok (.iconst 0, 1) := by decide +kernel
theorem dX8_clear_7 : decode cX8_clear 7 = .ok (.putfield 48, 3) := by decide +kernel
theorem dX8_clear_10 : decode cX8_clear 10 = .ok (.iload_n 1, 1) := by decide +kernel
theorem dX8_clear_11 : decode cX8_clear 11 = .ok (.ireturn, 1) := by decide +kernel
theorem dX8_byteAt_0 : decode cX8_byteAt 0 = .ok (.iload_n 1, 1) := by decide +kernel
theorem dX8_byteAt_1 : decode cX8_byteAt 1 = .ok (.aload_n 0, 1) := by decide +kernel
theorem dX8_byteAt_2 : decode cX8_byteAt 2 = .ok (.getfield 48, 3) := by decide +kernel
theorem dX8_byteAt_5 : decode cX8_byteAt 5 = .ok (.if_icmp .ge 12, 3) := by decide +kernel
theorem dX8_byteAt_8 : decode cX8_byteAt 8 = .ok (.aload_n 0, 1) := by decide +kernel
theorem dX8_byteAt_9 : decode cX8_byteAt 9 = .ok (.getfield 17, 3) := by decide +kernel
theorem dX8_byteAt_12 : decode cX8_byteAt 12 = .ok (.iload_n 1, 1) := by decide +kernel
theorem dX8_byteAt_13 : decode cX8_byteAt 13 = .ok (.iaload, 1) := by decide +kernel
theorem dX8_byteAt_14 : decode cX8_byteAt 14 = .ok (.goto 4, 3) := by decide +kernel
theorem dX8_byteAt_17 : decode cX8_byteAt 17 = .ok (.iconst (-1), 1) := by decide +kernel
theorem dX8_byteAt_18 : decode cX8_byteAt 18 = .ok (.ireturn, 1) := by decide +kernel
theorem dX8_blanks_0 : decode cX8_blanks 0 = .ok (.aload_n 0, 1) := by decide +kernel
theorem dX8_blanks_1 : decode cX8_blanks 1 = .ok (.aload_n 0, 1) := by decide +kernel
theorem dX8_blanks_2 : decode cX8_blanks 2 = .ok (.getfield 96, 3) := by decide +kernel
theorem dX8_blanks_5 : decode cX8_blanks 5 = .ok (.invokevirtual 99, 3) := by decide +kernel
theorem dX8_blanks_8 : decode cX8_blanks 8 = .ok (.bipush 32, 2) := by decide +kernel
theorem dX8_blanks_10 : decode cX8_blanks 10 = .ok (.if_icmp .ne 16, 3) := by decide +kernel
theorem dX8_blanks_13 : decode cX8_blanks 13 = .ok (.aload_n 0, 1) := by decide +kernel
theorem dX8_blanks_14 : decode cX8_blanks 14 = .ok (.dup, 1) := by decide +kernel
theorem dX8_blanks_15 : decode cX8_blanks 15 = .ok (.getfield 96, 3) := by decide +kernel
theorem dX8_blanks_18 : decode cX8_blanks 18 = .ok (.iconst 1, 1) := by decide +kernel
theorem dX8_blanks_19 : decode cX8_blanks 19 = .ok (.iadd, 1) := by decide +kernel
theorem dX8_blanks_20 : decode cX8_blanks 20 = .ok (.putfield 96, 3) := by decide +kernel
theorem dX8_blanks_23 : decode cX8_blanks 23 = .ok (.goto (-23), 3) := by decide +kernel
theorem dX8_blanks_26 : decode cX8_blanks 26 = .ok (.aload_n 0, 1) := by decide +kernel
theorem dX8_blanks_27 : decode cX8_blanks 27 = .ok (.aload_n 0, 1) := by decide +kernel
theorem dX8_blanks_28 : decode cX8_blanks 28 = .ok (.getfield 96, 3) := by decide +kernel
theorem dX8_blanks_31 : decode cX8_blanks 31 = .ok (.putfield 102, 3) := by decide +kernel
theorem dX8_blanks_34 : decode cX8_blanks 34 = .ok (.return_, 1) := by decide +kernel
theorem dX8_takesWord_0 : decode cX8_takesWord 0 = .ok (.aload_n 0, 1) := by decide +kernel
theorem dX8_takesWord_1 : decode cX8_takesWord 1 = .ok (.invokevirtual 105, 3) := by decide +kernel
theorem dX8_takesWord_4 : decode cX8_takesWord 4 = .ok (.aload_n 0, 1) := by decide +kernel
theorem dX8_takesWord_5 : decode cX8_takesWord 5 = .ok (.aload_n 0, 1) := by decide +kernel
theorem dX8_takesWord_6 : decode cX8_takesWord 6 = .ok (.getfield 96, 3) := by decide +kernel
theorem dX8_takesWord_9 : decode cX8_takesWord 9 = .ok (.invokevirtual 99, 3) := by decide +kernel
theorem dX8_takesWord_12 : decode cX8_takesWord 12 = .ok (.i2l, 1) := by decide +kernel
theorem dX8_takesWord_13 : decode cX8_takesWord 13 = .ok (.ldc2_w 108, 3) := by decide +kernel
theorem dX8_takesWord_16 : decode cX8_takesWord 16 = .ok (.ldc2_w 110, 3) := by decide +kernel
theorem dX8_takesWord_19 : decode cX8_takesWord 19 = .ok (.invokestatic 56, 3) := by decide +kernel
theorem dX8_takesWord_22 : decode cX8_takesWord 22 = .ok (.ifCond .eq 16, 3) := by decide +kernel
theorem dX8_takesWord_25 : decode cX8_takesWord 25 = .ok (.aload_n 0, 1) := by decide +kernel
theorem dX8_takesWord_26 : decode cX8_takesWord 26 = .ok (.dup, 1) := by decide +kernel
theorem dX8_takesWord_27 : decode cX8_takesWord 27 = .ok (.getfield 96, 3) := by decide +kernel
theorem dX8_takesWord_30 : decode cX8_takesWord 30 = .ok (.iconst 1, 1) := by decide +kernel
theorem dX8_takesWord_31 : decode cX8_takesWord 31 = .ok (.iadd, 1) := by decide +kernel
theorem dX8_takesWord_32 : decode cX8_takesWord 32 = .ok (.putfield 96, 3) := by decide +kernel
theorem dX8_takesWord_35 : decode cX8_takesWord 35 = .ok (.goto (-31), 3) := by decide +kernel
theorem dX8_takesWord_38 : decode cX8_takesWord 38 = .ok (.return_, 1) := by decide +kernel
theorem dX8_isWord_0 : decode cX8_isWord 0 = .ok (.aload_n 0, 1) := by decide +kernel
theorem dX8_isWord_1 : decode cX8_isWord 1 = .ok (.getfield 96, 3) := by decide +kernel
theorem dX8_isWord_4 : decode cX8_isWord 4 = .ok (.aload_n 0, 1) := by decide +kernel
theorem dX8_isWord_5 : decode cX8_isWord 5 = .ok (.getfield 102, 3) := by decide +kernel
theorem dX8_isWord_8 : decode cX8_isWord 8 = .ok (.isub, 1) := by decide +kernel
theorem dX8_isWord_9 : decode cX8_isWord 9 = .ok (.istore 8, 2) := by decide +kernel
theorem dX8_isWord_11 : decode cX8_isWord 11 = .ok (.aload_n 0, 1) := by decide +kernel
theorem dX8_isWord_12 : decode cX8_isWord 12 = .ok (.iconst 0, 1) := by decide +kernel
theorem dX8_isWord_13 : decode cX8_isWord 13 = .ok (.iload_n 1, 1) := by decide +kernel
theorem dX8_isWord_14 : decode cX8_isWord 14 = .ok (.iload 8, 2) := by decide +kernel
theorem dX8_isWord_16 : decode cX8_isWord 16 = .ok (.invokevirtual 112, 3) := by decide +kernel
theorem dX8_isWord_19 : decode cX8_isWord 19 = .ok (.ifCond .eq 85, 3) := by decide +kernel
theorem dX8_isWord_22 : decode cX8_isWord 22 = .ok (.aload_n 0, 1) := by decide +kernel
theorem dX8_isWord_23 : decode cX8_isWord 23 = .ok (.iconst 1, 1) := by decide +kernel
theorem dX8_isWord_24 : decode cX8_isWord 24 = .ok (.iload_n 2, 1) := by decide +kernel
theorem dX8_isWord_25 : decode cX8_isWord 25 = .ok (.iload 8, 2) := by decide +kernel
theorem dX8_isWord_27 : decode cX8_isWord 27 = .ok (.invokevirtual 112, 3) := by decide +kernel
theorem dX8_isWord_30 : decode cX8_isWord 30 = .ok (.ifCond .eq 74, 3) := by decide +kernel
theorem dX8_isWord_33 : decode cX8_isWord 33 = .ok (.aload_n 0, 1) := by decide +kernel
theorem dX8_isWord_34 : decode cX8_isWord 34 = .ok (.iconst 2, 1) := by decide +kernel
theorem dX8_isWord_35 : decode cX8_isWord 35 = .ok (.iload_n 3, 1) := by decide +kernel
theorem dX8_isWord_36 : decode cX8_isWord 36 = .ok (.iload 8, 2) := by decide +kernel
theorem dX8_isWord_38 : decode cX8_isWord 38 = .ok (.invokevirtual 112, 3) := by decide +kernel
theorem dX8_isWord_41 : decode cX8_isWord 41 = .ok (.ifCond .eq 63, 3) := by decide +kernel
theorem dX8_isWord_44 : decode cX8_isWord 44 = .ok (.aload_n 0, 1) := by decide +kernel
theorem dX8_isWord_45 : decode cX8_isWord 45 = .ok (.iconst 3, 1) := by decide +kernel
theorem dX8_isWord_46 : decode cX8_isWord 46 = .ok (.iload 4, 2) := by decide +kernel
theorem dX8_isWord_48 : decode cX8_isWord 48 = .ok (.iload 8, 2) := by decide +kernel
theorem dX8_isWord_50 : decode cX8_isWord 50 = .ok (.invokevirtual 112, 3) := by decide +kernel
theorem dX8_isWord_53 : decode cX8_isWord 53 = .ok (.ifCond .eq 51, 3) := by decide +kernel
theorem dX8_isWord_56 : decode cX8_isWord 56 = .ok (.aload_n 0, 1) := by decide +kernel
theorem dX8_isWord_57 : decode cX8_isWord 57 = .ok (.iconst 4, 1) := by decide +kernel
theorem dX8_isWord_58 : decode cX8_isWord 58 = .ok (.iload 5, 2) := by decide +kernel
theorem dX8_isWord_60 : decode cX8_isWord 60 = .ok (.iload 8, 2) := by decide +kernel
theorem dX8_isWord_62 : decode cX8_isWord 62 = .ok (.invokevirtual 112, 3) := by decide +kernel
theorem dX8_isWord_65 : decode cX8_isWord 65 = .ok (.ifCond .eq 39, 3) := by decide +kernel
theorem dX8_isWord_68 : decode cX8_isWord 68 = .ok (.aload_n 0, 1) := by decide +kernel
theorem dX8_isWord_69 : decode cX8_isWord 69 = .ok (.iconst 5, 1) := by decide +kernel
theorem dX8_isWord_70 : decode cX8_isWord 70 = .ok (.iload 6, 2) := by decide +kernel
theorem dX8_isWord_72 : decode cX8_isWord 72 = .ok (.iload 8, 2) := by decide +kernel
theorem dX8_isWord_74 : decode cX8_isWord 74 = .ok (.invokevirtual 112, 3) := by decide +kernel
theorem dX8_isWord_77 : decode cX8_isWord 77 = .ok (.ifCond .eq 27, 3) := by decide +kernel
theorem dX8_isWord_80 : decode cX8_isWord 80 = .ok (.aload_n 0, 1) := by decide +kernel
theorem dX8_isWord_81 : decode cX8_isWord 81 = .ok (.bipush 6, 2) := by decide +kernel
theorem dX8_isWord_83 : decode cX8_isWord 83 = .ok (.iload 7, 2) := by decide +kernel
theorem dX8_isWord_85 : decode cX8_isWord 85 = .ok (.iload 8, 2) := by decide +kernel
theorem dX8_isWord_87 : decode cX8_isWord 87 = .ok (.invokevirtual 112, 3) := by decide +kernel
theorem dX8_isWord_90 : decode cX8_isWord 90 = .ok (.ifCond .eq 14, 3) := by decide +kernel
theorem dX8_isWord_93 : decode cX8_isWord 93 = .ok (.iload 8, 2) := by decide +kernel
theorem dX8_isWord_95 : decode cX8_isWord 95 = .ok (.bipush 8, 2) := by decide +kernel
theorem dX8_isWord_97 : decode cX8_isWord 97 = .ok (.if_icmp .ge 7, 3) := by decide +kernel
theorem dX8_isWord_100 : decode cX8_isWord 100 = .ok (.iconst 1, 1) := by decide +kernel
theorem dX8_isWord_101 : decode cX8_isWord 101 = .ok (.goto 4, 3) := by decide +kernel
theorem dX8_isWord_104 : decode cX8_isWord 104 = .ok (.iconst 0, 1) := by decide +kernel
theorem dX8_isWord_105 : decode cX8_isWord 105 = .ok (.ireturn, 1) := by decide +kernel
theorem dX8_isLetter_0 : decode cX8_isLetter 0 = .ok (.iload_n 2, 1) := by decide +kernel
theorem dX8_isLetter_1 : decode cX8_isLetter 1 = .ok (.ifCond .ne 16, 3) := by decide +kernel
theorem dX8_isLetter_4 : decode cX8_isLetter 4 = .ok (.iload_n 3, 1) := by decide +kernel
theorem dX8_isLetter_5 : decode cX8_isLetter 5 = .ok (.iload_n 1, 1) := by decide +kernel
theorem dX8_isLetter_6 : decode cX8_isLetter 6 = .ok (.if_icmp .gt 7, 3) := by decide +kernel
theorem dX8_isLetter_9 : decode cX8_isLetter 9 = .ok (.iconst 1, 1) := by decide +kernel
theorem dX8_isLetter_10 : decode cX8_isLetter 10 = .ok (.goto 32, 3) := by decide +kernel
theorem dX8_isLetter_13 : decode cX8_isLetter 13 = .ok (.iconst 0, 1) := by decide +kernel
theorem dX8_isLetter_14 : decode cX8_isLetter 14 = .ok (.goto 28, 3) := by decide +kernel
theorem dX8_isLetter_17 : decode cX8_isLetter 17 = .ok (.iload_n 3, 1) := by decide +kernel
theorem dX8_isLetter_18 : decode cX8_isLetter 18 = .ok (.iload_n 1, 1) := by decide +kernel
theorem dX8_isLetter_19 : decode cX8_isLetter 19 = .ok (.if_icmp .le 22, 3) := by decide +kernel
theorem dX8_isLetter_22 : decode cX8_isLetter 22 = .ok (.aload_n 0, 1) := by decide +kernel
theorem dX8_isLetter_23 : decode cX8_isLetter 23 = .ok (.getfield 17, 3) := by decide +kernel
theorem dX8_isLetter_26 : decode cX8_isLetter 26 = .ok (.aload_n 0, 1) := by decide +kernel
theorem dX8_isLetter_27 : decode cX8_isLetter 27 = .ok (.getfield 102, 3) := by decide +kernel
theorem dX8_isLetter_30 : decode cX8_isLetter 30 = .ok (.iload_n 1, 1) := by decide +kernel
theorem dX8_isLetter_31 : decode cX8_isLetter 31 = .ok (.iadd, 1) := by decide +kernel
theorem dX8_isLetter_32 : decode cX8_isLetter 32 = .ok (.iaload, 1) := by decide +kernel
theorem dX8_isLetter_33 : decode cX8_isLetter 33 = .ok (.iload_n 2, 1) := by decide +kernel
theorem dX8_isLetter_34 : decode cX8_isLetter 34 = .ok (.if_icmp .ne 7, 3) := by decide +kernel
theorem dX8_isLetter_37 : decode cX8_isLetter 37 = .ok (.iconst 1, 1) := by decide +kernel
theorem dX8_isLetter_38 : decode cX8_isLetter 38 = .ok (.goto 4, 3) := by decide +kernel
theorem dX8_isLetter_41 : decode cX8_isLetter 41 = .ok (.iconst 0, 1) := by decide +kernel
theorem dX8_isLetter_42 : decode cX8_isLetter 42 = .ok (.ireturn, 1) := by decide +kernel
theorem dX8_wordOf_0 : decode cX8_wordOf 0 = .ok (.aload_n 0, 1) := by decide +kernel
theorem dX8_wordOf_1 : decode cX8_wordOf 1 = .ok (.bipush 104, 2) := by decide +kernel
theorem dX8_wordOf_3 : decode cX8_wordOf 3 = .ok (.bipush 111, 2) := by decide +kernel
theorem dX8_wordOf_5 : decode cX8_wordOf 5 = .ok (.bipush 117, 2) := by decide +kernel
theorem dX8_wordOf_7 : decode cX8_wordOf 7 = .ok (.bipush 115, 2) := by decide +kernel
theorem dX8_wordOf_9 : decode cX8_wordOf 9 = .ok (.bipush 101, 2) := by decide +kernel
theorem dX8_wordOf_11 : decode cX8_wordOf 11 = .ok (.iconst 0, 1) := by decide +kernel
theorem dX8_wordOf_12 : decode cX8_wordOf 12 = .ok (.iconst 0, 1) := by decide +kernel
theorem dX8_wordOf_13 : decode cX8_wordOf 13 = .ok (.invokevirtual 116, 3) := by decide +kernel
theorem dX8_wordOf_16 : decode cX8_wordOf 16 = .ok (.ifCond .eq 7, 3) := by decide +kernel
theorem dX8_wordOf_19 : decode cX8_wordOf 19 = .ok (.iconst 2, 1) := by decide +kernel
theorem dX8_wordOf_20 : decode cX8_wordOf 20 = .ok (.goto 107, 3) := by decide +kernel
theorem dX8_wordOf_23 : decode cX8_wordOf 23 = .ok (.aload_n 0, 1) := by decide +kernel
theorem dX8_wordOf_24 : decode cX8_wordOf 24 = .ok (.bipush 115, 2) := by decide +kernel
theorem dX8_wordOf_26 : decode cX8_wordOf 26 = .ok (.bipush 116, 2) := by decide +kernel
theorem dX8_wordOf_28 : decode cX8_wordOf 28 = .ok (.bipush 114, 2) := by decide +kernel
theorem dX8_wordOf_30 : decode cX8_wordOf 30 = .ok (.bipush 105, 2) := by decide +kernel
theorem dX8_wordOf_32 : decode cX8_wordOf 32 = .ok (.bipush 110, 2) := by decide +kernel
theorem dX8_wordOf_34 : decode cX8_wordOf 34 = .ok (.bipush 103, 2) := by decide +kernel
theorem dX8_wordOf_36 : decode cX8_wordOf 36 = .ok (.iconst 0, 1) := by decide +kernel
theorem dX8_wordOf_37 : decode cX8_wordOf 37 = .ok (.invokevirtual 116, 3) := by decide +kernel
theorem dX8_wordOf_40 : decode cX8_wordOf 40 = .ok (.ifCond .eq 7, 3) := by decide +kernel
theorem dX8_wordOf_43 : decode cX8_wordOf 43 = .ok (.iconst 3, 1) := by decide +kernel
theorem dX8_wordOf_44 : decode cX8_wordOf 44 = .ok (.goto 83, 3) := by decide +kernel
theorem dX8_wordOf_47 : decode cX8_wordOf 47 = .ok (.aload_n 0, 1) := by decide +kernel
theorem dX8_wordOf_48 : decode cX8_wordOf 48 = .ok (.bipush 112, 2) := by decide +kernel
theorem dX8_wordOf_50 : decode cX8_wordOf 50 = .ok (.bipush 117, 2) := by decide +kernel
theorem dX8_wordOf_52 : decode cX8_wordOf 52 = .ok (.bipush 114, 2) := by decide +kernel
theorem dX8_wordOf_54 : decode cX8_wordOf 54 = .ok (.bipush 115, 2) := by decide +kernel
theorem dX8_wordOf_56 : decode cX8_wordOf 56 = .ok (.bipush 101, 2) := by decide +kernel
theorem dX8_wordOf_58 : decode cX8_wordOf 58 = .ok (.iconst 0, 1) := by decide +kernel
theorem dX8_wordOf_59 : decode cX8_wordOf 59 = .ok (.iconst 0, 1) := by decide +kernel
theorem dX8_wordOf_60 : decode cX8_wordOf 60 = .ok (.invokevirtual 116, 3) := by decide +kernel
theorem dX8_wordOf_63 : decode cX8_wordOf 63 = .ok (.ifCond .eq 7, 3) := by decide +kernel
theorem dX8_wordOf_66 : decode cX8_wordOf 66 = .ok (.iconst 4, 1) := by decide +kernel
theorem dX8_wordOf_67 : decode cX8_wordOf 67 = .ok (.goto 60, 3) := by decide +kernel
theorem dX8_wordOf_70 : decode cX8_wordOf 70 = .ok (.aload_n 0, 1) := by decide +kernel
theorem dX8_wordOf_71 : decode cX8_wordOf 71 = .ok (.bipush 115, 2) := by decide +kernel
theorem dX8_wordOf_73 : decode cX8_wordOf 73 = .ok (.bipush 101, 2) := by decide +kernel
theorem dX8_wordOf_75 : decode cX8_wordOf 75 = .ok (.bipush 110, 2) := by decide +kernel
theorem dX8_wordOf_77 : decode cX8_wordOf 77 = .ok (.bipush 100, 2) := by decide +kernel
theorem dX8_wordOf_79 : decode cX8_wordOf 79 = .ok (.iconst 0, 1) := by decide +kernel
theorem dX8_wordOf_80 : decode cX8_wordOf 80 = .ok (.iconst 0, 1) := by decide +kernel
theorem dX8_wordOf_81 : decode cX8_wordOf 81 = .ok (.iconst 0, 1) := by decide +kernel
theorem dX8_wordOf_82 : decode cX8_wordOf 82 = .ok (.invokevirtual 116, 3) := by decide +kernel
theorem dX8_wordOf_85 : decode cX8_wordOf 85 = .ok (.ifCond .eq 7, 3) := by decide +kernel
theorem dX8_wordOf_88 : decode cX8_wordOf 88 = .ok (.iconst 5, 1) := by decide +kernel
theorem dX8_wordOf_89 : decode cX8_wordOf 89 = .ok (.goto 38, 3) := by decide +kernel
theorem dX8_wordOf_92 : decode cX8_wordOf 92 = .ok (.aload_n 0, 1) := by decide +kernel
theorem dX8_wordOf_93 : decode cX8_wordOf 93 = .ok (.bipush 119, 2) := by decide +kernel
theorem dX8_wordOf_95 : decode cX8_wordOf 95 = .ok (.bipush 97, 2) := by decide +kernel
theorem dX8_wordOf_97 : decode cX8_wordOf 97 = .ok (.bipush 105, 2) := by decide +kernel
theorem dX8_wordOf_99 : decode cX8_wordOf 99 = .ok (.bipush 116, 2) := by decide +kernel
theorem dX8_wordOf_101 : decode cX8_wordOf 101 = .ok (.iconst 0, 1) := by decide +kernel
theorem dX8_wordOf_102 : decode cX8_wordOf 102 = .ok (.iconst 0, 1) := by decide +kernel
theorem dX8_wordOf_103 : decode cX8_wordOf 103 = .ok (.iconst 0, 1) := by decide +kernel
theorem dX8_wordOf_104 : decode cX8_wordOf 104 = .ok (.invokevirtual 116, 3) := by decide +kernel
theorem dX8_wordOf_107 : decode cX8_wordOf 107 = .ok (.ifCond .eq 8, 3) := by decide +kernel
theorem dX8_wordOf_110 : decode cX8_wordOf 110 = .ok (.bipush 6, 2) := by decide +kernel
theorem dX8_wordOf_112 : decode cX8_wordOf 112 = .ok (.goto 15, 3) := by decide +kernel
theorem dX8_wordOf_115 : decode cX8_wordOf 115 = .ok (.aload_n 0, 1) := by decide +kernel
theorem dX8_wordOf_116 : decode cX8_wordOf 116 = .ok (.invokevirtual 120, 3) := by decide +kernel
theorem dX8_wordOf_119 : decode cX8_wordOf 119 = .ok (.ifCond .eq 7, 3) := by decide +kernel
theorem dX8_wordOf_122 : decode cX8_wordOf 122 = .ok (.iconst 1, 1) := by decide +kernel
theorem dX8_wordOf_123 : decode cX8_wordOf 123 = .ok (.goto 4, 3) := by decide +kernel
theorem dX8_wordOf_126 : decode cX8_wordOf 126 = .ok (.iconst 0, 1) := by decide +kernel
theorem dX8_wordOf_127 : decode cX8_wordOf 127 = .ok (.ireturn, 1) := by decide +kernel
theorem dX8_isProvince_0 : decode cX8_isProvince 0 = .ok (.aload_n 0, 1) := by decide +kernel
theorem dX8_isProvince_1 : decode cX8_isProvince 1 = .ok (.getfield 96, 3) := by decide +kernel
theorem dX8_isProvince_4 : decode cX8_isProvince 4 = .ok (.aload_n 0, 1) := by decide +kernel
theorem dX8_isProvince_5 : decode cX8_isProvince 5 = .ok (.getfield 102, 3) := by decide +kernel
theorem dX8_isProvince_8 : decode cX8_isProvince 8 = .ok (.isub, 1) := by decide +kernel
theorem dX8_isProvince_9 : decode cX8_isProvince 9 = .ok (.bipush 8, 2) := by decide +kernel
theorem dX8_isProvince_11 : decode cX8_isProvince 11 = .ok (.if_icmp .ne 135, 3) := by decide +kernel
theorem dX8_isProvince_14 : decode cX8_isProvince 14 = .ok (.aload_n 0, 1) := by decide +kernel
theorem dX8_isProvince_15 : decode cX8_isProvince 15 = .ok (.getfield 17, 3) := by decide +kernel
theorem dX8_isProvince_18 : decode cX8_isProvince 18 = .ok (.aload_n 0, 1) := by decide +kernel
theorem dX8_isProvince_19 : decode cX8_isProvince 19 = .ok (.getfield 102, 3) := by decide +kernel
theorem dX8_isProvince_22 : decode cX8_isProvince 22 = .ok (.iaload, 1) := by decide +kernel
theorem dX8_isProvince_23 : decode cX8_isProvince 23 = .ok (.bipush 112, 2) := by decide +kernel
theorem dX8_isProvince_25 : decode cX8_isProvince 25 = .ok (.if_icmp .ne 121, 3) := by decide +kernel
theorem dX8_isProvince_28 : decode cX8_isProvince 28 = .ok (.aload_n 0, 1) := by decide +kernel
theorem dX8_isProvince_29 : decode cX8_isProvince 29 = .ok (.getfield 17, 3) := by decide +kernel
theorem dX8_isProvince_32 : decode cX8_isProvince 32 = .ok (.aload_n 0, 1) := by decide +kernel
theorem dX8_isProvince_33 : decode cX8_isProvince 33 = .ok (.getfield 102, 3) := by decide +kernel
theorem dX8_isProvince_36 : decode cX8_isProvince 36 = .ok (.iconst 1, 1) := by decide +kernel
theorem dX8_isProvince_37 : decode cX8_isProvince 37 = .ok (.iadd, 1) := by decide +kernel
theorem dX8_isProvince_38 : decode cX8_isProvince 38 = .ok (.iaload, 1) := by decide +kernel
theorem dX8_isProvince_39 : decode cX8_isProvince 39 = .ok (.bipush 114, 2) := by decide +kernel
theorem dX8_isProvince_41 : decode cX8_isProvince 41 = .ok (.if_icmp .ne 105, 3) := by decide +kernel
theorem dX8_isProvince_44 : decode cX8_isProvince 44 = .ok (.aload_n 0, 1) := by decide +kernel
theorem dX8_isProvince_45 : decode cX8_isProvince 45 = .ok (.getfield 17, 3) := by decide +kernel
theorem dX8_isProvince_48 : decode cX8_isProvince 48 = .ok (.aload_n 0, 1) := by decide +kernel
theorem dX8_isProvince_49 : decode cX8_isProvince 49 = .ok (.getfield 102, 3) := by decide +kernel
theorem dX8_isProvince_52 : decode cX8_isProvince 52 = .ok (.iconst 2, 1) := by decide +kernel
theorem dX8_isProvince_53 : decode cX8_isProvince 53 = .ok (.iadd, 1) := by decide +kernel
theorem dX8_isProvince_54 : decode cX8_isProvince 54 = .ok (.iaload, 1) := by decide +kernel
theorem dX8_isProvince_55 : decode cX8_isProvince 55 = .ok (.bipush 111, 2) := by decide +kernel
theorem dX8_isProvince_57 : decode cX8_isProvince 57 = .ok (.if_icmp .ne 89, 3) := by decide +kernel
theorem dX8_isProvince_60 : decode cX8_isProvince 60 = .ok (.aload_n 0, 1) := by decide +kernel
theorem dX8_isProvince_61 : decode cX8_isProvince 61 = .ok (.getfield 17, 3) := by decide +kernel
theorem dX8_isProvince_64 : decode cX8_isProvince 64 = .ok (.aload_n 0, 1) := by decide +kernel
theorem dX8_isProvince_65 : decode cX8_isProvince 65 = .ok (.getfield 102, 3) := by decide +kernel
theorem dX8_isProvince_68 : decode cX8_isProvince 68 = .ok (.iconst 3, 1) := by decide +kernel
theorem dX8_isProvince_69 : decode cX8_isProvince 69 = .ok (.iadd, 1) := by decide +kernel
theorem dX8_isProvince_70 : decode cX8_isProvince 70 = .ok (.iaload, 1) := by decide +kernel
theorem dX8_isProvince_71 : decode cX8_isProvince 71 = .ok (.bipush 118, 2) := by decide +kernel
theorem dX8_isProvince_73 : decode cX8_isProvince 73 = .ok (.if_icmp .ne 73, 3) := by decide +kernel
theorem dX8_isProvince_76 : decode cX8_isProvince 76 = .ok (.aload_n 0, 1) := by decide +kernel
theorem dX8_isProvince_77 : decode cX8_isProvince 77 = .ok (.getfield 17, 3) := by decide +kernel
theorem dX8_isProvince_80 : decode cX8_isProvince 80 = .ok (.aload_n 0, 1) := by decide +kernel
theorem dX8_isProvince_81 : decode cX8_isProvince 81 = .ok (.getfield 102, 3) := by decide +kernel
theorem dX8_isProvince_84 : decode cX8_isProvince 84 = .ok (.iconst 4, 1) := by decide +kernel
theorem dX8_isProvince_85 : decode cX8_isProvince 85 = .ok (.iadd, 1) := by decide +kernel
theorem dX8_isProvince_86 : decode cX8_isProvince 86 = .ok (.iaload, 1) := by decide +kernel
theorem dX8_isProvince_87 : decode cX8_isProvince 87 = .ok (.bipush 105, 2) := by decide +kernel
theorem dX8_isProvince_89 : decode cX8_isProvince 89 = .ok (.if_icmp .ne 57, 3) := by decide +kernel
theorem dX8_isProvince_92 : decode cX8_isProvince 92 = .ok (.aload_n 0, 1) := by decide +kernel
theorem dX8_isProvince_93 : decode cX8_isProvince 93 = .ok (.getfield 17, 3) := by decide +kernel
theorem dX8_isProvince_96 : decode cX8_isProvince 96 = .ok (.aload_n 0, 1) := by decide +kernel
theorem dX8_isProvince_97 : decode cX8_isProvince 97 = .ok (.getfield 102, 3) := by decide +kernel
theorem dX8_isProvince_100 : decode cX8_isProvince 100 = .ok (.iconst 5, 1) := by decide +kernel
theorem dX8_isProvince_101 : decode cX8_isProvince 101 = .ok (.iadd, 1) := by decide +kernel
theorem dX8_isProvince_102 : decode cX8_isProvince 102 = .ok (.iaload, 1) := by decide +kernel
theorem dX8_isProvince_103 : decode cX8_isProvince 103 = .ok (.bipush 110, 2) := by decide +kernel
theorem dX8_isProvince_105 : decode cX8_isProvince 105 = .ok (.if_icmp .ne 41, 3) := by decide +kernel
theorem dX8_isProvince_108 : decode cX8_isProvince 108 = .ok (.aload_n 0, 1) := by decide +kernel
theorem dX8_isProvince_109 : decode cX8_isProvince 109 = .ok (.getfield 17, 3) := by decide +kernel
theorem dX8_isProvince_112 : decode cX8_isProvince 112 = .ok (.aload_n 0, 1) := by decide +kernel
theorem dX8_isProvince_113 : decode cX8_isProvince 113 = .ok (.getfield 102, 3) := by decide +kernel
theorem dX8_isProvince_116 : decode cX8_isProvince 116 = .ok (.bipush 6, 2) := by decide +kernel
theorem dX8_isProvince_118 : decode cX8_isProvince 118 = .ok (.iadd, 1) := by decide +kernel
theorem dX8_isProvince_119 : decode cX8_isProvince 119 = .ok (.iaload, 1) := by decide +kernel
theorem dX8_isProvince_120 : decode cX8_isProvince 120 = .ok (.bipush 99, 2) := by decide +kernel
theorem dX8_isProvince_122 : decode cX8_isProvince 122 = .ok (.if_icmp .ne 24, 3) := by decide +kernel
theorem dX8_isProvince_125 : decode cX8_isProvince 125 = .ok (.aload_n 0, 1) := by decide +kernel
theorem dX8_isProvince_126 : decode cX8_isProvince 126 = .ok (.getfield 17, 3) := by decide +kernel
theorem dX8_isProvince_129 : decode cX8_isProvince 129 = .ok (.aload_n 0, 1) := by decide +kernel
theorem dX8_isProvince_130 : decode cX8_isProvince 130 = .ok (.getfield 102, 3) := by decide +kernel
theorem dX8_isProvince_133 : decode cX8_isProvince 133 = .ok (.bipush 7, 2) := by decide +kernel
theorem dX8_isProvince_135 : decode cX8_isProvince 135 = .ok (.iadd, 1) := by decide +kernel
theorem dX8_isProvince_136 : decode cX8_isProvince 136 = .ok (.iaload, 1) := by decide +kernel
theorem dX8_isProvince_137 : decode cX8_isProvince 137 = .ok (.bipush 101, 2) := by decide +kernel
theorem dX8_isProvince_139 : decode cX8_isProvince 139 = .ok (.if_icmp .ne 7, 3) := by decide +kernel
theorem dX8_isProvince_142 : decode cX8_isProvince 142 = .ok (.iconst 1, 1) := by decide +kernel
theorem dX8_isProvince_143 : decode cX8_isProvince 143 = .ok (.goto 4, 3) := by decide +kernel
theorem dX8_isProvince_146 : decode cX8_isProvince 146 = .ok (.iconst 0, 1) := by decide +kernel
theorem dX8_isProvince_147 : decode cX8_isProvince 147 = .ok (.ireturn, 1) := by decide +kernel
theorem dX8_takesNumber_0 : decode cX8_takesNumber 0 = .ok (.aload_n 0, 1) := by decide +kernel
theorem dX8_takesNumber_1 : decode cX8_takesNumber 1 = .ok (.invokevirtual 105, 3) := by decide +kernel
theorem dX8_takesNumber_4 : decode cX8_takesNumber 4 = .ok (.aload_n 0, 1) := by decide +kernel
theorem dX8_takesNumber_5 : decode cX8_takesNumber 5 = .ok (.iconst 0, 1) := by decide +kernel
theorem dX8_takesNumber_6 : decode cX8_takesNumber 6 = .ok (.putfield 124, 3) := by decide +kernel
theorem dX8_takesNumber_9 : decode cX8_takesNumber 9 = .ok (.aload_n 0, 1) := by decide +kernel
theorem dX8_takesNumber_10 : decode cX8_takesNumber 10 = .ok (.aload_n 0, 1) := by decide +kernel
theorem dX8_takesNumber_11 : decode cX8_takesNumber 11 = .ok (.getfield 96, 3) := by decide +kernel
theorem dX8_takesNumber_14 : decode cX8_takesNumber 14 = .ok (.invokevirtual 99, 3) := by decide +kernel
theorem dX8_takesNumber_17 : decode cX8_takesNumber 17 = .ok (.i2l, 1) := by decide +kernel
theorem dX8_takesNumber_18 : decode cX8_takesNumber 18 = .ok (.ldc2_w 127, 3) := by decide +kernel
theorem dX8_takesNumber_21 : decode cX8_takesNumber 21 = .ok (.ldc2_w 129, 3) := by decide +kernel
theorem dX8_takesNumber_24 : decode cX8_takesNumber 24 = .ok (.invokestatic 56, 3) := by decide +kernel
theorem dX8_takesNumber_27 : decode cX8_takesNumber 27 = .ok (.ifCond .eq 59, 3) := by decide +kernel
theorem dX8_takesNumber_30 : decode cX8_takesNumber 30 = .ok (.aload_n 0, 1) := by decide +kernel
theorem dX8_takesNumber_31 : decode cX8_takesNumber 31 = .ok (.aload_n 0, 1) := by decide +kernel
theorem dX8_takesNumber_32 : decode cX8_takesNumber 32 = .ok (.getfield 96, 3) := by decide +kernel
theorem dX8_takesNumber_35 : decode cX8_takesNumber 35 = .ok (.aload_n 0, 1) := by decide +kernel
theorem dX8_takesNumber_36 : decode cX8_takesNumber 36 = .ok (.getfield 102, 3) := by decide +kernel
theorem dX8_takesNumber_39 : decode cX8_takesNumber 39 = .ok (.isub, 1) := by decide +kernel
theorem dX8_takesNumber_40 : decode cX8_takesNumber 40 = .ok (.iconst 2, 1) := by decide +kernel
theorem dX8_takesNumber_41 : decode cX8_takesNumber 41 = .ok (.if_icmp .ge 25, 3) := by decide +kernel
theorem dX8_takesNumber_44 : decode cX8_takesNumber 44 = .ok (.bipush 10, 2) := by decide +kernel
theorem dX8_takesNumber_46 : decode cX8_takesNumber 46 = .ok (.aload_n 0, 1) := by decide +kernel
theorem dX8_takesNumber_47 : decode cX8_takesNumber 47 = .ok (.getfield 124, 3) := by decide +kernel
theorem dX8_takesNumber_50 : decode cX8_takesNumber 50 = .ok (.imul, 1) := by decide +kernel
theorem dX8_takesNumber_51 : decode cX8_takesNumber 51 = .ok (.aload_n 0, 1) := by decide +kernel
theorem dX8_takesNumber_52 : decode cX8_takesNumber 52 = .ok (.aload_n 0, 1) := by decide +kernel
theorem dX8_takesNumber_53 : decode cX8_takesNumber 53 = .ok (.getfield 96, 3) := by decide +kernel
theorem dX8_takesNumber_56 : decode cX8_takesNumber 56 = .ok (.invokevirtual 99, 3) := by decide +kernel
theorem dX8_takesNumber_59 : decode cX8_takesNumber 59 = .ok (.iadd, 1) := by decide +kernel
theorem dX8_takesNumber_60 : decode cX8_takesNumber 60 = .ok (.bipush 48, 2) := by decide +kernel
theorem dX8_takesNumber_62 : decode cX8_takesNumber 62 = .ok (.isub, 1) := by decide +kernel
theorem dX8_takesNumber_63 : decode cX8_takesNumber 63 = .ok (.goto 7, 3) := by decide +kernel
theorem dX8_takesNumber_66 : decode cX8_takesNumber 66 = .ok (.aload_n 0, 1) := by decide +kernel
theorem dX8_takesNumber_67 : decode cX8_takesNumber 67 = .ok (.getfield 124, 3) := by decide +kernel
theorem dX8_takesNumber_70 : decode cX8_takesNumber 70 = .ok (.putfield 124, 3) := by decide +kernel
theorem dX8_takesNumber_73 : decode cX8_takesNumber 73 = .ok (.aload_n 0, 1) := by decide +kernel
theorem dX8_takesNumber_74 : decode cX8_takesNumber 74 = .ok (.dup, 1) := by decide +kernel
theorem dX8_takesNumber_75 : decode cX8_takesNumber 75 = .ok (.getfield 96, 3) := by decide +kernel
theorem dX8_takesNumber_78 : decode cX8_takesNumber 78 = .ok (.iconst 1, 1) := by decide +kernel
theorem dX8_takesNumber_79 : decode cX8_takesNumber 79 = .ok (.iadd, 1) := by decide +kernel
theorem dX8_takesNumber_80 : decode cX8_takesNumber 80 = .ok (.putfield 96, 3) := by decide +kernel
theorem dX8_takesNumber_83 : decode cX8_takesNumber 83 = .ok (.goto (-74), 3) := by decide +kernel
theorem dX8_takesNumber_86 : decode cX8_takesNumber 86 = .ok (.aload_n 0, 1) := by decide +kernel
theorem dX8_takesNumber_87 : decode cX8_takesNumber 87 = .ok (.getfield 96, 3) := by decide +kernel
theorem dX8_takesNumber_90 : decode cX8_takesNumber 90 = .ok (.aload_n 0, 1) := by decide +kernel
theorem dX8_takesNumber_91 : decode cX8_takesNumber 91 = .ok (.getfield 102, 3) := by decide +kernel
theorem dX8_takesNumber_94 : decode cX8_takesNumber 94 = .ok (.isub, 1) := by decide +kernel
theorem dX8_takesNumber_95 : decode cX8_takesNumber 95 = .ok (.i2l, 1) := by decide +kernel
theorem dX8_takesNumber_96 : decode cX8_takesNumber 96 = .ok (.lconst 1, 1) := by decide +kernel
theorem dX8_takesNumber_97 : decode cX8_takesNumber 97 = .ok (.ldc2_w 131, 3) := by decide +kernel
theorem dX8_takesNumber_100 : decode cX8_takesNumber 100 = .ok (.invokestatic 56, 3) := by decide +kernel
theorem dX8_takesNumber_103 : decode cX8_takesNumber 103 = .ok (.ifCond .eq 22, 3) := by decide +kernel
theorem dX8_takesNumber_106 : decode cX8_takesNumber 106 = .ok (.aload_n 0, 1) := by decide +kernel
theorem dX8_takesNumber_107 : decode cX8_takesNumber 107 = .ok (.getfield 124, 3) := by decide +kernel
theorem dX8_takesNumber_110 : decode cX8_takesNumber 110 = .ok (.i2l, 1) := by decide +kernel
theorem dX8_takesNumber_111 : decode cX8_takesNumber 111 = .ok (.iload_n 1, 1) := by decide +kernel
theorem dX8_takesNumber_112 : decode cX8_takesNumber 112 = .ok (.i2l, 1) := by decide +kernel
theorem dX8_takesNumber_113 : decode cX8_takesNumber 113 = .ok (.iload_n 2, 1) := by decide +kernel
theorem dX8_takesNumber_114 : decode cX8_takesNumber 114 = .ok (.i2l, 1) := by decide +kernel
theorem dX8_takesNumber_115 : decode cX8_takesNumber 115 = .ok (.invokestatic 56, 3) := by decide +kernel
theorem dX8_takesNumber_118 : decode cX8_takesNumber 118 = .ok (.ifCond .eq 7, 3) := by decide +kernel
theorem dX8_takesNumber_121 : decode cX8_takesNumber 121 = .ok (.iconst 1, 1) := by decide +kernel
theorem dX8_takesNumber_122 : decode cX8_takesNumber 122 = .ok (.goto 4, 3) := by decide +kernel
theorem dX8_takesNumber_125 : decode cX8_takesNumber 125 = .ok (.iconst 0, 1) := by decide +kernel
theorem dX8_takesNumber_126 : decode cX8_takesNumber 126 = .ok (.ireturn, 1) := by decide +kernel
theorem dX8_takesEnd_0 : decode cX8_takesEnd 0 = .ok (.aload_n 0, 1) := by decide +kernel
theorem dX8_takesEnd_1 : decode cX8_takesEnd 1 = .ok (.invokevirtual 105, 3) := by decide +kernel
theorem dX8_takesEnd_4 : decode cX8_takesEnd 4 = .ok (.aload_n 0, 1) := by decide +kernel
theorem dX8_takesEnd_5 : decode cX8_takesEnd 5 = .ok (.dup, 1) := by decide +kernel
theorem dX8_takesEnd_6 : decode cX8_takesEnd 6 = .ok (.getfield 96, 3) := by decide +kernel
theorem dX8_takesEnd_9 : decode cX8_takesEnd 9 = .ok (.iconst 1, 1) := by decide +kernel
theorem dX8_takesEnd_10 : decode cX8_takesEnd 10 = .ok (.iadd, 1) := by decide +kernel
theorem dX8_takesEnd_11 : decode cX8_takesEnd 11 = .ok (.putfield 96, 3) := by decide +kernel
theorem dX8_takesEnd_14 : decode cX8_takesEnd 14 = .ok (.aload_n 0, 1) := by decide +kernel
theorem dX8_takesEnd_15 : decode cX8_takesEnd 15 = .ok (.aload_n 0, 1) := by decide +kernel
theorem dX8_takesEnd_16 : decode cX8_takesEnd 16 = .ok (.getfield 102, 3) := by decide +kernel
theorem dX8_takesEnd_19 : decode cX8_takesEnd 19 = .ok (.invokevirtual 99, 3) := by decide +kernel
theorem dX8_takesEnd_22 : decode cX8_takesEnd 22 = .ok (.bipush 59, 2) := by decide +kernel
theorem dX8_takesEnd_24 : decode cX8_takesEnd 24 = .ok (.if_icmp .ne 7, 3) := by decide +kernel
theorem dX8_takesEnd_27 : decode cX8_takesEnd 27 = .ok (.iconst 1, 1) := by decide +kernel
theorem dX8_takesEnd_28 : decode cX8_takesEnd 28 = .ok (.goto 4, 3) := by decide +kernel
theorem dX8_takesEnd_31 : decode cX8_takesEnd 31 = .ok (.iconst 0, 1) := by decide +kernel
theorem dX8_takesEnd_32 : decode cX8_takesEnd 32 = .ok (.ireturn, 1) := by decide +kernel
theorem dX8_readsHouse_0 : decode cX8_readsHouse 0 = .ok (.aload_n 0, 1) := by decide +kernel
theorem dX8_readsHouse_1 : decode cX8_readsHouse 1 = .ok (.iconst 0, 1) := by decide +kernel
theorem dX8_readsHouse_2 : decode cX8_readsHouse 2 = .ok (.iconst 1, 1) := by decide +kernel
theorem dX8_readsHouse_3 : decode cX8_readsHouse 3 = .ok (.invokevirtual 133, 3) := by decide +kernel
theorem dX8_readsHouse_6 : decode cX8_readsHouse 6 = .ok (.ifCond .ne 5, 3) := by decide +kernel
theorem dX8_readsHouse_9 : decode cX8_readsHouse 9 = .ok (.iconst 0, 1) := by decide +kernel
theorem dX8_readsHouse_10 : decode cX8_readsHouse 10 = .ok (.ireturn, 1) := by decide +kernel
theorem dX8_readsHouse_11 : decode cX8_readsHouse 11 = .ok (.aload_n 0, 1) := by decide +kernel
theorem dX8_readsHouse_12 : decode cX8_readsHouse 12 = .ok (.getfield 124, 3) := by decide +kernel
theorem dX8_readsHouse_15 : decode cX8_readsHouse 15 = .ok (.istore_n 1, 1) := by decide +kernel
theorem dX8_readsHouse_16 : decode cX8_readsHouse 16 = .ok (.aload_n 0, 1) := by decide +kernel
theorem dX8_readsHouse_17 : decode cX8_readsHouse 17 = .ok (.iconst 0, 1) := by decide +kernel
theorem dX8_readsHouse_18 : decode cX8_readsHouse 18 = .ok (.iconst 5, 1) := by decide +kernel
theorem dX8_readsHouse_19 : decode cX8_readsHouse 19 = .ok (.invokevirtual 133, 3) := by decide +kernel
theorem dX8_readsHouse_22 : decode cX8_readsHouse 22 = .ok (.ifCond .ne 5, 3) := by decide +kernel
theorem dX8_readsHouse_25 : decode cX8_readsHouse 25 = .ok (.iconst 0, 1) := by decide +kernel
theorem dX8_readsHouse_26 : decode cX8_readsHouse 26 = .ok (.ireturn, 1) := by decide +kernel
theorem dX8_readsHouse_27 : decode cX8_readsHouse 27 = .ok (.aload_n 0, 1) := by decide +kernel
theorem dX8_readsHouse_28 : decode cX8_readsHouse 28 = .ok (.getfield 7, 3) := by decide +kernel
theorem dX8_readsHouse_31 : decode cX8_readsHouse 31 = .ok (.sipush 354, 3) := by decide +kernel
theorem dX8_readsHouse_34 : decode cX8_readsHouse 34 = .ok (.iload_n 1, 1) := by decide +kernel
theorem dX8_readsHouse_35 : decode cX8_readsHouse 35 = .ok (.iadd, 1) := by decide +kernel
theorem dX8_readsHouse_36 : decode cX8_readsHouse 36 = .ok (.aload_n 0, 1) := by decide +kernel
theorem dX8_readsHouse_37 : decode cX8_readsHouse 37 = .ok (.getfield 124, 3) := by decide +kernel
theorem dX8_readsHouse_40 : decode cX8_readsHouse 40 = .ok (.iastore, 1) := by decide +kernel
theorem dX8_readsHouse_41 : decode cX8_readsHouse 41 = .ok (.iconst 1, 1) := by decide +kernel
theorem dX8_readsHouse_42 : decode cX8_readsHouse 42 = .ok (.ireturn, 1) := by decide +kernel
theorem dX8_readsString_0 : decode cX8_readsString 0 = .ok (.aload_n 0, 1) := by decide +kernel
theorem dX8_readsString_1 : decode cX8_readsString 1 = .ok (.getfield 7, 3) := by decide +kernel
theorem dX8_readsString_4 : decode cX8_readsString 4 = .ok (.sipush 342, 3) := by decide +kernel
theorem dX8_readsString_7 : decode cX8_readsString 7 = .ok (.iaload, 1) := by decide +kernel
theorem dX8_readsString_8 : decode cX8_readsString 8 = .ok (.iconst 5, 1) := by decide +kernel
theorem dX8_readsString_9 : decode cX8_readsString 9 = .ok (.if_icmp .eq 12, 3) := by decide +kernel
theorem dX8_readsString_12 : decode cX8_readsString 12 = .ok (.aload_n 0, 1) := by decide +kernel
theorem dX8_readsString_13 : decode cX8_readsString 13 = .ok (.iconst 0, 1) := by decide +kernel
theorem dX8_readsString_14 : decode cX8_readsString 14 = .ok (.iconst 5, 1) := by decide +kernel
theorem dX8_readsString_15 : decode cX8_readsString 15 = .ok (.invokevirtual 133, 3) := by decide +kernel
theorem dX8_readsString_18 : decode cX8_readsString 18 = .ok (.ifCond .ne 5, 3) := by decide +kernel
theorem dX8_readsString_21 : decode cX8_readsString 21 = .ok (.iconst 0, 1) := by decide +kernel
theorem dX8_readsString_22 : decode cX8_readsString 22 = .ok (.ireturn, 1) := by decide +kernel
theorem dX8_readsString_23 : decode cX8_readsString 23 = .ok (.aload_n 0, 1) := by decide +kernel
theorem dX8_readsString_24 : decode cX8_readsString 24 = .ok (.getfield 124, 3) := by decide +kernel
theorem dX8_readsString_27 : decode cX8_readsString 27 = .ok (.istore_n 1, 1) := by decide +kernel
theorem dX8_readsString_28 : decode cX8_readsString 28 = .ok (.aload_n 0, 1) := by decide +kernel
theorem dX8_readsString_29 : decode cX8_readsString 29 = .ok (.iconst 1, 1) := by decide +kernel
theorem dX8_readsString_30 : decode cX8_readsString 30 = .ok (.bipush 60, 2) := by decide +kernel
theorem dX8_readsString_32 : decode cX8_readsString 32 = .ok (.invokevirtual 133, 3) := by decide +kernel
theorem dX8_readsString_35 : decode cX8_readsString 35 = .ok (.ifCond .ne 5, 3) := by decide +kernel
theorem dX8_readsString_38 : decode cX8_readsString 38 = .ok (.iconst 0, 1) := by decide +kernel
theorem dX8_readsString_39 : decode cX8_readsString 39 = .ok (.ireturn, 1) := by decide +kernel
theorem dX8_readsString_40 : decode cX8_readsString 40 = .ok (.aload_n 0, 1) := by decide +kernel
theorem dX8_readsString_41 : decode cX8_readsString 41 = .ok (.sipush 342, 3) := by decide +kernel
theorem dX8_readsString_44 : decode cX8_readsString 44 = .ok (.iload_n 1, 1) := by decide +kernel
theorem dX8_readsString_45 : decode cX8_readsString 45 = .ok (.aload_n 0, 1) := by decide +kernel
theorem dX8_readsString_46 : decode cX8_readsString 46 = .ok (.getfield 124, 3) := by decide +kernel
theorem dX8_readsString_49 : decode cX8_readsString 49 = .ok (.invokevirtual 91, 3) := by decide +kernel
theorem dX8_readsString_52 : decode cX8_readsString 52 = .ok (.iconst 1, 1) := by decide +kernel
theorem dX8_readsString_53 : decode cX8_readsString 53 = .ok (.ireturn, 1) := by decide +kernel
theorem dX8_readsPurse_0 : decode cX8_readsPurse 0 = .ok (.aload_n 0, 1) := by decide +kernel
theorem dX8_readsPurse_1 : decode cX8_readsPurse 1 = .ok (.iconst 0, 1) := by decide +kernel
theorem dX8_readsPurse_2 : decode cX8_readsPurse 2 = .ok (.bipush 99, 2) := by decide +kernel
theorem dX8_readsPurse_4 : decode cX8_readsPurse 4 = .ok (.invokevirtual 133, 3) := by decide +kernel
theorem dX8_readsPurse_7 : decode cX8_readsPurse 7 = .ok (.ifCond .ne 5, 3) := by decide +kernel
theorem dX8_readsPurse_10 : decode cX8_readsPurse 10 = .ok (.iconst 0, 1) := by decide +kernel
theorem dX8_readsPurse_11 : decode cX8_readsPurse 11 = .ok (.ireturn, 1) := by decide +kernel
theorem dX8_readsPurse_12 : decode cX8_readsPurse 12 = .ok (.aload_n 0, 1) := by decide +kernel
theorem dX8_readsPurse_13 : decode cX8_readsPurse 13 = .ok (.getfield 7, 3) := by decide +kernel
theorem dX8_readsPurse_16 : decode cX8_readsPurse 16 = .ok (.sipush 356, 3) := by decide +kernel
theorem dX8_readsPurse_19 : decode cX8_readsPurse 19 = .ok (.bipush 100, 2) := by decide +kernel
theorem dX8_readsPurse_21 : decode cX8_readsPurse 21 = .ok (.aload_n 0, 1) := by decide +kernel
theorem dX8_readsPurse_22 : decode cX8_readsPurse 22 = .ok (.getfield 124, 3) := by decide +kernel
theorem dX8_readsPurse_25 : decode cX8_readsPurse 25 = .ok (.imul, 1) := by decide +kernel
theorem dX8_readsPurse_26 : decode cX8_readsPurse 26 = .ok (.iastore, 1) := by decide +kernel
theorem dX8_readsPurse_27 : decode cX8_readsPurse 27 = .ok (.iconst 1, 1) := by decide +kernel
theorem dX8_readsPurse_28 : decode cX8_readsPurse 28 = .ok (.ireturn, 1) := by decide +kernel
theorem dX8_readsSend_0 : decode cX8_readsSend 0 = .ok (.aload_n 0, 1) := by decide +kernel
theorem dX8_readsSend_1 : decode cX8_readsSend 1 = .ok (.iconst 0, 1) := by decide +kernel
theorem dX8_readsSend_2 : decode cX8_readsSend 2 = .ok (.aload_n 0, 1) := by decide +kernel
theorem dX8_readsSend_3 : decode cX8_readsSend 3 = .ok (.getfield 7, 3) := by decide +kernel
theorem dX8_readsSend_6 : decode cX8_readsSend 6 = .ok (.sipush 342, 3) := by decide +kernel
theorem dX8_readsSend_9 : decode cX8_readsSend 9 = .ok (.iaload, 1) := by decide +kernel
theorem dX8_readsSend_10 : decode cX8_readsSend 10 = .ok (.iconst 1, 1) := by decide +kernel
theorem dX8_readsSend_11 : decode cX8_readsSend 11 = .ok (.isub, 1) := by decide +kernel
theorem dX8_readsSend_12 : decode cX8_readsSend 12 = .ok (.invokevirtual 133, 3) := by decide +kernel
theorem dX8_readsSend_15 : decode cX8_readsSend 15 = .ok (.ifCond .eq 17, 3) := by decide +kernel
theorem dX8_readsSend_18 : decode cX8_readsSend 18 = .ok (.aload_n 0, 1) := by decide +kernel
theorem dX8_readsSend_19 : decode cX8_readsSend 19 = .ok (.sipush 342, 3) := by decide +kernel
theorem dX8_readsSend_22 : decode cX8_readsSend 22 = .ok (.aload_n 0, 1) := by decide +kernel
theorem dX8_readsSend_23 : decode cX8_readsSend 23 = .ok (.getfield 124, 3) := by decide +kernel
theorem dX8_readsSend_26 : decode cX8_readsSend 26 = .ok (.invokevirtual 137, 3) := by decide +kernel
theorem dX8_readsSend_29 : decode cX8_readsSend 29 = .ok (.ifCond .ne 5, 3) := by decide +kernel
theorem dX8_readsSend_32 : decode cX8_readsSend 32 = .ok (.iconst 0, 1) := by decide +kernel
theorem dX8_readsSend_33 : decode cX8_readsSend 33 = .ok (.ireturn, 1) := by decide +kernel
theorem dX8_readsSend_34 : decode cX8_readsSend 34 = .ok (.aload_n 0, 1) := by decide +kernel
theorem dX8_readsSend_35 : decode cX8_readsSend 35 = .ok (.sipush 342, 3) := by decide +kernel
theorem dX8_readsSend_38 : decode cX8_readsSend 38 = .ok (.aload_n 0, 1) := by decide +kernel
theorem dX8_readsSend_39 : decode cX8_readsSend 39 = .ok (.getfield 124, 3) := by decide +kernel
theorem dX8_readsSend_42 : decode cX8_readsSend 42 = .ok (.invokevirtual 140, 3) := by decide +kernel
theorem dX8_readsSend_45 : decode cX8_readsSend 45 = .ok (.iconst 1, 1) := by decide +kernel
theorem dX8_readsSend_46 : decode cX8_readsSend 46 = .ok (.ireturn, 1) := by decide +kernel
theorem dX8_readsWait_0 : decode cX8_readsWait 0 = .ok (.aload_n 0, 1) := by decide +kernel
theorem dX8_readsWait_1 : decode cX8_readsWait 1 = .ok (.iconst 1, 1) := by decide +kernel
theorem dX8_readsWait_2 : decode cX8_readsWait 2 = .ok (.bipush 99, 2) := by decide +kernel
theorem dX8_readsWait_4 : decode cX8_readsWait 4 = .ok (.invokevirtual 133, 3) := by decide +kernel
theorem dX8_readsWait_7 : decode cX8_readsWait 7 = .ok (.ifCond .ne 5, 3) := by decide +kernel
theorem dX8_readsWait_10 : decode cX8_readsWait 10 = .ok (.iconst 0, 1) := by decide +kernel
theorem dX8_readsWait_11 : decode cX8_readsWait 11 = .ok (.ireturn, 1) := by decide +kernel
theorem dX8_readsWait_12 : decode cX8_readsWait 12 = .ok (.aload_n 0, 1) := by decide +kernel
theorem dX8_readsWait_13 : decode cX8_readsWait 13 = .ok (.getfield 7, 3) := by decide +kernel
theorem dX8_readsWait_16 : decode cX8_readsWait 16 = .ok (.sipush 359, 3) := by decide +kernel
theorem dX8_readsWait_19 : decode cX8_readsWait 19 = .ok (.aload_n 0, 1) := by decide +kernel
theorem dX8_readsWait_20 : decode cX8_readsWait 20 = .ok (.getfield 7, 3) := by decide +kernel
theorem dX8_readsWait_23 : decode cX8_readsWait 23 = .ok (.sipush 359, 3) := by decide +kernel
theorem dX8_readsWait_26 : decode cX8_readsWait 26 = .ok (.iaload, 1) := by decide +kernel
theorem dX8_readsWait_27 : decode cX8_readsWait 27 = .ok (.aload_n 0, 1) := by decide +kernel
theorem dX8_readsWait_28 : decode cX8_readsWait 28 = .ok (.getfield 124, 3) := by decide +kernel
theorem dX8_readsWait_31 : decode cX8_readsWait 31 = .ok (.iadd, 1) := by decide +kernel
theorem dX8_readsWait_32 : decode cX8_readsWait 32 = .ok (.sipush 9999, 3) := by decide +kernel
theorem dX8_readsWait_35 : decode cX8_readsWait 35 = .ok (.if_icmp .le 9, 3) := by decide +kernel
theorem dX8_readsWait_38 : decode cX8_readsWait 38 = .ok (.sipush 9999, 3) := by decide +kernel
theorem dX8_readsWait_41 : decode cX8_readsWait 41 = .ok (.goto 16, 3) := by decide +kernel
theorem dX8_readsWait_44 : decode cX8_readsWait 44 = .ok (.aload_n 0, 1) := by decide +kernel
theorem dX8_readsWait_45 : decode cX8_readsWait 45 = .ok (.getfield 7, 3) := by decide +kernel
theorem dX8_readsWait_48 : decode cX8_readsWait 48 = .ok (.sipush 359, 3) := by decide +kernel
theorem dX8_readsWait_51 : decode cX8_readsWait 51 = .ok (.iaload, 1) := by decide +kernel
theorem dX8_readsWait_52 : decode cX8_readsWait 52 = .ok (.aload_n 0, 1) := by decide +kernel
theorem dX8_readsWait_53 : decode cX8_readsWait 53 = .ok (.getfield 124, 3) := by decide +kernel
theorem dX8_readsWait_56 : decode cX8_readsWait 56 = .ok (.iadd, 1) := by decide +kernel
theorem dX8_readsWait_57 : decode cX8_readsWait 57 = .ok (.iastore, 1) := by decide +kernel
theorem dX8_readsWait_58 : decode cX8_readsWait 58 = .ok (.iconst 1, 1) := by decide +kernel
theorem dX8_readsWait_59 : decode cX8_readsWait 59 = .ok (.ireturn, 1) := by decide +kernel
theorem dX8_readsProvince_0 : decode cX8_readsProvince 0 = .ok (.aload_n 0, 1) := by decide +kernel
theorem dX8_readsProvince_1 : decode cX8_readsProvince 1 = .ok (.iconst 1, 1) := by decide +kernel
theorem dX8_readsProvince_2 : decode cX8_readsProvince 2 = .ok (.bipush 60, 2) := by decide +kernel
theorem dX8_readsProvince_4 : decode cX8_readsProvince 4 = .ok (.invokevirtual 133, 3) := by decide +kernel
theorem dX8_readsProvince_7 : decode cX8_readsProvince 7 = .ok (.ifCond .ne 5, 3) := by decide +kernel
theorem dX8_readsProvince_10 : decode cX8_readsProvince 10 = .ok (.iconst 0, 1) := by decide +kernel
theorem dX8_readsProvince_11 : decode cX8_readsProvince 11 = .ok (.ireturn, 1) := by decide +kernel
theorem dX8_readsProvince_12 : decode cX8_readsProvince 12 = .ok (.aload_n 0, 1) := by decide +kernel
theorem dX8_readsProvince_13 : decode cX8_readsProvince 13 = .ok (.getfield 7, 3) := by decide +kernel
theorem dX8_readsProvince_16 : decode cX8_readsProvince 16 = .ok (.sipush 353, 3) := by decide +kernel
theorem dX8_readsProvince_19 : decode cX8_readsProvince 19 = .ok (.aload_n 0, 1) := by decide +kernel
theorem dX8_readsProvince_20 : decode cX8_readsProvince 20 = .ok (.getfield 124, 3) := by decide +kernel
theorem dX8_readsProvince_23 : decode cX8_readsProvince 23 = .ok (.iastore, 1) := by decide +kernel
theorem dX8_readsProvince_24 : decode cX8_readsProvince 24 = .ok (.iconst 1, 1) := by decide +kernel
theorem dX8_readsProvince_25 : decode cX8_readsProvince 25 = .ok (.ireturn, 1) := by decide +kernel
theorem dX8_readsItem_0 : decode cX8_readsItem 0 = .ok (.aload_n 0, 1) := by decide +kernel
theorem dX8_readsItem_1 : decode cX8_readsItem 1 = .ok (.invokevirtual 144, 3) := by decide +kernel
theorem dX8_readsItem_4 : decode cX8_readsItem 4 = .ok (.aload_n 0, 1) := by decide +kernel
theorem dX8_readsItem_5 : decode cX8_readsItem 5 = .ok (.invokevirtual 147, 3) := by decide +kernel
theorem dX8_readsItem_8 : decode cX8_readsItem 8 = .ok (.istore_n 2, 1) := by decide +kernel
theorem dX8_readsItem_9 : decode cX8_readsItem 9 = .ok (.iload_n 1, 1) := by decide +kernel
theorem dX8_readsItem_10 : decode cX8_readsItem 10 = .ok (.iload_n 2, 1) := by decide +kernel
theorem dX8_readsItem_11 : decode cX8_readsItem 11 = .ok (.iconst 1, 1) := by decide +kernel
theorem dX8_readsItem_12 : decode cX8_readsItem 12 = .ok (.if_icmp .ne 7, 3) := by decide +kernel
theorem dX8_readsItem_15 : decode cX8_readsItem 15 = .ok (.iconst 1, 1) := by decide +kernel
theorem dX8_readsItem_16 : decode cX8_readsItem 16 = .ok (.goto 4, 3) := by decide +kernel
theorem dX8_readsItem_19 : decode cX8_readsItem 19 = .ok (.iconst 0, 1) := by decide +kernel
theorem dX8_readsItem_20 : decode cX8_readsItem 20 = .ok (.if_icmp .eq 5, 3) := by decide +kernel
theorem dX8_readsItem_23 : decode cX8_readsItem 23 = .ok (.iconst 0, 1) := by decide +kernel
theorem dX8_readsItem_24 : decode cX8_readsItem 24 = .ok (.ireturn, 1) := by decide +kernel
theorem dX8_readsItem_25 : decode cX8_readsItem 25 = .ok (.iload_n 2, 1) := by decide +kernel
theorem dX8_readsItem_26 : decode cX8_readsItem 26 = .ok (.iconst 1, 1) := by decide +kernel
theorem dX8_readsItem_27 : decode cX8_readsItem 27 = .ok (.if_icmp .ne 10, 3) := by decide +kernel
theorem dX8_readsItem_30 : decode cX8_readsItem 30 = .ok (.aload_n 0, 1) := by decide +kernel
theorem dX8_readsItem_31 : decode cX8_readsItem 31 = .ok (.invokevirtual 150, 3) := by decide +kernel
theorem dX8_readsItem_34 : decode cX8_readsItem 34 = .ok (.goto 69, 3) := by decide +kernel
theorem dX8_readsItem_37 : decode cX8_readsItem 37 = .ok (.iload_n 2, 1) := by decide +kernel
theorem dX8_readsItem_38 : decode cX8_readsItem 38 = .ok (.iconst 2, 1) := by decide +kernel
theorem dX8_readsItem_39 : decode cX8_readsItem 39 = .ok (.if_icmp .ne 10, 3) := by decide +kernel
theorem dX8_readsItem_42 : decode cX8_readsItem 42 = .ok (.aload_n 0, 1) := by decide +kernel
theorem dX8_readsItem_43 : decode cX8_readsItem 43 = .ok (.invokevirtual 153, 3) := by decide +kernel
theorem dX8_readsItem_46 : decode cX8_readsItem 46 = .ok (.goto 57, 3) := by decide +kernel
theorem dX8_readsItem_49 : decode cX8_readsItem 49 = .ok (.iload_n 2, 1) := by decide +kernel
theorem dX8_readsItem_50 : decode cX8_readsItem 50 = .ok (.iconst 3, 1) := by decide +kernel
theorem dX8_readsItem_51 : decode cX8_readsItem 51 = .ok (.if_icmp .ne 10, 3) := by decide +kernel
theorem dX8_readsItem_54 : decode cX8_readsItem 54 = .ok (.aload_n 0, 1) := by decide +kernel
theorem dX8_readsItem_55 : decode cX8_readsItem 55 = .ok (.invokevirtual 156, 3) := by decide +kernel
theorem dX8_readsItem_58 : decode cX8_readsItem 58 = .ok (.goto 45, 3) := by decide +kernel
theorem dX8_readsItem_61 : decode cX8_readsItem 61 = .ok (.iload_n 2, 1) := by decide +kernel
theorem dX8_readsItem_62 : decode cX8_readsItem 62 = .ok (.iconst 4, 1) := by decide +kernel
theorem dX8_readsItem_63 : decode cX8_readsItem 63 = .ok (.if_icmp .ne 10, 3) := by decide +kernel
theorem dX8_readsItem_66 : decode cX8_readsItem 66 = .ok (.aload_n 0, 1) := by decide +kernel
theorem dX8_readsItem_67 : decode cX8_readsItem 67 = .ok (.invokevirtual 159, 3) := by decide +kernel
theorem dX8_readsItem_70 : decode cX8_readsItem 70 = .ok (.goto 33, 3) := by decide +kernel
theorem dX8_readsItem_73 : decode cX8_readsItem 73 = .ok (.iload_n 2, 1) := by decide +kernel
theorem dX8_readsItem_74 : decode cX8_readsItem 74 = .ok (.iconst 5, 1) := by decide +kernel
theorem dX8_readsItem_75 : decode cX8_readsItem 75 = .ok (.if_icmp .ne 10, 3) := by decide +kernel
theorem dX8_readsItem_78 : decode cX8_readsItem 78 = .ok (.aload_n 0, 1) := by decide +kernel
theorem dX8_readsItem_79 : decode cX8_readsItem 79 = .ok (.invokevirtual 162, 3) := by decide +kernel
theorem dX8_readsItem_82 : decode cX8_readsItem 82 = .ok (.goto 21, 3) := by decide +kernel
theorem dX8_readsItem_85 : decode cX8_readsItem 85 = .ok (.iload_n 2, 1) := by decide +kernel
theorem dX8_readsItem_86 : decode cX8_readsItem 86 = .ok (.bipush 6, 2) := by decide +kernel
theorem dX8_readsItem_88 : decode cX8_readsItem 88 = .ok (.if_icmp .ne 14, 3) := by decide +kernel
theorem dX8_readsItem_91 : decode cX8_readsItem 91 = .ok (.aload_n 0, 1) := by decide +kernel
theorem dX8_readsItem_92 : decode cX8_readsItem 92 = .ok (.invokevirtual 165, 3) := by decide +kernel
theorem dX8_readsItem_95 : decode cX8_readsItem 95 = .ok (.ifCond .eq 7, 3) := by decide +kernel
theorem dX8_readsItem_98 : decode cX8_readsItem 98 = .ok (.iconst 1, 1) := by decide +kernel
theorem dX8_readsItem_99 : decode cX8_readsItem 99 = .ok (.goto 4, 3) := by decide +kernel
theorem dX8_readsItem_102 : decode cX8_readsItem 102 = .ok (.iconst 0, 1) := by decide +kernel
theorem dX8_readsItem_103 : decode cX8_readsItem 103 = .ok (.istore_n 3, 1) := by decide +kernel
theorem dX8_readsItem_104 : decode cX8_readsItem 104 = .ok (.iload_n 3, 1) := by decide +kernel
theorem dX8_readsItem_105 : decode cX8_readsItem 105 = .ok (.ifCond .eq 14, 3) := by decide +kernel
theorem dX8_readsItem_108 : decode cX8_readsItem 108 = .ok (.aload_n 0, 1) := by decide +kernel
theorem dX8_readsItem_109 : decode cX8_readsItem 109 = .ok (.invokevirtual 168, 3) := by decide +kernel
theorem dX8_readsItem_112 : decode cX8_readsItem 112 = .ok (.ifCond .eq 7, 3) := by decide +kernel
theorem dX8_readsItem_115 : decode cX8_readsItem 115 = .ok (.iconst 1, 1) := by decide +kernel
theorem dX8_readsItem_116 : decode cX8_readsItem 116 = .ok (.goto 4, 3) := by decide +kernel
theorem dX8_readsItem_119 : decode cX8_readsItem 119 = .ok (.iconst 0, 1) := by decide +kernel
theorem dX8_readsItem_120 : decode cX8_readsItem 120 = .ok (.ireturn, 1) := by decide +kernel
theorem dX8_read_0 : decode cX8_read 0 = .ok (.aload_n 0, 1) := by decide +kernel
theorem dX8_read_1 : decode cX8_read 1 = .ok (.sipush 342, 3) := by decide +kernel
theorem dX8_read_4 : decode cX8_read 4 = .ok (.bipush 20, 2) := by decide +kernel
theorem dX8_read_6 : decode cX8_read 6 = .ok (.bipush 100, 2) := by decide +kernel
theorem dX8_read_8 : decode cX8_read 8 = .ok (.invokevirtual 52, 3) := by decide +kernel
theorem dX8_read_11 : decode cX8_read 11 = .ok (.aload_n 0, 1) := by decide +kernel
theorem dX8_read_12 : decode cX8_read 12 = .ok (.iconst 0, 1) := by decide +kernel
theorem dX8_read_13 : decode cX8_read 13 = .ok (.putfield 96, 3) := by decide +kernel
theorem dX8_read_16 : decode cX8_read 16 = .ok (.iconst 0, 1) := by decide +kernel
theorem dX8_read_17 : decode cX8_read 17 = .ok (.istore_n 1, 1) := by decide +kernel
theorem dX8_read_18 : decode cX8_read 18 = .ok (.aload_n 0, 1) := by decide +kernel
theorem dX8_read_19 : decode cX8_read 19 = .ok (.invokevirtual 105, 3) := by decide +kernel
theorem dX8_read_22 : decode cX8_read 22 = .ok (.iconst 1, 1) := by decide +kernel
theorem dX8_read_23 : decode cX8_read 23 = .ok (.istore_n 2, 1) := by decide +kernel
theorem dX8_read_24 : decode cX8_read 24 = .ok (.iload_n 2, 1) := by decide +kernel
theorem dX8_read_25 : decode cX8_read 25 = .ok (.ifCond .eq 46, 3) := by decide +kernel
theorem dX8_read_28 : decode cX8_read 28 = .ok (.aload_n 0, 1) := by decide +kernel
theorem dX8_read_29 : decode cX8_read 29 = .ok (.getfield 102, 3) := by decide +kernel
theorem dX8_read_32 : decode cX8_read 32 = .ok (.aload_n 0, 1) := by decide +kernel
theorem dX8_read_33 : decode cX8_read 33 = .ok (.getfield 48, 3) := by decide +kernel
theorem dX8_read_36 : decode cX8_read 36 = .ok (.if_icmp .lt 7, 3) := by decide +kernel
theorem dX8_read_39 : decode cX8_read 39 = .ok (.iload_n 1, 1) := by decide +kernel
theorem dX8_read_40 : decode cX8_read 40 = .ok (.ifCond .ne 31, 3) := by decide +kernel
theorem dX8_read_43 : decode cX8_read 43 = .ok (.aload_n 0, 1) := by decide +kernel
theorem dX8_read_44 : decode cX8_read 44 = .ok (.iload_n 1, 1) := by decide +kernel
theorem dX8_read_45 : decode cX8_read 45 = .ok (.ifCond .ne 7, 3) := by decide +kernel
theorem dX8_read_48 : decode cX8_read 48 = .ok (.iconst 1, 1) := by decide +kernel
theorem dX8_read_49 : decode cX8_read 49 = .ok (.goto 4, 3) := by decide +kernel
theorem dX8_read_52 : decode cX8_read 52 = .ok (.iconst 0, 1) := by decide +kernel
theorem dX8_read_53 : decode cX8_read 53 = .ok (.invokevirtual 171, 3) := by decide +kernel
theorem dX8_read_56 : decode cX8_read 56 = .ok (.istore_n 2, 1) := by decide +kernel
theorem dX8_read_57 : decode cX8_read 57 = .ok (.iinc 1 1, 3) := by decide +kernel
theorem dX8_read_60 : decode cX8_read 60 = .ok (.iload_n 2, 1) := by decide +kernel
theorem dX8_read_61 : decode cX8_read 61 = .ok (.ifCond .eq (-37), 3) := by decide +kernel
theorem dX8_read_64 : decode cX8_read 64 = .ok (.aload_n 0, 1) := by decide +kernel
theorem dX8_read_65 : decode cX8_read 65 = .ok (.invokevirtual 105, 3) := by decide +kernel
theorem dX8_read_68 : decode cX8_read 68 = .ok (.goto (-44), 3) := by decide +kernel
theorem dX8_read_71 : decode cX8_read 71 = .ok (.iload_n 2, 1) := by decide +kernel
theorem dX8_read_72 : decode cX8_read 72 = .ok (.ifCond .ne 11, 3) := by decide +kernel
theorem dX8_read_75 : decode cX8_read 75 = .ok (.bipush (-10), 2) := by decide +kernel
theorem dX8_read_77 : decode cX8_read 77 = .ok (.aload_n 0, 1) := by decide +kernel
theorem dX8_read_78 : decode cX8_read 78 = .ok (.getfield 102, 3) := by decide +kernel
theorem dX8_read_81 : decode cX8_read 81 = .ok (.isub, 1) := by decide +kernel
theorem dX8_read_82 : decode cX8_read 82 = .ok (.ireturn, 1) := by decide +kernel
theorem dX8_read_83 : decode cX8_read 83 = .ok (.aload_n 0, 1) := by decide +kernel
theorem dX8_read_84 : decode cX8_read 84 = .ok (.sipush 342, 3) := by decide +kernel
theorem dX8_read_87 : decode cX8_read 87 = .ok (.iconst 0, 1) := by decide +kernel
theorem dX8_read_88 : decode cX8_read 88 = .ok (.invokevirtual 175, 3) := by decide +kernel
theorem dX8_read_91 : decode cX8_read 91 = .ok (.iload_n 1, 1) := by decide +kernel
theorem dX8_read_92 : decode cX8_read 92 = .ok (.ireturn, 1) := by decide +kernel
theorem dX8_showsIn_0 : decode cX8_showsIn 0 = .ok (.aload_n 0, 1) := by decide +kernel
theorem dX8_showsIn_1 : decode cX8_showsIn 1 = .ok (.getfield 7, 3) := by decide +kernel
theorem dX8_showsIn_4 : decode cX8_showsIn 4 = .ok (.iload_n 1, 1) := by decide +kernel
theorem dX8_showsIn_5 : decode cX8_showsIn 5 = .ok (.iconst 1, 1) := by decide +kernel
theorem dX8_showsIn_6 : decode cX8_showsIn 6 = .ok (.iadd, 1) := by decide +kernel
theorem dX8_showsIn_7 : decode cX8_showsIn 7 = .ok (.iload_n 2, 1) := by decide +kernel
theorem dX8_showsIn_8 : decode cX8_showsIn 8 = .ok (.iadd, 1) := by decide +kernel
theorem dX8_showsIn_9 : decode cX8_showsIn 9 = .ok (.iaload, 1) := by decide +kernel
theorem dX8_showsIn_10 : decode cX8_showsIn 10 = .ok (.aload_n 0, 1) := by decide +kernel
theorem dX8_showsIn_11 : decode cX8_showsIn 11 = .ok (.getfield 7, 3) := by decide +kernel
theorem dX8_showsIn_14 : decode cX8_showsIn 14 = .ok (.iload_n 1, 1) := by decide +kernel
theorem dX8_showsIn_15 : decode cX8_showsIn 15 = .ok (.bipush 6, 2) := by decide +kernel
theorem dX8_showsIn_17 : decode cX8_showsIn 17 = .ok (.iadd, 1) := by decide +kernel
theorem dX8_showsIn_18 : decode cX8_showsIn 18 = .ok (.iload_n 2, 1) := by decide +kernel
theorem dX8_showsIn_19 : decode cX8_showsIn 19 = .ok (.iadd, 1) := by decide +kernel
theorem dX8_showsIn_20 : decode cX8_showsIn 20 = .ok (.iaload, 1) := by decide +kernel
theorem dX8_showsIn_21 : decode cX8_showsIn 21 = .ok (.iload_n 3, 1) := by decide +kernel
theorem dX8_showsIn_22 : decode cX8_showsIn 22 = .ok (.bipush 24, 2) := by decide +kernel
theorem dX8_showsIn_24 : decode cX8_showsIn 24 = .ok (.irem, 1) := by decide +kernel
theorem dX8_showsIn_25 : decode cX8_showsIn 25 = .ok (.invokestatic 178, 3) := by decide +kernel
theorem dX8_showsIn_28 : decode cX8_showsIn 28 = .ok (.ireturn, 1) := by decide +kernel
theorem dX8_costIn_0 : decode cX8_costIn 0 = .ok (.aload_n 0, 1) := by decide +kernel
theorem dX8_costIn_1 : decode cX8_costIn 1 = .ok (.iload_n 1, 1) := by decide +kernel
theorem dX8_costIn_2 : decode cX8_costIn 2 = .ok (.iload_n 2, 1) := by decide +kernel
theorem dX8_costIn_3 : decode cX8_costIn 3 = .ok (.iload_n 3, 1) := by decide +kernel
theorem dX8_costIn_4 : decode cX8_costIn 4 = .ok (.invokevirtual 182, 3) := by decide +kernel
theorem dX8_costIn_7 : decode cX8_costIn 7 = .ok (.istore 4, 2) := by decide +kernel
theorem dX8_costIn_9 : decode cX8_costIn 9 = .ok (.aload_n 0, 1) := by decide +kernel
theorem dX8_costIn_10 : decode cX8_costIn 10 = .ok (.getfield 7, 3) := by decide +kernel
theorem dX8_costIn_13 : decode cX8_costIn 13 = .ok (.iload_n 1, 1) := by decide +kernel
theorem dX8_costIn_14 : decode cX8_costIn 14 = .ok (.bipush 12, 2) := by decide +kernel
theorem dX8_costIn_16 : decode cX8_costIn 16 = .ok (.iadd, 1) := by decide +kernel
theorem dX8_costIn_17 : decode cX8_costIn 17 = .ok (.iaload, 1) := by decide +kernel
theorem dX8_costIn_18 : decode cX8_costIn 18 = .ok (.iload 4, 2) := by decide +kernel
theorem dX8_costIn_20 : decode cX8_costIn 20 = .ok (.iload_n 3, 1) := by decide +kernel
theorem dX8_costIn_21 : decode cX8_costIn 21 = .ok (.bipush 24, 2) := by decide +kernel
theorem dX8_costIn_23 : decode cX8_costIn 23 = .ok (.idiv, 1) := by decide +kernel
theorem dX8_costIn_24 : decode cX8_costIn 24 = .ok (.invokestatic 185, 3) := by decide +kernel
theorem dX8_costIn_27 : decode cX8_costIn 27 = .ok (.aload_n 0, 1) := by decide +kernel
theorem dX8_costIn_28 : decode cX8_costIn 28 = .ok (.getfield 7, 3) := by decide +kernel
theorem dX8_costIn_31 : decode cX8_costIn 31 = .ok (.iload_n 1, 1) := by decide +kernel
theorem dX8_costIn_32 : decode cX8_costIn 32 = .ok (.bipush 12, 2) := by decide +kernel
theorem dX8_costIn_34 : decode cX8_costIn 34 = .ok (.iadd, 1) := by decide +kernel
theorem dX8_costIn_35 : decode cX8_costIn 35 = .ok (.iconst 1, 1) := by decide +kernel
theorem dX8_costIn_36 : decode cX8_costIn 36 = .ok (.iadd, 1) := by decide +kernel
theorem dX8_costIn_37 : decode cX8_costIn 37 = .ok (.iaload, 1) := by decide +kernel
theorem dX8_costIn_38 : decode cX8_costIn 38 = .ok (.iload 4, 2) := by decide +kernel
theorem dX8_costIn_40 : decode cX8_costIn 40 = .ok (.iload_n 3, 1) := by decide +kernel
theorem dX8_costIn_41 : decode cX8_costIn 41 = .ok (.bipush 24, 2) := by decide +kernel
theorem dX8_costIn_43 : decode cX8_costIn 43 = .ok (.idiv, 1) := by decide +kernel
theorem dX8_costIn_44 : decode cX8_costIn 44 = .ok (.invokestatic 185, 3) := by decide +kernel
theorem dX8_costIn_47 : decode cX8_costIn 47 = .ok (.iadd, 1) := by decide +kernel
theorem dX8_costIn_48 : decode cX8_costIn 48 = .ok (.ireturn, 1) := by decide +kernel
theorem dX8_bringsIn_0 : decode cX8_bringsIn 0 = .ok (.aload_n 0, 1) := by decide +kernel
theorem dX8_bringsIn_1 : decode cX8_bringsIn 1 = .ok (.getfield 7, 3) := by decide +kernel
theorem dX8_bringsIn_4 : decode cX8_bringsIn 4 = .ok (.iload_n 1, 1) := by decide +kernel
theorem dX8_bringsIn_5 : decode cX8_bringsIn 5 = .ok (.bipush 6, 2) := by decide +kernel
theorem dX8_bringsIn_7 : decode cX8_bringsIn 7 = .ok (.iadd, 1) := by decide +kernel
theorem dX8_bringsIn_8 : decode cX8_bringsIn 8 = .ok (.iload_n 2, 1) := by decide +kernel
theorem dX8_bringsIn_9 : decode cX8_bringsIn 9 = .ok (.iadd, 1) := by decide +kernel
theorem dX8_bringsIn_10 : decode cX8_bringsIn 10 = .ok (.iaload, 1) := by decide +kernel
theorem dX8_bringsIn_11 : decode cX8_bringsIn 11 = .ok (.aload_n 0, 1) := by decide +kernel
theorem dX8_bringsIn_12 : decode cX8_bringsIn 12 = .ok (.getfield 7, 3) := by decide +kernel
theorem dX8_bringsIn_15 : decode cX8_bringsIn 15 = .ok (.iload_n 1, 1) := by decide +kernel
theorem dX8_bringsIn_16 : decode cX8_bringsIn 16 = .ok (.bipush 11, 2) := by decide +kernel
theorem dX8_bringsIn_18 : decode cX8_bringsIn 18 = .ok (.iadd, 1) := by decide +kernel
theorem dX8_bringsIn_19 : decode cX8_bringsIn 19 = .ok (.iaload, 1) := by decide +kernel
theorem dX8_bringsIn_20 : decode cX8_bringsIn 20 = .ok (.invokestatic 188, 3) := by decide +kernel
theorem dX8_bringsIn_23 : decode cX8_bringsIn 23 = .ok (.ireturn, 1) := by decide +kernel
theorem dX8_canSend_0 : decode cX8_canSend 0 = .ok (.aload_n 0, 1) := by decide +kernel
theorem dX8_canSend_1 : decode cX8_canSend 1 = .ok (.getfield 7, 3) := by decide +kernel
theorem dX8_canSend_4 : decode cX8_canSend 4 = .ok (.iload_n 1, 1) := by decide +kernel
theorem dX8_canSend_5 : decode cX8_canSend 5 = .ok (.bipush 17, 2) := by decide +kernel
theorem dX8_canSend_7 : decode cX8_canSend 7 = .ok (.iadd, 1) := by decide +kernel
theorem dX8_canSend_8 : decode cX8_canSend 8 = .ok (.iaload, 1) := by decide +kernel
theorem dX8_canSend_9 : decode cX8_canSend 9 = .ok (.sipush 9999, 3) := by decide +kernel
theorem dX8_canSend_12 : decode cX8_canSend 12 = .ok (.if_icmp .ge 34, 3) := by decide +kernel
theorem dX8_canSend_15 : decode cX8_canSend 15 = .ok (.aload_n 0, 1) := by decide +kernel
theorem dX8_canSend_16 : decode cX8_canSend 16 = .ok (.getfield 7, 3) := by decide +kernel
theorem dX8_canSend_19 : decode cX8_canSend 19 = .ok (.iload_n 1, 1) := by decide +kernel
theorem dX8_canSend_20 : decode cX8_canSend 20 = .ok (.bipush 14, 2) := by decide +kernel
theorem dX8_canSend_22 : decode cX8_canSend 22 = .ok (.iadd, 1) := by decide +kernel
theorem dX8_canSend_23 : decode cX8_canSend 23 = .ok (.iaload, 1) := by decide +kernel
theorem dX8_canSend_24 : decode cX8_canSend 24 = .ok (.aload_n 0, 1) := by decide +kernel
theorem dX8_canSend_25 : decode cX8_canSend 25 = .ok (.iload_n 1, 1) := by decide +kernel
theorem dX8_canSend_26 : decode cX8_canSend 26 = .ok (.iload_n 2, 1) := by decide +kernel
theorem dX8_canSend_27 : decode cX8_canSend 27 = .ok (.aload_n 0, 1) := by decide +kernel
theorem dX8_canSend_28 : decode cX8_canSend 28 = .ok (.getfield 7, 3) := by decide +kernel
theorem dX8_canSend_31 : decode cX8_canSend 31 = .ok (.iload_n 1, 1) := by decide +kernel
theorem dX8_canSend_32 : decode cX8_canSend 32 = .ok (.bipush 17, 2) := by decide +kernel
theorem dX8_canSend_34 : decode cX8_canSend 34 = .ok (.iadd, 1) := by decide +kernel
theorem dX8_canSend_35 : decode cX8_canSend 35 = .ok (.iaload, 1) := by decide +kernel
theorem dX8_canSend_36 : decode cX8_canSend 36 = .ok (.invokevirtual 191, 3) := by decide +kernel
theorem dX8_canSend_39 : decode cX8_canSend 39 = .ok (.if_icmp .lt 7, 3) := by decide +kernel
theorem dX8_canSend_42 : decode cX8_canSend 42 = .ok (.iconst 1, 1) := by decide +kernel
theorem dX8_canSend_43 : decode cX8_canSend 43 = .ok (.goto 4, 3) := by decide +kernel
theorem dX8_canSend_46 : decode cX8_canSend 46 = .ok (.iconst 0, 1) := by decide +kernel
theorem dX8_canSend_47 : decode cX8_canSend 47 = .ok (.ireturn, 1) := by decide +kernel
theorem dX8_isSent_0 : decode cX8_isSent 0 = .ok (.aload_n 0, 1) := by decide +kernel
theorem dX8_isSent_1 : decode cX8_isSent 1 = .ok (.getfield 7, 3) := by decide +kernel
theorem dX8_isSent_4 : decode cX8_isSent 4 = .ok (.iload_n 1, 1) := by decide +kernel
theorem dX8_isSent_5 : decode cX8_isSent 5 = .ok (.bipush 17, 2) := by decide +kernel
theorem dX8_isSent_7 : decode cX8_isSent 7 = .ok (.iadd, 1) := by decide +kernel
theorem dX8_isSent_8 : decode cX8_isSent 8 = .ok (.iaload, 1) := by decide +kernel
theorem dX8_isSent_9 : decode cX8_isSent 9 = .ok (.istore_n 3, 1) := by decide +kernel
theorem dX8_isSent_10 : decode cX8_isSent 10 = .ok (.aload_n 0, 1) := by decide +kernel
theorem dX8_isSent_11 : decode cX8_isSent 11 = .ok (.getfield 7, 3) := by decide +kernel
theorem dX8_isSent_14 : decode cX8_isSent 14 = .ok (.iload_n 1, 1) := by decide +kernel
theorem dX8_isSent_15 : decode cX8_isSent 15 = .ok (.bipush 14, 2) := by decide +kernel
theorem dX8_isSent_17 : decode cX8_isSent 17 = .ok (.iadd, 1) := by decide +kernel
theorem dX8_isSent_18 : decode cX8_isSent 18 = .ok (.dup2, 1) := by decide +kernel
theorem dX8_isSent_19 : decode cX8_isSent 19 = .ok (.iaload, 1) := by decide +kernel
theorem dX8_isSent_20 : decode cX8_isSent 20 = .ok (.aload_n 0, 1) := by decide +kernel
theorem dX8_isSent_21 : decode cX8_isSent 21 = .ok (.iload_n 1, 1) := by decide +kernel
theorem dX8_isSent_22 : decode cX8_isSent 22 = .ok (.iload_n 2, 1) := by decide +kernel
theorem dX8_isSent_23 : decode cX8_isSent 23 = .ok (.iload_n 3, 1) := by decide +kernel
theorem dX8_isSent_24 : decode cX8_isSent 24 = .ok (.invokevirtual 191, 3) := by decide +kernel
theorem dX8_isSent_27 : decode cX8_isSent 27 = .ok (.isub, 1) := by decide +kernel
theorem dX8_isSent_28 : decode cX8_isSent 28 = .ok (.iastore, 1) := by decide +kernel
theorem dX8_isSent_29 : decode cX8_isSent 29 = .ok (.aload_n 0, 1) := by decide +kernel
theorem dX8_isSent_30 : decode cX8_isSent 30 = .ok (.getfield 7, 3) := by decide +kernel
theorem dX8_isSent_33 : decode cX8_isSent 33 = .ok (.iload_n 1, 1) := by decide +kernel
theorem dX8_isSent_34 : decode cX8_isSent 34 = .ok (.bipush 15, 2) := by decide +kernel
theorem dX8_isSent_36 : decode cX8_isSent 36 = .ok (.iadd, 1) := by decide +kernel
theorem dX8_isSent_37 : decode cX8_isSent 37 = .ok (.dup2, 1) := by decide +kernel
theorem dX8_isSent_38 : decode cX8_isSent 38 = .ok (.iaload, 1) := by decide +kernel
theorem dX8_isSent_39 : decode cX8_isSent 39 = .ok (.aload_n 0, 1) := by decide +kernel
theorem dX8_isSent_40 : decode cX8_isSent 40 = .ok (.iload_n 1, 1) := by decide +kernel
theorem dX8_isSent_41 : decode cX8_isSent 41 = .ok (.iload_n 2, 1) := by decide +kernel
theorem dX8_isSent_42 : decode cX8_isSent 42 = .ok (.invokevirtual 194, 3) := by decide +kernel
theorem dX8_isSent_45 : decode cX8_isSent 45 = .ok (.iadd, 1) := by decide +kernel
theorem dX8_isSent_46 : decode cX8_isSent 46 = .ok (.iastore, 1) := by decide +kernel
theorem dX8_isSent_47 : decode cX8_isSent 47 = .ok (.aload_n 0, 1) := by decide +kernel
theorem dX8_isSent_48 : decode cX8_isSent 48 = .ok (.getfield 7, 3) := by decide +kernel
theorem dX8_isSent_51 : decode cX8_isSent 51 = .ok (.iload_n 1, 1) := by decide +kernel
theorem dX8_isSent_52 : decode cX8_isSent 52 = .ok (.bipush 16, 2) := by decide +kernel
theorem dX8_isSent_54 : decode cX8_isSent 54 = .ok (.iadd, 1) := by decide +kernel
theorem dX8_isSent_55 : decode cX8_isSent 55 = .ok (.dup2, 1) := by decide +kernel
theorem dX8_isSent_56 : decode cX8_isSent 56 = .ok (.iaload, 1) := by decide +kernel
theorem dX8_isSent_57 : decode cX8_isSent 57 = .ok (.aload_n 0, 1) := by decide +kernel
theorem dX8_isSent_58 : decode cX8_isSent 58 = .ok (.getfield 7, 3) := by decide +kernel
theorem dX8_isSent_61 : decode cX8_isSent 61 = .ok (.iload_n 1, 1) := by decide +kernel
theorem dX8_isSent_62 : decode cX8_isSent 62 = .ok (.bipush 12, 2) := by decide +kernel
theorem dX8_isSent_64 : decode cX8_isSent 64 = .ok (.iadd, 1) := by decide +kernel
theorem dX8_isSent_65 : decode cX8_isSent 65 = .ok (.iconst 1, 1) := by decide +kernel
theorem dX8_isSent_66 : decode cX8_isSent 66 = .ok (.iadd, 1) := by decide +kernel
theorem dX8_isSent_67 : decode cX8_isSent 67 = .ok (.iaload, 1) := by decide +kernel
theorem dX8_isSent_68 : decode cX8_isSent 68 = .ok (.aload_n 0, 1) := by decide +kernel
theorem dX8_isSent_69 : decode cX8_isSent 69 = .ok (.iload_n 1, 1) := by decide +kernel
theorem dX8_isSent_70 : decode cX8_isSent 70 = .ok (.iload_n 2, 1) := by decide +kernel
theorem dX8_isSent_71 : decode cX8_isSent 71 = .ok (.iload_n 3, 1) := by decide +kernel
theorem dX8_isSent_72 : decode cX8_isSent 72 = .ok (.invokevirtual 182, 3) := by decide +kernel
theorem dX8_isSent_75 : decode cX8_isSent 75 = .ok (.iload_n 3, 1) := by decide +kernel
theorem dX8_isSent_76 : decode cX8_isSent 76 = .ok (.bipush 24, 2) := by decide +kernel
theorem dX8_isSent_78 : decode cX8_isSent 78 = .ok (.idiv, 1) := by decide +kernel
theorem dX8_isSent_79 : decode cX8_isSent 79 = .ok (.invokestatic 185, 3) := by decide +kernel
theorem dX8_isSent_82 : decode cX8_isSent 82 = .ok (.ifCond .le 7, 3) := by decide +kernel
theorem dX8_isSent_85 : decode cX8_isSent 85 = .ok (.iconst 1, 1) := by decide +kernel
theorem dX8_isSent_86 : decode cX8_isSent 86 = .ok (.goto 4, 3) := by decide +kernel
theorem dX8_isSent_89 : decode cX8_isSent 89 = .ok (.iconst 0, 1) := by decide +kernel
theorem dX8_isSent_90 : decode cX8_isSent 90 = .ok (.iadd, 1) := by decide +kernel
theorem dX8_isSent_91 : decode cX8_isSent 91 = .ok (.iastore, 1) := by decide +kernel
theorem dX8_isSent_92 : decode cX8_isSent 92 = .ok (.aload_n 0, 1) := by decide +kernel
theorem dX8_isSent_93 : decode cX8_isSent 93 = .ok (.getfield 7, 3) := by decide +kernel
theorem dX8_isSent_96 : decode cX8_isSent 96 = .ok (.iload_n 1, 1) := by decide +kernel
theorem dX8_isSent_97 : decode cX8_isSent 97 = .ok (.bipush 17, 2) := by decide +kernel
theorem dX8_isSent_99 : decode cX8_isSent 99 = .ok (.iadd, 1) := by decide +kernel
theorem dX8_isSent_100 : decode cX8_isSent 100 = .ok (.dup2, 1) := by decide +kernel
theorem dX8_isSent_101 : decode cX8_isSent 101 = .ok (.iaload, 1) := by decide +kernel
theorem dX8_isSent_102 : decode cX8_isSent 102 = .ok (.iconst 1, 1) := by decide +kernel
theorem dX8_isSent_103 : decode cX8_isSent 103 = .ok (.iadd, 1) := by decide +kernel
theorem dX8_isSent_104 : decode cX8_isSent 104 = .ok (.iastore, 1) := by decide +kernel
theorem dX8_isSent_105 : decode cX8_isSent 105 = .ok (.return_, 1) := by decide +kernel
theorem dX8_minds_0 : decode cX8_minds 0 = .ok (.aload_n 0, 1) := by decide +kernel
theorem dX8_minds_1 : decode cX8_minds 1 = .ok (.getfield 7, 3) := by decide +kernel
theorem dX8_minds_4 : decode cX8_minds 4 = .ok (.bipush 81, 2) := by decide +kernel
theorem dX8_minds_6 : decode cX8_minds 6 = .ok (.iaload, 1) := by decide +kernel
theorem dX8_minds_7 : decode cX8_minds 7 = .ok (.bipush 8, 2) := by decide +kernel
theorem dX8_minds_9 : decode cX8_minds 9 = .ok (.if_icmp .ne 48, 3) := by decide +kernel
theorem dX8_minds_12 : decode cX8_minds 12 = .ok (.iconst 0, 1) := by decide +kernel
theorem dX8_minds_13 : decode cX8_minds 13 = .ok (.istore_n 1, 1) := by decide +kernel
theorem dX8_minds_14 : decode cX8_minds 14 = .ok (.iload_n 1, 1) := by decide +kernel
theorem dX8_minds_15 : decode cX8_minds 15 = .ok (.bipush 28, 2) := by decide +kernel
theorem dX8_minds_17 : decode cX8_minds 17 = .ok (.if_icmp .ge 29, 3) := by decide +kernel
theorem dX8_minds_20 : decode cX8_minds 20 = .ok (.aload_n 0, 1) := by decide +kernel
theorem dX8_minds_21 : decode cX8_minds 21 = .ok (.getfield 7, 3) := by decide +kernel
theorem dX8_minds_24 : decode cX8_minds 24 = .ok (.bipush 82, 2) := by decide +kernel
theorem dX8_minds_26 : decode cX8_minds 26 = .ok (.iload_n 1, 1) := by decide +kernel
theorem dX8_minds_27 : decode cX8_minds 27 = .ok (.iadd, 1) := by decide +kernel
theorem dX8_minds_28 : decode cX8_minds 28 = .ok (.aload_n 0, 1) := by decide +kernel
theorem dX8_minds_29 : decode cX8_minds 29 = .ok (.getfield 7, 3) := by decide +kernel
theorem dX8_minds_32 : decode cX8_minds 32 = .ok (.bipush 82, 2) := by decide +kernel
theorem dX8_minds_34 : decode cX8_minds 34 = .ok (.iload_n 1, 1) := by decide +kernel
theorem dX8_minds_35 : decode cX8_minds 35 = .ok (.iadd, 1) := by decide +kernel
theorem dX8_minds_36 : decode cX8_minds 36 = .ok (.iconst 4, 1) := by decide +kernel
theorem dX8_minds_37 : decode cX8_minds 37 = .ok (.iadd, 1) := by decide +kernel
theorem dX8_minds_38 : decode cX8_minds 38 = .ok (.iaload, 1) := by decide +kernel
theorem dX8_minds_39 : decode cX8_minds 39 = .ok (.iastore, 1) := by decide +kernel
theorem dX8_minds_40 : decode cX8_minds 40 = .ok (.iinc 1 1, 3) := by decide +kernel
theorem dX8_minds_43 : decode cX8_minds 43 = .ok (.goto (-29), 3) := by decide +kernel
theorem dX8_minds_46 : decode cX8_minds 46 = .ok (.aload_n 0, 1) := by decide +kernel
theorem dX8_minds_47 : decode cX8_minds 47 = .ok (.getfield 7, 3) := by decide +kernel
theorem dX8_minds_50 : decode cX8_minds 50 = .ok (.bipush 81, 2) := by decide +kernel
theorem dX8_minds_52 : decode cX8_minds 52 = .ok (.dup2, 1) := by decide +kernel
theorem dX8_minds_53 : decode cX8_minds 53 = .ok (.iaload, 1) := by decide +kernel
theorem dX8_minds_54 : decode cX8_minds 54 = .ok (.iconst 1, 1) := by decide +kernel
theorem dX8_minds_55 : decode cX8_minds 55 = .ok (.isub, 1) := by decide +kernel
theorem dX8_minds_56 : decode cX8_minds 56 = .ok (.iastore, 1) := by decide +kernel
theorem dX8_minds_57 : decode cX8_minds 57 = .ok (.iconst 0, 1) := by decide +kernel
theorem dX8_minds_58 : decode cX8_minds 58 = .ok (.istore_n 1, 1) := by decide +kernel
theorem dX8_minds_59 : decode cX8_minds 59 = .ok (.iload_n 1, 1) := by decide +kernel
theorem dX8_minds_60 : decode cX8_minds 60 = .ok (.iconst 4, 1) := by decide +kernel
theorem dX8_minds_61 : decode cX8_minds 61 = .ok (.if_icmp .ge 37, 3) := by decide +kernel
theorem dX8_minds_64 : decode cX8_minds 64 = .ok (.aload_n 0, 1) := by decide +kernel
theorem dX8_minds_65 : decode cX8_minds 65 = .ok (.getfield 7, 3) := by decide +kernel
theorem dX8_minds_68 : decode cX8_minds 68 = .ok (.bipush 82, 2) := by decide +kernel
theorem dX8_minds_70 : decode cX8_minds 70 = .ok (.iconst 4, 1) := by decide +kernel
theorem dX8_minds_71 : decode cX8_minds 71 = .ok (.aload_n 0, 1) := by decide +kernel
theorem dX8_minds_72 : decode cX8_minds 72 = .ok (.getfield 7, 3) := by decide +kernel
theorem dX8_minds_75 : decode cX8_minds 75 = .ok (.bipush 81, 2) := by decide +kernel
theorem dX8_minds_77 : decode cX8_minds 77 = .ok (.iaload, 1) := by decide +kernel
theorem dX8_minds_78 : decode cX8_minds 78 = .ok (.imul, 1) := by decide +kernel
theorem dX8_minds_79 : decode cX8_minds 79 = .ok (.iadd, 1) := by decide +kernel
theorem dX8_minds_80 : decode cX8_minds 80 = .ok (.iload_n 1, 1) := by decide +kernel
theorem dX8_minds_81 : decode cX8_minds 81 = .ok (.iadd, 1) := by decide +kernel
theorem dX8_minds_82 : decode cX8_minds 82 = .ok (.aload_n 0, 1) := by decide +kernel
theorem dX8_minds_83 : decode cX8_minds 83 = .ok (.getfield 7, 3) := by decide +kernel
theorem dX8_minds_86 : decode cX8_minds 86 = .ok (.bipush 14, 2) := by decide +kernel
theorem dX8_minds_88 : decode cX8_minds 88 = .ok (.iload_n 1, 1) := by decide +kernel
theorem dX8_minds_89 : decode cX8_minds 89 = .ok (.iadd, 1) := by decide +kernel
theorem dX8_minds_90 : decode cX8_minds 90 = .ok (.iaload, 1) := by decide +kernel
theorem dX8_minds_91 : decode cX8_minds 91 = .ok (.iastore, 1) := by decide +kernel
theorem dX8_minds_92 : decode cX8_minds 92 = .ok (.iinc 1 1, 3) := by decide +kernel
theorem dX8_minds_95 : decode cX8_minds 95 = .ok (.goto (-36), 3) := by decide +kernel
theorem dX8_minds_98 : decode cX8_minds 98 = .ok (.aload_n 0, 1) := by decide +kernel
theorem dX8_minds_99 : decode cX8_minds 99 = .ok (.getfield 7, 3) := by decide +kernel
theorem dX8_minds_102 : decode cX8_minds 102 = .ok (.bipush 81, 2) := by decide +kernel
theorem dX8_minds_104 : decode cX8_minds 104 = .ok (.dup2, 1) := by decide +kernel
theorem dX8_minds_105 : decode cX8_minds 105 = .ok (.iaload, 1) := by decide +kernel
theorem dX8_minds_106 : decode cX8_minds 106 = .ok (.iconst 1, 1) := by decide +kernel
theorem dX8_minds_107 : decode cX8_minds 107 = .ok (.iadd, 1) := by decide +kernel
theorem dX8_minds_108 : decode cX8_minds 108 = .ok (.iastore, 1) := by decide +kernel
theorem dX8_minds_109 : decode cX8_minds 109 = .ok (.return_, 1) := by decide +kernel
theorem dX8_sends_0 : decode cX8_sends 0 = .ok (.aload_n 0, 1) := by decide +kernel
theorem dX8_sends_1 : decode cX8_sends 1 = .ok (.iload_n 1, 1) := by decide +kernel
theorem dX8_sends_2 : decode cX8_sends 2 = .ok (.invokevirtual 197, 3) := by decide +kernel
theorem dX8_sends_5 : decode cX8_sends 5 = .ok (.ifCond .ne 10, 3) := by decide +kernel
theorem dX8_sends_8 : decode cX8_sends 8 = .ok (.aload_n 0, 1) := by decide +kernel
theorem dX8_sends_9 : decode cX8_sends 9 = .ok (.bipush (-2), 2) := by decide +kernel
theorem dX8_sends_11 : decode cX8_sends 11 = .ok (.invokevirtual 78, 3) := by decide +kernel
theorem dX8_sends_14 : decode cX8_sends 14 = .ok (.ireturn, 1) := by decide +kernel
theorem dX8_sends_15 : decode cX8_sends 15 = .ok (.aload_n 0, 1) := by decide +kernel
theorem dX8_sends_16 : decode cX8_sends 16 = .ok (.iconst 0, 1) := by decide +kernel
theorem dX8_sends_17 : decode cX8_sends 17 = .ok (.iload_n 1, 1) := by decide +kernel
theorem dX8_sends_18 : decode cX8_sends 18 = .ok (.invokevirtual 137, 3) := by decide +kernel
theorem dX8_sends_21 : decode cX8_sends 21 = .ok (.ifCond .ne 8, 3) := by decide +kernel
theorem dX8_sends_24 : decode cX8_sends 24 = .ok (.aload_n 0, 1) := by decide +kernel
theorem dX8_sends_25 : decode cX8_sends 25 = .ok (.invokevirtual 200, 3) := by decide +kernel
theorem dX8_sends_28 : decode cX8_sends 28 = .ok (.ireturn, 1) := by decide +kernel
theorem dX8_sends_29 : decode cX8_sends 29 = .ok (.aload_n 0, 1) := by decide +kernel
theorem dX8_sends_30 : decode cX8_sends 30 = .ok (.invokevirtual 203, 3) := by decide +kernel
theorem dX8_sends_33 : decode cX8_sends 33 = .ok (.aload_n 0, 1) := by decide +kernel
theorem dX8_sends_34 : decode cX8_sends 34 = .ok (.iconst 0, 1) := by decide +kernel
theorem dX8_sends_35 : decode cX8_sends 35 = .ok (.iload_n 1, 1) := by decide +kernel
theorem dX8_sends_36 : decode cX8_sends 36 = .ok (.invokevirtual 140, 3) := by decide +kernel
theorem dX8_sends_39 : decode cX8_sends 39 = .ok (.aload_n 0, 1) := by decide +kernel
theorem dX8_sends_40 : decode cX8_sends 40 = .ok (.iconst 0, 1) := by decide +kernel
theorem dX8_sends_41 : decode cX8_sends 41 = .ok (.iload_n 1, 1) := by decide +kernel
theorem dX8_sends_42 : decode cX8_sends 42 = .ok (.invokevirtual 194, 3) := by decide +kernel
theorem dX8_sends_45 : decode cX8_sends 45 = .ok (.ireturn, 1) := by decide +kernel
theorem dX8_waits_0 : decode cX8_waits 0 = .ok (.iload_n 1, 1) := by decide +kernel
theorem dX8_waits_1 : decode cX8_waits 1 = .ok (.i2l, 1) := by decide +kernel
theorem dX8_waits_2 : decode cX8_waits 2 = .ok (.lconst 1, 1) := by decide +kernel
theorem dX8_waits_3 : decode cX8_waits 3 = .ok (.ldc2_w 206, 3) := by decide +kernel
theorem dX8_waits_6 : decode cX8_waits 6 = .ok (.invokestatic 56, 3) := by decide +kernel
theorem dX8_waits_9 : decode cX8_waits 9 = .ok (.ifCond .ne 10, 3) := by decide +kernel
theorem dX8_waits_12 : decode cX8_waits 12 = .ok (.aload_n 0, 1) := by decide +kernel
theorem dX8_waits_13 : decode cX8_waits 13 = .ok (.bipush (-2), 2) := by decide +kernel
theorem dX8_waits_15 : decode cX8_waits 15 = .ok (.invokevirtual 78, 3) := by decide +kernel
theorem dX8_waits_18 : decode cX8_waits 18 = .ok (.ireturn, 1) := by decide +kernel
theorem dX8_waits_19 : decode cX8_waits 19 = .ok (.aload_n 0, 1) := by decide +kernel
theorem dX8_waits_20 : decode cX8_waits 20 = .ok (.invokevirtual 203, 3) := by decide +kernel
theorem dX8_waits_23 : decode cX8_waits 23 = .ok (.aload_n 0, 1) := by decide +kernel
theorem dX8_waits_24 : decode cX8_waits 24 = .ok (.getfield 7, 3) := by decide +kernel
theorem dX8_waits_27 : decode cX8_waits 27 = .ok (.bipush 17, 2) := by decide +kernel
theorem dX8_waits_29 : decode cX8_waits 29 = .ok (.aload_n 0, 1) := by decide +kernel
theorem dX8_waits_30 : decode cX8_waits 30 = .ok (.getfield 7, 3) := by decide +kernel
theorem dX8_waits_33 : decode cX8_waits 33 = .ok (.bipush 17, 2) := by decide +kernel
theorem dX8_waits_35 : decode cX8_waits 35 = .ok (.iaload, 1) := by decide +kernel
theorem dX8_waits_36 : decode cX8_waits 36 = .ok (.iload_n 1, 1) := by decide +kernel
theorem dX8_waits_37 : decode cX8_waits 37 = .ok (.iadd, 1) := by decide +kernel
theorem dX8_waits_38 : decode cX8_waits 38 = .ok (.sipush 9999, 3) := by decide +kernel
theorem dX8_waits_41 : decode cX8_waits 41 = .ok (.if_icmp .le 9, 3) := by decide +kernel
theorem dX8_waits_44 : decode cX8_waits 44 = .ok (.sipush 9999, 3) := by decide +kernel
theorem dX8_waits_47 : decode cX8_waits 47 = .ok (.goto 12, 3) := by decide +kernel
theorem dX8_waits_50 : decode cX8_waits 50 = .ok (.aload_n 0, 1) := by decide +kernel
theorem dX8_waits_51 : decode cX8_waits 51 = .ok (.getfield 7, 3) := by decide +kernel
theorem dX8_waits_54 : decode cX8_waits 54 = .ok (.bipush 17, 2) := by decide +kernel
theorem dX8_waits_56 : decode cX8_waits 56 = .ok (.iaload, 1) := by decide +kernel
theorem dX8_waits_57 : decode cX8_waits 57 = .ok (.iload_n 1, 1) := by decide +kernel
theorem dX8_waits_58 : decode cX8_waits 58 = .ok (.iadd, 1) := by decide +kernel
theorem dX8_waits_59 : decode cX8_waits 59 = .ok (.iastore, 1) := by decide +kernel
theorem dX8_waits_60 : decode cX8_waits 60 = .ok (.aload_n 0, 1) := by decide +kernel
theorem dX8_waits_61 : decode cX8_waits 61 = .ok (.getfield 7, 3) := by decide +kernel
theorem dX8_waits_64 : decode cX8_waits 64 = .ok (.bipush 17, 2) := by decide +kernel
theorem dX8_waits_66 : decode cX8_waits 66 = .ok (.iaload, 1) := by decide +kernel
theorem dX8_waits_67 : decode cX8_waits 67 = .ok (.ireturn, 1) := by decide +kernel
theorem dX8_undo_0 : decode cX8_undo 0 = .ok (.aload_n 0, 1) := by decide +kernel
theorem dX8_undo_1 : decode cX8_undo 1 = .ok (.getfield 7, 3) := by decide +kernel
theorem dX8_undo_4 : decode cX8_undo 4 = .ok (.bipush 81, 2) := by decide +kernel
theorem dX8_undo_6 : decode cX8_undo 6 = .ok (.iaload, 1) := by decide +kernel
theorem dX8_undo_7 : decode cX8_undo 7 = .ok (.ifCond .ne 8, 3) := by decide +kernel
theorem dX8_undo_10 : decode cX8_undo 10 = .ok (.aload_n 0, 1) := by decide +kernel
theorem dX8_undo_11 : decode cX8_undo 11 = .ok (.invokevirtual 200, 3) := by decide +kernel
theorem dX8_undo_14 : decode cX8_undo 14 = .ok (.ireturn, 1) := by decide +kernel
theorem dX8_undo_15 : decode cX8_undo 15 = .ok (.aload_n 0, 1) := by decide +kernel
theorem dX8_undo_16 : decode cX8_undo 16 = .ok (.getfield 7, 3) := by decide +kernel
theorem dX8_undo_19 : decode cX8_undo 19 = .ok (.bipush 81, 2) := by decide +kernel
theorem dX8_undo_21 : decode cX8_undo 21 = .ok (.dup2, 1) := by decide +kernel
theorem dX8_undo_22 : decode cX8_undo 22 = .ok (.iaload, 1) := by decide +kernel
theorem dX8_undo_23 : decode cX8_undo 23 = .ok (.iconst 1, 1) := by decide +kernel
theorem dX8_undo_24 : decode cX8_undo 24 = .ok (.isub, 1) := by decide +kernel
theorem dX8_undo_25 : decode cX8_undo 25 = .ok (.iastore, 1) := by decide +kernel
theorem dX8_undo_26 : decode cX8_undo 26 = .ok (.iconst 0, 1) := by decide +kernel
theorem dX8_undo_27 : decode cX8_undo 27 = .ok (.istore_n 1, 1) := by decide +kernel
theorem dX8_undo_28 : decode cX8_undo 28 = .ok (.iload_n 1, 1) := by decide +kernel
theorem dX8_undo_29 : decode cX8_undo 29 = .ok (.iconst 4, 1) := by decide +kernel
theorem dX8_undo_30 : decode cX8_undo 30 = .ok (.if_icmp .ge 37, 3) := by decide +kernel
theorem dX8_undo_33 : decode cX8_undo 33 = .ok (.aload_n 0, 1) := by decide +kernel
theorem dX8_undo_34 : decode cX8_undo 34 = .ok (.getfield 7, 3) := by decide +kernel
theorem dX8_undo_37 : decode cX8_undo 37 = .ok (.bipush 14, 2) := by decide +kernel
theorem dX8_undo_39 : decode cX8_undo 39 = .ok (.iload_n 1, 1) := by decide +kernel
theorem dX8_undo_40 : decode cX8_undo 40 = .ok (.iadd, 1) := by decide +kernel
theorem dX8_undo_41 : decode cX8_undo 41 = .ok (.aload_n 0, 1) := by decide +kernel
theorem dX8_undo_42 : decode cX8_undo 42 = .ok (.getfield 7, 3) := by decide +kernel
theorem dX8_undo_45 : decode cX8_undo 45 = .ok (.bipush 82, 2) := by decide +kernel
theorem dX8_undo_47 : decode cX8_undo 47 = .ok (.iconst 4, 1) := by decide +kernel
theorem dX8_undo_48 : decode cX8_undo 48 = .ok (.aload_n 0, 1) := by decide +kernel
theorem dX8_undo_49 : decode cX8_undo 49 = .ok (.getfield 7, 3) := by decide +kernel
theorem dX8_undo_52 : decode cX8_undo 52 = .ok (.bipush 81, 2) := by decide +kernel
theorem dX8_undo_54 : decode cX8_undo 54 = .ok (.iaload, 1) := by decide +kernel
theorem dX8_undo_55 : decode cX8_undo 55 = .ok (.imul, 1) := by decide +kernel
theorem dX8_undo_56 : decode cX8_undo 56 = .ok (.iadd, 1) := by decide +kernel
theorem dX8_undo_57 : decode cX8_undo 57 = .ok (.iload_n 1, 1) := by decide +kernel
theorem dX8_undo_58 : decode cX8_undo 58 = .ok (.iadd, 1) := by decide +kernel
theorem dX8_undo_59 : decode cX8_undo 59 = .ok (.iaload, 1) := by decide +kernel
theorem dX8_undo_60 : decode cX8_undo 60 = .ok (.iastore, 1) := by decide +kernel
theorem dX8_undo_61 : decode cX8_undo 61 = .ok (.iinc 1 1, 3) := by decide +kernel
theorem dX8_undo_64 : decode cX8_undo 64 = .ok (.goto (-36), 3) := by decide +kernel
theorem dX8_undo_67 : decode cX8_undo 67 = .ok (.aload_n 0, 1) := by decide +kernel
theorem dX8_undo_68 : decode cX8_undo 68 = .ok (.getfield 7, 3) := by decide +kernel
theorem dX8_undo_71 : decode cX8_undo 71 = .ok (.bipush 17, 2) := by decide +kernel
theorem dX8_undo_73 : decode cX8_undo 73 = .ok (.iaload, 1) := by decide +kernel
theorem dX8_undo_74 : decode cX8_undo 74 = .ok (.ireturn, 1) := by decide +kernel
theorem dX8_of_0 : decode cX8_of 0 = .ok (.aload_n 0, 1) := by decide +kernel
theorem dX8_of_1 : decode cX8_of 1 = .ok (.iload_n 1, 1) := by decide +kernel
theorem dX8_of_2 : decode cX8_of 2 = .ok (.invokevirtual 197, 3) := by decide +kernel
theorem dX8_of_5 : decode cX8_of 5 = .ok (.ifCond .eq 13, 3) := by decide +kernel
theorem dX8_of_8 : decode cX8_of 8 = .ok (.iload_n 2, 1) := by decide +kernel
theorem dX8_of_9 : decode cX8_of 9 = .ok (.i2l, 1) := by decide +kernel
theorem dX8_of_10 : decode cX8_of 10 = .ok (.lconst 0, 1) := by decide +kernel
theorem dX8_of_11 : decode cX8_of 11 = .ok (.lconst 1, 1) := by decide +kernel
theorem dX8_of_12 : decode cX8_of 12 = .ok (.invokestatic 56, 3) := by decide +kernel
theorem dX8_of_15 : decode cX8_of 15 = .ok (.ifCond .ne 10, 3) := by decide +kernel
theorem dX8_of_18 : decode cX8_of 18 = .ok (.aload_n 0, 1) := by decide +kernel
theorem dX8_of_19 : decode cX8_of 19 = .ok (.bipush (-2), 2) := by decide +kernel
theorem dX8_of_21 : decode cX8_of 21 = .ok (.invokevirtual 78, 3) := by decide +kernel
theorem dX8_of_24 : decode cX8_of 24 = .ok (.ireturn, 1) := by decide +kernel
theorem dX8_of_25 : decode cX8_of 25 = .ok (.iload_n 2, 1) := by decide +kernel
theorem dX8_of_26 : decode cX8_of 26 = .ok (.ifCond .ne 14, 3) := by decide +kernel
theorem dX8_of_29 : decode cX8_of 29 = .ok (.aload_n 0, 1) := by decide +kernel
theorem dX8_of_30 : decode cX8_of 30 = .ok (.getfield 7, 3) := by decide +kernel
theorem dX8_of_33 : decode cX8_of 33 = .ok (.iconst 1, 1) := by decide +kernel
theorem dX8_of_34 : decode cX8_of 34 = .ok (.iload_n 1, 1) := by decide +kernel
theorem dX8_of_35 : decode cX8_of 35 = .ok (.iadd, 1) := by decide +kernel
theorem dX8_of_36 : decode cX8_of 36 = .ok (.iaload, 1) := by decide +kernel
theorem dX8_of_37 : decode cX8_of 37 = .ok (.goto 12, 3) := by decide +kernel
theorem dX8_of_40 : decode cX8_of 40 = .ok (.aload_n 0, 1) := by decide +kernel
theorem dX8_of_41 : decode cX8_of 41 = .ok (.getfield 7, 3) := by decide +kernel
theorem dX8_of_44 : decode cX8_of 44 = .ok (.bipush 6, 2) := by decide +kernel
theorem dX8_of_46 : decode cX8_of 46 = .ok (.iload_n 1, 1) := by decide +kernel
theorem dX8_of_47 : decode cX8_of 47 = .ok (.iadd, 1) := by decide +kernel
theorem dX8_of_48 : decode cX8_of 48 = .ok (.iaload, 1) := by decide +kernel
theorem dX8_of_49 : decode cX8_of 49 = .ok (.ireturn, 1) := by decide +kernel
theorem dX8_now_0 : decode cX8_now 0 = .ok (.iload_n 1, 1) := by decide +kernel
theorem dX8_now_1 : decode cX8_now 1 = .ok (.i2l, 1) := by decide +kernel
theorem dX8_now_2 : decode cX8_now 2 = .ok (.lconst 0, 1) := by decide +kernel
theorem dX8_now_3 : decode cX8_now 3 = .ok (.ldc2_w 208, 3) := by decide +kernel
theorem dX8_now_6 : decode cX8_now 6 = .ok (.invokestatic 56, 3) := by decide +kernel
theorem dX8_now_9 : decode cX8_now 9 = .ok (.ifCond .eq 15, 3) := by decide +kernel
theorem dX8_now_12 : decode cX8_now 12 = .ok (.aload_n 0, 1) := by decide +kernel
theorem dX8_now_13 : decode cX8_now 13 = .ok (.getfield 7, 3) := by decide +kernel
theorem dX8_now_16 : decode cX8_now 16 = .ok (.bipush 11, 2) := by decide +kernel
theorem dX8_now_18 : decode cX8_now 18 = .ok (.iload_n 1, 1) := by decide +kernel
theorem dX8_now_19 : decode cX8_now 19 = .ok (.iadd, 1) := by decide +kernel
theorem dX8_now_20 : decode cX8_now 20 = .ok (.iaload, 1) := by decide +kernel
theorem dX8_now_21 : decode cX8_now 21 = .ok (.goto 9, 3) := by decide +kernel
theorem dX8_now_24 : decode cX8_now 24 = .ok (.aload_n 0, 1) := by decide +kernel
theorem dX8_now_25 : decode cX8_now 25 = .ok (.bipush (-2), 2) := by decide +kernel
theorem dX8_now_27 : decode cX8_now 27 = .ok (.invokevirtual 78, 3) := by decide +kernel
theorem dX8_now_30 : decode cX8_now 30 = .ok (.ireturn, 1) := by decide +kernel
theorem dX8_asks_0 : decode cX8_asks 0 = .ok (.aload_n 0, 1) := by decide +kernel
theorem dX8_asks_1 : decode cX8_asks 1 = .ok (.iload_n 1, 1) := by decide +kernel
theorem dX8_asks_2 : decode cX8_asks 2 = .ok (.invokevirtual 197, 3) := by decide +kernel
theorem dX8_asks_5 : decode cX8_asks 5 = .ok (.ifCond .eq 27, 3) := by decide +kernel
theorem dX8_asks_8 : decode cX8_asks 8 = .ok (.iload_n 2, 1) := by decide +kernel
theorem dX8_asks_9 : decode cX8_asks 9 = .ok (.i2l, 1) := by decide +kernel
theorem dX8_asks_10 : decode cX8_asks 10 = .ok (.lconst 0, 1) := by decide +kernel
theorem dX8_asks_11 : decode cX8_asks 11 = .ok (.ldc2_w 210, 3) := by decide +kernel
theorem dX8_asks_14 : decode cX8_asks 14 = .ok (.invokestatic 56, 3) := by decide +kernel
theorem dX8_asks_17 : decode cX8_asks 17 = .ok (.ifCond .eq 15, 3) := by decide +kernel
theorem dX8_asks_20 : decode cX8_asks 20 = .ok (.iload_n 3, 1) := by decide +kernel
theorem dX8_asks_21 : decode cX8_asks 21 = .ok (.i2l, 1) := by decide +kernel
theorem dX8_asks_22 : decode cX8_asks 22 = .ok (.lconst 0, 1) := by decide +kernel
theorem dX8_asks_23 : decode cX8_asks 23 = .ok (.ldc2_w 131, 3) := by decide +kernel
theorem dX8_asks_26 : decode cX8_asks 26 = .ok (.invokestatic 56, 3) := by decide +kernel
theorem dX8_asks_29 : decode cX8_asks 29 = .ok (.ifCond .ne 10, 3) := by decide +kernel
theorem dX8_asks_32 : decode cX8_asks 32 = .ok (.aload_n 0, 1) := by decide +kernel
theorem dX8_asks_33 : decode cX8_asks 33 = .ok (.bipush (-2), 2) := by decide +kernel
theorem dX8_asks_35 : decode cX8_asks 35 = .ok (.invokevirtual 78, 3) := by decide +kernel
theorem dX8_asks_38 : decode cX8_asks 38 = .ok (.ireturn, 1) := by decide +kernel
theorem dX8_asks_39 : decode cX8_asks 39 = .ok (.iload_n 3, 1) := by decide +kernel
theorem dX8_asks_40 : decode cX8_asks 40 = .ok (.ifCond .ne 21, 3) := by decide +kernel
theorem dX8_asks_43 : decode cX8_asks 43 = .ok (.aload_n 0, 1) := by decide +kernel
theorem dX8_asks_44 : decode cX8_asks 44 = .ok (.iconst 0, 1) := by decide +kernel
theorem dX8_asks_45 : decode cX8_asks 45 = .ok (.iload_n 1, 1) := by decide +kernel
theorem dX8_asks_46 : decode cX8_asks 46 = .ok (.aload_n 0, 1) := by decide +kernel
theorem dX8_asks_47 : decode cX8_asks 47 = .ok (.getfield 7, 3) := by decide +kernel
theorem dX8_asks_50 : decode cX8_asks 50 = .ok (.bipush 17, 2) := by decide +kernel
theorem dX8_asks_52 : decode cX8_asks 52 = .ok (.iaload, 1) := by decide +kernel
theorem dX8_asks_53 : decode cX8_asks 53 = .ok (.iload_n 2, 1) := by decide +kernel
theorem dX8_asks_54 : decode cX8_asks 54 = .ok (.iadd, 1) := by decide +kernel
theorem dX8_asks_55 : decode cX8_asks 55 = .ok (.invokevirtual 182, 3) := by decide +kernel
theorem dX8_asks_58 : decode cX8_asks 58 = .ok (.goto 32, 3) := by decide +kernel
theorem dX8_asks_61 : decode cX8_asks 61 = .ok (.iload_n 3, 1) := by decide +kernel
theorem dX8_asks_62 : decode cX8_asks 62 = .ok (.iconst 1, 1) := by decide +kernel
theorem dX8_asks_63 : decode cX8_asks 63 = .ok (.if_icmp .ne 21, 3) := by decide +kernel
theorem dX8_asks_66 : decode cX8_asks 66 = .ok (.aload_n 0, 1) := by decide +kernel
theorem dX8_asks_67 : decode cX8_asks 67 = .ok (.iconst 0, 1) := by decide +kernel
theorem dX8_asks_68 : decode cX8_asks 68 = .ok (.iload_n 1, 1) := by decide +kernel
theorem dX8_asks_69 : decode cX8_asks 69 = .ok (.aload_n 0, 1) := by decide +kernel
theorem dX8_asks_70 : decode cX8_asks 70 = .ok (.getfield 7, 3) := by decide +kernel
theorem dX8_asks_73 : decode cX8_asks 73 = .ok (.bipush 17, 2) := by decide +kernel
theorem dX8_asks_75 : decode cX8_asks 75 = .ok (.iaload, 1) := by decide +kernel
theorem dX8_asks_76 : decode cX8_asks 76 = .ok (.iload_n 2, 1) := by decide +kernel
theorem dX8_asks_77 : decode cX8_asks 77 = .ok (.iadd, 1) := by decide +kernel
theorem dX8_asks_78 : decode cX8_asks 78 = .ok (.invokevirtual 191, 3) := by decide +kernel
theorem dX8_asks_81 : decode cX8_asks 81 = .ok (.goto 9, 3) := by decide +kernel
theorem dX8_asks_84 : decode cX8_asks 84 = .ok (.aload_n 0, 1) := by decide +kernel
theorem dX8_asks_85 : decode cX8_asks 85 = .ok (.iconst 0, 1) := by decide +kernel
theorem dX8_asks_86 : decode cX8_asks 86 = .ok (.iload_n 1, 1) := by decide +kernel
theorem dX8_asks_87 : decode cX8_asks 87 = .ok (.invokevirtual 194, 3) := by decide +kernel
theorem dX8_asks_90 : decode cX8_asks 90 = .ok (.ireturn, 1) := by decide +kernel
theorem dX8_cheapest_0 : decode cX8_cheapest 0 = .ok (.aload_n 0, 1) := by decide +kernel
theorem dX8_cheapest_1 : decode cX8_cheapest 1 = .ok (.iload_n 1, 1) := by decide +kernel
theorem dX8_cheapest_2 : decode cX8_cheapest 2 = .ok (.invokevirtual 197, 3) := by decide +kernel
theorem dX8_cheapest_5 : decode cX8_cheapest 5 = .ok (.ifCond .eq 13, 3) := by decide +kernel
theorem dX8_cheapest_8 : decode cX8_cheapest 8 = .ok (.iload_n 2, 1) := by decide +kernel
theorem dX8_cheapest_9 : decode cX8_cheapest 9 = .ok (.i2l, 1) := by decide +kernel
theorem dX8_cheapest_10 : decode cX8_cheapest 10 = .ok (.lconst 0, 1) := by decide +kernel
theorem dX8_cheapest_11 : decode cX8_cheapest 11 = .ok (.lconst 1, 1) := by decide +kernel
theorem dX8_cheapest_12 : decode cX8_cheapest 12 = .ok (.invokestatic 56, 3) := by decide +kernel
theorem dX8_cheapest_15 : decode cX8_cheapest 15 = .ok (.ifCond .ne 10, 3) := by decide +kernel
theorem dX8_cheapest_18 : decode cX8_cheapest 18 = .ok (.aload_n 0, 1) := by decide +kernel
theorem dX8_cheapest_19 : decode cX8_cheapest 19 = .ok (.bipush (-2), 2) := by decide +kernel
theorem dX8_cheapest_21 : decode cX8_cheapest 21 = .ok (.invokevirtual 78, 3) := by decide +kernel
theorem dX8_cheapest_24 : decode cX8_cheapest 24 = .ok (.ireturn, 1) := by decide +kernel
theorem dX8_cheapest_25 : decode cX8_cheapest 25 = .ok (.iconst 0, 1) := by decide +kernel
theorem dX8_cheapest_26 : decode cX8_cheapest 26 = .ok (.istore_n 3, 1) := by decide +kernel
theorem dX8_cheapest_27 : decode cX8_cheapest 27 = .ok (.ldc 212, 2) := by decide +kernel
theorem dX8_cheapest_29 : decode cX8_cheapest 29 = .ok (.istore 4, 2) := by decide +kernel
theorem dX8_cheapest_31 : decode cX8_cheapest 31 = .ok (.iconst 0, 1) := by decide +kernel
theorem dX8_cheapest_32 : decode cX8_cheapest 32 = .ok (.istore 5, 2) := by decide +kernel
theorem dX8_cheapest_34 : decode cX8_cheapest 34 = .ok (.iload 5, 2) := by decide +kernel
theorem dX8_cheapest_36 : decode cX8_cheapest 36 = .ok (.bipush 48, 2) := by decide +kernel
theorem dX8_cheapest_38 : decode cX8_cheapest 38 = .ok (.if_icmp .ge 57, 3) := by decide +kernel
theorem dX8_cheapest_41 : decode cX8_cheapest 41 = .ok (.aload_n 0, 1) := by decide +kernel
theorem dX8_cheapest_42 : decode cX8_cheapest 42 = .ok (.iconst 0, 1) := by decide +kernel
theorem dX8_cheapest_43 : decode cX8_cheapest 43 = .ok (.iload_n 1, 1) := by decide +kernel
theorem dX8_cheapest_44 : decode cX8_cheapest 44 = .ok (.aload_n 0, 1) := by decide +kernel
theorem dX8_cheapest_45 : decode cX8_cheapest 45 = .ok (.getfield 7, 3) := by decide +kernel
theorem dX8_cheapest_48 : decode cX8_cheapest 48 = .ok (.bipush 17, 2) := by decide +kernel
theorem dX8_cheapest_50 : decode cX8_cheapest 50 = .ok (.iaload, 1) := by decide +kernel
theorem dX8_cheapest_51 : decode cX8_cheapest 51 = .ok (.iload 5, 2) := by decide +kernel
theorem dX8_cheapest_53 : decode cX8_cheapest 53 = .ok (.iadd, 1) := by decide +kernel
theorem dX8_cheapest_54 : decode cX8_cheapest 54 = .ok (.invokevirtual 191, 3) := by decide +kernel
theorem dX8_cheapest_57 : decode cX8_cheapest 57 = .ok (.istore 6, 2) := by decide +kernel
theorem dX8_cheapest_59 : decode cX8_cheapest 59 = .ok (.iload 6, 2) := by decide +kernel
theorem dX8_cheapest_61 : decode cX8_cheapest 61 = .ok (.iload 4, 2) := by decide +kernel
theorem dX8_cheapest_63 : decode cX8_cheapest 63 = .ok (.if_icmp .ge 8, 3) := by decide +kernel
theorem dX8_cheapest_66 : decode cX8_cheapest 66 = .ok (.iload 5, 2) := by decide +kernel
theorem dX8_cheapest_68 : decode cX8_cheapest 68 = .ok (.goto 4, 3) := by decide +kernel
theorem dX8_cheapest_71 : decode cX8_cheapest 71 = .ok (.iload_n 3, 1) := by decide +kernel
theorem dX8_cheapest_72 : decode cX8_cheapest 72 = .ok (.istore_n 3, 1) := by decide +kernel
theorem dX8_cheapest_73 : decode cX8_cheapest 73 = .ok (.iload 6, 2) := by decide +kernel
theorem dX8_cheapest_75 : decode cX8_cheapest 75 = .ok (.iload 4, 2) := by decide +kernel
theorem dX8_cheapest_77 : decode cX8_cheapest 77 = .ok (.if_icmp .ge 8, 3) := by decide +kernel
theorem dX8_cheapest_80 : decode cX8_cheapest 80 = .ok (.iload 6, 2) := by decide +kernel
theorem dX8_cheapest_82 : decode cX8_cheapest 82 = .ok (.goto 5, 3) := by decide +kernel
theorem dX8_cheapest_85 : decode cX8_cheapest 85 = .ok (.iload 4, 2) := by decide +kernel
theorem dX8_cheapest_87 : decode cX8_cheapest 87 = .ok (.istore 4, 2) := by decide +kernel
theorem dX8_cheapest_89 : decode cX8_cheapest 89 = .ok (.iinc 5 1, 3) := by decide +kernel
theorem dX8_cheapest_92 : decode cX8_cheapest 92 = .ok (.goto (-58), 3) := by decide +kernel
theorem dX8_cheapest_95 : decode cX8_cheapest 95 = .ok (.iload_n 2, 1) := by decide +kernel
theorem dX8_cheapest_96 : decode cX8_cheapest 96 = .ok (.ifCond .ne 7, 3) := by decide +kernel
theorem dX8_cheapest_99 : decode cX8_cheapest 99 = .ok (.iload_n 3, 1) := by decide +kernel
theorem dX8_cheapest_100 : decode cX8_cheapest 100 = .ok (.goto 5, 3) := by decide +kernel
theorem dX8_cheapest_103 : decode cX8_cheapest 103 = .ok (.iload 4, 2) := by decide +kernel
theorem dX8_cheapest_105 : decode cX8_cheapest 105 = .ok (.ireturn, 1) := by decide +kernel
theorem dX8_costOf_0 : decode cX8_costOf 0 = .ok (.iload_n 1, 1) := by decide +kernel
theorem dX8_costOf_1 : decode cX8_costOf 1 = .ok (.iload_n 2, 1) := by decide +kernel
theorem dX8_costOf_2 : decode cX8_costOf 2 = .ok (.aload_n 0, 1) := by decide +kernel
theorem dX8_costOf_3 : decode cX8_costOf 3 = .ok (.getfield 7, 3) := by decide +kernel
theorem dX8_costOf_6 : decode cX8_costOf 6 = .ok (.bipush 17, 2) := by decide +kernel
theorem dX8_costOf_8 : decode cX8_costOf 8 = .ok (.iaload, 1) := by decide +kernel
theorem dX8_costOf_9 : decode cX8_costOf 9 = .ok (.bipush 24, 2) := by decide +kernel
theorem dX8_costOf_11 : decode cX8_costOf 11 = .ok (.irem, 1) := by decide +kernel
theorem dX8_costOf_12 : decode cX8_costOf 12 = .ok (.invokestatic 178, 3) := by decide +kernel
theorem dX8_costOf_15 : decode cX8_costOf 15 = .ok (.istore_n 3, 1) := by decide +kernel
theorem dX8_costOf_16 : decode cX8_costOf 16 = .ok (.aload_n 0, 1) := by decide +kernel
theorem dX8_costOf_17 : decode cX8_costOf 17 = .ok (.getfield 7, 3) := by decide +kernel
theorem dX8_costOf_20 : decode cX8_costOf 20 = .ok (.bipush 12, 2) := by decide +kernel
theorem dX8_costOf_22 : decode cX8_costOf 22 = .ok (.iaload, 1) := by decide +kernel
theorem dX8_costOf_23 : decode cX8_costOf 23 = .ok (.iload_n 3, 1) := by decide +kernel
theorem dX8_costOf_24 : decode cX8_costOf 24 = .ok (.aload_n 0, 1) := by decide +kernel
theorem dX8_costOf_25 : decode cX8_costOf 25 = .ok (.getfield 7, 3) := by decide +kernel
theorem dX8_costOf_28 : decode cX8_costOf 28 = .ok (.bipush 17, 2) := by decide +kernel
theorem dX8_costOf_30 : decode cX8_costOf 30 = .ok (.iaload, 1) := by decide +kernel
theorem dX8_costOf_31 : decode cX8_costOf 31 = .ok (.bipush 24, 2) := by decide +kernel
theorem dX8_costOf_33 : decode cX8_costOf 33 = .ok (.idiv, 1) := by decide +kernel
theorem dX8_costOf_34 : decode cX8_costOf 34 = .ok (.invokestatic 185, 3) := by decide +kernel
theorem dX8_costOf_37 : decode cX8_costOf 37 = .ok (.aload_n 0, 1) := by decide +kernel
theorem dX8_costOf_38 : decode cX8_costOf 38 = .ok (.getfield 7, 3) := by decide +kernel
theorem dX8_costOf_41 : decode cX8_costOf 41 = .ok (.bipush 13, 2) := by decide +kernel
theorem dX8_costOf_43 : decode cX8_costOf 43 = .ok (.iaload, 1) := by decide +kernel
theorem dX8_costOf_44 : decode cX8_costOf 44 = .ok (.iload_n 3, 1) := by decide +kernel
theorem dX8_costOf_45 : decode cX8_costOf 45 = .ok (.aload_n 0, 1) := by decide +kernel
theorem dX8_costOf_46 : decode cX8_costOf 46 = .ok (.getfield 7, 3) := by decide +kernel
theorem dX8_costOf_49 : decode cX8_costOf 49 = .ok (.bipush 17, 2) := by decide +kernel
theorem dX8_costOf_51 : decode cX8_costOf 51 = .ok (.iaload, 1) := by decide +kernel
theorem dX8_costOf_52 : decode cX8_costOf 52 = .ok (.bipush 24, 2) := by decide +kernel
theorem dX8_costOf_54 : decode cX8_costOf 54 = .ok (.idiv, 1) := by decide +kernel
theorem dX8_costOf_55 : decode cX8_costOf 55 = .ok (.invokestatic 185, 3) := by decide +kernel
theorem dX8_costOf_58 : decode cX8_costOf 58 = .ok (.iadd, 1) := by decide +kernel
theorem dX8_costOf_59 : decode cX8_costOf 59 = .ok (.ireturn, 1) := by decide +kernel
theorem dX8_cuts_0 : decode cX8_cuts 0 = .ok (.iload_n 1, 1) := by decide +kernel
theorem dX8_cuts_1 : decode cX8_cuts 1 = .ok (.i2l, 1) := by decide +kernel
theorem dX8_cuts_2 : decode cX8_cuts 2 = .ok (.lconst 0, 1) := by decide +kernel
theorem dX8_cuts_3 : decode cX8_cuts 3 = .ok (.ldc2_w 85, 3) := by decide +kernel
theorem dX8_cuts_6 : decode cX8_cuts 6 = .ok (.invokestatic 56, 3) := by decide +kernel
theorem dX8_cuts_9 : decode cX8_cuts 9 = .ok (.ifCond .eq 27, 3) := by decide +kernel
theorem dX8_cuts_12 : decode cX8_cuts 12 = .ok (.iload_n 2, 1) := by decide +kernel
theorem dX8_cuts_13 : decode cX8_cuts 13 = .ok (.i2l, 1) := by decide +kernel
theorem dX8_cuts_14 : decode cX8_cuts 14 = .ok (.ldc2_w 131, 3) := by decide +kernel
theorem dX8_cuts_17 : decode cX8_cuts 17 = .ok (.ldc2_w 74, 3) := by decide +kernel
theorem dX8_cuts_20 : decode cX8_cuts 20 = .ok (.invokestatic 56, 3) := by decide +kernel
theorem dX8_cuts_23 : decode cX8_cuts 23 = .ok (.ifCond .eq 13, 3) := by decide +kernel
theorem dX8_cuts_26 : decode cX8_cuts 26 = .ok (.iload_n 3, 1) := by decide +kernel
theorem dX8_cuts_27 : decode cX8_cuts 27 = .ok (.i2l, 1) := by decide +kernel
theorem dX8_cuts_28 : decode cX8_cuts 28 = .ok (.lconst 0, 1) := by decide +kernel
theorem dX8_cuts_29 : decode cX8_cuts 29 = .ok (.lconst 1, 1) := by decide +kernel
theorem dX8_cuts_30 : decode cX8_cuts 30 = .ok (.invokestatic 56, 3) := by decide +kernel
theorem dX8_cuts_33 : decode cX8_cuts 33 = .ok (.ifCond .ne 10, 3) := by decide +kernel
theorem dX8_cuts_36 : decode cX8_cuts 36 = .ok (.aload_n 0, 1) := by decide +kernel
theorem dX8_cuts_37 : decode cX8_cuts 37 = .ok (.bipush (-2), 2) := by decide +kernel
theorem dX8_cuts_39 : decode cX8_cuts 39 = .ok (.invokevirtual 78, 3) := by decide +kernel
theorem dX8_cuts_42 : decode cX8_cuts 42 = .ok (.ireturn, 1) := by decide +kernel
theorem dX8_cuts_43 : decode cX8_cuts 43 = .ok (.iconst 0, 1) := by decide +kernel
theorem dX8_cuts_44 : decode cX8_cuts 44 = .ok (.istore 4, 2) := by decide +kernel
theorem dX8_cuts_46 : decode cX8_cuts 46 = .ok (.ldc 212, 2) := by decide +kernel
theorem dX8_cuts_48 : decode cX8_cuts 48 = .ok (.istore 5, 2) := by decide +kernel
theorem dX8_cuts_50 : decode cX8_cuts 50 = .ok (.iconst 1, 1) := by decide +kernel
theorem dX8_cuts_51 : decode cX8_cuts 51 = .ok (.istore 6, 2) := by decide +kernel
theorem dX8_cuts_53 : decode cX8_cuts 53 = .ok (.iload 6, 2) := by decide +kernel
theorem dX8_cuts_55 : decode cX8_cuts 55 = .ok (.iload_n 2, 1) := by decide +kernel
theorem dX8_cuts_56 : decode cX8_cuts 56 = .ok (.if_icmp .ge 60, 3) := by decide +kernel
theorem dX8_cuts_59 : decode cX8_cuts 59 = .ok (.aload_n 0, 1) := by decide +kernel
theorem dX8_cuts_60 : decode cX8_cuts 60 = .ok (.iload_n 1, 1) := by decide +kernel
theorem dX8_cuts_61 : decode cX8_cuts 61 = .ok (.iload 6, 2) := by decide +kernel
theorem dX8_cuts_63 : decode cX8_cuts 63 = .ok (.invokevirtual 213, 3) := by decide +kernel
theorem dX8_cuts_66 : decode cX8_cuts 66 = .ok (.aload_n 0, 1) := by decide +kernel
theorem dX8_cuts_67 : decode cX8_cuts 67 = .ok (.iload_n 1, 1) := by decide +kernel
theorem dX8_cuts_68 : decode cX8_cuts 68 = .ok (.iload_n 2, 1) := by decide +kernel
theorem dX8_cuts_69 : decode cX8_cuts 69 = .ok (.iload 6, 2) := by decide +kernel
theorem dX8_cuts_71 : decode cX8_cuts 71 = .ok (.isub, 1) := by decide +kernel
theorem dX8_cuts_72 : decode cX8_cuts 72 = .ok (.invokevirtual 213, 3) := by decide +kernel
theorem dX8_cuts_75 : decode cX8_cuts 75 = .ok (.iadd, 1) := by decide +kernel
theorem dX8_cuts_76 : decode cX8_cuts 76 = .ok (.istore 7, 2) := by decide +kernel
theorem dX8_cuts_78 : decode cX8_cuts 78 = .ok (.iload 7, 2) := by decide +kernel
theorem dX8_cuts_80 : decode cX8_cuts 80 = .ok (.iload 5, 2) := by decide +kernel
theorem dX8_cuts_82 : decode cX8_cuts 82 = .ok (.if_icmp .ge 8, 3) := by decide +kernel
theorem dX8_cuts_85 : decode cX8_cuts 85 = .ok (.iload 6, 2) := by decide +kernel
theorem dX8_cuts_87 : decode cX8_cuts 87 = .ok (.goto 5, 3) := by decide +kernel
theorem dX8_cuts_90 : decode cX8_cuts 90 = .ok (.iload 4, 2) := by decide +kernel
