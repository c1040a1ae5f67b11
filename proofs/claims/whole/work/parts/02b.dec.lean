theorem dX7_init_0 : decode cX7_init 0 = .ok (.aload_n 0, 1) := by decide +kernel
theorem dX7_init_1 : decode cX7_init 1 = .ok (.invokespecial 1, 3) := by decide +kernel
theorem dX7_init_4 : decode cX7_init 4 = .ok (.aload_n 0, 1) := by decide +kernel
theorem dX7_init_5 : decode cX7_init 5 = .ok (.new 7, 3) := by decide +kernel
theorem dX7_init_8 : decode cX7_init 8 = .ok (.dup, 1) := by decide +kernel
theorem dX7_init_9 : decode cX7_init 9 = .ok (.invokespecial 9, 3) := by decide +kernel
theorem dX7_init_12 : decode cX7_init 12 = .ok (.putfield 10, 3) := by decide +kernel
theorem dX7_init_15 : decode cX7_init 15 = .ok (.aload_n 0, 1) := by decide +kernel
theorem dX7_init_16 : decode cX7_init 16 = .ok (.new 7, 3) := by decide +kernel
theorem dX7_init_19 : decode cX7_init 19 = .ok (.dup, 1) := by decide +kernel
theorem dX7_init_20 : decode cX7_init 20 = .ok (.invokespecial 9, 3) := by decide +kernel
theorem dX7_init_23 : decode cX7_init 23 = .ok (.putfield 16, 3) := by decide +kernel
theorem dX7_init_26 : decode cX7_init 26 = .ok (.aload_n 0, 1) := by decide +kernel
theorem dX7_init_27 : decode cX7_init 27 = .ok (.new 7, 3) := by decide +kernel
theorem dX7_init_30 : decode cX7_init 30 = .ok (.dup, 1) := by decide +kernel
theorem dX7_init_31 : decode cX7_init 31 = .ok (.invokespecial 9, 3) := by decide +kernel
theorem dX7_init_34 : decode cX7_init 34 = .ok (.putfield 19, 3) := by decide +kernel
theorem dX7_init_37 : decode cX7_init 37 = .ok (.aload_n 0, 1) := by decide +kernel
theorem dX7_init_38 : decode cX7_init 38 = .ok (.new 7, 3) := by decide +kernel
theorem dX7_init_41 : decode cX7_init 41 = .ok (.dup, 1) := by decide +kernel
theorem dX7_init_42 : decode cX7_init 42 = .ok (.invokespecial 9, 3) := by decide +kernel
theorem dX7_init_45 : decode cX7_init 45 = .ok (.putfield 22, 3) := by decide +kernel
theorem dX7_init_48 : decode cX7_init 48 = .ok (.aload_n 0, 1) := by decide +kernel
theorem dX7_init_49 : decode cX7_init 49 = .ok (.new 25, 3) := by decide +kernel
theorem dX7_init_52 : decode cX7_init 52 = .ok (.dup, 1) := by decide +kernel
theorem dX7_init_53 : decode cX7_init 53 = .ok (.invokespecial 27, 3) := by decide +kernel
theorem dX7_init_56 : decode cX7_init 56 = .ok (.putfield 28, 3) := by decide +kernel
theorem dX7_init_59 : decode cX7_init 59 = .ok (.aload_n 0, 1) := by decide +kernel
theorem dX7_init_60 : decode cX7_init 60 = .ok (.new 32, 3) := by decide +kernel
theorem dX7_init_63 : decode cX7_init 63 = .ok (.dup, 1) := by decide +kernel
theorem dX7_init_64 : decode cX7_init 64 = .ok (.invokespecial 34, 3) := by decide +kernel
theorem dX7_init_67 : decode cX7_init 67 = .ok (.putfield 35, 3) := by decide +kernel
theorem dX7_init_70 : decode cX7_init 70 = .ok (.aload_n 0, 1) := by decide +kernel
theorem dX7_init_71 : decode cX7_init 71 = .ok (.new 39, 3) := by decide +kernel
theorem dX7_init_74 : decode cX7_init 74 = .ok (.dup, 1) := by decide +kernel
theorem dX7_init_75 : decode cX7_init 75 = .ok (.invokespecial 41, 3) := by decide +kernel
theorem dX7_init_78 : decode cX7_init 78 = .ok (.putfield 42, 3) := by decide +kernel
theorem dX7_init_81 : decode cX7_init 81 = .ok (.aload_n 0, 1) := by decide +kernel
theorem dX7_init_82 : decode cX7_init 82 = .ok (.new 46, 3) := by decide +kernel
theorem dX7_init_85 : decode cX7_init 85 = .ok (.dup, 1) := by decide +kernel
theorem dX7_init_86 : decode cX7_init 86 = .ok (.invokespecial 48, 3) := by decide +kernel
theorem dX7_init_89 : decode cX7_init 89 = .ok (.putfield 49, 3) := by decide +kernel
theorem dX7_init_92 : decode cX7_init 92 = .ok (.aload_n 0, 1) := by decide +kernel
theorem dX7_init_93 : decode cX7_init 93 = .ok (.lconst 0, 1) := by decide +kernel
theorem dX7_init_94 : decode cX7_init 94 = .ok (.putfield 53, 3) := by decide +kernel
theorem dX7_init_97 : decode cX7_init 97 = .ok (.aload_n 0, 1) := by decide +kernel
theorem dX7_init_98 : decode cX7_init 98 = .ok (.lconst 1, 1) := by decide +kernel
theorem dX7_init_99 : decode cX7_init 99 = .ok (.putfield 57, 3) := by decide +kernel
theorem dX7_init_102 : decode cX7_init 102 = .ok (.return_, 1) := by decide +kernel
theorem dX7_province_0 : decode cX7_province 0 = .ok (.iload_n 1, 1) := by decide +kernel
theorem dX7_province_1 : decode cX7_province 1 = .ok (.iconst 1, 1) := by decide +kernel
theorem dX7_province_2 : decode cX7_province 2 = .ok (.bipush 60, 2) := by decide +kernel
theorem dX7_province_4 : decode cX7_province 4 = .ok (.invokestatic 60, 3) := by decide +kernel
theorem dX7_province_7 : decode cX7_province 7 = .ok (.ifCond .eq 14, 3) := by decide +kernel
theorem dX7_province_10 : decode cX7_province 10 = .ok (.iload_n 2, 1) := by decide +kernel
theorem dX7_province_11 : decode cX7_province 11 = .ok (.iconst 0, 1) := by decide +kernel
theorem dX7_province_12 : decode cX7_province 12 = .ok (.sipush 9999, 3) := by decide +kernel
theorem dX7_province_15 : decode cX7_province 15 = .ok (.invokestatic 60, 3) := by decide +kernel
theorem dX7_province_18 : decode cX7_province 18 = .ok (.ifCond .ne 8, 3) := by decide +kernel
theorem dX7_province_21 : decode cX7_province 21 = .ok (.aload_n 0, 1) := by decide +kernel
theorem dX7_province_22 : decode cX7_province 22 = .ok (.invokevirtual 64, 3) := by decide +kernel
theorem dX7_province_25 : decode cX7_province 25 = .ok (.ireturn, 1) := by decide +kernel
theorem dX7_province_26 : decode cX7_province 26 = .ok (.aload_n 0, 1) := by decide +kernel
theorem dX7_province_27 : decode cX7_province 27 = .ok (.getfield 10, 3) := by decide +kernel
theorem dX7_province_30 : decode cX7_province 30 = .ok (.getfield 68, 3) := by decide +kernel
theorem dX7_province_33 : decode cX7_province 33 = .ok (.getfield 72, 3) := by decide +kernel
theorem dX7_province_36 : decode cX7_province 36 = .ok (.istore_n 3, 1) := by decide +kernel
theorem dX7_province_37 : decode cX7_province 37 = .ok (.aload_n 0, 1) := by decide +kernel
theorem dX7_province_38 : decode cX7_province 38 = .ok (.getfield 10, 3) := by decide +kernel
theorem dX7_province_41 : decode cX7_province 41 = .ok (.iload_n 1, 1) := by decide +kernel
theorem dX7_province_42 : decode cX7_province 42 = .ok (.iload_n 2, 1) := by decide +kernel
theorem dX7_province_43 : decode cX7_province 43 = .ok (.invokevirtual 78, 3) := by decide +kernel
theorem dX7_province_46 : decode cX7_province 46 = .ok (.iload_n 3, 1) := by decide +kernel
theorem dX7_province_47 : decode cX7_province 47 = .ok (.ireturn, 1) := by decide +kernel
theorem dX7_house_0 : decode cX7_house 0 = .ok (.iload_n 1, 1) := by decide +kernel
theorem dX7_house_1 : decode cX7_house 1 = .ok (.iconst 0, 1) := by decide +kernel
theorem dX7_house_2 : decode cX7_house 2 = .ok (.iconst 1, 1) := by decide +kernel
theorem dX7_house_3 : decode cX7_house 3 = .ok (.invokestatic 60, 3) := by decide +kernel
theorem dX7_house_6 : decode cX7_house 6 = .ok (.ifCond .eq 10, 3) := by decide +kernel
theorem dX7_house_9 : decode cX7_house 9 = .ok (.iload_n 2, 1) := by decide +kernel
theorem dX7_house_10 : decode cX7_house 10 = .ok (.invokestatic 82, 3) := by decide +kernel
theorem dX7_house_13 : decode cX7_house 13 = .ok (.ifCond .ne 8, 3) := by decide +kernel
theorem dX7_house_16 : decode cX7_house 16 = .ok (.aload_n 0, 1) := by decide +kernel
theorem dX7_house_17 : decode cX7_house 17 = .ok (.invokevirtual 64, 3) := by decide +kernel
theorem dX7_house_20 : decode cX7_house 20 = .ok (.ireturn, 1) := by decide +kernel
theorem dX7_house_21 : decode cX7_house 21 = .ok (.aload_n 0, 1) := by decide +kernel
theorem dX7_house_22 : decode cX7_house 22 = .ok (.getfield 10, 3) := by decide +kernel
theorem dX7_house_25 : decode cX7_house 25 = .ok (.iload_n 1, 1) := by decide +kernel
theorem dX7_house_26 : decode cX7_house 26 = .ok (.invokevirtual 88, 3) := by decide +kernel
theorem dX7_house_29 : decode cX7_house 29 = .ok (.istore_n 3, 1) := by decide +kernel
theorem dX7_house_30 : decode cX7_house 30 = .ok (.aload_n 0, 1) := by decide +kernel
theorem dX7_house_31 : decode cX7_house 31 = .ok (.getfield 10, 3) := by decide +kernel
theorem dX7_house_34 : decode cX7_house 34 = .ok (.iload_n 1, 1) := by decide +kernel
theorem dX7_house_35 : decode cX7_house 35 = .ok (.iload_n 2, 1) := by decide +kernel
theorem dX7_house_36 : decode cX7_house 36 = .ok (.invokevirtual 92, 3) := by decide +kernel
theorem dX7_house_39 : decode cX7_house 39 = .ok (.aload_n 0, 1) := by decide +kernel
theorem dX7_house_40 : decode cX7_house 40 = .ok (.getfield 10, 3) := by decide +kernel
theorem dX7_house_43 : decode cX7_house 43 = .ok (.getfield 95, 3) := by decide +kernel
theorem dX7_house_46 : decode cX7_house 46 = .ok (.invokevirtual 98, 3) := by decide +kernel
theorem dX7_house_49 : decode cX7_house 49 = .ok (.iload_n 3, 1) := by decide +kernel
theorem dX7_house_50 : decode cX7_house 50 = .ok (.ireturn, 1) := by decide +kernel
theorem dX7_string_0 : decode cX7_string 0 = .ok (.iload_n 1, 1) := by decide +kernel
theorem dX7_string_1 : decode cX7_string 1 = .ok (.invokestatic 82, 3) := by decide +kernel
theorem dX7_string_4 : decode cX7_string 4 = .ok (.ifCond .eq 13, 3) := by decide +kernel
theorem dX7_string_7 : decode cX7_string 7 = .ok (.iload_n 2, 1) := by decide +kernel
theorem dX7_string_8 : decode cX7_string 8 = .ok (.iconst 1, 1) := by decide +kernel
theorem dX7_string_9 : decode cX7_string 9 = .ok (.bipush 60, 2) := by decide +kernel
theorem dX7_string_11 : decode cX7_string 11 = .ok (.invokestatic 60, 3) := by decide +kernel
theorem dX7_string_14 : decode cX7_string 14 = .ok (.ifCond .ne 8, 3) := by decide +kernel
theorem dX7_string_17 : decode cX7_string 17 = .ok (.aload_n 0, 1) := by decide +kernel
theorem dX7_string_18 : decode cX7_string 18 = .ok (.invokevirtual 64, 3) := by decide +kernel
theorem dX7_string_21 : decode cX7_string 21 = .ok (.ireturn, 1) := by decide +kernel
theorem dX7_string_22 : decode cX7_string 22 = .ok (.aload_n 0, 1) := by decide +kernel
theorem dX7_string_23 : decode cX7_string 23 = .ok (.getfield 10, 3) := by decide +kernel
theorem dX7_string_26 : decode cX7_string 26 = .ok (.getfield 68, 3) := by decide +kernel
theorem dX7_string_29 : decode cX7_string 29 = .ok (.invokevirtual 101, 3) := by decide +kernel
theorem dX7_string_32 : decode cX7_string 32 = .ok (.ifCond .eq 8, 3) := by decide +kernel
theorem dX7_string_35 : decode cX7_string 35 = .ok (.aload_n 0, 1) := by decide +kernel
theorem dX7_string_36 : decode cX7_string 36 = .ok (.invokevirtual 105, 3) := by decide +kernel
theorem dX7_string_39 : decode cX7_string 39 = .ok (.ireturn, 1) := by decide +kernel
theorem dX7_string_40 : decode cX7_string 40 = .ok (.aload_n 0, 1) := by decide +kernel
theorem dX7_string_41 : decode cX7_string 41 = .ok (.getfield 10, 3) := by decide +kernel
theorem dX7_string_44 : decode cX7_string 44 = .ok (.getfield 68, 3) := by decide +kernel
theorem dX7_string_47 : decode cX7_string 47 = .ok (.iload_n 1, 1) := by decide +kernel
theorem dX7_string_48 : decode cX7_string 48 = .ok (.iload_n 2, 1) := by decide +kernel
theorem dX7_string_49 : decode cX7_string 49 = .ok (.iconst 0, 1) := by decide +kernel
theorem dX7_string_50 : decode cX7_string 50 = .ok (.iconst 0, 1) := by decide +kernel
theorem dX7_string_51 : decode cX7_string 51 = .ok (.invokevirtual 108, 3) := by decide +kernel
theorem dX7_string_54 : decode cX7_string 54 = .ok (.aload_n 0, 1) := by decide +kernel
theorem dX7_string_55 : decode cX7_string 55 = .ok (.getfield 10, 3) := by decide +kernel
theorem dX7_string_58 : decode cX7_string 58 = .ok (.getfield 95, 3) := by decide +kernel
theorem dX7_string_61 : decode cX7_string 61 = .ok (.invokevirtual 98, 3) := by decide +kernel
theorem dX7_string_64 : decode cX7_string 64 = .ok (.aload_n 0, 1) := by decide +kernel
theorem dX7_string_65 : decode cX7_string 65 = .ok (.getfield 10, 3) := by decide +kernel
theorem dX7_string_68 : decode cX7_string 68 = .ok (.getfield 68, 3) := by decide +kernel
theorem dX7_string_71 : decode cX7_string 71 = .ok (.getfield 72, 3) := by decide +kernel
theorem dX7_string_74 : decode cX7_string 74 = .ok (.iconst 1, 1) := by decide +kernel
theorem dX7_string_75 : decode cX7_string 75 = .ok (.isub, 1) := by decide +kernel
theorem dX7_string_76 : decode cX7_string 76 = .ok (.ireturn, 1) := by decide +kernel
theorem dX7_type_0 : decode cX7_type 0 = .ok (.iload_n 1, 1) := by decide +kernel
theorem dX7_type_1 : decode cX7_type 1 = .ok (.iconst 0, 1) := by decide +kernel
theorem dX7_type_2 : decode cX7_type 2 = .ok (.bipush 127, 2) := by decide +kernel
theorem dX7_type_4 : decode cX7_type 4 = .ok (.invokestatic 60, 3) := by decide +kernel
theorem dX7_type_7 : decode cX7_type 7 = .ok (.ifCond .ne 8, 3) := by decide +kernel
theorem dX7_type_10 : decode cX7_type 10 = .ok (.aload_n 0, 1) := by decide +kernel
theorem dX7_type_11 : decode cX7_type 11 = .ok (.invokevirtual 64, 3) := by decide +kernel
theorem dX7_type_14 : decode cX7_type 14 = .ok (.ireturn, 1) := by decide +kernel
theorem dX7_type_15 : decode cX7_type 15 = .ok (.aload_n 0, 1) := by decide +kernel
theorem dX7_type_16 : decode cX7_type 16 = .ok (.getfield 28, 3) := by decide +kernel
theorem dX7_type_19 : decode cX7_type 19 = .ok (.iload_n 1, 1) := by decide +kernel
theorem dX7_type_20 : decode cX7_type 20 = .ok (.invokevirtual 112, 3) := by decide +kernel
theorem dX7_type_23 : decode cX7_type 23 = .ok (.ifCond .ne 8, 3) := by decide +kernel
theorem dX7_type_26 : decode cX7_type 26 = .ok (.aload_n 0, 1) := by decide +kernel
theorem dX7_type_27 : decode cX7_type 27 = .ok (.invokevirtual 105, 3) := by decide +kernel
theorem dX7_type_30 : decode cX7_type 30 = .ok (.ireturn, 1) := by decide +kernel
theorem dX7_type_31 : decode cX7_type 31 = .ok (.aload_n 0, 1) := by decide +kernel
theorem dX7_type_32 : decode cX7_type 32 = .ok (.getfield 28, 3) := by decide +kernel
theorem dX7_type_35 : decode cX7_type 35 = .ok (.getfield 114, 3) := by decide +kernel
theorem dX7_type_38 : decode cX7_type 38 = .ok (.ireturn, 1) := by decide +kernel
theorem dX7_clear_0 : decode cX7_clear 0 = .ok (.aload_n 0, 1) := by decide +kernel
theorem dX7_clear_1 : decode cX7_clear 1 = .ok (.getfield 28, 3) := by decide +kernel
theorem dX7_clear_4 : decode cX7_clear 4 = .ok (.getfield 114, 3) := by decide +kernel
theorem dX7_clear_7 : decode cX7_clear 7 = .ok (.istore_n 1, 1) := by decide +kernel
theorem dX7_clear_8 : decode cX7_clear 8 = .ok (.aload_n 0, 1) := by decide +kernel
theorem dX7_clear_9 : decode cX7_clear 9 = .ok (.getfield 28, 3) := by decide +kernel
theorem dX7_clear_12 : decode cX7_clear 12 = .ok (.iconst 0, 1) := by decide +kernel
theorem dX7_clear_13 : decode cX7_clear 13 = .ok (.putfield 114, 3) := by decide +kernel
theorem dX7_clear_16 : decode cX7_clear 16 = .ok (.iload_n 1, 1) := by decide +kernel
theorem dX7_clear_17 : decode cX7_clear 17 = .ok (.ireturn, 1) := by decide +kernel
theorem dX7_read_0 : decode cX7_read 0 = .ok (.aload_n 0, 1) := by decide +kernel
theorem dX7_read_1 : decode cX7_read 1 = .ok (.getfield 28, 3) := by decide +kernel
theorem dX7_read_4 : decode cX7_read 4 = .ok (.aload_n 0, 1) := by decide +kernel
theorem dX7_read_5 : decode cX7_read 5 = .ok (.getfield 16, 3) := by decide +kernel
theorem dX7_read_8 : decode cX7_read 8 = .ok (.invokevirtual 117, 3) := by decide +kernel
theorem dX7_read_11 : decode cX7_read 11 = .ok (.istore_n 1, 1) := by decide +kernel
theorem dX7_read_12 : decode cX7_read 12 = .ok (.iload_n 1, 1) := by decide +kernel
theorem dX7_read_13 : decode cX7_read 13 = .ok (.ifCond .lt 21, 3) := by decide +kernel
theorem dX7_read_16 : decode cX7_read 16 = .ok (.aload_n 0, 1) := by decide +kernel
theorem dX7_read_17 : decode cX7_read 17 = .ok (.getfield 10, 3) := by decide +kernel
theorem dX7_read_20 : decode cX7_read 20 = .ok (.astore_n 2, 1) := by decide +kernel
theorem dX7_read_21 : decode cX7_read 21 = .ok (.aload_n 0, 1) := by decide +kernel
theorem dX7_read_22 : decode cX7_read 22 = .ok (.aload_n 0, 1) := by decide +kernel
theorem dX7_read_23 : decode cX7_read 23 = .ok (.getfield 16, 3) := by decide +kernel
theorem dX7_read_26 : decode cX7_read 26 = .ok (.putfield 10, 3) := by decide +kernel
theorem dX7_read_29 : decode cX7_read 29 = .ok (.aload_n 0, 1) := by decide +kernel
theorem dX7_read_30 : decode cX7_read 30 = .ok (.aload_n 2, 1) := by decide +kernel
theorem dX7_read_31 : decode cX7_read 31 = .ok (.putfield 16, 3) := by decide +kernel
theorem dX7_read_34 : decode cX7_read 34 = .ok (.iload_n 1, 1) := by decide +kernel
theorem dX7_read_35 : decode cX7_read 35 = .ok (.ireturn, 1) := by decide +kernel
theorem dX7_sends_0 : decode cX7_sends 0 = .ok (.aload_n 0, 1) := by decide +kernel
theorem dX7_sends_1 : decode cX7_sends 1 = .ok (.getfield 10, 3) := by decide +kernel
theorem dX7_sends_4 : decode cX7_sends 4 = .ok (.iload_n 1, 1) := by decide +kernel
theorem dX7_sends_5 : decode cX7_sends 5 = .ok (.invokevirtual 121, 3) := by decide +kernel
theorem dX7_sends_8 : decode cX7_sends 8 = .ok (.ifCond .ne 8, 3) := by decide +kernel
theorem dX7_sends_11 : decode cX7_sends 11 = .ok (.aload_n 0, 1) := by decide +kernel
theorem dX7_sends_12 : decode cX7_sends 12 = .ok (.invokevirtual 64, 3) := by decide +kernel
theorem dX7_sends_15 : decode cX7_sends 15 = .ok (.ireturn, 1) := by decide +kernel
theorem dX7_sends_16 : decode cX7_sends 16 = .ok (.aload_n 0, 1) := by decide +kernel
theorem dX7_sends_17 : decode cX7_sends 17 = .ok (.getfield 10, 3) := by decide +kernel
theorem dX7_sends_20 : decode cX7_sends 20 = .ok (.getfield 124, 3) := by decide +kernel
theorem dX7_sends_23 : decode cX7_sends 23 = .ok (.sipush 9999, 3) := by decide +kernel
theorem dX7_sends_26 : decode cX7_sends 26 = .ok (.if_icmp .ge 22, 3) := by decide +kernel
theorem dX7_sends_29 : decode cX7_sends 29 = .ok (.aload_n 0, 1) := by decide +kernel
theorem dX7_sends_30 : decode cX7_sends 30 = .ok (.getfield 10, 3) := by decide +kernel
theorem dX7_sends_33 : decode cX7_sends 33 = .ok (.iload_n 1, 1) := by decide +kernel
theorem dX7_sends_34 : decode cX7_sends 34 = .ok (.iconst 0, 1) := by decide +kernel
theorem dX7_sends_35 : decode cX7_sends 35 = .ok (.invokevirtual 127, 3) := by decide +kernel
theorem dX7_sends_38 : decode cX7_sends 38 = .ok (.aload_n 0, 1) := by decide +kernel
theorem dX7_sends_39 : decode cX7_sends 39 = .ok (.getfield 10, 3) := by decide +kernel
theorem dX7_sends_42 : decode cX7_sends 42 = .ok (.getfield 131, 3) := by decide +kernel
theorem dX7_sends_45 : decode cX7_sends 45 = .ok (.if_icmp .le 8, 3) := by decide +kernel
theorem dX7_sends_48 : decode cX7_sends 48 = .ok (.aload_n 0, 1) := by decide +kernel
theorem dX7_sends_49 : decode cX7_sends 49 = .ok (.invokevirtual 134, 3) := by decide +kernel
theorem dX7_sends_52 : decode cX7_sends 52 = .ok (.ireturn, 1) := by decide +kernel
theorem dX7_sends_53 : decode cX7_sends 53 = .ok (.aload_n 0, 1) := by decide +kernel
theorem dX7_sends_54 : decode cX7_sends 54 = .ok (.getfield 10, 3) := by decide +kernel
theorem dX7_sends_57 : decode cX7_sends 57 = .ok (.invokevirtual 137, 3) := by decide +kernel
theorem dX7_sends_60 : decode cX7_sends 60 = .ok (.aload_n 0, 1) := by decide +kernel
theorem dX7_sends_61 : decode cX7_sends 61 = .ok (.getfield 10, 3) := by decide +kernel
theorem dX7_sends_64 : decode cX7_sends 64 = .ok (.iload_n 1, 1) := by decide +kernel
theorem dX7_sends_65 : decode cX7_sends 65 = .ok (.invokevirtual 140, 3) := by decide +kernel
theorem dX7_sends_68 : decode cX7_sends 68 = .ok (.pop, 1) := by decide +kernel
theorem dX7_sends_69 : decode cX7_sends 69 = .ok (.aload_n 0, 1) := by decide +kernel
theorem dX7_sends_70 : decode cX7_sends 70 = .ok (.getfield 10, 3) := by decide +kernel
theorem dX7_sends_73 : decode cX7_sends 73 = .ok (.iload_n 1, 1) := by decide +kernel
theorem dX7_sends_74 : decode cX7_sends 74 = .ok (.invokevirtual 143, 3) := by decide +kernel
theorem dX7_sends_77 : decode cX7_sends 77 = .ok (.ireturn, 1) := by decide +kernel
theorem dX7_waits_0 : decode cX7_waits 0 = .ok (.iload_n 1, 1) := by decide +kernel
theorem dX7_waits_1 : decode cX7_waits 1 = .ok (.iconst 1, 1) := by decide +kernel
theorem dX7_waits_2 : decode cX7_waits 2 = .ok (.bipush 99, 2) := by decide +kernel
theorem dX7_waits_4 : decode cX7_waits 4 = .ok (.invokestatic 60, 3) := by decide +kernel
theorem dX7_waits_7 : decode cX7_waits 7 = .ok (.ifCond .ne 8, 3) := by decide +kernel
theorem dX7_waits_10 : decode cX7_waits 10 = .ok (.aload_n 0, 1) := by decide +kernel
theorem dX7_waits_11 : decode cX7_waits 11 = .ok (.invokevirtual 64, 3) := by decide +kernel
theorem dX7_waits_14 : decode cX7_waits 14 = .ok (.ireturn, 1) := by decide +kernel
theorem dX7_waits_15 : decode cX7_waits 15 = .ok (.aload_n 0, 1) := by decide +kernel
theorem dX7_waits_16 : decode cX7_waits 16 = .ok (.getfield 10, 3) := by decide +kernel
theorem dX7_waits_19 : decode cX7_waits 19 = .ok (.invokevirtual 137, 3) := by decide +kernel
theorem dX7_waits_22 : decode cX7_waits 22 = .ok (.aload_n 0, 1) := by decide +kernel
theorem dX7_waits_23 : decode cX7_waits 23 = .ok (.getfield 10, 3) := by decide +kernel
theorem dX7_waits_26 : decode cX7_waits 26 = .ok (.iload_n 1, 1) := by decide +kernel
theorem dX7_waits_27 : decode cX7_waits 27 = .ok (.invokevirtual 146, 3) := by decide +kernel
theorem dX7_waits_30 : decode cX7_waits 30 = .ok (.aload_n 0, 1) := by decide +kernel
theorem dX7_waits_31 : decode cX7_waits 31 = .ok (.getfield 10, 3) := by decide +kernel
theorem dX7_waits_34 : decode cX7_waits 34 = .ok (.getfield 124, 3) := by decide +kernel
theorem dX7_waits_37 : decode cX7_waits 37 = .ok (.ireturn, 1) := by decide +kernel
theorem dX7_undo_0 : decode cX7_undo 0 = .ok (.aload_n 0, 1) := by decide +kernel
theorem dX7_undo_1 : decode cX7_undo 1 = .ok (.getfield 10, 3) := by decide +kernel
theorem dX7_undo_4 : decode cX7_undo 4 = .ok (.invokevirtual 150, 3) := by decide +kernel
theorem dX7_undo_7 : decode cX7_undo 7 = .ok (.ifCond .ne 8, 3) := by decide +kernel
theorem dX7_undo_10 : decode cX7_undo 10 = .ok (.aload_n 0, 1) := by decide +kernel
theorem dX7_undo_11 : decode cX7_undo 11 = .ok (.invokevirtual 134, 3) := by decide +kernel
theorem dX7_undo_14 : decode cX7_undo 14 = .ok (.ireturn, 1) := by decide +kernel
theorem dX7_undo_15 : decode cX7_undo 15 = .ok (.aload_n 0, 1) := by decide +kernel
theorem dX7_undo_16 : decode cX7_undo 16 = .ok (.getfield 10, 3) := by decide +kernel
theorem dX7_undo_19 : decode cX7_undo 19 = .ok (.getfield 124, 3) := by decide +kernel
theorem dX7_undo_22 : decode cX7_undo 22 = .ok (.ireturn, 1) := by decide +kernel
theorem dX7_of_0 : decode cX7_of 0 = .ok (.aload_n 0, 1) := by decide +kernel
theorem dX7_of_1 : decode cX7_of 1 = .ok (.getfield 10, 3) := by decide +kernel
theorem dX7_of_4 : decode cX7_of 4 = .ok (.iload_n 1, 1) := by decide +kernel
theorem dX7_of_5 : decode cX7_of 5 = .ok (.invokevirtual 121, 3) := by decide +kernel
theorem dX7_of_8 : decode cX7_of 8 = .ok (.ifCond .eq 12, 3) := by decide +kernel
theorem dX7_of_11 : decode cX7_of 11 = .ok (.iload_n 2, 1) := by decide +kernel
theorem dX7_of_12 : decode cX7_of 12 = .ok (.iconst 0, 1) := by decide +kernel
theorem dX7_of_13 : decode cX7_of 13 = .ok (.iconst 1, 1) := by decide +kernel
theorem dX7_of_14 : decode cX7_of 14 = .ok (.invokestatic 60, 3) := by decide +kernel
theorem dX7_of_17 : decode cX7_of 17 = .ok (.ifCond .ne 8, 3) := by decide +kernel
theorem dX7_of_20 : decode cX7_of 20 = .ok (.aload_n 0, 1) := by decide +kernel
theorem dX7_of_21 : decode cX7_of 21 = .ok (.invokevirtual 64, 3) := by decide +kernel
theorem dX7_of_24 : decode cX7_of 24 = .ok (.ireturn, 1) := by decide +kernel
theorem dX7_of_25 : decode cX7_of 25 = .ok (.iload_n 2, 1) := by decide +kernel
theorem dX7_of_26 : decode cX7_of 26 = .ok (.ifCond .ne 14, 3) := by decide +kernel
theorem dX7_of_29 : decode cX7_of 29 = .ok (.aload_n 0, 1) := by decide +kernel
theorem dX7_of_30 : decode cX7_of 30 = .ok (.getfield 10, 3) := by decide +kernel
theorem dX7_of_33 : decode cX7_of 33 = .ok (.iload_n 1, 1) := by decide +kernel
theorem dX7_of_34 : decode cX7_of 34 = .ok (.invokevirtual 153, 3) := by decide +kernel
theorem dX7_of_37 : decode cX7_of 37 = .ok (.goto 11, 3) := by decide +kernel
theorem dX7_of_40 : decode cX7_of 40 = .ok (.aload_n 0, 1) := by decide +kernel
theorem dX7_of_41 : decode cX7_of 41 = .ok (.getfield 10, 3) := by decide +kernel
theorem dX7_of_44 : decode cX7_of 44 = .ok (.iload_n 1, 1) := by decide +kernel
theorem dX7_of_45 : decode cX7_of 45 = .ok (.invokevirtual 156, 3) := by decide +kernel
theorem dX7_of_48 : decode cX7_of 48 = .ok (.ireturn, 1) := by decide +kernel
theorem dX7_now_0 : decode cX7_now 0 = .ok (.iload_n 1, 1) := by decide +kernel
theorem dX7_now_1 : decode cX7_now 1 = .ok (.iconst 0, 1) := by decide +kernel
theorem dX7_now_2 : decode cX7_now 2 = .ok (.bipush 6, 2) := by decide +kernel
theorem dX7_now_4 : decode cX7_now 4 = .ok (.invokestatic 60, 3) := by decide +kernel
theorem dX7_now_7 : decode cX7_now 7 = .ok (.ifCond .ne 8, 3) := by decide +kernel
theorem dX7_now_10 : decode cX7_now 10 = .ok (.aload_n 0, 1) := by decide +kernel
theorem dX7_now_11 : decode cX7_now 11 = .ok (.invokevirtual 64, 3) := by decide +kernel
theorem dX7_now_14 : decode cX7_now 14 = .ok (.ireturn, 1) := by decide +kernel
theorem dX7_now_15 : decode cX7_now 15 = .ok (.aload_n 0, 1) := by decide +kernel
theorem dX7_now_16 : decode cX7_now 16 = .ok (.getfield 10, 3) := by decide +kernel
theorem dX7_now_19 : decode cX7_now 19 = .ok (.iload_n 1, 1) := by decide +kernel
theorem dX7_now_20 : decode cX7_now 20 = .ok (.invokevirtual 159, 3) := by decide +kernel
theorem dX7_now_23 : decode cX7_now 23 = .ok (.ireturn, 1) := by decide +kernel
theorem dX7_asks_0 : decode cX7_asks 0 = .ok (.aload_n 0, 1) := by decide +kernel
theorem dX7_asks_1 : decode cX7_asks 1 = .ok (.getfield 10, 3) := by decide +kernel
theorem dX7_asks_4 : decode cX7_asks 4 = .ok (.iload_n 1, 1) := by decide +kernel
theorem dX7_asks_5 : decode cX7_asks 5 = .ok (.invokevirtual 121, 3) := by decide +kernel
theorem dX7_asks_8 : decode cX7_asks 8 = .ok (.ifCond .eq 22, 3) := by decide +kernel
theorem dX7_asks_11 : decode cX7_asks 11 = .ok (.iload_n 2, 1) := by decide +kernel
theorem dX7_asks_12 : decode cX7_asks 12 = .ok (.iconst 0, 1) := by decide +kernel
theorem dX7_asks_13 : decode cX7_asks 13 = .ok (.bipush 47, 2) := by decide +kernel
theorem dX7_asks_15 : decode cX7_asks 15 = .ok (.invokestatic 60, 3) := by decide +kernel
theorem dX7_asks_18 : decode cX7_asks 18 = .ok (.ifCond .eq 12, 3) := by decide +kernel
theorem dX7_asks_21 : decode cX7_asks 21 = .ok (.iload_n 3, 1) := by decide +kernel
theorem dX7_asks_22 : decode cX7_asks 22 = .ok (.iconst 0, 1) := by decide +kernel
theorem dX7_asks_23 : decode cX7_asks 23 = .ok (.iconst 2, 1) := by decide +kernel
theorem dX7_asks_24 : decode cX7_asks 24 = .ok (.invokestatic 60, 3) := by decide +kernel
theorem dX7_asks_27 : decode cX7_asks 27 = .ok (.ifCond .ne 8, 3) := by decide +kernel
theorem dX7_asks_30 : decode cX7_asks 30 = .ok (.aload_n 0, 1) := by decide +kernel
theorem dX7_asks_31 : decode cX7_asks 31 = .ok (.invokevirtual 64, 3) := by decide +kernel
theorem dX7_asks_34 : decode cX7_asks 34 = .ok (.ireturn, 1) := by decide +kernel
theorem dX7_asks_35 : decode cX7_asks 35 = .ok (.iload_n 3, 1) := by decide +kernel
theorem dX7_asks_36 : decode cX7_asks 36 = .ok (.ifCond .ne 13, 3) := by decide +kernel
theorem dX7_asks_39 : decode cX7_asks 39 = .ok (.aload_n 0, 1) := by decide +kernel
theorem dX7_asks_40 : decode cX7_asks 40 = .ok (.getfield 10, 3) := by decide +kernel
theorem dX7_asks_43 : decode cX7_asks 43 = .ok (.iload_n 1, 1) := by decide +kernel
theorem dX7_asks_44 : decode cX7_asks 44 = .ok (.iload_n 2, 1) := by decide +kernel
theorem dX7_asks_45 : decode cX7_asks 45 = .ok (.invokevirtual 162, 3) := by decide +kernel
theorem dX7_asks_48 : decode cX7_asks 48 = .ok (.ireturn, 1) := by decide +kernel
theorem dX7_asks_49 : decode cX7_asks 49 = .ok (.iload_n 3, 1) := by decide +kernel
theorem dX7_asks_50 : decode cX7_asks 50 = .ok (.iconst 1, 1) := by decide +kernel
theorem dX7_asks_51 : decode cX7_asks 51 = .ok (.if_icmp .ne 15, 3) := by decide +kernel
theorem dX7_asks_54 : decode cX7_asks 54 = .ok (.aload_n 0, 1) := by decide +kernel
theorem dX7_asks_55 : decode cX7_asks 55 = .ok (.getfield 10, 3) := by decide +kernel
theorem dX7_asks_58 : decode cX7_asks 58 = .ok (.iload_n 1, 1) := by decide +kernel
theorem dX7_asks_59 : decode cX7_asks 59 = .ok (.iload_n 2, 1) := by decide +kernel
theorem dX7_asks_60 : decode cX7_asks 60 = .ok (.invokevirtual 127, 3) := by decide +kernel
theorem dX7_asks_63 : decode cX7_asks 63 = .ok (.goto 11, 3) := by decide +kernel
theorem dX7_asks_66 : decode cX7_asks 66 = .ok (.aload_n 0, 1) := by decide +kernel
theorem dX7_asks_67 : decode cX7_asks 67 = .ok (.getfield 10, 3) := by decide +kernel
theorem dX7_asks_70 : decode cX7_asks 70 = .ok (.iload_n 1, 1) := by decide +kernel
theorem dX7_asks_71 : decode cX7_asks 71 = .ok (.invokevirtual 143, 3) := by decide +kernel
theorem dX7_asks_74 : decode cX7_asks 74 = .ok (.ireturn, 1) := by decide +kernel
theorem dX7_cheapest_0 : decode cX7_cheapest 0 = .ok (.aload_n 0, 1) := by decide +kernel
theorem dX7_cheapest_1 : decode cX7_cheapest 1 = .ok (.getfield 10, 3) := by decide +kernel
theorem dX7_cheapest_4 : decode cX7_cheapest 4 = .ok (.iload_n 1, 1) := by decide +kernel
theorem dX7_cheapest_5 : decode cX7_cheapest 5 = .ok (.invokevirtual 121, 3) := by decide +kernel
theorem dX7_cheapest_8 : decode cX7_cheapest 8 = .ok (.ifCond .eq 12, 3) := by decide +kernel
theorem dX7_cheapest_11 : decode cX7_cheapest 11 = .ok (.iload_n 2, 1) := by decide +kernel
theorem dX7_cheapest_12 : decode cX7_cheapest 12 = .ok (.iconst 0, 1) := by decide +kernel
theorem dX7_cheapest_13 : decode cX7_cheapest 13 = .ok (.iconst 1, 1) := by decide +kernel
theorem dX7_cheapest_14 : decode cX7_cheapest 14 = .ok (.invokestatic 60, 3) := by decide +kernel
theorem dX7_cheapest_17 : decode cX7_cheapest 17 = .ok (.ifCond .ne 8, 3) := by decide +kernel
theorem dX7_cheapest_20 : decode cX7_cheapest 20 = .ok (.aload_n 0, 1) := by decide +kernel
theorem dX7_cheapest_21 : decode cX7_cheapest 21 = .ok (.invokevirtual 64, 3) := by decide +kernel
theorem dX7_cheapest_24 : decode cX7_cheapest 24 = .ok (.ireturn, 1) := by decide +kernel
theorem dX7_cheapest_25 : decode cX7_cheapest 25 = .ok (.iconst 0, 1) := by decide +kernel
theorem dX7_cheapest_26 : decode cX7_cheapest 26 = .ok (.istore_n 3, 1) := by decide +kernel
theorem dX7_cheapest_27 : decode cX7_cheapest 27 = .ok (.aload_n 0, 1) := by decide +kernel
theorem dX7_cheapest_28 : decode cX7_cheapest 28 = .ok (.getfield 10, 3) := by decide +kernel
theorem dX7_cheapest_31 : decode cX7_cheapest 31 = .ok (.iload_n 1, 1) := by decide +kernel
theorem dX7_cheapest_32 : decode cX7_cheapest 32 = .ok (.iconst 0, 1) := by decide +kernel
theorem dX7_cheapest_33 : decode cX7_cheapest 33 = .ok (.invokevirtual 127, 3) := by decide +kernel
theorem dX7_cheapest_36 : decode cX7_cheapest 36 = .ok (.istore 4, 2) := by decide +kernel
theorem dX7_cheapest_38 : decode cX7_cheapest 38 = .ok (.iconst 1, 1) := by decide +kernel
theorem dX7_cheapest_39 : decode cX7_cheapest 39 = .ok (.istore 5, 2) := by decide +kernel
theorem dX7_cheapest_41 : decode cX7_cheapest 41 = .ok (.iload 5, 2) := by decide +kernel
theorem dX7_cheapest_43 : decode cX7_cheapest 43 = .ok (.bipush 47, 2) := by decide +kernel
theorem dX7_cheapest_45 : decode cX7_cheapest 45 = .ok (.if_icmp .gt 35, 3) := by decide +kernel
theorem dX7_cheapest_48 : decode cX7_cheapest 48 = .ok (.aload_n 0, 1) := by decide +kernel
theorem dX7_cheapest_49 : decode cX7_cheapest 49 = .ok (.getfield 10, 3) := by decide +kernel
theorem dX7_cheapest_52 : decode cX7_cheapest 52 = .ok (.iload_n 1, 1) := by decide +kernel
theorem dX7_cheapest_53 : decode cX7_cheapest 53 = .ok (.iload 5, 2) := by decide +kernel
theorem dX7_cheapest_55 : decode cX7_cheapest 55 = .ok (.invokevirtual 127, 3) := by decide +kernel
theorem dX7_cheapest_58 : decode cX7_cheapest 58 = .ok (.istore 6, 2) := by decide +kernel
theorem dX7_cheapest_60 : decode cX7_cheapest 60 = .ok (.iload 6, 2) := by decide +kernel
theorem dX7_cheapest_62 : decode cX7_cheapest 62 = .ok (.iload 4, 2) := by decide +kernel
theorem dX7_cheapest_64 : decode cX7_cheapest 64 = .ok (.if_icmp .ge 10, 3) := by decide +kernel
theorem dX7_cheapest_67 : decode cX7_cheapest 67 = .ok (.iload 6, 2) := by decide +kernel
theorem dX7_cheapest_69 : decode cX7_cheapest 69 = .ok (.istore 4, 2) := by decide +kernel
theorem dX7_cheapest_71 : decode cX7_cheapest 71 = .ok (.iload 5, 2) := by decide +kernel
theorem dX7_cheapest_73 : decode cX7_cheapest 73 = .ok (.istore_n 3, 1) := by decide +kernel
theorem dX7_cheapest_74 : decode cX7_cheapest 74 = .ok (.iinc 5 1, 3) := by decide +kernel
theorem dX7_cheapest_77 : decode cX7_cheapest 77 = .ok (.goto (-36), 3) := by decide +kernel
theorem dX7_cheapest_80 : decode cX7_cheapest 80 = .ok (.iload_n 2, 1) := by decide +kernel
theorem dX7_cheapest_81 : decode cX7_cheapest 81 = .ok (.ifCond .ne 7, 3) := by decide +kernel
theorem dX7_cheapest_84 : decode cX7_cheapest 84 = .ok (.iload_n 3, 1) := by decide +kernel
theorem dX7_cheapest_85 : decode cX7_cheapest 85 = .ok (.goto 5, 3) := by decide +kernel
theorem dX7_cheapest_88 : decode cX7_cheapest 88 = .ok (.iload 4, 2) := by decide +kernel
theorem dX7_cheapest_90 : decode cX7_cheapest 90 = .ok (.ireturn, 1) := by decide +kernel
theorem dX7_cuts_0 : decode cX7_cuts 0 = .ok (.iload_n 1, 1) := by decide +kernel
theorem dX7_cuts_1 : decode cX7_cuts 1 = .ok (.invokestatic 82, 3) := by decide +kernel
theorem dX7_cuts_4 : decode cX7_cuts 4 = .ok (.ifCond .eq 22, 3) := by decide +kernel
theorem dX7_cuts_7 : decode cX7_cuts 7 = .ok (.iload_n 2, 1) := by decide +kernel
theorem dX7_cuts_8 : decode cX7_cuts 8 = .ok (.iconst 2, 1) := by decide +kernel
theorem dX7_cuts_9 : decode cX7_cuts 9 = .ok (.bipush 60, 2) := by decide +kernel
theorem dX7_cuts_11 : decode cX7_cuts 11 = .ok (.invokestatic 60, 3) := by decide +kernel
theorem dX7_cuts_14 : decode cX7_cuts 14 = .ok (.ifCond .eq 12, 3) := by decide +kernel
theorem dX7_cuts_17 : decode cX7_cuts 17 = .ok (.iload_n 3, 1) := by decide +kernel
theorem dX7_cuts_18 : decode cX7_cuts 18 = .ok (.iconst 0, 1) := by decide +kernel
theorem dX7_cuts_19 : decode cX7_cuts 19 = .ok (.iconst 1, 1) := by decide +kernel
theorem dX7_cuts_20 : decode cX7_cuts 20 = .ok (.invokestatic 60, 3) := by decide +kernel
theorem dX7_cuts_23 : decode cX7_cuts 23 = .ok (.ifCond .ne 8, 3) := by decide +kernel
theorem dX7_cuts_26 : decode cX7_cuts 26 = .ok (.aload_n 0, 1) := by decide +kernel
theorem dX7_cuts_27 : decode cX7_cuts 27 = .ok (.invokevirtual 64, 3) := by decide +kernel
theorem dX7_cuts_30 : decode cX7_cuts 30 = .ok (.ireturn, 1) := by decide +kernel
theorem dX7_cuts_31 : decode cX7_cuts 31 = .ok (.iconst 1, 1) := by decide +kernel
theorem dX7_cuts_32 : decode cX7_cuts 32 = .ok (.istore 4, 2) := by decide +kernel
theorem dX7_cuts_34 : decode cX7_cuts 34 = .ok (.aload_n 0, 1) := by decide +kernel
theorem dX7_cuts_35 : decode cX7_cuts 35 = .ok (.getfield 10, 3) := by decide +kernel
theorem dX7_cuts_38 : decode cX7_cuts 38 = .ok (.iload_n 1, 1) := by decide +kernel
theorem dX7_cuts_39 : decode cX7_cuts 39 = .ok (.iconst 1, 1) := by decide +kernel
theorem dX7_cuts_40 : decode cX7_cuts 40 = .ok (.iload_n 2, 1) := by decide +kernel
theorem dX7_cuts_41 : decode cX7_cuts 41 = .ok (.iconst 1, 1) := by decide +kernel
theorem dX7_cuts_42 : decode cX7_cuts 42 = .ok (.isub, 1) := by decide +kernel
theorem dX7_cuts_43 : decode cX7_cuts 43 = .ok (.invokevirtual 165, 3) := by decide +kernel
theorem dX7_cuts_46 : decode cX7_cuts 46 = .ok (.istore 5, 2) := by decide +kernel
theorem dX7_cuts_48 : decode cX7_cuts 48 = .ok (.iconst 2, 1) := by decide +kernel
theorem dX7_cuts_49 : decode cX7_cuts 49 = .ok (.istore 6, 2) := by decide +kernel
theorem dX7_cuts_51 : decode cX7_cuts 51 = .ok (.iload 6, 2) := by decide +kernel
theorem dX7_cuts_53 : decode cX7_cuts 53 = .ok (.iload_n 2, 1) := by decide +kernel
theorem dX7_cuts_54 : decode cX7_cuts 54 = .ok (.if_icmp .ge 40, 3) := by decide +kernel
theorem dX7_cuts_57 : decode cX7_cuts 57 = .ok (.aload_n 0, 1) := by decide +kernel
theorem dX7_cuts_58 : decode cX7_cuts 58 = .ok (.getfield 10, 3) := by decide +kernel
theorem dX7_cuts_61 : decode cX7_cuts 61 = .ok (.iload_n 1, 1) := by decide +kernel
theorem dX7_cuts_62 : decode cX7_cuts 62 = .ok (.iload 6, 2) := by decide +kernel
theorem dX7_cuts_64 : decode cX7_cuts 64 = .ok (.iload_n 2, 1) := by decide +kernel
theorem dX7_cuts_65 : decode cX7_cuts 65 = .ok (.iload 6, 2) := by decide +kernel
theorem dX7_cuts_67 : decode cX7_cuts 67 = .ok (.isub, 1) := by decide +kernel
theorem dX7_cuts_68 : decode cX7_cuts 68 = .ok (.invokevirtual 165, 3) := by decide +kernel
theorem dX7_cuts_71 : decode cX7_cuts 71 = .ok (.istore 7, 2) := by decide +kernel
theorem dX7_cuts_73 : decode cX7_cuts 73 = .ok (.iload 7, 2) := by decide +kernel
theorem dX7_cuts_75 : decode cX7_cuts 75 = .ok (.iload 5, 2) := by decide +kernel
theorem dX7_cuts_77 : decode cX7_cuts 77 = .ok (.if_icmp .ge 11, 3) := by decide +kernel
theorem dX7_cuts_80 : decode cX7_cuts 80 = .ok (.iload 7, 2) := by decide +kernel
theorem dX7_cuts_82 : decode cX7_cuts 82 = .ok (.istore 5, 2) := by decide +kernel
theorem dX7_cuts_84 : decode cX7_cuts 84 = .ok (.iload 6, 2) := by decide +kernel
theorem dX7_cuts_86 : decode cX7_cuts 86 = .ok (.istore 4, 2) := by decide +kernel
theorem dX7_cuts_88 : decode cX7_cuts 88 = .ok (.iinc 6 1, 3) := by decide +kernel
theorem dX7_cuts_91 : decode cX7_cuts 91 = .ok (.goto (-40), 3) := by decide +kernel
theorem dX7_cuts_94 : decode cX7_cuts 94 = .ok (.iload_n 3, 1) := by decide +kernel
theorem dX7_cuts_95 : decode cX7_cuts 95 = .ok (.ifCond .ne 8, 3) := by decide +kernel
theorem dX7_cuts_98 : decode cX7_cuts 98 = .ok (.iload 5, 2) := by decide +kernel
theorem dX7_cuts_100 : decode cX7_cuts 100 = .ok (.goto 5, 3) := by decide +kernel
theorem dX7_cuts_103 : decode cX7_cuts 103 = .ok (.iload 4, 2) := by decide +kernel
theorem dX7_cuts_105 : decode cX7_cuts 105 = .ok (.ireturn, 1) := by decide +kernel
theorem dX7_row_0 : decode cX7_row 0 = .ok (.iload_n 1, 1) := by decide +kernel
theorem dX7_row_1 : decode cX7_row 1 = .ok (.bipush (-2), 2) := by decide +kernel
theorem dX7_row_3 : decode cX7_row 3 = .ok (.if_icmp .ge 11, 3) := by decide +kernel
theorem dX7_row_6 : decode cX7_row 6 = .ok (.aload_n 0, 1) := by decide +kernel
theorem dX7_row_7 : decode cX7_row 7 = .ok (.invokevirtual 64, 3) := by decide +kernel
theorem dX7_row_10 : decode cX7_row 10 = .ok (.pop, 1) := by decide +kernel
theorem dX7_row_11 : decode cX7_row 11 = .ok (.bipush (-10), 2) := by decide +kernel
theorem dX7_row_13 : decode cX7_row 13 = .ok (.ireturn, 1) := by decide +kernel
theorem dX7_row_14 : decode cX7_row 14 = .ok (.aload_n 0, 1) := by decide +kernel
theorem dX7_row_15 : decode cX7_row 15 = .ok (.getfield 35, 3) := by decide +kernel
theorem dX7_row_18 : decode cX7_row 18 = .ok (.aload_n 0, 1) := by decide +kernel
theorem dX7_row_19 : decode cX7_row 19 = .ok (.getfield 10, 3) := by decide +kernel
theorem dX7_row_22 : decode cX7_row 22 = .ok (.invokevirtual 169, 3) := by decide +kernel
theorem dX7_row_25 : decode cX7_row 25 = .ok (.iload_n 1, 1) := by decide +kernel
theorem dX7_row_26 : decode cX7_row 26 = .ok (.bipush (-2), 2) := by decide +kernel
theorem dX7_row_28 : decode cX7_row 28 = .ok (.if_icmp .ne 11, 3) := by decide +kernel
theorem dX7_row_31 : decode cX7_row 31 = .ok (.aload_n 0, 1) := by decide +kernel
theorem dX7_row_32 : decode cX7_row 32 = .ok (.getfield 35, 3) := by decide +kernel
theorem dX7_row_35 : decode cX7_row 35 = .ok (.getfield 173, 3) := by decide +kernel
theorem dX7_row_38 : decode cX7_row 38 = .ok (.ireturn, 1) := by decide +kernel
theorem dX7_row_39 : decode cX7_row 39 = .ok (.iload_n 1, 1) := by decide +kernel
theorem dX7_row_40 : decode cX7_row 40 = .ok (.iconst (-1), 1) := by decide +kernel
theorem dX7_row_41 : decode cX7_row 41 = .ok (.if_icmp .ne 11, 3) := by decide +kernel
theorem dX7_row_44 : decode cX7_row 44 = .ok (.aload_n 0, 1) := by decide +kernel
theorem dX7_row_45 : decode cX7_row 45 = .ok (.getfield 35, 3) := by decide +kernel
theorem dX7_row_48 : decode cX7_row 48 = .ok (.getfield 176, 3) := by decide +kernel
theorem dX7_row_51 : decode cX7_row 51 = .ok (.ireturn, 1) := by decide +kernel
theorem dX7_row_52 : decode cX7_row 52 = .ok (.aload_n 0, 1) := by decide +kernel
theorem dX7_row_53 : decode cX7_row 53 = .ok (.getfield 35, 3) := by decide +kernel
theorem dX7_row_56 : decode cX7_row 56 = .ok (.iload_n 1, 1) := by decide +kernel
theorem dX7_row_57 : decode cX7_row 57 = .ok (.invokevirtual 179, 3) := by decide +kernel
theorem dX7_row_60 : decode cX7_row 60 = .ok (.ifCond .eq 14, 3) := by decide +kernel
theorem dX7_row_63 : decode cX7_row 63 = .ok (.aload_n 0, 1) := by decide +kernel
theorem dX7_row_64 : decode cX7_row 64 = .ok (.getfield 35, 3) := by decide +kernel
theorem dX7_row_67 : decode cX7_row 67 = .ok (.iload_n 1, 1) := by decide +kernel
theorem dX7_row_68 : decode cX7_row 68 = .ok (.invokevirtual 182, 3) := by decide +kernel
theorem dX7_row_71 : decode cX7_row 71 = .ok (.goto 5, 3) := by decide +kernel
theorem dX7_row_74 : decode cX7_row 74 = .ok (.bipush (-5), 2) := by decide +kernel
theorem dX7_row_76 : decode cX7_row 76 = .ok (.ireturn, 1) := by decide +kernel
theorem dX7_came_0 : decode cX7_came 0 = .ok (.iload_n 1, 1) := by decide +kernel
theorem dX7_came_1 : decode cX7_came 1 = .ok (.iconst 1, 1) := by decide +kernel
theorem dX7_came_2 : decode cX7_came 2 = .ok (.bipush 60, 2) := by decide +kernel
theorem dX7_came_4 : decode cX7_came 4 = .ok (.invokestatic 60, 3) := by decide +kernel
theorem dX7_came_7 : decode cX7_came 7 = .ok (.ifCond .eq 13, 3) := by decide +kernel
theorem dX7_came_10 : decode cX7_came 10 = .ok (.iload_n 2, 1) := by decide +kernel
theorem dX7_came_11 : decode cX7_came 11 = .ok (.iconst 0, 1) := by decide +kernel
theorem dX7_came_12 : decode cX7_came 12 = .ok (.bipush 60, 2) := by decide +kernel
theorem dX7_came_14 : decode cX7_came 14 = .ok (.invokestatic 60, 3) := by decide +kernel
theorem dX7_came_17 : decode cX7_came 17 = .ok (.ifCond .ne 8, 3) := by decide +kernel
theorem dX7_came_20 : decode cX7_came 20 = .ok (.aload_n 0, 1) := by decide +kernel
theorem dX7_came_21 : decode cX7_came 21 = .ok (.invokevirtual 64, 3) := by decide +kernel
theorem dX7_came_24 : decode cX7_came 24 = .ok (.ireturn, 1) := by decide +kernel
theorem dX7_came_25 : decode cX7_came 25 = .ok (.aload_n 0, 1) := by decide +kernel
theorem dX7_came_26 : decode cX7_came 26 = .ok (.aload_n 0, 1) := by decide +kernel
theorem dX7_came_27 : decode cX7_came 27 = .ok (.getfield 10, 3) := by decide +kernel
theorem dX7_came_30 : decode cX7_came 30 = .ok (.getfield 185, 3) := by decide +kernel
theorem dX7_came_33 : decode cX7_came 33 = .ok (.iload_n 1, 1) := by decide +kernel
theorem dX7_came_34 : decode cX7_came 34 = .ok (.iload_n 2, 1) := by decide +kernel
theorem dX7_came_35 : decode cX7_came 35 = .ok (.iconst 0, 1) := by decide +kernel
theorem dX7_came_36 : decode cX7_came 36 = .ok (.iconst 0, 1) := by decide +kernel
theorem dX7_came_37 : decode cX7_came 37 = .ok (.invokevirtual 188, 3) := by decide +kernel
theorem dX7_came_40 : decode cX7_came 40 = .ok (.ireturn, 1) := by decide +kernel
theorem dX7_lines_0 : decode cX7_lines 0 = .ok (.iload_n 1, 1) := by decide +kernel
theorem dX7_lines_1 : decode cX7_lines 1 = .ok (.iconst 0, 1) := by decide +kernel
theorem dX7_lines_2 : decode cX7_lines 2 = .ok (.iconst 2, 1) := by decide +kernel
theorem dX7_lines_3 : decode cX7_lines 3 = .ok (.invokestatic 60, 3) := by decide +kernel
theorem dX7_lines_6 : decode cX7_lines 6 = .ok (.ifCond .ne 8, 3) := by decide +kernel
theorem dX7_lines_9 : decode cX7_lines 9 = .ok (.aload_n 0, 1) := by decide +kernel
theorem dX7_lines_10 : decode cX7_lines 10 = .ok (.invokevirtual 64, 3) := by decide +kernel
theorem dX7_lines_13 : decode cX7_lines 13 = .ok (.ireturn, 1) := by decide +kernel
theorem dX7_lines_14 : decode cX7_lines 14 = .ok (.iload_n 1, 1) := by decide +kernel
theorem dX7_lines_15 : decode cX7_lines 15 = .ok (.ifCond .ne 15, 3) := by decide +kernel
theorem dX7_lines_18 : decode cX7_lines 18 = .ok (.aload_n 0, 1) := by decide +kernel
theorem dX7_lines_19 : decode cX7_lines 19 = .ok (.getfield 42, 3) := by decide +kernel
theorem dX7_lines_22 : decode cX7_lines 22 = .ok (.aload_n 0, 1) := by decide +kernel
theorem dX7_lines_23 : decode cX7_lines 23 = .ok (.getfield 10, 3) := by decide +kernel
theorem dX7_lines_26 : decode cX7_lines 26 = .ok (.invokevirtual 192, 3) := by decide +kernel
theorem dX7_lines_29 : decode cX7_lines 29 = .ok (.ireturn, 1) := by decide +kernel
theorem dX7_lines_30 : decode cX7_lines 30 = .ok (.iload_n 1, 1) := by decide +kernel
theorem dX7_lines_31 : decode cX7_lines 31 = .ok (.iconst 1, 1) := by decide +kernel
theorem dX7_lines_32 : decode cX7_lines 32 = .ok (.if_icmp .ne 17, 3) := by decide +kernel
theorem dX7_lines_35 : decode cX7_lines 35 = .ok (.aload_n 0, 1) := by decide +kernel
theorem dX7_lines_36 : decode cX7_lines 36 = .ok (.getfield 42, 3) := by decide +kernel
theorem dX7_lines_39 : decode cX7_lines 39 = .ok (.aload_n 0, 1) := by decide +kernel
theorem dX7_lines_40 : decode cX7_lines 40 = .ok (.getfield 10, 3) := by decide +kernel
theorem dX7_lines_43 : decode cX7_lines 43 = .ok (.invokevirtual 195, 3) := by decide +kernel
theorem dX7_lines_46 : decode cX7_lines 46 = .ok (.goto 14, 3) := by decide +kernel
theorem dX7_lines_49 : decode cX7_lines 49 = .ok (.aload_n 0, 1) := by decide +kernel
theorem dX7_lines_50 : decode cX7_lines 50 = .ok (.getfield 42, 3) := by decide +kernel
theorem dX7_lines_53 : decode cX7_lines 53 = .ok (.aload_n 0, 1) := by decide +kernel
theorem dX7_lines_54 : decode cX7_lines 54 = .ok (.getfield 10, 3) := by decide +kernel
theorem dX7_lines_57 : decode cX7_lines 57 = .ok (.invokevirtual 198, 3) := by decide +kernel
theorem dX7_lines_60 : decode cX7_lines 60 = .ok (.ireturn, 1) := by decide +kernel
theorem dX7_tries_0 : decode cX7_tries 0 = .ok (.aload_n 0, 1) := by decide +kernel
theorem dX7_tries_1 : decode cX7_tries 1 = .ok (.getfield 42, 3) := by decide +kernel
theorem dX7_tries_4 : decode cX7_tries 4 = .ok (.aload_n 0, 1) := by decide +kernel
theorem dX7_tries_5 : decode cX7_tries 5 = .ok (.getfield 10, 3) := by decide +kernel
theorem dX7_tries_8 : decode cX7_tries 8 = .ok (.invokevirtual 201, 3) := by decide +kernel
theorem dX7_tries_11 : decode cX7_tries 11 = .ok (.ireturn, 1) := by decide +kernel
theorem dX7_note_0 : decode cX7_note 0 = .ok (.aload_n 0, 1) := by decide +kernel
theorem dX7_note_1 : decode cX7_note 1 = .ok (.getfield 10, 3) := by decide +kernel
theorem dX7_note_4 : decode cX7_note 4 = .ok (.iload_n 1, 1) := by decide +kernel
theorem dX7_note_5 : decode cX7_note 5 = .ok (.invokevirtual 121, 3) := by decide +kernel
theorem dX7_note_8 : decode cX7_note 8 = .ok (.ifCond .eq 35, 3) := by decide +kernel
theorem dX7_note_11 : decode cX7_note 11 = .ok (.iload_n 2, 1) := by decide +kernel
theorem dX7_note_12 : decode cX7_note 12 = .ok (.iconst 1, 1) := by decide +kernel
theorem dX7_note_13 : decode cX7_note 13 = .ok (.bipush 60, 2) := by decide +kernel
theorem dX7_note_15 : decode cX7_note 15 = .ok (.invokestatic 60, 3) := by decide +kernel
theorem dX7_note_18 : decode cX7_note 18 = .ok (.ifCond .eq 25, 3) := by decide +kernel
theorem dX7_note_21 : decode cX7_note 21 = .ok (.iload_n 3, 1) := by decide +kernel
theorem dX7_note_22 : decode cX7_note 22 = .ok (.iconst 0, 1) := by decide +kernel
theorem dX7_note_23 : decode cX7_note 23 = .ok (.bipush 23, 2) := by decide +kernel
theorem dX7_note_25 : decode cX7_note 25 = .ok (.invokestatic 60, 3) := by decide +kernel
theorem dX7_note_28 : decode cX7_note 28 = .ok (.ifCond .eq 15, 3) := by decide +kernel
theorem dX7_note_31 : decode cX7_note 31 = .ok (.iload 4, 2) := by decide +kernel
theorem dX7_note_33 : decode cX7_note 33 = .ok (.iconst 0, 1) := by decide +kernel
theorem dX7_note_34 : decode cX7_note 34 = .ok (.sipush 200, 3) := by decide +kernel
theorem dX7_note_37 : decode cX7_note 37 = .ok (.invokestatic 60, 3) := by decide +kernel
theorem dX7_note_40 : decode cX7_note 40 = .ok (.ifCond .ne 8, 3) := by decide +kernel
theorem dX7_note_43 : decode cX7_note 43 = .ok (.aload_n 0, 1) := by decide +kernel
theorem dX7_note_44 : decode cX7_note 44 = .ok (.invokevirtual 64, 3) := by decide +kernel
theorem dX7_note_47 : decode cX7_note 47 = .ok (.ireturn, 1) := by decide +kernel
theorem dX7_note_48 : decode cX7_note 48 = .ok (.aload_n 0, 1) := by decide +kernel
theorem dX7_note_49 : decode cX7_note 49 = .ok (.aload_n 0, 1) := by decide +kernel
theorem dX7_note_50 : decode cX7_note 50 = .ok (.getfield 10, 3) := by decide +kernel
theorem dX7_note_53 : decode cX7_note 53 = .ok (.getfield 204, 3) := by decide +kernel
theorem dX7_note_56 : decode cX7_note 56 = .ok (.iload_n 1, 1) := by decide +kernel
theorem dX7_note_57 : decode cX7_note 57 = .ok (.iload_n 2, 1) := by decide +kernel
theorem dX7_note_58 : decode cX7_note 58 = .ok (.iload_n 3, 1) := by decide +kernel
theorem dX7_note_59 : decode cX7_note 59 = .ok (.iload 4, 2) := by decide +kernel
theorem dX7_note_61 : decode cX7_note 61 = .ok (.invokevirtual 188, 3) := by decide +kernel
theorem dX7_note_64 : decode cX7_note 64 = .ok (.ireturn, 1) := by decide +kernel
theorem dX7_mark_0 : decode cX7_mark 0 = .ok (.iload_n 1, 1) := by decide +kernel
theorem dX7_mark_1 : decode cX7_mark 1 = .ok (.iconst 0, 1) := by decide +kernel
theorem dX7_mark_2 : decode cX7_mark 2 = .ok (.iconst 1, 1) := by decide +kernel
theorem dX7_mark_3 : decode cX7_mark 3 = .ok (.invokestatic 60, 3) := by decide +kernel
theorem dX7_mark_6 : decode cX7_mark 6 = .ok (.ifCond .eq 35, 3) := by decide +kernel
theorem dX7_mark_9 : decode cX7_mark 9 = .ok (.iload_n 2, 1) := by decide +kernel
theorem dX7_mark_10 : decode cX7_mark 10 = .ok (.iconst 0, 1) := by decide +kernel
theorem dX7_mark_11 : decode cX7_mark 11 = .ok (.bipush 99, 2) := by decide +kernel
theorem dX7_mark_13 : decode cX7_mark 13 = .ok (.invokestatic 60, 3) := by decide +kernel
theorem dX7_mark_16 : decode cX7_mark 16 = .ok (.ifCond .eq 25, 3) := by decide +kernel
theorem dX7_mark_19 : decode cX7_mark 19 = .ok (.iload_n 3, 1) := by decide +kernel
theorem dX7_mark_20 : decode cX7_mark 20 = .ok (.iconst 0, 1) := by decide +kernel
theorem dX7_mark_21 : decode cX7_mark 21 = .ok (.bipush 99, 2) := by decide +kernel
theorem dX7_mark_23 : decode cX7_mark 23 = .ok (.invokestatic 60, 3) := by decide +kernel
theorem dX7_mark_26 : decode cX7_mark 26 = .ok (.ifCond .eq 15, 3) := by decide +kernel
theorem dX7_mark_29 : decode cX7_mark 29 = .ok (.iload 4, 2) := by decide +kernel
theorem dX7_mark_31 : decode cX7_mark 31 = .ok (.iconst 0, 1) := by decide +kernel
theorem dX7_mark_32 : decode cX7_mark 32 = .ok (.sipush 200, 3) := by decide +kernel
theorem dX7_mark_35 : decode cX7_mark 35 = .ok (.invokestatic 60, 3) := by decide +kernel
theorem dX7_mark_38 : decode cX7_mark 38 = .ok (.ifCond .ne 8, 3) := by decide +kernel
theorem dX7_mark_41 : decode cX7_mark 41 = .ok (.aload_n 0, 1) := by decide +kernel
theorem dX7_mark_42 : decode cX7_mark 42 = .ok (.invokevirtual 64, 3) := by decide +kernel
theorem dX7_mark_45 : decode cX7_mark 45 = .ok (.ireturn, 1) := by decide +kernel
theorem dX7_mark_46 : decode cX7_mark 46 = .ok (.aload_n 0, 1) := by decide +kernel
theorem dX7_mark_47 : decode cX7_mark 47 = .ok (.aload_n 0, 1) := by decide +kernel
theorem dX7_mark_48 : decode cX7_mark 48 = .ok (.getfield 10, 3) := by decide +kernel
theorem dX7_mark_51 : decode cX7_mark 51 = .ok (.getfield 207, 3) := by decide +kernel
theorem dX7_mark_54 : decode cX7_mark 54 = .ok (.iload_n 1, 1) := by decide +kernel
theorem dX7_mark_55 : decode cX7_mark 55 = .ok (.iload_n 2, 1) := by decide +kernel
theorem dX7_mark_56 : decode cX7_mark 56 = .ok (.iload_n 3, 1) := by decide +kernel
theorem dX7_mark_57 : decode cX7_mark 57 = .ok (.iload 4, 2) := by decide +kernel
theorem dX7_mark_59 : decode cX7_mark 59 = .ok (.invokevirtual 188, 3) := by decide +kernel
theorem dX7_mark_62 : decode cX7_mark 62 = .ok (.ireturn, 1) := by decide +kernel
theorem dX7_forget_0 : decode cX7_forget 0 = .ok (.iload_n 1, 1) := by decide +kernel
theorem dX7_forget_1 : decode cX7_forget 1 = .ok (.iconst 0, 1) := by decide +kernel
theorem dX7_forget_2 : decode cX7_forget 2 = .ok (.iconst 2, 1) := by decide +kernel
theorem dX7_forget_3 : decode cX7_forget 3 = .ok (.invokestatic 60, 3) := by decide +kernel
theorem dX7_forget_6 : decode cX7_forget 6 = .ok (.ifCond .ne 8, 3) := by decide +kernel
theorem dX7_forget_9 : decode cX7_forget 9 = .ok (.aload_n 0, 1) := by decide +kernel
theorem dX7_forget_10 : decode cX7_forget 10 = .ok (.invokevirtual 64, 3) := by decide +kernel
theorem dX7_forget_13 : decode cX7_forget 13 = .ok (.ireturn, 1) := by decide +kernel
theorem dX7_forget_14 : decode cX7_forget 14 = .ok (.iload_n 1, 1) := by decide +kernel
theorem dX7_forget_15 : decode cX7_forget 15 = .ok (.ifCond .ne 13, 3) := by decide +kernel
theorem dX7_forget_18 : decode cX7_forget 18 = .ok (.aload_n 0, 1) := by decide +kernel
theorem dX7_forget_19 : decode cX7_forget 19 = .ok (.getfield 10, 3) := by decide +kernel
theorem dX7_forget_22 : decode cX7_forget 22 = .ok (.getfield 185, 3) := by decide +kernel
theorem dX7_forget_25 : decode cX7_forget 25 = .ok (.goto 25, 3) := by decide +kernel
theorem dX7_forget_28 : decode cX7_forget 28 = .ok (.iload_n 1, 1) := by decide +kernel
theorem dX7_forget_29 : decode cX7_forget 29 = .ok (.iconst 1, 1) := by decide +kernel
theorem dX7_forget_30 : decode cX7_forget 30 = .ok (.if_icmp .ne 13, 3) := by decide +kernel
theorem dX7_forget_33 : decode cX7_forget 33 = .ok (.aload_n 0, 1) := by decide +kernel
theorem dX7_forget_34 : decode cX7_forget 34 = .ok (.getfield 10, 3) := by decide +kernel
theorem dX7_forget_37 : decode cX7_forget 37 = .ok (.getfield 204, 3) := by decide +kernel
theorem dX7_forget_40 : decode cX7_forget 40 = .ok (.goto 10, 3) := by decide +kernel
theorem dX7_forget_43 : decode cX7_forget 43 = .ok (.aload_n 0, 1) := by decide +kernel
theorem dX7_forget_44 : decode cX7_forget 44 = .ok (.getfield 10, 3) := by decide +kernel
theorem dX7_forget_47 : decode cX7_forget 47 = .ok (.getfield 207, 3) := by decide +kernel
theorem dX7_forget_50 : decode cX7_forget 50 = .ok (.astore_n 2, 1) := by decide +kernel
theorem dX7_forget_51 : decode cX7_forget 51 = .ok (.aload_n 2, 1) := by decide +kernel
theorem dX7_forget_52 : decode cX7_forget 52 = .ok (.getfield 72, 3) := by decide +kernel
theorem dX7_forget_55 : decode cX7_forget 55 = .ok (.istore_n 3, 1) := by decide +kernel
theorem dX7_forget_56 : decode cX7_forget 56 = .ok (.aload_n 2, 1) := by decide +kernel
theorem dX7_forget_57 : decode cX7_forget 57 = .ok (.invokevirtual 98, 3) := by decide +kernel
theorem dX7_forget_60 : decode cX7_forget 60 = .ok (.iload_n 3, 1) := by decide +kernel
theorem dX7_forget_61 : decode cX7_forget 61 = .ok (.ireturn, 1) := by decide +kernel
theorem dX7_is_0 : decode cX7_is 0 = .ok (.aload_n 0, 1) := by decide +kernel
theorem dX7_is_1 : decode cX7_is 1 = .ok (.getfield 10, 3) := by decide +kernel
theorem dX7_is_4 : decode cX7_is 4 = .ok (.iload_n 1, 1) := by decide +kernel
theorem dX7_is_5 : decode cX7_is 5 = .ok (.invokevirtual 121, 3) := by decide +kernel
theorem dX7_is_8 : decode cX7_is 8 = .ok (.ifCond .ne 8, 3) := by decide +kernel
theorem dX7_is_11 : decode cX7_is 11 = .ok (.aload_n 0, 1) := by decide +kernel
theorem dX7_is_12 : decode cX7_is 12 = .ok (.invokevirtual 64, 3) := by decide +kernel
theorem dX7_is_15 : decode cX7_is 15 = .ok (.ireturn, 1) := by decide +kernel
theorem dX7_is_16 : decode cX7_is 16 = .ok (.aload_n 0, 1) := by decide +kernel
theorem dX7_is_17 : decode cX7_is 17 = .ok (.getfield 42, 3) := by decide +kernel
theorem dX7_is_20 : decode cX7_is 20 = .ok (.aload_n 0, 1) := by decide +kernel
theorem dX7_is_21 : decode cX7_is 21 = .ok (.getfield 10, 3) := by decide +kernel
theorem dX7_is_24 : decode cX7_is 24 = .ok (.iload_n 1, 1) := by decide +kernel
theorem dX7_is_25 : decode cX7_is 25 = .ok (.invokevirtual 210, 3) := by decide +kernel
theorem dX7_is_28 : decode cX7_is 28 = .ok (.ireturn, 1) := by decide +kernel
theorem dX7_look_0 : decode cX7_look 0 = .ok (.aload_n 0, 1) := by decide +kernel
theorem dX7_look_1 : decode cX7_look 1 = .ok (.getfield 10, 3) := by decide +kernel
theorem dX7_look_4 : decode cX7_look 4 = .ok (.iload_n 1, 1) := by decide +kernel
theorem dX7_look_5 : decode cX7_look 5 = .ok (.invokevirtual 121, 3) := by decide +kernel
theorem dX7_look_8 : decode cX7_look 8 = .ok (.ifCond .ne 8, 3) := by decide +kernel
theorem dX7_look_11 : decode cX7_look 11 = .ok (.aload_n 0, 1) := by decide +kernel
theorem dX7_look_12 : decode cX7_look 12 = .ok (.invokevirtual 64, 3) := by decide +kernel
theorem dX7_look_15 : decode cX7_look 15 = .ok (.ireturn, 1) := by decide +kernel
theorem dX7_look_16 : decode cX7_look 16 = .ok (.aload_n 0, 1) := by decide +kernel
theorem dX7_look_17 : decode cX7_look 17 = .ok (.getfield 42, 3) := by decide +kernel
theorem dX7_look_20 : decode cX7_look 20 = .ok (.aload_n 0, 1) := by decide +kernel
theorem dX7_look_21 : decode cX7_look 21 = .ok (.getfield 10, 3) := by decide +kernel
theorem dX7_look_24 : decode cX7_look 24 = .ok (.iload_n 1, 1) := by decide +kernel
theorem dX7_look_25 : decode cX7_look 25 = .ok (.invokevirtual 214, 3) := by decide +kernel
theorem dX7_look_28 : decode cX7_look 28 = .ok (.ireturn, 1) := by decide +kernel
theorem dX7_kinds_0 : decode cX7_kinds 0 = .ok (.iload_n 1, 1) := by decide +kernel
theorem dX7_kinds_1 : decode cX7_kinds 1 = .ok (.iconst 0, 1) := by decide +kernel
theorem dX7_kinds_2 : decode cX7_kinds 2 = .ok (.iconst 1, 1) := by decide +kernel
theorem dX7_kinds_3 : decode cX7_kinds 3 = .ok (.invokestatic 60, 3) := by decide +kernel
theorem dX7_kinds_6 : decode cX7_kinds 6 = .ok (.ifCond .ne 8, 3) := by decide +kernel
theorem dX7_kinds_9 : decode cX7_kinds 9 = .ok (.aload_n 0, 1) := by decide +kernel
theorem dX7_kinds_10 : decode cX7_kinds 10 = .ok (.invokevirtual 64, 3) := by decide +kernel
theorem dX7_kinds_13 : decode cX7_kinds 13 = .ok (.ireturn, 1) := by decide +kernel
theorem dX7_kinds_14 : decode cX7_kinds 14 = .ok (.aload_n 0, 1) := by decide +kernel
theorem dX7_kinds_15 : decode cX7_kinds 15 = .ok (.getfield 42, 3) := by decide +kernel
theorem dX7_kinds_18 : decode cX7_kinds 18 = .ok (.aload_n 0, 1) := by decide +kernel
theorem dX7_kinds_19 : decode cX7_kinds 19 = .ok (.getfield 10, 3) := by decide +kernel
theorem dX7_kinds_22 : decode cX7_kinds 22 = .ok (.iload_n 1, 1) := by decide +kernel
theorem dX7_kinds_23 : decode cX7_kinds 23 = .ok (.invokevirtual 217, 3) := by decide +kernel
theorem dX7_kinds_26 : decode cX7_kinds 26 = .ok (.ireturn, 1) := by decide +kernel
theorem dX7_ask_0 : decode cX7_ask 0 = .ok (.iload_n 1, 1) := by decide +kernel
theorem dX7_ask_1 : decode cX7_ask 1 = .ok (.iconst 0, 1) := by decide +kernel
theorem dX7_ask_2 : decode cX7_ask 2 = .ok (.iconst 1, 1) := by decide +kernel
theorem dX7_ask_3 : decode cX7_ask 3 = .ok (.invokestatic 60, 3) := by decide +kernel
theorem dX7_ask_6 : decode cX7_ask 6 = .ok (.ifCond .ne 8, 3) := by decide +kernel
theorem dX7_ask_9 : decode cX7_ask 9 = .ok (.aload_n 0, 1) := by decide +kernel
theorem dX7_ask_10 : decode cX7_ask 10 = .ok (.invokevirtual 64, 3) := by decide +kernel
theorem dX7_ask_13 : decode cX7_ask 13 = .ok (.ireturn, 1) := by decide +kernel
theorem dX7_ask_14 : decode cX7_ask 14 = .ok (.aload_n 0, 1) := by decide +kernel
theorem dX7_ask_15 : decode cX7_ask 15 = .ok (.getfield 42, 3) := by decide +kernel
theorem dX7_ask_18 : decode cX7_ask 18 = .ok (.aload_n 0, 1) := by decide +kernel
theorem dX7_ask_19 : decode cX7_ask 19 = .ok (.getfield 10, 3) := by decide +kernel
theorem dX7_ask_22 : decode cX7_ask 22 = .ok (.iload_n 1, 1) := by decide +kernel
theorem dX7_ask_23 : decode cX7_ask 23 = .ok (.invokevirtual 220, 3) := by decide +kernel
theorem dX7_ask_26 : decode cX7_ask 26 = .ok (.ireturn, 1) := by decide +kernel
theorem dX7_ends_0 : decode cX7_ends 0 = .ok (.iload_n 1, 1) := by decide +kernel
theorem dX7_ends_1 : decode cX7_ends 1 = .ok (.iconst (-1), 1) := by decide +kernel
theorem dX7_ends_2 : decode cX7_ends 2 = .ok (.if_icmp .ge 11, 3) := by decide +kernel
theorem dX7_ends_5 : decode cX7_ends 5 = .ok (.aload_n 0, 1) := by decide +kernel
theorem dX7_ends_6 : decode cX7_ends 6 = .ok (.invokevirtual 64, 3) := by decide +kernel
theorem dX7_ends_9 : decode cX7_ends 9 = .ok (.pop, 1) := by decide +kernel
theorem dX7_ends_10 : decode cX7_ends 10 = .ok (.bipush (-10), 2) := by decide +kernel
theorem dX7_ends_12 : decode cX7_ends 12 = .ok (.ireturn, 1) := by decide +kernel
theorem dX7_ends_13 : decode cX7_ends 13 = .ok (.aload_n 0, 1) := by decide +kernel
theorem dX7_ends_14 : decode cX7_ends 14 = .ok (.getfield 49, 3) := by decide +kernel
theorem dX7_ends_17 : decode cX7_ends 17 = .ok (.aload_n 0, 1) := by decide +kernel
theorem dX7_ends_18 : decode cX7_ends 18 = .ok (.getfield 10, 3) := by decide +kernel
theorem dX7_ends_21 : decode cX7_ends 21 = .ok (.invokevirtual 223, 3) := by decide +kernel
theorem dX7_ends_24 : decode cX7_ends 24 = .ok (.iload_n 1, 1) := by decide +kernel
theorem dX7_ends_25 : decode cX7_ends 25 = .ok (.iconst (-1), 1) := by decide +kernel
theorem dX7_ends_26 : decode cX7_ends 26 = .ok (.if_icmp .ne 11, 3) := by decide +kernel
theorem dX7_ends_29 : decode cX7_ends 29 = .ok (.aload_n 0, 1) := by decide +kernel
theorem dX7_ends_30 : decode cX7_ends 30 = .ok (.getfield 49, 3) := by decide +kernel
theorem dX7_ends_33 : decode cX7_ends 33 = .ok (.invokevirtual 226, 3) := by decide +kernel
theorem dX7_ends_36 : decode cX7_ends 36 = .ok (.ireturn, 1) := by decide +kernel
theorem dX7_ends_37 : decode cX7_ends 37 = .ok (.aload_n 0, 1) := by decide +kernel
theorem dX7_ends_38 : decode cX7_ends 38 = .ok (.getfield 49, 3) := by decide +kernel
theorem dX7_ends_41 : decode cX7_ends 41 = .ok (.iload_n 1, 1) := by decide +kernel
theorem dX7_ends_42 : decode cX7_ends 42 = .ok (.invokevirtual 229, 3) := by decide +kernel
theorem dX7_ends_45 : decode cX7_ends 45 = .ok (.istore_n 2, 1) := by decide +kernel
theorem dX7_ends_46 : decode cX7_ends 46 = .ok (.iload_n 2, 1) := by decide +kernel
theorem dX7_ends_47 : decode cX7_ends 47 = .ok (.iconst (-1), 1) := by decide +kernel
theorem dX7_ends_48 : decode cX7_ends 48 = .ok (.if_icmp .ne 8, 3) := by decide +kernel
theorem dX7_ends_51 : decode cX7_ends 51 = .ok (.bipush (-5), 2) := by decide +kernel
theorem dX7_ends_53 : decode cX7_ends 53 = .ok (.goto 4, 3) := by decide +kernel
theorem dX7_ends_56 : decode cX7_ends 56 = .ok (.iload_n 2, 1) := by decide +kernel
theorem dX7_ends_57 : decode cX7_ends 57 = .ok (.ireturn, 1) := by decide +kernel
theorem dX7_scissors_0 : decode cX7_scissors 0 = .ok (.iload_n 1, 1) := by decide +kernel
theorem dX7_scissors_1 : decode cX7_scissors 1 = .ok (.iconst 0, 1) := by decide +kernel
theorem dX7_scissors_2 : decode cX7_scissors 2 = .ok (.bipush 10, 2) := by decide +kernel
theorem dX7_scissors_4 : decode cX7_scissors 4 = .ok (.invokestatic 60, 3) := by decide +kernel
theorem dX7_scissors_7 : decode cX7_scissors 7 = .ok (.ifCond .ne 8, 3) := by decide +kernel
theorem dX7_scissors_10 : decode cX7_scissors 10 = .ok (.aload_n 0, 1) := by decide +kernel
theorem dX7_scissors_11 : decode cX7_scissors 11 = .ok (.invokevirtual 64, 3) := by decide +kernel
theorem dX7_scissors_14 : decode cX7_scissors 14 = .ok (.ireturn, 1) := by decide +kernel
theorem dX7_scissors_15 : decode cX7_scissors 15 = .ok (.iconst 0, 1) := by decide +kernel
theorem dX7_scissors_16 : decode cX7_scissors 16 = .ok (.istore_n 2, 1) := by decide +kernel
theorem dX7_scissors_17 : decode cX7_scissors 17 = .ok (.iconst 0, 1) := by decide +kernel
theorem dX7_scissors_18 : decode cX7_scissors 18 = .ok (.istore_n 3, 1) := by decide +kernel
theorem dX7_scissors_19 : decode cX7_scissors 19 = .ok (.iload_n 3, 1) := by decide +kernel
theorem dX7_scissors_20 : decode cX7_scissors 20 = .ok (.aload_n 0, 1) := by decide +kernel
theorem dX7_scissors_21 : decode cX7_scissors 21 = .ok (.getfield 10, 3) := by decide +kernel
theorem dX7_scissors_24 : decode cX7_scissors 24 = .ok (.getfield 68, 3) := by decide +kernel
theorem dX7_scissors_27 : decode cX7_scissors 27 = .ok (.getfield 72, 3) := by decide +kernel
theorem dX7_scissors_30 : decode cX7_scissors 30 = .ok (.if_icmp .ge 52, 3) := by decide +kernel
theorem dX7_scissors_33 : decode cX7_scissors 33 = .ok (.aload_n 0, 1) := by decide +kernel
theorem dX7_scissors_34 : decode cX7_scissors 34 = .ok (.getfield 10, 3) := by decide +kernel
theorem dX7_scissors_37 : decode cX7_scissors 37 = .ok (.iload_n 3, 1) := by decide +kernel
theorem dX7_scissors_38 : decode cX7_scissors 38 = .ok (.invokevirtual 156, 3) := by decide +kernel
theorem dX7_scissors_41 : decode cX7_scissors 41 = .ok (.iconst 2, 1) := by decide +kernel
theorem dX7_scissors_42 : decode cX7_scissors 42 = .ok (.idiv, 1) := by decide +kernel
theorem dX7_scissors_43 : decode cX7_scissors 43 = .ok (.aload_n 0, 1) := by decide +kernel
theorem dX7_scissors_44 : decode cX7_scissors 44 = .ok (.getfield 10, 3) := by decide +kernel
theorem dX7_scissors_47 : decode cX7_scissors 47 = .ok (.getfield 232, 3) := by decide +kernel
theorem dX7_scissors_50 : decode cX7_scissors 50 = .ok (.invokestatic 235, 3) := by decide +kernel
theorem dX7_scissors_53 : decode cX7_scissors 53 = .ok (.istore 4, 2) := by decide +kernel
theorem dX7_scissors_55 : decode cX7_scissors 55 = .ok (.iload_n 2, 1) := by decide +kernel
theorem dX7_scissors_56 : decode cX7_scissors 56 = .ok (.iload_n 1, 1) := by decide +kernel
theorem dX7_scissors_57 : decode cX7_scissors 57 = .ok (.iload 4, 2) := by decide +kernel
theorem dX7_scissors_59 : decode cX7_scissors 59 = .ok (.imul, 1) := by decide +kernel
theorem dX7_scissors_60 : decode cX7_scissors 60 = .ok (.bipush 10, 2) := by decide +kernel
theorem dX7_scissors_62 : decode cX7_scissors 62 = .ok (.iload_n 1, 1) := by decide +kernel
theorem dX7_scissors_63 : decode cX7_scissors 63 = .ok (.isub, 1) := by decide +kernel
theorem dX7_scissors_64 : decode cX7_scissors 64 = .ok (.aload_n 0, 1) := by decide +kernel
theorem dX7_scissors_65 : decode cX7_scissors 65 = .ok (.getfield 10, 3) := by decide +kernel
theorem dX7_scissors_68 : decode cX7_scissors 68 = .ok (.iload_n 3, 1) := by decide +kernel
theorem dX7_scissors_69 : decode cX7_scissors 69 = .ok (.invokevirtual 143, 3) := by decide +kernel
theorem dX7_scissors_72 : decode cX7_scissors 72 = .ok (.imul, 1) := by decide +kernel
theorem dX7_scissors_73 : decode cX7_scissors 73 = .ok (.iadd, 1) := by decide +kernel
theorem dX7_scissors_74 : decode cX7_scissors 74 = .ok (.iadd, 1) := by decide +kernel
theorem dX7_scissors_75 : decode cX7_scissors 75 = .ok (.istore_n 2, 1) := by decide +kernel
theorem dX7_scissors_76 : decode cX7_scissors 76 = .ok (.iinc 3 1, 3) := by decide +kernel
theorem dX7_scissors_79 : decode cX7_scissors 79 = .ok (.goto (-60), 3) := by decide +kernel
theorem dX7_scissors_82 : decode cX7_scissors 82 = .ok (.aload_n 0, 1) := by decide +kernel
theorem dX7_scissors_83 : decode cX7_scissors 83 = .ok (.iload_n 2, 1) := by decide +kernel
theorem dX7_scissors_84 : decode cX7_scissors 84 = .ok (.invokevirtual 238, 3) := by decide +kernel
theorem dX7_scissors_87 : decode cX7_scissors 87 = .ok (.iconst 1, 1) := by decide +kernel
theorem dX7_scissors_88 : decode cX7_scissors 88 = .ok (.ireturn, 1) := by decide +kernel
theorem dX7_nights_0 : decode cX7_nights 0 = .ok (.iload_n 1, 1) := by decide +kernel
theorem dX7_nights_1 : decode cX7_nights 1 = .ok (.iconst 0, 1) := by decide +kernel
theorem dX7_nights_2 : decode cX7_nights 2 = .ok (.ldc 241, 2) := by decide +kernel
theorem dX7_nights_4 : decode cX7_nights 4 = .ok (.invokestatic 60, 3) := by decide +kernel
theorem dX7_nights_7 : decode cX7_nights 7 = .ok (.ifCond .eq 13, 3) := by decide +kernel
theorem dX7_nights_10 : decode cX7_nights 10 = .ok (.iload_n 2, 1) := by decide +kernel
theorem dX7_nights_11 : decode cX7_nights 11 = .ok (.iconst 0, 1) := by decide +kernel
theorem dX7_nights_12 : decode cX7_nights 12 = .ok (.bipush 60, 2) := by decide +kernel
theorem dX7_nights_14 : decode cX7_nights 14 = .ok (.invokestatic 60, 3) := by decide +kernel
theorem dX7_nights_17 : decode cX7_nights 17 = .ok (.ifCond .ne 8, 3) := by decide +kernel
theorem dX7_nights_20 : decode cX7_nights 20 = .ok (.aload_n 0, 1) := by decide +kernel
theorem dX7_nights_21 : decode cX7_nights 21 = .ok (.invokevirtual 64, 3) := by decide +kernel
theorem dX7_nights_24 : decode cX7_nights 24 = .ok (.ireturn, 1) := by decide +kernel
theorem dX7_nights_25 : decode cX7_nights 25 = .ok (.iload_n 1, 1) := by decide +kernel
theorem dX7_nights_26 : decode cX7_nights 26 = .ok (.i2l, 1) := by decide +kernel
theorem dX7_nights_27 : decode cX7_nights 27 = .ok (.lstore_n 3, 1) := by decide +kernel
theorem dX7_nights_28 : decode cX7_nights 28 = .ok (.aload_n 0, 1) := by decide +kernel
theorem dX7_nights_29 : decode cX7_nights 29 = .ok (.getfield 10, 3) := by decide +kernel
theorem dX7_nights_32 : decode cX7_nights 32 = .ok (.getfield 131, 3) := by decide +kernel
theorem dX7_nights_35 : decode cX7_nights 35 = .ok (.istore 5, 2) := by decide +kernel
theorem dX7_nights_37 : decode cX7_nights 37 = .ok (.iconst 0, 1) := by decide +kernel
theorem dX7_nights_38 : decode cX7_nights 38 = .ok (.istore 6, 2) := by decide +kernel
theorem dX7_nights_40 : decode cX7_nights 40 = .ok (.iconst 0, 1) := by decide +kernel
theorem dX7_nights_41 : decode cX7_nights 41 = .ok (.istore 7, 2) := by decide +kernel
theorem dX7_nights_43 : decode cX7_nights 43 = .ok (.iload 7, 2) := by decide +kernel
theorem dX7_nights_45 : decode cX7_nights 45 = .ok (.iload_n 2, 1) := by decide +kernel
theorem dX7_nights_46 : decode cX7_nights 46 = .ok (.if_icmp .ge 93, 3) := by decide +kernel
theorem dX7_nights_49 : decode cX7_nights 49 = .ok (.lload_n 3, 1) := by decide +kernel
theorem dX7_nights_50 : decode cX7_nights 50 = .ok (.ldc2_w 242, 3) := by decide +kernel
theorem dX7_nights_53 : decode cX7_nights 53 = .ok (.lmul, 1) := by decide +kernel
theorem dX7_nights_54 : decode cX7_nights 54 = .ok (.ldc2_w 244, 3) := by decide +kernel
theorem dX7_nights_57 : decode cX7_nights 57 = .ok (.ladd, 1) := by decide +kernel
theorem dX7_nights_58 : decode cX7_nights 58 = .ok (.ldc2_w 246, 3) := by decide +kernel
theorem dX7_nights_61 : decode cX7_nights 61 = .ok (.lrem, 1) := by decide +kernel
theorem dX7_nights_62 : decode cX7_nights 62 = .ok (.lstore_n 3, 1) := by decide +kernel
theorem dX7_nights_63 : decode cX7_nights 63 = .ok (.lload_n 3, 1) := by decide +kernel
theorem dX7_nights_64 : decode cX7_nights 64 = .ok (.ldc2_w 248, 3) := by decide +kernel
theorem dX7_nights_67 : decode cX7_nights 67 = .ok (.ldiv, 1) := by decide +kernel
theorem dX7_nights_68 : decode cX7_nights 68 = .ok (.ldc2_w 250, 3) := by decide +kernel
theorem dX7_nights_71 : decode cX7_nights 71 = .ok (.lrem, 1) := by decide +kernel
theorem dX7_nights_72 : decode cX7_nights 72 = .ok (.l2i, 1) := by decide +kernel
theorem dX7_nights_73 : decode cX7_nights 73 = .ok (.istore 8, 2) := by decide +kernel
theorem dX7_nights_75 : decode cX7_nights 75 = .ok (.aload_n 0, 1) := by decide +kernel
theorem dX7_nights_76 : decode cX7_nights 76 = .ok (.getfield 10, 3) := by decide +kernel
theorem dX7_nights_79 : decode cX7_nights 79 = .ok (.iload 8, 2) := by decide +kernel
theorem dX7_nights_81 : decode cX7_nights 81 = .ok (.invokevirtual 121, 3) := by decide +kernel
theorem dX7_nights_84 : decode cX7_nights 84 = .ok (.ifCond .eq 49, 3) := by decide +kernel
theorem dX7_nights_87 : decode cX7_nights 87 = .ok (.aload_n 0, 1) := by decide +kernel
theorem dX7_nights_88 : decode cX7_nights 88 = .ok (.getfield 10, 3) := by decide +kernel
theorem dX7_nights_91 : decode cX7_nights 91 = .ok (.iload 8, 2) := by decide +kernel
theorem dX7_nights_93 : decode cX7_nights 93 = .ok (.iload 7, 2) := by decide +kernel
theorem dX7_nights_95 : decode cX7_nights 95 = .ok (.invokevirtual 127, 3) := by decide +kernel
theorem dX7_nights_98 : decode cX7_nights 98 = .ok (.iload 5, 2) := by decide +kernel
theorem dX7_nights_100 : decode cX7_nights 100 = .ok (.if_icmp .gt 33, 3) := by decide +kernel
theorem dX7_nights_103 : decode cX7_nights 103 = .ok (.iload 5, 2) := by decide +kernel
theorem dX7_nights_105 : decode cX7_nights 105 = .ok (.aload_n 0, 1) := by decide +kernel
theorem dX7_nights_106 : decode cX7_nights 106 = .ok (.getfield 10, 3) := by decide +kernel
theorem dX7_nights_109 : decode cX7_nights 109 = .ok (.iload 8, 2) := by decide +kernel
theorem dX7_nights_111 : decode cX7_nights 111 = .ok (.iload 7, 2) := by decide +kernel
theorem dX7_nights_113 : decode cX7_nights 113 = .ok (.invokevirtual 127, 3) := by decide +kernel
theorem dX7_nights_116 : decode cX7_nights 116 = .ok (.isub, 1) := by decide +kernel
theorem dX7_nights_117 : decode cX7_nights 117 = .ok (.istore 5, 2) := by decide +kernel
theorem dX7_nights_119 : decode cX7_nights 119 = .ok (.iload 6, 2) := by decide +kernel
theorem dX7_nights_121 : decode cX7_nights 121 = .ok (.aload_n 0, 1) := by decide +kernel
theorem dX7_nights_122 : decode cX7_nights 122 = .ok (.getfield 10, 3) := by decide +kernel
theorem dX7_nights_125 : decode cX7_nights 125 = .ok (.iload 8, 2) := by decide +kernel
theorem dX7_nights_127 : decode cX7_nights 127 = .ok (.invokevirtual 143, 3) := by decide +kernel
theorem dX7_nights_130 : decode cX7_nights 130 = .ok (.iadd, 1) := by decide +kernel
theorem dX7_nights_131 : decode cX7_nights 131 = .ok (.istore 6, 2) := by decide +kernel
theorem dX7_nights_133 : decode cX7_nights 133 = .ok (.iinc 7 1, 3) := by decide +kernel
theorem dX7_nights_136 : decode cX7_nights 136 = .ok (.goto (-93), 3) := by decide +kernel
theorem dX7_nights_139 : decode cX7_nights 139 = .ok (.iload 6, 2) := by decide +kernel
theorem dX7_nights_141 : decode cX7_nights 141 = .ok (.ireturn, 1) := by decide +kernel
theorem dX7_part_0 : decode cX7_part 0 = .ok (.iload_n 1, 1) := by decide +kernel
theorem dX7_part_1 : decode cX7_part 1 = .ok (.iconst 0, 1) := by decide +kernel
theorem dX7_part_2 : decode cX7_part 2 = .ok (.iconst 1, 1) := by decide +kernel
theorem dX7_part_3 : decode cX7_part 3 = .ok (.invokestatic 60, 3) := by decide +kernel
theorem dX7_part_6 : decode cX7_part 6 = .ok (.ifCond .ne 9, 3) := by decide +kernel
theorem dX7_part_9 : decode cX7_part 9 = .ok (.aload_n 0, 1) := by decide +kernel
theorem dX7_part_10 : decode cX7_part 10 = .ok (.invokevirtual 64, 3) := by decide +kernel
theorem dX7_part_13 : decode cX7_part 13 = .ok (.i2l, 1) := by decide +kernel
theorem dX7_part_14 : decode cX7_part 14 = .ok (.lreturn, 1) := by decide +kernel
theorem dX7_part_15 : decode cX7_part 15 = .ok (.iload_n 1, 1) := by decide +kernel
theorem dX7_part_16 : decode cX7_part 16 = .ok (.ifCond .ne 10, 3) := by decide +kernel
theorem dX7_part_19 : decode cX7_part 19 = .ok (.aload_n 0, 1) := by decide +kernel
theorem dX7_part_20 : decode cX7_part 20 = .ok (.getfield 53, 3) := by decide +kernel
theorem dX7_part_23 : decode cX7_part 23 = .ok (.goto 7, 3) := by decide +kernel
theorem dX7_part_26 : decode cX7_part 26 = .ok (.aload_n 0, 1) := by decide +kernel
theorem dX7_part_27 : decode cX7_part 27 = .ok (.getfield 57, 3) := by decide +kernel
theorem dX7_part_30 : decode cX7_part 30 = .ok (.lreturn, 1) := by decide +kernel
theorem dX7_image_0 : decode cX7_image 0 = .ok (.iload_n 1, 1) := by decide +kernel
theorem dX7_image_1 : decode cX7_image 1 = .ok (.iconst 0, 1) := by decide +kernel
theorem dX7_image_2 : decode cX7_image 2 = .ok (.iconst 1, 1) := by decide +kernel
theorem dX7_image_3 : decode cX7_image 3 = .ok (.invokestatic 60, 3) := by decide +kernel
theorem dX7_image_6 : decode cX7_image 6 = .ok (.ifCond .ne 8, 3) := by decide +kernel
theorem dX7_image_9 : decode cX7_image 9 = .ok (.aload_n 0, 1) := by decide +kernel
theorem dX7_image_10 : decode cX7_image 10 = .ok (.invokevirtual 64, 3) := by decide +kernel
theorem dX7_image_13 : decode cX7_image 13 = .ok (.ireturn, 1) := by decide +kernel
theorem dX7_image_14 : decode cX7_image 14 = .ok (.iload_n 1, 1) := by decide +kernel
theorem dX7_image_15 : decode cX7_image 15 = .ok (.ifCond .ne 22, 3) := by decide +kernel
theorem dX7_image_18 : decode cX7_image 18 = .ok (.aload_n 0, 1) := by decide +kernel
theorem dX7_image_19 : decode cX7_image 19 = .ok (.getfield 19, 3) := by decide +kernel
theorem dX7_image_22 : decode cX7_image 22 = .ok (.aload_n 0, 1) := by decide +kernel
theorem dX7_image_23 : decode cX7_image 23 = .ok (.getfield 10, 3) := by decide +kernel
theorem dX7_image_26 : decode cX7_image 26 = .ok (.invokevirtual 252, 3) := by decide +kernel
theorem dX7_image_29 : decode cX7_image 29 = .ok (.aload_n 0, 1) := by decide +kernel
theorem dX7_image_30 : decode cX7_image 30 = .ok (.iconst 1, 1) := by decide +kernel
theorem dX7_image_31 : decode cX7_image 31 = .ok (.putfield 255, 3) := by decide +kernel
theorem dX7_image_34 : decode cX7_image 34 = .ok (.goto 19, 3) := by decide +kernel
theorem dX7_image_37 : decode cX7_image 37 = .ok (.aload_n 0, 1) := by decide +kernel
theorem dX7_image_38 : decode cX7_image 38 = .ok (.getfield 22, 3) := by decide +kernel
theorem dX7_image_41 : decode cX7_image 41 = .ok (.aload_n 0, 1) := by decide +kernel
theorem dX7_image_42 : decode cX7_image 42 = .ok (.getfield 10, 3) := by decide +kernel
theorem dX7_image_45 : decode cX7_image 45 = .ok (.invokevirtual 252, 3) := by decide +kernel
theorem dX7_image_48 : decode cX7_image 48 = .ok (.aload_n 0, 1) := by decide +kernel
theorem dX7_image_49 : decode cX7_image 49 = .ok (.iconst 1, 1) := by decide +kernel
theorem dX7_image_50 : decode cX7_image 50 = .ok (.putfield 259, 3) := by decide +kernel
theorem dX7_image_53 : decode cX7_image 53 = .ok (.iconst 1, 1) := by decide +kernel
theorem dX7_image_54 : decode cX7_image 54 = .ok (.ireturn, 1) := by decide +kernel
theorem dX7_from_0 : decode cX7_from 0 = .ok (.iload_n 1, 1) := by decide +kernel
theorem dX7_from_1 : decode cX7_from 1 = .ok (.iconst 0, 1) := by decide +kernel
theorem dX7_from_2 : decode cX7_from 2 = .ok (.iconst 1, 1) := by decide +kernel
theorem dX7_from_3 : decode cX7_from 3 = .ok (.invokestatic 60, 3) := by decide +kernel
theorem dX7_from_6 : decode cX7_from 6 = .ok (.ifCond .ne 8, 3) := by decide +kernel
theorem dX7_from_9 : decode cX7_from 9 = .ok (.aload_n 0, 1) := by decide +kernel
theorem dX7_from_10 : decode cX7_from 10 = .ok (.invokevirtual 64, 3) := by decide +kernel
theorem dX7_from_13 : decode cX7_from 13 = .ok (.ireturn, 1) := by decide +kernel
theorem dX7_from_14 : decode cX7_from 14 = .ok (.iload_n 1, 1) := by decide +kernel
theorem dX7_from_15 : decode cX7_from 15 = .ok (.ifCond .ne 13, 3) := by decide +kernel
theorem dX7_from_18 : decode cX7_from 18 = .ok (.aload_n 0, 1) := by decide +kernel
theorem dX7_from_19 : decode cX7_from 19 = .ok (.getfield 255, 3) := by decide +kernel
theorem dX7_from_22 : decode cX7_from 22 = .ok (.ifCond .ne 18, 3) := by decide +kernel
theorem dX7_from_25 : decode cX7_from 25 = .ok (.goto 10, 3) := by decide +kernel
theorem dX7_from_28 : decode cX7_from 28 = .ok (.aload_n 0, 1) := by decide +kernel
theorem dX7_from_29 : decode cX7_from 29 = .ok (.getfield 259, 3) := by decide +kernel
theorem dX7_from_32 : decode cX7_from 32 = .ok (.ifCond .ne 8, 3) := by decide +kernel
theorem dX7_from_35 : decode cX7_from 35 = .ok (.aload_n 0, 1) := by decide +kernel
theorem dX7_from_36 : decode cX7_from 36 = .ok (.invokevirtual 134, 3) := by decide +kernel
theorem dX7_from_39 : decode cX7_from 39 = .ok (.ireturn, 1) := by decide +kernel
theorem dX7_from_40 : decode cX7_from 40 = .ok (.aload_n 0, 1) := by decide +kernel
theorem dX7_from_41 : decode cX7_from 41 = .ok (.getfield 10, 3) := by decide +kernel
theorem dX7_from_44 : decode cX7_from 44 = .ok (.iload_n 1, 1) := by decide +kernel
theorem dX7_from_45 : decode cX7_from 45 = .ok (.ifCond .ne 10, 3) := by decide +kernel
theorem dX7_from_48 : decode cX7_from 48 = .ok (.aload_n 0, 1) := by decide +kernel
theorem dX7_from_49 : decode cX7_from 49 = .ok (.getfield 19, 3) := by decide +kernel
theorem dX7_from_52 : decode cX7_from 52 = .ok (.goto 7, 3) := by decide +kernel
theorem dX7_from_55 : decode cX7_from 55 = .ok (.aload_n 0, 1) := by decide +kernel
theorem dX7_from_56 : decode cX7_from 56 = .ok (.getfield 22, 3) := by decide +kernel
theorem dX7_from_59 : decode cX7_from 59 = .ok (.invokevirtual 252, 3) := by decide +kernel
theorem dX7_from_62 : decode cX7_from 62 = .ok (.iconst 1, 1) := by decide +kernel
theorem dX7_from_63 : decode cX7_from 63 = .ok (.ireturn, 1) := by decide +kernel
theorem dX7_status_0 : decode cX7_status 0 = .ok (.iload_n 1, 1) := by decide +kernel
theorem dX7_status_1 : decode cX7_status 1 = .ok (.tableswitch 42 0 2 #[27, 32, 37], 27) := by decide +kernel
theorem dX7_status_28 : decode cX7_status 28 = .ok (.aload_n 0, 1) := by decide +kernel
theorem dX7_status_29 : decode cX7_status 29 = .ok (.getfield 262, 3) := by decide +kernel
theorem dX7_status_32 : decode cX7_status 32 = .ok (.ireturn, 1) := by decide +kernel
theorem dX7_status_33 : decode cX7_status 33 = .ok (.aload_n 0, 1) := by decide +kernel
theorem dX7_status_34 : decode cX7_status 34 = .ok (.getfield 265, 3) := by decide +kernel
theorem dX7_status_37 : decode cX7_status 37 = .ok (.ireturn, 1) := by decide +kernel
theorem dX7_status_38 : decode cX7_status 38 = .ok (.aload_n 0, 1) := by decide +kernel
theorem dX7_status_39 : decode cX7_status 39 = .ok (.getfield 268, 3) := by decide +kernel
theorem dX7_status_42 : decode cX7_status 42 = .ok (.ireturn, 1) := by decide +kernel
theorem dX7_status_43 : decode cX7_status 43 = .ok (.aload_n 0, 1) := by decide +kernel
theorem dX7_status_44 : decode cX7_status 44 = .ok (.invokevirtual 64, 3) := by decide +kernel
theorem dX7_status_47 : decode cX7_status 47 = .ok (.pop, 1) := by decide +kernel
theorem dX7_status_48 : decode cX7_status 48 = .ok (.iconst (-1), 1) := by decide +kernel
theorem dX7_status_49 : decode cX7_status 49 = .ok (.ireturn, 1) := by decide +kernel
theorem dX7_count_0 : decode cX7_count 0 = .ok (.iload_n 1, 1) := by decide +kernel
theorem dX7_count_1 : decode cX7_count 1 = .ok (.iconst 0, 1) := by decide +kernel
theorem dX7_count_2 : decode cX7_count 2 = .ok (.iconst 5, 1) := by decide +kernel
theorem dX7_count_3 : decode cX7_count 3 = .ok (.invokestatic 60, 3) := by decide +kernel
theorem dX7_count_6 : decode cX7_count 6 = .ok (.ifCond .ne 8, 3) := by decide +kernel
theorem dX7_count_9 : decode cX7_count 9 = .ok (.aload_n 0, 1) := by decide +kernel
theorem dX7_count_10 : decode cX7_count 10 = .ok (.invokevirtual 64, 3) := by decide +kernel
theorem dX7_count_13 : decode cX7_count 13 = .ok (.ireturn, 1) := by decide +kernel
theorem dX7_count_14 : decode cX7_count 14 = .ok (.aload_n 0, 1) := by decide +kernel
theorem dX7_count_15 : decode cX7_count 15 = .ok (.iload_n 1, 1) := by decide +kernel
theorem dX7_count_16 : decode cX7_count 16 = .ok (.invokevirtual 271, 3) := by decide +kernel
theorem dX7_count_19 : decode cX7_count 19 = .ok (.ireturn, 1) := by decide +kernel
theorem dX7_digest_0 : decode cX7_digest 0 = .ok (.ldc2_w 274, 3) := by decide +kernel
theorem dX7_digest_3 : decode cX7_digest 3 = .ok (.lstore_n 1, 1) := by decide +kernel
theorem dX7_digest_4 : decode cX7_digest 4 = .ok (.iconst 0, 1) := by decide +kernel
theorem dX7_digest_5 : decode cX7_digest 5 = .ok (.istore_n 3, 1) := by decide +kernel
theorem dX7_digest_6 : decode cX7_digest 6 = .ok (.iload_n 3, 1) := by decide +kernel
theorem dX7_digest_7 : decode cX7_digest 7 = .ok (.iconst 5, 1) := by decide +kernel
theorem dX7_digest_8 : decode cX7_digest 8 = .ok (.if_icmp .gt 22, 3) := by decide +kernel
theorem dX7_digest_11 : decode cX7_digest 11 = .ok (.ldc2_w 276, 3) := by decide +kernel
theorem dX7_digest_14 : decode cX7_digest 14 = .ok (.lload_n 1, 1) := by decide +kernel
theorem dX7_digest_15 : decode cX7_digest 15 = .ok (.lmul, 1) := by decide +kernel
theorem dX7_digest_16 : decode cX7_digest 16 = .ok (.aload_n 0, 1) := by decide +kernel
theorem dX7_digest_17 : decode cX7_digest 17 = .ok (.iload_n 3, 1) := by decide +kernel
theorem dX7_digest_18 : decode cX7_digest 18 = .ok (.invokevirtual 271, 3) := by decide +kernel
theorem dX7_digest_21 : decode cX7_digest 21 = .ok (.i2l, 1) := by decide +kernel
theorem dX7_digest_22 : decode cX7_digest 22 = .ok (.ladd, 1) := by decide +kernel
theorem dX7_digest_23 : decode cX7_digest 23 = .ok (.lstore_n 1, 1) := by decide +kernel
theorem dX7_digest_24 : decode cX7_digest 24 = .ok (.iinc 3 1, 3) := by decide +kernel
theorem dX7_digest_27 : decode cX7_digest 27 = .ok (.goto (-21), 3) := by decide +kernel
theorem dX7_digest_30 : decode cX7_digest 30 = .ok (.iconst 0, 1) := by decide +kernel
theorem dX7_digest_31 : decode cX7_digest 31 = .ok (.istore_n 3, 1) := by decide +kernel
theorem dX7_digest_32 : decode cX7_digest 32 = .ok (.iload_n 3, 1) := by decide +kernel
theorem dX7_digest_33 : decode cX7_digest 33 = .ok (.bipush 6, 2) := by decide +kernel
theorem dX7_digest_35 : decode cX7_digest 35 = .ok (.if_icmp .gt 25, 3) := by decide +kernel
theorem dX7_digest_38 : decode cX7_digest 38 = .ok (.ldc2_w 276, 3) := by decide +kernel
theorem dX7_digest_41 : decode cX7_digest 41 = .ok (.lload_n 1, 1) := by decide +kernel
theorem dX7_digest_42 : decode cX7_digest 42 = .ok (.lmul, 1) := by decide +kernel
theorem dX7_digest_43 : decode cX7_digest 43 = .ok (.aload_n 0, 1) := by decide +kernel
theorem dX7_digest_44 : decode cX7_digest 44 = .ok (.getfield 10, 3) := by decide +kernel
theorem dX7_digest_47 : decode cX7_digest 47 = .ok (.iload_n 3, 1) := by decide +kernel
theorem dX7_digest_48 : decode cX7_digest 48 = .ok (.invokevirtual 159, 3) := by decide +kernel
theorem dX7_digest_51 : decode cX7_digest 51 = .ok (.i2l, 1) := by decide +kernel
theorem dX7_digest_52 : decode cX7_digest 52 = .ok (.ladd, 1) := by decide +kernel
theorem dX7_digest_53 : decode cX7_digest 53 = .ok (.lstore_n 1, 1) := by decide +kernel
theorem dX7_digest_54 : decode cX7_digest 54 = .ok (.iinc 3 1, 3) := by decide +kernel
theorem dX7_digest_57 : decode cX7_digest 57 = .ok (.goto (-25), 3) := by decide +kernel
theorem dX7_digest_60 : decode cX7_digest 60 = .ok (.aload_n 0, 1) := by decide +kernel
theorem dX7_digest_61 : decode cX7_digest 61 = .ok (.getfield 10, 3) := by decide +kernel
theorem dX7_digest_64 : decode cX7_digest 64 = .ok (.getfield 68, 3) := by decide +kernel
theorem dX7_digest_67 : decode cX7_digest 67 = .ok (.lload_n 1, 1) := by decide +kernel
theorem dX7_digest_68 : decode cX7_digest 68 = .ok (.iconst 2, 1) := by decide +kernel
theorem dX7_digest_69 : decode cX7_digest 69 = .ok (.invokevirtual 278, 3) := by decide +kernel
theorem dX7_digest_72 : decode cX7_digest 72 = .ok (.lstore_n 1, 1) := by decide +kernel
theorem dX7_digest_73 : decode cX7_digest 73 = .ok (.aload_n 0, 1) := by decide +kernel
theorem dX7_digest_74 : decode cX7_digest 74 = .ok (.getfield 10, 3) := by decide +kernel
theorem dX7_digest_77 : decode cX7_digest 77 = .ok (.getfield 185, 3) := by decide +kernel
theorem dX7_digest_80 : decode cX7_digest 80 = .ok (.lload_n 1, 1) := by decide +kernel
theorem dX7_digest_81 : decode cX7_digest 81 = .ok (.iconst 2, 1) := by decide +kernel
theorem dX7_digest_82 : decode cX7_digest 82 = .ok (.invokevirtual 278, 3) := by decide +kernel
theorem dX7_digest_85 : decode cX7_digest 85 = .ok (.lstore_n 1, 1) := by decide +kernel
theorem dX7_digest_86 : decode cX7_digest 86 = .ok (.aload_n 0, 1) := by decide +kernel
theorem dX7_digest_87 : decode cX7_digest 87 = .ok (.getfield 10, 3) := by decide +kernel
theorem dX7_digest_90 : decode cX7_digest 90 = .ok (.getfield 204, 3) := by decide +kernel
theorem dX7_digest_93 : decode cX7_digest 93 = .ok (.lload_n 1, 1) := by decide +kernel
theorem dX7_digest_94 : decode cX7_digest 94 = .ok (.iconst 4, 1) := by decide +kernel
theorem dX7_digest_95 : decode cX7_digest 95 = .ok (.invokevirtual 278, 3) := by decide +kernel
theorem dX7_digest_98 : decode cX7_digest 98 = .ok (.lstore_n 1, 1) := by decide +kernel
theorem dX7_digest_99 : decode cX7_digest 99 = .ok (.aload_n 0, 1) := by decide +kernel
theorem dX7_digest_100 : decode cX7_digest 100 = .ok (.getfield 10, 3) := by decide +kernel
theorem dX7_digest_103 : decode cX7_digest 103 = .ok (.getfield 207, 3) := by decide +kernel
theorem dX7_digest_106 : decode cX7_digest 106 = .ok (.lload_n 1, 1) := by decide +kernel
theorem dX7_digest_107 : decode cX7_digest 107 = .ok (.iconst 4, 1) := by decide +kernel
theorem dX7_digest_108 : decode cX7_digest 108 = .ok (.invokevirtual 278, 3) := by decide +kernel
theorem dX7_digest_111 : decode cX7_digest 111 = .ok (.lstore_n 1, 1) := by decide +kernel
theorem dX7_digest_112 : decode cX7_digest 112 = .ok (.ldc2_w 276, 3) := by decide +kernel
theorem dX7_digest_115 : decode cX7_digest 115 = .ok (.lload_n 1, 1) := by decide +kernel
theorem dX7_digest_116 : decode cX7_digest 116 = .ok (.lmul, 1) := by decide +kernel
theorem dX7_digest_117 : decode cX7_digest 117 = .ok (.aload_n 0, 1) := by decide +kernel
theorem dX7_digest_118 : decode cX7_digest 118 = .ok (.getfield 53, 3) := by decide +kernel
theorem dX7_digest_121 : decode cX7_digest 121 = .ok (.ladd, 1) := by decide +kernel
theorem dX7_digest_122 : decode cX7_digest 122 = .ok (.lstore_n 1, 1) := by decide +kernel
theorem dX7_digest_123 : decode cX7_digest 123 = .ok (.ldc2_w 276, 3) := by decide +kernel
theorem dX7_digest_126 : decode cX7_digest 126 = .ok (.lload_n 1, 1) := by decide +kernel
theorem dX7_digest_127 : decode cX7_digest 127 = .ok (.lmul, 1) := by decide +kernel
theorem dX7_digest_128 : decode cX7_digest 128 = .ok (.aload_n 0, 1) := by decide +kernel
theorem dX7_digest_129 : decode cX7_digest 129 = .ok (.getfield 57, 3) := by decide +kernel
theorem dX7_digest_132 : decode cX7_digest 132 = .ok (.ladd, 1) := by decide +kernel
theorem dX7_digest_133 : decode cX7_digest 133 = .ok (.lreturn, 1) := by decide +kernel
theorem dX7_within_0 : decode cX7_within 0 = .ok (.iload_n 0, 1) := by decide +kernel
theorem dX7_within_1 : decode cX7_within 1 = .ok (.iload_n 1, 1) := by decide +kernel
theorem dX7_within_2 : decode cX7_within 2 = .ok (.if_icmp .lt 12, 3) := by decide +kernel
theorem dX7_within_5 : decode cX7_within 5 = .ok (.iload_n 0, 1) := by decide +kernel
theorem dX7_within_6 : decode cX7_within 6 = .ok (.iload_n 2, 1) := by decide +kernel
theorem dX7_within_7 : decode cX7_within 7 = .ok (.if_icmp .gt 7, 3) := by decide +kernel
theorem dX7_within_10 : decode cX7_within 10 = .ok (.iconst 1, 1) := by decide +kernel
theorem dX7_within_11 : decode cX7_within 11 = .ok (.goto 4, 3) := by decide +kernel
theorem dX7_within_14 : decode cX7_within 14 = .ok (.iconst 0, 1) := by decide +kernel
theorem dX7_within_15 : decode cX7_within 15 = .ok (.ireturn, 1) := by decide +kernel
theorem dX7_refuseBad_0 : decode cX7_refuseBad 0 = .ok (.aload_n 0, 1) := by decide +kernel
theorem dX7_refuseBad_1 : decode cX7_refuseBad 1 = .ok (.dup, 1) := by decide +kernel
theorem dX7_refuseBad_2 : decode cX7_refuseBad 2 = .ok (.getfield 262, 3) := by decide +kernel
theorem dX7_refuseBad_5 : decode cX7_refuseBad 5 = .ok (.iconst 1, 1) := by decide +kernel
theorem dX7_refuseBad_6 : decode cX7_refuseBad 6 = .ok (.iadd, 1) := by decide +kernel
theorem dX7_refuseBad_7 : decode cX7_refuseBad 7 = .ok (.putfield 262, 3) := by decide +kernel
theorem dX7_refuseBad_10 : decode cX7_refuseBad 10 = .ok (.bipush (-2), 2) := by decide +kernel
theorem dX7_refuseBad_12 : decode cX7_refuseBad 12 = .ok (.ireturn, 1) := by decide +kernel
theorem dX7_refuseNo_0 : decode cX7_refuseNo 0 = .ok (.aload_n 0, 1) := by decide +kernel
theorem dX7_refuseNo_1 : decode cX7_refuseNo 1 = .ok (.dup, 1) := by decide +kernel
theorem dX7_refuseNo_2 : decode cX7_refuseNo 2 = .ok (.getfield 265, 3) := by decide +kernel
theorem dX7_refuseNo_5 : decode cX7_refuseNo 5 = .ok (.iconst 1, 1) := by decide +kernel
theorem dX7_refuseNo_6 : decode cX7_refuseNo 6 = .ok (.iadd, 1) := by decide +kernel
theorem dX7_refuseNo_7 : decode cX7_refuseNo 7 = .ok (.putfield 265, 3) := by decide +kernel
theorem dX7_refuseNo_10 : decode cX7_refuseNo 10 = .ok (.bipush (-3), 2) := by decide +kernel
theorem dX7_refuseNo_12 : decode cX7_refuseNo 12 = .ok (.ireturn, 1) := by decide +kernel
theorem dX7_refuseFull_0 : decode cX7_refuseFull 0 = .ok (.aload_n 0, 1) := by decide +kernel
theorem dX7_refuseFull_1 : decode cX7_refuseFull 1 = .ok (.dup, 1) := by decide +kernel
theorem dX7_refuseFull_2 : decode cX7_refuseFull 2 = .ok (.getfield 268, 3) := by decide +kernel
theorem dX7_refuseFull_5 : decode cX7_refuseFull 5 = .ok (.iconst 1, 1) := by decide +kernel
theorem dX7_refuseFull_6 : decode cX7_refuseFull 6 = .ok (.iadd, 1) := by decide +kernel
theorem dX7_refuseFull_7 : decode cX7_refuseFull 7 = .ok (.putfield 268, 3) := by decide +kernel
theorem dX7_refuseFull_10 : decode cX7_refuseFull 10 = .ok (.bipush (-4), 2) := by decide +kernel
theorem dX7_refuseFull_12 : decode cX7_refuseFull 12 = .ok (.ireturn, 1) := by decide +kernel
theorem dX7_keep_0 : decode cX7_keep 0 = .ok (.aload_n 1, 1) := by decide +kernel
theorem dX7_keep_1 : decode cX7_keep 1 = .ok (.invokevirtual 101, 3) := by decide +kernel
theorem dX7_keep_4 : decode cX7_keep 4 = .ok (.ifCond .eq 8, 3) := by decide +kernel
theorem dX7_keep_7 : decode cX7_keep 7 = .ok (.aload_n 0, 1) := by decide +kernel
theorem dX7_keep_8 : decode cX7_keep 8 = .ok (.invokevirtual 105, 3) := by decide +kernel
theorem dX7_keep_11 : decode cX7_keep 11 = .ok (.ireturn, 1) := by decide +kernel
theorem dX7_keep_12 : decode cX7_keep 12 = .ok (.aload_n 1, 1) := by decide +kernel
theorem dX7_keep_13 : decode cX7_keep 13 = .ok (.iload_n 2, 1) := by decide +kernel
theorem dX7_keep_14 : decode cX7_keep 14 = .ok (.iload_n 3, 1) := by decide +kernel
theorem dX7_keep_15 : decode cX7_keep 15 = .ok (.iload 4, 2) := by decide +kernel
theorem dX7_keep_17 : decode cX7_keep 17 = .ok (.iload 5, 2) := by decide +kernel
theorem dX7_keep_19 : decode cX7_keep 19 = .ok (.invokevirtual 108, 3) := by decide +kernel
theorem dX7_keep_22 : decode cX7_keep 22 = .ok (.aload_n 1, 1) := by decide +kernel
theorem dX7_keep_23 : decode cX7_keep 23 = .ok (.getfield 72, 3) := by decide +kernel
theorem dX7_keep_26 : decode cX7_keep 26 = .ok (.ireturn, 1) := by decide +kernel
theorem dX7_howMany_0 : decode cX7_howMany 0 = .ok (.iload_n 1, 1) := by decide +kernel
theorem dX7_howMany_1 : decode cX7_howMany 1 = .ok (.tableswitch 90 0 4 #[35, 46, 57, 68, 79], 35) := by decide +kernel
theorem dX7_howMany_36 : decode cX7_howMany 36 = .ok (.aload_n 0, 1) := by decide +kernel
theorem dX7_howMany_37 : decode cX7_howMany 37 = .ok (.getfield 10, 3) := by decide +kernel
theorem dX7_howMany_40 : decode cX7_howMany 40 = .ok (.getfield 68, 3) := by decide +kernel
theorem dX7_howMany_43 : decode cX7_howMany 43 = .ok (.getfield 72, 3) := by decide +kernel
theorem dX7_howMany_46 : decode cX7_howMany 46 = .ok (.ireturn, 1) := by decide +kernel
theorem dX7_howMany_47 : decode cX7_howMany 47 = .ok (.aload_n 0, 1) := by decide +kernel
theorem dX7_howMany_48 : decode cX7_howMany 48 = .ok (.getfield 10, 3) := by decide +kernel
theorem dX7_howMany_51 : decode cX7_howMany 51 = .ok (.getfield 185, 3) := by decide +kernel
theorem dX7_howMany_54 : decode cX7_howMany 54 = .ok (.getfield 72, 3) := by decide +kernel
theorem dX7_howMany_57 : decode cX7_howMany 57 = .ok (.ireturn, 1) := by decide +kernel
theorem dX7_howMany_58 : decode cX7_howMany 58 = .ok (.aload_n 0, 1) := by decide +kernel
theorem dX7_howMany_59 : decode cX7_howMany 59 = .ok (.getfield 10, 3) := by decide +kernel
theorem dX7_howMany_62 : decode cX7_howMany 62 = .ok (.getfield 204, 3) := by decide +kernel
theorem dX7_howMany_65 : decode cX7_howMany 65 = .ok (.getfield 72, 3) := by decide +kernel
theorem dX7_howMany_68 : decode cX7_howMany 68 = .ok (.ireturn, 1) := by decide +kernel
theorem dX7_howMany_69 : decode cX7_howMany 69 = .ok (.aload_n 0, 1) := by decide +kernel
theorem dX7_howMany_70 : decode cX7_howMany 70 = .ok (.getfield 10, 3) := by decide +kernel
theorem dX7_howMany_73 : decode cX7_howMany 73 = .ok (.getfield 207, 3) := by decide +kernel
theorem dX7_howMany_76 : decode cX7_howMany 76 = .ok (.getfield 72, 3) := by decide +kernel
theorem dX7_howMany_79 : decode cX7_howMany 79 = .ok (.ireturn, 1) := by decide +kernel
theorem dX7_howMany_80 : decode cX7_howMany 80 = .ok (.aload_n 0, 1) := by decide +kernel
theorem dX7_howMany_81 : decode cX7_howMany 81 = .ok (.getfield 10, 3) := by decide +kernel
theorem dX7_howMany_84 : decode cX7_howMany 84 = .ok (.getfield 95, 3) := by decide +kernel
theorem dX7_howMany_87 : decode cX7_howMany 87 = .ok (.getfield 72, 3) := by decide +kernel
theorem dX7_howMany_90 : decode cX7_howMany 90 = .ok (.ireturn, 1) := by decide +kernel
theorem dX7_howMany_91 : decode cX7_howMany 91 = .ok (.aload_n 0, 1) := by decide +kernel
theorem dX7_howMany_92 : decode cX7_howMany 92 = .ok (.getfield 28, 3) := by decide +kernel
theorem dX7_howMany_95 : decode cX7_howMany 95 = .ok (.getfield 114, 3) := by decide +kernel
theorem dX7_howMany_98 : decode cX7_howMany 98 = .ok (.ireturn, 1) := by decide +kernel
theorem dX7_setFraction_0 : decode cX7_setFraction 0 = .ok (.iconst 1, 1) := by decide +kernel
theorem dX7_setFraction_1 : decode cX7_setFraction 1 = .ok (.istore_n 2, 1) := by decide +kernel
theorem dX7_setFraction_2 : decode cX7_setFraction 2 = .ok (.iconst 2, 1) := by decide +kernel
theorem dX7_setFraction_3 : decode cX7_setFraction 3 = .ok (.istore_n 3, 1) := by decide +kernel
theorem dX7_setFraction_4 : decode cX7_setFraction 4 = .ok (.iload_n 3, 1) := by decide +kernel
theorem dX7_setFraction_5 : decode cX7_setFraction 5 = .ok (.bipush 10, 2) := by decide +kernel
theorem dX7_setFraction_7 : decode cX7_setFraction 7 = .ok (.if_icmp .gt 24, 3) := by decide +kernel
theorem dX7_setFraction_10 : decode cX7_setFraction 10 = .ok (.iload_n 1, 1) := by decide +kernel
theorem dX7_setFraction_11 : decode cX7_setFraction 11 = .ok (.iload_n 3, 1) := by decide +kernel
theorem dX7_setFraction_12 : decode cX7_setFraction 12 = .ok (.irem, 1) := by decide +kernel
theorem dX7_setFraction_13 : decode cX7_setFraction 13 = .ok (.ifCond .ne 12, 3) := by decide +kernel
theorem dX7_setFraction_16 : decode cX7_setFraction 16 = .ok (.bipush 10, 2) := by decide +kernel
theorem dX7_setFraction_18 : decode cX7_setFraction 18 = .ok (.iload_n 3, 1) := by decide +kernel
theorem dX7_setFraction_19 : decode cX7_setFraction 19 = .ok (.irem, 1) := by decide +kernel
theorem dX7_setFraction_20 : decode cX7_setFraction 20 = .ok (.ifCond .ne 5, 3) := by decide +kernel
theorem dX7_setFraction_23 : decode cX7_setFraction 23 = .ok (.iload_n 3, 1) := by decide +kernel
theorem dX7_setFraction_24 : decode cX7_setFraction 24 = .ok (.istore_n 2, 1) := by decide +kernel
theorem dX7_setFraction_25 : decode cX7_setFraction 25 = .ok (.iinc 3 1, 3) := by decide +kernel
theorem dX7_setFraction_28 : decode cX7_setFraction 28 = .ok (.goto (-24), 3) := by decide +kernel
theorem dX7_setFraction_31 : decode cX7_setFraction 31 = .ok (.aload_n 0, 1) := by decide +kernel
theorem dX7_setFraction_32 : decode cX7_setFraction 32 = .ok (.iload_n 1, 1) := by decide +kernel
theorem dX7_setFraction_33 : decode cX7_setFraction 33 = .ok (.iload_n 2, 1) := by decide +kernel
theorem dX7_setFraction_34 : decode cX7_setFraction 34 = .ok (.idiv, 1) := by decide +kernel
theorem dX7_setFraction_35 : decode cX7_setFraction 35 = .ok (.i2l, 1) := by decide +kernel
theorem dX7_setFraction_36 : decode cX7_setFraction 36 = .ok (.putfield 53, 3) := by decide +kernel
theorem dX7_setFraction_39 : decode cX7_setFraction 39 = .ok (.aload_n 0, 1) := by decide +kernel
theorem dX7_setFraction_40 : decode cX7_setFraction 40 = .ok (.bipush 10, 2) := by decide +kernel
theorem dX7_setFraction_42 : decode cX7_setFraction 42 = .ok (.iload_n 2, 1) := by decide +kernel
theorem dX7_setFraction_43 : decode cX7_setFraction 43 = .ok (.idiv, 1) := by decide +kernel
theorem dX7_setFraction_44 : decode cX7_setFraction 44 = .ok (.i2l, 1) := by decide +kernel
theorem dX7_setFraction_45 : decode cX7_setFraction 45 = .ok (.putfield 57, 3) := by decide +kernel
theorem dX7_setFraction_48 : decode cX7_setFraction 48 = .ok (.return_, 1) := by decide +kernel
