theorem d_R_init_0 : decode prog_3_method_1_code 0 = .ok (.aload_n 0, 1) := by decide +kernel
theorem d_R_init_1 : decode prog_3_method_1_code 1 = .ok (.invokespecial 3, 3) := by decide +kernel
theorem d_R_init_4 : decode prog_3_method_1_code 4 = .ok (.aload_n 0, 1) := by decide +kernel
theorem d_R_init_5 : decode prog_3_method_1_code 5 = .ok (.iconst 0, 1) := by decide +kernel
theorem d_R_init_6 : decode prog_3_method_1_code 6 = .ok (.putfield 9, 3) := by decide +kernel
theorem d_R_init_9 : decode prog_3_method_1_code 9 = .ok (.iconst 0, 1) := by decide +kernel
theorem d_R_init_10 : decode prog_3_method_1_code 10 = .ok (.iload_n 1, 1) := by decide +kernel
theorem d_R_init_11 : decode prog_3_method_1_code 11 = .ok (.invokestatic 15, 3) := by decide +kernel
theorem d_R_init_14 : decode prog_3_method_1_code 14 = .ok (.istore_n 2, 1) := by decide +kernel
theorem d_R_init_15 : decode prog_3_method_1_code 15 = .ok (.aload_n 0, 1) := by decide +kernel
theorem d_R_init_16 : decode prog_3_method_1_code 16 = .ok (.iload_n 2, 1) := by decide +kernel
theorem d_R_init_17 : decode prog_3_method_1_code 17 = .ok (.newarray .int, 2) := by decide +kernel
theorem d_R_init_19 : decode prog_3_method_1_code 19 = .ok (.putfield 21, 3) := by decide +kernel
theorem d_R_init_22 : decode prog_3_method_1_code 22 = .ok (.aload_n 0, 1) := by decide +kernel
theorem d_R_init_23 : decode prog_3_method_1_code 23 = .ok (.iload_n 2, 1) := by decide +kernel
theorem d_R_init_24 : decode prog_3_method_1_code 24 = .ok (.newarray .int, 2) := by decide +kernel
theorem d_R_init_26 : decode prog_3_method_1_code 26 = .ok (.putfield 25, 3) := by decide +kernel
theorem d_R_init_29 : decode prog_3_method_1_code 29 = .ok (.aload_n 0, 1) := by decide +kernel
theorem d_R_init_30 : decode prog_3_method_1_code 30 = .ok (.iload_n 2, 1) := by decide +kernel
theorem d_R_init_31 : decode prog_3_method_1_code 31 = .ok (.newarray .int, 2) := by decide +kernel
theorem d_R_init_33 : decode prog_3_method_1_code 33 = .ok (.putfield 28, 3) := by decide +kernel
theorem d_R_init_36 : decode prog_3_method_1_code 36 = .ok (.aload_n 0, 1) := by decide +kernel
theorem d_R_init_37 : decode prog_3_method_1_code 37 = .ok (.iload_n 2, 1) := by decide +kernel
theorem d_R_init_38 : decode prog_3_method_1_code 38 = .ok (.newarray .int, 2) := by decide +kernel
theorem d_R_init_40 : decode prog_3_method_1_code 40 = .ok (.putfield 31, 3) := by decide +kernel
theorem d_R_init_43 : decode prog_3_method_1_code 43 = .ok (.return_, 1) := by decide +kernel
theorem d_R_has_0 : decode prog_3_method_2_code 0 = .ok (.iload_n 1, 1) := by decide +kernel
theorem d_R_has_1 : decode prog_3_method_2_code 1 = .ok (.ifCond .lt 15, 3) := by decide +kernel
theorem d_R_has_4 : decode prog_3_method_2_code 4 = .ok (.iload_n 1, 1) := by decide +kernel
theorem d_R_has_5 : decode prog_3_method_2_code 5 = .ok (.aload_n 0, 1) := by decide +kernel
theorem d_R_has_6 : decode prog_3_method_2_code 6 = .ok (.getfield 9, 3) := by decide +kernel
theorem d_R_has_9 : decode prog_3_method_2_code 9 = .ok (.if_icmp .ge 7, 3) := by decide +kernel
theorem d_R_has_12 : decode prog_3_method_2_code 12 = .ok (.iconst 1, 1) := by decide +kernel
theorem d_R_has_13 : decode prog_3_method_2_code 13 = .ok (.goto 4, 3) := by decide +kernel
theorem d_R_has_16 : decode prog_3_method_2_code 16 = .ok (.iconst 0, 1) := by decide +kernel
theorem d_R_has_17 : decode prog_3_method_2_code 17 = .ok (.ireturn, 1) := by decide +kernel
theorem d_R_add_0 : decode prog_3_method_3_code 0 = .ok (.aload_n 0, 1) := by decide +kernel
theorem d_R_add_1 : decode prog_3_method_3_code 1 = .ok (.getfield 9, 3) := by decide +kernel
theorem d_R_add_4 : decode prog_3_method_3_code 4 = .ok (.aload_n 0, 1) := by decide +kernel
theorem d_R_add_5 : decode prog_3_method_3_code 5 = .ok (.getfield 21, 3) := by decide +kernel
theorem d_R_add_8 : decode prog_3_method_3_code 8 = .ok (.arraylength, 1) := by decide +kernel
theorem d_R_add_9 : decode prog_3_method_3_code 9 = .ok (.if_icmp .lt 6, 3) := by decide +kernel
theorem d_R_add_12 : decode prog_3_method_3_code 12 = .ok (.bipush (-14), 2) := by decide +kernel
theorem d_R_add_14 : decode prog_3_method_3_code 14 = .ok (.ireturn, 1) := by decide +kernel
theorem d_R_add_15 : decode prog_3_method_3_code 15 = .ok (.aload_n 0, 1) := by decide +kernel
theorem d_R_add_16 : decode prog_3_method_3_code 16 = .ok (.getfield 9, 3) := by decide +kernel
theorem d_R_add_19 : decode prog_3_method_3_code 19 = .ok (.istore 5, 2) := by decide +kernel
theorem d_R_add_21 : decode prog_3_method_3_code 21 = .ok (.aload_n 0, 1) := by decide +kernel
theorem d_R_add_22 : decode prog_3_method_3_code 22 = .ok (.getfield 21, 3) := by decide +kernel
theorem d_R_add_25 : decode prog_3_method_3_code 25 = .ok (.iload 5, 2) := by decide +kernel
theorem d_R_add_27 : decode prog_3_method_3_code 27 = .ok (.iload_n 1, 1) := by decide +kernel
theorem d_R_add_28 : decode prog_3_method_3_code 28 = .ok (.iastore, 1) := by decide +kernel
theorem d_R_add_29 : decode prog_3_method_3_code 29 = .ok (.aload_n 0, 1) := by decide +kernel
theorem d_R_add_30 : decode prog_3_method_3_code 30 = .ok (.getfield 25, 3) := by decide +kernel
theorem d_R_add_33 : decode prog_3_method_3_code 33 = .ok (.iload 5, 2) := by decide +kernel
theorem d_R_add_35 : decode prog_3_method_3_code 35 = .ok (.iload_n 2, 1) := by decide +kernel
theorem d_R_add_36 : decode prog_3_method_3_code 36 = .ok (.iastore, 1) := by decide +kernel
theorem d_R_add_37 : decode prog_3_method_3_code 37 = .ok (.aload_n 0, 1) := by decide +kernel
theorem d_R_add_38 : decode prog_3_method_3_code 38 = .ok (.getfield 28, 3) := by decide +kernel
theorem d_R_add_41 : decode prog_3_method_3_code 41 = .ok (.iload 5, 2) := by decide +kernel
theorem d_R_add_43 : decode prog_3_method_3_code 43 = .ok (.iload_n 3, 1) := by decide +kernel
theorem d_R_add_44 : decode prog_3_method_3_code 44 = .ok (.iastore, 1) := by decide +kernel
theorem d_R_add_45 : decode prog_3_method_3_code 45 = .ok (.aload_n 0, 1) := by decide +kernel
theorem d_R_add_46 : decode prog_3_method_3_code 46 = .ok (.getfield 31, 3) := by decide +kernel
theorem d_R_add_49 : decode prog_3_method_3_code 49 = .ok (.iload 5, 2) := by decide +kernel
theorem d_R_add_51 : decode prog_3_method_3_code 51 = .ok (.iload 4, 2) := by decide +kernel
theorem d_R_add_53 : decode prog_3_method_3_code 53 = .ok (.iastore, 1) := by decide +kernel
theorem d_R_add_54 : decode prog_3_method_3_code 54 = .ok (.aload_n 0, 1) := by decide +kernel
theorem d_R_add_55 : decode prog_3_method_3_code 55 = .ok (.dup, 1) := by decide +kernel
theorem d_R_add_56 : decode prog_3_method_3_code 56 = .ok (.getfield 9, 3) := by decide +kernel
theorem d_R_add_59 : decode prog_3_method_3_code 59 = .ok (.iconst 1, 1) := by decide +kernel
theorem d_R_add_60 : decode prog_3_method_3_code 60 = .ok (.iadd, 1) := by decide +kernel
theorem d_R_add_61 : decode prog_3_method_3_code 61 = .ok (.putfield 9, 3) := by decide +kernel
theorem d_R_add_64 : decode prog_3_method_3_code 64 = .ok (.iload 5, 2) := by decide +kernel
theorem d_R_add_66 : decode prog_3_method_3_code 66 = .ok (.ireturn, 1) := by decide +kernel
theorem d_R_stretchOver_0 : decode prog_3_method_4_code 0 = .ok (.aload_n 0, 1) := by decide +kernel
theorem d_R_stretchOver_1 : decode prog_3_method_4_code 1 = .ok (.getfield 21, 3) := by decide +kernel
theorem d_R_stretchOver_4 : decode prog_3_method_4_code 4 = .ok (.iload_n 1, 1) := by decide +kernel
theorem d_R_stretchOver_5 : decode prog_3_method_4_code 5 = .ok (.aload_n 0, 1) := by decide +kernel
theorem d_R_stretchOver_6 : decode prog_3_method_4_code 6 = .ok (.getfield 21, 3) := by decide +kernel
theorem d_R_stretchOver_9 : decode prog_3_method_4_code 9 = .ok (.iload_n 1, 1) := by decide +kernel
theorem d_R_stretchOver_10 : decode prog_3_method_4_code 10 = .ok (.iaload, 1) := by decide +kernel
theorem d_R_stretchOver_11 : decode prog_3_method_4_code 11 = .ok (.aload_n 2, 1) := by decide +kernel
theorem d_R_stretchOver_12 : decode prog_3_method_4_code 12 = .ok (.getfield 21, 3) := by decide +kernel
theorem d_R_stretchOver_15 : decode prog_3_method_4_code 15 = .ok (.iload_n 3, 1) := by decide +kernel
theorem d_R_stretchOver_16 : decode prog_3_method_4_code 16 = .ok (.iaload, 1) := by decide +kernel
theorem d_R_stretchOver_17 : decode prog_3_method_4_code 17 = .ok (.invokestatic 34, 3) := by decide +kernel
theorem d_R_stretchOver_20 : decode prog_3_method_4_code 20 = .ok (.iastore, 1) := by decide +kernel
theorem d_R_stretchOver_21 : decode prog_3_method_4_code 21 = .ok (.aload_n 0, 1) := by decide +kernel
theorem d_R_stretchOver_22 : decode prog_3_method_4_code 22 = .ok (.getfield 25, 3) := by decide +kernel
theorem d_R_stretchOver_25 : decode prog_3_method_4_code 25 = .ok (.iload_n 1, 1) := by decide +kernel
theorem d_R_stretchOver_26 : decode prog_3_method_4_code 26 = .ok (.aload_n 0, 1) := by decide +kernel
theorem d_R_stretchOver_27 : decode prog_3_method_4_code 27 = .ok (.getfield 25, 3) := by decide +kernel
theorem d_R_stretchOver_30 : decode prog_3_method_4_code 30 = .ok (.iload_n 1, 1) := by decide +kernel
theorem d_R_stretchOver_31 : decode prog_3_method_4_code 31 = .ok (.iaload, 1) := by decide +kernel
theorem d_R_stretchOver_32 : decode prog_3_method_4_code 32 = .ok (.aload_n 2, 1) := by decide +kernel
theorem d_R_stretchOver_33 : decode prog_3_method_4_code 33 = .ok (.getfield 25, 3) := by decide +kernel
theorem d_R_stretchOver_36 : decode prog_3_method_4_code 36 = .ok (.iload_n 3, 1) := by decide +kernel
theorem d_R_stretchOver_37 : decode prog_3_method_4_code 37 = .ok (.iaload, 1) := by decide +kernel
theorem d_R_stretchOver_38 : decode prog_3_method_4_code 38 = .ok (.invokestatic 34, 3) := by decide +kernel
theorem d_R_stretchOver_41 : decode prog_3_method_4_code 41 = .ok (.iastore, 1) := by decide +kernel
theorem d_R_stretchOver_42 : decode prog_3_method_4_code 42 = .ok (.aload_n 0, 1) := by decide +kernel
theorem d_R_stretchOver_43 : decode prog_3_method_4_code 43 = .ok (.getfield 28, 3) := by decide +kernel
theorem d_R_stretchOver_46 : decode prog_3_method_4_code 46 = .ok (.iload_n 1, 1) := by decide +kernel
theorem d_R_stretchOver_47 : decode prog_3_method_4_code 47 = .ok (.aload_n 0, 1) := by decide +kernel
theorem d_R_stretchOver_48 : decode prog_3_method_4_code 48 = .ok (.getfield 28, 3) := by decide +kernel
theorem d_R_stretchOver_51 : decode prog_3_method_4_code 51 = .ok (.iload_n 1, 1) := by decide +kernel
theorem d_R_stretchOver_52 : decode prog_3_method_4_code 52 = .ok (.iaload, 1) := by decide +kernel
theorem d_R_stretchOver_53 : decode prog_3_method_4_code 53 = .ok (.aload_n 2, 1) := by decide +kernel
theorem d_R_stretchOver_54 : decode prog_3_method_4_code 54 = .ok (.getfield 28, 3) := by decide +kernel
theorem d_R_stretchOver_57 : decode prog_3_method_4_code 57 = .ok (.iload_n 3, 1) := by decide +kernel
theorem d_R_stretchOver_58 : decode prog_3_method_4_code 58 = .ok (.iaload, 1) := by decide +kernel
theorem d_R_stretchOver_59 : decode prog_3_method_4_code 59 = .ok (.invokestatic 15, 3) := by decide +kernel
theorem d_R_stretchOver_62 : decode prog_3_method_4_code 62 = .ok (.iastore, 1) := by decide +kernel
theorem d_R_stretchOver_63 : decode prog_3_method_4_code 63 = .ok (.aload_n 0, 1) := by decide +kernel
theorem d_R_stretchOver_64 : decode prog_3_method_4_code 64 = .ok (.getfield 31, 3) := by decide +kernel
theorem d_R_stretchOver_67 : decode prog_3_method_4_code 67 = .ok (.iload_n 1, 1) := by decide +kernel
theorem d_R_stretchOver_68 : decode prog_3_method_4_code 68 = .ok (.aload_n 0, 1) := by decide +kernel
theorem d_R_stretchOver_69 : decode prog_3_method_4_code 69 = .ok (.getfield 31, 3) := by decide +kernel
theorem d_R_stretchOver_72 : decode prog_3_method_4_code 72 = .ok (.iload_n 1, 1) := by decide +kernel
theorem d_R_stretchOver_73 : decode prog_3_method_4_code 73 = .ok (.iaload, 1) := by decide +kernel
theorem d_R_stretchOver_74 : decode prog_3_method_4_code 74 = .ok (.aload_n 2, 1) := by decide +kernel
theorem d_R_stretchOver_75 : decode prog_3_method_4_code 75 = .ok (.getfield 31, 3) := by decide +kernel
theorem d_R_stretchOver_78 : decode prog_3_method_4_code 78 = .ok (.iload_n 3, 1) := by decide +kernel
theorem d_R_stretchOver_79 : decode prog_3_method_4_code 79 = .ok (.iaload, 1) := by decide +kernel
theorem d_R_stretchOver_80 : decode prog_3_method_4_code 80 = .ok (.invokestatic 15, 3) := by decide +kernel
theorem d_R_stretchOver_83 : decode prog_3_method_4_code 83 = .ok (.iastore, 1) := by decide +kernel
theorem d_R_stretchOver_84 : decode prog_3_method_4_code 84 = .ok (.return_, 1) := by decide +kernel
theorem d_R_encloses_0 : decode prog_3_method_5_code 0 = .ok (.aload_n 0, 1) := by decide +kernel
theorem d_R_encloses_1 : decode prog_3_method_5_code 1 = .ok (.getfield 21, 3) := by decide +kernel
theorem d_R_encloses_4 : decode prog_3_method_5_code 4 = .ok (.iload_n 1, 1) := by decide +kernel
theorem d_R_encloses_5 : decode prog_3_method_5_code 5 = .ok (.iaload, 1) := by decide +kernel
theorem d_R_encloses_6 : decode prog_3_method_5_code 6 = .ok (.aload_n 2, 1) := by decide +kernel
theorem d_R_encloses_7 : decode prog_3_method_5_code 7 = .ok (.getfield 21, 3) := by decide +kernel
theorem d_R_encloses_10 : decode prog_3_method_5_code 10 = .ok (.iload_n 3, 1) := by decide +kernel
theorem d_R_encloses_11 : decode prog_3_method_5_code 11 = .ok (.iaload, 1) := by decide +kernel
theorem d_R_encloses_12 : decode prog_3_method_5_code 12 = .ok (.if_icmp .gt 52, 3) := by decide +kernel
theorem d_R_encloses_15 : decode prog_3_method_5_code 15 = .ok (.aload_n 0, 1) := by decide +kernel
theorem d_R_encloses_16 : decode prog_3_method_5_code 16 = .ok (.getfield 28, 3) := by decide +kernel
theorem d_R_encloses_19 : decode prog_3_method_5_code 19 = .ok (.iload_n 1, 1) := by decide +kernel
theorem d_R_encloses_20 : decode prog_3_method_5_code 20 = .ok (.iaload, 1) := by decide +kernel
theorem d_R_encloses_21 : decode prog_3_method_5_code 21 = .ok (.aload_n 2, 1) := by decide +kernel
theorem d_R_encloses_22 : decode prog_3_method_5_code 22 = .ok (.getfield 28, 3) := by decide +kernel
theorem d_R_encloses_25 : decode prog_3_method_5_code 25 = .ok (.iload_n 3, 1) := by decide +kernel
theorem d_R_encloses_26 : decode prog_3_method_5_code 26 = .ok (.iaload, 1) := by decide +kernel
theorem d_R_encloses_27 : decode prog_3_method_5_code 27 = .ok (.if_icmp .lt 37, 3) := by decide +kernel
theorem d_R_encloses_30 : decode prog_3_method_5_code 30 = .ok (.aload_n 0, 1) := by decide +kernel
theorem d_R_encloses_31 : decode prog_3_method_5_code 31 = .ok (.getfield 25, 3) := by decide +kernel
theorem d_R_encloses_34 : decode prog_3_method_5_code 34 = .ok (.iload_n 1, 1) := by decide +kernel
theorem d_R_encloses_35 : decode prog_3_method_5_code 35 = .ok (.iaload, 1) := by decide +kernel
theorem d_R_encloses_36 : decode prog_3_method_5_code 36 = .ok (.aload_n 2, 1) := by decide +kernel
theorem d_R_encloses_37 : decode prog_3_method_5_code 37 = .ok (.getfield 25, 3) := by decide +kernel
theorem d_R_encloses_40 : decode prog_3_method_5_code 40 = .ok (.iload_n 3, 1) := by decide +kernel
theorem d_R_encloses_41 : decode prog_3_method_5_code 41 = .ok (.iaload, 1) := by decide +kernel
theorem d_R_encloses_42 : decode prog_3_method_5_code 42 = .ok (.if_icmp .gt 22, 3) := by decide +kernel
theorem d_R_encloses_45 : decode prog_3_method_5_code 45 = .ok (.aload_n 0, 1) := by decide +kernel
theorem d_R_encloses_46 : decode prog_3_method_5_code 46 = .ok (.getfield 31, 3) := by decide +kernel
theorem d_R_encloses_49 : decode prog_3_method_5_code 49 = .ok (.iload_n 1, 1) := by decide +kernel
theorem d_R_encloses_50 : decode prog_3_method_5_code 50 = .ok (.iaload, 1) := by decide +kernel
theorem d_R_encloses_51 : decode prog_3_method_5_code 51 = .ok (.aload_n 2, 1) := by decide +kernel
theorem d_R_encloses_52 : decode prog_3_method_5_code 52 = .ok (.getfield 31, 3) := by decide +kernel
theorem d_R_encloses_55 : decode prog_3_method_5_code 55 = .ok (.iload_n 3, 1) := by decide +kernel
theorem d_R_encloses_56 : decode prog_3_method_5_code 56 = .ok (.iaload, 1) := by decide +kernel
theorem d_R_encloses_57 : decode prog_3_method_5_code 57 = .ok (.if_icmp .lt 7, 3) := by decide +kernel
theorem d_R_encloses_60 : decode prog_3_method_5_code 60 = .ok (.iconst 1, 1) := by decide +kernel
theorem d_R_encloses_61 : decode prog_3_method_5_code 61 = .ok (.goto 4, 3) := by decide +kernel
theorem d_R_encloses_64 : decode prog_3_method_5_code 64 = .ok (.iconst 0, 1) := by decide +kernel
theorem d_R_encloses_65 : decode prog_3_method_5_code 65 = .ok (.ireturn, 1) := by decide +kernel
theorem d_R_area_0 : decode prog_3_method_6_code 0 = .ok (.aload_n 0, 1) := by decide +kernel
theorem d_R_area_1 : decode prog_3_method_6_code 1 = .ok (.getfield 28, 3) := by decide +kernel
theorem d_R_area_4 : decode prog_3_method_6_code 4 = .ok (.iload_n 1, 1) := by decide +kernel
theorem d_R_area_5 : decode prog_3_method_6_code 5 = .ok (.iaload, 1) := by decide +kernel
theorem d_R_area_6 : decode prog_3_method_6_code 6 = .ok (.aload_n 0, 1) := by decide +kernel
theorem d_R_area_7 : decode prog_3_method_6_code 7 = .ok (.getfield 21, 3) := by decide +kernel
theorem d_R_area_10 : decode prog_3_method_6_code 10 = .ok (.iload_n 1, 1) := by decide +kernel
theorem d_R_area_11 : decode prog_3_method_6_code 11 = .ok (.iaload, 1) := by decide +kernel
theorem d_R_area_12 : decode prog_3_method_6_code 12 = .ok (.isub, 1) := by decide +kernel
theorem d_R_area_13 : decode prog_3_method_6_code 13 = .ok (.aload_n 0, 1) := by decide +kernel
theorem d_R_area_14 : decode prog_3_method_6_code 14 = .ok (.getfield 31, 3) := by decide +kernel
theorem d_R_area_17 : decode prog_3_method_6_code 17 = .ok (.iload_n 1, 1) := by decide +kernel
theorem d_R_area_18 : decode prog_3_method_6_code 18 = .ok (.iaload, 1) := by decide +kernel
theorem d_R_area_19 : decode prog_3_method_6_code 19 = .ok (.aload_n 0, 1) := by decide +kernel
theorem d_R_area_20 : decode prog_3_method_6_code 20 = .ok (.getfield 25, 3) := by decide +kernel
theorem d_R_area_23 : decode prog_3_method_6_code 23 = .ok (.iload_n 1, 1) := by decide +kernel
theorem d_R_area_24 : decode prog_3_method_6_code 24 = .ok (.iaload, 1) := by decide +kernel
theorem d_R_area_25 : decode prog_3_method_6_code 25 = .ok (.isub, 1) := by decide +kernel
theorem d_R_area_26 : decode prog_3_method_6_code 26 = .ok (.imul, 1) := by decide +kernel
theorem d_R_area_27 : decode prog_3_method_6_code 27 = .ok (.ireturn, 1) := by decide +kernel
theorem d_R_side_0 : decode prog_3_method_7_code 0 = .ok (.iload_n 2, 1) := by decide +kernel
theorem d_R_side_1 : decode prog_3_method_7_code 1 = .ok (.tableswitch 55 0 2 #[27, 34, 41], 27) := by decide +kernel
theorem d_R_side_28 : decode prog_3_method_7_code 28 = .ok (.aload_n 0, 1) := by decide +kernel
theorem d_R_side_29 : decode prog_3_method_7_code 29 = .ok (.getfield 21, 3) := by decide +kernel
theorem d_R_side_32 : decode prog_3_method_7_code 32 = .ok (.iload_n 1, 1) := by decide +kernel
theorem d_R_side_33 : decode prog_3_method_7_code 33 = .ok (.iaload, 1) := by decide +kernel
theorem d_R_side_34 : decode prog_3_method_7_code 34 = .ok (.ireturn, 1) := by decide +kernel
theorem d_R_side_35 : decode prog_3_method_7_code 35 = .ok (.aload_n 0, 1) := by decide +kernel
theorem d_R_side_36 : decode prog_3_method_7_code 36 = .ok (.getfield 25, 3) := by decide +kernel
theorem d_R_side_39 : decode prog_3_method_7_code 39 = .ok (.iload_n 1, 1) := by decide +kernel
theorem d_R_side_40 : decode prog_3_method_7_code 40 = .ok (.iaload, 1) := by decide +kernel
theorem d_R_side_41 : decode prog_3_method_7_code 41 = .ok (.ireturn, 1) := by decide +kernel
theorem d_R_side_42 : decode prog_3_method_7_code 42 = .ok (.aload_n 0, 1) := by decide +kernel
theorem d_R_side_43 : decode prog_3_method_7_code 43 = .ok (.getfield 28, 3) := by decide +kernel
theorem d_R_side_46 : decode prog_3_method_7_code 46 = .ok (.iload_n 1, 1) := by decide +kernel
theorem d_R_side_47 : decode prog_3_method_7_code 47 = .ok (.iaload, 1) := by decide +kernel
theorem d_R_side_48 : decode prog_3_method_7_code 48 = .ok (.aload_n 0, 1) := by decide +kernel
theorem d_R_side_49 : decode prog_3_method_7_code 49 = .ok (.getfield 21, 3) := by decide +kernel
theorem d_R_side_52 : decode prog_3_method_7_code 52 = .ok (.iload_n 1, 1) := by decide +kernel
theorem d_R_side_53 : decode prog_3_method_7_code 53 = .ok (.iaload, 1) := by decide +kernel
theorem d_R_side_54 : decode prog_3_method_7_code 54 = .ok (.isub, 1) := by decide +kernel
theorem d_R_side_55 : decode prog_3_method_7_code 55 = .ok (.ireturn, 1) := by decide +kernel
theorem d_R_side_56 : decode prog_3_method_7_code 56 = .ok (.aload_n 0, 1) := by decide +kernel
theorem d_R_side_57 : decode prog_3_method_7_code 57 = .ok (.getfield 31, 3) := by decide +kernel
theorem d_R_side_60 : decode prog_3_method_7_code 60 = .ok (.iload_n 1, 1) := by decide +kernel
theorem d_R_side_61 : decode prog_3_method_7_code 61 = .ok (.iaload, 1) := by decide +kernel
theorem d_R_side_62 : decode prog_3_method_7_code 62 = .ok (.aload_n 0, 1) := by decide +kernel
theorem d_R_side_63 : decode prog_3_method_7_code 63 = .ok (.getfield 25, 3) := by decide +kernel
theorem d_R_side_66 : decode prog_3_method_7_code 66 = .ok (.iload_n 1, 1) := by decide +kernel
theorem d_R_side_67 : decode prog_3_method_7_code 67 = .ok (.iaload, 1) := by decide +kernel
theorem d_R_side_68 : decode prog_3_method_7_code 68 = .ok (.isub, 1) := by decide +kernel
theorem d_R_side_69 : decode prog_3_method_7_code 69 = .ok (.ireturn, 1) := by decide +kernel
theorem d_R_leftEnd_0 : decode prog_3_method_8_code 0 = .ok (.iload_n 2, 1) := by decide +kernel
theorem d_R_leftEnd_1 : decode prog_3_method_8_code 1 = .ok (.ifCond .eq 12, 3) := by decide +kernel
theorem d_R_leftEnd_4 : decode prog_3_method_8_code 4 = .ok (.aload_n 0, 1) := by decide +kernel
theorem d_R_leftEnd_5 : decode prog_3_method_8_code 5 = .ok (.getfield 25, 3) := by decide +kernel
theorem d_R_leftEnd_8 : decode prog_3_method_8_code 8 = .ok (.iload_n 1, 1) := by decide +kernel
theorem d_R_leftEnd_9 : decode prog_3_method_8_code 9 = .ok (.iaload, 1) := by decide +kernel
theorem d_R_leftEnd_10 : decode prog_3_method_8_code 10 = .ok (.goto 9, 3) := by decide +kernel
theorem d_R_leftEnd_13 : decode prog_3_method_8_code 13 = .ok (.aload_n 0, 1) := by decide +kernel
theorem d_R_leftEnd_14 : decode prog_3_method_8_code 14 = .ok (.getfield 21, 3) := by decide +kernel
theorem d_R_leftEnd_17 : decode prog_3_method_8_code 17 = .ok (.iload_n 1, 1) := by decide +kernel
theorem d_R_leftEnd_18 : decode prog_3_method_8_code 18 = .ok (.iaload, 1) := by decide +kernel
theorem d_R_leftEnd_19 : decode prog_3_method_8_code 19 = .ok (.ireturn, 1) := by decide +kernel
theorem d_R_upperEnd_0 : decode prog_3_method_9_code 0 = .ok (.iload_n 2, 1) := by decide +kernel
theorem d_R_upperEnd_1 : decode prog_3_method_9_code 1 = .ok (.ifCond .eq 12, 3) := by decide +kernel
theorem d_R_upperEnd_4 : decode prog_3_method_9_code 4 = .ok (.aload_n 0, 1) := by decide +kernel
theorem d_R_upperEnd_5 : decode prog_3_method_9_code 5 = .ok (.getfield 21, 3) := by decide +kernel
theorem d_R_upperEnd_8 : decode prog_3_method_9_code 8 = .ok (.iload_n 1, 1) := by decide +kernel
theorem d_R_upperEnd_9 : decode prog_3_method_9_code 9 = .ok (.iaload, 1) := by decide +kernel
theorem d_R_upperEnd_10 : decode prog_3_method_9_code 10 = .ok (.goto 9, 3) := by decide +kernel
theorem d_R_upperEnd_13 : decode prog_3_method_9_code 13 = .ok (.aload_n 0, 1) := by decide +kernel
theorem d_R_upperEnd_14 : decode prog_3_method_9_code 14 = .ok (.getfield 25, 3) := by decide +kernel
theorem d_R_upperEnd_17 : decode prog_3_method_9_code 17 = .ok (.iload_n 1, 1) := by decide +kernel
theorem d_R_upperEnd_18 : decode prog_3_method_9_code 18 = .ok (.iaload, 1) := by decide +kernel
theorem d_R_upperEnd_19 : decode prog_3_method_9_code 19 = .ok (.ireturn, 1) := by decide +kernel
theorem d_R_rightEnd_0 : decode prog_3_method_10_code 0 = .ok (.iload_n 2, 1) := by decide +kernel
theorem d_R_rightEnd_1 : decode prog_3_method_10_code 1 = .ok (.ifCond .eq 12, 3) := by decide +kernel
theorem d_R_rightEnd_4 : decode prog_3_method_10_code 4 = .ok (.aload_n 0, 1) := by decide +kernel
theorem d_R_rightEnd_5 : decode prog_3_method_10_code 5 = .ok (.getfield 31, 3) := by decide +kernel
theorem d_R_rightEnd_8 : decode prog_3_method_10_code 8 = .ok (.iload_n 1, 1) := by decide +kernel
theorem d_R_rightEnd_9 : decode prog_3_method_10_code 9 = .ok (.iaload, 1) := by decide +kernel
theorem d_R_rightEnd_10 : decode prog_3_method_10_code 10 = .ok (.goto 9, 3) := by decide +kernel
theorem d_R_rightEnd_13 : decode prog_3_method_10_code 13 = .ok (.aload_n 0, 1) := by decide +kernel
theorem d_R_rightEnd_14 : decode prog_3_method_10_code 14 = .ok (.getfield 28, 3) := by decide +kernel
theorem d_R_rightEnd_17 : decode prog_3_method_10_code 17 = .ok (.iload_n 1, 1) := by decide +kernel
theorem d_R_rightEnd_18 : decode prog_3_method_10_code 18 = .ok (.iaload, 1) := by decide +kernel
theorem d_R_rightEnd_19 : decode prog_3_method_10_code 19 = .ok (.ireturn, 1) := by decide +kernel
theorem d_R_lowerEnd_0 : decode prog_3_method_11_code 0 = .ok (.iload_n 2, 1) := by decide +kernel
theorem d_R_lowerEnd_1 : decode prog_3_method_11_code 1 = .ok (.ifCond .eq 12, 3) := by decide +kernel
theorem d_R_lowerEnd_4 : decode prog_3_method_11_code 4 = .ok (.aload_n 0, 1) := by decide +kernel
theorem d_R_lowerEnd_5 : decode prog_3_method_11_code 5 = .ok (.getfield 28, 3) := by decide +kernel
theorem d_R_lowerEnd_8 : decode prog_3_method_11_code 8 = .ok (.iload_n 1, 1) := by decide +kernel
theorem d_R_lowerEnd_9 : decode prog_3_method_11_code 9 = .ok (.iaload, 1) := by decide +kernel
theorem d_R_lowerEnd_10 : decode prog_3_method_11_code 10 = .ok (.goto 9, 3) := by decide +kernel
theorem d_R_lowerEnd_13 : decode prog_3_method_11_code 13 = .ok (.aload_n 0, 1) := by decide +kernel
theorem d_R_lowerEnd_14 : decode prog_3_method_11_code 14 = .ok (.getfield 31, 3) := by decide +kernel
theorem d_R_lowerEnd_17 : decode prog_3_method_11_code 17 = .ok (.iload_n 1, 1) := by decide +kernel
theorem d_R_lowerEnd_18 : decode prog_3_method_11_code 18 = .ok (.iaload, 1) := by decide +kernel
theorem d_R_lowerEnd_19 : decode prog_3_method_11_code 19 = .ok (.ireturn, 1) := by decide +kernel
theorem d_R_height_0 : decode prog_3_method_12_code 0 = .ok (.aload_n 0, 1) := by decide +kernel
theorem d_R_height_1 : decode prog_3_method_12_code 1 = .ok (.iload_n 1, 1) := by decide +kernel
theorem d_R_height_2 : decode prog_3_method_12_code 2 = .ok (.iload_n 2, 1) := by decide +kernel
theorem d_R_height_3 : decode prog_3_method_12_code 3 = .ok (.invokevirtual 37, 3) := by decide +kernel
theorem d_R_height_6 : decode prog_3_method_12_code 6 = .ok (.aload_n 0, 1) := by decide +kernel
theorem d_R_height_7 : decode prog_3_method_12_code 7 = .ok (.iload_n 1, 1) := by decide +kernel
theorem d_R_height_8 : decode prog_3_method_12_code 8 = .ok (.iload_n 2, 1) := by decide +kernel
theorem d_R_height_9 : decode prog_3_method_12_code 9 = .ok (.invokevirtual 41, 3) := by decide +kernel
theorem d_R_height_12 : decode prog_3_method_12_code 12 = .ok (.isub, 1) := by decide +kernel
theorem d_R_height_13 : decode prog_3_method_12_code 13 = .ok (.ireturn, 1) := by decide +kernel
theorem d_R_areNearAsBoxes_0 : decode prog_3_method_13_code 0 = .ok (.aload_n 0, 1) := by decide +kernel
theorem d_R_areNearAsBoxes_1 : decode prog_3_method_13_code 1 = .ok (.iload_n 1, 1) := by decide +kernel
theorem d_R_areNearAsBoxes_2 : decode prog_3_method_13_code 2 = .ok (.iload_n 3, 1) := by decide +kernel
theorem d_R_areNearAsBoxes_3 : decode prog_3_method_13_code 3 = .ok (.invokevirtual 44, 3) := by decide +kernel
theorem d_R_areNearAsBoxes_6 : decode prog_3_method_13_code 6 = .ok (.aload_n 0, 1) := by decide +kernel
theorem d_R_areNearAsBoxes_7 : decode prog_3_method_13_code 7 = .ok (.iload_n 2, 1) := by decide +kernel
theorem d_R_areNearAsBoxes_8 : decode prog_3_method_13_code 8 = .ok (.iload_n 3, 1) := by decide +kernel
theorem d_R_areNearAsBoxes_9 : decode prog_3_method_13_code 9 = .ok (.invokevirtual 44, 3) := by decide +kernel
theorem d_R_areNearAsBoxes_12 : decode prog_3_method_13_code 12 = .ok (.invokestatic 34, 3) := by decide +kernel
theorem d_R_areNearAsBoxes_15 : decode prog_3_method_13_code 15 = .ok (.istore 4, 2) := by decide +kernel
theorem d_R_areNearAsBoxes_17 : decode prog_3_method_13_code 17 = .ok (.aload_n 0, 1) := by decide +kernel
theorem d_R_areNearAsBoxes_18 : decode prog_3_method_13_code 18 = .ok (.iload_n 1, 1) := by decide +kernel
theorem d_R_areNearAsBoxes_19 : decode prog_3_method_13_code 19 = .ok (.iload_n 3, 1) := by decide +kernel
theorem d_R_areNearAsBoxes_20 : decode prog_3_method_13_code 20 = .ok (.invokevirtual 44, 3) := by decide +kernel
theorem d_R_areNearAsBoxes_23 : decode prog_3_method_13_code 23 = .ok (.aload_n 0, 1) := by decide +kernel
theorem d_R_areNearAsBoxes_24 : decode prog_3_method_13_code 24 = .ok (.iload_n 2, 1) := by decide +kernel
theorem d_R_areNearAsBoxes_25 : decode prog_3_method_13_code 25 = .ok (.iload_n 3, 1) := by decide +kernel
theorem d_R_areNearAsBoxes_26 : decode prog_3_method_13_code 26 = .ok (.invokevirtual 44, 3) := by decide +kernel
theorem d_R_areNearAsBoxes_29 : decode prog_3_method_13_code 29 = .ok (.invokestatic 15, 3) := by decide +kernel
theorem d_R_areNearAsBoxes_32 : decode prog_3_method_13_code 32 = .ok (.istore 5, 2) := by decide +kernel
theorem d_R_areNearAsBoxes_34 : decode prog_3_method_13_code 34 = .ok (.aload_n 0, 1) := by decide +kernel
theorem d_R_areNearAsBoxes_35 : decode prog_3_method_13_code 35 = .ok (.iload_n 1, 1) := by decide +kernel
theorem d_R_areNearAsBoxes_36 : decode prog_3_method_13_code 36 = .ok (.iload_n 3, 1) := by decide +kernel
theorem d_R_areNearAsBoxes_37 : decode prog_3_method_13_code 37 = .ok (.invokevirtual 47, 3) := by decide +kernel
theorem d_R_areNearAsBoxes_40 : decode prog_3_method_13_code 40 = .ok (.aload_n 0, 1) := by decide +kernel
theorem d_R_areNearAsBoxes_41 : decode prog_3_method_13_code 41 = .ok (.iload_n 2, 1) := by decide +kernel
theorem d_R_areNearAsBoxes_42 : decode prog_3_method_13_code 42 = .ok (.iload_n 3, 1) := by decide +kernel
theorem d_R_areNearAsBoxes_43 : decode prog_3_method_13_code 43 = .ok (.invokevirtual 47, 3) := by decide +kernel
theorem d_R_areNearAsBoxes_46 : decode prog_3_method_13_code 46 = .ok (.invokestatic 15, 3) := by decide +kernel
theorem d_R_areNearAsBoxes_49 : decode prog_3_method_13_code 49 = .ok (.aload_n 0, 1) := by decide +kernel
theorem d_R_areNearAsBoxes_50 : decode prog_3_method_13_code 50 = .ok (.iload_n 1, 1) := by decide +kernel
theorem d_R_areNearAsBoxes_51 : decode prog_3_method_13_code 51 = .ok (.iload_n 3, 1) := by decide +kernel
theorem d_R_areNearAsBoxes_52 : decode prog_3_method_13_code 52 = .ok (.invokevirtual 50, 3) := by decide +kernel
theorem d_R_areNearAsBoxes_55 : decode prog_3_method_13_code 55 = .ok (.aload_n 0, 1) := by decide +kernel
theorem d_R_areNearAsBoxes_56 : decode prog_3_method_13_code 56 = .ok (.iload_n 2, 1) := by decide +kernel
theorem d_R_areNearAsBoxes_57 : decode prog_3_method_13_code 57 = .ok (.iload_n 3, 1) := by decide +kernel
theorem d_R_areNearAsBoxes_58 : decode prog_3_method_13_code 58 = .ok (.invokevirtual 50, 3) := by decide +kernel
theorem d_R_areNearAsBoxes_61 : decode prog_3_method_13_code 61 = .ok (.invokestatic 34, 3) := by decide +kernel
theorem d_R_areNearAsBoxes_64 : decode prog_3_method_13_code 64 = .ok (.isub, 1) := by decide +kernel
theorem d_R_areNearAsBoxes_65 : decode prog_3_method_13_code 65 = .ok (.istore 6, 2) := by decide +kernel
theorem d_R_areNearAsBoxes_67 : decode prog_3_method_13_code 67 = .ok (.aload_n 0, 1) := by decide +kernel
theorem d_R_areNearAsBoxes_68 : decode prog_3_method_13_code 68 = .ok (.iload_n 1, 1) := by decide +kernel
theorem d_R_areNearAsBoxes_69 : decode prog_3_method_13_code 69 = .ok (.iload_n 2, 1) := by decide +kernel
theorem d_R_areNearAsBoxes_70 : decode prog_3_method_13_code 70 = .ok (.iload_n 3, 1) := by decide +kernel
theorem d_R_areNearAsBoxes_71 : decode prog_3_method_13_code 71 = .ok (.invokevirtual 53, 3) := by decide +kernel
theorem d_R_areNearAsBoxes_74 : decode prog_3_method_13_code 74 = .ok (.ineg, 1) := by decide +kernel
theorem d_R_areNearAsBoxes_75 : decode prog_3_method_13_code 75 = .ok (.istore 7, 2) := by decide +kernel
theorem d_R_areNearAsBoxes_77 : decode prog_3_method_13_code 77 = .ok (.iconst 2, 1) := by decide +kernel
theorem d_R_areNearAsBoxes_78 : decode prog_3_method_13_code 78 = .ok (.iload 7, 2) := by decide +kernel
theorem d_R_areNearAsBoxes_80 : decode prog_3_method_13_code 80 = .ok (.imul, 1) := by decide +kernel
theorem d_R_areNearAsBoxes_81 : decode prog_3_method_13_code 81 = .ok (.iload 4, 2) := by decide +kernel
theorem d_R_areNearAsBoxes_83 : decode prog_3_method_13_code 83 = .ok (.if_icmp .lt 18, 3) := by decide +kernel
theorem d_R_areNearAsBoxes_86 : decode prog_3_method_13_code 86 = .ok (.iconst 2, 1) := by decide +kernel
theorem d_R_areNearAsBoxes_87 : decode prog_3_method_13_code 87 = .ok (.iload 6, 2) := by decide +kernel
theorem d_R_areNearAsBoxes_89 : decode prog_3_method_13_code 89 = .ok (.imul, 1) := by decide +kernel
theorem d_R_areNearAsBoxes_90 : decode prog_3_method_13_code 90 = .ok (.iconst 3, 1) := by decide +kernel
theorem d_R_areNearAsBoxes_91 : decode prog_3_method_13_code 91 = .ok (.iload 5, 2) := by decide +kernel
theorem d_R_areNearAsBoxes_93 : decode prog_3_method_13_code 93 = .ok (.imul, 1) := by decide +kernel
theorem d_R_areNearAsBoxes_94 : decode prog_3_method_13_code 94 = .ok (.if_icmp .gt 7, 3) := by decide +kernel
theorem d_R_areNearAsBoxes_97 : decode prog_3_method_13_code 97 = .ok (.iconst 1, 1) := by decide +kernel
theorem d_R_areNearAsBoxes_98 : decode prog_3_method_13_code 98 = .ok (.goto 4, 3) := by decide +kernel
theorem d_R_areNearAsBoxes_101 : decode prog_3_method_13_code 101 = .ok (.iconst 0, 1) := by decide +kernel
theorem d_R_areNearAsBoxes_102 : decode prog_3_method_13_code 102 = .ok (.ireturn, 1) := by decide +kernel
theorem d_R_areNearAsLines_0 : decode prog_3_method_14_code 0 = .ok (.aload_n 0, 1) := by decide +kernel
theorem d_R_areNearAsLines_1 : decode prog_3_method_14_code 1 = .ok (.iload_n 1, 1) := by decide +kernel
theorem d_R_areNearAsLines_2 : decode prog_3_method_14_code 2 = .ok (.iload_n 3, 1) := by decide +kernel
theorem d_R_areNearAsLines_3 : decode prog_3_method_14_code 3 = .ok (.invokevirtual 44, 3) := by decide +kernel
theorem d_R_areNearAsLines_6 : decode prog_3_method_14_code 6 = .ok (.aload_n 0, 1) := by decide +kernel
theorem d_R_areNearAsLines_7 : decode prog_3_method_14_code 7 = .ok (.iload_n 2, 1) := by decide +kernel
theorem d_R_areNearAsLines_8 : decode prog_3_method_14_code 8 = .ok (.iload_n 3, 1) := by decide +kernel
theorem d_R_areNearAsLines_9 : decode prog_3_method_14_code 9 = .ok (.invokevirtual 44, 3) := by decide +kernel
theorem d_R_areNearAsLines_12 : decode prog_3_method_14_code 12 = .ok (.invokestatic 34, 3) := by decide +kernel
theorem d_R_areNearAsLines_15 : decode prog_3_method_14_code 15 = .ok (.istore 4, 2) := by decide +kernel
theorem d_R_areNearAsLines_17 : decode prog_3_method_14_code 17 = .ok (.aload_n 0, 1) := by decide +kernel
theorem d_R_areNearAsLines_18 : decode prog_3_method_14_code 18 = .ok (.iload_n 1, 1) := by decide +kernel
theorem d_R_areNearAsLines_19 : decode prog_3_method_14_code 19 = .ok (.iload_n 3, 1) := by decide +kernel
theorem d_R_areNearAsLines_20 : decode prog_3_method_14_code 20 = .ok (.invokevirtual 44, 3) := by decide +kernel
theorem d_R_areNearAsLines_23 : decode prog_3_method_14_code 23 = .ok (.aload_n 0, 1) := by decide +kernel
theorem d_R_areNearAsLines_24 : decode prog_3_method_14_code 24 = .ok (.iload_n 2, 1) := by decide +kernel
theorem d_R_areNearAsLines_25 : decode prog_3_method_14_code 25 = .ok (.iload_n 3, 1) := by decide +kernel
theorem d_R_areNearAsLines_26 : decode prog_3_method_14_code 26 = .ok (.invokevirtual 44, 3) := by decide +kernel
theorem d_R_areNearAsLines_29 : decode prog_3_method_14_code 29 = .ok (.invokestatic 15, 3) := by decide +kernel
theorem d_R_areNearAsLines_32 : decode prog_3_method_14_code 32 = .ok (.istore 5, 2) := by decide +kernel
theorem d_R_areNearAsLines_34 : decode prog_3_method_14_code 34 = .ok (.aload_n 0, 1) := by decide +kernel
theorem d_R_areNearAsLines_35 : decode prog_3_method_14_code 35 = .ok (.iload_n 1, 1) := by decide +kernel
theorem d_R_areNearAsLines_36 : decode prog_3_method_14_code 36 = .ok (.iload_n 3, 1) := by decide +kernel
theorem d_R_areNearAsLines_37 : decode prog_3_method_14_code 37 = .ok (.invokevirtual 47, 3) := by decide +kernel
theorem d_R_areNearAsLines_40 : decode prog_3_method_14_code 40 = .ok (.aload_n 0, 1) := by decide +kernel
theorem d_R_areNearAsLines_41 : decode prog_3_method_14_code 41 = .ok (.iload_n 2, 1) := by decide +kernel
theorem d_R_areNearAsLines_42 : decode prog_3_method_14_code 42 = .ok (.iload_n 3, 1) := by decide +kernel
theorem d_R_areNearAsLines_43 : decode prog_3_method_14_code 43 = .ok (.invokevirtual 47, 3) := by decide +kernel
theorem d_R_areNearAsLines_46 : decode prog_3_method_14_code 46 = .ok (.isub, 1) := by decide +kernel
theorem d_R_areNearAsLines_47 : decode prog_3_method_14_code 47 = .ok (.invokestatic 57, 3) := by decide +kernel
theorem d_R_areNearAsLines_50 : decode prog_3_method_14_code 50 = .ok (.istore 6, 2) := by decide +kernel
theorem d_R_areNearAsLines_52 : decode prog_3_method_14_code 52 = .ok (.iload 6, 2) := by decide +kernel
theorem d_R_areNearAsLines_54 : decode prog_3_method_14_code 54 = .ok (.iload 5, 2) := by decide +kernel
theorem d_R_areNearAsLines_56 : decode prog_3_method_14_code 56 = .ok (.if_icmp .gt 21, 3) := by decide +kernel
theorem d_R_areNearAsLines_59 : decode prog_3_method_14_code 59 = .ok (.aload_n 0, 1) := by decide +kernel
theorem d_R_areNearAsLines_60 : decode prog_3_method_14_code 60 = .ok (.iload_n 1, 1) := by decide +kernel
theorem d_R_areNearAsLines_61 : decode prog_3_method_14_code 61 = .ok (.iload_n 2, 1) := by decide +kernel
theorem d_R_areNearAsLines_62 : decode prog_3_method_14_code 62 = .ok (.iload_n 3, 1) := by decide +kernel
theorem d_R_areNearAsLines_63 : decode prog_3_method_14_code 63 = .ok (.invokevirtual 53, 3) := by decide +kernel
theorem d_R_areNearAsLines_66 : decode prog_3_method_14_code 66 = .ok (.iconst 2, 1) := by decide +kernel
theorem d_R_areNearAsLines_67 : decode prog_3_method_14_code 67 = .ok (.iload 4, 2) := by decide +kernel
theorem d_R_areNearAsLines_69 : decode prog_3_method_14_code 69 = .ok (.imul, 1) := by decide +kernel
theorem d_R_areNearAsLines_70 : decode prog_3_method_14_code 70 = .ok (.if_icmp .gt 7, 3) := by decide +kernel
theorem d_R_areNearAsLines_73 : decode prog_3_method_14_code 73 = .ok (.iconst 1, 1) := by decide +kernel
theorem d_R_areNearAsLines_74 : decode prog_3_method_14_code 74 = .ok (.goto 4, 3) := by decide +kernel
theorem d_R_areNearAsLines_77 : decode prog_3_method_14_code 77 = .ok (.iconst 0, 1) := by decide +kernel
theorem d_R_areNearAsLines_78 : decode prog_3_method_14_code 78 = .ok (.ireturn, 1) := by decide +kernel
theorem d_R_gapDownwards_0 : decode prog_3_method_15_code 0 = .ok (.aload_n 0, 1) := by decide +kernel
theorem d_R_gapDownwards_1 : decode prog_3_method_15_code 1 = .ok (.iload_n 1, 1) := by decide +kernel
theorem d_R_gapDownwards_2 : decode prog_3_method_15_code 2 = .ok (.iload_n 3, 1) := by decide +kernel
theorem d_R_gapDownwards_3 : decode prog_3_method_15_code 3 = .ok (.invokevirtual 41, 3) := by decide +kernel
theorem d_R_gapDownwards_6 : decode prog_3_method_15_code 6 = .ok (.aload_n 0, 1) := by decide +kernel
theorem d_R_gapDownwards_7 : decode prog_3_method_15_code 7 = .ok (.iload_n 2, 1) := by decide +kernel
theorem d_R_gapDownwards_8 : decode prog_3_method_15_code 8 = .ok (.iload_n 3, 1) := by decide +kernel
theorem d_R_gapDownwards_9 : decode prog_3_method_15_code 9 = .ok (.invokevirtual 41, 3) := by decide +kernel
theorem d_R_gapDownwards_12 : decode prog_3_method_15_code 12 = .ok (.invokestatic 15, 3) := by decide +kernel
theorem d_R_gapDownwards_15 : decode prog_3_method_15_code 15 = .ok (.aload_n 0, 1) := by decide +kernel
theorem d_R_gapDownwards_16 : decode prog_3_method_15_code 16 = .ok (.iload_n 1, 1) := by decide +kernel
theorem d_R_gapDownwards_17 : decode prog_3_method_15_code 17 = .ok (.iload_n 3, 1) := by decide +kernel
theorem d_R_gapDownwards_18 : decode prog_3_method_15_code 18 = .ok (.invokevirtual 37, 3) := by decide +kernel
theorem d_R_gapDownwards_21 : decode prog_3_method_15_code 21 = .ok (.aload_n 0, 1) := by decide +kernel
theorem d_R_gapDownwards_22 : decode prog_3_method_15_code 22 = .ok (.iload_n 2, 1) := by decide +kernel
theorem d_R_gapDownwards_23 : decode prog_3_method_15_code 23 = .ok (.iload_n 3, 1) := by decide +kernel
theorem d_R_gapDownwards_24 : decode prog_3_method_15_code 24 = .ok (.invokevirtual 37, 3) := by decide +kernel
theorem d_R_gapDownwards_27 : decode prog_3_method_15_code 27 = .ok (.invokestatic 34, 3) := by decide +kernel
theorem d_R_gapDownwards_30 : decode prog_3_method_15_code 30 = .ok (.isub, 1) := by decide +kernel
theorem d_R_gapDownwards_31 : decode prog_3_method_15_code 31 = .ok (.ireturn, 1) := by decide +kernel
theorem d_S_init_0 : decode prog_4_method_1_code 0 = .ok (.aload_n 0, 1) := by decide +kernel
theorem d_S_init_1 : decode prog_4_method_1_code 1 = .ok (.invokespecial 3, 3) := by decide +kernel
theorem d_S_init_4 : decode prog_4_method_1_code 4 = .ok (.aload_n 0, 1) := by decide +kernel
theorem d_S_init_5 : decode prog_4_method_1_code 5 = .ok (.bipush 64, 2) := by decide +kernel
theorem d_S_init_7 : decode prog_4_method_1_code 7 = .ok (.newarray .int, 2) := by decide +kernel
theorem d_S_init_9 : decode prog_4_method_1_code 9 = .ok (.putfield 9, 3) := by decide +kernel
theorem d_S_init_12 : decode prog_4_method_1_code 12 = .ok (.aload_n 0, 1) := by decide +kernel
theorem d_S_init_13 : decode prog_4_method_1_code 13 = .ok (.iconst 0, 1) := by decide +kernel
theorem d_S_init_14 : decode prog_4_method_1_code 14 = .ok (.putfield 15, 3) := by decide +kernel
theorem d_S_init_17 : decode prog_4_method_1_code 17 = .ok (.aload_n 0, 1) := by decide +kernel
theorem d_S_init_18 : decode prog_4_method_1_code 18 = .ok (.iconst 0, 1) := by decide +kernel
theorem d_S_init_19 : decode prog_4_method_1_code 19 = .ok (.putfield 19, 3) := by decide +kernel
theorem d_S_init_22 : decode prog_4_method_1_code 22 = .ok (.return_, 1) := by decide +kernel
theorem d_S_scatter_0 : decode prog_4_method_2_code 0 = .ok (.aload_n 0, 1) := by decide +kernel
theorem d_S_scatter_1 : decode prog_4_method_2_code 1 = .ok (.iconst 0, 1) := by decide +kernel
theorem d_S_scatter_2 : decode prog_4_method_2_code 2 = .ok (.aload_n 0, 1) := by decide +kernel
theorem d_S_scatter_3 : decode prog_4_method_2_code 3 = .ok (.getfield 9, 3) := by decide +kernel
theorem d_S_scatter_6 : decode prog_4_method_2_code 6 = .ok (.arraylength, 1) := by decide +kernel
theorem d_S_scatter_7 : decode prog_4_method_2_code 7 = .ok (.iload_n 1, 1) := by decide +kernel
theorem d_S_scatter_8 : decode prog_4_method_2_code 8 = .ok (.invokestatic 22, 3) := by decide +kernel
theorem d_S_scatter_11 : decode prog_4_method_2_code 11 = .ok (.invokestatic 28, 3) := by decide +kernel
theorem d_S_scatter_14 : decode prog_4_method_2_code 14 = .ok (.putfield 15, 3) := by decide +kernel
theorem d_S_scatter_17 : decode prog_4_method_2_code 17 = .ok (.aload_n 0, 1) := by decide +kernel
theorem d_S_scatter_18 : decode prog_4_method_2_code 18 = .ok (.aload_n 0, 1) := by decide +kernel
theorem d_S_scatter_19 : decode prog_4_method_2_code 19 = .ok (.getfield 15, 3) := by decide +kernel
theorem d_S_scatter_22 : decode prog_4_method_2_code 22 = .ok (.putfield 19, 3) := by decide +kernel
theorem d_S_scatter_25 : decode prog_4_method_2_code 25 = .ok (.iconst 0, 1) := by decide +kernel
theorem d_S_scatter_26 : decode prog_4_method_2_code 26 = .ok (.istore_n 2, 1) := by decide +kernel
theorem d_S_scatter_27 : decode prog_4_method_2_code 27 = .ok (.iload_n 2, 1) := by decide +kernel
theorem d_S_scatter_28 : decode prog_4_method_2_code 28 = .ok (.aload_n 0, 1) := by decide +kernel
theorem d_S_scatter_29 : decode prog_4_method_2_code 29 = .ok (.getfield 15, 3) := by decide +kernel
theorem d_S_scatter_32 : decode prog_4_method_2_code 32 = .ok (.if_icmp .ge 16, 3) := by decide +kernel
theorem d_S_scatter_35 : decode prog_4_method_2_code 35 = .ok (.aload_n 0, 1) := by decide +kernel
theorem d_S_scatter_36 : decode prog_4_method_2_code 36 = .ok (.getfield 9, 3) := by decide +kernel
theorem d_S_scatter_39 : decode prog_4_method_2_code 39 = .ok (.iload_n 2, 1) := by decide +kernel
theorem d_S_scatter_40 : decode prog_4_method_2_code 40 = .ok (.iload_n 2, 1) := by decide +kernel
theorem d_S_scatter_41 : decode prog_4_method_2_code 41 = .ok (.iastore, 1) := by decide +kernel
theorem d_S_scatter_42 : decode prog_4_method_2_code 42 = .ok (.iinc 2 1, 3) := by decide +kernel
theorem d_S_scatter_45 : decode prog_4_method_2_code 45 = .ok (.goto (-18), 3) := by decide +kernel
theorem d_S_scatter_48 : decode prog_4_method_2_code 48 = .ok (.return_, 1) := by decide +kernel
theorem d_S_join_0 : decode prog_4_method_3_code 0 = .ok (.aload_n 0, 1) := by decide +kernel
theorem d_S_join_1 : decode prog_4_method_3_code 1 = .ok (.getfield 9, 3) := by decide +kernel
theorem d_S_join_4 : decode prog_4_method_3_code 4 = .ok (.iload_n 1, 1) := by decide +kernel
theorem d_S_join_5 : decode prog_4_method_3_code 5 = .ok (.iaload, 1) := by decide +kernel
theorem d_S_join_6 : decode prog_4_method_3_code 6 = .ok (.aload_n 0, 1) := by decide +kernel
theorem d_S_join_7 : decode prog_4_method_3_code 7 = .ok (.getfield 9, 3) := by decide +kernel
theorem d_S_join_10 : decode prog_4_method_3_code 10 = .ok (.iload_n 2, 1) := by decide +kernel
theorem d_S_join_11 : decode prog_4_method_3_code 11 = .ok (.iaload, 1) := by decide +kernel
theorem d_S_join_12 : decode prog_4_method_3_code 12 = .ok (.invokestatic 22, 3) := by decide +kernel
theorem d_S_join_15 : decode prog_4_method_3_code 15 = .ok (.istore_n 3, 1) := by decide +kernel
theorem d_S_join_16 : decode prog_4_method_3_code 16 = .ok (.aload_n 0, 1) := by decide +kernel
theorem d_S_join_17 : decode prog_4_method_3_code 17 = .ok (.getfield 9, 3) := by decide +kernel
theorem d_S_join_20 : decode prog_4_method_3_code 20 = .ok (.iload_n 1, 1) := by decide +kernel
theorem d_S_join_21 : decode prog_4_method_3_code 21 = .ok (.iaload, 1) := by decide +kernel
theorem d_S_join_22 : decode prog_4_method_3_code 22 = .ok (.aload_n 0, 1) := by decide +kernel
theorem d_S_join_23 : decode prog_4_method_3_code 23 = .ok (.getfield 9, 3) := by decide +kernel
theorem d_S_join_26 : decode prog_4_method_3_code 26 = .ok (.iload_n 2, 1) := by decide +kernel
theorem d_S_join_27 : decode prog_4_method_3_code 27 = .ok (.iaload, 1) := by decide +kernel
theorem d_S_join_28 : decode prog_4_method_3_code 28 = .ok (.invokestatic 28, 3) := by decide +kernel
theorem d_S_join_31 : decode prog_4_method_3_code 31 = .ok (.istore 4, 2) := by decide +kernel
theorem d_S_join_33 : decode prog_4_method_3_code 33 = .ok (.iload_n 3, 1) := by decide +kernel
theorem d_S_join_34 : decode prog_4_method_3_code 34 = .ok (.iload 4, 2) := by decide +kernel
theorem d_S_join_36 : decode prog_4_method_3_code 36 = .ok (.if_icmp .ne 4, 3) := by decide +kernel
theorem d_S_join_39 : decode prog_4_method_3_code 39 = .ok (.return_, 1) := by decide +kernel
theorem d_S_join_40 : decode prog_4_method_3_code 40 = .ok (.iconst 0, 1) := by decide +kernel
theorem d_S_join_41 : decode prog_4_method_3_code 41 = .ok (.istore 5, 2) := by decide +kernel
theorem d_S_join_43 : decode prog_4_method_3_code 43 = .ok (.iload 5, 2) := by decide +kernel
theorem d_S_join_45 : decode prog_4_method_3_code 45 = .ok (.aload_n 0, 1) := by decide +kernel
theorem d_S_join_46 : decode prog_4_method_3_code 46 = .ok (.getfield 15, 3) := by decide +kernel
theorem d_S_join_49 : decode prog_4_method_3_code 49 = .ok (.if_icmp .ge 29, 3) := by decide +kernel
theorem d_S_join_52 : decode prog_4_method_3_code 52 = .ok (.aload_n 0, 1) := by decide +kernel
theorem d_S_join_53 : decode prog_4_method_3_code 53 = .ok (.getfield 9, 3) := by decide +kernel
theorem d_S_join_56 : decode prog_4_method_3_code 56 = .ok (.iload 5, 2) := by decide +kernel
theorem d_S_join_58 : decode prog_4_method_3_code 58 = .ok (.iaload, 1) := by decide +kernel
theorem d_S_join_59 : decode prog_4_method_3_code 59 = .ok (.iload 4, 2) := by decide +kernel
theorem d_S_join_61 : decode prog_4_method_3_code 61 = .ok (.if_icmp .ne 11, 3) := by decide +kernel
theorem d_S_join_64 : decode prog_4_method_3_code 64 = .ok (.aload_n 0, 1) := by decide +kernel
theorem d_S_join_65 : decode prog_4_method_3_code 65 = .ok (.getfield 9, 3) := by decide +kernel
theorem d_S_join_68 : decode prog_4_method_3_code 68 = .ok (.iload 5, 2) := by decide +kernel
theorem d_S_join_70 : decode prog_4_method_3_code 70 = .ok (.iload_n 3, 1) := by decide +kernel
theorem d_S_join_71 : decode prog_4_method_3_code 71 = .ok (.iastore, 1) := by decide +kernel
theorem d_S_join_72 : decode prog_4_method_3_code 72 = .ok (.iinc 5 1, 3) := by decide +kernel
theorem d_S_join_75 : decode prog_4_method_3_code 75 = .ok (.goto (-32), 3) := by decide +kernel
theorem d_S_join_78 : decode prog_4_method_3_code 78 = .ok (.aload_n 0, 1) := by decide +kernel
theorem d_S_join_79 : decode prog_4_method_3_code 79 = .ok (.dup, 1) := by decide +kernel
theorem d_S_join_80 : decode prog_4_method_3_code 80 = .ok (.getfield 19, 3) := by decide +kernel
theorem d_S_join_83 : decode prog_4_method_3_code 83 = .ok (.iconst 1, 1) := by decide +kernel
theorem d_S_join_84 : decode prog_4_method_3_code 84 = .ok (.isub, 1) := by decide +kernel
theorem d_S_join_85 : decode prog_4_method_3_code 85 = .ok (.putfield 19, 3) := by decide +kernel
theorem d_S_join_88 : decode prog_4_method_3_code 88 = .ok (.return_, 1) := by decide +kernel
theorem d_G_init_0 : decode prog_2_method_1_code 0 = .ok (.aload_n 0, 1) := by decide +kernel
theorem d_G_init_1 : decode prog_2_method_1_code 1 = .ok (.invokespecial 3, 3) := by decide +kernel
theorem d_G_init_4 : decode prog_2_method_1_code 4 = .ok (.aload_n 0, 1) := by decide +kernel
theorem d_G_init_5 : decode prog_2_method_1_code 5 = .ok (.new 9, 3) := by decide +kernel
theorem d_G_init_8 : decode prog_2_method_1_code 8 = .ok (.dup, 1) := by decide +kernel
theorem d_G_init_9 : decode prog_2_method_1_code 9 = .ok (.bipush 64, 2) := by decide +kernel
theorem d_G_init_11 : decode prog_2_method_1_code 11 = .ok (.invokespecial 11, 3) := by decide +kernel
theorem d_G_init_14 : decode prog_2_method_1_code 14 = .ok (.putfield 14, 3) := by decide +kernel
theorem d_G_init_17 : decode prog_2_method_1_code 17 = .ok (.aload_n 0, 1) := by decide +kernel
theorem d_G_init_18 : decode prog_2_method_1_code 18 = .ok (.bipush 64, 2) := by decide +kernel
theorem d_G_init_20 : decode prog_2_method_1_code 20 = .ok (.newarray .int, 2) := by decide +kernel
theorem d_G_init_22 : decode prog_2_method_1_code 22 = .ok (.putfield 20, 3) := by decide +kernel
theorem d_G_init_25 : decode prog_2_method_1_code 25 = .ok (.aload_n 0, 1) := by decide +kernel
theorem d_G_init_26 : decode prog_2_method_1_code 26 = .ok (.bipush 64, 2) := by decide +kernel
theorem d_G_init_28 : decode prog_2_method_1_code 28 = .ok (.newarray .int, 2) := by decide +kernel
theorem d_G_init_30 : decode prog_2_method_1_code 30 = .ok (.putfield 24, 3) := by decide +kernel
theorem d_G_init_33 : decode prog_2_method_1_code 33 = .ok (.aload_n 0, 1) := by decide +kernel
theorem d_G_init_34 : decode prog_2_method_1_code 34 = .ok (.bipush 64, 2) := by decide +kernel
theorem d_G_init_36 : decode prog_2_method_1_code 36 = .ok (.newarray .int, 2) := by decide +kernel
theorem d_G_init_38 : decode prog_2_method_1_code 38 = .ok (.putfield 27, 3) := by decide +kernel
theorem d_G_init_41 : decode prog_2_method_1_code 41 = .ok (.aload_n 0, 1) := by decide +kernel
theorem d_G_init_42 : decode prog_2_method_1_code 42 = .ok (.bipush 64, 2) := by decide +kernel
theorem d_G_init_44 : decode prog_2_method_1_code 44 = .ok (.newarray .int, 2) := by decide +kernel
theorem d_G_init_46 : decode prog_2_method_1_code 46 = .ok (.putfield 30, 3) := by decide +kernel
theorem d_G_init_49 : decode prog_2_method_1_code 49 = .ok (.aload_n 0, 1) := by decide +kernel
theorem d_G_init_50 : decode prog_2_method_1_code 50 = .ok (.bipush 64, 2) := by decide +kernel
theorem d_G_init_52 : decode prog_2_method_1_code 52 = .ok (.newarray .int, 2) := by decide +kernel
theorem d_G_init_54 : decode prog_2_method_1_code 54 = .ok (.putfield 33, 3) := by decide +kernel
theorem d_G_init_57 : decode prog_2_method_1_code 57 = .ok (.aload_n 0, 1) := by decide +kernel
theorem d_G_init_58 : decode prog_2_method_1_code 58 = .ok (.bipush 64, 2) := by decide +kernel
theorem d_G_init_60 : decode prog_2_method_1_code 60 = .ok (.newarray .int, 2) := by decide +kernel
theorem d_G_init_62 : decode prog_2_method_1_code 62 = .ok (.putfield 36, 3) := by decide +kernel
theorem d_G_init_65 : decode prog_2_method_1_code 65 = .ok (.return_, 1) := by decide +kernel
theorem d_G_size_0 : decode prog_2_method_2_code 0 = .ok (.aload_n 0, 1) := by decide +kernel
theorem d_G_size_1 : decode prog_2_method_2_code 1 = .ok (.getfield 14, 3) := by decide +kernel
theorem d_G_size_4 : decode prog_2_method_2_code 4 = .ok (.getfield 39, 3) := by decide +kernel
theorem d_G_size_7 : decode prog_2_method_2_code 7 = .ok (.ireturn, 1) := by decide +kernel
theorem d_G_has_0 : decode prog_2_method_3_code 0 = .ok (.aload_n 0, 1) := by decide +kernel
theorem d_G_has_1 : decode prog_2_method_3_code 1 = .ok (.getfield 14, 3) := by decide +kernel
theorem d_G_has_4 : decode prog_2_method_3_code 4 = .ok (.iload_n 1, 1) := by decide +kernel
theorem d_G_has_5 : decode prog_2_method_3_code 5 = .ok (.invokevirtual 43, 3) := by decide +kernel
theorem d_G_has_8 : decode prog_2_method_3_code 8 = .ok (.ireturn, 1) := by decide +kernel
theorem d_G_gather_0 : decode prog_2_method_4_code 0 = .ok (.aload_n 0, 1) := by decide +kernel
theorem d_G_gather_1 : decode prog_2_method_4_code 1 = .ok (.getfield 14, 3) := by decide +kernel
theorem d_G_gather_4 : decode prog_2_method_4_code 4 = .ok (.iconst 0, 1) := by decide +kernel
theorem d_G_gather_5 : decode prog_2_method_4_code 5 = .ok (.putfield 39, 3) := by decide +kernel
theorem d_G_gather_8 : decode prog_2_method_4_code 8 = .ok (.iconst 0, 1) := by decide +kernel
theorem d_G_gather_9 : decode prog_2_method_4_code 9 = .ok (.istore_n 3, 1) := by decide +kernel
theorem d_G_gather_10 : decode prog_2_method_4_code 10 = .ok (.iload_n 3, 1) := by decide +kernel
theorem d_G_gather_11 : decode prog_2_method_4_code 11 = .ok (.aload_n 1, 1) := by decide +kernel
theorem d_G_gather_12 : decode prog_2_method_4_code 12 = .ok (.getfield 39, 3) := by decide +kernel
theorem d_G_gather_15 : decode prog_2_method_4_code 15 = .ok (.if_icmp .ge 45, 3) := by decide +kernel
theorem d_G_gather_18 : decode prog_2_method_4_code 18 = .ok (.aload_n 2, 1) := by decide +kernel
theorem d_G_gather_19 : decode prog_2_method_4_code 19 = .ok (.getfield 47, 3) := by decide +kernel
theorem d_G_gather_22 : decode prog_2_method_4_code 22 = .ok (.iload_n 3, 1) := by decide +kernel
theorem d_G_gather_23 : decode prog_2_method_4_code 23 = .ok (.iaload, 1) := by decide +kernel
theorem d_G_gather_24 : decode prog_2_method_4_code 24 = .ok (.iload_n 3, 1) := by decide +kernel
theorem d_G_gather_25 : decode prog_2_method_4_code 25 = .ok (.if_icmp .ne 12, 3) := by decide +kernel
theorem d_G_gather_28 : decode prog_2_method_4_code 28 = .ok (.aload_n 0, 1) := by decide +kernel
theorem d_G_gather_29 : decode prog_2_method_4_code 29 = .ok (.aload_n 1, 1) := by decide +kernel
theorem d_G_gather_30 : decode prog_2_method_4_code 30 = .ok (.iload_n 3, 1) := by decide +kernel
theorem d_G_gather_31 : decode prog_2_method_4_code 31 = .ok (.invokevirtual 52, 3) := by decide +kernel
theorem d_G_gather_34 : decode prog_2_method_4_code 34 = .ok (.goto 20, 3) := by decide +kernel
theorem d_G_gather_37 : decode prog_2_method_4_code 37 = .ok (.aload_n 0, 1) := by decide +kernel
theorem d_G_gather_38 : decode prog_2_method_4_code 38 = .ok (.aload_n 0, 1) := by decide +kernel
theorem d_G_gather_39 : decode prog_2_method_4_code 39 = .ok (.getfield 30, 3) := by decide +kernel
theorem d_G_gather_42 : decode prog_2_method_4_code 42 = .ok (.aload_n 2, 1) := by decide +kernel
theorem d_G_gather_43 : decode prog_2_method_4_code 43 = .ok (.getfield 47, 3) := by decide +kernel
theorem d_G_gather_46 : decode prog_2_method_4_code 46 = .ok (.iload_n 3, 1) := by decide +kernel
theorem d_G_gather_47 : decode prog_2_method_4_code 47 = .ok (.iaload, 1) := by decide +kernel
theorem d_G_gather_48 : decode prog_2_method_4_code 48 = .ok (.iaload, 1) := by decide +kernel
theorem d_G_gather_49 : decode prog_2_method_4_code 49 = .ok (.aload_n 1, 1) := by decide +kernel
theorem d_G_gather_50 : decode prog_2_method_4_code 50 = .ok (.iload_n 3, 1) := by decide +kernel
theorem d_G_gather_51 : decode prog_2_method_4_code 51 = .ok (.invokevirtual 56, 3) := by decide +kernel
theorem d_G_gather_54 : decode prog_2_method_4_code 54 = .ok (.iinc 3 1, 3) := by decide +kernel
theorem d_G_gather_57 : decode prog_2_method_4_code 57 = .ok (.goto (-47), 3) := by decide +kernel
theorem d_G_gather_60 : decode prog_2_method_4_code 60 = .ok (.return_, 1) := by decide +kernel
theorem d_G_begin_0 : decode prog_2_method_5_code 0 = .ok (.aload_n 0, 1) := by decide +kernel
theorem d_G_begin_1 : decode prog_2_method_5_code 1 = .ok (.getfield 14, 3) := by decide +kernel
theorem d_G_begin_4 : decode prog_2_method_5_code 4 = .ok (.aload_n 1, 1) := by decide +kernel
theorem d_G_begin_5 : decode prog_2_method_5_code 5 = .ok (.getfield 60, 3) := by decide +kernel
theorem d_G_begin_8 : decode prog_2_method_5_code 8 = .ok (.iload_n 2, 1) := by decide +kernel
theorem d_G_begin_9 : decode prog_2_method_5_code 9 = .ok (.iaload, 1) := by decide +kernel
theorem d_G_begin_10 : decode prog_2_method_5_code 10 = .ok (.aload_n 1, 1) := by decide +kernel
theorem d_G_begin_11 : decode prog_2_method_5_code 11 = .ok (.getfield 63, 3) := by decide +kernel
theorem d_G_begin_14 : decode prog_2_method_5_code 14 = .ok (.iload_n 2, 1) := by decide +kernel
theorem d_G_begin_15 : decode prog_2_method_5_code 15 = .ok (.iaload, 1) := by decide +kernel
theorem d_G_begin_16 : decode prog_2_method_5_code 16 = .ok (.aload_n 1, 1) := by decide +kernel
theorem d_G_begin_17 : decode prog_2_method_5_code 17 = .ok (.getfield 66, 3) := by decide +kernel
theorem d_G_begin_20 : decode prog_2_method_5_code 20 = .ok (.iload_n 2, 1) := by decide +kernel
theorem d_G_begin_21 : decode prog_2_method_5_code 21 = .ok (.iaload, 1) := by decide +kernel
theorem d_G_begin_22 : decode prog_2_method_5_code 22 = .ok (.aload_n 1, 1) := by decide +kernel
theorem d_G_begin_23 : decode prog_2_method_5_code 23 = .ok (.getfield 69, 3) := by decide +kernel
theorem d_G_begin_26 : decode prog_2_method_5_code 26 = .ok (.iload_n 2, 1) := by decide +kernel
theorem d_G_begin_27 : decode prog_2_method_5_code 27 = .ok (.iaload, 1) := by decide +kernel
theorem d_G_begin_28 : decode prog_2_method_5_code 28 = .ok (.invokevirtual 72, 3) := by decide +kernel
theorem d_G_begin_31 : decode prog_2_method_5_code 31 = .ok (.istore_n 3, 1) := by decide +kernel
theorem d_G_begin_32 : decode prog_2_method_5_code 32 = .ok (.iload_n 3, 1) := by decide +kernel
theorem d_G_begin_33 : decode prog_2_method_5_code 33 = .ok (.ifCond .lt 24, 3) := by decide +kernel
theorem d_G_begin_36 : decode prog_2_method_5_code 36 = .ok (.aload_n 0, 1) := by decide +kernel
theorem d_G_begin_37 : decode prog_2_method_5_code 37 = .ok (.getfield 20, 3) := by decide +kernel
theorem d_G_begin_40 : decode prog_2_method_5_code 40 = .ok (.iload_n 3, 1) := by decide +kernel
theorem d_G_begin_41 : decode prog_2_method_5_code 41 = .ok (.iconst 1, 1) := by decide +kernel
theorem d_G_begin_42 : decode prog_2_method_5_code 42 = .ok (.iastore, 1) := by decide +kernel
theorem d_G_begin_43 : decode prog_2_method_5_code 43 = .ok (.aload_n 0, 1) := by decide +kernel
theorem d_G_begin_44 : decode prog_2_method_5_code 44 = .ok (.getfield 24, 3) := by decide +kernel
theorem d_G_begin_47 : decode prog_2_method_5_code 47 = .ok (.iload_n 3, 1) := by decide +kernel
theorem d_G_begin_48 : decode prog_2_method_5_code 48 = .ok (.iload_n 2, 1) := by decide +kernel
theorem d_G_begin_49 : decode prog_2_method_5_code 49 = .ok (.iastore, 1) := by decide +kernel
theorem d_G_begin_50 : decode prog_2_method_5_code 50 = .ok (.aload_n 0, 1) := by decide +kernel
theorem d_G_begin_51 : decode prog_2_method_5_code 51 = .ok (.getfield 30, 3) := by decide +kernel
theorem d_G_begin_54 : decode prog_2_method_5_code 54 = .ok (.iload_n 2, 1) := by decide +kernel
theorem d_G_begin_55 : decode prog_2_method_5_code 55 = .ok (.iload_n 3, 1) := by decide +kernel
theorem d_G_begin_56 : decode prog_2_method_5_code 56 = .ok (.iastore, 1) := by decide +kernel
theorem d_G_begin_57 : decode prog_2_method_5_code 57 = .ok (.return_, 1) := by decide +kernel
theorem d_G_extend_0 : decode prog_2_method_6_code 0 = .ok (.aload_n 0, 1) := by decide +kernel
theorem d_G_extend_1 : decode prog_2_method_6_code 1 = .ok (.getfield 14, 3) := by decide +kernel
theorem d_G_extend_4 : decode prog_2_method_6_code 4 = .ok (.iload_n 1, 1) := by decide +kernel
theorem d_G_extend_5 : decode prog_2_method_6_code 5 = .ok (.aload_n 2, 1) := by decide +kernel
theorem d_G_extend_6 : decode prog_2_method_6_code 6 = .ok (.iload_n 3, 1) := by decide +kernel
theorem d_G_extend_7 : decode prog_2_method_6_code 7 = .ok (.invokevirtual 76, 3) := by decide +kernel
theorem d_G_extend_10 : decode prog_2_method_6_code 10 = .ok (.aload_n 0, 1) := by decide +kernel
theorem d_G_extend_11 : decode prog_2_method_6_code 11 = .ok (.getfield 20, 3) := by decide +kernel
theorem d_G_extend_14 : decode prog_2_method_6_code 14 = .ok (.iload_n 1, 1) := by decide +kernel
theorem d_G_extend_15 : decode prog_2_method_6_code 15 = .ok (.dup2, 1) := by decide +kernel
theorem d_G_extend_16 : decode prog_2_method_6_code 16 = .ok (.iaload, 1) := by decide +kernel
theorem d_G_extend_17 : decode prog_2_method_6_code 17 = .ok (.iconst 1, 1) := by decide +kernel
theorem d_G_extend_18 : decode prog_2_method_6_code 18 = .ok (.iadd, 1) := by decide +kernel
theorem d_G_extend_19 : decode prog_2_method_6_code 19 = .ok (.iastore, 1) := by decide +kernel
theorem d_G_extend_20 : decode prog_2_method_6_code 20 = .ok (.aload_n 0, 1) := by decide +kernel
theorem d_G_extend_21 : decode prog_2_method_6_code 21 = .ok (.getfield 30, 3) := by decide +kernel
theorem d_G_extend_24 : decode prog_2_method_6_code 24 = .ok (.iload_n 3, 1) := by decide +kernel
theorem d_G_extend_25 : decode prog_2_method_6_code 25 = .ok (.iload_n 1, 1) := by decide +kernel
theorem d_G_extend_26 : decode prog_2_method_6_code 26 = .ok (.iastore, 1) := by decide +kernel
theorem d_G_extend_27 : decode prog_2_method_6_code 27 = .ok (.return_, 1) := by decide +kernel
theorem d_G_putInOrder_0 : decode prog_2_method_7_code 0 = .ok (.iconst 0, 1) := by decide +kernel
theorem d_G_putInOrder_1 : decode prog_2_method_7_code 1 = .ok (.istore_n 2, 1) := by decide +kernel
theorem d_G_putInOrder_2 : decode prog_2_method_7_code 2 = .ok (.iload_n 2, 1) := by decide +kernel
theorem d_G_putInOrder_3 : decode prog_2_method_7_code 3 = .ok (.aload_n 0, 1) := by decide +kernel
theorem d_G_putInOrder_4 : decode prog_2_method_7_code 4 = .ok (.invokevirtual 79, 3) := by decide +kernel
theorem d_G_putInOrder_7 : decode prog_2_method_7_code 7 = .ok (.if_icmp .ge 59, 3) := by decide +kernel
theorem d_G_putInOrder_10 : decode prog_2_method_7_code 10 = .ok (.iload_n 2, 1) := by decide +kernel
theorem d_G_putInOrder_11 : decode prog_2_method_7_code 11 = .ok (.istore_n 3, 1) := by decide +kernel
theorem d_G_putInOrder_12 : decode prog_2_method_7_code 12 = .ok (.iload_n 3, 1) := by decide +kernel
theorem d_G_putInOrder_13 : decode prog_2_method_7_code 13 = .ok (.ifCond .le 40, 3) := by decide +kernel
theorem d_G_putInOrder_16 : decode prog_2_method_7_code 16 = .ok (.aload_n 0, 1) := by decide +kernel
theorem d_G_putInOrder_17 : decode prog_2_method_7_code 17 = .ok (.iload_n 2, 1) := by decide +kernel
theorem d_G_putInOrder_18 : decode prog_2_method_7_code 18 = .ok (.aload_n 0, 1) := by decide +kernel
theorem d_G_putInOrder_19 : decode prog_2_method_7_code 19 = .ok (.getfield 33, 3) := by decide +kernel
theorem d_G_putInOrder_22 : decode prog_2_method_7_code 22 = .ok (.iload_n 3, 1) := by decide +kernel
theorem d_G_putInOrder_23 : decode prog_2_method_7_code 23 = .ok (.iconst 1, 1) := by decide +kernel
theorem d_G_putInOrder_24 : decode prog_2_method_7_code 24 = .ok (.isub, 1) := by decide +kernel
theorem d_G_putInOrder_25 : decode prog_2_method_7_code 25 = .ok (.iaload, 1) := by decide +kernel
theorem d_G_putInOrder_26 : decode prog_2_method_7_code 26 = .ok (.iload_n 1, 1) := by decide +kernel
theorem d_G_putInOrder_27 : decode prog_2_method_7_code 27 = .ok (.invokevirtual 83, 3) := by decide +kernel
theorem d_G_putInOrder_30 : decode prog_2_method_7_code 30 = .ok (.ifCond .eq 23, 3) := by decide +kernel
theorem d_G_putInOrder_33 : decode prog_2_method_7_code 33 = .ok (.aload_n 0, 1) := by decide +kernel
theorem d_G_putInOrder_34 : decode prog_2_method_7_code 34 = .ok (.getfield 33, 3) := by decide +kernel
theorem d_G_putInOrder_37 : decode prog_2_method_7_code 37 = .ok (.iload_n 3, 1) := by decide +kernel
theorem d_G_putInOrder_38 : decode prog_2_method_7_code 38 = .ok (.aload_n 0, 1) := by decide +kernel
theorem d_G_putInOrder_39 : decode prog_2_method_7_code 39 = .ok (.getfield 33, 3) := by decide +kernel
theorem d_G_putInOrder_42 : decode prog_2_method_7_code 42 = .ok (.iload_n 3, 1) := by decide +kernel
theorem d_G_putInOrder_43 : decode prog_2_method_7_code 43 = .ok (.iconst 1, 1) := by decide +kernel
theorem d_G_putInOrder_44 : decode prog_2_method_7_code 44 = .ok (.isub, 1) := by decide +kernel
theorem d_G_putInOrder_45 : decode prog_2_method_7_code 45 = .ok (.iaload, 1) := by decide +kernel
theorem d_G_putInOrder_46 : decode prog_2_method_7_code 46 = .ok (.iastore, 1) := by decide +kernel
theorem d_G_putInOrder_47 : decode prog_2_method_7_code 47 = .ok (.iinc 3 (-1), 3) := by decide +kernel
theorem d_G_putInOrder_50 : decode prog_2_method_7_code 50 = .ok (.goto (-38), 3) := by decide +kernel
theorem d_G_putInOrder_53 : decode prog_2_method_7_code 53 = .ok (.aload_n 0, 1) := by decide +kernel
theorem d_G_putInOrder_54 : decode prog_2_method_7_code 54 = .ok (.getfield 33, 3) := by decide +kernel
theorem d_G_putInOrder_57 : decode prog_2_method_7_code 57 = .ok (.iload_n 3, 1) := by decide +kernel
theorem d_G_putInOrder_58 : decode prog_2_method_7_code 58 = .ok (.iload_n 2, 1) := by decide +kernel
theorem d_G_putInOrder_59 : decode prog_2_method_7_code 59 = .ok (.iastore, 1) := by decide +kernel
theorem d_G_putInOrder_60 : decode prog_2_method_7_code 60 = .ok (.iinc 2 1, 3) := by decide +kernel
theorem d_G_putInOrder_63 : decode prog_2_method_7_code 63 = .ok (.goto (-61), 3) := by decide +kernel
theorem d_G_putInOrder_66 : decode prog_2_method_7_code 66 = .ok (.iconst 0, 1) := by decide +kernel
theorem d_G_putInOrder_67 : decode prog_2_method_7_code 67 = .ok (.istore_n 2, 1) := by decide +kernel
theorem d_G_putInOrder_68 : decode prog_2_method_7_code 68 = .ok (.iload_n 2, 1) := by decide +kernel
theorem d_G_putInOrder_69 : decode prog_2_method_7_code 69 = .ok (.aload_n 0, 1) := by decide +kernel
theorem d_G_putInOrder_70 : decode prog_2_method_7_code 70 = .ok (.invokevirtual 79, 3) := by decide +kernel
theorem d_G_putInOrder_73 : decode prog_2_method_7_code 73 = .ok (.if_icmp .ge 21, 3) := by decide +kernel
theorem d_G_putInOrder_76 : decode prog_2_method_7_code 76 = .ok (.aload_n 0, 1) := by decide +kernel
theorem d_G_putInOrder_77 : decode prog_2_method_7_code 77 = .ok (.getfield 36, 3) := by decide +kernel
theorem d_G_putInOrder_80 : decode prog_2_method_7_code 80 = .ok (.aload_n 0, 1) := by decide +kernel
theorem d_G_putInOrder_81 : decode prog_2_method_7_code 81 = .ok (.getfield 33, 3) := by decide +kernel
theorem d_G_putInOrder_84 : decode prog_2_method_7_code 84 = .ok (.iload_n 2, 1) := by decide +kernel
theorem d_G_putInOrder_85 : decode prog_2_method_7_code 85 = .ok (.iaload, 1) := by decide +kernel
theorem d_G_putInOrder_86 : decode prog_2_method_7_code 86 = .ok (.iload_n 2, 1) := by decide +kernel
theorem d_G_putInOrder_87 : decode prog_2_method_7_code 87 = .ok (.iastore, 1) := by decide +kernel
theorem d_G_putInOrder_88 : decode prog_2_method_7_code 88 = .ok (.iinc 2 1, 3) := by decide +kernel
theorem d_G_putInOrder_91 : decode prog_2_method_7_code 91 = .ok (.goto (-23), 3) := by decide +kernel
theorem d_G_putInOrder_94 : decode prog_2_method_7_code 94 = .ok (.return_, 1) := by decide +kernel
theorem d_G_comesBefore_0 : decode prog_2_method_8_code 0 = .ok (.aload_n 0, 1) := by decide +kernel
theorem d_G_comesBefore_1 : decode prog_2_method_8_code 1 = .ok (.getfield 27, 3) := by decide +kernel
theorem d_G_comesBefore_4 : decode prog_2_method_8_code 4 = .ok (.iload_n 1, 1) := by decide +kernel
theorem d_G_comesBefore_5 : decode prog_2_method_8_code 5 = .ok (.iaload, 1) := by decide +kernel
theorem d_G_comesBefore_6 : decode prog_2_method_8_code 6 = .ok (.aload_n 0, 1) := by decide +kernel
theorem d_G_comesBefore_7 : decode prog_2_method_8_code 7 = .ok (.getfield 27, 3) := by decide +kernel
theorem d_G_comesBefore_10 : decode prog_2_method_8_code 10 = .ok (.iload_n 2, 1) := by decide +kernel
theorem d_G_comesBefore_11 : decode prog_2_method_8_code 11 = .ok (.iaload, 1) := by decide +kernel
theorem d_G_comesBefore_12 : decode prog_2_method_8_code 12 = .ok (.if_icmp .eq 24, 3) := by decide +kernel
theorem d_G_comesBefore_15 : decode prog_2_method_8_code 15 = .ok (.aload_n 0, 1) := by decide +kernel
theorem d_G_comesBefore_16 : decode prog_2_method_8_code 16 = .ok (.getfield 27, 3) := by decide +kernel
theorem d_G_comesBefore_19 : decode prog_2_method_8_code 19 = .ok (.iload_n 1, 1) := by decide +kernel
theorem d_G_comesBefore_20 : decode prog_2_method_8_code 20 = .ok (.iaload, 1) := by decide +kernel
theorem d_G_comesBefore_21 : decode prog_2_method_8_code 21 = .ok (.aload_n 0, 1) := by decide +kernel
theorem d_G_comesBefore_22 : decode prog_2_method_8_code 22 = .ok (.getfield 27, 3) := by decide +kernel
theorem d_G_comesBefore_25 : decode prog_2_method_8_code 25 = .ok (.iload_n 2, 1) := by decide +kernel
theorem d_G_comesBefore_26 : decode prog_2_method_8_code 26 = .ok (.iaload, 1) := by decide +kernel
theorem d_G_comesBefore_27 : decode prog_2_method_8_code 27 = .ok (.if_icmp .le 7, 3) := by decide +kernel
theorem d_G_comesBefore_30 : decode prog_2_method_8_code 30 = .ok (.iconst 1, 1) := by decide +kernel
theorem d_G_comesBefore_31 : decode prog_2_method_8_code 31 = .ok (.goto 4, 3) := by decide +kernel
theorem d_G_comesBefore_34 : decode prog_2_method_8_code 34 = .ok (.iconst 0, 1) := by decide +kernel
theorem d_G_comesBefore_35 : decode prog_2_method_8_code 35 = .ok (.ireturn, 1) := by decide +kernel
theorem d_G_comesBefore_36 : decode prog_2_method_8_code 36 = .ok (.aload_n 0, 1) := by decide +kernel
theorem d_G_comesBefore_37 : decode prog_2_method_8_code 37 = .ok (.getfield 14, 3) := by decide +kernel
theorem d_G_comesBefore_40 : decode prog_2_method_8_code 40 = .ok (.iload_n 1, 1) := by decide +kernel
theorem d_G_comesBefore_41 : decode prog_2_method_8_code 41 = .ok (.iload_n 3, 1) := by decide +kernel
theorem d_G_comesBefore_42 : decode prog_2_method_8_code 42 = .ok (.invokevirtual 87, 3) := by decide +kernel
theorem d_G_comesBefore_45 : decode prog_2_method_8_code 45 = .ok (.aload_n 0, 1) := by decide +kernel
theorem d_G_comesBefore_46 : decode prog_2_method_8_code 46 = .ok (.getfield 14, 3) := by decide +kernel
theorem d_G_comesBefore_49 : decode prog_2_method_8_code 49 = .ok (.iload_n 2, 1) := by decide +kernel
theorem d_G_comesBefore_50 : decode prog_2_method_8_code 50 = .ok (.iload_n 3, 1) := by decide +kernel
theorem d_G_comesBefore_51 : decode prog_2_method_8_code 51 = .ok (.invokevirtual 87, 3) := by decide +kernel
theorem d_G_comesBefore_54 : decode prog_2_method_8_code 54 = .ok (.isub, 1) := by decide +kernel
theorem d_G_comesBefore_55 : decode prog_2_method_8_code 55 = .ok (.istore 4, 2) := by decide +kernel
theorem d_G_comesBefore_57 : decode prog_2_method_8_code 57 = .ok (.iload 4, 2) := by decide +kernel
theorem d_G_comesBefore_59 : decode prog_2_method_8_code 59 = .ok (.ifCond .eq 14, 3) := by decide +kernel
theorem d_G_comesBefore_62 : decode prog_2_method_8_code 62 = .ok (.iload 4, 2) := by decide +kernel
theorem d_G_comesBefore_64 : decode prog_2_method_8_code 64 = .ok (.ifCond .ge 7, 3) := by decide +kernel
theorem d_G_comesBefore_67 : decode prog_2_method_8_code 67 = .ok (.iconst 1, 1) := by decide +kernel
theorem d_G_comesBefore_68 : decode prog_2_method_8_code 68 = .ok (.goto 4, 3) := by decide +kernel
theorem d_G_comesBefore_71 : decode prog_2_method_8_code 71 = .ok (.iconst 0, 1) := by decide +kernel
theorem d_G_comesBefore_72 : decode prog_2_method_8_code 72 = .ok (.ireturn, 1) := by decide +kernel
theorem d_G_comesBefore_73 : decode prog_2_method_8_code 73 = .ok (.aload_n 0, 1) := by decide +kernel
theorem d_G_comesBefore_74 : decode prog_2_method_8_code 74 = .ok (.getfield 14, 3) := by decide +kernel
theorem d_G_comesBefore_77 : decode prog_2_method_8_code 77 = .ok (.iload_n 1, 1) := by decide +kernel
theorem d_G_comesBefore_78 : decode prog_2_method_8_code 78 = .ok (.iload_n 3, 1) := by decide +kernel
theorem d_G_comesBefore_79 : decode prog_2_method_8_code 79 = .ok (.invokevirtual 91, 3) := by decide +kernel
theorem d_G_comesBefore_82 : decode prog_2_method_8_code 82 = .ok (.aload_n 0, 1) := by decide +kernel
theorem d_G_comesBefore_83 : decode prog_2_method_8_code 83 = .ok (.getfield 14, 3) := by decide +kernel
theorem d_G_comesBefore_86 : decode prog_2_method_8_code 86 = .ok (.iload_n 2, 1) := by decide +kernel
theorem d_G_comesBefore_87 : decode prog_2_method_8_code 87 = .ok (.iload_n 3, 1) := by decide +kernel
theorem d_G_comesBefore_88 : decode prog_2_method_8_code 88 = .ok (.invokevirtual 91, 3) := by decide +kernel
theorem d_G_comesBefore_91 : decode prog_2_method_8_code 91 = .ok (.isub, 1) := by decide +kernel
theorem d_G_comesBefore_92 : decode prog_2_method_8_code 92 = .ok (.istore 5, 2) := by decide +kernel
theorem d_G_comesBefore_94 : decode prog_2_method_8_code 94 = .ok (.iload 5, 2) := by decide +kernel
theorem d_G_comesBefore_96 : decode prog_2_method_8_code 96 = .ok (.ifCond .eq 14, 3) := by decide +kernel
theorem d_G_comesBefore_99 : decode prog_2_method_8_code 99 = .ok (.iload 5, 2) := by decide +kernel
theorem d_G_comesBefore_101 : decode prog_2_method_8_code 101 = .ok (.ifCond .ge 7, 3) := by decide +kernel
theorem d_G_comesBefore_104 : decode prog_2_method_8_code 104 = .ok (.iconst 1, 1) := by decide +kernel
theorem d_G_comesBefore_105 : decode prog_2_method_8_code 105 = .ok (.goto 4, 3) := by decide +kernel
theorem d_G_comesBefore_108 : decode prog_2_method_8_code 108 = .ok (.iconst 0, 1) := by decide +kernel
theorem d_G_comesBefore_109 : decode prog_2_method_8_code 109 = .ok (.ireturn, 1) := by decide +kernel
theorem d_G_comesBefore_110 : decode prog_2_method_8_code 110 = .ok (.iload_n 1, 1) := by decide +kernel
theorem d_G_comesBefore_111 : decode prog_2_method_8_code 111 = .ok (.iload_n 2, 1) := by decide +kernel
theorem d_G_comesBefore_112 : decode prog_2_method_8_code 112 = .ok (.if_icmp .ge 7, 3) := by decide +kernel
theorem d_G_comesBefore_115 : decode prog_2_method_8_code 115 = .ok (.iconst 1, 1) := by decide +kernel
theorem d_G_comesBefore_116 : decode prog_2_method_8_code 116 = .ok (.goto 4, 3) := by decide +kernel
theorem d_G_comesBefore_119 : decode prog_2_method_8_code 119 = .ok (.iconst 0, 1) := by decide +kernel
theorem d_G_comesBefore_120 : decode prog_2_method_8_code 120 = .ok (.ireturn, 1) := by decide +kernel
