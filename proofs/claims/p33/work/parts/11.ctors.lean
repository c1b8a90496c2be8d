theorem dX0_init_0 : decode cX0_init 0 = .ok (.aload_n 0, 1) := by decide +kernel
theorem dX0_init_1 : decode cX0_init 1 = .ok (.invokespecial 3, 3) := by decide +kernel
theorem dX0_init_4 : decode cX0_init 4 = .ok (.aload_n 0, 1) := by decide +kernel
theorem dX0_init_5 : decode cX0_init 5 = .ok (.bipush 6, 2) := by decide +kernel
theorem dX0_init_7 : decode cX0_init 7 = .ok (.newarray .int, 2) := by decide +kernel
theorem dX0_init_9 : decode cX0_init 9 = .ok (.putfield 9, 3) := by decide +kernel
theorem dX0_init_12 : decode cX0_init 12 = .ok (.aload_n 0, 1) := by decide +kernel
theorem dX0_init_13 : decode cX0_init 13 = .ok (.bipush 6, 2) := by decide +kernel
theorem dX0_init_15 : decode cX0_init 15 = .ok (.newarray .int, 2) := by decide +kernel
theorem dX0_init_17 : decode cX0_init 17 = .ok (.putfield 15, 3) := by decide +kernel
theorem dX0_init_20 : decode cX0_init 20 = .ok (.aload_n 0, 1) := by decide +kernel
theorem dX0_init_21 : decode cX0_init 21 = .ok (.bipush 6, 2) := by decide +kernel
theorem dX0_init_23 : decode cX0_init 23 = .ok (.newarray .int, 2) := by decide +kernel
theorem dX0_init_25 : decode cX0_init 25 = .ok (.putfield 18, 3) := by decide +kernel
theorem dX0_init_28 : decode cX0_init 28 = .ok (.aload_n 0, 1) := by decide +kernel
theorem dX0_init_29 : decode cX0_init 29 = .ok (.bipush 6, 2) := by decide +kernel
theorem dX0_init_31 : decode cX0_init 31 = .ok (.newarray .int, 2) := by decide +kernel
theorem dX0_init_33 : decode cX0_init 33 = .ok (.putfield 21, 3) := by decide +kernel
theorem dX0_init_36 : decode cX0_init 36 = .ok (.aload_n 0, 1) := by decide +kernel
theorem dX0_init_37 : decode cX0_init 37 = .ok (.bipush 8, 2) := by decide +kernel
theorem dX0_init_39 : decode cX0_init 39 = .ok (.newarray .int, 2) := by decide +kernel
theorem dX0_init_41 : decode cX0_init 41 = .ok (.putfield 24, 3) := by decide +kernel
theorem dX0_init_44 : decode cX0_init 44 = .ok (.aload_n 0, 1) := by decide +kernel
theorem dX0_init_45 : decode cX0_init 45 = .ok (.bipush 8, 2) := by decide +kernel
theorem dX0_init_47 : decode cX0_init 47 = .ok (.newarray .int, 2) := by decide +kernel
theorem dX0_init_49 : decode cX0_init 49 = .ok (.putfield 27, 3) := by decide +kernel
theorem dX0_init_52 : decode cX0_init 52 = .ok (.aload_n 0, 1) := by decide +kernel
theorem dX0_init_53 : decode cX0_init 53 = .ok (.bipush 8, 2) := by decide +kernel
theorem dX0_init_55 : decode cX0_init 55 = .ok (.newarray .int, 2) := by decide +kernel
theorem dX0_init_57 : decode cX0_init 57 = .ok (.putfield 30, 3) := by decide +kernel
theorem dX0_init_60 : decode cX0_init 60 = .ok (.aload_n 0, 1) := by decide +kernel
theorem dX0_init_61 : decode cX0_init 61 = .ok (.bipush 8, 2) := by decide +kernel
theorem dX0_init_63 : decode cX0_init 63 = .ok (.newarray .int, 2) := by decide +kernel
theorem dX0_init_65 : decode cX0_init 65 = .ok (.putfield 33, 3) := by decide +kernel
theorem dX0_init_68 : decode cX0_init 68 = .ok (.return_, 1) := by decide +kernel
theorem dX10_init_0 : decode cX10_init 0 = .ok (.aload_n 0, 1) := by decide +kernel
theorem dX10_init_1 : decode cX10_init 1 = .ok (.invokespecial 3, 3) := by decide +kernel
theorem dX10_init_4 : decode cX10_init 4 = .ok (.aload_n 0, 1) := by decide +kernel
theorem dX10_init_5 : decode cX10_init 5 = .ok (.bipush 6, 2) := by decide +kernel
theorem dX10_init_7 : decode cX10_init 7 = .ok (.newarray .int, 2) := by decide +kernel
theorem dX10_init_9 : decode cX10_init 9 = .ok (.putfield 9, 3) := by decide +kernel
theorem dX10_init_12 : decode cX10_init 12 = .ok (.aload_n 0, 1) := by decide +kernel
theorem dX10_init_13 : decode cX10_init 13 = .ok (.bipush 6, 2) := by decide +kernel
theorem dX10_init_15 : decode cX10_init 15 = .ok (.newarray .int, 2) := by decide +kernel
theorem dX10_init_17 : decode cX10_init 17 = .ok (.putfield 15, 3) := by decide +kernel
theorem dX10_init_20 : decode cX10_init 20 = .ok (.aload_n 0, 1) := by decide +kernel
theorem dX10_init_21 : decode cX10_init 21 = .ok (.bipush 6, 2) := by decide +kernel
theorem dX10_init_23 : decode cX10_init 23 = .ok (.newarray .int, 2) := by decide +kernel
theorem dX10_init_25 : decode cX10_init 25 = .ok (.putfield 18, 3) := by decide +kernel
theorem dX10_init_28 : decode cX10_init 28 = .ok (.aload_n 0, 1) := by decide +kernel
theorem dX10_init_29 : decode cX10_init 29 = .ok (.bipush 8, 2) := by decide +kernel
theorem dX10_init_31 : decode cX10_init 31 = .ok (.newarray .int, 2) := by decide +kernel
theorem dX10_init_33 : decode cX10_init 33 = .ok (.putfield 21, 3) := by decide +kernel
theorem dX10_init_36 : decode cX10_init 36 = .ok (.aload_n 0, 1) := by decide +kernel
theorem dX10_init_37 : decode cX10_init 37 = .ok (.bipush 8, 2) := by decide +kernel
theorem dX10_init_39 : decode cX10_init 39 = .ok (.newarray .int, 2) := by decide +kernel
theorem dX10_init_41 : decode cX10_init 41 = .ok (.putfield 24, 3) := by decide +kernel
theorem dX10_init_44 : decode cX10_init 44 = .ok (.aload_n 0, 1) := by decide +kernel
theorem dX10_init_45 : decode cX10_init 45 = .ok (.bipush 8, 2) := by decide +kernel
theorem dX10_init_47 : decode cX10_init 47 = .ok (.newarray .int, 2) := by decide +kernel
theorem dX10_init_49 : decode cX10_init 49 = .ok (.putfield 27, 3) := by decide +kernel
theorem dX10_init_52 : decode cX10_init 52 = .ok (.aload_n 0, 1) := by decide +kernel
theorem dX10_init_53 : decode cX10_init 53 = .ok (.bipush 37, 2) := by decide +kernel
theorem dX10_init_55 : decode cX10_init 55 = .ok (.putfield 30, 3) := by decide +kernel
theorem dX10_init_58 : decode cX10_init 58 = .ok (.aload_n 0, 1) := by decide +kernel
theorem dX10_init_59 : decode cX10_init 59 = .ok (.bipush 40, 2) := by decide +kernel
theorem dX10_init_61 : decode cX10_init 61 = .ok (.newarray .int, 2) := by decide +kernel
theorem dX10_init_63 : decode cX10_init 63 = .ok (.putfield 34, 3) := by decide +kernel
theorem dX10_init_66 : decode cX10_init 66 = .ok (.aload_n 0, 1) := by decide +kernel
theorem dX10_init_67 : decode cX10_init 67 = .ok (.bipush 20, 2) := by decide +kernel
theorem dX10_init_69 : decode cX10_init 69 = .ok (.newarray .int, 2) := by decide +kernel
theorem dX10_init_71 : decode cX10_init 71 = .ok (.putfield 37, 3) := by decide +kernel
theorem dX10_init_74 : decode cX10_init 74 = .ok (.return_, 1) := by decide +kernel
theorem dX1_init_0 : decode cX1_init 0 = .ok (.aload_n 0, 1) := by decide +kernel
theorem dX1_init_1 : decode cX1_init 1 = .ok (.invokespecial 3, 3) := by decide +kernel
theorem dX1_init_4 : decode cX1_init 4 = .ok (.aload_n 0, 1) := by decide +kernel
theorem dX1_init_5 : decode cX1_init 5 = .ok (.bipush 6, 2) := by decide +kernel
theorem dX1_init_7 : decode cX1_init 7 = .ok (.newarray .int, 2) := by decide +kernel
theorem dX1_init_9 : decode cX1_init 9 = .ok (.putfield 9, 3) := by decide +kernel
theorem dX1_init_12 : decode cX1_init 12 = .ok (.aload_n 0, 1) := by decide +kernel
theorem dX1_init_13 : decode cX1_init 13 = .ok (.bipush 6, 2) := by decide +kernel
theorem dX1_init_15 : decode cX1_init 15 = .ok (.newarray .int, 2) := by decide +kernel
theorem dX1_init_17 : decode cX1_init 17 = .ok (.putfield 15, 3) := by decide +kernel
theorem dX1_init_20 : decode cX1_init 20 = .ok (.aload_n 0, 1) := by decide +kernel
theorem dX1_init_21 : decode cX1_init 21 = .ok (.bipush 6, 2) := by decide +kernel
theorem dX1_init_23 : decode cX1_init 23 = .ok (.newarray .int, 2) := by decide +kernel
theorem dX1_init_25 : decode cX1_init 25 = .ok (.putfield 18, 3) := by decide +kernel
theorem dX1_init_28 : decode cX1_init 28 = .ok (.aload_n 0, 1) := by decide +kernel
theorem dX1_init_29 : decode cX1_init 29 = .ok (.bipush 12, 2) := by decide +kernel
theorem dX1_init_31 : decode cX1_init 31 = .ok (.newarray .int, 2) := by decide +kernel
theorem dX1_init_33 : decode cX1_init 33 = .ok (.putfield 21, 3) := by decide +kernel
theorem dX1_init_36 : decode cX1_init 36 = .ok (.aload_n 0, 1) := by decide +kernel
theorem dX1_init_37 : decode cX1_init 37 = .ok (.bipush 12, 2) := by decide +kernel
theorem dX1_init_39 : decode cX1_init 39 = .ok (.newarray .boolean, 2) := by decide +kernel
theorem dX1_init_41 : decode cX1_init 41 = .ok (.putfield 24, 3) := by decide +kernel
theorem dX1_init_44 : decode cX1_init 44 = .ok (.aload_n 0, 1) := by decide +kernel
theorem dX1_init_45 : decode cX1_init 45 = .ok (.bipush 10, 2) := by decide +kernel
theorem dX1_init_47 : decode cX1_init 47 = .ok (.newarray .boolean, 2) := by decide +kernel
theorem dX1_init_49 : decode cX1_init 49 = .ok (.putfield 28, 3) := by decide +kernel
theorem dX1_init_52 : decode cX1_init 52 = .ok (.aload_n 0, 1) := by decide +kernel
theorem dX1_init_53 : decode cX1_init 53 = .ok (.bipush 10, 2) := by decide +kernel
theorem dX1_init_55 : decode cX1_init 55 = .ok (.newarray .int, 2) := by decide +kernel
theorem dX1_init_57 : decode cX1_init 57 = .ok (.putfield 31, 3) := by decide +kernel
theorem dX1_init_60 : decode cX1_init 60 = .ok (.aload_n 0, 1) := by decide +kernel
theorem dX1_init_61 : decode cX1_init 61 = .ok (.bipush 10, 2) := by decide +kernel
theorem dX1_init_63 : decode cX1_init 63 = .ok (.newarray .int, 2) := by decide +kernel
theorem dX1_init_65 : decode cX1_init 65 = .ok (.putfield 34, 3) := by decide +kernel
theorem dX1_init_68 : decode cX1_init 68 = .ok (.return_, 1) := by decide +kernel
theorem dX3_init_0 : decode cX3_init 0 = .ok (.aload_n 0, 1) := by decide +kernel
theorem dX3_init_1 : decode cX3_init 1 = .ok (.invokespecial 3, 3) := by decide +kernel
theorem dX3_init_4 : decode cX3_init 4 = .ok (.aload_n 0, 1) := by decide +kernel
theorem dX3_init_5 : decode cX3_init 5 = .ok (.iconst (-1), 1) := by decide +kernel
theorem dX3_init_6 : decode cX3_init 6 = .ok (.putfield 9, 3) := by decide +kernel
theorem dX3_init_9 : decode cX3_init 9 = .ok (.aload_n 0, 1) := by decide +kernel
theorem dX3_init_10 : decode cX3_init 10 = .ok (.iconst (-1), 1) := by decide +kernel
theorem dX3_init_11 : decode cX3_init 11 = .ok (.putfield 15, 3) := by decide +kernel
theorem dX3_init_14 : decode cX3_init 14 = .ok (.aload_n 0, 1) := by decide +kernel
theorem dX3_init_15 : decode cX3_init 15 = .ok (.aload_n 1, 1) := by decide +kernel
theorem dX3_init_16 : decode cX3_init 16 = .ok (.putfield 18, 3) := by decide +kernel
theorem dX3_init_19 : decode cX3_init 19 = .ok (.return_, 1) := by decide +kernel
theorem dX6_init_0 : decode cX6_init 0 = .ok (.aload_n 0, 1) := by decide +kernel
theorem dX6_init_1 : decode cX6_init 1 = .ok (.invokespecial 3, 3) := by decide +kernel
theorem dX6_init_4 : decode cX6_init 4 = .ok (.aload_n 0, 1) := by decide +kernel
theorem dX6_init_5 : decode cX6_init 5 = .ok (.sipush 301, 3) := by decide +kernel
theorem dX6_init_8 : decode cX6_init 8 = .ok (.newarray .int, 2) := by decide +kernel
theorem dX6_init_10 : decode cX6_init 10 = .ok (.putfield 9, 3) := by decide +kernel
theorem dX6_init_13 : decode cX6_init 13 = .ok (.aload_n 0, 1) := by decide +kernel
theorem dX6_init_14 : decode cX6_init 14 = .ok (.sipush 301, 3) := by decide +kernel
theorem dX6_init_17 : decode cX6_init 17 = .ok (.newarray .int, 2) := by decide +kernel
theorem dX6_init_19 : decode cX6_init 19 = .ok (.putfield 15, 3) := by decide +kernel
theorem dX6_init_22 : decode cX6_init 22 = .ok (.aload_n 0, 1) := by decide +kernel
theorem dX6_init_23 : decode cX6_init 23 = .ok (.sipush 301, 3) := by decide +kernel
theorem dX6_init_26 : decode cX6_init 26 = .ok (.newarray .int, 2) := by decide +kernel
theorem dX6_init_28 : decode cX6_init 28 = .ok (.putfield 18, 3) := by decide +kernel
theorem dX6_init_31 : decode cX6_init 31 = .ok (.aload_n 0, 1) := by decide +kernel
theorem dX6_init_32 : decode cX6_init 32 = .ok (.sipush 300, 3) := by decide +kernel
theorem dX6_init_35 : decode cX6_init 35 = .ok (.newarray .int, 2) := by decide +kernel
theorem dX6_init_37 : decode cX6_init 37 = .ok (.putfield 21, 3) := by decide +kernel
theorem dX6_init_40 : decode cX6_init 40 = .ok (.return_, 1) := by decide +kernel
theorem dX7_init_0 : decode cX7_init 0 = .ok (.aload_n 0, 1) := by decide +kernel
theorem dX7_init_1 : decode cX7_init 1 = .ok (.invokespecial 3, 3) := by decide +kernel
theorem dX7_init_4 : decode cX7_init 4 = .ok (.aload_n 0, 1) := by decide +kernel
theorem dX7_init_5 : decode cX7_init 5 = .ok (.bipush 24, 2) := by decide +kernel
theorem dX7_init_7 : decode cX7_init 7 = .ok (.newarray .int, 2) := by decide +kernel
theorem dX7_init_9 : decode cX7_init 9 = .ok (.putfield 9, 3) := by decide +kernel
theorem dX7_init_12 : decode cX7_init 12 = .ok (.aload_n 0, 1) := by decide +kernel
theorem dX7_init_13 : decode cX7_init 13 = .ok (.bipush 72, 2) := by decide +kernel
theorem dX7_init_15 : decode cX7_init 15 = .ok (.newarray .int, 2) := by decide +kernel
theorem dX7_init_17 : decode cX7_init 17 = .ok (.putfield 15, 3) := by decide +kernel
theorem dX7_init_20 : decode cX7_init 20 = .ok (.aload_n 0, 1) := by decide +kernel
theorem dX7_init_21 : decode cX7_init 21 = .ok (.sipush 300, 3) := by decide +kernel
theorem dX7_init_24 : decode cX7_init 24 = .ok (.newarray .int, 2) := by decide +kernel
theorem dX7_init_26 : decode cX7_init 26 = .ok (.putfield 18, 3) := by decide +kernel
theorem dX7_init_29 : decode cX7_init 29 = .ok (.aload_n 0, 1) := by decide +kernel
theorem dX7_init_30 : decode cX7_init 30 = .ok (.sipush 300, 3) := by decide +kernel
theorem dX7_init_33 : decode cX7_init 33 = .ok (.newarray .int, 2) := by decide +kernel
theorem dX7_init_35 : decode cX7_init 35 = .ok (.putfield 21, 3) := by decide +kernel
theorem dX7_init_38 : decode cX7_init 38 = .ok (.aload_n 0, 1) := by decide +kernel
theorem dX7_init_39 : decode cX7_init 39 = .ok (.sipush 300, 3) := by decide +kernel
theorem dX7_init_42 : decode cX7_init 42 = .ok (.newarray .int, 2) := by decide +kernel
theorem dX7_init_44 : decode cX7_init 44 = .ok (.putfield 24, 3) := by decide +kernel
theorem dX7_init_47 : decode cX7_init 47 = .ok (.aload_n 0, 1) := by decide +kernel
theorem dX7_init_48 : decode cX7_init 48 = .ok (.sipush 300, 3) := by decide +kernel
theorem dX7_init_51 : decode cX7_init 51 = .ok (.newarray .int, 2) := by decide +kernel
theorem dX7_init_53 : decode cX7_init 53 = .ok (.putfield 27, 3) := by decide +kernel
theorem dX7_init_56 : decode cX7_init 56 = .ok (.aload_n 0, 1) := by decide +kernel
theorem dX7_init_57 : decode cX7_init 57 = .ok (.iconst 5, 1) := by decide +kernel
theorem dX7_init_58 : decode cX7_init 58 = .ok (.newarray .int, 2) := by decide +kernel
theorem dX7_init_60 : decode cX7_init 60 = .ok (.putfield 30, 3) := by decide +kernel
theorem dX7_init_63 : decode cX7_init 63 = .ok (.aload_n 0, 1) := by decide +kernel
theorem dX7_init_64 : decode cX7_init 64 = .ok (.iconst 5, 1) := by decide +kernel
theorem dX7_init_65 : decode cX7_init 65 = .ok (.newarray .int, 2) := by decide +kernel
theorem dX7_init_67 : decode cX7_init 67 = .ok (.putfield 33, 3) := by decide +kernel
theorem dX7_init_70 : decode cX7_init 70 = .ok (.aload_n 0, 1) := by decide +kernel
theorem dX7_init_71 : decode cX7_init 71 = .ok (.iconst 5, 1) := by decide +kernel
theorem dX7_init_72 : decode cX7_init 72 = .ok (.newarray .int, 2) := by decide +kernel
theorem dX7_init_74 : decode cX7_init 74 = .ok (.putfield 36, 3) := by decide +kernel
theorem dX7_init_77 : decode cX7_init 77 = .ok (.aload_n 0, 1) := by decide +kernel
theorem dX7_init_78 : decode cX7_init 78 = .ok (.iconst 5, 1) := by decide +kernel
theorem dX7_init_79 : decode cX7_init 79 = .ok (.newarray .int, 2) := by decide +kernel
theorem dX7_init_81 : decode cX7_init 81 = .ok (.putfield 39, 3) := by decide +kernel
theorem dX7_init_84 : decode cX7_init 84 = .ok (.return_, 1) := by decide +kernel
theorem dX8_init_0 : decode cX8_init 0 = .ok (.aload_n 0, 1) := by decide +kernel
theorem dX8_init_1 : decode cX8_init 1 = .ok (.invokespecial 3, 3) := by decide +kernel
theorem dX8_init_4 : decode cX8_init 4 = .ok (.aload_n 0, 1) := by decide +kernel
theorem dX8_init_5 : decode cX8_init 5 = .ok (.bipush 6, 2) := by decide +kernel
theorem dX8_init_7 : decode cX8_init 7 = .ok (.newarray .int, 2) := by decide +kernel
theorem dX8_init_9 : decode cX8_init 9 = .ok (.putfield 9, 3) := by decide +kernel
theorem dX8_init_12 : decode cX8_init 12 = .ok (.aload_n 0, 1) := by decide +kernel
theorem dX8_init_13 : decode cX8_init 13 = .ok (.bipush 6, 2) := by decide +kernel
theorem dX8_init_15 : decode cX8_init 15 = .ok (.newarray .int, 2) := by decide +kernel
theorem dX8_init_17 : decode cX8_init 17 = .ok (.putfield 15, 3) := by decide +kernel
theorem dX8_init_20 : decode cX8_init 20 = .ok (.aload_n 0, 1) := by decide +kernel
theorem dX8_init_21 : decode cX8_init 21 = .ok (.aload_n 1, 1) := by decide +kernel
theorem dX8_init_22 : decode cX8_init 22 = .ok (.putfield 18, 3) := by decide +kernel
theorem dX8_init_25 : decode cX8_init 25 = .ok (.return_, 1) := by decide +kernel
theorem dX9_init_0 : decode cX9_init 0 = .ok (.aload_n 0, 1) := by decide +kernel
theorem dX9_init_1 : decode cX9_init 1 = .ok (.invokespecial 3, 3) := by decide +kernel
theorem dX9_init_4 : decode cX9_init 4 = .ok (.aload_n 0, 1) := by decide +kernel
theorem dX9_init_5 : decode cX9_init 5 = .ok (.iconst (-1), 1) := by decide +kernel
theorem dX9_init_6 : decode cX9_init 6 = .ok (.putfield 9, 3) := by decide +kernel
theorem dX9_init_9 : decode cX9_init 9 = .ok (.aload_n 0, 1) := by decide +kernel
theorem dX9_init_10 : decode cX9_init 10 = .ok (.bipush 8, 2) := by decide +kernel
theorem dX9_init_12 : decode cX9_init 12 = .ok (.newarray .int, 2) := by decide +kernel
theorem dX9_init_14 : decode cX9_init 14 = .ok (.putfield 15, 3) := by decide +kernel
theorem dX9_init_17 : decode cX9_init 17 = .ok (.aload_n 0, 1) := by decide +kernel
theorem dX9_init_18 : decode cX9_init 18 = .ok (.bipush 6, 2) := by decide +kernel
theorem dX9_init_20 : decode cX9_init 20 = .ok (.newarray .int, 2) := by decide +kernel
theorem dX9_init_22 : decode cX9_init 22 = .ok (.putfield 19, 3) := by decide +kernel
theorem dX9_init_25 : decode cX9_init 25 = .ok (.aload_n 0, 1) := by decide +kernel
theorem dX9_init_26 : decode cX9_init 26 = .ok (.bipush 96, 2) := by decide +kernel
theorem dX9_init_28 : decode cX9_init 28 = .ok (.newarray .int, 2) := by decide +kernel
theorem dX9_init_30 : decode cX9_init 30 = .ok (.putfield 22, 3) := by decide +kernel
theorem dX9_init_33 : decode cX9_init 33 = .ok (.aload_n 0, 1) := by decide +kernel
theorem dX9_init_34 : decode cX9_init 34 = .ok (.sipush 300, 3) := by decide +kernel
theorem dX9_init_37 : decode cX9_init 37 = .ok (.newarray .int, 2) := by decide +kernel
theorem dX9_init_39 : decode cX9_init 39 = .ok (.putfield 25, 3) := by decide +kernel
theorem dX9_init_42 : decode cX9_init 42 = .ok (.aload_n 0, 1) := by decide +kernel
theorem dX9_init_43 : decode cX9_init 43 = .ok (.aload_n 1, 1) := by decide +kernel
theorem dX9_init_44 : decode cX9_init 44 = .ok (.putfield 28, 3) := by decide +kernel
theorem dX9_init_47 : decode cX9_init 47 = .ok (.return_, 1) := by decide +kernel
-- Land()
set_option maxHeartbeats 4000000 in
set_option maxRecDepth 100000 in
theorem k_Land (l : Launch) (D : va_G) (cy : Nat → ClassId) (L : List Nat) (σ : Nat → va_E) (φ : Nat → Nat → Nat → Int32) (ρ : Nat → Nat → Int32) {w  : Nat} (hw_0 : zT L σ w (.inr (0, [.int 0, .int 0, .null, .null, .null, .null, .null, .null, .null, .null]))) : zMV l D cy yX0_init cX0_init 1 (zrm 1 8 56) [.ref w] L σ φ ρ (fun u => zX w L σ φ ρ u.1 u.2.1 u.2.2.1 u.2.2.2 ∧ zLand cy u.1 u.2.1 w ∧ ∀ c i, u.2.2.1 c i w = φ c i w) := by
  refine zMV.mk (by decide) (Nat.le_of_ble_eq_true rfl) (fun E hE hI hret => ?_)
  have hI := hI rfl
  show zW E 0 0 L σ φ ρ 0 [(0, .ref w)] []
  refine x_aload_n hE dX0_init_0 rfl 0 rfl ?_
  refine x_objinit hE q153 q140 q141 dX0_init_1 (Nat.le_of_ble_eq_true rfl) (Nat.le_of_ble_eq_true rfl) ?_
  refine x_aload_n hE dX0_init_4 rfl 0 rfl ?_
  refine x_bipush (v := 6) hE dX0_init_5 (by decide) ?_
  refine x_np (t0 := 0) (ty := .int) (fty := (.array .int)) (ty0 := tyX0) (N0 := 6) (x := (6, .inl (fun _ => 0))) (j0 := 2) hE hI hw_0 rfl inZX0 tyX0_ok nmX0 (by decide) q163 rfl rfl rfl (by decide +kernel) (fun _ => ⟨rfl, rfl⟩) rfl (fun _ h => nomatch h) q207 rfl (fun _ => rfl) (fun _ => rfl) (fun _ => rfl) (by decide) (by decide) (Nat.le_of_ble_eq_true rfl) (Nat.le_of_ble_eq_true rfl) (Nat.le_of_ble_eq_true rfl) dX0_init_7 dX0_init_9 (fun q_1 L_1 σ_1 φ_1 ρ_1 hn_1 hx_1 hw_1 hp_1 ha_1 hr_1 => ?_)
  refine x_aload_n hE dX0_init_12 rfl 0 rfl ?_
  refine x_bipush (v := 6) hE dX0_init_13 (by decide) ?_
  refine x_np (t0 := 0) (ty := .int) (fty := (.array .int)) (ty0 := tyX0) (N0 := 6) (x := (6, .inl (fun _ => 0))) (j0 := 3) hE hI hw_1 rfl inZX0 tyX0_ok nmX0 (by decide) q166 rfl rfl rfl (by decide +kernel) (fun _ => ⟨rfl, rfl⟩) rfl (fun _ h => nomatch h) q207 rfl (fun _ => rfl) (fun _ => rfl) (fun _ => rfl) (by decide) (by decide) (Nat.le_of_ble_eq_true rfl) (Nat.le_of_ble_eq_true rfl) (Nat.le_of_ble_eq_true rfl) dX0_init_15 dX0_init_17 (fun q_2 L_2 σ_2 φ_2 ρ_2 hn_2 hx_2 hw_2 hp_2 ha_2 hr_2 => ?_)
  refine x_aload_n hE dX0_init_20 rfl 0 rfl ?_
  refine x_bipush (v := 6) hE dX0_init_21 (by decide) ?_
  refine x_np (t0 := 0) (ty := .int) (fty := (.array .int)) (ty0 := tyX0) (N0 := 6) (x := (6, .inl (fun _ => 0))) (j0 := 4) hE hI hw_2 rfl inZX0 tyX0_ok nmX0 (by decide) q170 rfl rfl rfl (by decide +kernel) (fun _ => ⟨rfl, rfl⟩) rfl (fun _ h => nomatch h) q207 rfl (fun _ => rfl) (fun _ => rfl) (fun _ => rfl) (by decide) (by decide) (Nat.le_of_ble_eq_true rfl) (Nat.le_of_ble_eq_true rfl) (Nat.le_of_ble_eq_true rfl) dX0_init_23 dX0_init_25 (fun q_3 L_3 σ_3 φ_3 ρ_3 hn_3 hx_3 hw_3 hp_3 ha_3 hr_3 => ?_)
  refine x_aload_n hE dX0_init_28 rfl 0 rfl ?_
  refine x_bipush (v := 6) hE dX0_init_29 (by decide) ?_
  refine x_np (t0 := 0) (ty := .int) (fty := (.array .int)) (ty0 := tyX0) (N0 := 6) (x := (6, .inl (fun _ => 0))) (j0 := 5) hE hI hw_3 rfl inZX0 tyX0_ok nmX0 (by decide) q174 rfl rfl rfl (by decide +kernel) (fun _ => ⟨rfl, rfl⟩) rfl (fun _ h => nomatch h) q207 rfl (fun _ => rfl) (fun _ => rfl) (fun _ => rfl) (by decide) (by decide) (Nat.le_of_ble_eq_true rfl) (Nat.le_of_ble_eq_true rfl) (Nat.le_of_ble_eq_true rfl) dX0_init_31 dX0_init_33 (fun q_4 L_4 σ_4 φ_4 ρ_4 hn_4 hx_4 hw_4 hp_4 ha_4 hr_4 => ?_)
  refine x_aload_n hE dX0_init_36 rfl 0 rfl ?_
  refine x_bipush (v := 8) hE dX0_init_37 (by decide) ?_
  refine x_np (t0 := 0) (ty := .int) (fty := (.array .int)) (ty0 := tyX0) (N0 := 8) (x := (8, .inl (fun _ => 0))) (j0 := 6) hE hI hw_4 rfl inZX0 tyX0_ok nmX0 (by decide) q176 rfl rfl rfl (by decide +kernel) (fun _ => ⟨rfl, rfl⟩) rfl (fun _ h => nomatch h) q207 rfl (fun _ => rfl) (fun _ => rfl) (fun _ => rfl) (by decide) (by decide) (Nat.le_of_ble_eq_true rfl) (Nat.le_of_ble_eq_true rfl) (Nat.le_of_ble_eq_true rfl) dX0_init_39 dX0_init_41 (fun q_5 L_5 σ_5 φ_5 ρ_5 hn_5 hx_5 hw_5 hp_5 ha_5 hr_5 => ?_)
  refine x_aload_n hE dX0_init_44 rfl 0 rfl ?_
  refine x_bipush (v := 8) hE dX0_init_45 (by decide) ?_
  refine x_np (t0 := 0) (ty := .int) (fty := (.array .int)) (ty0 := tyX0) (N0 := 8) (x := (8, .inl (fun _ => 0))) (j0 := 7) hE hI hw_5 rfl inZX0 tyX0_ok nmX0 (by decide) q179 rfl rfl rfl (by decide +kernel) (fun _ => ⟨rfl, rfl⟩) rfl (fun _ h => nomatch h) q207 rfl (fun _ => rfl) (fun _ => rfl) (fun _ => rfl) (by decide) (by decide) (Nat.le_of_ble_eq_true rfl) (Nat.le_of_ble_eq_true rfl) (Nat.le_of_ble_eq_true rfl) dX0_init_47 dX0_init_49 (fun q_6 L_6 σ_6 φ_6 ρ_6 hn_6 hx_6 hw_6 hp_6 ha_6 hr_6 => ?_)
  refine x_aload_n hE dX0_init_52 rfl 0 rfl ?_
  refine x_bipush (v := 8) hE dX0_init_53 (by decide) ?_
  refine x_np (t0 := 0) (ty := .int) (fty := (.array .int)) (ty0 := tyX0) (N0 := 8) (x := (8, .inl (fun _ => 0))) (j0 := 8) hE hI hw_6 rfl inZX0 tyX0_ok nmX0 (by decide) q182 rfl rfl rfl (by decide +kernel) (fun _ => ⟨rfl, rfl⟩) rfl (fun _ h => nomatch h) q207 rfl (fun _ => rfl) (fun _ => rfl) (fun _ => rfl) (by decide) (by decide) (Nat.le_of_ble_eq_true rfl) (Nat.le_of_ble_eq_true rfl) (Nat.le_of_ble_eq_true rfl) dX0_init_55 dX0_init_57 (fun q_7 L_7 σ_7 φ_7 ρ_7 hn_7 hx_7 hw_7 hp_7 ha_7 hr_7 => ?_)
  refine x_aload_n hE dX0_init_60 rfl 0 rfl ?_
  refine x_bipush (v := 8) hE dX0_init_61 (by decide) ?_
  refine x_np (t0 := 0) (ty := .int) (fty := (.array .int)) (ty0 := tyX0) (N0 := 8) (x := (8, .inl (fun _ => 0))) (j0 := 9) hE hI hw_7 rfl inZX0 tyX0_ok nmX0 (by decide) q184 rfl rfl rfl (by decide +kernel) (fun _ => ⟨rfl, rfl⟩) rfl (fun _ h => nomatch h) q207 rfl (fun _ => rfl) (fun _ => rfl) (fun _ => rfl) (by decide) (by decide) (Nat.le_of_ble_eq_true rfl) (Nat.le_of_ble_eq_true rfl) (Nat.le_of_ble_eq_true rfl) dX0_init_63 dX0_init_65 (fun q_8 L_8 σ_8 φ_8 ρ_8 hn_8 hx_8 hw_8 hp_8 ha_8 hr_8 => ?_)
  have hX_8 := hx_8
  have hX_7 := hx_7.tr hX_8
  have hX_6 := hx_6.tr hX_7
  have hX_5 := hx_5.tr hX_6
  have hX_4 := hx_4.tr hX_5
  have hX_3 := hx_3.tr hX_4
  have hX_2 := hx_2.tr hX_3
  have hX_1 := hx_1.tr hX_2
  exact hret _ _ _ _ _ _ _ _ (Nat.le_of_ble_eq_true rfl) (Nat.le_of_ble_eq_true rfl) dX0_init_68 ⟨hX_1, ⟨q_1, q_2, q_3, q_4, q_5, q_6, q_7, q_8, hw_8, (hX_2.T ha_1 (zT.ne ha_1 hw_1 (by simp))), (hX_3.T ha_2 (zT.ne ha_2 hw_2 (by simp))), (hX_4.T ha_3 (zT.ne ha_3 hw_3 (by simp))), (hX_5.T ha_4 (zT.ne ha_4 hw_4 (by simp))), (hX_6.T ha_5 (zT.ne ha_5 hw_5 (by simp))), (hX_7.T ha_6 (zT.ne ha_6 hw_6 (by simp))), (hX_8.T ha_7 (zT.ne ha_7 hw_7 (by simp))), ha_8⟩, fun c i => by show φ_8 c i w = _; rw [hp_8, hp_7, hp_6, hp_5, hp_4, hp_3, hp_2, hp_1]⟩
-- World()
set_option maxHeartbeats 4000000 in
set_option maxRecDepth 100000 in
theorem k_World (l : Launch) (D : va_G) (cy : Nat → ClassId) (L : List Nat) (σ : Nat → va_E) (φ : Nat → Nat → Nat → Int32) (ρ : Nat → Nat → Int32) {w  : Nat} (hw_0 : zT L σ w (.inr (10, [.null, .null, .null, .null, .null, .null, .int 0, .int 0, .int 0, .int 0, .int 0, .int 0, .int 0, .null, .null]))) : zMV l D cy yX10_init cX10_init 1 (zrm 1 8 102) [.ref w] L σ φ ρ (fun u => zX w L σ φ ρ u.1 u.2.1 u.2.2.1 u.2.2.2 ∧ zWorld cy u.1 u.2.1 w ∧ ∀ c i, u.2.2.1 c i w = if c = 10 ∧ i = 10 then 37 else φ c i w) := by
  refine zMV.mk (by decide) (Nat.le_of_ble_eq_true rfl) (fun E hE hI hret => ?_)
  have hI := hI rfl
  show zW E 0 0 L σ φ ρ 0 [(0, .ref w)] []
  refine x_aload_n hE dX10_init_0 rfl 0 rfl ?_
  refine x_objinit hE q213 q140 q141 dX10_init_1 (Nat.le_of_ble_eq_true rfl) (Nat.le_of_ble_eq_true rfl) ?_
  refine x_aload_n hE dX10_init_4 rfl 0 rfl ?_
  refine x_bipush (v := 6) hE dX10_init_5 (by decide) ?_
  refine x_np (t0 := 0) (ty := .int) (fty := (.array .int)) (ty0 := tyX10) (N0 := 6) (x := (6, .inl (fun _ => 0))) (j0 := 0) hE hI hw_0 rfl inZX10 tyX10_ok nmX10 (by decide) q214 rfl rfl rfl (by decide +kernel) (fun _ => ⟨rfl, rfl⟩) rfl (fun _ h => nomatch h) q207 rfl (fun _ => rfl) (fun _ => rfl) (fun _ => rfl) (by decide) (by decide) (Nat.le_of_ble_eq_true rfl) (Nat.le_of_ble_eq_true rfl) (Nat.le_of_ble_eq_true rfl) dX10_init_7 dX10_init_9 (fun q_1 L_1 σ_1 φ_1 ρ_1 hn_1 hx_1 hw_1 hp_1 ha_1 hr_1 => ?_)
  refine x_aload_n hE dX10_init_12 rfl 0 rfl ?_
  refine x_bipush (v := 6) hE dX10_init_13 (by decide) ?_
  refine x_np (t0 := 0) (ty := .int) (fty := (.array .int)) (ty0 := tyX10) (N0 := 6) (x := (6, .inl (fun _ => 0))) (j0 := 1) hE hI hw_1 rfl inZX10 tyX10_ok nmX10 (by decide) q218 rfl rfl rfl (by decide +kernel) (fun _ => ⟨rfl, rfl⟩) rfl (fun _ h => nomatch h) q207 rfl (fun _ => rfl) (fun _ => rfl) (fun _ => rfl) (by decide) (by decide) (Nat.le_of_ble_eq_true rfl) (Nat.le_of_ble_eq_true rfl) (Nat.le_of_ble_eq_true rfl) dX10_init_15 dX10_init_17 (fun q_2 L_2 σ_2 φ_2 ρ_2 hn_2 hx_2 hw_2 hp_2 ha_2 hr_2 => ?_)
  refine x_aload_n hE dX10_init_20 rfl 0 rfl ?_
  refine x_bipush (v := 6) hE dX10_init_21 (by decide) ?_
  refine x_np (t0 := 0) (ty := .int) (fty := (.array .int)) (ty0 := tyX10) (N0 := 6) (x := (6, .inl (fun _ => 0))) (j0 := 2) hE hI hw_2 rfl inZX10 tyX10_ok nmX10 (by decide) q222 rfl rfl rfl (by decide +kernel) (fun _ => ⟨rfl, rfl⟩) rfl (fun _ h => nomatch h) q207 rfl (fun _ => rfl) (fun _ => rfl) (fun _ => rfl) (by decide) (by decide) (Nat.le_of_ble_eq_true rfl) (Nat.le_of_ble_eq_true rfl) (Nat.le_of_ble_eq_true rfl) dX10_init_23 dX10_init_25 (fun q_3 L_3 σ_3 φ_3 ρ_3 hn_3 hx_3 hw_3 hp_3 ha_3 hr_3 => ?_)
  refine x_aload_n hE dX10_init_28 rfl 0 rfl ?_
  refine x_bipush (v := 8) hE dX10_init_29 (by decide) ?_
  refine x_np (t0 := 0) (ty := .int) (fty := (.array .int)) (ty0 := tyX10) (N0 := 8) (x := (8, .inl (fun _ => 0))) (j0 := 3) hE hI hw_3 rfl inZX10 tyX10_ok nmX10 (by decide) q225 rfl rfl rfl (by decide +kernel) (fun _ => ⟨rfl, rfl⟩) rfl (fun _ h => nomatch h) q207 rfl (fun _ => rfl) (fun _ => rfl) (fun _ => rfl) (by decide) (by decide) (Nat.le_of_ble_eq_true rfl) (Nat.le_of_ble_eq_true rfl) (Nat.le_of_ble_eq_true rfl) dX10_init_31 dX10_init_33 (fun q_4 L_4 σ_4 φ_4 ρ_4 hn_4 hx_4 hw_4 hp_4 ha_4 hr_4 => ?_)
  refine x_aload_n hE dX10_init_36 rfl 0 rfl ?_
  refine x_bipush (v := 8) hE dX10_init_37 (by decide) ?_
  refine x_np (t0 := 0) (ty := .int) (fty := (.array .int)) (ty0 := tyX10) (N0 := 8) (x := (8, .inl (fun _ => 0))) (j0 := 4) hE hI hw_4 rfl inZX10 tyX10_ok nmX10 (by decide) q229 rfl rfl rfl (by decide +kernel) (fun _ => ⟨rfl, rfl⟩) rfl (fun _ h => nomatch h) q207 rfl (fun _ => rfl) (fun _ => rfl) (fun _ => rfl) (by decide) (by decide) (Nat.le_of_ble_eq_true rfl) (Nat.le_of_ble_eq_true rfl) (Nat.le_of_ble_eq_true rfl) dX10_init_39 dX10_init_41 (fun q_5 L_5 σ_5 φ_5 ρ_5 hn_5 hx_5 hw_5 hp_5 ha_5 hr_5 => ?_)
  refine x_aload_n hE dX10_init_44 rfl 0 rfl ?_
  refine x_bipush (v := 8) hE dX10_init_45 (by decide) ?_
  refine x_np (t0 := 0) (ty := .int) (fty := (.array .int)) (ty0 := tyX10) (N0 := 8) (x := (8, .inl (fun _ => 0))) (j0 := 5) hE hI hw_5 rfl inZX10 tyX10_ok nmX10 (by decide) q233 rfl rfl rfl (by decide +kernel) (fun _ => ⟨rfl, rfl⟩) rfl (fun _ h => nomatch h) q207 rfl (fun _ => rfl) (fun _ => rfl) (fun _ => rfl) (by decide) (by decide) (Nat.le_of_ble_eq_true rfl) (Nat.le_of_ble_eq_true rfl) (Nat.le_of_ble_eq_true rfl) dX10_init_47 dX10_init_49 (fun q_6 L_6 σ_6 φ_6 ρ_6 hn_6 hx_6 hw_6 hp_6 ha_6 hr_6 => ?_)
  refine x_aload_n hE dX10_init_52 rfl 0 rfl ?_
  refine x_bipush (v := 37) hE dX10_init_53 (by decide) ?_
  refine x_puti (ty := .int) (ty0 := tyX10) (j0 := 10) (v := 37) hE hw_6 rfl inZX10 tyX10_ok nmX10 (by decide) q250 rfl rfl (by decide +kernel) rfl rfl dX10_init_55 (fun φ_7 hx_7 hp_7 => ?_)
  refine x_aload_n hE dX10_init_58 rfl 0 rfl ?_
  refine x_bipush (v := 40) hE dX10_init_59 (by decide) ?_
  refine x_np (t0 := 0) (ty := .int) (fty := (.array .int)) (ty0 := tyX10) (N0 := 40) (x := (40, .inl (fun _ => 0))) (j0 := 13) hE hI hw_6 rfl inZX10 tyX10_ok nmX10 (by decide) q255 rfl rfl rfl (by decide +kernel) (fun _ => ⟨rfl, rfl⟩) rfl (fun _ h => nomatch h) q207 rfl (fun _ => rfl) (fun _ => rfl) (fun _ => rfl) (by decide) (by decide) (Nat.le_of_ble_eq_true rfl) (Nat.le_of_ble_eq_true rfl) (Nat.le_of_ble_eq_true rfl) dX10_init_61 dX10_init_63 (fun q_8 L_8 σ_8 φ_8 ρ_8 hn_8 hx_8 hw_8 hp_8 ha_8 hr_8 => ?_)
  refine x_aload_n hE dX10_init_66 rfl 0 rfl ?_
  refine x_bipush (v := 20) hE dX10_init_67 (by decide) ?_
  refine x_np (t0 := 0) (ty := .int) (fty := (.array .int)) (ty0 := tyX10) (N0 := 20) (x := (20, .inl (fun _ => 0))) (j0 := 14) hE hI hw_8 rfl inZX10 tyX10_ok nmX10 (by decide) q256 rfl rfl rfl (by decide +kernel) (fun _ => ⟨rfl, rfl⟩) rfl (fun _ h => nomatch h) q207 rfl (fun _ => rfl) (fun _ => rfl) (fun _ => rfl) (by decide) (by decide) (Nat.le_of_ble_eq_true rfl) (Nat.le_of_ble_eq_true rfl) (Nat.le_of_ble_eq_true rfl) dX10_init_69 dX10_init_71 (fun q_9 L_9 σ_9 φ_9 ρ_9 hn_9 hx_9 hw_9 hp_9 ha_9 hr_9 => ?_)
  have hX_9 := hx_9
  have hX_8 := hx_8.tr hX_9
  have hX_7 := hx_7.tr hX_8
  have hX_6 := hx_6.tr hX_7
  have hX_5 := hx_5.tr hX_6
  have hX_4 := hx_4.tr hX_5
  have hX_3 := hx_3.tr hX_4
  have hX_2 := hx_2.tr hX_3
  have hX_1 := hx_1.tr hX_2
  exact hret _ _ _ _ _ _ _ _ (Nat.le_of_ble_eq_true rfl) (Nat.le_of_ble_eq_true rfl) dX10_init_74 ⟨hX_1, ⟨q_1, q_2, q_3, q_4, q_5, q_6, q_8, q_9, hw_9, (hX_2.T ha_1 (zT.ne ha_1 hw_1 (by simp))), (hX_3.T ha_2 (zT.ne ha_2 hw_2 (by simp))), (hX_4.T ha_3 (zT.ne ha_3 hw_3 (by simp))), (hX_5.T ha_4 (zT.ne ha_4 hw_4 (by simp))), (hX_6.T ha_5 (zT.ne ha_5 hw_5 (by simp))), (hX_7.T ha_6 (zT.ne ha_6 hw_6 (by simp))), (hX_9.T ha_8 (zT.ne ha_8 hw_8 (by simp))), ha_9⟩, fun c i => by show φ_9 c i w = _; rw [hp_9, hp_8, hp_7, hp_6, hp_5, hp_4, hp_3, hp_2, hp_1]⟩
-- Lists()
set_option maxHeartbeats 4000000 in
set_option maxRecDepth 100000 in
theorem k_Lists (l : Launch) (D : va_G) (cy : Nat → ClassId) (L : List Nat) (σ : Nat → va_E) (φ : Nat → Nat → Nat → Int32) (ρ : Nat → Nat → Int32) {w  : Nat} (hw_0 : zT L σ w (.inr (1, [.int 0, .int 0, .int 0, .null, .null, .null, .null, .null, .null, .null, .null]))) : zMV l D cy yX1_init cX1_init 1 (zrm 1 8 72) [.ref w] L σ φ ρ (fun u => zX w L σ φ ρ u.1 u.2.1 u.2.2.1 u.2.2.2 ∧ zLists cy u.1 u.2.1 w ∧ ∀ c i, u.2.2.1 c i w = φ c i w) := by
  refine zMV.mk (by decide) (Nat.le_of_ble_eq_true rfl) (fun E hE hI hret => ?_)
  have hI := hI rfl
  show zW E 0 0 L σ φ ρ 0 [(0, .ref w)] []
  refine x_aload_n hE dX1_init_0 rfl 0 rfl ?_
  refine x_objinit hE q317 q140 q141 dX1_init_1 (Nat.le_of_ble_eq_true rfl) (Nat.le_of_ble_eq_true rfl) ?_
  refine x_aload_n hE dX1_init_4 rfl 0 rfl ?_
  refine x_bipush (v := 6) hE dX1_init_5 (by decide) ?_
  refine x_np (t0 := 0) (ty := .int) (fty := (.array .int)) (ty0 := tyX1) (N0 := 6) (x := (6, .inl (fun _ => 0))) (j0 := 3) hE hI hw_0 rfl inZX1 tyX1_ok nmX1 (by decide) q324 rfl rfl rfl (by decide +kernel) (fun _ => ⟨rfl, rfl⟩) rfl (fun _ h => nomatch h) q207 rfl (fun _ => rfl) (fun _ => rfl) (fun _ => rfl) (by decide) (by decide) (Nat.le_of_ble_eq_true rfl) (Nat.le_of_ble_eq_true rfl) (Nat.le_of_ble_eq_true rfl) dX1_init_7 dX1_init_9 (fun q_1 L_1 σ_1 φ_1 ρ_1 hn_1 hx_1 hw_1 hp_1 ha_1 hr_1 => ?_)
  refine x_aload_n hE dX1_init_12 rfl 0 rfl ?_
  refine x_bipush (v := 6) hE dX1_init_13 (by decide) ?_
  refine x_np (t0 := 0) (ty := .int) (fty := (.array .int)) (ty0 := tyX1) (N0 := 6) (x := (6, .inl (fun _ => 0))) (j0 := 4) hE hI hw_1 rfl inZX1 tyX1_ok nmX1 (by decide) q326 rfl rfl rfl (by decide +kernel) (fun _ => ⟨rfl, rfl⟩) rfl (fun _ h => nomatch h) q207 rfl (fun _ => rfl) (fun _ => rfl) (fun _ => rfl) (by decide) (by decide) (Nat.le_of_ble_eq_true rfl) (Nat.le_of_ble_eq_true rfl) (Nat.le_of_ble_eq_true rfl) dX1_init_15 dX1_init_17 (fun q_2 L_2 σ_2 φ_2 ρ_2 hn_2 hx_2 hw_2 hp_2 ha_2 hr_2 => ?_)
  refine x_aload_n hE dX1_init_20 rfl 0 rfl ?_
  refine x_bipush (v := 6) hE dX1_init_21 (by decide) ?_
  refine x_np (t0 := 0) (ty := .int) (fty := (.array .int)) (ty0 := tyX1) (N0 := 6) (x := (6, .inl (fun _ => 0))) (j0 := 5) hE hI hw_2 rfl inZX1 tyX1_ok nmX1 (by decide) q328 rfl rfl rfl (by decide +kernel) (fun _ => ⟨rfl, rfl⟩) rfl (fun _ h => nomatch h) q207 rfl (fun _ => rfl) (fun _ => rfl) (fun _ => rfl) (by decide) (by decide) (Nat.le_of_ble_eq_true rfl) (Nat.le_of_ble_eq_true rfl) (Nat.le_of_ble_eq_true rfl) dX1_init_23 dX1_init_25 (fun q_3 L_3 σ_3 φ_3 ρ_3 hn_3 hx_3 hw_3 hp_3 ha_3 hr_3 => ?_)
  refine x_aload_n hE dX1_init_28 rfl 0 rfl ?_
  refine x_bipush (v := 12) hE dX1_init_29 (by decide) ?_
  refine x_np (t0 := 0) (ty := .int) (fty := (.array .int)) (ty0 := tyX1) (N0 := 12) (x := (12, .inl (fun _ => 0))) (j0 := 6) hE hI hw_3 rfl inZX1 tyX1_ok nmX1 (by decide) q330 rfl rfl rfl (by decide +kernel) (fun _ => ⟨rfl, rfl⟩) rfl (fun _ h => nomatch h) q207 rfl (fun _ => rfl) (fun _ => rfl) (fun _ => rfl) (by decide) (by decide) (Nat.le_of_ble_eq_true rfl) (Nat.le_of_ble_eq_true rfl) (Nat.le_of_ble_eq_true rfl) dX1_init_31 dX1_init_33 (fun q_4 L_4 σ_4 φ_4 ρ_4 hn_4 hx_4 hw_4 hp_4 ha_4 hr_4 => ?_)
  refine x_aload_n hE dX1_init_36 rfl 0 rfl ?_
  refine x_bipush (v := 12) hE dX1_init_37 (by decide) ?_
  refine x_np (t0 := 2) (ty := .boolean) (fty := (.array .boolean)) (ty0 := tyX1) (N0 := 12) (x := (12, .inl (fun _ => 0))) (j0 := 7) hE hI hw_4 rfl inZX1 tyX1_ok nmX1 (by decide) q331 rfl rfl rfl (by decide +kernel) (fun _ => ⟨rfl, rfl⟩) rfl (fun _ h => nomatch h) q358 rfl (fun _ => rfl) (fun _ => rfl) (fun _ => rfl) (by decide) (by decide) (Nat.le_of_ble_eq_true rfl) (Nat.le_of_ble_eq_true rfl) (Nat.le_of_ble_eq_true rfl) dX1_init_39 dX1_init_41 (fun q_5 L_5 σ_5 φ_5 ρ_5 hn_5 hx_5 hw_5 hp_5 ha_5 hr_5 => ?_)
  refine x_aload_n hE dX1_init_44 rfl 0 rfl ?_
  refine x_bipush (v := 10) hE dX1_init_45 (by decide) ?_
  refine x_np (t0 := 2) (ty := .boolean) (fty := (.array .boolean)) (ty0 := tyX1) (N0 := 10) (x := (10, .inl (fun _ => 0))) (j0 := 8) hE hI hw_5 rfl inZX1 tyX1_ok nmX1 (by decide) q332 rfl rfl rfl (by decide +kernel) (fun _ => ⟨rfl, rfl⟩) rfl (fun _ h => nomatch h) q358 rfl (fun _ => rfl) (fun _ => rfl) (fun _ => rfl) (by decide) (by decide) (Nat.le_of_ble_eq_true rfl) (Nat.le_of_ble_eq_true rfl) (Nat.le_of_ble_eq_true rfl) dX1_init_47 dX1_init_49 (fun q_6 L_6 σ_6 φ_6 ρ_6 hn_6 hx_6 hw_6 hp_6 ha_6 hr_6 => ?_)
  refine x_aload_n hE dX1_init_52 rfl 0 rfl ?_
  refine x_bipush (v := 10) hE dX1_init_53 (by decide) ?_
  refine x_np (t0 := 0) (ty := .int) (fty := (.array .int)) (ty0 := tyX1) (N0 := 10) (x := (10, .inl (fun _ => 0))) (j0 := 9) hE hI hw_6 rfl inZX1 tyX1_ok nmX1 (by decide) q333 rfl rfl rfl (by decide +kernel) (fun _ => ⟨rfl, rfl⟩) rfl (fun _ h => nomatch h) q207 rfl (fun _ => rfl) (fun _ => rfl) (fun _ => rfl) (by decide) (by decide) (Nat.le_of_ble_eq_true rfl) (Nat.le_of_ble_eq_true rfl) (Nat.le_of_ble_eq_true rfl) dX1_init_55 dX1_init_57 (fun q_7 L_7 σ_7 φ_7 ρ_7 hn_7 hx_7 hw_7 hp_7 ha_7 hr_7 => ?_)
  refine x_aload_n hE dX1_init_60 rfl 0 rfl ?_
  refine x_bipush (v := 10) hE dX1_init_61 (by decide) ?_
  refine x_np (t0 := 0) (ty := .int) (fty := (.array .int)) (ty0 := tyX1) (N0 := 10) (x := (10, .inl (fun _ => 0))) (j0 := 10) hE hI hw_7 rfl inZX1 tyX1_ok nmX1 (by decide) q334 rfl rfl rfl (by decide +kernel) (fun _ => ⟨rfl, rfl⟩) rfl (fun _ h => nomatch h) q207 rfl (fun _ => rfl) (fun _ => rfl) (fun _ => rfl) (by decide) (by decide) (Nat.le_of_ble_eq_true rfl) (Nat.le_of_ble_eq_true rfl) (Nat.le_of_ble_eq_true rfl) dX1_init_63 dX1_init_65 (fun q_8 L_8 σ_8 φ_8 ρ_8 hn_8 hx_8 hw_8 hp_8 ha_8 hr_8 => ?_)
  have hX_8 := hx_8
  have hX_7 := hx_7.tr hX_8
  have hX_6 := hx_6.tr hX_7
  have hX_5 := hx_5.tr hX_6
  have hX_4 := hx_4.tr hX_5
  have hX_3 := hx_3.tr hX_4
  have hX_2 := hx_2.tr hX_3
  have hX_1 := hx_1.tr hX_2
  exact hret _ _ _ _ _ _ _ _ (Nat.le_of_ble_eq_true rfl) (Nat.le_of_ble_eq_true rfl) dX1_init_68 ⟨hX_1, ⟨q_1, q_2, q_3, q_4, q_5, q_6, q_7, q_8, hw_8, (hX_2.T ha_1 (zT.ne ha_1 hw_1 (by simp))), (hX_3.T ha_2 (zT.ne ha_2 hw_2 (by simp))), (hX_4.T ha_3 (zT.ne ha_3 hw_3 (by simp))), (hX_5.T ha_4 (zT.ne ha_4 hw_4 (by simp))), (hX_6.T ha_5 (zT.ne ha_5 hw_5 (by simp))), (hX_7.T ha_6 (zT.ne ha_6 hw_6 (by simp))), (hX_8.T ha_7 (zT.ne ha_7 hw_7 (by simp))), ha_8⟩, fun c i => by show φ_8 c i w = _; rw [hp_8, hp_7, hp_6, hp_5, hp_4, hp_3, hp_2, hp_1]⟩
-- Text()
set_option maxHeartbeats 4000000 in
set_option maxRecDepth 100000 in
theorem k_Text (l : Launch) (D : va_G) (cy : Nat → ClassId) (L : List Nat) (σ : Nat → va_E) (φ : Nat → Nat → Nat → Int32) (ρ : Nat → Nat → Int32) {w  : Nat} (hw_0 : zT L σ w (.inr (7, [.int 0, .null, .null, .null, .null, .int 0, .null, .null, .int 0, .null, .null, .null, .null]))) : zMV l D cy yX7_init cX7_init 1 (zrm 1 10 1316) [.ref w] L σ φ ρ (fun u => zX w L σ φ ρ u.1 u.2.1 u.2.2.1 u.2.2.2 ∧ zText cy u.1 u.2.1 w ∧ ∀ c i, u.2.2.1 c i w = φ c i w) := by
  refine zMV.mk (by decide) (Nat.le_of_ble_eq_true rfl) (fun E hE hI hret => ?_)
  have hI := hI rfl
  show zW E 0 0 L σ φ ρ 0 [(0, .ref w)] []
  refine x_aload_n hE dX7_init_0 rfl 0 rfl ?_
  refine x_objinit hE q642 q140 q141 dX7_init_1 (Nat.le_of_ble_eq_true rfl) (Nat.le_of_ble_eq_true rfl) ?_
  refine x_aload_n hE dX7_init_4 rfl 0 rfl ?_
  refine x_bipush (v := 24) hE dX7_init_5 (by decide) ?_
  refine x_np (t0 := 0) (ty := .int) (fty := (.array .int)) (ty0 := tyX7) (N0 := 24) (x := (24, .inl (fun _ => 0))) (j0 := 1) hE hI hw_0 rfl inZX7 tyX7_ok nmX7 (by decide) q645 rfl rfl rfl (by decide +kernel) (fun _ => ⟨rfl, rfl⟩) rfl (fun _ h => nomatch h) q207 rfl (fun _ => rfl) (fun _ => rfl) (fun _ => rfl) (by decide) (by decide) (Nat.le_of_ble_eq_true rfl) (Nat.le_of_ble_eq_true rfl) (Nat.le_of_ble_eq_true rfl) dX7_init_7 dX7_init_9 (fun q_1 L_1 σ_1 φ_1 ρ_1 hn_1 hx_1 hw_1 hp_1 ha_1 hr_1 => ?_)
  refine x_aload_n hE dX7_init_12 rfl 0 rfl ?_
  refine x_bipush (v := 72) hE dX7_init_13 (by decide) ?_
  refine x_np (t0 := 0) (ty := .int) (fty := (.array .int)) (ty0 := tyX7) (N0 := 72) (x := (72, .inl (fun _ => 0))) (j0 := 2) hE hI hw_1 rfl inZX7 tyX7_ok nmX7 (by decide) q648 rfl rfl rfl (by decide +kernel) (fun _ => ⟨rfl, rfl⟩) rfl (fun _ h => nomatch h) q207 rfl (fun _ => rfl) (fun _ => rfl) (fun _ => rfl) (by decide) (by decide) (Nat.le_of_ble_eq_true rfl) (Nat.le_of_ble_eq_true rfl) (Nat.le_of_ble_eq_true rfl) dX7_init_15 dX7_init_17 (fun q_2 L_2 σ_2 φ_2 ρ_2 hn_2 hx_2 hw_2 hp_2 ha_2 hr_2 => ?_)
  refine x_aload_n hE dX7_init_20 rfl 0 rfl ?_
  refine x_sipush (v := 300) hE dX7_init_21 (by decide) ?_
  refine x_np (t0 := 0) (ty := .int) (fty := (.array .int)) (ty0 := tyX7) (N0 := 300) (x := (300, .inl (fun _ => 0))) (j0 := 3) hE hI hw_2 rfl inZX7 tyX7_ok nmX7 (by decide) q651 rfl rfl rfl (by decide +kernel) (fun _ => ⟨rfl, rfl⟩) rfl (fun _ h => nomatch h) q207 rfl (fun _ => rfl) (fun _ => rfl) (fun _ => rfl) (by decide) (by decide) (Nat.le_of_ble_eq_true rfl) (Nat.le_of_ble_eq_true rfl) (Nat.le_of_ble_eq_true rfl) dX7_init_24 dX7_init_26 (fun q_3 L_3 σ_3 φ_3 ρ_3 hn_3 hx_3 hw_3 hp_3 ha_3 hr_3 => ?_)
  refine x_aload_n hE dX7_init_29 rfl 0 rfl ?_
  refine x_sipush (v := 300) hE dX7_init_30 (by decide) ?_
  refine x_np (t0 := 0) (ty := .int) (fty := (.array .int)) (ty0 := tyX7) (N0 := 300) (x := (300, .inl (fun _ => 0))) (j0 := 4) hE hI hw_3 rfl inZX7 tyX7_ok nmX7 (by decide) q653 rfl rfl rfl (by decide +kernel) (fun _ => ⟨rfl, rfl⟩) rfl (fun _ h => nomatch h) q207 rfl (fun _ => rfl) (fun _ => rfl) (fun _ => rfl) (by decide) (by decide) (Nat.le_of_ble_eq_true rfl) (Nat.le_of_ble_eq_true rfl) (Nat.le_of_ble_eq_true rfl) dX7_init_33 dX7_init_35 (fun q_4 L_4 σ_4 φ_4 ρ_4 hn_4 hx_4 hw_4 hp_4 ha_4 hr_4 => ?_)
  refine x_aload_n hE dX7_init_38 rfl 0 rfl ?_
  refine x_sipush (v := 300) hE dX7_init_39 (by decide) ?_
  refine x_np (t0 := 0) (ty := .int) (fty := (.array .int)) (ty0 := tyX7) (N0 := 300) (x := (300, .inl (fun _ => 0))) (j0 := 6) hE hI hw_4 rfl inZX7 tyX7_ok nmX7 (by decide) q657 rfl rfl rfl (by decide +kernel) (fun _ => ⟨rfl, rfl⟩) rfl (fun _ h => nomatch h) q207 rfl (fun _ => rfl) (fun _ => rfl) (fun _ => rfl) (by decide) (by decide) (Nat.le_of_ble_eq_true rfl) (Nat.le_of_ble_eq_true rfl) (Nat.le_of_ble_eq_true rfl) dX7_init_42 dX7_init_44 (fun q_5 L_5 σ_5 φ_5 ρ_5 hn_5 hx_5 hw_5 hp_5 ha_5 hr_5 => ?_)
  refine x_aload_n hE dX7_init_47 rfl 0 rfl ?_
  refine x_sipush (v := 300) hE dX7_init_48 (by decide) ?_
  refine x_np (t0 := 0) (ty := .int) (fty := (.array .int)) (ty0 := tyX7) (N0 := 300) (x := (300, .inl (fun _ => 0))) (j0 := 7) hE hI hw_5 rfl inZX7 tyX7_ok nmX7 (by decide) q660 rfl rfl rfl (by decide +kernel) (fun _ => ⟨rfl, rfl⟩) rfl (fun _ h => nomatch h) q207 rfl (fun _ => rfl) (fun _ => rfl) (fun _ => rfl) (by decide) (by decide) (Nat.le_of_ble_eq_true rfl) (Nat.le_of_ble_eq_true rfl) (Nat.le_of_ble_eq_true rfl) dX7_init_51 dX7_init_53 (fun q_6 L_6 σ_6 φ_6 ρ_6 hn_6 hx_6 hw_6 hp_6 ha_6 hr_6 => ?_)
  refine x_aload_n hE dX7_init_56 rfl 0 rfl ?_
  refine x_iconst (v := 5) hE dX7_init_57 (by decide) ?_
  refine x_np (t0 := 0) (ty := .int) (fty := (.array .int)) (ty0 := tyX7) (N0 := 5) (x := (5, .inl (fun _ => 0))) (j0 := 9) hE hI hw_6 rfl inZX7 tyX7_ok nmX7 (by decide) q664 rfl rfl rfl (by decide +kernel) (fun _ => ⟨rfl, rfl⟩) rfl (fun _ h => nomatch h) q207 rfl (fun _ => rfl) (fun _ => rfl) (fun _ => rfl) (by decide) (by decide) (Nat.le_of_ble_eq_true rfl) (Nat.le_of_ble_eq_true rfl) (Nat.le_of_ble_eq_true rfl) dX7_init_58 dX7_init_60 (fun q_7 L_7 σ_7 φ_7 ρ_7 hn_7 hx_7 hw_7 hp_7 ha_7 hr_7 => ?_)
  refine x_aload_n hE dX7_init_63 rfl 0 rfl ?_
  refine x_iconst (v := 5) hE dX7_init_64 (by decide) ?_
  refine x_np (t0 := 0) (ty := .int) (fty := (.array .int)) (ty0 := tyX7) (N0 := 5) (x := (5, .inl (fun _ => 0))) (j0 := 10) hE hI hw_7 rfl inZX7 tyX7_ok nmX7 (by decide) q667 rfl rfl rfl (by decide +kernel) (fun _ => ⟨rfl, rfl⟩) rfl (fun _ h => nomatch h) q207 rfl (fun _ => rfl) (fun _ => rfl) (fun _ => rfl) (by decide) (by decide) (Nat.le_of_ble_eq_true rfl) (Nat.le_of_ble_eq_true rfl) (Nat.le_of_ble_eq_true rfl) dX7_init_65 dX7_init_67 (fun q_8 L_8 σ_8 φ_8 ρ_8 hn_8 hx_8 hw_8 hp_8 ha_8 hr_8 => ?_)
  refine x_aload_n hE dX7_init_70 rfl 0 rfl ?_
  refine x_iconst (v := 5) hE dX7_init_71 (by decide) ?_
  refine x_np (t0 := 0) (ty := .int) (fty := (.array .int)) (ty0 := tyX7) (N0 := 5) (x := (5, .inl (fun _ => 0))) (j0 := 11) hE hI hw_8 rfl inZX7 tyX7_ok nmX7 (by decide) q670 rfl rfl rfl (by decide +kernel) (fun _ => ⟨rfl, rfl⟩) rfl (fun _ h => nomatch h) q207 rfl (fun _ => rfl) (fun _ => rfl) (fun _ => rfl) (by decide) (by decide) (Nat.le_of_ble_eq_true rfl) (Nat.le_of_ble_eq_true rfl) (Nat.le_of_ble_eq_true rfl) dX7_init_72 dX7_init_74 (fun q_9 L_9 σ_9 φ_9 ρ_9 hn_9 hx_9 hw_9 hp_9 ha_9 hr_9 => ?_)
  refine x_aload_n hE dX7_init_77 rfl 0 rfl ?_
  refine x_iconst (v := 5) hE dX7_init_78 (by decide) ?_
  refine x_np (t0 := 0) (ty := .int) (fty := (.array .int)) (ty0 := tyX7) (N0 := 5) (x := (5, .inl (fun _ => 0))) (j0 := 12) hE hI hw_9 rfl inZX7 tyX7_ok nmX7 (by decide) q673 rfl rfl rfl (by decide +kernel) (fun _ => ⟨rfl, rfl⟩) rfl (fun _ h => nomatch h) q207 rfl (fun _ => rfl) (fun _ => rfl) (fun _ => rfl) (by decide) (by decide) (Nat.le_of_ble_eq_true rfl) (Nat.le_of_ble_eq_true rfl) (Nat.le_of_ble_eq_true rfl) dX7_init_79 dX7_init_81 (fun q_10 L_10 σ_10 φ_10 ρ_10 hn_10 hx_10 hw_10 hp_10 ha_10 hr_10 => ?_)
  have hX_10 := hx_10
  have hX_9 := hx_9.tr hX_10
  have hX_8 := hx_8.tr hX_9
  have hX_7 := hx_7.tr hX_8
  have hX_6 := hx_6.tr hX_7
  have hX_5 := hx_5.tr hX_6
  have hX_4 := hx_4.tr hX_5
  have hX_3 := hx_3.tr hX_4
  have hX_2 := hx_2.tr hX_3
  have hX_1 := hx_1.tr hX_2
  exact hret _ _ _ _ _ _ _ _ (Nat.le_of_ble_eq_true rfl) (Nat.le_of_ble_eq_true rfl) dX7_init_84 ⟨hX_1, ⟨q_1, q_2, q_3, q_4, q_5, q_6, q_7, q_8, q_9, q_10, hw_10, (hX_2.T ha_1 (zT.ne ha_1 hw_1 (by simp))), (hX_3.T ha_2 (zT.ne ha_2 hw_2 (by simp))), (hX_4.T ha_3 (zT.ne ha_3 hw_3 (by simp))), (hX_5.T ha_4 (zT.ne ha_4 hw_4 (by simp))), (hX_6.T ha_5 (zT.ne ha_5 hw_5 (by simp))), (hX_7.T ha_6 (zT.ne ha_6 hw_6 (by simp))), (hX_8.T ha_7 (zT.ne ha_7 hw_7 (by simp))), (hX_9.T ha_8 (zT.ne ha_8 hw_8 (by simp))), (hX_10.T ha_9 (zT.ne ha_9 hw_9 (by simp))), ha_10⟩, fun c i => by show φ_10 c i w = _; rw [hp_10, hp_9, hp_8, hp_7, hp_6, hp_5, hp_4, hp_3, hp_2, hp_1]⟩
-- Tape()
set_option maxHeartbeats 4000000 in
set_option maxRecDepth 100000 in
theorem k_Tape (l : Launch) (D : va_G) (cy : Nat → ClassId) (L : List Nat) (σ : Nat → va_E) (φ : Nat → Nat → Nat → Int32) (ρ : Nat → Nat → Int32) {w  : Nat} (hw_0 : zT L σ w (.inr (6, [.int 0, .int 0, .null, .null, .null, .null]))) : zMV l D cy yX6_init cX6_init 1 (zrm 1 4 1203) [.ref w] L σ φ ρ (fun u => zX w L σ φ ρ u.1 u.2.1 u.2.2.1 u.2.2.2 ∧ zTape cy u.1 u.2.1 w ∧ ∀ c i, u.2.2.1 c i w = φ c i w) := by
  refine zMV.mk (by decide) (Nat.le_of_ble_eq_true rfl) (fun E hE hI hret => ?_)
  have hI := hI rfl
  show zW E 0 0 L σ φ ρ 0 [(0, .ref w)] []
  refine x_aload_n hE dX6_init_0 rfl 0 rfl ?_
  refine x_objinit hE q400 q140 q141 dX6_init_1 (Nat.le_of_ble_eq_true rfl) (Nat.le_of_ble_eq_true rfl) ?_
  refine x_aload_n hE dX6_init_4 rfl 0 rfl ?_
  refine x_sipush (v := 301) hE dX6_init_5 (by decide) ?_
  refine x_np (t0 := 0) (ty := .int) (fty := (.array .int)) (ty0 := tyX6) (N0 := 301) (x := (301, .inl (fun _ => 0))) (j0 := 2) hE hI hw_0 rfl inZX6 tyX6_ok nmX6 (by decide) q406 rfl rfl rfl (by decide +kernel) (fun _ => ⟨rfl, rfl⟩) rfl (fun _ h => nomatch h) q207 rfl (fun _ => rfl) (fun _ => rfl) (fun _ => rfl) (by decide) (by decide) (Nat.le_of_ble_eq_true rfl) (Nat.le_of_ble_eq_true rfl) (Nat.le_of_ble_eq_true rfl) dX6_init_8 dX6_init_10 (fun q_1 L_1 σ_1 φ_1 ρ_1 hn_1 hx_1 hw_1 hp_1 ha_1 hr_1 => ?_)
  refine x_aload_n hE dX6_init_13 rfl 0 rfl ?_
  refine x_sipush (v := 301) hE dX6_init_14 (by decide) ?_
  refine x_np (t0 := 0) (ty := .int) (fty := (.array .int)) (ty0 := tyX6) (N0 := 301) (x := (301, .inl (fun _ => 0))) (j0 := 3) hE hI hw_1 rfl inZX6 tyX6_ok nmX6 (by decide) q408 rfl rfl rfl (by decide +kernel) (fun _ => ⟨rfl, rfl⟩) rfl (fun _ h => nomatch h) q207 rfl (fun _ => rfl) (fun _ => rfl) (fun _ => rfl) (by decide) (by decide) (Nat.le_of_ble_eq_true rfl) (Nat.le_of_ble_eq_true rfl) (Nat.le_of_ble_eq_true rfl) dX6_init_17 dX6_init_19 (fun q_2 L_2 σ_2 φ_2 ρ_2 hn_2 hx_2 hw_2 hp_2 ha_2 hr_2 => ?_)
  refine x_aload_n hE dX6_init_22 rfl 0 rfl ?_
  refine x_sipush (v := 301) hE dX6_init_23 (by decide) ?_
  refine x_np (t0 := 0) (ty := .int) (fty := (.array .int)) (ty0 := tyX6) (N0 := 301) (x := (301, .inl (fun _ => 0))) (j0 := 4) hE hI hw_2 rfl inZX6 tyX6_ok nmX6 (by decide) q410 rfl rfl rfl (by decide +kernel) (fun _ => ⟨rfl, rfl⟩) rfl (fun _ h => nomatch h) q207 rfl (fun _ => rfl) (fun _ => rfl) (fun _ => rfl) (by decide) (by decide) (Nat.le_of_ble_eq_true rfl) (Nat.le_of_ble_eq_true rfl) (Nat.le_of_ble_eq_true rfl) dX6_init_26 dX6_init_28 (fun q_3 L_3 σ_3 φ_3 ρ_3 hn_3 hx_3 hw_3 hp_3 ha_3 hr_3 => ?_)
  refine x_aload_n hE dX6_init_31 rfl 0 rfl ?_
  refine x_sipush (v := 300) hE dX6_init_32 (by decide) ?_
  refine x_np (t0 := 0) (ty := .int) (fty := (.array .int)) (ty0 := tyX6) (N0 := 300) (x := (300, .inl (fun _ => 0))) (j0 := 5) hE hI hw_3 rfl inZX6 tyX6_ok nmX6 (by decide) q412 rfl rfl rfl (by decide +kernel) (fun _ => ⟨rfl, rfl⟩) rfl (fun _ h => nomatch h) q207 rfl (fun _ => rfl) (fun _ => rfl) (fun _ => rfl) (by decide) (by decide) (Nat.le_of_ble_eq_true rfl) (Nat.le_of_ble_eq_true rfl) (Nat.le_of_ble_eq_true rfl) dX6_init_35 dX6_init_37 (fun q_4 L_4 σ_4 φ_4 ρ_4 hn_4 hx_4 hw_4 hp_4 ha_4 hr_4 => ?_)
  have hX_4 := hx_4
  have hX_3 := hx_3.tr hX_4
  have hX_2 := hx_2.tr hX_3
  have hX_1 := hx_1.tr hX_2
  exact hret _ _ _ _ _ _ _ _ (Nat.le_of_ble_eq_true rfl) (Nat.le_of_ble_eq_true rfl) dX6_init_40 ⟨hX_1, ⟨q_1, q_2, q_3, q_4, hw_4, (hX_2.T ha_1 (zT.ne ha_1 hw_1 (by simp))), (hX_3.T ha_2 (zT.ne ha_2 hw_2 (by simp))), (hX_4.T ha_3 (zT.ne ha_3 hw_3 (by simp))), ha_4, (fun h => hn_2 (h ▸ ha_1.1)), (fun h => hn_3 (h ▸ hx_2.1 _ ha_1.1))⟩, fun c i => by show φ_4 c i w = _; rw [hp_4, hp_3, hp_2, hp_1]⟩
-- Reader(t)
set_option maxHeartbeats 4000000 in
set_option maxRecDepth 100000 in
theorem k_Reader (l : Launch) (D : va_G) (cy : Nat → ClassId) (L : List Nat) (σ : Nat → va_E) (φ : Nat → Nat → Nat → Int32) (ρ : Nat → Nat → Int32) {w t : Nat} (hw_0 : zT L σ w (.inr (3, [.int 0, .int 0, .null, .null, .int 0, .int 0, .int 0]))) : zMV l D cy yX3_init cX3_init 2 (zrm 1 0 0) [.ref w, .ref t] L σ φ ρ (fun u => zX w L σ φ ρ u.1 u.2.1 u.2.2.1 u.2.2.2 ∧ zReader u.1 u.2.1 w t ∧ ∀ c i, u.2.2.1 c i w = if c = 3 ∧ i = 1 then -1 else if c = 3 ∧ i = 0 then -1 else φ c i w) := by
  refine zMV.mk (by decide) (Nat.le_of_ble_eq_true rfl) (fun E hE hI hret => ?_)
  have hI := hI rfl
  show zW E 0 0 L σ φ ρ 0 [(0, .ref w), (1, .ref t)] []
  refine x_aload_n hE dX3_init_0 rfl 0 rfl ?_
  refine x_objinit hE q431 q140 q141 dX3_init_1 (Nat.le_of_ble_eq_true rfl) (Nat.le_of_ble_eq_true rfl) ?_
  refine x_aload_n hE dX3_init_4 rfl 0 rfl ?_
  refine x_iconst (v := -1) hE dX3_init_5 (by decide) ?_
  refine x_puti (ty := .int) (ty0 := tyX3) (j0 := 0) (v := -1) hE hw_0 rfl inZX3 tyX3_ok nmX3 (by decide) q432 rfl rfl (by decide +kernel) rfl rfl dX3_init_6 (fun φ_1 hx_1 hp_1 => ?_)
  refine x_aload_n hE dX3_init_9 rfl 0 rfl ?_
  refine x_iconst (v := -1) hE dX3_init_10 (by decide) ?_
  refine x_puti (ty := .int) (ty0 := tyX3) (j0 := 1) (v := -1) hE hw_0 rfl inZX3 tyX3_ok nmX3 (by decide) q434 rfl rfl (by decide +kernel) rfl rfl dX3_init_11 (fun φ_2 hx_2 hp_2 => ?_)
  refine x_aload_n hE dX3_init_14 rfl 0 rfl ?_
  refine x_aload_n hE dX3_init_15 rfl 1 rfl ?_
  refine x_putr (ty := .object "OwnRain$Tape") (ty0 := tyX3) (j0 := 2) hE (Or.inl ⟨hI, rfl, rfl⟩) hw_0 rfl inZX3 tyX3_ok nmX3 (by decide) q436 ⟨_, rfl, Or.inl rfl⟩ (by decide +kernel) rfl rfl dX3_init_16 (fun σ_3 hx_3 hw_3 => ?_)
  have hX_3 := hx_3
  have hX_2 := hx_2.tr hX_3
  have hX_1 := hx_1.tr hX_2
  exact hret _ _ _ _ _ _ _ _ (Nat.le_of_ble_eq_true rfl) (Nat.le_of_ble_eq_true rfl) dX3_init_19 ⟨hX_1, hw_3, fun c i => by show φ_2 c i w = _; rw [hp_2, hp_1]⟩
-- Weather(s)
set_option maxHeartbeats 4000000 in
set_option maxRecDepth 100000 in
theorem k_Weather (l : Launch) (D : va_G) (cy : Nat → ClassId) (L : List Nat) (σ : Nat → va_E) (φ : Nat → Nat → Nat → Int32) (ρ : Nat → Nat → Int32) {w s : Nat} (hw_0 : zT L σ w (.inr (9, [.int 0, .null, .null, .int 0, .null, .null, .null, .null, .int 0, .int 0]))) : zMV l D cy yX9_init cX9_init 2 (zrm 1 4 410) [.ref w, .ref s] L σ φ ρ (fun u => zX w L σ φ ρ u.1 u.2.1 u.2.2.1 u.2.2.2 ∧ zWeather cy u.1 u.2.1 w s ∧ ∀ c i, u.2.2.1 c i w = if c = 9 ∧ i = 0 then -1 else φ c i w) := by
  refine zMV.mk (by decide) (Nat.le_of_ble_eq_true rfl) (fun E hE hI hret => ?_)
  have hI := hI rfl
  show zW E 0 0 L σ φ ρ 0 [(0, .ref w), (1, .ref s)] []
  refine x_aload_n hE dX9_init_0 rfl 0 rfl ?_
  refine x_objinit hE q461 q140 q141 dX9_init_1 (Nat.le_of_ble_eq_true rfl) (Nat.le_of_ble_eq_true rfl) ?_
  refine x_aload_n hE dX9_init_4 rfl 0 rfl ?_
  refine x_iconst (v := -1) hE dX9_init_5 (by decide) ?_
  refine x_puti (ty := .int) (ty0 := tyX9) (j0 := 0) (v := -1) hE hw_0 rfl inZX9 tyX9_ok nmX9 (by decide) q462 rfl rfl (by decide +kernel) rfl rfl dX9_init_6 (fun φ_1 hx_1 hp_1 => ?_)
  refine x_aload_n hE dX9_init_9 rfl 0 rfl ?_
  refine x_bipush (v := 8) hE dX9_init_10 (by decide) ?_
  refine x_np (t0 := 0) (ty := .int) (fty := (.array .int)) (ty0 := tyX9) (N0 := 8) (x := (8, .inl (fun _ => 0))) (j0 := 1) hE hI hw_0 rfl inZX9 tyX9_ok nmX9 (by decide) q464 rfl rfl rfl (by decide +kernel) (fun _ => ⟨rfl, rfl⟩) rfl (fun _ h => nomatch h) q207 rfl (fun _ => rfl) (fun _ => rfl) (fun _ => rfl) (by decide) (by decide) (Nat.le_of_ble_eq_true rfl) (Nat.le_of_ble_eq_true rfl) (Nat.le_of_ble_eq_true rfl) dX9_init_12 dX9_init_14 (fun q_2 L_2 σ_2 φ_2 ρ_2 hn_2 hx_2 hw_2 hp_2 ha_2 hr_2 => ?_)
  refine x_aload_n hE dX9_init_17 rfl 0 rfl ?_
  refine x_bipush (v := 6) hE dX9_init_18 (by decide) ?_
  refine x_np (t0 := 0) (ty := .int) (fty := (.array .int)) (ty0 := tyX9) (N0 := 6) (x := (6, .inl (fun _ => 0))) (j0 := 2) hE hI hw_2 rfl inZX9 tyX9_ok nmX9 (by decide) q466 rfl rfl rfl (by decide +kernel) (fun _ => ⟨rfl, rfl⟩) rfl (fun _ h => nomatch h) q207 rfl (fun _ => rfl) (fun _ => rfl) (fun _ => rfl) (by decide) (by decide) (Nat.le_of_ble_eq_true rfl) (Nat.le_of_ble_eq_true rfl) (Nat.le_of_ble_eq_true rfl) dX9_init_20 dX9_init_22 (fun q_3 L_3 σ_3 φ_3 ρ_3 hn_3 hx_3 hw_3 hp_3 ha_3 hr_3 => ?_)
  refine x_aload_n hE dX9_init_25 rfl 0 rfl ?_
  refine x_bipush (v := 96) hE dX9_init_26 (by decide) ?_
  refine x_np (t0 := 0) (ty := .int) (fty := (.array .int)) (ty0 := tyX9) (N0 := 96) (x := (96, .inl (fun _ => 0))) (j0 := 5) hE hI hw_3 rfl inZX9 tyX9_ok nmX9 (by decide) q471 rfl rfl rfl (by decide +kernel) (fun _ => ⟨rfl, rfl⟩) rfl (fun _ h => nomatch h) q207 rfl (fun _ => rfl) (fun _ => rfl) (fun _ => rfl) (by decide) (by decide) (Nat.le_of_ble_eq_true rfl) (Nat.le_of_ble_eq_true rfl) (Nat.le_of_ble_eq_true rfl) dX9_init_28 dX9_init_30 (fun q_4 L_4 σ_4 φ_4 ρ_4 hn_4 hx_4 hw_4 hp_4 ha_4 hr_4 => ?_)
  refine x_aload_n hE dX9_init_33 rfl 0 rfl ?_
  refine x_sipush (v := 300) hE dX9_init_34 (by decide) ?_
  refine x_np (t0 := 0) (ty := .int) (fty := (.array .int)) (ty0 := tyX9) (N0 := 300) (x := (300, .inl (fun _ => 0))) (j0 := 6) hE hI hw_4 rfl inZX9 tyX9_ok nmX9 (by decide) q472 rfl rfl rfl (by decide +kernel) (fun _ => ⟨rfl, rfl⟩) rfl (fun _ h => nomatch h) q207 rfl (fun _ => rfl) (fun _ => rfl) (fun _ => rfl) (by decide) (by decide) (Nat.le_of_ble_eq_true rfl) (Nat.le_of_ble_eq_true rfl) (Nat.le_of_ble_eq_true rfl) dX9_init_37 dX9_init_39 (fun q_5 L_5 σ_5 φ_5 ρ_5 hn_5 hx_5 hw_5 hp_5 ha_5 hr_5 => ?_)
  refine x_aload_n hE dX9_init_42 rfl 0 rfl ?_
  refine x_aload_n hE dX9_init_43 rfl 1 rfl ?_
  refine x_putr (ty := .object "OwnRain$State") (ty0 := tyX9) (j0 := 4) hE (Or.inl ⟨hI, rfl, rfl⟩) hw_5 rfl inZX9 tyX9_ok nmX9 (by decide) q470 ⟨_, rfl, Or.inl rfl⟩ (by decide +kernel) rfl rfl dX9_init_44 (fun σ_6 hx_6 hw_6 => ?_)
  have hX_6 := hx_6
  have hX_5 := hx_5.tr hX_6
  have hX_4 := hx_4.tr hX_5
  have hX_3 := hx_3.tr hX_4
  have hX_2 := hx_2.tr hX_3
  have hX_1 := hx_1.tr hX_2
  exact hret _ _ _ _ _ _ _ _ (Nat.le_of_ble_eq_true rfl) (Nat.le_of_ble_eq_true rfl) dX9_init_47 ⟨hX_1, ⟨q_2, q_3, q_4, q_5, hw_6, (hX_3.T ha_2 (zT.ne ha_2 hw_2 (by simp))), (hX_4.T ha_3 (zT.ne ha_3 hw_3 (by simp))), (hX_5.T ha_4 (zT.ne ha_4 hw_4 (by simp))), (hX_6.T ha_5 (zT.ne ha_5 hw_5 (by simp)))⟩, fun c i => by show φ_5 c i w = _; rw [hp_5, hp_4, hp_3, hp_2, hp_1]⟩
-- Ways(s)
set_option maxHeartbeats 4000000 in
set_option maxRecDepth 100000 in
theorem k_Ways (l : Launch) (D : va_G) (cy : Nat → ClassId) (L : List Nat) (σ : Nat → va_E) (φ : Nat → Nat → Nat → Int32) (ρ : Nat → Nat → Int32) {w s : Nat} (hw_0 : zT L σ w (.inr (8, [.null, .null, .null]))) : zMV l D cy yX8_init cX8_init 2 (zrm 1 2 12) [.ref w, .ref s] L σ φ ρ (fun u => zX w L σ φ ρ u.1 u.2.1 u.2.2.1 u.2.2.2 ∧ zWays cy u.1 u.2.1 w s ∧ ∀ c i, u.2.2.1 c i w = φ c i w) := by
  refine zMV.mk (by decide) (Nat.le_of_ble_eq_true rfl) (fun E hE hI hret => ?_)
  have hI := hI rfl
  show zW E 0 0 L σ φ ρ 0 [(0, .ref w), (1, .ref s)] []
  refine x_aload_n hE dX8_init_0 rfl 0 rfl ?_
  refine x_objinit hE q544 q140 q141 dX8_init_1 (Nat.le_of_ble_eq_true rfl) (Nat.le_of_ble_eq_true rfl) ?_
  refine x_aload_n hE dX8_init_4 rfl 0 rfl ?_
  refine x_bipush (v := 6) hE dX8_init_5 (by decide) ?_
  refine x_np (t0 := 0) (ty := .int) (fty := (.array .int)) (ty0 := tyX8) (N0 := 6) (x := (6, .inl (fun _ => 0))) (j0 := 0) hE hI hw_0 rfl inZX8 tyX8_ok nmX8 (by decide) q545 rfl rfl rfl (by decide +kernel) (fun _ => ⟨rfl, rfl⟩) rfl (fun _ h => nomatch h) q207 rfl (fun _ => rfl) (fun _ => rfl) (fun _ => rfl) (by decide) (by decide) (Nat.le_of_ble_eq_true rfl) (Nat.le_of_ble_eq_true rfl) (Nat.le_of_ble_eq_true rfl) dX8_init_7 dX8_init_9 (fun q_1 L_1 σ_1 φ_1 ρ_1 hn_1 hx_1 hw_1 hp_1 ha_1 hr_1 => ?_)
  refine x_aload_n hE dX8_init_12 rfl 0 rfl ?_
  refine x_bipush (v := 6) hE dX8_init_13 (by decide) ?_
  refine x_np (t0 := 0) (ty := .int) (fty := (.array .int)) (ty0 := tyX8) (N0 := 6) (x := (6, .inl (fun _ => 0))) (j0 := 1) hE hI hw_1 rfl inZX8 tyX8_ok nmX8 (by decide) q547 rfl rfl rfl (by decide +kernel) (fun _ => ⟨rfl, rfl⟩) rfl (fun _ h => nomatch h) q207 rfl (fun _ => rfl) (fun _ => rfl) (fun _ => rfl) (by decide) (by decide) (Nat.le_of_ble_eq_true rfl) (Nat.le_of_ble_eq_true rfl) (Nat.le_of_ble_eq_true rfl) dX8_init_15 dX8_init_17 (fun q_2 L_2 σ_2 φ_2 ρ_2 hn_2 hx_2 hw_2 hp_2 ha_2 hr_2 => ?_)
  refine x_aload_n hE dX8_init_20 rfl 0 rfl ?_
  refine x_aload_n hE dX8_init_21 rfl 1 rfl ?_
  refine x_putr (ty := .object "OwnRain$State") (ty0 := tyX8) (j0 := 2) hE (Or.inl ⟨hI, rfl, rfl⟩) hw_2 rfl inZX8 tyX8_ok nmX8 (by decide) q548 ⟨_, rfl, Or.inl rfl⟩ (by decide +kernel) rfl rfl dX8_init_22 (fun σ_3 hx_3 hw_3 => ?_)
  have hX_3 := hx_3
  have hX_2 := hx_2.tr hX_3
  have hX_1 := hx_1.tr hX_2
  exact hret _ _ _ _ _ _ _ _ (Nat.le_of_ble_eq_true rfl) (Nat.le_of_ble_eq_true rfl) dX8_init_25 ⟨hX_1, ⟨q_1, q_2, hw_3, (hX_2.T ha_1 (zT.ne ha_1 hw_1 (by simp))), (hX_3.T ha_2 (zT.ne ha_2 hw_2 (by simp)))⟩, fun c i => by show φ_2 c i w = _; rw [hp_2, hp_1]⟩
