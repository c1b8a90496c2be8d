theorem dX12_by_0 : decode cX12_by 0 = .ok (.iload_n 1, 1) := by decide +kernel
theorem dX12_by_1 : decode cX12_by 1 = .ok (.iconst (-1), 1) := by decide +kernel
theorem dX12_by_2 : decode cX12_by 2 = .ok (.aload_n 0, 1) := by decide +kernel
theorem dX12_by_3 : decode cX12_by 3 = .ok (.getfield 7, 3) := by decide +kernel
theorem dX12_by_6 : decode cX12_by 6 = .ok (.bipush 7, 2) := by decide +kernel
theorem dX12_by_8 : decode cX12_by 8 = .ok (.iaload, 1) := by decide +kernel
theorem dX12_by_9 : decode cX12_by 9 = .ok (.iconst 1, 1) := by decide +kernel
theorem dX12_by_10 : decode cX12_by 10 = .ok (.isub, 1) := by decide +kernel
theorem dX12_by_11 : decode cX12_by 11 = .ok (.invokestatic 113, 3) := by decide +kernel
theorem dX12_by_14 : decode cX12_by 14 = .ok (.ifCond .ne 5, 3) := by decide +kernel
theorem dX12_by_17 : decode cX12_by 17 = .ok (.iconst 0, 1) := by decide +kernel
theorem dX12_by_18 : decode cX12_by 18 = .ok (.ireturn, 1) := by decide +kernel
theorem dX12_by_19 : decode cX12_by 19 = .ok (.aload_n 0, 1) := by decide +kernel
theorem dX12_by_20 : decode cX12_by 20 = .ok (.getfield 7, 3) := by decide +kernel
theorem dX12_by_23 : decode cX12_by 23 = .ok (.bipush 8, 2) := by decide +kernel
theorem dX12_by_25 : decode cX12_by 25 = .ok (.iload_n 1, 1) := by decide +kernel
theorem dX12_by_26 : decode cX12_by 26 = .ok (.iastore, 1) := by decide +kernel
theorem dX12_by_27 : decode cX12_by 27 = .ok (.iconst 1, 1) := by decide +kernel
theorem dX12_by_28 : decode cX12_by 28 = .ok (.ireturn, 1) := by decide +kernel
theorem dX12_cross_0 : decode cX12_cross 0 = .ok (.aload_n 0, 1) := by decide +kernel
theorem dX12_cross_1 : decode cX12_cross 1 = .ok (.iload_n 1, 1) := by decide +kernel
theorem dX12_cross_2 : decode cX12_cross 2 = .ok (.invokevirtual 117, 3) := by decide +kernel
theorem dX12_cross_5 : decode cX12_cross 5 = .ok (.ifCond .eq 28, 3) := by decide +kernel
theorem dX12_cross_33 : decode cX12_cross 33 = .ok (.iconst (-1), 1) := by decide +kernel
theorem dX12_cross_34 : decode cX12_cross 34 = .ok (.ireturn, 1) := by decide +kernel
theorem dX12_end_0 : decode cX12_end 0 = .ok (.iload_n 1, 1) := by decide +kernel
theorem dX12_end_1 : decode cX12_end 1 = .ok (.iconst 0, 1) := by decide +kernel
theorem dX12_end_2 : decode cX12_end 2 = .ok (.aload_n 0, 1) := by decide +kernel
theorem dX12_end_3 : decode cX12_end 3 = .ok (.getfield 133, 3) := by decide +kernel
theorem dX12_end_6 : decode cX12_end 6 = .ok (.invokestatic 113, 3) := by decide +kernel
theorem dX12_end_9 : decode cX12_end 9 = .ok (.ifCond .ne 5, 3) := by decide +kernel
theorem dX12_end_12 : decode cX12_end 12 = .ok (.iconst (-1), 1) := by decide +kernel
theorem dX12_end_13 : decode cX12_end 13 = .ok (.ireturn, 1) := by decide +kernel
theorem dX12_end_14 : decode cX12_end 14 = .ok (.aload_n 0, 1) := by decide +kernel
theorem dX12_end_15 : decode cX12_end 15 = .ok (.iload_n 1, 1) := by decide +kernel
theorem dX12_end_16 : decode cX12_end 16 = .ok (.putfield 133, 3) := by decide +kernel
theorem dX12_end_19 : decode cX12_end 19 = .ok (.iload_n 1, 1) := by decide +kernel
theorem dX12_end_20 : decode cX12_end 20 = .ok (.ireturn, 1) := by decide +kernel
theorem dX12_fault_0 : decode cX12_fault 0 = .ok (.iload_n 1, 1) := by decide +kernel
theorem dX12_fault_1 : decode cX12_fault 1 = .ok (.ifCond .ne 10, 3) := by decide +kernel
theorem dX12_fault_4 : decode cX12_fault 4 = .ok (.aload_n 0, 1) := by decide +kernel
theorem dX12_fault_5 : decode cX12_fault 5 = .ok (.getfield 22, 3) := by decide +kernel
theorem dX12_fault_8 : decode cX12_fault 8 = .ok (.goto 16, 3) := by decide +kernel
theorem dX12_fault_11 : decode cX12_fault 11 = .ok (.iload_n 1, 1) := by decide +kernel
theorem dX12_fault_12 : decode cX12_fault 12 = .ok (.iconst 1, 1) := by decide +kernel
theorem dX12_fault_13 : decode cX12_fault 13 = .ok (.if_icmp .ne 10, 3) := by decide +kernel
theorem dX12_fault_16 : decode cX12_fault 16 = .ok (.aload_n 0, 1) := by decide +kernel
theorem dX12_fault_17 : decode cX12_fault 17 = .ok (.getfield 26, 3) := by decide +kernel
theorem dX12_fault_20 : decode cX12_fault 20 = .ok (.goto 4, 3) := by decide +kernel
theorem dX12_fault_23 : decode cX12_fault 23 = .ok (.iconst (-1), 1) := by decide +kernel
theorem dX12_fault_24 : decode cX12_fault 24 = .ok (.ireturn, 1) := by decide +kernel
theorem dX12_field_0 : decode cX12_field 0 = .ok (.iload_n 1, 1) := by decide +kernel
theorem dX12_field_1 : decode cX12_field 1 = .ok (.iconst 0, 1) := by decide +kernel
theorem dX12_field_2 : decode cX12_field 2 = .ok (.bipush 9, 2) := by decide +kernel
theorem dX12_field_4 : decode cX12_field 4 = .ok (.invokestatic 113, 3) := by decide +kernel
theorem dX12_field_7 : decode cX12_field 7 = .ok (.ifCond .eq 41, 3) := by decide +kernel
theorem dX12_field_10 : decode cX12_field 10 = .ok (.iload_n 2, 1) := by decide +kernel
theorem dX12_field_11 : decode cX12_field 11 = .ok (.iconst 0, 1) := by decide +kernel
theorem dX12_field_12 : decode cX12_field 12 = .ok (.sipush 999, 3) := by decide +kernel
theorem dX12_field_15 : decode cX12_field 15 = .ok (.invokestatic 113, 3) := by decide +kernel
theorem dX12_field_18 : decode cX12_field 18 = .ok (.ifCond .eq 30, 3) := by decide +kernel
theorem dX12_field_21 : decode cX12_field 21 = .ok (.iload_n 3, 1) := by decide +kernel
theorem dX12_field_22 : decode cX12_field 22 = .ok (.iconst 1, 1) := by decide +kernel
theorem dX12_field_23 : decode cX12_field 23 = .ok (.sipush 999, 3) := by decide +kernel
theorem dX12_field_26 : decode cX12_field 26 = .ok (.invokestatic 113, 3) := by decide +kernel
theorem dX12_field_29 : decode cX12_field 29 = .ok (.ifCond .eq 19, 3) := by decide +kernel
theorem dX12_field_32 : decode cX12_field 32 = .ok (.iload_n 2, 1) := by decide +kernel
theorem dX12_field_33 : decode cX12_field 33 = .ok (.iload_n 3, 1) := by decide +kernel
theorem dX12_field_34 : decode cX12_field 34 = .ok (.if_icmp .ge 14, 3) := by decide +kernel
theorem dX12_field_37 : decode cX12_field 37 = .ok (.aload_n 0, 1) := by decide +kernel
theorem dX12_field_38 : decode cX12_field 38 = .ok (.getfield 7, 3) := by decide +kernel
theorem dX12_field_41 : decode cX12_field 41 = .ok (.iconst 0, 1) := by decide +kernel
theorem dX12_field_42 : decode cX12_field 42 = .ok (.iaload, 1) := by decide +kernel
theorem dX12_field_43 : decode cX12_field 43 = .ok (.bipush 6, 2) := by decide +kernel
theorem dX12_field_45 : decode cX12_field 45 = .ok (.if_icmp .ne 5, 3) := by decide +kernel
theorem dX12_field_48 : decode cX12_field 48 = .ok (.iconst (-1), 1) := by decide +kernel
theorem dX12_field_49 : decode cX12_field 49 = .ok (.ireturn, 1) := by decide +kernel
theorem dX12_field_50 : decode cX12_field 50 = .ok (.bipush 16, 2) := by decide +kernel
theorem dX12_field_52 : decode cX12_field 52 = .ok (.bipush 7, 2) := by decide +kernel
theorem dX12_field_54 : decode cX12_field 54 = .ok (.aload_n 0, 1) := by decide +kernel
theorem dX12_field_55 : decode cX12_field 55 = .ok (.getfield 7, 3) := by decide +kernel
theorem dX12_field_58 : decode cX12_field 58 = .ok (.iconst 0, 1) := by decide +kernel
theorem dX12_field_59 : decode cX12_field 59 = .ok (.iaload, 1) := by decide +kernel
theorem dX12_field_60 : decode cX12_field 60 = .ok (.imul, 1) := by decide +kernel
theorem dX12_field_61 : decode cX12_field 61 = .ok (.iadd, 1) := by decide +kernel
theorem dX12_field_62 : decode cX12_field 62 = .ok (.istore 4, 2) := by decide +kernel
theorem dX12_field_64 : decode cX12_field 64 = .ok (.iconst 0, 1) := by decide +kernel
theorem dX12_field_65 : decode cX12_field 65 = .ok (.istore 5, 2) := by decide +kernel
theorem dX12_field_67 : decode cX12_field 67 = .ok (.iload 5, 2) := by decide +kernel
theorem dX12_field_69 : decode cX12_field 69 = .ok (.bipush 7, 2) := by decide +kernel
theorem dX12_field_71 : decode cX12_field 71 = .ok (.if_icmp .ge 20, 3) := by decide +kernel
theorem dX12_field_74 : decode cX12_field 74 = .ok (.aload_n 0, 1) := by decide +kernel
theorem dX12_field_75 : decode cX12_field 75 = .ok (.getfield 7, 3) := by decide +kernel
theorem dX12_field_78 : decode cX12_field 78 = .ok (.iload 4, 2) := by decide +kernel
theorem dX12_field_80 : decode cX12_field 80 = .ok (.iload 5, 2) := by decide +kernel
theorem dX12_field_82 : decode cX12_field 82 = .ok (.iadd, 1) := by decide +kernel
theorem dX12_field_83 : decode cX12_field 83 = .ok (.iconst 0, 1) := by decide +kernel
theorem dX12_field_84 : decode cX12_field 84 = .ok (.iastore, 1) := by decide +kernel
theorem dX12_field_85 : decode cX12_field 85 = .ok (.iinc 5 1, 3) := by decide +kernel
theorem dX12_field_88 : decode cX12_field 88 = .ok (.goto (-21), 3) := by decide +kernel
theorem dX12_field_91 : decode cX12_field 91 = .ok (.aload_n 0, 1) := by decide +kernel
theorem dX12_field_92 : decode cX12_field 92 = .ok (.getfield 7, 3) := by decide +kernel
theorem dX12_field_95 : decode cX12_field 95 = .ok (.iload 4, 2) := by decide +kernel
theorem dX12_field_97 : decode cX12_field 97 = .ok (.iconst 0, 1) := by decide +kernel
theorem dX12_field_98 : decode cX12_field 98 = .ok (.iadd, 1) := by decide +kernel
theorem dX12_field_99 : decode cX12_field 99 = .ok (.iload_n 1, 1) := by decide +kernel
theorem dX12_field_100 : decode cX12_field 100 = .ok (.iastore, 1) := by decide +kernel
theorem dX12_field_101 : decode cX12_field 101 = .ok (.aload_n 0, 1) := by decide +kernel
theorem dX12_field_102 : decode cX12_field 102 = .ok (.getfield 7, 3) := by decide +kernel
theorem dX12_field_105 : decode cX12_field 105 = .ok (.iload 4, 2) := by decide +kernel
theorem dX12_field_107 : decode cX12_field 107 = .ok (.iconst 1, 1) := by decide +kernel
theorem dX12_field_108 : decode cX12_field 108 = .ok (.iadd, 1) := by decide +kernel
theorem dX12_field_109 : decode cX12_field 109 = .ok (.iload_n 2, 1) := by decide +kernel
theorem dX12_field_110 : decode cX12_field 110 = .ok (.iastore, 1) := by decide +kernel
theorem dX12_field_111 : decode cX12_field 111 = .ok (.aload_n 0, 1) := by decide +kernel
theorem dX12_field_112 : decode cX12_field 112 = .ok (.getfield 7, 3) := by decide +kernel
theorem dX12_field_115 : decode cX12_field 115 = .ok (.iload 4, 2) := by decide +kernel
theorem dX12_field_117 : decode cX12_field 117 = .ok (.iconst 2, 1) := by decide +kernel
theorem dX12_field_118 : decode cX12_field 118 = .ok (.iadd, 1) := by decide +kernel
theorem dX12_field_119 : decode cX12_field 119 = .ok (.iload_n 3, 1) := by decide +kernel
theorem dX12_field_120 : decode cX12_field 120 = .ok (.iastore, 1) := by decide +kernel
theorem dX12_field_121 : decode cX12_field 121 = .ok (.aload_n 0, 1) := by decide +kernel
theorem dX12_field_122 : decode cX12_field 122 = .ok (.getfield 7, 3) := by decide +kernel
theorem dX12_field_125 : decode cX12_field 125 = .ok (.iconst 0, 1) := by decide +kernel
theorem dX12_field_126 : decode cX12_field 126 = .ok (.dup2, 1) := by decide +kernel
theorem dX12_field_127 : decode cX12_field 127 = .ok (.iaload, 1) := by decide +kernel
theorem dX12_field_128 : decode cX12_field 128 = .ok (.iconst 1, 1) := by decide +kernel
theorem dX12_field_129 : decode cX12_field 129 = .ok (.iadd, 1) := by decide +kernel
theorem dX12_field_130 : decode cX12_field 130 = .ok (.iastore, 1) := by decide +kernel
theorem dX12_field_131 : decode cX12_field 131 = .ok (.aload_n 0, 1) := by decide +kernel
theorem dX12_field_132 : decode cX12_field 132 = .ok (.getfield 7, 3) := by decide +kernel
theorem dX12_field_135 : decode cX12_field 135 = .ok (.iconst 0, 1) := by decide +kernel
theorem dX12_field_136 : decode cX12_field 136 = .ok (.iaload, 1) := by decide +kernel
theorem dX12_field_137 : decode cX12_field 137 = .ok (.iconst 1, 1) := by decide +kernel
theorem dX12_field_138 : decode cX12_field 138 = .ok (.isub, 1) := by decide +kernel
theorem dX12_field_139 : decode cX12_field 139 = .ok (.ireturn, 1) := by decide +kernel
theorem dX12_forecast_0 : decode cX12_forecast 0 = .ok (.iload_n 1, 1) := by decide +kernel
theorem dX12_forecast_1 : decode cX12_forecast 1 = .ok (.iconst (-1), 1) := by decide +kernel
theorem dX12_forecast_2 : decode cX12_forecast 2 = .ok (.if_icmp .ne 13, 3) := by decide +kernel
theorem dX12_forecast_5 : decode cX12_forecast 5 = .ok (.aload_n 0, 1) := by decide +kernel
theorem dX12_forecast_6 : decode cX12_forecast 6 = .ok (.getfield 7, 3) := by decide +kernel
theorem dX12_forecast_9 : decode cX12_forecast 9 = .ok (.bipush 11, 2) := by decide +kernel
theorem dX12_forecast_11 : decode cX12_forecast 11 = .ok (.iconst 0, 1) := by decide +kernel
theorem dX12_forecast_12 : decode cX12_forecast 12 = .ok (.iastore, 1) := by decide +kernel
theorem dX12_forecast_13 : decode cX12_forecast 13 = .ok (.iconst 0, 1) := by decide +kernel
theorem dX12_forecast_14 : decode cX12_forecast 14 = .ok (.ireturn, 1) := by decide +kernel
theorem dX12_forecast_15 : decode cX12_forecast 15 = .ok (.iload_n 1, 1) := by decide +kernel
theorem dX12_forecast_16 : decode cX12_forecast 16 = .ok (.iconst 0, 1) := by decide +kernel
theorem dX12_forecast_17 : decode cX12_forecast 17 = .ok (.bipush 9, 2) := by decide +kernel
theorem dX12_forecast_19 : decode cX12_forecast 19 = .ok (.invokestatic 113, 3) := by decide +kernel
theorem dX12_forecast_22 : decode cX12_forecast 22 = .ok (.ifCond .eq 15, 3) := by decide +kernel
theorem dX12_forecast_25 : decode cX12_forecast 25 = .ok (.aload_n 0, 1) := by decide +kernel
theorem dX12_forecast_26 : decode cX12_forecast 26 = .ok (.getfield 7, 3) := by decide +kernel
theorem dX12_forecast_29 : decode cX12_forecast 29 = .ok (.bipush 11, 2) := by decide +kernel
theorem dX12_forecast_31 : decode cX12_forecast 31 = .ok (.iaload, 1) := by decide +kernel
theorem dX12_forecast_32 : decode cX12_forecast 32 = .ok (.bipush 12, 2) := by decide +kernel
theorem dX12_forecast_34 : decode cX12_forecast 34 = .ok (.if_icmp .ne 6, 3) := by decide +kernel
theorem dX12_forecast_37 : decode cX12_forecast 37 = .ok (.bipush (-2), 2) := by decide +kernel
theorem dX12_forecast_39 : decode cX12_forecast 39 = .ok (.ireturn, 1) := by decide +kernel
theorem dX12_forecast_40 : decode cX12_forecast 40 = .ok (.aload_n 0, 1) := by decide +kernel
theorem dX12_forecast_41 : decode cX12_forecast 41 = .ok (.getfield 7, 3) := by decide +kernel
theorem dX12_forecast_44 : decode cX12_forecast 44 = .ok (.sipush 132, 3) := by decide +kernel
theorem dX12_forecast_47 : decode cX12_forecast 47 = .ok (.iconst 2, 1) := by decide +kernel
theorem dX12_forecast_48 : decode cX12_forecast 48 = .ok (.aload_n 0, 1) := by decide +kernel
theorem dX12_forecast_49 : decode cX12_forecast 49 = .ok (.getfield 7, 3) := by decide +kernel
theorem dX12_forecast_52 : decode cX12_forecast 52 = .ok (.bipush 11, 2) := by decide +kernel
theorem dX12_forecast_54 : decode cX12_forecast 54 = .ok (.iaload, 1) := by decide +kernel
theorem dX12_forecast_55 : decode cX12_forecast 55 = .ok (.imul, 1) := by decide +kernel
theorem dX12_forecast_56 : decode cX12_forecast 56 = .ok (.iadd, 1) := by decide +kernel
theorem dX12_forecast_57 : decode cX12_forecast 57 = .ok (.iload_n 1, 1) := by decide +kernel
theorem dX12_forecast_58 : decode cX12_forecast 58 = .ok (.iastore, 1) := by decide +kernel
theorem dX12_forecast_59 : decode cX12_forecast 59 = .ok (.aload_n 0, 1) := by decide +kernel
theorem dX12_forecast_60 : decode cX12_forecast 60 = .ok (.getfield 7, 3) := by decide +kernel
theorem dX12_forecast_63 : decode cX12_forecast 63 = .ok (.sipush 132, 3) := by decide +kernel
theorem dX12_forecast_66 : decode cX12_forecast 66 = .ok (.iconst 2, 1) := by decide +kernel
theorem dX12_forecast_67 : decode cX12_forecast 67 = .ok (.aload_n 0, 1) := by decide +kernel
theorem dX12_forecast_68 : decode cX12_forecast 68 = .ok (.getfield 7, 3) := by decide +kernel
theorem dX12_forecast_71 : decode cX12_forecast 71 = .ok (.bipush 11, 2) := by decide +kernel
theorem dX12_forecast_73 : decode cX12_forecast 73 = .ok (.iaload, 1) := by decide +kernel
theorem dX12_forecast_74 : decode cX12_forecast 74 = .ok (.imul, 1) := by decide +kernel
theorem dX12_forecast_75 : decode cX12_forecast 75 = .ok (.iadd, 1) := by decide +kernel
theorem dX12_forecast_76 : decode cX12_forecast 76 = .ok (.iconst 1, 1) := by decide +kernel
theorem dX12_forecast_77 : decode cX12_forecast 77 = .ok (.iadd, 1) := by decide +kernel
theorem dX12_forecast_78 : decode cX12_forecast 78 = .ok (.iload_n 2, 1) := by decide +kernel
theorem dX12_forecast_79 : decode cX12_forecast 79 = .ok (.ifCond .eq 7, 3) := by decide +kernel
theorem dX12_forecast_82 : decode cX12_forecast 82 = .ok (.iconst 1, 1) := by decide +kernel
theorem dX12_forecast_83 : decode cX12_forecast 83 = .ok (.goto 4, 3) := by decide +kernel
theorem dX12_forecast_86 : decode cX12_forecast 86 = .ok (.iconst 0, 1) := by decide +kernel
theorem dX12_forecast_87 : decode cX12_forecast 87 = .ok (.iastore, 1) := by decide +kernel
theorem dX12_forecast_88 : decode cX12_forecast 88 = .ok (.aload_n 0, 1) := by decide +kernel
theorem dX12_forecast_89 : decode cX12_forecast 89 = .ok (.getfield 7, 3) := by decide +kernel
theorem dX12_forecast_92 : decode cX12_forecast 92 = .ok (.bipush 11, 2) := by decide +kernel
theorem dX12_forecast_94 : decode cX12_forecast 94 = .ok (.dup2, 1) := by decide +kernel
theorem dX12_forecast_95 : decode cX12_forecast 95 = .ok (.iaload, 1) := by decide +kernel
theorem dX12_forecast_96 : decode cX12_forecast 96 = .ok (.iconst 1, 1) := by decide +kernel
theorem dX12_forecast_97 : decode cX12_forecast 97 = .ok (.iadd, 1) := by decide +kernel
theorem dX12_forecast_98 : decode cX12_forecast 98 = .ok (.iastore, 1) := by decide +kernel
theorem dX12_forecast_99 : decode cX12_forecast 99 = .ok (.aload_n 0, 1) := by decide +kernel
theorem dX12_forecast_100 : decode cX12_forecast 100 = .ok (.getfield 7, 3) := by decide +kernel
theorem dX12_forecast_103 : decode cX12_forecast 103 = .ok (.bipush 11, 2) := by decide +kernel
theorem dX12_forecast_105 : decode cX12_forecast 105 = .ok (.iaload, 1) := by decide +kernel
theorem dX12_forecast_106 : decode cX12_forecast 106 = .ok (.ireturn, 1) := by decide +kernel
theorem dX12_foretoldCloud_0 : decode cX12_foretoldCloud 0 = .ok (.iload_n 1, 1) := by decide +kernel
theorem dX12_foretoldCloud_1 : decode cX12_foretoldCloud 1 = .ok (.iconst 1, 1) := by decide +kernel
theorem dX12_foretoldCloud_2 : decode cX12_foretoldCloud 2 = .ok (.bipush 30, 2) := by decide +kernel
theorem dX12_foretoldCloud_4 : decode cX12_foretoldCloud 4 = .ok (.invokestatic 113, 3) := by decide +kernel
theorem dX12_foretoldCloud_7 : decode cX12_foretoldCloud 7 = .ok (.ifCond .eq 11, 3) := by decide +kernel
theorem dX12_foretoldCloud_10 : decode cX12_foretoldCloud 10 = .ok (.aload_n 0, 1) := by decide +kernel
theorem dX12_foretoldCloud_11 : decode cX12_foretoldCloud 11 = .ok (.iload_n 2, 1) := by decide +kernel
theorem dX12_foretoldCloud_12 : decode cX12_foretoldCloud 12 = .ok (.invokevirtual 397, 3) := by decide +kernel
theorem dX12_foretoldCloud_15 : decode cX12_foretoldCloud 15 = .ok (.ifCond .ne 5, 3) := by decide +kernel
theorem dX12_foretoldCloud_18 : decode cX12_foretoldCloud 18 = .ok (.iconst (-1), 1) := by decide +kernel
theorem dX12_foretoldCloud_19 : decode cX12_foretoldCloud 19 = .ok (.ireturn, 1) := by decide +kernel
theorem dX12_foretoldWet_0 : decode cX12_foretoldWet 0 = .ok (.iload_n 1, 1) := by decide +kernel
theorem dX12_foretoldWet_1 : decode cX12_foretoldWet 1 = .ok (.iconst 1, 1) := by decide +kernel
theorem dX12_foretoldWet_2 : decode cX12_foretoldWet 2 = .ok (.bipush 30, 2) := by decide +kernel
theorem dX12_foretoldWet_4 : decode cX12_foretoldWet 4 = .ok (.invokestatic 113, 3) := by decide +kernel
theorem dX12_foretoldWet_7 : decode cX12_foretoldWet 7 = .ok (.ifCond .eq 11, 3) := by decide +kernel
theorem dX12_foretoldWet_10 : decode cX12_foretoldWet 10 = .ok (.aload_n 0, 1) := by decide +kernel
theorem dX12_foretoldWet_11 : decode cX12_foretoldWet 11 = .ok (.iload_n 2, 1) := by decide +kernel
theorem dX12_foretoldWet_12 : decode cX12_foretoldWet 12 = .ok (.invokevirtual 117, 3) := by decide +kernel
theorem dX12_foretoldWet_15 : decode cX12_foretoldWet 15 = .ok (.ifCond .ne 5, 3) := by decide +kernel
theorem dX12_foretoldWet_18 : decode cX12_foretoldWet 18 = .ok (.iconst (-1), 1) := by decide +kernel
theorem dX12_foretoldWet_19 : decode cX12_foretoldWet 19 = .ok (.ireturn, 1) := by decide +kernel
theorem dX12_isField_0 : decode cX12_isField 0 = .ok (.iload_n 1, 1) := by decide +kernel
theorem dX12_isField_1 : decode cX12_isField 1 = .ok (.iconst 0, 1) := by decide +kernel
theorem dX12_isField_2 : decode cX12_isField 2 = .ok (.aload_n 0, 1) := by decide +kernel
theorem dX12_isField_3 : decode cX12_isField 3 = .ok (.getfield 7, 3) := by decide +kernel
theorem dX12_isField_6 : decode cX12_isField 6 = .ok (.iconst 0, 1) := by decide +kernel
theorem dX12_isField_7 : decode cX12_isField 7 = .ok (.iaload, 1) := by decide +kernel
theorem dX12_isField_8 : decode cX12_isField 8 = .ok (.iconst 1, 1) := by decide +kernel
theorem dX12_isField_9 : decode cX12_isField 9 = .ok (.isub, 1) := by decide +kernel
theorem dX12_isField_10 : decode cX12_isField 10 = .ok (.invokestatic 113, 3) := by decide +kernel
theorem dX12_isField_13 : decode cX12_isField 13 = .ok (.ireturn, 1) := by decide +kernel
theorem dX12_isIn_0 : decode cX12_isIn 0 = .ok (.iload_n 0, 1) := by decide +kernel
theorem dX12_isIn_1 : decode cX12_isIn 1 = .ok (.iload_n 1, 1) := by decide +kernel
theorem dX12_isIn_2 : decode cX12_isIn 2 = .ok (.if_icmp .lt 12, 3) := by decide +kernel
theorem dX12_isIn_5 : decode cX12_isIn 5 = .ok (.iload_n 0, 1) := by decide +kernel
theorem dX12_isIn_6 : decode cX12_isIn 6 = .ok (.iload_n 2, 1) := by decide +kernel
theorem dX12_isIn_7 : decode cX12_isIn 7 = .ok (.if_icmp .gt 7, 3) := by decide +kernel
theorem dX12_isIn_10 : decode cX12_isIn 10 = .ok (.iconst 1, 1) := by decide +kernel
theorem dX12_isIn_11 : decode cX12_isIn 11 = .ok (.goto 4, 3) := by decide +kernel
theorem dX12_isIn_14 : decode cX12_isIn 14 = .ok (.iconst 0, 1) := by decide +kernel
theorem dX12_isIn_15 : decode cX12_isIn 15 = .ok (.ireturn, 1) := by decide +kernel
theorem dX12_isPerson_0 : decode cX12_isPerson 0 = .ok (.iload_n 1, 1) := by decide +kernel
theorem dX12_isPerson_1 : decode cX12_isPerson 1 = .ok (.iconst 0, 1) := by decide +kernel
theorem dX12_isPerson_2 : decode cX12_isPerson 2 = .ok (.aload_n 0, 1) := by decide +kernel
theorem dX12_isPerson_3 : decode cX12_isPerson 3 = .ok (.getfield 7, 3) := by decide +kernel
theorem dX12_isPerson_6 : decode cX12_isPerson 6 = .ok (.iconst 1, 1) := by decide +kernel
theorem dX12_isPerson_7 : decode cX12_isPerson 7 = .ok (.iaload, 1) := by decide +kernel
theorem dX12_isPerson_8 : decode cX12_isPerson 8 = .ok (.iconst 1, 1) := by decide +kernel
theorem dX12_isPerson_9 : decode cX12_isPerson 9 = .ok (.isub, 1) := by decide +kernel
theorem dX12_isPerson_10 : decode cX12_isPerson 10 = .ok (.invokestatic 113, 3) := by decide +kernel
theorem dX12_isPerson_13 : decode cX12_isPerson 13 = .ok (.ireturn, 1) := by decide +kernel
theorem dX12_missing_0 : decode cX12_missing 0 = .ok (.iload_n 1, 1) := by decide +kernel
theorem dX12_missing_1 : decode cX12_missing 1 = .ok (.iconst (-1), 1) := by decide +kernel
theorem dX12_missing_2 : decode cX12_missing 2 = .ok (.if_icmp .ne 13, 3) := by decide +kernel
theorem dX12_missing_5 : decode cX12_missing 5 = .ok (.aload_n 0, 1) := by decide +kernel
theorem dX12_missing_6 : decode cX12_missing 6 = .ok (.getfield 7, 3) := by decide +kernel
theorem dX12_missing_9 : decode cX12_missing 9 = .ok (.bipush 10, 2) := by decide +kernel
theorem dX12_missing_11 : decode cX12_missing 11 = .ok (.iconst 0, 1) := by decide +kernel
theorem dX12_missing_12 : decode cX12_missing 12 = .ok (.iastore, 1) := by decide +kernel
theorem dX12_missing_13 : decode cX12_missing 13 = .ok (.iconst 0, 1) := by decide +kernel
theorem dX12_missing_14 : decode cX12_missing 14 = .ok (.ireturn, 1) := by decide +kernel
theorem dX12_missing_15 : decode cX12_missing 15 = .ok (.aload_n 0, 1) := by decide +kernel
theorem dX12_missing_16 : decode cX12_missing 16 = .ok (.iload_n 1, 1) := by decide +kernel
theorem dX12_missing_17 : decode cX12_missing 17 = .ok (.invokevirtual 397, 3) := by decide +kernel
theorem dX12_missing_20 : decode cX12_missing 20 = .ok (.ifCond .eq 37, 3) := by decide +kernel
theorem dX12_missing_57 : decode cX12_missing 57 = .ok (.bipush (-2), 2) := by decide +kernel
theorem dX12_missing_59 : decode cX12_missing 59 = .ok (.ireturn, 1) := by decide +kernel
theorem dX12_ofField_0 : decode cX12_ofField 0 = .ok (.aload_n 0, 1) := by decide +kernel
theorem dX12_ofField_1 : decode cX12_ofField 1 = .ok (.iload_n 1, 1) := by decide +kernel
theorem dX12_ofField_2 : decode cX12_ofField 2 = .ok (.invokevirtual 117, 3) := by decide +kernel
theorem dX12_ofField_5 : decode cX12_ofField 5 = .ok (.ifCond .eq 13, 3) := by decide +kernel
theorem dX12_ofField_18 : decode cX12_ofField 18 = .ok (.iconst (-1), 1) := by decide +kernel
theorem dX12_ofField_19 : decode cX12_ofField 19 = .ok (.ireturn, 1) := by decide +kernel
theorem dX12_ofPerson_0 : decode cX12_ofPerson 0 = .ok (.aload_n 0, 1) := by decide +kernel
theorem dX12_ofPerson_1 : decode cX12_ofPerson 1 = .ok (.iload_n 1, 1) := by decide +kernel
theorem dX12_ofPerson_2 : decode cX12_ofPerson 2 = .ok (.invokevirtual 397, 3) := by decide +kernel
theorem dX12_ofPerson_5 : decode cX12_ofPerson 5 = .ok (.ifCond .ne 6, 3) := by decide +kernel
theorem dX12_ofPerson_8 : decode cX12_ofPerson 8 = .ok (.bipush (-2), 2) := by decide +kernel
theorem dX12_ofPerson_10 : decode cX12_ofPerson 10 = .ok (.ireturn, 1) := by decide +kernel
theorem dX12_offer_0 : decode cX12_offer 0 = .ok (.iload_n 3, 1) := by decide +kernel
theorem dX12_offer_1 : decode cX12_offer 1 = .ok (.ifCond .ne 13, 3) := by decide +kernel
theorem dX12_offer_4 : decode cX12_offer 4 = .ok (.aload_n 0, 1) := by decide +kernel
theorem dX12_offer_5 : decode cX12_offer 5 = .ok (.getfield 7, 3) := by decide +kernel
theorem dX12_offer_8 : decode cX12_offer 8 = .ok (.bipush 12, 2) := by decide +kernel
theorem dX12_offer_10 : decode cX12_offer 10 = .ok (.iconst 0, 1) := by decide +kernel
theorem dX12_offer_11 : decode cX12_offer 11 = .ok (.iastore, 1) := by decide +kernel
theorem dX12_offer_12 : decode cX12_offer 12 = .ok (.iconst 0, 1) := by decide +kernel
theorem dX12_offer_13 : decode cX12_offer 13 = .ok (.ireturn, 1) := by decide +kernel
theorem dX12_offer_14 : decode cX12_offer 14 = .ok (.iload_n 2, 1) := by decide +kernel
theorem dX12_offer_15 : decode cX12_offer 15 = .ok (.iconst 0, 1) := by decide +kernel
theorem dX12_offer_16 : decode cX12_offer 16 = .ok (.bipush 99, 2) := by decide +kernel
theorem dX12_offer_18 : decode cX12_offer 18 = .ok (.invokestatic 113, 3) := by decide +kernel
theorem dX12_offer_21 : decode cX12_offer 21 = .ok (.ifCond .eq 25, 3) := by decide +kernel
theorem dX12_offer_24 : decode cX12_offer 24 = .ok (.iload_n 3, 1) := by decide +kernel
theorem dX12_offer_25 : decode cX12_offer 25 = .ok (.iconst 1, 1) := by decide +kernel
theorem dX12_offer_26 : decode cX12_offer 26 = .ok (.bipush 99, 2) := by decide +kernel
theorem dX12_offer_28 : decode cX12_offer 28 = .ok (.invokestatic 113, 3) := by decide +kernel
theorem dX12_offer_31 : decode cX12_offer 31 = .ok (.ifCond .eq 15, 3) := by decide +kernel
theorem dX12_offer_34 : decode cX12_offer 34 = .ok (.aload_n 0, 1) := by decide +kernel
theorem dX12_offer_35 : decode cX12_offer 35 = .ok (.getfield 7, 3) := by decide +kernel
theorem dX12_offer_38 : decode cX12_offer 38 = .ok (.bipush 12, 2) := by decide +kernel
theorem dX12_offer_40 : decode cX12_offer 40 = .ok (.iaload, 1) := by decide +kernel
theorem dX12_offer_41 : decode cX12_offer 41 = .ok (.bipush 10, 2) := by decide +kernel
theorem dX12_offer_43 : decode cX12_offer 43 = .ok (.if_icmp .ne 5, 3) := by decide +kernel
theorem dX12_offer_46 : decode cX12_offer 46 = .ok (.iconst (-1), 1) := by decide +kernel
theorem dX12_offer_47 : decode cX12_offer 47 = .ok (.ireturn, 1) := by decide +kernel
theorem dX12_offer_48 : decode cX12_offer 48 = .ok (.sipush 156, 3) := by decide +kernel
theorem dX12_offer_51 : decode cX12_offer 51 = .ok (.iconst 3, 1) := by decide +kernel
theorem dX12_offer_52 : decode cX12_offer 52 = .ok (.aload_n 0, 1) := by decide +kernel
theorem dX12_offer_53 : decode cX12_offer 53 = .ok (.getfield 7, 3) := by decide +kernel
theorem dX12_offer_56 : decode cX12_offer 56 = .ok (.bipush 12, 2) := by decide +kernel
theorem dX12_offer_58 : decode cX12_offer 58 = .ok (.iaload, 1) := by decide +kernel
theorem dX12_offer_59 : decode cX12_offer 59 = .ok (.imul, 1) := by decide +kernel
theorem dX12_offer_60 : decode cX12_offer 60 = .ok (.iadd, 1) := by decide +kernel
theorem dX12_offer_61 : decode cX12_offer 61 = .ok (.istore 4, 2) := by decide +kernel
theorem dX12_offer_63 : decode cX12_offer 63 = .ok (.aload_n 0, 1) := by decide +kernel
theorem dX12_offer_64 : decode cX12_offer 64 = .ok (.getfield 7, 3) := by decide +kernel
theorem dX12_offer_67 : decode cX12_offer 67 = .ok (.iload 4, 2) := by decide +kernel
theorem dX12_offer_69 : decode cX12_offer 69 = .ok (.iload_n 1, 1) := by decide +kernel
theorem dX12_offer_70 : decode cX12_offer 70 = .ok (.ifCond .eq 7, 3) := by decide +kernel
theorem dX12_offer_73 : decode cX12_offer 73 = .ok (.iconst 1, 1) := by decide +kernel
theorem dX12_offer_74 : decode cX12_offer 74 = .ok (.goto 4, 3) := by decide +kernel
theorem dX12_offer_77 : decode cX12_offer 77 = .ok (.iconst 0, 1) := by decide +kernel
theorem dX12_offer_78 : decode cX12_offer 78 = .ok (.iastore, 1) := by decide +kernel
theorem dX12_offer_79 : decode cX12_offer 79 = .ok (.aload_n 0, 1) := by decide +kernel
theorem dX12_offer_80 : decode cX12_offer 80 = .ok (.getfield 7, 3) := by decide +kernel
theorem dX12_offer_83 : decode cX12_offer 83 = .ok (.iload 4, 2) := by decide +kernel
theorem dX12_offer_85 : decode cX12_offer 85 = .ok (.iconst 1, 1) := by decide +kernel
theorem dX12_offer_86 : decode cX12_offer 86 = .ok (.iadd, 1) := by decide +kernel
theorem dX12_offer_87 : decode cX12_offer 87 = .ok (.iload_n 2, 1) := by decide +kernel
theorem dX12_offer_88 : decode cX12_offer 88 = .ok (.iastore, 1) := by decide +kernel
theorem dX12_offer_89 : decode cX12_offer 89 = .ok (.aload_n 0, 1) := by decide +kernel
theorem dX12_offer_90 : decode cX12_offer 90 = .ok (.getfield 7, 3) := by decide +kernel
theorem dX12_offer_93 : decode cX12_offer 93 = .ok (.iload 4, 2) := by decide +kernel
theorem dX12_offer_95 : decode cX12_offer 95 = .ok (.iconst 2, 1) := by decide +kernel
theorem dX12_offer_96 : decode cX12_offer 96 = .ok (.iadd, 1) := by decide +kernel
theorem dX12_offer_97 : decode cX12_offer 97 = .ok (.iload_n 3, 1) := by decide +kernel
theorem dX12_offer_98 : decode cX12_offer 98 = .ok (.iastore, 1) := by decide +kernel
theorem dX12_offer_99 : decode cX12_offer 99 = .ok (.aload_n 0, 1) := by decide +kernel
theorem dX12_offer_100 : decode cX12_offer 100 = .ok (.getfield 7, 3) := by decide +kernel
theorem dX12_offer_103 : decode cX12_offer 103 = .ok (.bipush 12, 2) := by decide +kernel
theorem dX12_offer_105 : decode cX12_offer 105 = .ok (.dup2, 1) := by decide +kernel
theorem dX12_offer_106 : decode cX12_offer 106 = .ok (.iaload, 1) := by decide +kernel
theorem dX12_offer_107 : decode cX12_offer 107 = .ok (.iconst 1, 1) := by decide +kernel
theorem dX12_offer_108 : decode cX12_offer 108 = .ok (.iadd, 1) := by decide +kernel
theorem dX12_offer_109 : decode cX12_offer 109 = .ok (.iastore, 1) := by decide +kernel
theorem dX12_offer_110 : decode cX12_offer 110 = .ok (.aload_n 0, 1) := by decide +kernel
theorem dX12_offer_111 : decode cX12_offer 111 = .ok (.getfield 7, 3) := by decide +kernel
theorem dX12_offer_114 : decode cX12_offer 114 = .ok (.bipush 12, 2) := by decide +kernel
theorem dX12_offer_116 : decode cX12_offer 116 = .ok (.iaload, 1) := by decide +kernel
theorem dX12_offer_117 : decode cX12_offer 117 = .ok (.ireturn, 1) := by decide +kernel
theorem dX12_person_0 : decode cX12_person 0 = .ok (.iload_n 1, 1) := by decide +kernel
theorem dX12_person_1 : decode cX12_person 1 = .ok (.iconst 1, 1) := by decide +kernel
theorem dX12_person_2 : decode cX12_person 2 = .ok (.bipush 99, 2) := by decide +kernel
theorem dX12_person_4 : decode cX12_person 4 = .ok (.invokestatic 113, 3) := by decide +kernel
theorem dX12_person_7 : decode cX12_person 7 = .ok (.ifCond .eq 44, 3) := by decide +kernel
theorem dX12_person_10 : decode cX12_person 10 = .ok (.iload_n 2, 1) := by decide +kernel
theorem dX12_person_11 : decode cX12_person 11 = .ok (.iconst 0, 1) := by decide +kernel
theorem dX12_person_12 : decode cX12_person 12 = .ok (.bipush 99, 2) := by decide +kernel
theorem dX12_person_14 : decode cX12_person 14 = .ok (.invokestatic 113, 3) := by decide +kernel
theorem dX12_person_17 : decode cX12_person 17 = .ok (.ifCond .eq 34, 3) := by decide +kernel
theorem dX12_person_20 : decode cX12_person 20 = .ok (.aload_n 0, 1) := by decide +kernel
theorem dX12_person_21 : decode cX12_person 21 = .ok (.iload_n 3, 1) := by decide +kernel
theorem dX12_person_22 : decode cX12_person 22 = .ok (.invokevirtual 117, 3) := by decide +kernel
theorem dX12_person_25 : decode cX12_person 25 = .ok (.ifCond .eq 26, 3) := by decide +kernel
theorem dX12_person_51 : decode cX12_person 51 = .ok (.iconst (-1), 1) := by decide +kernel
theorem dX12_person_52 : decode cX12_person 52 = .ok (.ireturn, 1) := by decide +kernel
theorem dX12_plan_0 : decode cX12_plan 0 = .ok (.aload_n 0, 1) := by decide +kernel
theorem dX12_plan_1 : decode cX12_plan 1 = .ok (.iload_n 1, 1) := by decide +kernel
theorem dX12_plan_2 : decode cX12_plan 2 = .ok (.invokevirtual 397, 3) := by decide +kernel
theorem dX12_plan_5 : decode cX12_plan 5 = .ok (.ifCond .eq 23, 3) := by decide +kernel
theorem dX12_plan_28 : decode cX12_plan 28 = .ok (.iconst (-1), 1) := by decide +kernel
theorem dX12_plan_29 : decode cX12_plan 29 = .ok (.ireturn, 1) := by decide +kernel
theorem dX12_played_0 : decode cX12_played 0 = .ok (.iload_n 1, 1) := by decide +kernel
theorem dX12_played_1 : decode cX12_played 1 = .ok (.iconst 0, 1) := by decide +kernel
theorem dX12_played_2 : decode cX12_played 2 = .ok (.aload_n 0, 1) := by decide +kernel
theorem dX12_played_3 : decode cX12_played 3 = .ok (.getfield 7, 3) := by decide +kernel
theorem dX12_played_6 : decode cX12_played 6 = .ok (.bipush 7, 2) := by decide +kernel
theorem dX12_played_8 : decode cX12_played 8 = .ok (.iaload, 1) := by decide +kernel
theorem dX12_played_9 : decode cX12_played 9 = .ok (.iconst 1, 1) := by decide +kernel
theorem dX12_played_10 : decode cX12_played 10 = .ok (.isub, 1) := by decide +kernel
theorem dX12_played_11 : decode cX12_played 11 = .ok (.invokestatic 113, 3) := by decide +kernel
theorem dX12_played_14 : decode cX12_played 14 = .ok (.ifCond .ne 6, 3) := by decide +kernel
theorem dX12_played_17 : decode cX12_played 17 = .ok (.bipush (-2), 2) := by decide +kernel
theorem dX12_played_19 : decode cX12_played 19 = .ok (.ireturn, 1) := by decide +kernel
theorem dX12_pour_0 : decode cX12_pour 0 = .ok (.iload_n 1, 1) := by decide +kernel
theorem dX12_pour_1 : decode cX12_pour 1 = .ok (.iconst 1, 1) := by decide +kernel
theorem dX12_pour_2 : decode cX12_pour 2 = .ok (.sipush 999, 3) := by decide +kernel
theorem dX12_pour_5 : decode cX12_pour 5 = .ok (.invokestatic 113, 3) := by decide +kernel
theorem dX12_pour_8 : decode cX12_pour 8 = .ok (.ifCond .eq 21, 3) := by decide +kernel
theorem dX12_pour_11 : decode cX12_pour 11 = .ok (.iload_n 1, 1) := by decide +kernel
theorem dX12_pour_12 : decode cX12_pour 12 = .ok (.aload_n 0, 1) := by decide +kernel
theorem dX12_pour_13 : decode cX12_pour 13 = .ok (.getfield 7, 3) := by decide +kernel
theorem dX12_pour_16 : decode cX12_pour 16 = .ok (.iconst 3, 1) := by decide +kernel
theorem dX12_pour_17 : decode cX12_pour 17 = .ok (.iaload, 1) := by decide +kernel
theorem dX12_pour_18 : decode cX12_pour 18 = .ok (.if_icmp .gt 11, 3) := by decide +kernel
theorem dX12_pour_21 : decode cX12_pour 21 = .ok (.aload_n 0, 1) := by decide +kernel
theorem dX12_pour_22 : decode cX12_pour 22 = .ok (.iload_n 2, 1) := by decide +kernel
theorem dX12_pour_23 : decode cX12_pour 23 = .ok (.invokevirtual 117, 3) := by decide +kernel
theorem dX12_pour_26 : decode cX12_pour 26 = .ok (.ifCond .ne 5, 3) := by decide +kernel
theorem dX12_pour_29 : decode cX12_pour 29 = .ok (.iconst (-1), 1) := by decide +kernel
theorem dX12_pour_30 : decode cX12_pour 30 = .ok (.ireturn, 1) := by decide +kernel
theorem dX12_rained_0 : decode cX12_rained 0 = .ok (.aload_n 0, 1) := by decide +kernel
theorem dX12_rained_1 : decode cX12_rained 1 = .ok (.getfield 7, 3) := by decide +kernel
theorem dX12_rained_4 : decode cX12_rained 4 = .ok (.bipush 13, 2) := by decide +kernel
theorem dX12_rained_6 : decode cX12_rained 6 = .ok (.iaload, 1) := by decide +kernel
theorem dX12_rained_7 : decode cX12_rained 7 = .ok (.bipush 40, 2) := by decide +kernel
theorem dX12_rained_9 : decode cX12_rained 9 = .ok (.if_icmp .ge 13, 3) := by decide +kernel
theorem dX12_rained_12 : decode cX12_rained 12 = .ok (.aload_n 0, 1) := by decide +kernel
theorem dX12_rained_13 : decode cX12_rained 13 = .ok (.getfield 7, 3) := by decide +kernel
theorem dX12_rained_16 : decode cX12_rained 16 = .ok (.bipush 13, 2) := by decide +kernel
theorem dX12_rained_18 : decode cX12_rained 18 = .ok (.iaload, 1) := by decide +kernel
theorem dX12_rained_19 : decode cX12_rained 19 = .ok (.goto 5, 3) := by decide +kernel
theorem dX12_rained_24 : decode cX12_rained 24 = .ok (.istore_n 3, 1) := by decide +kernel
theorem dX12_rained_25 : decode cX12_rained 25 = .ok (.iload_n 1, 1) := by decide +kernel
theorem dX12_rained_26 : decode cX12_rained 26 = .ok (.iconst (-1), 1) := by decide +kernel
theorem dX12_rained_27 : decode cX12_rained 27 = .ok (.if_icmp .ne 5, 3) := by decide +kernel
theorem dX12_rained_30 : decode cX12_rained 30 = .ok (.iload_n 3, 1) := by decide +kernel
theorem dX12_rained_31 : decode cX12_rained 31 = .ok (.ireturn, 1) := by decide +kernel
theorem dX12_rained_32 : decode cX12_rained 32 = .ok (.iload_n 1, 1) := by decide +kernel
theorem dX12_rained_33 : decode cX12_rained 33 = .ok (.iconst 0, 1) := by decide +kernel
theorem dX12_rained_34 : decode cX12_rained 34 = .ok (.iload_n 3, 1) := by decide +kernel
theorem dX12_rained_35 : decode cX12_rained 35 = .ok (.iconst 1, 1) := by decide +kernel
theorem dX12_rained_36 : decode cX12_rained 36 = .ok (.isub, 1) := by decide +kernel
theorem dX12_rained_37 : decode cX12_rained 37 = .ok (.invokestatic 113, 3) := by decide +kernel
theorem dX12_rained_40 : decode cX12_rained 40 = .ok (.ifCond .eq 12, 3) := by decide +kernel
theorem dX12_rained_52 : decode cX12_rained 52 = .ok (.bipush (-2), 2) := by decide +kernel
theorem dX12_rained_54 : decode cX12_rained 54 = .ok (.ireturn, 1) := by decide +kernel
theorem dX12_road_0 : decode cX12_road 0 = .ok (.aload_n 0, 1) := by decide +kernel
theorem dX12_road_1 : decode cX12_road 1 = .ok (.iload_n 1, 1) := by decide +kernel
theorem dX12_road_2 : decode cX12_road 2 = .ok (.invokevirtual 117, 3) := by decide +kernel
theorem dX12_road_5 : decode cX12_road 5 = .ok (.ifCond .eq 30, 3) := by decide +kernel
theorem dX12_road_35 : decode cX12_road 35 = .ok (.iconst 0, 1) := by decide +kernel
theorem dX12_road_36 : decode cX12_road 36 = .ok (.ireturn, 1) := by decide +kernel
theorem dX12_undo_0 : decode cX12_undo 0 = .ok (.aload_n 0, 1) := by decide +kernel
theorem dX12_undo_1 : decode cX12_undo 1 = .ok (.getfield 7, 3) := by decide +kernel
theorem dX12_undo_4 : decode cX12_undo 4 = .ok (.bipush 9, 2) := by decide +kernel
theorem dX12_undo_6 : decode cX12_undo 6 = .ok (.iaload, 1) := by decide +kernel
theorem dX12_undo_7 : decode cX12_undo 7 = .ok (.ifCond .ne 5, 3) := by decide +kernel
theorem dX12_undo_10 : decode cX12_undo 10 = .ok (.iconst (-1), 1) := by decide +kernel
theorem dX12_undo_11 : decode cX12_undo 11 = .ok (.ireturn, 1) := by decide +kernel
theorem dX12_water_0 : decode cX12_water 0 = .ok (.aload_n 0, 1) := by decide +kernel
theorem dX12_water_1 : decode cX12_water 1 = .ok (.getfield 7, 3) := by decide +kernel
theorem dX12_water_4 : decode cX12_water 4 = .ok (.iconst 3, 1) := by decide +kernel
theorem dX12_water_5 : decode cX12_water 5 = .ok (.iaload, 1) := by decide +kernel
theorem dX12_water_6 : decode cX12_water 6 = .ok (.aload_n 0, 1) := by decide +kernel
theorem dX12_water_7 : decode cX12_water 7 = .ok (.getfield 7, 3) := by decide +kernel
theorem dX12_water_10 : decode cX12_water 10 = .ok (.iconst 5, 1) := by decide +kernel
theorem dX12_water_11 : decode cX12_water 11 = .ok (.iaload, 1) := by decide +kernel
theorem dX12_water_12 : decode cX12_water 12 = .ok (.iadd, 1) := by decide +kernel
theorem dX12_water_13 : decode cX12_water 13 = .ok (.aload_n 0, 1) := by decide +kernel
theorem dX12_water_14 : decode cX12_water 14 = .ok (.getfield 7, 3) := by decide +kernel
theorem dX12_water_17 : decode cX12_water 17 = .ok (.iconst 4, 1) := by decide +kernel
theorem dX12_water_18 : decode cX12_water 18 = .ok (.iaload, 1) := by decide +kernel
theorem dX12_water_19 : decode cX12_water 19 = .ok (.isub, 1) := by decide +kernel
theorem dX12_water_20 : decode cX12_water 20 = .ok (.istore_n 1, 1) := by decide +kernel
theorem dX12_water_21 : decode cX12_water 21 = .ok (.iconst 0, 1) := by decide +kernel
theorem dX12_water_22 : decode cX12_water 22 = .ok (.istore_n 2, 1) := by decide +kernel
theorem dX12_water_23 : decode cX12_water 23 = .ok (.iload_n 2, 1) := by decide +kernel
theorem dX12_water_24 : decode cX12_water 24 = .ok (.aload_n 0, 1) := by decide +kernel
theorem dX12_water_25 : decode cX12_water 25 = .ok (.getfield 7, 3) := by decide +kernel
theorem dX12_water_28 : decode cX12_water 28 = .ok (.iconst 1, 1) := by decide +kernel
theorem dX12_water_29 : decode cX12_water 29 = .ok (.iaload, 1) := by decide +kernel
theorem dX12_water_30 : decode cX12_water 30 = .ok (.if_icmp .ge 18, 3) := by decide +kernel
theorem dX12_water_48 : decode cX12_water 48 = .ok (.iconst 0, 1) := by decide +kernel
theorem dX12_water_49 : decode cX12_water 49 = .ok (.istore_n 2, 1) := by decide +kernel
theorem dX12_water_50 : decode cX12_water 50 = .ok (.iload_n 2, 1) := by decide +kernel
theorem dX12_water_51 : decode cX12_water 51 = .ok (.aload_n 0, 1) := by decide +kernel
theorem dX12_water_52 : decode cX12_water 52 = .ok (.getfield 7, 3) := by decide +kernel
theorem dX12_water_55 : decode cX12_water 55 = .ok (.iconst 0, 1) := by decide +kernel
theorem dX12_water_56 : decode cX12_water 56 = .ok (.iaload, 1) := by decide +kernel
theorem dX12_water_57 : decode cX12_water 57 = .ok (.if_icmp .ge 18, 3) := by decide +kernel
theorem dX12_water_75 : decode cX12_water 75 = .ok (.iload_n 1, 1) := by decide +kernel
theorem dX12_water_76 : decode cX12_water 76 = .ok (.ireturn, 1) := by decide +kernel
theorem dX12_widest_0 : decode cX12_widest 0 = .ok (.aload_n 0, 1) := by decide +kernel
theorem dX12_widest_1 : decode cX12_widest 1 = .ok (.iload_n 1, 1) := by decide +kernel
theorem dX12_widest_2 : decode cX12_widest 2 = .ok (.invokevirtual 117, 3) := by decide +kernel
theorem dX12_widest_5 : decode cX12_widest 5 = .ok (.ifCond .eq 11, 3) := by decide +kernel
theorem dX12_widest_16 : decode cX12_widest 16 = .ok (.iconst (-1), 1) := by decide +kernel
theorem dX12_widest_17 : decode cX12_widest 17 = .ok (.ireturn, 1) := by decide +kernel
theorem dX12_work_0 : decode cX12_work 0 = .ok (.aload_n 0, 1) := by decide +kernel
theorem dX12_work_1 : decode cX12_work 1 = .ok (.iload_n 1, 1) := by decide +kernel
theorem dX12_work_2 : decode cX12_work 2 = .ok (.invokevirtual 397, 3) := by decide +kernel
theorem dX12_work_5 : decode cX12_work 5 = .ok (.ifCond .eq 23, 3) := by decide +kernel
theorem dX12_work_28 : decode cX12_work 28 = .ok (.iconst 0, 1) := by decide +kernel
theorem dX12_work_29 : decode cX12_work 29 = .ok (.ireturn, 1) := by decide +kernel
theorem dX12_year_0 : decode cX12_year 0 = .ok (.iload_n 1, 1) := by decide +kernel
theorem dX12_year_1 : decode cX12_year 1 = .ok (.iconst 0, 1) := by decide +kernel
theorem dX12_year_2 : decode cX12_year 2 = .ok (.sipush 9999, 3) := by decide +kernel
theorem dX12_year_5 : decode cX12_year 5 = .ok (.invokestatic 113, 3) := by decide +kernel
theorem dX12_year_8 : decode cX12_year 8 = .ok (.ifCond .eq 22, 3) := by decide +kernel
theorem dX12_year_11 : decode cX12_year 11 = .ok (.iload_n 2, 1) := by decide +kernel
theorem dX12_year_12 : decode cX12_year 12 = .ok (.iconst 1, 1) := by decide +kernel
theorem dX12_year_13 : decode cX12_year 13 = .ok (.bipush 30, 2) := by decide +kernel
theorem dX12_year_15 : decode cX12_year 15 = .ok (.invokestatic 113, 3) := by decide +kernel
theorem dX12_year_18 : decode cX12_year 18 = .ok (.ifCond .eq 12, 3) := by decide +kernel
theorem dX12_year_21 : decode cX12_year 21 = .ok (.aload_n 0, 1) := by decide +kernel
theorem dX12_year_22 : decode cX12_year 22 = .ok (.getfield 7, 3) := by decide +kernel
theorem dX12_year_25 : decode cX12_year 25 = .ok (.iconst 1, 1) := by decide +kernel
theorem dX12_year_26 : decode cX12_year 26 = .ok (.iaload, 1) := by decide +kernel
theorem dX12_year_27 : decode cX12_year 27 = .ok (.ifCond .ne 5, 3) := by decide +kernel
theorem dX12_year_30 : decode cX12_year 30 = .ok (.iconst (-1), 1) := by decide +kernel
theorem dX12_year_31 : decode cX12_year 31 = .ok (.ireturn, 1) := by decide +kernel
section ZL3
variable {E : zCx} {l0 : Launch} {D0 : va_G} {cy0 : Nat → ClassId} {own : String} {cc : ByteArray} {nL : Nat} {R0 : Room} {k n : Nat} {L : List Nat} {σ : Nat → va_E} {φ : Nat → Nat → Nat → Int32} {ρ : Nat → Nat → Int32} {pc : Nat} {lv : List (Nat × Value)} {st : List Value} {a : Nat}
theorem z_in {i : Int32} {iN N0 : Nat} (h : i.toNatClampNeg = iN) (h0 : ¬ i < 0) (hlt : iN < N0) : vp_in i N0 := fun e => e.elim h0 (fun e => absurd e (by omega))
theorem h_ialdL {N0 iN : Nat} {i : Int32} (hE : zOk E l0 D0 cy0 own cc nL R0) (ha : zT L σ a (zIA cy0 N0)) (hi : i.toNatClampNeg = iN) (h0 : ¬ i < 0) (hlt : iN < N0) (hd : decode cc pc = .ok (.iaload, 1)) (kk : zW E k n L σ φ ρ (pc + 1) lv (.int (ρ a iN) :: st)) : zW E k n L σ φ ρ pc lv (.int i :: .ref a :: st) := by
  refine h_iald hE ha (z_in hi h0 hlt) hd ?_
  rw [hi]
  exact kk
theorem h_iastL {N0 iN : Nat} {i v : Int32} (hE : zOk E l0 D0 cy0 own cc nL R0) (ha : zT L σ a (zIA cy0 N0)) (hi : i.toNatClampNeg = iN) (h0 : ¬ i < 0) (hlt : iN < N0) (hd : decode cc pc = .ok (.iastore, 1)) (kk : zW E k n L σ φ (va_up ρ a (upd (ρ a) iN v)) (pc + 1) lv st) : zW E k n L σ φ ρ pc lv (.int v :: .int i :: .ref a :: st) := by
  refine h_iast hE ha (z_in hi h0 hlt) hd ?_
  rw [hi]
  exact kk
end ZL3

theorem z_10 {i : Int32} (h : 1 ≤ i ∧ i ≤ 0) : False := by
  obtain ⟨h1, h2⟩ := h
  rw [fa_le] at h1 h2
  have e1 : (0 : Int32).toInt = 0 := by decide
  have e2 : (1 : Int32).toInt = 1 := by decide
  omega
set_option maxHeartbeats 4000000 in
set_option maxRecDepth 100000 in
theorem m_isIn (l : Launch) (D : va_G) (cy : Nat → ClassId) (L : List Nat) (σ : Nat → va_E) (φ : Nat → Nat → Nat → Int32) (ρ : Nat → Nat → Int32) (v a b : Int32) : zMI l D cy yX12_isIn cX12_isIn 3 .boolean (zrm 0 0 0) [.int v, .int a, .int b] L σ φ ρ (zpu L σ φ ρ (fun r => r = zb (a ≤ v ∧ v ≤ b))) := by
  refine zMI.mk (by decide) (Nat.le_of_ble_eq_true rfl) (fun E hE hret => ?_)
  show zW E 0 0 L σ φ ρ 0 [(0, .int v), (1, .int a), (2, .int b)] []
  refine x_iload_n hE dX12_isIn_0 rfl 0 rfl ?_
  refine x_iload_n hE dX12_isIn_1 rfl 1 rfl ?_
  refine x_icmp_lt (tgt := 14) hE dX12_isIn_2 (by decide) (fun c_2 => ?_) (fun c_2 => ?_)
  · refine x_iconst (v := 0) hE dX12_isIn_14 (by decide) ?_
    exact hret _ _ _ _ _ _ _ _ (0) (Nat.le_of_ble_eq_true rfl) (Nat.le_of_ble_eq_true rfl) dX12_isIn_15 (rfl) (⟨rfl, by grind [zb]⟩)
  · refine x_iload_n hE dX12_isIn_5 rfl 0 rfl ?_
    refine x_iload_n hE dX12_isIn_6 rfl 2 rfl ?_
    refine x_icmp_gt (tgt := 14) hE dX12_isIn_7 (by decide) (fun c_7 => ?_) (fun c_7 => ?_)
    · refine x_iconst (v := 0) hE dX12_isIn_14 (by decide) ?_
      exact hret _ _ _ _ _ _ _ _ (0) (Nat.le_of_ble_eq_true rfl) (Nat.le_of_ble_eq_true rfl) dX12_isIn_15 (rfl) (⟨rfl, by grind [zb]⟩)
    · refine x_iconst (v := 1) hE dX12_isIn_10 (by decide) ?_
      refine x_goto (tgt := 15) hE dX12_isIn_11 (by decide) ?_
      exact hret _ _ _ _ _ _ _ _ (1) (Nat.le_of_ble_eq_true rfl) (Nat.le_of_ble_eq_true rfl) dX12_isIn_15 (rfl) (⟨rfl, by grind [zb]⟩)
set_option maxHeartbeats 4000000 in
set_option maxRecDepth 100000 in
theorem m_isField (l : Launch) (D : va_G) (cy : Nat → ClassId) (L : List Nat) (σ : Nat → va_E) (φ : Nat → Nat → Nat → Int32) (ρ : Nat → Nat → Int32) {m : Nat} {r : Nat → Nat} (f : Int32) (hm : zModel cy L σ m r) (h00 : ρ (r 0) 0 = 0) (h01 : ρ (r 0) 1 = 0) : zMI l D cy yX12_isField cX12_isField 2 .boolean (zrm 1 0 0) [.ref m, .int f] L σ φ ρ (zpu L σ φ ρ (fun r => r = 0)) := by
  refine zMI.mk (by decide) (Nat.le_of_ble_eq_true rfl) (fun E hE hret => ?_)
  show zW E 0 0 L σ φ ρ 0 [(0, .ref m), (1, .int f)] []
  obtain ⟨hM, hr0, hr1, hr2, hr3, hr15, hr16, hr22, hr25, hr26, hr27, hr28, hr29, hr32, hr33, hr34, hr39, hr41, hr42, hr43, hr44, hr45, hr46, hr47, hr48, hr49, hr50, hr51, hr52, hne⟩ := id hm
  refine x_iload_n hE dX12_isField_0 rfl 1 rfl ?_
  refine x_iconst (v := 0) hE dX12_isField_1 (by decide) ?_
  refine x_aload_n hE dX12_isField_2 rfl 0 rfl ?_
  refine h_getr hE hM rfl inZX12 0 (by decide) q1394 rfl dX12_isField_3 ?_
  refine x_iconst (v := 0) hE dX12_isField_6 (by decide) ?_
  refine h_ialdL (iN := 0) hE hr0 (by decide) (by decide) (by omega) dX12_isField_7 ?_
  refine x_norm (y := 0) (h00) ?_
  refine x_iconst (v := 1) hE dX12_isField_8 (by decide) ?_
  refine x_isub hE dX12_isField_9 ?_
  refine x_norm (y := -1) (by decide) ?_
  refine c_ip hE (r_S (st := []) hE (m_isIn l D cy L σ φ ρ (f) (0) (-1)) q1558 q1559 q124 q1560 ⟨by decide, by decide, pn_X12_isIn⟩ ⟨Nat.le_of_ble_eq_true rfl, Nat.le_of_ble_eq_true rfl⟩ ⟨Nat.le_of_ble_eq_true rfl, Nat.le_of_ble_eq_true rfl⟩ rfl (Nat.le_of_ble_eq_true rfl) dX12_isField_10) (fun r10 h10 => ?_)
  refine x_widen (k' := 0) (n' := 0) (Nat.le_of_ble_eq_true rfl) (Nat.le_of_ble_eq_true rfl) ?_
  refine x_norm (y := 0) (h10.trans (zb_f z_m1)) ?_
  exact hret _ _ _ _ _ _ _ _ (0) (Nat.le_of_ble_eq_true rfl) (Nat.le_of_ble_eq_true rfl) dX12_isField_13 (rfl) (⟨rfl, rfl⟩)
set_option maxHeartbeats 4000000 in
set_option maxRecDepth 100000 in
theorem m_isPerson (l : Launch) (D : va_G) (cy : Nat → ClassId) (L : List Nat) (σ : Nat → va_E) (φ : Nat → Nat → Nat → Int32) (ρ : Nat → Nat → Int32) {m : Nat} {r : Nat → Nat} (f : Int32) (hm : zModel cy L σ m r) (h00 : ρ (r 0) 0 = 0) (h01 : ρ (r 0) 1 = 0) : zMI l D cy yX12_isPerson cX12_isPerson 2 .boolean (zrm 1 0 0) [.ref m, .int f] L σ φ ρ (zpu L σ φ ρ (fun r => r = 0)) := by
  refine zMI.mk (by decide) (Nat.le_of_ble_eq_true rfl) (fun E hE hret => ?_)
  show zW E 0 0 L σ φ ρ 0 [(0, .ref m), (1, .int f)] []
  obtain ⟨hM, hr0, hr1, hr2, hr3, hr15, hr16, hr22, hr25, hr26, hr27, hr28, hr29, hr32, hr33, hr34, hr39, hr41, hr42, hr43, hr44, hr45, hr46, hr47, hr48, hr49, hr50, hr51, hr52, hne⟩ := id hm
  refine x_iload_n hE dX12_isPerson_0 rfl 1 rfl ?_
  refine x_iconst (v := 0) hE dX12_isPerson_1 (by decide) ?_
  refine x_aload_n hE dX12_isPerson_2 rfl 0 rfl ?_
  refine h_getr hE hM rfl inZX12 0 (by decide) q1394 rfl dX12_isPerson_3 ?_
  refine x_iconst (v := 1) hE dX12_isPerson_6 (by decide) ?_
  refine h_ialdL (iN := 1) hE hr0 (by decide) (by decide) (by omega) dX12_isPerson_7 ?_
  refine x_norm (y := 0) (h01) ?_
  refine x_iconst (v := 1) hE dX12_isPerson_8 (by decide) ?_
  refine x_isub hE dX12_isPerson_9 ?_
  refine x_norm (y := -1) (by decide) ?_
  refine c_ip hE (r_S (st := []) hE (m_isIn l D cy L σ φ ρ (f) (0) (-1)) q1558 q1559 q124 q1560 ⟨by decide, by decide, pn_X12_isIn⟩ ⟨Nat.le_of_ble_eq_true rfl, Nat.le_of_ble_eq_true rfl⟩ ⟨Nat.le_of_ble_eq_true rfl, Nat.le_of_ble_eq_true rfl⟩ rfl (Nat.le_of_ble_eq_true rfl) dX12_isPerson_10) (fun r10 h10 => ?_)
  refine x_widen (k' := 0) (n' := 0) (Nat.le_of_ble_eq_true rfl) (Nat.le_of_ble_eq_true rfl) ?_
  refine x_norm (y := 0) (h10.trans (zb_f z_m1)) ?_
  exact hret _ _ _ _ _ _ _ _ (0) (Nat.le_of_ble_eq_true rfl) (Nat.le_of_ble_eq_true rfl) dX12_isPerson_13 (rfl) (⟨rfl, rfl⟩)
set_option maxHeartbeats 4000000 in
set_option maxRecDepth 100000 in
theorem m_field (l : Launch) (D : va_G) (cy : Nat → ClassId) (L : List Nat) (σ : Nat → va_E) (φ : Nat → Nat → Nat → Int32) (ρ : Nat → Nat → Int32) {m : Nat} {r : Nat → Nat} (h : Int32) (n : Int32) (d : Int32) (hm : zModel cy L σ m r) (hm0 : zMo0 φ ρ m r) : zMI l D cy yX12_field cX12_field 6 .int (zrm 3 0 0) [.ref m, .int h, .int n, .int d] L σ φ ρ (fun r _ => r = if (0 ≤ h ∧ h ≤ 9) ∧ (0 ≤ n ∧ n ≤ 999) ∧ (1 ≤ d ∧ d ≤ 999) ∧ n < d then 0 else -1) := by
  refine zMI.mk (by decide) (Nat.le_of_ble_eq_true rfl) (fun E hE hret => ?_)
  show zW E 0 0 L σ φ ρ 0 [(0, .ref m), (1, .int h), (2, .int n), (3, .int d)] []
  obtain ⟨hM, hr0, hr1, hr2, hr3, hr15, hr16, hr22, hr25, hr26, hr27, hr28, hr29, hr32, hr33, hr34, hr39, hr41, hr42, hr43, hr44, hr45, hr46, hr47, hr48, hr49, hr50, hr51, hr52, hne⟩ := id hm
  obtain ⟨hp, h0, h1⟩ := id hm0
  have h00 : ρ (r 0) 0 = 0 := (h0 0 (by omega)).trans (by decide)
  have h01 : ρ (r 0) 1 = 0 := (h0 1 (by omega)).trans (by decide)
  refine x_iload_n hE dX12_field_0 rfl 1 rfl ?_
  refine x_iconst (v := 0) hE dX12_field_1 (by decide) ?_
  refine x_bipush (v := 9) hE dX12_field_2 (by decide) ?_
  refine c_ip hE (r_S (st := []) hE (m_isIn l D cy L σ φ ρ (h) (0) (9)) q1558 q1559 q124 q1560 ⟨by decide, by decide, pn_X12_isIn⟩ ⟨Nat.le_of_ble_eq_true rfl, Nat.le_of_ble_eq_true rfl⟩ ⟨Nat.le_of_ble_eq_true rfl, Nat.le_of_ble_eq_true rfl⟩ rfl (Nat.le_of_ble_eq_true rfl) dX12_field_4) (fun r4 h4 => ?_)
  refine x_widen (k' := 0) (n' := 0) (Nat.le_of_ble_eq_true rfl) (Nat.le_of_ble_eq_true rfl) ?_
  refine x_if_eq (tgt := 48) hE dX12_field_7 (by decide) (fun c_7 => ?_) (fun c_7 => ?_)
  · refine x_iconst (v := -1) hE dX12_field_48 (by decide) ?_
    exact hret _ _ _ _ _ _ _ _ (-1) (Nat.le_of_ble_eq_true rfl) (Nat.le_of_ble_eq_true rfl) dX12_field_49 (rfl) (by grind [zb])
  · refine x_iload_n hE dX12_field_10 rfl 2 rfl ?_
    refine x_iconst (v := 0) hE dX12_field_11 (by decide) ?_
    refine x_sipush (v := 999) hE dX12_field_12 (by decide) ?_
    refine c_ip hE (r_S (st := []) hE (m_isIn l D cy L σ φ ρ (n) (0) (999)) q1558 q1559 q124 q1560 ⟨by decide, by decide, pn_X12_isIn⟩ ⟨Nat.le_of_ble_eq_true rfl, Nat.le_of_ble_eq_true rfl⟩ ⟨Nat.le_of_ble_eq_true rfl, Nat.le_of_ble_eq_true rfl⟩ rfl (Nat.le_of_ble_eq_true rfl) dX12_field_15) (fun r15 h15 => ?_)
    refine x_widen (k' := 0) (n' := 0) (Nat.le_of_ble_eq_true rfl) (Nat.le_of_ble_eq_true rfl) ?_
    refine x_if_eq (tgt := 48) hE dX12_field_18 (by decide) (fun c_18 => ?_) (fun c_18 => ?_)
    · refine x_iconst (v := -1) hE dX12_field_48 (by decide) ?_
      exact hret _ _ _ _ _ _ _ _ (-1) (Nat.le_of_ble_eq_true rfl) (Nat.le_of_ble_eq_true rfl) dX12_field_49 (rfl) (by grind [zb])
    · refine x_iload_n hE dX12_field_21 rfl 3 rfl ?_
      refine x_iconst (v := 1) hE dX12_field_22 (by decide) ?_
      refine x_sipush (v := 999) hE dX12_field_23 (by decide) ?_
      refine c_ip hE (r_S (st := []) hE (m_isIn l D cy L σ φ ρ (d) (1) (999)) q1558 q1559 q124 q1560 ⟨by decide, by decide, pn_X12_isIn⟩ ⟨Nat.le_of_ble_eq_true rfl, Nat.le_of_ble_eq_true rfl⟩ ⟨Nat.le_of_ble_eq_true rfl, Nat.le_of_ble_eq_true rfl⟩ rfl (Nat.le_of_ble_eq_true rfl) dX12_field_26) (fun r26 h26 => ?_)
      refine x_widen (k' := 0) (n' := 0) (Nat.le_of_ble_eq_true rfl) (Nat.le_of_ble_eq_true rfl) ?_
      refine x_if_eq (tgt := 48) hE dX12_field_29 (by decide) (fun c_29 => ?_) (fun c_29 => ?_)
      · refine x_iconst (v := -1) hE dX12_field_48 (by decide) ?_
        exact hret _ _ _ _ _ _ _ _ (-1) (Nat.le_of_ble_eq_true rfl) (Nat.le_of_ble_eq_true rfl) dX12_field_49 (rfl) (by grind [zb])
      · refine x_iload_n hE dX12_field_32 rfl 2 rfl ?_
        refine x_iload_n hE dX12_field_33 rfl 3 rfl ?_
        refine x_icmp_ge (tgt := 48) hE dX12_field_34 (by decide) (fun c_34 => ?_) (fun c_34 => ?_)
        · refine x_iconst (v := -1) hE dX12_field_48 (by decide) ?_
          exact hret _ _ _ _ _ _ _ _ (-1) (Nat.le_of_ble_eq_true rfl) (Nat.le_of_ble_eq_true rfl) dX12_field_49 (rfl) (by grind [zb])
        · refine x_aload_n hE dX12_field_37 rfl 0 rfl ?_
          refine h_getr hE hM rfl inZX12 0 (by decide) q1394 rfl dX12_field_38 ?_
          refine x_iconst (v := 0) hE dX12_field_41 (by decide) ?_
          refine h_ialdL (iN := 0) hE hr0 (by decide) (by decide) (by omega) dX12_field_42 ?_
          refine x_norm (y := 0) ((h0 0 (by omega)).trans (by decide)) ?_
          refine x_bipush (v := 6) hE dX12_field_43 (by decide) ?_
          refine x_icmp_ne (tgt := 50) hE dX12_field_45 (by decide) (fun c_45 => ?_) (fun c_45 => absurd c_45 (by decide))
          refine x_bipush (v := 16) hE dX12_field_50 (by decide) ?_
          refine x_bipush (v := 7) hE dX12_field_52 (by decide) ?_
          refine x_aload_n hE dX12_field_54 rfl 0 rfl ?_
          refine h_getr hE hM rfl inZX12 0 (by decide) q1394 rfl dX12_field_55 ?_
          refine x_iconst (v := 0) hE dX12_field_58 (by decide) ?_
          refine h_ialdL (iN := 0) hE hr0 (by decide) (by decide) (by omega) dX12_field_59 ?_
          refine x_norm (y := 0) ((h0 0 (by omega)).trans (by decide)) ?_
          refine x_imul hE dX12_field_60 ?_
          refine x_norm (y := 0) (by decide) ?_
          refine x_iadd hE dX12_field_61 ?_
          refine x_norm (y := 16) (by decide) ?_
          refine x_istore (lv' := [(4, .int 16), (0, .ref m), (1, .int h), (2, .int n), (3, .int d)]) hE dX12_field_62 (by decide) rfl ?_
          refine x_iconst (v := 0) hE dX12_field_64 (by decide) ?_
          refine x_istore (lv' := [(5, .int 0), (4, .int 16), (0, .ref m), (1, .int h), (2, .int n), (3, .int d)]) hE dX12_field_65 (by decide) rfl ?_
          refine x_iload hE dX12_field_67 0 rfl ?_
          refine x_bipush (v := 7) hE dX12_field_69 (by decide) ?_
          refine x_icmp_ge (tgt := 91) hE dX12_field_71 (by decide) (fun c_71 => absurd c_71 (by decide)) (fun c_71 => ?_)
          refine x_aload_n hE dX12_field_74 rfl 2 rfl ?_
          refine h_getr hE hM rfl inZX12 0 (by decide) q1394 rfl dX12_field_75 ?_
          refine x_iload hE dX12_field_78 1 rfl ?_
          refine x_iload hE dX12_field_80 0 rfl ?_
          refine x_iadd hE dX12_field_82 ?_
          refine x_norm (y := 16) (by decide) ?_
          refine x_iconst (v := 0) hE dX12_field_83 (by decide) ?_
          refine h_iastL (iN := 16) hE hr0 (by decide) (by decide) (by omega) dX12_field_84 ?_
          refine x_iinc (v := 1) (lv' := [(5, .int 1), (4, .int 16), (0, .ref m), (1, .int h), (2, .int n), (3, .int d)]) hE dX12_field_85 0 rfl (by decide) (by decide) rfl ?_
          refine x_goto (tgt := 67) hE dX12_field_88 (by decide) ?_
          refine x_iload hE dX12_field_67 0 rfl ?_
          refine x_bipush (v := 7) hE dX12_field_69 (by decide) ?_
          refine x_icmp_ge (tgt := 91) hE dX12_field_71 (by decide) (fun c_71 => absurd c_71 (by decide)) (fun c_71 => ?_)
          refine x_aload_n hE dX12_field_74 rfl 2 rfl ?_
          refine h_getr hE hM rfl inZX12 0 (by decide) q1394 rfl dX12_field_75 ?_
          refine x_iload hE dX12_field_78 1 rfl ?_
          refine x_iload hE dX12_field_80 0 rfl ?_
          refine x_iadd hE dX12_field_82 ?_
          refine x_norm (y := 17) (by decide) ?_
          refine x_iconst (v := 0) hE dX12_field_83 (by decide) ?_
          refine h_iastL (iN := 17) hE hr0 (by decide) (by decide) (by omega) dX12_field_84 ?_
          refine x_iinc (v := 2) (lv' := [(5, .int 2), (4, .int 16), (0, .ref m), (1, .int h), (2, .int n), (3, .int d)]) hE dX12_field_85 0 rfl (by decide) (by decide) rfl ?_
          refine x_goto (tgt := 67) hE dX12_field_88 (by decide) ?_
          refine x_iload hE dX12_field_67 0 rfl ?_
          refine x_bipush (v := 7) hE dX12_field_69 (by decide) ?_
          refine x_icmp_ge (tgt := 91) hE dX12_field_71 (by decide) (fun c_71 => absurd c_71 (by decide)) (fun c_71 => ?_)
          refine x_aload_n hE dX12_field_74 rfl 2 rfl ?_
          refine h_getr hE hM rfl inZX12 0 (by decide) q1394 rfl dX12_field_75 ?_
          refine x_iload hE dX12_field_78 1 rfl ?_
          refine x_iload hE dX12_field_80 0 rfl ?_
          refine x_iadd hE dX12_field_82 ?_
          refine x_norm (y := 18) (by decide) ?_
          refine x_iconst (v := 0) hE dX12_field_83 (by decide) ?_
          refine h_iastL (iN := 18) hE hr0 (by decide) (by decide) (by omega) dX12_field_84 ?_
          refine x_iinc (v := 3) (lv' := [(5, .int 3), (4, .int 16), (0, .ref m), (1, .int h), (2, .int n), (3, .int d)]) hE dX12_field_85 0 rfl (by decide) (by decide) rfl ?_
          refine x_goto (tgt := 67) hE dX12_field_88 (by decide) ?_
          refine x_iload hE dX12_field_67 0 rfl ?_
          refine x_bipush (v := 7) hE dX12_field_69 (by decide) ?_
          refine x_icmp_ge (tgt := 91) hE dX12_field_71 (by decide) (fun c_71 => absurd c_71 (by decide)) (fun c_71 => ?_)
          refine x_aload_n hE dX12_field_74 rfl 2 rfl ?_
          refine h_getr hE hM rfl inZX12 0 (by decide) q1394 rfl dX12_field_75 ?_
          refine x_iload hE dX12_field_78 1 rfl ?_
          refine x_iload hE dX12_field_80 0 rfl ?_
          refine x_iadd hE dX12_field_82 ?_
          refine x_norm (y := 19) (by decide) ?_
          refine x_iconst (v := 0) hE dX12_field_83 (by decide) ?_
          refine h_iastL (iN := 19) hE hr0 (by decide) (by decide) (by omega) dX12_field_84 ?_
          refine x_iinc (v := 4) (lv' := [(5, .int 4), (4, .int 16), (0, .ref m), (1, .int h), (2, .int n), (3, .int d)]) hE dX12_field_85 0 rfl (by decide) (by decide) rfl ?_
          refine x_goto (tgt := 67) hE dX12_field_88 (by decide) ?_
          refine x_iload hE dX12_field_67 0 rfl ?_
          refine x_bipush (v := 7) hE dX12_field_69 (by decide) ?_
          refine x_icmp_ge (tgt := 91) hE dX12_field_71 (by decide) (fun c_71 => absurd c_71 (by decide)) (fun c_71 => ?_)
          refine x_aload_n hE dX12_field_74 rfl 2 rfl ?_
          refine h_getr hE hM rfl inZX12 0 (by decide) q1394 rfl dX12_field_75 ?_
          refine x_iload hE dX12_field_78 1 rfl ?_
          refine x_iload hE dX12_field_80 0 rfl ?_
          refine x_iadd hE dX12_field_82 ?_
          refine x_norm (y := 20) (by decide) ?_
          refine x_iconst (v := 0) hE dX12_field_83 (by decide) ?_
          refine h_iastL (iN := 20) hE hr0 (by decide) (by decide) (by omega) dX12_field_84 ?_
          refine x_iinc (v := 5) (lv' := [(5, .int 5), (4, .int 16), (0, .ref m), (1, .int h), (2, .int n), (3, .int d)]) hE dX12_field_85 0 rfl (by decide) (by decide) rfl ?_
          refine x_goto (tgt := 67) hE dX12_field_88 (by decide) ?_
          refine x_iload hE dX12_field_67 0 rfl ?_
          refine x_bipush (v := 7) hE dX12_field_69 (by decide) ?_
          refine x_icmp_ge (tgt := 91) hE dX12_field_71 (by decide) (fun c_71 => absurd c_71 (by decide)) (fun c_71 => ?_)
          refine x_aload_n hE dX12_field_74 rfl 2 rfl ?_
          refine h_getr hE hM rfl inZX12 0 (by decide) q1394 rfl dX12_field_75 ?_
          refine x_iload hE dX12_field_78 1 rfl ?_
          refine x_iload hE dX12_field_80 0 rfl ?_
          refine x_iadd hE dX12_field_82 ?_
          refine x_norm (y := 21) (by decide) ?_
          refine x_iconst (v := 0) hE dX12_field_83 (by decide) ?_
          refine h_iastL (iN := 21) hE hr0 (by decide) (by decide) (by omega) dX12_field_84 ?_
          refine x_iinc (v := 6) (lv' := [(5, .int 6), (4, .int 16), (0, .ref m), (1, .int h), (2, .int n), (3, .int d)]) hE dX12_field_85 0 rfl (by decide) (by decide) rfl ?_
          refine x_goto (tgt := 67) hE dX12_field_88 (by decide) ?_
          refine x_iload hE dX12_field_67 0 rfl ?_
          refine x_bipush (v := 7) hE dX12_field_69 (by decide) ?_
          refine x_icmp_ge (tgt := 91) hE dX12_field_71 (by decide) (fun c_71 => absurd c_71 (by decide)) (fun c_71 => ?_)
          refine x_aload_n hE dX12_field_74 rfl 2 rfl ?_
          refine h_getr hE hM rfl inZX12 0 (by decide) q1394 rfl dX12_field_75 ?_
          refine x_iload hE dX12_field_78 1 rfl ?_
          refine x_iload hE dX12_field_80 0 rfl ?_
          refine x_iadd hE dX12_field_82 ?_
          refine x_norm (y := 22) (by decide) ?_
          refine x_iconst (v := 0) hE dX12_field_83 (by decide) ?_
          refine h_iastL (iN := 22) hE hr0 (by decide) (by decide) (by omega) dX12_field_84 ?_
          refine x_iinc (v := 7) (lv' := [(5, .int 7), (4, .int 16), (0, .ref m), (1, .int h), (2, .int n), (3, .int d)]) hE dX12_field_85 0 rfl (by decide) (by decide) rfl ?_
          refine x_goto (tgt := 67) hE dX12_field_88 (by decide) ?_
          refine x_iload hE dX12_field_67 0 rfl ?_
          refine x_bipush (v := 7) hE dX12_field_69 (by decide) ?_
          refine x_icmp_ge (tgt := 91) hE dX12_field_71 (by decide) (fun c_71 => ?_) (fun c_71 => absurd (by decide) c_71)
          refine x_aload_n hE dX12_field_91 rfl 2 rfl ?_
          refine h_getr hE hM rfl inZX12 0 (by decide) q1394 rfl dX12_field_92 ?_
          refine x_iload hE dX12_field_95 1 rfl ?_
          refine x_iconst (v := 0) hE dX12_field_97 (by decide) ?_
          refine x_iadd hE dX12_field_98 ?_
          refine x_norm (y := 16) (by decide) ?_
          refine x_iload_n hE dX12_field_99 rfl 3 rfl ?_
          refine h_iastL (iN := 16) hE hr0 (by decide) (by decide) (by omega) dX12_field_100 ?_
          refine x_aload_n hE dX12_field_101 rfl 2 rfl ?_
          refine h_getr hE hM rfl inZX12 0 (by decide) q1394 rfl dX12_field_102 ?_
          refine x_iload hE dX12_field_105 1 rfl ?_
          refine x_iconst (v := 1) hE dX12_field_107 (by decide) ?_
          refine x_iadd hE dX12_field_108 ?_
          refine x_norm (y := 17) (by decide) ?_
          refine x_iload_n hE dX12_field_109 rfl 4 rfl ?_
          refine h_iastL (iN := 17) hE hr0 (by decide) (by decide) (by omega) dX12_field_110 ?_
          refine x_aload_n hE dX12_field_111 rfl 2 rfl ?_
          refine h_getr hE hM rfl inZX12 0 (by decide) q1394 rfl dX12_field_112 ?_
          refine x_iload hE dX12_field_115 1 rfl ?_
          refine x_iconst (v := 2) hE dX12_field_117 (by decide) ?_
          refine x_iadd hE dX12_field_118 ?_
          refine x_norm (y := 18) (by decide) ?_
          refine x_iload_n hE dX12_field_119 rfl 5 rfl ?_
          refine h_iastL (iN := 18) hE hr0 (by decide) (by decide) (by omega) dX12_field_120 ?_
          refine x_aload_n hE dX12_field_121 rfl 2 rfl ?_
          refine h_getr hE hM rfl inZX12 0 (by decide) q1394 rfl dX12_field_122 ?_
          refine x_iconst (v := 0) hE dX12_field_125 (by decide) ?_
          refine x_dup2 hE dX12_field_126 rfl rfl ?_
          refine h_ialdL (iN := 0) hE hr0 (by decide) (by decide) (by omega) dX12_field_127 ?_
          refine x_norm (y := 0) (by simp [va_up, upd]; exact (h0 0 (by omega)).trans (by decide)) ?_
          refine x_iconst (v := 1) hE dX12_field_128 (by decide) ?_
          refine x_iadd hE dX12_field_129 ?_
          refine x_norm (y := 1) (by decide) ?_
          refine h_iastL (iN := 0) hE hr0 (by decide) (by decide) (by omega) dX12_field_130 ?_
          refine x_aload_n hE dX12_field_131 rfl 2 rfl ?_
          refine h_getr hE hM rfl inZX12 0 (by decide) q1394 rfl dX12_field_132 ?_
          refine x_iconst (v := 0) hE dX12_field_135 (by decide) ?_
          refine h_ialdL (iN := 0) hE hr0 (by decide) (by decide) (by omega) dX12_field_136 ?_
          refine x_norm (y := 1) (by simp [va_up, upd]) ?_
          refine x_iconst (v := 1) hE dX12_field_137 (by decide) ?_
          refine x_isub hE dX12_field_138 ?_
          refine x_norm (y := 0) (by decide) ?_
          exact hret _ _ _ _ _ _ _ _ (0) (Nat.le_of_ble_eq_true rfl) (Nat.le_of_ble_eq_true rfl) dX12_field_139 (rfl) (by grind [zb])
set_option maxHeartbeats 4000000 in
set_option maxRecDepth 100000 in
theorem m_road (l : Launch) (D : va_G) (cy : Nat → ClassId) (L : List Nat) (σ : Nat → va_E) (φ : Nat → Nat → Nat → Int32) (ρ : Nat → Nat → Int32) {m : Nat} {r : Nat → Nat} (a : Int32) (b : Int32) (hm : zModel cy L σ m r) (hm0 : zMo0 φ ρ m r) : zMI l D cy yX12_road cX12_road 3 .boolean (zrm 3 0 0) [.ref m, .int a, .int b] L σ φ ρ (fun r _ => r = 0) := by
  refine zMI.mk (by decide) (Nat.le_of_ble_eq_true rfl) (fun E hE hret => ?_)
  show zW E 0 0 L σ φ ρ 0 [(0, .ref m), (1, .int a), (2, .int b)] []
  obtain ⟨hM, hr0, hr1, hr2, hr3, hr15, hr16, hr22, hr25, hr26, hr27, hr28, hr29, hr32, hr33, hr34, hr39, hr41, hr42, hr43, hr44, hr45, hr46, hr47, hr48, hr49, hr50, hr51, hr52, hne⟩ := id hm
  obtain ⟨hp, h0, h1⟩ := id hm0
  have h00 : ρ (r 0) 0 = 0 := (h0 0 (by omega)).trans (by decide)
  have h01 : ρ (r 0) 1 = 0 := (h0 1 (by omega)).trans (by decide)
  refine x_aload_n hE dX12_road_0 rfl 0 rfl ?_
  refine x_iload_n hE dX12_road_1 rfl 1 rfl ?_
  refine c_ip hE (r_V (st := []) hE (m_isField l D cy L σ φ ρ (a) hm h00 h01) q1565 q1567 q38 q124 q1568 hM rfl ⟨by decide, by decide, pn_X12_isField⟩ ⟨Nat.le_of_ble_eq_true rfl, Nat.le_of_ble_eq_true rfl⟩ ⟨Nat.le_of_ble_eq_true rfl, Nat.le_of_ble_eq_true rfl⟩ rfl (Nat.le_of_ble_eq_true rfl) dX12_road_2) (fun r2 h_2 => ?_)
  refine x_widen (k' := 0) (n' := 0) (Nat.le_of_ble_eq_true rfl) (Nat.le_of_ble_eq_true rfl) ?_
  refine x_norm (y := 0) (h_2) ?_
  refine x_if_eq (tgt := 35) hE dX12_road_5 (by decide) (fun c_5 => ?_) (fun c_5 => absurd (by decide) c_5)
  refine x_iconst (v := 0) hE dX12_road_35 (by decide) ?_
  exact hret _ _ _ _ _ _ _ _ (0) (Nat.le_of_ble_eq_true rfl) (Nat.le_of_ble_eq_true rfl) dX12_road_36 (rfl) (by grind [zb])
set_option maxHeartbeats 4000000 in
set_option maxRecDepth 100000 in
theorem m_person (l : Launch) (D : va_G) (cy : Nat → ClassId) (L : List Nat) (σ : Nat → va_E) (φ : Nat → Nat → Nat → Int32) (ρ : Nat → Nat → Int32) {m : Nat} {r : Nat → Nat} (a : Int32) (b : Int32) (c : Int32) (d : Int32) (hm : zModel cy L σ m r) (hm0 : zMo0 φ ρ m r) : zMI l D cy yX12_person cX12_person 7 .int (zrm 3 0 0) [.ref m, .int a, .int b, .int c, .int d] L σ φ ρ (fun r _ => r = -1) := by
  refine zMI.mk (by decide) (Nat.le_of_ble_eq_true rfl) (fun E hE hret => ?_)
  show zW E 0 0 L σ φ ρ 0 [(0, .ref m), (1, .int a), (2, .int b), (3, .int c), (4, .int d)] []
  obtain ⟨hM, hr0, hr1, hr2, hr3, hr15, hr16, hr22, hr25, hr26, hr27, hr28, hr29, hr32, hr33, hr34, hr39, hr41, hr42, hr43, hr44, hr45, hr46, hr47, hr48, hr49, hr50, hr51, hr52, hne⟩ := id hm
  obtain ⟨hp, h0, h1⟩ := id hm0
  have h00 : ρ (r 0) 0 = 0 := (h0 0 (by omega)).trans (by decide)
  have h01 : ρ (r 0) 1 = 0 := (h0 1 (by omega)).trans (by decide)
  refine x_iload_n hE dX12_person_0 rfl 1 rfl ?_
  refine x_iconst (v := 1) hE dX12_person_1 (by decide) ?_
  refine x_bipush (v := 99) hE dX12_person_2 (by decide) ?_
  refine c_ip hE (r_S (st := []) hE (m_isIn l D cy L σ φ ρ (a) (1) (99)) q1558 q1559 q124 q1560 ⟨by decide, by decide, pn_X12_isIn⟩ ⟨Nat.le_of_ble_eq_true rfl, Nat.le_of_ble_eq_true rfl⟩ ⟨Nat.le_of_ble_eq_true rfl, Nat.le_of_ble_eq_true rfl⟩ rfl (Nat.le_of_ble_eq_true rfl) dX12_person_4) (fun r4 h4 => ?_)
  refine x_widen (k' := 0) (n' := 0) (Nat.le_of_ble_eq_true rfl) (Nat.le_of_ble_eq_true rfl) ?_
  refine x_if_eq (tgt := 51) hE dX12_person_7 (by decide) (fun c_7 => ?_) (fun c_7 => ?_)
  · refine x_iconst (v := -1) hE dX12_person_51 (by decide) ?_
    exact hret _ _ _ _ _ _ _ _ (-1) (Nat.le_of_ble_eq_true rfl) (Nat.le_of_ble_eq_true rfl) dX12_person_52 (rfl) (by grind [zb])
  · refine x_iload_n hE dX12_person_10 rfl 2 rfl ?_
    refine x_iconst (v := 0) hE dX12_person_11 (by decide) ?_
    refine x_bipush (v := 99) hE dX12_person_12 (by decide) ?_
    refine c_ip hE (r_S (st := []) hE (m_isIn l D cy L σ φ ρ (b) (0) (99)) q1558 q1559 q124 q1560 ⟨by decide, by decide, pn_X12_isIn⟩ ⟨Nat.le_of_ble_eq_true rfl, Nat.le_of_ble_eq_true rfl⟩ ⟨Nat.le_of_ble_eq_true rfl, Nat.le_of_ble_eq_true rfl⟩ rfl (Nat.le_of_ble_eq_true rfl) dX12_person_14) (fun r14 h14 => ?_)
    refine x_widen (k' := 0) (n' := 0) (Nat.le_of_ble_eq_true rfl) (Nat.le_of_ble_eq_true rfl) ?_
    refine x_if_eq (tgt := 51) hE dX12_person_17 (by decide) (fun c_17 => ?_) (fun c_17 => ?_)
    · refine x_iconst (v := -1) hE dX12_person_51 (by decide) ?_
      exact hret _ _ _ _ _ _ _ _ (-1) (Nat.le_of_ble_eq_true rfl) (Nat.le_of_ble_eq_true rfl) dX12_person_52 (rfl) (by grind [zb])
    · refine x_aload_n hE dX12_person_20 rfl 0 rfl ?_
      refine x_iload_n hE dX12_person_21 rfl 3 rfl ?_
      refine c_ip hE (r_V (st := []) hE (m_isField l D cy L σ φ ρ (c) hm h00 h01) q1565 q1567 q38 q124 q1568 hM rfl ⟨by decide, by decide, pn_X12_isField⟩ ⟨Nat.le_of_ble_eq_true rfl, Nat.le_of_ble_eq_true rfl⟩ ⟨Nat.le_of_ble_eq_true rfl, Nat.le_of_ble_eq_true rfl⟩ rfl (Nat.le_of_ble_eq_true rfl) dX12_person_22) (fun r22 h_22 => ?_)
      refine x_widen (k' := 0) (n' := 0) (Nat.le_of_ble_eq_true rfl) (Nat.le_of_ble_eq_true rfl) ?_
      refine x_norm (y := 0) (h_22) ?_
      refine x_if_eq (tgt := 51) hE dX12_person_25 (by decide) (fun c_25 => ?_) (fun c_25 => absurd (by decide) c_25)
      refine x_iconst (v := -1) hE dX12_person_51 (by decide) ?_
      exact hret _ _ _ _ _ _ _ _ (-1) (Nat.le_of_ble_eq_true rfl) (Nat.le_of_ble_eq_true rfl) dX12_person_52 (rfl) (by grind [zb])
set_option maxHeartbeats 4000000 in
set_option maxRecDepth 100000 in
theorem m_end (l : Launch) (D : va_G) (cy : Nat → ClassId) (L : List Nat) (σ : Nat → va_E) (φ : Nat → Nat → Nat → Int32) (ρ : Nat → Nat → Int32) {m : Nat} {r : Nat → Nat} (n : Int32) (hm : zModel cy L σ m r) (hm0 : zMo0 φ ρ m r) : zMI l D cy yX12_end cX12_end 2 .int (zrm 3 0 0) [.ref m, .int n] L σ φ ρ (fun r _ => r = if n = 0 then 0 else -1) := by
  refine zMI.mk (by decide) (Nat.le_of_ble_eq_true rfl) (fun E hE hret => ?_)
  show zW E 0 0 L σ φ ρ 0 [(0, .ref m), (1, .int n)] []
  obtain ⟨hM, hr0, hr1, hr2, hr3, hr15, hr16, hr22, hr25, hr26, hr27, hr28, hr29, hr32, hr33, hr34, hr39, hr41, hr42, hr43, hr44, hr45, hr46, hr47, hr48, hr49, hr50, hr51, hr52, hne⟩ := id hm
  obtain ⟨hp, h0, h1⟩ := id hm0
  have h00 : ρ (r 0) 0 = 0 := (h0 0 (by omega)).trans (by decide)
  have h01 : ρ (r 0) 1 = 0 := (h0 1 (by omega)).trans (by decide)
  refine x_iload_n hE dX12_end_0 rfl 1 rfl ?_
  refine x_iconst (v := 0) hE dX12_end_1 (by decide) ?_
  refine x_aload_n hE dX12_end_2 rfl 0 rfl ?_
  refine h_geti hE hM rfl inZX12 4 (by decide) q1398 rfl dX12_end_3 ?_
  refine x_norm (y := 0) ((by simpa using hp 4)) ?_
  refine c_ip hE (r_S (st := []) hE (m_isIn l D cy L σ φ ρ (n) (0) (0)) q1558 q1559 q124 q1560 ⟨by decide, by decide, pn_X12_isIn⟩ ⟨Nat.le_of_ble_eq_true rfl, Nat.le_of_ble_eq_true rfl⟩ ⟨Nat.le_of_ble_eq_true rfl, Nat.le_of_ble_eq_true rfl⟩ rfl (Nat.le_of_ble_eq_true rfl) dX12_end_6) (fun r6 h6 => ?_)
  refine x_widen (k' := 0) (n' := 0) (Nat.le_of_ble_eq_true rfl) (Nat.le_of_ble_eq_true rfl) ?_
  refine x_if_ne (tgt := 14) hE dX12_end_9 (by decide) (fun c_9 => ?_) (fun c_9 => ?_)
  · refine x_aload_n hE dX12_end_14 rfl 0 rfl ?_
    refine x_iload_n hE dX12_end_15 rfl 1 rfl ?_
    refine h_puti (ty := .int) (ty0 := tyX12) hE hM rfl inZX12 tyX12_ok nmX12 4 (by decide) q1398 rfl rfl (by decide +kernel) rfl rfl dX12_end_16 ?_
    refine x_iload_n hE dX12_end_19 rfl 1 rfl ?_
    exact hret _ _ _ _ _ _ _ _ (n) (Nat.le_of_ble_eq_true rfl) (Nat.le_of_ble_eq_true rfl) dX12_end_20 (rfl) (by grind [zb])
  · refine x_iconst (v := -1) hE dX12_end_12 (by decide) ?_
    exact hret _ _ _ _ _ _ _ _ (-1) (Nat.le_of_ble_eq_true rfl) (Nat.le_of_ble_eq_true rfl) dX12_end_13 (rfl) (by grind [zb])
set_option maxHeartbeats 4000000 in
set_option maxRecDepth 100000 in
theorem m_fault (l : Launch) (D : va_G) (cy : Nat → ClassId) (L : List Nat) (σ : Nat → va_E) (φ : Nat → Nat → Nat → Int32) (ρ : Nat → Nat → Int32) {m : Nat} {r : Nat → Nat} (w : Int32) (hm : zModel cy L σ m r) (hm0 : zMo0 φ ρ m r) : zMI l D cy yX12_fault cX12_fault 2 .int (zrm 3 0 0) [.ref m, .int w] L σ φ ρ (fun r _ => r = -1) := by
  refine zMI.mk (by decide) (Nat.le_of_ble_eq_true rfl) (fun E hE hret => ?_)
  show zW E 0 0 L σ φ ρ 0 [(0, .ref m), (1, .int w)] []
  obtain ⟨hM, hr0, hr1, hr2, hr3, hr15, hr16, hr22, hr25, hr26, hr27, hr28, hr29, hr32, hr33, hr34, hr39, hr41, hr42, hr43, hr44, hr45, hr46, hr47, hr48, hr49, hr50, hr51, hr52, hne⟩ := id hm
  obtain ⟨hp, h0, h1⟩ := id hm0
  have h00 : ρ (r 0) 0 = 0 := (h0 0 (by omega)).trans (by decide)
  have h01 : ρ (r 0) 1 = 0 := (h0 1 (by omega)).trans (by decide)
  refine x_iload_n hE dX12_fault_0 rfl 1 rfl ?_
  refine x_if_ne (tgt := 11) hE dX12_fault_1 (by decide) (fun c_1 => ?_) (fun c_1 => ?_)
  · refine x_iload_n hE dX12_fault_11 rfl 1 rfl ?_
    refine x_iconst (v := 1) hE dX12_fault_12 (by decide) ?_
    refine x_icmp_ne (tgt := 23) hE dX12_fault_13 (by decide) (fun c_13 => ?_) (fun c_13 => ?_)
    · refine x_iconst (v := -1) hE dX12_fault_23 (by decide) ?_
      exact hret _ _ _ _ _ _ _ _ (-1) (Nat.le_of_ble_eq_true rfl) (Nat.le_of_ble_eq_true rfl) dX12_fault_24 (rfl) (by grind [zb])
    · refine x_aload_n hE dX12_fault_16 rfl 0 rfl ?_
      refine h_geti hE hM rfl inZX12 6 (by decide) q1400 rfl dX12_fault_17 ?_
      refine x_norm (y := -1) ((by simpa using hp 6)) ?_
      refine x_goto (tgt := 24) hE dX12_fault_20 (by decide) ?_
      exact hret _ _ _ _ _ _ _ _ (-1) (Nat.le_of_ble_eq_true rfl) (Nat.le_of_ble_eq_true rfl) dX12_fault_24 (rfl) (by grind [zb])
  · refine x_aload_n hE dX12_fault_4 rfl 0 rfl ?_
    refine h_geti hE hM rfl inZX12 5 (by decide) q1399 rfl dX12_fault_5 ?_
    refine x_norm (y := -1) ((by simpa using hp 5)) ?_
    refine x_goto (tgt := 24) hE dX12_fault_8 (by decide) ?_
    exact hret _ _ _ _ _ _ _ _ (-1) (Nat.le_of_ble_eq_true rfl) (Nat.le_of_ble_eq_true rfl) dX12_fault_24 (rfl) (by grind [zb])
set_option maxHeartbeats 4000000 in
set_option maxRecDepth 100000 in
theorem m_by (l : Launch) (D : va_G) (cy : Nat → ClassId) (L : List Nat) (σ : Nat → va_E) (φ : Nat → Nat → Nat → Int32) (ρ : Nat → Nat → Int32) {m : Nat} {r : Nat → Nat} (t : Int32) (hm : zModel cy L σ m r) (hm0 : zMo0 φ ρ m r) : zMI l D cy yX12_by cX12_by 2 .boolean (zrm 3 0 0) [.ref m, .int t] L σ φ ρ (fun r _ => r = zb (t = -1)) := by
  refine zMI.mk (by decide) (Nat.le_of_ble_eq_true rfl) (fun E hE hret => ?_)
  show zW E 0 0 L σ φ ρ 0 [(0, .ref m), (1, .int t)] []
  obtain ⟨hM, hr0, hr1, hr2, hr3, hr15, hr16, hr22, hr25, hr26, hr27, hr28, hr29, hr32, hr33, hr34, hr39, hr41, hr42, hr43, hr44, hr45, hr46, hr47, hr48, hr49, hr50, hr51, hr52, hne⟩ := id hm
  obtain ⟨hp, h0, h1⟩ := id hm0
  have h00 : ρ (r 0) 0 = 0 := (h0 0 (by omega)).trans (by decide)
  have h01 : ρ (r 0) 1 = 0 := (h0 1 (by omega)).trans (by decide)
  refine x_iload_n hE dX12_by_0 rfl 1 rfl ?_
  refine x_iconst (v := -1) hE dX12_by_1 (by decide) ?_
  refine x_aload_n hE dX12_by_2 rfl 0 rfl ?_
  refine h_getr hE hM rfl inZX12 0 (by decide) q1394 rfl dX12_by_3 ?_
  refine x_bipush (v := 7) hE dX12_by_6 (by decide) ?_
  refine h_ialdL (iN := 7) hE hr0 (by decide) (by decide) (by omega) dX12_by_8 ?_
  refine x_norm (y := 0) ((h0 7 (by omega)).trans (by decide)) ?_
  refine x_iconst (v := 1) hE dX12_by_9 (by decide) ?_
  refine x_isub hE dX12_by_10 ?_
  refine x_norm (y := -1) (by decide) ?_
  refine c_ip hE (r_S (st := []) hE (m_isIn l D cy L σ φ ρ (t) (-1) (-1)) q1558 q1559 q124 q1560 ⟨by decide, by decide, pn_X12_isIn⟩ ⟨Nat.le_of_ble_eq_true rfl, Nat.le_of_ble_eq_true rfl⟩ ⟨Nat.le_of_ble_eq_true rfl, Nat.le_of_ble_eq_true rfl⟩ rfl (Nat.le_of_ble_eq_true rfl) dX12_by_11) (fun r11 h11 => ?_)
  refine x_widen (k' := 0) (n' := 0) (Nat.le_of_ble_eq_true rfl) (Nat.le_of_ble_eq_true rfl) ?_
  refine x_if_ne (tgt := 19) hE dX12_by_14 (by decide) (fun c_14 => ?_) (fun c_14 => ?_)
  · refine x_aload_n hE dX12_by_19 rfl 0 rfl ?_
    refine h_getr hE hM rfl inZX12 0 (by decide) q1394 rfl dX12_by_20 ?_
    refine x_bipush (v := 8) hE dX12_by_23 (by decide) ?_
    refine x_iload_n hE dX12_by_25 rfl 1 rfl ?_
    refine h_iastL (iN := 8) hE hr0 (by decide) (by decide) (by omega) dX12_by_26 ?_
    refine x_iconst (v := 1) hE dX12_by_27 (by decide) ?_
    exact hret _ _ _ _ _ _ _ _ (1) (Nat.le_of_ble_eq_true rfl) (Nat.le_of_ble_eq_true rfl) dX12_by_28 (rfl) (by grind [zb])
  · refine x_iconst (v := 0) hE dX12_by_17 (by decide) ?_
    exact hret _ _ _ _ _ _ _ _ (0) (Nat.le_of_ble_eq_true rfl) (Nat.le_of_ble_eq_true rfl) dX12_by_18 (rfl) (by grind [zb])
set_option maxHeartbeats 4000000 in
set_option maxRecDepth 100000 in
theorem m_work (l : Launch) (D : va_G) (cy : Nat → ClassId) (L : List Nat) (σ : Nat → va_E) (φ : Nat → Nat → Nat → Int32) (ρ : Nat → Nat → Int32) {m : Nat} {r : Nat → Nat} (p : Int32) (w : Int32) (hm : zModel cy L σ m r) (hm0 : zMo0 φ ρ m r) : zMI l D cy yX12_work cX12_work 3 .boolean (zrm 3 0 0) [.ref m, .int p, .int w] L σ φ ρ (fun r _ => r = 0) := by
  refine zMI.mk (by decide) (Nat.le_of_ble_eq_true rfl) (fun E hE hret => ?_)
  show zW E 0 0 L σ φ ρ 0 [(0, .ref m), (1, .int p), (2, .int w)] []
  obtain ⟨hM, hr0, hr1, hr2, hr3, hr15, hr16, hr22, hr25, hr26, hr27, hr28, hr29, hr32, hr33, hr34, hr39, hr41, hr42, hr43, hr44, hr45, hr46, hr47, hr48, hr49, hr50, hr51, hr52, hne⟩ := id hm
  obtain ⟨hp, h0, h1⟩ := id hm0
  have h00 : ρ (r 0) 0 = 0 := (h0 0 (by omega)).trans (by decide)
  have h01 : ρ (r 0) 1 = 0 := (h0 1 (by omega)).trans (by decide)
  refine x_aload_n hE dX12_work_0 rfl 0 rfl ?_
  refine x_iload_n hE dX12_work_1 rfl 1 rfl ?_
  refine c_ip hE (r_V (st := []) hE (m_isPerson l D cy L σ φ ρ (p) hm h00 h01) q1840 q1842 q87 q124 q1843 hM rfl ⟨by decide, by decide, pn_X12_isPerson⟩ ⟨Nat.le_of_ble_eq_true rfl, Nat.le_of_ble_eq_true rfl⟩ ⟨Nat.le_of_ble_eq_true rfl, Nat.le_of_ble_eq_true rfl⟩ rfl (Nat.le_of_ble_eq_true rfl) dX12_work_2) (fun r2 h_2 => ?_)
  refine x_widen (k' := 0) (n' := 0) (Nat.le_of_ble_eq_true rfl) (Nat.le_of_ble_eq_true rfl) ?_
  refine x_norm (y := 0) (h_2) ?_
  refine x_if_eq (tgt := 28) hE dX12_work_5 (by decide) (fun c_5 => ?_) (fun c_5 => absurd (by decide) c_5)
  refine x_iconst (v := 0) hE dX12_work_28 (by decide) ?_
  exact hret _ _ _ _ _ _ _ _ (0) (Nat.le_of_ble_eq_true rfl) (Nat.le_of_ble_eq_true rfl) dX12_work_29 (rfl) (by grind [zb])
set_option maxHeartbeats 4000000 in
set_option maxRecDepth 100000 in
theorem m_pour (l : Launch) (D : va_G) (cy : Nat → ClassId) (L : List Nat) (σ : Nat → va_E) (φ : Nat → Nat → Nat → Int32) (ρ : Nat → Nat → Int32) {m : Nat} {r : Nat → Nat} (d : Int32) (f : Int32) (hm : zModel cy L σ m r) (hm0 : zMo0 φ ρ m r) : zMI l D cy yX12_pour cX12_pour 3 .int (zrm 3 0 0) [.ref m, .int d, .int f] L σ φ ρ (fun r _ => r = -1) := by
  refine zMI.mk (by decide) (Nat.le_of_ble_eq_true rfl) (fun E hE hret => ?_)
  show zW E 0 0 L σ φ ρ 0 [(0, .ref m), (1, .int d), (2, .int f)] []
  obtain ⟨hM, hr0, hr1, hr2, hr3, hr15, hr16, hr22, hr25, hr26, hr27, hr28, hr29, hr32, hr33, hr34, hr39, hr41, hr42, hr43, hr44, hr45, hr46, hr47, hr48, hr49, hr50, hr51, hr52, hne⟩ := id hm
  obtain ⟨hp, h0, h1⟩ := id hm0
  have h00 : ρ (r 0) 0 = 0 := (h0 0 (by omega)).trans (by decide)
  have h01 : ρ (r 0) 1 = 0 := (h0 1 (by omega)).trans (by decide)
  refine x_iload_n hE dX12_pour_0 rfl 1 rfl ?_
  refine x_iconst (v := 1) hE dX12_pour_1 (by decide) ?_
  refine x_sipush (v := 999) hE dX12_pour_2 (by decide) ?_
  refine c_ip hE (r_S (st := []) hE (m_isIn l D cy L σ φ ρ (d) (1) (999)) q1558 q1559 q124 q1560 ⟨by decide, by decide, pn_X12_isIn⟩ ⟨Nat.le_of_ble_eq_true rfl, Nat.le_of_ble_eq_true rfl⟩ ⟨Nat.le_of_ble_eq_true rfl, Nat.le_of_ble_eq_true rfl⟩ rfl (Nat.le_of_ble_eq_true rfl) dX12_pour_5) (fun r5 h5 => ?_)
  refine x_widen (k' := 0) (n' := 0) (Nat.le_of_ble_eq_true rfl) (Nat.le_of_ble_eq_true rfl) ?_
  refine x_if_eq (tgt := 29) hE dX12_pour_8 (by decide) (fun c_8 => ?_) (fun c_8 => ?_)
  · refine x_iconst (v := -1) hE dX12_pour_29 (by decide) ?_
    exact hret _ _ _ _ _ _ _ _ (-1) (Nat.le_of_ble_eq_true rfl) (Nat.le_of_ble_eq_true rfl) dX12_pour_30 (rfl) (by grind [zb])
  · refine x_iload_n hE dX12_pour_11 rfl 1 rfl ?_
    refine x_aload_n hE dX12_pour_12 rfl 0 rfl ?_
    refine h_getr hE hM rfl inZX12 0 (by decide) q1394 rfl dX12_pour_13 ?_
    refine x_iconst (v := 3) hE dX12_pour_16 (by decide) ?_
    refine h_ialdL (iN := 3) hE hr0 (by decide) (by decide) (by omega) dX12_pour_17 ?_
    refine x_norm (y := 0) ((h0 3 (by omega)).trans (by decide)) ?_
    refine x_icmp_gt (tgt := 29) hE dX12_pour_18 (by decide) (fun c_18 => ?_) (fun c_18 => ?_)
    · refine x_iconst (v := -1) hE dX12_pour_29 (by decide) ?_
      exact hret _ _ _ _ _ _ _ _ (-1) (Nat.le_of_ble_eq_true rfl) (Nat.le_of_ble_eq_true rfl) dX12_pour_30 (rfl) (by grind [zb])
    · refine x_aload_n hE dX12_pour_21 rfl 0 rfl ?_
      refine x_iload_n hE dX12_pour_22 rfl 2 rfl ?_
      refine c_ip hE (r_V (st := []) hE (m_isField l D cy L σ φ ρ (f) hm h00 h01) q1565 q1567 q38 q124 q1568 hM rfl ⟨by decide, by decide, pn_X12_isField⟩ ⟨Nat.le_of_ble_eq_true rfl, Nat.le_of_ble_eq_true rfl⟩ ⟨Nat.le_of_ble_eq_true rfl, Nat.le_of_ble_eq_true rfl⟩ rfl (Nat.le_of_ble_eq_true rfl) dX12_pour_23) (fun r23 h_23 => ?_)
      refine x_widen (k' := 0) (n' := 0) (Nat.le_of_ble_eq_true rfl) (Nat.le_of_ble_eq_true rfl) ?_
      refine x_norm (y := 0) (h_23) ?_
      refine x_if_ne (tgt := 31) hE dX12_pour_26 (by decide) (fun c_26 => absurd c_26 (fun h => h (by decide))) (fun c_26 => ?_)
      refine x_iconst (v := -1) hE dX12_pour_29 (by decide) ?_
      exact hret _ _ _ _ _ _ _ _ (-1) (Nat.le_of_ble_eq_true rfl) (Nat.le_of_ble_eq_true rfl) dX12_pour_30 (rfl) (by grind [zb])
set_option maxHeartbeats 4000000 in
set_option maxRecDepth 100000 in
theorem m_played (l : Launch) (D : va_G) (cy : Nat → ClassId) (L : List Nat) (σ : Nat → va_E) (φ : Nat → Nat → Nat → Int32) (ρ : Nat → Nat → Int32) {m : Nat} {r : Nat → Nat} (t : Int32) (hm : zModel cy L σ m r) (hm0 : zMo0 φ ρ m r) : zMI l D cy yX12_played cX12_played 3 .int (zrm 3 0 0) [.ref m, .int t] L σ φ ρ (fun r _ => r = -2) := by
  refine zMI.mk (by decide) (Nat.le_of_ble_eq_true rfl) (fun E hE hret => ?_)
  show zW E 0 0 L σ φ ρ 0 [(0, .ref m), (1, .int t)] []
  obtain ⟨hM, hr0, hr1, hr2, hr3, hr15, hr16, hr22, hr25, hr26, hr27, hr28, hr29, hr32, hr33, hr34, hr39, hr41, hr42, hr43, hr44, hr45, hr46, hr47, hr48, hr49, hr50, hr51, hr52, hne⟩ := id hm
  obtain ⟨hp, h0, h1⟩ := id hm0
  have h00 : ρ (r 0) 0 = 0 := (h0 0 (by omega)).trans (by decide)
  have h01 : ρ (r 0) 1 = 0 := (h0 1 (by omega)).trans (by decide)
  refine x_iload_n hE dX12_played_0 rfl 1 rfl ?_
  refine x_iconst (v := 0) hE dX12_played_1 (by decide) ?_
  refine x_aload_n hE dX12_played_2 rfl 0 rfl ?_
  refine h_getr hE hM rfl inZX12 0 (by decide) q1394 rfl dX12_played_3 ?_
  refine x_bipush (v := 7) hE dX12_played_6 (by decide) ?_
  refine h_ialdL (iN := 7) hE hr0 (by decide) (by decide) (by omega) dX12_played_8 ?_
  refine x_norm (y := 0) ((h0 7 (by omega)).trans (by decide)) ?_
  refine x_iconst (v := 1) hE dX12_played_9 (by decide) ?_
  refine x_isub hE dX12_played_10 ?_
  refine x_norm (y := -1) (by decide) ?_
  refine c_ip hE (r_S (st := []) hE (m_isIn l D cy L σ φ ρ (t) (0) (-1)) q1558 q1559 q124 q1560 ⟨by decide, by decide, pn_X12_isIn⟩ ⟨Nat.le_of_ble_eq_true rfl, Nat.le_of_ble_eq_true rfl⟩ ⟨Nat.le_of_ble_eq_true rfl, Nat.le_of_ble_eq_true rfl⟩ rfl (Nat.le_of_ble_eq_true rfl) dX12_played_11) (fun r11 h11 => ?_)
  refine x_widen (k' := 0) (n' := 0) (Nat.le_of_ble_eq_true rfl) (Nat.le_of_ble_eq_true rfl) ?_
  refine x_norm (y := 0) (h11.trans (zb_f z_m1)) ?_
  refine x_if_ne (tgt := 20) hE dX12_played_14 (by decide) (fun c_14 => absurd c_14 (fun h => h (by decide))) (fun c_14 => ?_)
  refine x_bipush (v := -2) hE dX12_played_17 (by decide) ?_
  exact hret _ _ _ _ _ _ _ _ (-2) (Nat.le_of_ble_eq_true rfl) (Nat.le_of_ble_eq_true rfl) dX12_played_19 (rfl) (by grind [zb])
set_option maxHeartbeats 4000000 in
set_option maxRecDepth 100000 in
theorem m_year (l : Launch) (D : va_G) (cy : Nat → ClassId) (L : List Nat) (σ : Nat → va_E) (φ : Nat → Nat → Nat → Int32) (ρ : Nat → Nat → Int32) {m : Nat} {r : Nat → Nat} (s : Int32) (n : Int32) (hm : zModel cy L σ m r) (hm0 : zMo0 φ ρ m r) : zMI l D cy yX12_year cX12_year 7 .int (zrm 3 0 0) [.ref m, .int s, .int n] L σ φ ρ (fun r _ => r = -1) := by
  refine zMI.mk (by decide) (Nat.le_of_ble_eq_true rfl) (fun E hE hret => ?_)
  show zW E 0 0 L σ φ ρ 0 [(0, .ref m), (1, .int s), (2, .int n)] []
  obtain ⟨hM, hr0, hr1, hr2, hr3, hr15, hr16, hr22, hr25, hr26, hr27, hr28, hr29, hr32, hr33, hr34, hr39, hr41, hr42, hr43, hr44, hr45, hr46, hr47, hr48, hr49, hr50, hr51, hr52, hne⟩ := id hm
  obtain ⟨hp, h0, h1⟩ := id hm0
  have h00 : ρ (r 0) 0 = 0 := (h0 0 (by omega)).trans (by decide)
  have h01 : ρ (r 0) 1 = 0 := (h0 1 (by omega)).trans (by decide)
  refine x_iload_n hE dX12_year_0 rfl 1 rfl ?_
  refine x_iconst (v := 0) hE dX12_year_1 (by decide) ?_
  refine x_sipush (v := 9999) hE dX12_year_2 (by decide) ?_
  refine c_ip hE (r_S (st := []) hE (m_isIn l D cy L σ φ ρ (s) (0) (9999)) q1558 q1559 q124 q1560 ⟨by decide, by decide, pn_X12_isIn⟩ ⟨Nat.le_of_ble_eq_true rfl, Nat.le_of_ble_eq_true rfl⟩ ⟨Nat.le_of_ble_eq_true rfl, Nat.le_of_ble_eq_true rfl⟩ rfl (Nat.le_of_ble_eq_true rfl) dX12_year_5) (fun r5 h5 => ?_)
  refine x_widen (k' := 0) (n' := 0) (Nat.le_of_ble_eq_true rfl) (Nat.le_of_ble_eq_true rfl) ?_
  refine x_if_eq (tgt := 30) hE dX12_year_8 (by decide) (fun c_8 => ?_) (fun c_8 => ?_)
  · refine x_iconst (v := -1) hE dX12_year_30 (by decide) ?_
    exact hret _ _ _ _ _ _ _ _ (-1) (Nat.le_of_ble_eq_true rfl) (Nat.le_of_ble_eq_true rfl) dX12_year_31 (rfl) (by grind [zb])
  · refine x_iload_n hE dX12_year_11 rfl 2 rfl ?_
    refine x_iconst (v := 1) hE dX12_year_12 (by decide) ?_
    refine x_bipush (v := 30) hE dX12_year_13 (by decide) ?_
    refine c_ip hE (r_S (st := []) hE (m_isIn l D cy L σ φ ρ (n) (1) (30)) q1558 q1559 q124 q1560 ⟨by decide, by decide, pn_X12_isIn⟩ ⟨Nat.le_of_ble_eq_true rfl, Nat.le_of_ble_eq_true rfl⟩ ⟨Nat.le_of_ble_eq_true rfl, Nat.le_of_ble_eq_true rfl⟩ rfl (Nat.le_of_ble_eq_true rfl) dX12_year_15) (fun r15 h15 => ?_)
    refine x_widen (k' := 0) (n' := 0) (Nat.le_of_ble_eq_true rfl) (Nat.le_of_ble_eq_true rfl) ?_
    refine x_if_eq (tgt := 30) hE dX12_year_18 (by decide) (fun c_18 => ?_) (fun c_18 => ?_)
    · refine x_iconst (v := -1) hE dX12_year_30 (by decide) ?_
      exact hret _ _ _ _ _ _ _ _ (-1) (Nat.le_of_ble_eq_true rfl) (Nat.le_of_ble_eq_true rfl) dX12_year_31 (rfl) (by grind [zb])
    · refine x_aload_n hE dX12_year_21 rfl 0 rfl ?_
      refine h_getr hE hM rfl inZX12 0 (by decide) q1394 rfl dX12_year_22 ?_
      refine x_iconst (v := 1) hE dX12_year_25 (by decide) ?_
      refine h_ialdL (iN := 1) hE hr0 (by decide) (by decide) (by omega) dX12_year_26 ?_
      refine x_norm (y := 0) ((h0 1 (by omega)).trans (by decide)) ?_
      refine x_if_ne (tgt := 32) hE dX12_year_27 (by decide) (fun c_27 => absurd c_27 (fun h => h (by decide))) (fun c_27 => ?_)
      refine x_iconst (v := -1) hE dX12_year_30 (by decide) ?_
      exact hret _ _ _ _ _ _ _ _ (-1) (Nat.le_of_ble_eq_true rfl) (Nat.le_of_ble_eq_true rfl) dX12_year_31 (rfl) (by grind [zb])
set_option maxHeartbeats 4000000 in
set_option maxRecDepth 100000 in
theorem m_undo (l : Launch) (D : va_G) (cy : Nat → ClassId) (L : List Nat) (σ : Nat → va_E) (φ : Nat → Nat → Nat → Int32) (ρ : Nat → Nat → Int32) {m : Nat} {r : Nat → Nat}  (hm : zModel cy L σ m r) (hm0 : zMo0 φ ρ m r) : zMI l D cy yX12_undo cX12_undo 5 .int (zrm 3 0 0) [.ref m] L σ φ ρ (fun r _ => r = -1) := by
  refine zMI.mk (by decide) (Nat.le_of_ble_eq_true rfl) (fun E hE hret => ?_)
  show zW E 0 0 L σ φ ρ 0 [(0, .ref m)] []
  obtain ⟨hM, hr0, hr1, hr2, hr3, hr15, hr16, hr22, hr25, hr26, hr27, hr28, hr29, hr32, hr33, hr34, hr39, hr41, hr42, hr43, hr44, hr45, hr46, hr47, hr48, hr49, hr50, hr51, hr52, hne⟩ := id hm
  obtain ⟨hp, h0, h1⟩ := id hm0
  have h00 : ρ (r 0) 0 = 0 := (h0 0 (by omega)).trans (by decide)
  have h01 : ρ (r 0) 1 = 0 := (h0 1 (by omega)).trans (by decide)
  refine x_aload_n hE dX12_undo_0 rfl 0 rfl ?_
  refine h_getr hE hM rfl inZX12 0 (by decide) q1394 rfl dX12_undo_1 ?_
  refine x_bipush (v := 9) hE dX12_undo_4 (by decide) ?_
  refine h_ialdL (iN := 9) hE hr0 (by decide) (by decide) (by omega) dX12_undo_6 ?_
  refine x_norm (y := 0) ((h0 9 (by omega)).trans (by decide)) ?_
  refine x_if_ne (tgt := 12) hE dX12_undo_7 (by decide) (fun c_7 => absurd c_7 (fun h => h (by decide))) (fun c_7 => ?_)
  refine x_iconst (v := -1) hE dX12_undo_10 (by decide) ?_
  exact hret _ _ _ _ _ _ _ _ (-1) (Nat.le_of_ble_eq_true rfl) (Nat.le_of_ble_eq_true rfl) dX12_undo_11 (rfl) (by grind [zb])
set_option maxHeartbeats 4000000 in
set_option maxRecDepth 100000 in
theorem m_ofField (l : Launch) (D : va_G) (cy : Nat → ClassId) (L : List Nat) (σ : Nat → va_E) (φ : Nat → Nat → Nat → Int32) (ρ : Nat → Nat → Int32) {m : Nat} {r : Nat → Nat} (f : Int32) (w : Int32) (hm : zModel cy L σ m r) (hm0 : zMo0 φ ρ m r) : zMI l D cy yX12_ofField cX12_ofField 3 .int (zrm 3 0 0) [.ref m, .int f, .int w] L σ φ ρ (fun r _ => r = -1) := by
  refine zMI.mk (by decide) (Nat.le_of_ble_eq_true rfl) (fun E hE hret => ?_)
  show zW E 0 0 L σ φ ρ 0 [(0, .ref m), (1, .int f), (2, .int w)] []
  obtain ⟨hM, hr0, hr1, hr2, hr3, hr15, hr16, hr22, hr25, hr26, hr27, hr28, hr29, hr32, hr33, hr34, hr39, hr41, hr42, hr43, hr44, hr45, hr46, hr47, hr48, hr49, hr50, hr51, hr52, hne⟩ := id hm
  obtain ⟨hp, h0, h1⟩ := id hm0
  have h00 : ρ (r 0) 0 = 0 := (h0 0 (by omega)).trans (by decide)
  have h01 : ρ (r 0) 1 = 0 := (h0 1 (by omega)).trans (by decide)
  refine x_aload_n hE dX12_ofField_0 rfl 0 rfl ?_
  refine x_iload_n hE dX12_ofField_1 rfl 1 rfl ?_
  refine c_ip hE (r_V (st := []) hE (m_isField l D cy L σ φ ρ (f) hm h00 h01) q1565 q1567 q38 q124 q1568 hM rfl ⟨by decide, by decide, pn_X12_isField⟩ ⟨Nat.le_of_ble_eq_true rfl, Nat.le_of_ble_eq_true rfl⟩ ⟨Nat.le_of_ble_eq_true rfl, Nat.le_of_ble_eq_true rfl⟩ rfl (Nat.le_of_ble_eq_true rfl) dX12_ofField_2) (fun r2 h_2 => ?_)
  refine x_widen (k' := 0) (n' := 0) (Nat.le_of_ble_eq_true rfl) (Nat.le_of_ble_eq_true rfl) ?_
  refine x_norm (y := 0) (h_2) ?_
  refine x_if_eq (tgt := 18) hE dX12_ofField_5 (by decide) (fun c_5 => ?_) (fun c_5 => absurd (by decide) c_5)
  refine x_iconst (v := -1) hE dX12_ofField_18 (by decide) ?_
  exact hret _ _ _ _ _ _ _ _ (-1) (Nat.le_of_ble_eq_true rfl) (Nat.le_of_ble_eq_true rfl) dX12_ofField_19 (rfl) (by grind [zb])
set_option maxHeartbeats 4000000 in
set_option maxRecDepth 100000 in
theorem m_ofPerson (l : Launch) (D : va_G) (cy : Nat → ClassId) (L : List Nat) (σ : Nat → va_E) (φ : Nat → Nat → Nat → Int32) (ρ : Nat → Nat → Int32) {m : Nat} {r : Nat → Nat} (p : Int32) (w : Int32) (hm : zModel cy L σ m r) (hm0 : zMo0 φ ρ m r) : zMI l D cy yX12_ofPerson cX12_ofPerson 3 .int (zrm 3 0 0) [.ref m, .int p, .int w] L σ φ ρ (fun r _ => r = -2) := by
  refine zMI.mk (by decide) (Nat.le_of_ble_eq_true rfl) (fun E hE hret => ?_)
  show zW E 0 0 L σ φ ρ 0 [(0, .ref m), (1, .int p), (2, .int w)] []
  obtain ⟨hM, hr0, hr1, hr2, hr3, hr15, hr16, hr22, hr25, hr26, hr27, hr28, hr29, hr32, hr33, hr34, hr39, hr41, hr42, hr43, hr44, hr45, hr46, hr47, hr48, hr49, hr50, hr51, hr52, hne⟩ := id hm
  obtain ⟨hp, h0, h1⟩ := id hm0
  have h00 : ρ (r 0) 0 = 0 := (h0 0 (by omega)).trans (by decide)
  have h01 : ρ (r 0) 1 = 0 := (h0 1 (by omega)).trans (by decide)
  refine x_aload_n hE dX12_ofPerson_0 rfl 0 rfl ?_
  refine x_iload_n hE dX12_ofPerson_1 rfl 1 rfl ?_
  refine c_ip hE (r_V (st := []) hE (m_isPerson l D cy L σ φ ρ (p) hm h00 h01) q1840 q1842 q87 q124 q1843 hM rfl ⟨by decide, by decide, pn_X12_isPerson⟩ ⟨Nat.le_of_ble_eq_true rfl, Nat.le_of_ble_eq_true rfl⟩ ⟨Nat.le_of_ble_eq_true rfl, Nat.le_of_ble_eq_true rfl⟩ rfl (Nat.le_of_ble_eq_true rfl) dX12_ofPerson_2) (fun r2 h_2 => ?_)
  refine x_widen (k' := 0) (n' := 0) (Nat.le_of_ble_eq_true rfl) (Nat.le_of_ble_eq_true rfl) ?_
  refine x_norm (y := 0) (h_2) ?_
  refine x_if_ne (tgt := 11) hE dX12_ofPerson_5 (by decide) (fun c_5 => absurd c_5 (fun h => h (by decide))) (fun c_5 => ?_)
  refine x_bipush (v := -2) hE dX12_ofPerson_8 (by decide) ?_
  exact hret _ _ _ _ _ _ _ _ (-2) (Nat.le_of_ble_eq_true rfl) (Nat.le_of_ble_eq_true rfl) dX12_ofPerson_10 (rfl) (by grind [zb])
set_option maxHeartbeats 4000000 in
set_option maxRecDepth 100000 in
theorem m_rained (l : Launch) (D : va_G) (cy : Nat → ClassId) (L : List Nat) (σ : Nat → va_E) (φ : Nat → Nat → Nat → Int32) (ρ : Nat → Nat → Int32) {m : Nat} {r : Nat → Nat} (i : Int32) (w : Int32) (hm : zModel cy L σ m r) (hm0 : zMo0 φ ρ m r) : zMI l D cy yX12_rained cX12_rained 5 .int (zrm 3 0 0) [.ref m, .int i, .int w] L σ φ ρ (fun r _ => r = if i = -1 then 0 else -2) := by
  refine zMI.mk (by decide) (Nat.le_of_ble_eq_true rfl) (fun E hE hret => ?_)
  show zW E 0 0 L σ φ ρ 0 [(0, .ref m), (1, .int i), (2, .int w)] []
  obtain ⟨hM, hr0, hr1, hr2, hr3, hr15, hr16, hr22, hr25, hr26, hr27, hr28, hr29, hr32, hr33, hr34, hr39, hr41, hr42, hr43, hr44, hr45, hr46, hr47, hr48, hr49, hr50, hr51, hr52, hne⟩ := id hm
  obtain ⟨hp, h0, h1⟩ := id hm0
  have h00 : ρ (r 0) 0 = 0 := (h0 0 (by omega)).trans (by decide)
  have h01 : ρ (r 0) 1 = 0 := (h0 1 (by omega)).trans (by decide)
  refine x_aload_n hE dX12_rained_0 rfl 0 rfl ?_
  refine h_getr hE hM rfl inZX12 0 (by decide) q1394 rfl dX12_rained_1 ?_
  refine x_bipush (v := 13) hE dX12_rained_4 (by decide) ?_
  refine h_ialdL (iN := 13) hE hr0 (by decide) (by decide) (by omega) dX12_rained_6 ?_
  refine x_norm (y := 0) ((h0 13 (by omega)).trans (by decide)) ?_
  refine x_bipush (v := 40) hE dX12_rained_7 (by decide) ?_
  refine x_icmp_ge (tgt := 22) hE dX12_rained_9 (by decide) (fun c_9 => absurd c_9 (by decide)) (fun c_9 => ?_)
  refine x_aload_n hE dX12_rained_12 rfl 0 rfl ?_
  refine h_getr hE hM rfl inZX12 0 (by decide) q1394 rfl dX12_rained_13 ?_
  refine x_bipush (v := 13) hE dX12_rained_16 (by decide) ?_
  refine h_ialdL (iN := 13) hE hr0 (by decide) (by decide) (by omega) dX12_rained_18 ?_
  refine x_norm (y := 0) ((h0 13 (by omega)).trans (by decide)) ?_
  refine x_goto (tgt := 24) hE dX12_rained_19 (by decide) ?_
  refine x_istore_n (lv' := [(3, .int 0), (0, .ref m), (1, .int i), (2, .int w)]) hE dX12_rained_24 rfl (by decide) rfl ?_
  refine x_iload_n hE dX12_rained_25 rfl 2 rfl ?_
  refine x_iconst (v := -1) hE dX12_rained_26 (by decide) ?_
  refine x_icmp_ne (tgt := 32) hE dX12_rained_27 (by decide) (fun c_27 => ?_) (fun c_27 => ?_)
  · refine x_iload_n hE dX12_rained_32 rfl 2 rfl ?_
    refine x_iconst (v := 0) hE dX12_rained_33 (by decide) ?_
    refine x_iload_n hE dX12_rained_34 rfl 0 rfl ?_
    refine x_iconst (v := 1) hE dX12_rained_35 (by decide) ?_
    refine x_isub hE dX12_rained_36 ?_
    refine x_norm (y := -1) (by decide) ?_
    refine c_ip hE (r_S (st := []) hE (m_isIn l D cy L σ φ ρ (i) (0) (-1)) q1558 q1559 q124 q1560 ⟨by decide, by decide, pn_X12_isIn⟩ ⟨Nat.le_of_ble_eq_true rfl, Nat.le_of_ble_eq_true rfl⟩ ⟨Nat.le_of_ble_eq_true rfl, Nat.le_of_ble_eq_true rfl⟩ rfl (Nat.le_of_ble_eq_true rfl) dX12_rained_37) (fun r37 h37 => ?_)
    refine x_widen (k' := 0) (n' := 0) (Nat.le_of_ble_eq_true rfl) (Nat.le_of_ble_eq_true rfl) ?_
    refine x_norm (y := 0) (h37.trans (zb_f z_m1)) ?_
    refine x_if_eq (tgt := 52) hE dX12_rained_40 (by decide) (fun c_40 => ?_) (fun c_40 => absurd (by decide) c_40)
    refine x_bipush (v := -2) hE dX12_rained_52 (by decide) ?_
    exact hret _ _ _ _ _ _ _ _ (-2) (Nat.le_of_ble_eq_true rfl) (Nat.le_of_ble_eq_true rfl) dX12_rained_54 (rfl) (by grind [zb])
  · refine x_iload_n hE dX12_rained_30 rfl 0 rfl ?_
    exact hret _ _ _ _ _ _ _ _ (0) (Nat.le_of_ble_eq_true rfl) (Nat.le_of_ble_eq_true rfl) dX12_rained_31 (rfl) (by grind [zb])
set_option maxHeartbeats 4000000 in
set_option maxRecDepth 100000 in
theorem m_foretoldWet (l : Launch) (D : va_G) (cy : Nat → ClassId) (L : List Nat) (σ : Nat → va_E) (φ : Nat → Nat → Nat → Int32) (ρ : Nat → Nat → Int32) {m : Nat} {r : Nat → Nat} (n : Int32) (f : Int32) (hm : zModel cy L σ m r) (hm0 : zMo0 φ ρ m r) : zMI l D cy yX12_foretoldWet cX12_foretoldWet 4 .int (zrm 3 0 0) [.ref m, .int n, .int f] L σ φ ρ (fun r _ => r = -1) := by
  refine zMI.mk (by decide) (Nat.le_of_ble_eq_true rfl) (fun E hE hret => ?_)
  show zW E 0 0 L σ φ ρ 0 [(0, .ref m), (1, .int n), (2, .int f)] []
  obtain ⟨hM, hr0, hr1, hr2, hr3, hr15, hr16, hr22, hr25, hr26, hr27, hr28, hr29, hr32, hr33, hr34, hr39, hr41, hr42, hr43, hr44, hr45, hr46, hr47, hr48, hr49, hr50, hr51, hr52, hne⟩ := id hm
  obtain ⟨hp, h0, h1⟩ := id hm0
  have h00 : ρ (r 0) 0 = 0 := (h0 0 (by omega)).trans (by decide)
  have h01 : ρ (r 0) 1 = 0 := (h0 1 (by omega)).trans (by decide)
  refine x_iload_n hE dX12_foretoldWet_0 rfl 1 rfl ?_
  refine x_iconst (v := 1) hE dX12_foretoldWet_1 (by decide) ?_
  refine x_bipush (v := 30) hE dX12_foretoldWet_2 (by decide) ?_
  refine c_ip hE (r_S (st := []) hE (m_isIn l D cy L σ φ ρ (n) (1) (30)) q1558 q1559 q124 q1560 ⟨by decide, by decide, pn_X12_isIn⟩ ⟨Nat.le_of_ble_eq_true rfl, Nat.le_of_ble_eq_true rfl⟩ ⟨Nat.le_of_ble_eq_true rfl, Nat.le_of_ble_eq_true rfl⟩ rfl (Nat.le_of_ble_eq_true rfl) dX12_foretoldWet_4) (fun r4 h4 => ?_)
  refine x_widen (k' := 0) (n' := 0) (Nat.le_of_ble_eq_true rfl) (Nat.le_of_ble_eq_true rfl) ?_
  refine x_if_eq (tgt := 18) hE dX12_foretoldWet_7 (by decide) (fun c_7 => ?_) (fun c_7 => ?_)
  · refine x_iconst (v := -1) hE dX12_foretoldWet_18 (by decide) ?_
    exact hret _ _ _ _ _ _ _ _ (-1) (Nat.le_of_ble_eq_true rfl) (Nat.le_of_ble_eq_true rfl) dX12_foretoldWet_19 (rfl) (by grind [zb])
  · refine x_aload_n hE dX12_foretoldWet_10 rfl 0 rfl ?_
    refine x_iload_n hE dX12_foretoldWet_11 rfl 2 rfl ?_
    refine c_ip hE (r_V (st := []) hE (m_isField l D cy L σ φ ρ (f) hm h00 h01) q1565 q1567 q38 q124 q1568 hM rfl ⟨by decide, by decide, pn_X12_isField⟩ ⟨Nat.le_of_ble_eq_true rfl, Nat.le_of_ble_eq_true rfl⟩ ⟨Nat.le_of_ble_eq_true rfl, Nat.le_of_ble_eq_true rfl⟩ rfl (Nat.le_of_ble_eq_true rfl) dX12_foretoldWet_12) (fun r12 h_12 => ?_)
    refine x_widen (k' := 0) (n' := 0) (Nat.le_of_ble_eq_true rfl) (Nat.le_of_ble_eq_true rfl) ?_
    refine x_norm (y := 0) (h_12) ?_
    refine x_if_ne (tgt := 20) hE dX12_foretoldWet_15 (by decide) (fun c_15 => absurd c_15 (fun h => h (by decide))) (fun c_15 => ?_)
    refine x_iconst (v := -1) hE dX12_foretoldWet_18 (by decide) ?_
    exact hret _ _ _ _ _ _ _ _ (-1) (Nat.le_of_ble_eq_true rfl) (Nat.le_of_ble_eq_true rfl) dX12_foretoldWet_19 (rfl) (by grind [zb])
set_option maxHeartbeats 4000000 in
set_option maxRecDepth 100000 in
theorem m_foretoldCloud (l : Launch) (D : va_G) (cy : Nat → ClassId) (L : List Nat) (σ : Nat → va_E) (φ : Nat → Nat → Nat → Int32) (ρ : Nat → Nat → Int32) {m : Nat} {r : Nat → Nat} (n : Int32) (p : Int32) (b : Int32) (hm : zModel cy L σ m r) (hm0 : zMo0 φ ρ m r) : zMI l D cy yX12_foretoldCloud cX12_foretoldCloud 5 .int (zrm 3 0 0) [.ref m, .int n, .int p, .int b] L σ φ ρ (fun r _ => r = -1) := by
  refine zMI.mk (by decide) (Nat.le_of_ble_eq_true rfl) (fun E hE hret => ?_)
  show zW E 0 0 L σ φ ρ 0 [(0, .ref m), (1, .int n), (2, .int p), (3, .int b)] []
  obtain ⟨hM, hr0, hr1, hr2, hr3, hr15, hr16, hr22, hr25, hr26, hr27, hr28, hr29, hr32, hr33, hr34, hr39, hr41, hr42, hr43, hr44, hr45, hr46, hr47, hr48, hr49, hr50, hr51, hr52, hne⟩ := id hm
  obtain ⟨hp, h0, h1⟩ := id hm0
  have h00 : ρ (r 0) 0 = 0 := (h0 0 (by omega)).trans (by decide)
  have h01 : ρ (r 0) 1 = 0 := (h0 1 (by omega)).trans (by decide)
  refine x_iload_n hE dX12_foretoldCloud_0 rfl 1 rfl ?_
  refine x_iconst (v := 1) hE dX12_foretoldCloud_1 (by decide) ?_
  refine x_bipush (v := 30) hE dX12_foretoldCloud_2 (by decide) ?_
  refine c_ip hE (r_S (st := []) hE (m_isIn l D cy L σ φ ρ (n) (1) (30)) q1558 q1559 q124 q1560 ⟨by decide, by decide, pn_X12_isIn⟩ ⟨Nat.le_of_ble_eq_true rfl, Nat.le_of_ble_eq_true rfl⟩ ⟨Nat.le_of_ble_eq_true rfl, Nat.le_of_ble_eq_true rfl⟩ rfl (Nat.le_of_ble_eq_true rfl) dX12_foretoldCloud_4) (fun r4 h4 => ?_)
  refine x_widen (k' := 0) (n' := 0) (Nat.le_of_ble_eq_true rfl) (Nat.le_of_ble_eq_true rfl) ?_
  refine x_if_eq (tgt := 18) hE dX12_foretoldCloud_7 (by decide) (fun c_7 => ?_) (fun c_7 => ?_)
  · refine x_iconst (v := -1) hE dX12_foretoldCloud_18 (by decide) ?_
    exact hret _ _ _ _ _ _ _ _ (-1) (Nat.le_of_ble_eq_true rfl) (Nat.le_of_ble_eq_true rfl) dX12_foretoldCloud_19 (rfl) (by grind [zb])
  · refine x_aload_n hE dX12_foretoldCloud_10 rfl 0 rfl ?_
    refine x_iload_n hE dX12_foretoldCloud_11 rfl 2 rfl ?_
    refine c_ip hE (r_V (st := []) hE (m_isPerson l D cy L σ φ ρ (p) hm h00 h01) q1840 q1842 q87 q124 q1843 hM rfl ⟨by decide, by decide, pn_X12_isPerson⟩ ⟨Nat.le_of_ble_eq_true rfl, Nat.le_of_ble_eq_true rfl⟩ ⟨Nat.le_of_ble_eq_true rfl, Nat.le_of_ble_eq_true rfl⟩ rfl (Nat.le_of_ble_eq_true rfl) dX12_foretoldCloud_12) (fun r12 h_12 => ?_)
    refine x_widen (k' := 0) (n' := 0) (Nat.le_of_ble_eq_true rfl) (Nat.le_of_ble_eq_true rfl) ?_
    refine x_norm (y := 0) (h_12) ?_
    refine x_if_ne (tgt := 20) hE dX12_foretoldCloud_15 (by decide) (fun c_15 => absurd c_15 (fun h => h (by decide))) (fun c_15 => ?_)
    refine x_iconst (v := -1) hE dX12_foretoldCloud_18 (by decide) ?_
    exact hret _ _ _ _ _ _ _ _ (-1) (Nat.le_of_ble_eq_true rfl) (Nat.le_of_ble_eq_true rfl) dX12_foretoldCloud_19 (rfl) (by grind [zb])
set_option maxHeartbeats 4000000 in
set_option maxRecDepth 100000 in
theorem m_plan (l : Launch) (D : va_G) (cy : Nat → ClassId) (L : List Nat) (σ : Nat → va_E) (φ : Nat → Nat → Nat → Int32) (ρ : Nat → Nat → Int32) {m : Nat} {r : Nat → Nat} (p : Int32) (n : Int32) (i : Int32) (hm : zModel cy L σ m r) (hm0 : zMo0 φ ρ m r) : zMI l D cy yX12_plan cX12_plan 8 .int (zrm 3 0 0) [.ref m, .int p, .int n, .int i] L σ φ ρ (fun r _ => r = -1) := by
  refine zMI.mk (by decide) (Nat.le_of_ble_eq_true rfl) (fun E hE hret => ?_)
  show zW E 0 0 L σ φ ρ 0 [(0, .ref m), (1, .int p), (2, .int n), (3, .int i)] []
  obtain ⟨hM, hr0, hr1, hr2, hr3, hr15, hr16, hr22, hr25, hr26, hr27, hr28, hr29, hr32, hr33, hr34, hr39, hr41, hr42, hr43, hr44, hr45, hr46, hr47, hr48, hr49, hr50, hr51, hr52, hne⟩ := id hm
  obtain ⟨hp, h0, h1⟩ := id hm0
  have h00 : ρ (r 0) 0 = 0 := (h0 0 (by omega)).trans (by decide)
  have h01 : ρ (r 0) 1 = 0 := (h0 1 (by omega)).trans (by decide)
  refine x_aload_n hE dX12_plan_0 rfl 0 rfl ?_
  refine x_iload_n hE dX12_plan_1 rfl 1 rfl ?_
  refine c_ip hE (r_V (st := []) hE (m_isPerson l D cy L σ φ ρ (p) hm h00 h01) q1840 q1842 q87 q124 q1843 hM rfl ⟨by decide, by decide, pn_X12_isPerson⟩ ⟨Nat.le_of_ble_eq_true rfl, Nat.le_of_ble_eq_true rfl⟩ ⟨Nat.le_of_ble_eq_true rfl, Nat.le_of_ble_eq_true rfl⟩ rfl (Nat.le_of_ble_eq_true rfl) dX12_plan_2) (fun r2 h_2 => ?_)
  refine x_widen (k' := 0) (n' := 0) (Nat.le_of_ble_eq_true rfl) (Nat.le_of_ble_eq_true rfl) ?_
  refine x_norm (y := 0) (h_2) ?_
  refine x_if_eq (tgt := 28) hE dX12_plan_5 (by decide) (fun c_5 => ?_) (fun c_5 => absurd (by decide) c_5)
  refine x_iconst (v := -1) hE dX12_plan_28 (by decide) ?_
  exact hret _ _ _ _ _ _ _ _ (-1) (Nat.le_of_ble_eq_true rfl) (Nat.le_of_ble_eq_true rfl) dX12_plan_29 (rfl) (by grind [zb])
set_option maxHeartbeats 4000000 in
set_option maxRecDepth 100000 in
theorem m_cross (l : Launch) (D : va_G) (cy : Nat → ClassId) (L : List Nat) (σ : Nat → va_E) (φ : Nat → Nat → Nat → Int32) (ρ : Nat → Nat → Int32) {m : Nat} {r : Nat → Nat} (a : Int32) (b : Int32) (t : Int32) (i : Int32) (hm : zModel cy L σ m r) (hm0 : zMo0 φ ρ m r) : zMI l D cy yX12_cross cX12_cross 8 .int (zrm 3 0 0) [.ref m, .int a, .int b, .int t, .int i] L σ φ ρ (fun r _ => r = -1) := by
  refine zMI.mk (by decide) (Nat.le_of_ble_eq_true rfl) (fun E hE hret => ?_)
  show zW E 0 0 L σ φ ρ 0 [(0, .ref m), (1, .int a), (2, .int b), (3, .int t), (4, .int i)] []
  obtain ⟨hM, hr0, hr1, hr2, hr3, hr15, hr16, hr22, hr25, hr26, hr27, hr28, hr29, hr32, hr33, hr34, hr39, hr41, hr42, hr43, hr44, hr45, hr46, hr47, hr48, hr49, hr50, hr51, hr52, hne⟩ := id hm
  obtain ⟨hp, h0, h1⟩ := id hm0
  have h00 : ρ (r 0) 0 = 0 := (h0 0 (by omega)).trans (by decide)
  have h01 : ρ (r 0) 1 = 0 := (h0 1 (by omega)).trans (by decide)
  refine x_aload_n hE dX12_cross_0 rfl 0 rfl ?_
  refine x_iload_n hE dX12_cross_1 rfl 1 rfl ?_
  refine c_ip hE (r_V (st := []) hE (m_isField l D cy L σ φ ρ (a) hm h00 h01) q1565 q1567 q38 q124 q1568 hM rfl ⟨by decide, by decide, pn_X12_isField⟩ ⟨Nat.le_of_ble_eq_true rfl, Nat.le_of_ble_eq_true rfl⟩ ⟨Nat.le_of_ble_eq_true rfl, Nat.le_of_ble_eq_true rfl⟩ rfl (Nat.le_of_ble_eq_true rfl) dX12_cross_2) (fun r2 h_2 => ?_)
  refine x_widen (k' := 0) (n' := 0) (Nat.le_of_ble_eq_true rfl) (Nat.le_of_ble_eq_true rfl) ?_
  refine x_norm (y := 0) (h_2) ?_
  refine x_if_eq (tgt := 33) hE dX12_cross_5 (by decide) (fun c_5 => ?_) (fun c_5 => absurd (by decide) c_5)
  refine x_iconst (v := -1) hE dX12_cross_33 (by decide) ?_
  exact hret _ _ _ _ _ _ _ _ (-1) (Nat.le_of_ble_eq_true rfl) (Nat.le_of_ble_eq_true rfl) dX12_cross_34 (rfl) (by grind [zb])
set_option maxHeartbeats 4000000 in
set_option maxRecDepth 100000 in
theorem m_widest (l : Launch) (D : va_G) (cy : Nat → ClassId) (L : List Nat) (σ : Nat → va_E) (φ : Nat → Nat → Nat → Int32) (ρ : Nat → Nat → Int32) {m : Nat} {r : Nat → Nat} (a : Int32) (b : Int32) (hm : zModel cy L σ m r) (hm0 : zMo0 φ ρ m r) : zMI l D cy yX12_widest cX12_widest 4 .int (zrm 3 0 0) [.ref m, .int a, .int b] L σ φ ρ (fun r _ => r = -1) := by
  refine zMI.mk (by decide) (Nat.le_of_ble_eq_true rfl) (fun E hE hret => ?_)
  show zW E 0 0 L σ φ ρ 0 [(0, .ref m), (1, .int a), (2, .int b)] []
  obtain ⟨hM, hr0, hr1, hr2, hr3, hr15, hr16, hr22, hr25, hr26, hr27, hr28, hr29, hr32, hr33, hr34, hr39, hr41, hr42, hr43, hr44, hr45, hr46, hr47, hr48, hr49, hr50, hr51, hr52, hne⟩ := id hm
  obtain ⟨hp, h0, h1⟩ := id hm0
  have h00 : ρ (r 0) 0 = 0 := (h0 0 (by omega)).trans (by decide)
  have h01 : ρ (r 0) 1 = 0 := (h0 1 (by omega)).trans (by decide)
  refine x_aload_n hE dX12_widest_0 rfl 0 rfl ?_
  refine x_iload_n hE dX12_widest_1 rfl 1 rfl ?_
  refine c_ip hE (r_V (st := []) hE (m_isField l D cy L σ φ ρ (a) hm h00 h01) q1565 q1567 q38 q124 q1568 hM rfl ⟨by decide, by decide, pn_X12_isField⟩ ⟨Nat.le_of_ble_eq_true rfl, Nat.le_of_ble_eq_true rfl⟩ ⟨Nat.le_of_ble_eq_true rfl, Nat.le_of_ble_eq_true rfl⟩ rfl (Nat.le_of_ble_eq_true rfl) dX12_widest_2) (fun r2 h_2 => ?_)
  refine x_widen (k' := 0) (n' := 0) (Nat.le_of_ble_eq_true rfl) (Nat.le_of_ble_eq_true rfl) ?_
  refine x_norm (y := 0) (h_2) ?_
  refine x_if_eq (tgt := 16) hE dX12_widest_5 (by decide) (fun c_5 => ?_) (fun c_5 => absurd (by decide) c_5)
  refine x_iconst (v := -1) hE dX12_widest_16 (by decide) ?_
  exact hret _ _ _ _ _ _ _ _ (-1) (Nat.le_of_ble_eq_true rfl) (Nat.le_of_ble_eq_true rfl) dX12_widest_17 (rfl) (by grind [zb])
set_option maxHeartbeats 4000000 in
set_option maxRecDepth 100000 in
theorem m_missing (l : Launch) (D : va_G) (cy : Nat → ClassId) (L : List Nat) (σ : Nat → va_E) (φ : Nat → Nat → Nat → Int32) (ρ : Nat → Nat → Int32) {m : Nat} {r : Nat → Nat} (p : Int32) (a : Int32) (b : Int32) (hm : zModel cy L σ m r) (hm0 : zMo0 φ ρ m r) : zMI l D cy yX12_missing cX12_missing 5 .int (zrm 3 0 0) [.ref m, .int p, .int a, .int b] L σ φ ρ (fun r _ => r = if p = -1 then 0 else -2) := by
  refine zMI.mk (by decide) (Nat.le_of_ble_eq_true rfl) (fun E hE hret => ?_)
  show zW E 0 0 L σ φ ρ 0 [(0, .ref m), (1, .int p), (2, .int a), (3, .int b)] []
  obtain ⟨hM, hr0, hr1, hr2, hr3, hr15, hr16, hr22, hr25, hr26, hr27, hr28, hr29, hr32, hr33, hr34, hr39, hr41, hr42, hr43, hr44, hr45, hr46, hr47, hr48, hr49, hr50, hr51, hr52, hne⟩ := id hm
  obtain ⟨hp, h0, h1⟩ := id hm0
  have h00 : ρ (r 0) 0 = 0 := (h0 0 (by omega)).trans (by decide)
  have h01 : ρ (r 0) 1 = 0 := (h0 1 (by omega)).trans (by decide)
  refine x_iload_n hE dX12_missing_0 rfl 1 rfl ?_
  refine x_iconst (v := -1) hE dX12_missing_1 (by decide) ?_
  refine x_icmp_ne (tgt := 15) hE dX12_missing_2 (by decide) (fun c_2 => ?_) (fun c_2 => ?_)
  · refine x_aload_n hE dX12_missing_15 rfl 0 rfl ?_
    refine x_iload_n hE dX12_missing_16 rfl 1 rfl ?_
    refine c_ip hE (r_V (st := []) hE (m_isPerson l D cy L σ φ ρ (p) hm h00 h01) q1840 q1842 q87 q124 q1843 hM rfl ⟨by decide, by decide, pn_X12_isPerson⟩ ⟨Nat.le_of_ble_eq_true rfl, Nat.le_of_ble_eq_true rfl⟩ ⟨Nat.le_of_ble_eq_true rfl, Nat.le_of_ble_eq_true rfl⟩ rfl (Nat.le_of_ble_eq_true rfl) dX12_missing_17) (fun r17 h_17 => ?_)
    refine x_widen (k' := 0) (n' := 0) (Nat.le_of_ble_eq_true rfl) (Nat.le_of_ble_eq_true rfl) ?_
    refine x_norm (y := 0) (h_17) ?_
    refine x_if_eq (tgt := 57) hE dX12_missing_20 (by decide) (fun c_20 => ?_) (fun c_20 => absurd (by decide) c_20)
    refine x_bipush (v := -2) hE dX12_missing_57 (by decide) ?_
    exact hret _ _ _ _ _ _ _ _ (-2) (Nat.le_of_ble_eq_true rfl) (Nat.le_of_ble_eq_true rfl) dX12_missing_59 (rfl) (by grind [zb])
  · refine x_aload_n hE dX12_missing_5 rfl 0 rfl ?_
    refine h_getr hE hM rfl inZX12 0 (by decide) q1394 rfl dX12_missing_6 ?_
    refine x_bipush (v := 10) hE dX12_missing_9 (by decide) ?_
    refine x_iconst (v := 0) hE dX12_missing_11 (by decide) ?_
    refine h_iastL (iN := 10) hE hr0 (by decide) (by decide) (by omega) dX12_missing_12 ?_
    refine x_iconst (v := 0) hE dX12_missing_13 (by decide) ?_
    exact hret _ _ _ _ _ _ _ _ (0) (Nat.le_of_ble_eq_true rfl) (Nat.le_of_ble_eq_true rfl) dX12_missing_14 (rfl) (by grind [zb])
set_option maxHeartbeats 4000000 in
set_option maxRecDepth 100000 in
theorem m_forecast (l : Launch) (D : va_G) (cy : Nat → ClassId) (L : List Nat) (σ : Nat → va_E) (φ : Nat → Nat → Nat → Int32) (ρ : Nat → Nat → Int32) {m : Nat} {r : Nat → Nat} (f : Int32) (h : Int32) (hm : zModel cy L σ m r) (hm0 : zMo0 φ ρ m r) : zMI l D cy yX12_forecast cX12_forecast 3 .int (zrm 3 0 0) [.ref m, .int f, .int h] L σ φ ρ (fun r _ => r = if f = -1 then 0 else if 0 ≤ f ∧ f ≤ 9 then 1 else -2) := by
  refine zMI.mk (by decide) (Nat.le_of_ble_eq_true rfl) (fun E hE hret => ?_)
  show zW E 0 0 L σ φ ρ 0 [(0, .ref m), (1, .int f), (2, .int h)] []
  obtain ⟨hM, hr0, hr1, hr2, hr3, hr15, hr16, hr22, hr25, hr26, hr27, hr28, hr29, hr32, hr33, hr34, hr39, hr41, hr42, hr43, hr44, hr45, hr46, hr47, hr48, hr49, hr50, hr51, hr52, hne⟩ := id hm
  obtain ⟨hp, h0, h1⟩ := id hm0
  have h00 : ρ (r 0) 0 = 0 := (h0 0 (by omega)).trans (by decide)
  have h01 : ρ (r 0) 1 = 0 := (h0 1 (by omega)).trans (by decide)
  refine x_iload_n hE dX12_forecast_0 rfl 1 rfl ?_
  refine x_iconst (v := -1) hE dX12_forecast_1 (by decide) ?_
  refine x_icmp_ne (tgt := 15) hE dX12_forecast_2 (by decide) (fun c_2 => ?_) (fun c_2 => ?_)
  · refine x_iload_n hE dX12_forecast_15 rfl 1 rfl ?_
    refine x_iconst (v := 0) hE dX12_forecast_16 (by decide) ?_
    refine x_bipush (v := 9) hE dX12_forecast_17 (by decide) ?_
    refine c_ip hE (r_S (st := []) hE (m_isIn l D cy L σ φ ρ (f) (0) (9)) q1558 q1559 q124 q1560 ⟨by decide, by decide, pn_X12_isIn⟩ ⟨Nat.le_of_ble_eq_true rfl, Nat.le_of_ble_eq_true rfl⟩ ⟨Nat.le_of_ble_eq_true rfl, Nat.le_of_ble_eq_true rfl⟩ rfl (Nat.le_of_ble_eq_true rfl) dX12_forecast_19) (fun r19 h19 => ?_)
    refine x_widen (k' := 0) (n' := 0) (Nat.le_of_ble_eq_true rfl) (Nat.le_of_ble_eq_true rfl) ?_
    refine x_if_eq (tgt := 37) hE dX12_forecast_22 (by decide) (fun c_22 => ?_) (fun c_22 => ?_)
    · refine x_bipush (v := -2) hE dX12_forecast_37 (by decide) ?_
      exact hret _ _ _ _ _ _ _ _ (-2) (Nat.le_of_ble_eq_true rfl) (Nat.le_of_ble_eq_true rfl) dX12_forecast_39 (rfl) (by grind [zb])
    · refine x_aload_n hE dX12_forecast_25 rfl 0 rfl ?_
      refine h_getr hE hM rfl inZX12 0 (by decide) q1394 rfl dX12_forecast_26 ?_
      refine x_bipush (v := 11) hE dX12_forecast_29 (by decide) ?_
      refine h_ialdL (iN := 11) hE hr0 (by decide) (by decide) (by omega) dX12_forecast_31 ?_
      refine x_norm (y := 0) ((h0 11 (by omega)).trans (by decide)) ?_
      refine x_bipush (v := 12) hE dX12_forecast_32 (by decide) ?_
      refine x_icmp_ne (tgt := 40) hE dX12_forecast_34 (by decide) (fun c_34 => ?_) (fun c_34 => absurd c_34 (by decide))
      refine x_aload_n hE dX12_forecast_40 rfl 0 rfl ?_
      refine h_getr hE hM rfl inZX12 0 (by decide) q1394 rfl dX12_forecast_41 ?_
      refine x_sipush (v := 132) hE dX12_forecast_44 (by decide) ?_
      refine x_iconst (v := 2) hE dX12_forecast_47 (by decide) ?_
      refine x_aload_n hE dX12_forecast_48 rfl 0 rfl ?_
      refine h_getr hE hM rfl inZX12 0 (by decide) q1394 rfl dX12_forecast_49 ?_
      refine x_bipush (v := 11) hE dX12_forecast_52 (by decide) ?_
      refine h_ialdL (iN := 11) hE hr0 (by decide) (by decide) (by omega) dX12_forecast_54 ?_
      refine x_norm (y := 0) ((h0 11 (by omega)).trans (by decide)) ?_
      refine x_imul hE dX12_forecast_55 ?_
      refine x_norm (y := 0) (by decide) ?_
      refine x_iadd hE dX12_forecast_56 ?_
      refine x_norm (y := 132) (by decide) ?_
      refine x_iload_n hE dX12_forecast_57 rfl 1 rfl ?_
      refine h_iastL (iN := 132) hE hr0 (by decide) (by decide) (by omega) dX12_forecast_58 ?_
      refine x_aload_n hE dX12_forecast_59 rfl 0 rfl ?_
      refine h_getr hE hM rfl inZX12 0 (by decide) q1394 rfl dX12_forecast_60 ?_
      refine x_sipush (v := 132) hE dX12_forecast_63 (by decide) ?_
      refine x_iconst (v := 2) hE dX12_forecast_66 (by decide) ?_
      refine x_aload_n hE dX12_forecast_67 rfl 0 rfl ?_
      refine h_getr hE hM rfl inZX12 0 (by decide) q1394 rfl dX12_forecast_68 ?_
      refine x_bipush (v := 11) hE dX12_forecast_71 (by decide) ?_
      refine h_ialdL (iN := 11) hE hr0 (by decide) (by decide) (by omega) dX12_forecast_73 ?_
      refine x_norm (y := 0) (by simp [va_up, upd]; exact (h0 11 (by omega)).trans (by decide)) ?_
      refine x_imul hE dX12_forecast_74 ?_
      refine x_norm (y := 0) (by decide) ?_
      refine x_iadd hE dX12_forecast_75 ?_
      refine x_norm (y := 132) (by decide) ?_
      refine x_iconst (v := 1) hE dX12_forecast_76 (by decide) ?_
      refine x_iadd hE dX12_forecast_77 ?_
      refine x_norm (y := 133) (by decide) ?_
      refine x_iload_n hE dX12_forecast_78 rfl 2 rfl ?_
      refine x_if_eq (tgt := 86) hE dX12_forecast_79 (by decide) (fun c_79 => ?_) (fun c_79 => ?_)
      · refine x_iconst (v := 0) hE dX12_forecast_86 (by decide) ?_
        refine h_iastL (iN := 133) hE hr0 (by decide) (by decide) (by omega) dX12_forecast_87 ?_
        refine x_aload_n hE dX12_forecast_88 rfl 0 rfl ?_
        refine h_getr hE hM rfl inZX12 0 (by decide) q1394 rfl dX12_forecast_89 ?_
        refine x_bipush (v := 11) hE dX12_forecast_92 (by decide) ?_
        refine x_dup2 hE dX12_forecast_94 rfl rfl ?_
        refine h_ialdL (iN := 11) hE hr0 (by decide) (by decide) (by omega) dX12_forecast_95 ?_
        refine x_norm (y := 0) (by simp [va_up, upd]; exact (h0 11 (by omega)).trans (by decide)) ?_
        refine x_iconst (v := 1) hE dX12_forecast_96 (by decide) ?_
        refine x_iadd hE dX12_forecast_97 ?_
        refine x_norm (y := 1) (by decide) ?_
        refine h_iastL (iN := 11) hE hr0 (by decide) (by decide) (by omega) dX12_forecast_98 ?_
        refine x_aload_n hE dX12_forecast_99 rfl 0 rfl ?_
        refine h_getr hE hM rfl inZX12 0 (by decide) q1394 rfl dX12_forecast_100 ?_
        refine x_bipush (v := 11) hE dX12_forecast_103 (by decide) ?_
        refine h_ialdL (iN := 11) hE hr0 (by decide) (by decide) (by omega) dX12_forecast_105 ?_
        refine x_norm (y := 1) (by simp [va_up, upd]) ?_
        exact hret _ _ _ _ _ _ _ _ (1) (Nat.le_of_ble_eq_true rfl) (Nat.le_of_ble_eq_true rfl) dX12_forecast_106 (rfl) (by grind [zb])
      · refine x_iconst (v := 1) hE dX12_forecast_82 (by decide) ?_
        refine x_goto (tgt := 87) hE dX12_forecast_83 (by decide) ?_
        refine h_iastL (iN := 133) hE hr0 (by decide) (by decide) (by omega) dX12_forecast_87 ?_
        refine x_aload_n hE dX12_forecast_88 rfl 0 rfl ?_
        refine h_getr hE hM rfl inZX12 0 (by decide) q1394 rfl dX12_forecast_89 ?_
        refine x_bipush (v := 11) hE dX12_forecast_92 (by decide) ?_
        refine x_dup2 hE dX12_forecast_94 rfl rfl ?_
        refine h_ialdL (iN := 11) hE hr0 (by decide) (by decide) (by omega) dX12_forecast_95 ?_
        refine x_norm (y := 0) (by simp [va_up, upd]; exact (h0 11 (by omega)).trans (by decide)) ?_
        refine x_iconst (v := 1) hE dX12_forecast_96 (by decide) ?_
        refine x_iadd hE dX12_forecast_97 ?_
        refine x_norm (y := 1) (by decide) ?_
        refine h_iastL (iN := 11) hE hr0 (by decide) (by decide) (by omega) dX12_forecast_98 ?_
        refine x_aload_n hE dX12_forecast_99 rfl 0 rfl ?_
        refine h_getr hE hM rfl inZX12 0 (by decide) q1394 rfl dX12_forecast_100 ?_
        refine x_bipush (v := 11) hE dX12_forecast_103 (by decide) ?_
        refine h_ialdL (iN := 11) hE hr0 (by decide) (by decide) (by omega) dX12_forecast_105 ?_
        refine x_norm (y := 1) (by simp [va_up, upd]) ?_
        exact hret _ _ _ _ _ _ _ _ (1) (Nat.le_of_ble_eq_true rfl) (Nat.le_of_ble_eq_true rfl) dX12_forecast_106 (rfl) (by grind [zb])
  · refine x_aload_n hE dX12_forecast_5 rfl 0 rfl ?_
    refine h_getr hE hM rfl inZX12 0 (by decide) q1394 rfl dX12_forecast_6 ?_
    refine x_bipush (v := 11) hE dX12_forecast_9 (by decide) ?_
    refine x_iconst (v := 0) hE dX12_forecast_11 (by decide) ?_
    refine h_iastL (iN := 11) hE hr0 (by decide) (by decide) (by omega) dX12_forecast_12 ?_
    refine x_iconst (v := 0) hE dX12_forecast_13 (by decide) ?_
    exact hret _ _ _ _ _ _ _ _ (0) (Nat.le_of_ble_eq_true rfl) (Nat.le_of_ble_eq_true rfl) dX12_forecast_14 (rfl) (by grind [zb])
set_option maxHeartbeats 4000000 in
set_option maxRecDepth 100000 in
theorem m_offer (l : Launch) (D : va_G) (cy : Nat → ClassId) (L : List Nat) (σ : Nat → va_E) (φ : Nat → Nat → Nat → Int32) (ρ : Nat → Nat → Int32) {m : Nat} {r : Nat → Nat} (b : Int32) (p : Int32) (d : Int32) (hm : zModel cy L σ m r) (hm0 : zMo0 φ ρ m r) : zMI l D cy yX12_offer cX12_offer 5 .int (zrm 3 0 0) [.ref m, .int b, .int p, .int d] L σ φ ρ (fun r _ => r = if d = 0 then 0 else if (0 ≤ p ∧ p ≤ 99) ∧ (1 ≤ d ∧ d ≤ 99) then 1 else -1) := by
  refine zMI.mk (by decide) (Nat.le_of_ble_eq_true rfl) (fun E hE hret => ?_)
  show zW E 0 0 L σ φ ρ 0 [(0, .ref m), (1, .int b), (2, .int p), (3, .int d)] []
  obtain ⟨hM, hr0, hr1, hr2, hr3, hr15, hr16, hr22, hr25, hr26, hr27, hr28, hr29, hr32, hr33, hr34, hr39, hr41, hr42, hr43, hr44, hr45, hr46, hr47, hr48, hr49, hr50, hr51, hr52, hne⟩ := id hm
  obtain ⟨hp, h0, h1⟩ := id hm0
  have h00 : ρ (r 0) 0 = 0 := (h0 0 (by omega)).trans (by decide)
  have h01 : ρ (r 0) 1 = 0 := (h0 1 (by omega)).trans (by decide)
  refine x_iload_n hE dX12_offer_0 rfl 3 rfl ?_
  refine x_if_ne (tgt := 14) hE dX12_offer_1 (by decide) (fun c_1 => ?_) (fun c_1 => ?_)
  · refine x_iload_n hE dX12_offer_14 rfl 2 rfl ?_
    refine x_iconst (v := 0) hE dX12_offer_15 (by decide) ?_
    refine x_bipush (v := 99) hE dX12_offer_16 (by decide) ?_
    refine c_ip hE (r_S (st := []) hE (m_isIn l D cy L σ φ ρ (p) (0) (99)) q1558 q1559 q124 q1560 ⟨by decide, by decide, pn_X12_isIn⟩ ⟨Nat.le_of_ble_eq_true rfl, Nat.le_of_ble_eq_true rfl⟩ ⟨Nat.le_of_ble_eq_true rfl, Nat.le_of_ble_eq_true rfl⟩ rfl (Nat.le_of_ble_eq_true rfl) dX12_offer_18) (fun r18 h18 => ?_)
    refine x_widen (k' := 0) (n' := 0) (Nat.le_of_ble_eq_true rfl) (Nat.le_of_ble_eq_true rfl) ?_
    refine x_if_eq (tgt := 46) hE dX12_offer_21 (by decide) (fun c_21 => ?_) (fun c_21 => ?_)
    · refine x_iconst (v := -1) hE dX12_offer_46 (by decide) ?_
      exact hret _ _ _ _ _ _ _ _ (-1) (Nat.le_of_ble_eq_true rfl) (Nat.le_of_ble_eq_true rfl) dX12_offer_47 (rfl) (by grind [zb])
    · refine x_iload_n hE dX12_offer_24 rfl 3 rfl ?_
      refine x_iconst (v := 1) hE dX12_offer_25 (by decide) ?_
      refine x_bipush (v := 99) hE dX12_offer_26 (by decide) ?_
      refine c_ip hE (r_S (st := []) hE (m_isIn l D cy L σ φ ρ (d) (1) (99)) q1558 q1559 q124 q1560 ⟨by decide, by decide, pn_X12_isIn⟩ ⟨Nat.le_of_ble_eq_true rfl, Nat.le_of_ble_eq_true rfl⟩ ⟨Nat.le_of_ble_eq_true rfl, Nat.le_of_ble_eq_true rfl⟩ rfl (Nat.le_of_ble_eq_true rfl) dX12_offer_28) (fun r28 h28 => ?_)
      refine x_widen (k' := 0) (n' := 0) (Nat.le_of_ble_eq_true rfl) (Nat.le_of_ble_eq_true rfl) ?_
      refine x_if_eq (tgt := 46) hE dX12_offer_31 (by decide) (fun c_31 => ?_) (fun c_31 => ?_)
      · refine x_iconst (v := -1) hE dX12_offer_46 (by decide) ?_
        exact hret _ _ _ _ _ _ _ _ (-1) (Nat.le_of_ble_eq_true rfl) (Nat.le_of_ble_eq_true rfl) dX12_offer_47 (rfl) (by grind [zb])
      · refine x_aload_n hE dX12_offer_34 rfl 0 rfl ?_
        refine h_getr hE hM rfl inZX12 0 (by decide) q1394 rfl dX12_offer_35 ?_
        refine x_bipush (v := 12) hE dX12_offer_38 (by decide) ?_
        refine h_ialdL (iN := 12) hE hr0 (by decide) (by decide) (by omega) dX12_offer_40 ?_
        refine x_norm (y := 0) ((h0 12 (by omega)).trans (by decide)) ?_
        refine x_bipush (v := 10) hE dX12_offer_41 (by decide) ?_
        refine x_icmp_ne (tgt := 48) hE dX12_offer_43 (by decide) (fun c_43 => ?_) (fun c_43 => absurd c_43 (by decide))
        refine x_sipush (v := 156) hE dX12_offer_48 (by decide) ?_
        refine x_iconst (v := 3) hE dX12_offer_51 (by decide) ?_
        refine x_aload_n hE dX12_offer_52 rfl 0 rfl ?_
        refine h_getr hE hM rfl inZX12 0 (by decide) q1394 rfl dX12_offer_53 ?_
        refine x_bipush (v := 12) hE dX12_offer_56 (by decide) ?_
        refine h_ialdL (iN := 12) hE hr0 (by decide) (by decide) (by omega) dX12_offer_58 ?_
        refine x_norm (y := 0) ((h0 12 (by omega)).trans (by decide)) ?_
        refine x_imul hE dX12_offer_59 ?_
        refine x_norm (y := 0) (by decide) ?_
        refine x_iadd hE dX12_offer_60 ?_
        refine x_norm (y := 156) (by decide) ?_
        refine x_istore (lv' := [(4, .int 156), (0, .ref m), (1, .int b), (2, .int p), (3, .int d)]) hE dX12_offer_61 (by decide) rfl ?_
        refine x_aload_n hE dX12_offer_63 rfl 1 rfl ?_
        refine h_getr hE hM rfl inZX12 0 (by decide) q1394 rfl dX12_offer_64 ?_
        refine x_iload hE dX12_offer_67 0 rfl ?_
        refine x_iload_n hE dX12_offer_69 rfl 2 rfl ?_
        refine x_if_eq (tgt := 77) hE dX12_offer_70 (by decide) (fun c_70 => ?_) (fun c_70 => ?_)
        · refine x_iconst (v := 0) hE dX12_offer_77 (by decide) ?_
          refine h_iastL (iN := 156) hE hr0 (by decide) (by decide) (by omega) dX12_offer_78 ?_
          refine x_aload_n hE dX12_offer_79 rfl 1 rfl ?_
          refine h_getr hE hM rfl inZX12 0 (by decide) q1394 rfl dX12_offer_80 ?_
          refine x_iload hE dX12_offer_83 0 rfl ?_
          refine x_iconst (v := 1) hE dX12_offer_85 (by decide) ?_
          refine x_iadd hE dX12_offer_86 ?_
          refine x_norm (y := 157) (by decide) ?_
          refine x_iload_n hE dX12_offer_87 rfl 3 rfl ?_
          refine h_iastL (iN := 157) hE hr0 (by decide) (by decide) (by omega) dX12_offer_88 ?_
          refine x_aload_n hE dX12_offer_89 rfl 1 rfl ?_
          refine h_getr hE hM rfl inZX12 0 (by decide) q1394 rfl dX12_offer_90 ?_
          refine x_iload hE dX12_offer_93 0 rfl ?_
          refine x_iconst (v := 2) hE dX12_offer_95 (by decide) ?_
          refine x_iadd hE dX12_offer_96 ?_
          refine x_norm (y := 158) (by decide) ?_
          refine x_iload_n hE dX12_offer_97 rfl 4 rfl ?_
          refine h_iastL (iN := 158) hE hr0 (by decide) (by decide) (by omega) dX12_offer_98 ?_
          refine x_aload_n hE dX12_offer_99 rfl 1 rfl ?_
          refine h_getr hE hM rfl inZX12 0 (by decide) q1394 rfl dX12_offer_100 ?_
          refine x_bipush (v := 12) hE dX12_offer_103 (by decide) ?_
          refine x_dup2 hE dX12_offer_105 rfl rfl ?_
          refine h_ialdL (iN := 12) hE hr0 (by decide) (by decide) (by omega) dX12_offer_106 ?_
          refine x_norm (y := 0) (by simp [va_up, upd]; exact (h0 12 (by omega)).trans (by decide)) ?_
          refine x_iconst (v := 1) hE dX12_offer_107 (by decide) ?_
          refine x_iadd hE dX12_offer_108 ?_
          refine x_norm (y := 1) (by decide) ?_
          refine h_iastL (iN := 12) hE hr0 (by decide) (by decide) (by omega) dX12_offer_109 ?_
          refine x_aload_n hE dX12_offer_110 rfl 1 rfl ?_
          refine h_getr hE hM rfl inZX12 0 (by decide) q1394 rfl dX12_offer_111 ?_
          refine x_bipush (v := 12) hE dX12_offer_114 (by decide) ?_
          refine h_ialdL (iN := 12) hE hr0 (by decide) (by decide) (by omega) dX12_offer_116 ?_
          refine x_norm (y := 1) (by simp [va_up, upd]) ?_
          exact hret _ _ _ _ _ _ _ _ (1) (Nat.le_of_ble_eq_true rfl) (Nat.le_of_ble_eq_true rfl) dX12_offer_117 (rfl) (by grind [zb])
        · refine x_iconst (v := 1) hE dX12_offer_73 (by decide) ?_
          refine x_goto (tgt := 78) hE dX12_offer_74 (by decide) ?_
          refine h_iastL (iN := 156) hE hr0 (by decide) (by decide) (by omega) dX12_offer_78 ?_
          refine x_aload_n hE dX12_offer_79 rfl 1 rfl ?_
          refine h_getr hE hM rfl inZX12 0 (by decide) q1394 rfl dX12_offer_80 ?_
          refine x_iload hE dX12_offer_83 0 rfl ?_
          refine x_iconst (v := 1) hE dX12_offer_85 (by decide) ?_
          refine x_iadd hE dX12_offer_86 ?_
          refine x_norm (y := 157) (by decide) ?_
          refine x_iload_n hE dX12_offer_87 rfl 3 rfl ?_
          refine h_iastL (iN := 157) hE hr0 (by decide) (by decide) (by omega) dX12_offer_88 ?_
          refine x_aload_n hE dX12_offer_89 rfl 1 rfl ?_
          refine h_getr hE hM rfl inZX12 0 (by decide) q1394 rfl dX12_offer_90 ?_
          refine x_iload hE dX12_offer_93 0 rfl ?_
          refine x_iconst (v := 2) hE dX12_offer_95 (by decide) ?_
          refine x_iadd hE dX12_offer_96 ?_
          refine x_norm (y := 158) (by decide) ?_
          refine x_iload_n hE dX12_offer_97 rfl 4 rfl ?_
          refine h_iastL (iN := 158) hE hr0 (by decide) (by decide) (by omega) dX12_offer_98 ?_
          refine x_aload_n hE dX12_offer_99 rfl 1 rfl ?_
          refine h_getr hE hM rfl inZX12 0 (by decide) q1394 rfl dX12_offer_100 ?_
          refine x_bipush (v := 12) hE dX12_offer_103 (by decide) ?_
          refine x_dup2 hE dX12_offer_105 rfl rfl ?_
          refine h_ialdL (iN := 12) hE hr0 (by decide) (by decide) (by omega) dX12_offer_106 ?_
          refine x_norm (y := 0) (by simp [va_up, upd]; exact (h0 12 (by omega)).trans (by decide)) ?_
          refine x_iconst (v := 1) hE dX12_offer_107 (by decide) ?_
          refine x_iadd hE dX12_offer_108 ?_
          refine x_norm (y := 1) (by decide) ?_
          refine h_iastL (iN := 12) hE hr0 (by decide) (by decide) (by omega) dX12_offer_109 ?_
          refine x_aload_n hE dX12_offer_110 rfl 1 rfl ?_
          refine h_getr hE hM rfl inZX12 0 (by decide) q1394 rfl dX12_offer_111 ?_
          refine x_bipush (v := 12) hE dX12_offer_114 (by decide) ?_
          refine h_ialdL (iN := 12) hE hr0 (by decide) (by decide) (by omega) dX12_offer_116 ?_
          refine x_norm (y := 1) (by simp [va_up, upd]) ?_
          exact hret _ _ _ _ _ _ _ _ (1) (Nat.le_of_ble_eq_true rfl) (Nat.le_of_ble_eq_true rfl) dX12_offer_117 (rfl) (by grind [zb])
  · refine x_aload_n hE dX12_offer_4 rfl 0 rfl ?_
    refine h_getr hE hM rfl inZX12 0 (by decide) q1394 rfl dX12_offer_5 ?_
    refine x_bipush (v := 12) hE dX12_offer_8 (by decide) ?_
    refine x_iconst (v := 0) hE dX12_offer_10 (by decide) ?_
    refine h_iastL (iN := 12) hE hr0 (by decide) (by decide) (by omega) dX12_offer_11 ?_
    refine x_iconst (v := 0) hE dX12_offer_12 (by decide) ?_
    exact hret _ _ _ _ _ _ _ _ (0) (Nat.le_of_ble_eq_true rfl) (Nat.le_of_ble_eq_true rfl) dX12_offer_13 (rfl) (by grind [zb])
set_option maxHeartbeats 4000000 in
set_option maxRecDepth 100000 in
theorem m_water (l : Launch) (D : va_G) (cy : Nat → ClassId) (L : List Nat) (σ : Nat → va_E) (φ : Nat → Nat → Nat → Int32) (ρ : Nat → Nat → Int32) {m : Nat} {r : Nat → Nat}  (hm : zModel cy L σ m r) (hm0 : zMo0 φ ρ m r) : zMI l D cy yX12_water cX12_water 3 .int (zrm 3 0 0) [.ref m] L σ φ ρ (fun r _ => r = 0) := by
  refine zMI.mk (by decide) (Nat.le_of_ble_eq_true rfl) (fun E hE hret => ?_)
  show zW E 0 0 L σ φ ρ 0 [(0, .ref m)] []
  obtain ⟨hM, hr0, hr1, hr2, hr3, hr15, hr16, hr22, hr25, hr26, hr27, hr28, hr29, hr32, hr33, hr34, hr39, hr41, hr42, hr43, hr44, hr45, hr46, hr47, hr48, hr49, hr50, hr51, hr52, hne⟩ := id hm
  obtain ⟨hp, h0, h1⟩ := id hm0
  have h00 : ρ (r 0) 0 = 0 := (h0 0 (by omega)).trans (by decide)
  have h01 : ρ (r 0) 1 = 0 := (h0 1 (by omega)).trans (by decide)
  refine x_aload_n hE dX12_water_0 rfl 0 rfl ?_
  refine h_getr hE hM rfl inZX12 0 (by decide) q1394 rfl dX12_water_1 ?_
  refine x_iconst (v := 3) hE dX12_water_4 (by decide) ?_
  refine h_ialdL (iN := 3) hE hr0 (by decide) (by decide) (by omega) dX12_water_5 ?_
  refine x_norm (y := 0) ((h0 3 (by omega)).trans (by decide)) ?_
  refine x_aload_n hE dX12_water_6 rfl 0 rfl ?_
  refine h_getr hE hM rfl inZX12 0 (by decide) q1394 rfl dX12_water_7 ?_
  refine x_iconst (v := 5) hE dX12_water_10 (by decide) ?_
  refine h_ialdL (iN := 5) hE hr0 (by decide) (by decide) (by omega) dX12_water_11 ?_
  refine x_norm (y := 0) ((h0 5 (by omega)).trans (by decide)) ?_
  refine x_iadd hE dX12_water_12 ?_
  refine x_norm (y := 0) (by decide) ?_
  refine x_aload_n hE dX12_water_13 rfl 0 rfl ?_
  refine h_getr hE hM rfl inZX12 0 (by decide) q1394 rfl dX12_water_14 ?_
  refine x_iconst (v := 4) hE dX12_water_17 (by decide) ?_
  refine h_ialdL (iN := 4) hE hr0 (by decide) (by decide) (by omega) dX12_water_18 ?_
  refine x_norm (y := 0) ((h0 4 (by omega)).trans (by decide)) ?_
  refine x_isub hE dX12_water_19 ?_
  refine x_norm (y := 0) (by decide) ?_
  refine x_istore_n (lv' := [(1, .int 0), (0, .ref m)]) hE dX12_water_20 rfl (by decide) rfl ?_
  refine x_iconst (v := 0) hE dX12_water_21 (by decide) ?_
  refine x_istore_n (lv' := [(2, .int 0), (1, .int 0), (0, .ref m)]) hE dX12_water_22 rfl (by decide) rfl ?_
  refine x_iload_n hE dX12_water_23 rfl 0 rfl ?_
  refine x_aload_n hE dX12_water_24 rfl 2 rfl ?_
  refine h_getr hE hM rfl inZX12 0 (by decide) q1394 rfl dX12_water_25 ?_
  refine x_iconst (v := 1) hE dX12_water_28 (by decide) ?_
  refine h_ialdL (iN := 1) hE hr0 (by decide) (by decide) (by omega) dX12_water_29 ?_
  refine x_norm (y := 0) ((h0 1 (by omega)).trans (by decide)) ?_
  refine x_icmp_ge (tgt := 48) hE dX12_water_30 (by decide) (fun c_30 => ?_) (fun c_30 => absurd (by decide) c_30)
  refine x_iconst (v := 0) hE dX12_water_48 (by decide) ?_
  refine x_istore_n (lv' := [(2, .int 0), (1, .int 0), (0, .ref m)]) hE dX12_water_49 rfl (by decide) rfl ?_
  refine x_iload_n hE dX12_water_50 rfl 0 rfl ?_
  refine x_aload_n hE dX12_water_51 rfl 2 rfl ?_
  refine h_getr hE hM rfl inZX12 0 (by decide) q1394 rfl dX12_water_52 ?_
  refine x_iconst (v := 0) hE dX12_water_55 (by decide) ?_
  refine h_ialdL (iN := 0) hE hr0 (by decide) (by decide) (by omega) dX12_water_56 ?_
  refine x_norm (y := 0) ((h0 0 (by omega)).trans (by decide)) ?_
  refine x_icmp_ge (tgt := 75) hE dX12_water_57 (by decide) (fun c_57 => ?_) (fun c_57 => absurd (by decide) c_57)
  refine x_iload_n hE dX12_water_75 rfl 1 rfl ?_
  exact hret _ _ _ _ _ _ _ _ (0) (Nat.le_of_ble_eq_true rfl) (Nat.le_of_ble_eq_true rfl) dX12_water_76 (rfl) (by grind [zb])
