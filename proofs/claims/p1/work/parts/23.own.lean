theorem dX11_bound_0 : decode cX11_bound 0 = .ok (.aload_n 0, 1) := by decide +kernel
theorem dX11_bound_1 : decode cX11_bound 1 = .ok (.getfield 10, 3) := by decide +kernel
theorem dX11_bound_4 : decode cX11_bound 4 = .ok (.getfield 343, 3) := by decide +kernel
theorem dX11_bound_7 : decode cX11_bound 7 = .ok (.astore_n 1, 1) := by decide +kernel
theorem dX11_bound_8 : decode cX11_bound 8 = .ok (.iconst 0, 1) := by decide +kernel
theorem dX11_bound_9 : decode cX11_bound 9 = .ok (.istore_n 2, 1) := by decide +kernel
theorem dX11_bound_10 : decode cX11_bound 10 = .ok (.iconst 1, 1) := by decide +kernel
theorem dX11_bound_11 : decode cX11_bound 11 = .ok (.istore_n 3, 1) := by decide +kernel
theorem dX11_bound_12 : decode cX11_bound 12 = .ok (.iload_n 3, 1) := by decide +kernel
theorem dX11_bound_13 : decode cX11_bound 13 = .ok (.bipush 10, 2) := by decide +kernel
theorem dX11_bound_15 : decode cX11_bound 15 = .ok (.if_icmp .gt 36, 3) := by decide +kernel
theorem dX11_bound_18 : decode cX11_bound 18 = .ok (.aload_n 1, 1) := by decide +kernel
theorem dX11_bound_19 : decode cX11_bound 19 = .ok (.iload_n 3, 1) := by decide +kernel
theorem dX11_bound_20 : decode cX11_bound 20 = .ok (.invokevirtual 384, 3) := by decide +kernel
theorem dX11_bound_23 : decode cX11_bound 23 = .ok (.aload_n 1, 1) := by decide +kernel
theorem dX11_bound_24 : decode cX11_bound 24 = .ok (.iload_n 3, 1) := by decide +kernel
theorem dX11_bound_25 : decode cX11_bound 25 = .ok (.invokevirtual 387, 3) := by decide +kernel
theorem dX11_bound_28 : decode cX11_bound 28 = .ok (.iadd, 1) := by decide +kernel
theorem dX11_bound_29 : decode cX11_bound 29 = .ok (.aload_n 1, 1) := by decide +kernel
theorem dX11_bound_30 : decode cX11_bound 30 = .ok (.iload_n 2, 1) := by decide +kernel
theorem dX11_bound_31 : decode cX11_bound 31 = .ok (.invokevirtual 384, 3) := by decide +kernel
theorem dX11_bound_34 : decode cX11_bound 34 = .ok (.aload_n 1, 1) := by decide +kernel
theorem dX11_bound_35 : decode cX11_bound 35 = .ok (.iload_n 2, 1) := by decide +kernel
theorem dX11_bound_36 : decode cX11_bound 36 = .ok (.invokevirtual 387, 3) := by decide +kernel
theorem dX11_bound_39 : decode cX11_bound 39 = .ok (.iadd, 1) := by decide +kernel
theorem dX11_bound_40 : decode cX11_bound 40 = .ok (.if_icmp .ge 5, 3) := by decide +kernel
theorem dX11_bound_45 : decode cX11_bound 45 = .ok (.iinc 3 1, 3) := by decide +kernel
theorem dX11_bound_48 : decode cX11_bound 48 = .ok (.goto (-36), 3) := by decide +kernel
theorem dX11_bound_51 : decode cX11_bound 51 = .ok (.iload_n 2, 1) := by decide +kernel
theorem dX11_bound_52 : decode cX11_bound 52 = .ok (.ireturn, 1) := by decide +kernel
theorem dX11_errors_0 : decode cX11_errors 0 = .ok (.iload_n 1, 1) := by decide +kernel
theorem dX11_errors_1 : decode cX11_errors 1 = .ok (.iconst 0, 1) := by decide +kernel
theorem dX11_errors_2 : decode cX11_errors 2 = .ok (.bipush 10, 2) := by decide +kernel
theorem dX11_errors_4 : decode cX11_errors 4 = .ok (.invokestatic 64, 3) := by decide +kernel
theorem dX11_errors_7 : decode cX11_errors 7 = .ok (.ifCond .ne 5, 3) := by decide +kernel
theorem dX11_errors_10 : decode cX11_errors 10 = .ok (.iconst (-1), 1) := by decide +kernel
theorem dX11_errors_11 : decode cX11_errors 11 = .ok (.ireturn, 1) := by decide +kernel
theorem dX11_errors_12 : decode cX11_errors 12 = .ok (.iload_n 2, 1) := by decide +kernel
theorem dX11_errors_13 : decode cX11_errors 13 = .ok (.ifCond .eq 17, 3) := by decide +kernel
theorem dX11_errors_16 : decode cX11_errors 16 = .ok (.aload_n 0, 1) := by decide +kernel
theorem dX11_errors_17 : decode cX11_errors 17 = .ok (.getfield 10, 3) := by decide +kernel
theorem dX11_errors_20 : decode cX11_errors 20 = .ok (.getfield 343, 3) := by decide +kernel
theorem dX11_errors_23 : decode cX11_errors 23 = .ok (.iload_n 1, 1) := by decide +kernel
theorem dX11_errors_24 : decode cX11_errors 24 = .ok (.invokevirtual 384, 3) := by decide +kernel
theorem dX11_errors_27 : decode cX11_errors 27 = .ok (.goto 14, 3) := by decide +kernel
theorem dX11_errors_30 : decode cX11_errors 30 = .ok (.aload_n 0, 1) := by decide +kernel
theorem dX11_errors_31 : decode cX11_errors 31 = .ok (.getfield 10, 3) := by decide +kernel
theorem dX11_errors_34 : decode cX11_errors 34 = .ok (.getfield 343, 3) := by decide +kernel
theorem dX11_errors_37 : decode cX11_errors 37 = .ok (.iload_n 1, 1) := by decide +kernel
theorem dX11_errors_38 : decode cX11_errors 38 = .ok (.invokevirtual 387, 3) := by decide +kernel
theorem dX11_errors_41 : decode cX11_errors 41 = .ok (.ireturn, 1) := by decide +kernel
theorem dX11_filling_0 : decode cX11_filling 0 = .ok (.aload_n 0, 1) := by decide +kernel
theorem dX11_filling_1 : decode cX11_filling 1 = .ok (.getfield 10, 3) := by decide +kernel
theorem dX11_filling_4 : decode cX11_filling 4 = .ok (.getfield 60, 3) := by decide +kernel
theorem dX11_filling_7 : decode cX11_filling 7 = .ok (.iload_n 1, 1) := by decide +kernel
theorem dX11_filling_8 : decode cX11_filling 8 = .ok (.invokevirtual 147, 3) := by decide +kernel
theorem dX11_filling_11 : decode cX11_filling 11 = .ok (.ifCond .eq 45, 3) := by decide +kernel
theorem dX11_filling_56 : decode cX11_filling 56 = .ok (.ldc2_w 367, 3) := by decide +kernel
theorem dX11_filling_59 : decode cX11_filling 59 = .ok (.lreturn, 1) := by decide +kernel
theorem dX11_forecast_0 : decode cX11_forecast 0 = .ok (.aload_n 0, 1) := by decide +kernel
theorem dX11_forecast_1 : decode cX11_forecast 1 = .ok (.getfield 10, 3) := by decide +kernel
theorem dX11_forecast_4 : decode cX11_forecast 4 = .ok (.getfield 343, 3) := by decide +kernel
theorem dX11_forecast_7 : decode cX11_forecast 7 = .ok (.astore_n 3, 1) := by decide +kernel
theorem dX11_forecast_8 : decode cX11_forecast 8 = .ok (.iload_n 1, 1) := by decide +kernel
theorem dX11_forecast_9 : decode cX11_forecast 9 = .ok (.iconst (-1), 1) := by decide +kernel
theorem dX11_forecast_10 : decode cX11_forecast 10 = .ok (.if_icmp .ne 10, 3) := by decide +kernel
theorem dX11_forecast_13 : decode cX11_forecast 13 = .ok (.aload_n 3, 1) := by decide +kernel
theorem dX11_forecast_14 : decode cX11_forecast 14 = .ok (.iconst 0, 1) := by decide +kernel
theorem dX11_forecast_15 : decode cX11_forecast 15 = .ok (.putfield 377, 3) := by decide +kernel
theorem dX11_forecast_18 : decode cX11_forecast 18 = .ok (.iconst 0, 1) := by decide +kernel
theorem dX11_forecast_19 : decode cX11_forecast 19 = .ok (.ireturn, 1) := by decide +kernel
theorem dX11_forecast_20 : decode cX11_forecast 20 = .ok (.iload_n 1, 1) := by decide +kernel
theorem dX11_forecast_21 : decode cX11_forecast 21 = .ok (.iconst 0, 1) := by decide +kernel
theorem dX11_forecast_22 : decode cX11_forecast 22 = .ok (.bipush 9, 2) := by decide +kernel
theorem dX11_forecast_24 : decode cX11_forecast 24 = .ok (.invokestatic 64, 3) := by decide +kernel
theorem dX11_forecast_27 : decode cX11_forecast 27 = .ok (.ifCond .eq 12, 3) := by decide +kernel
theorem dX11_forecast_30 : decode cX11_forecast 30 = .ok (.aload_n 3, 1) := by decide +kernel
theorem dX11_forecast_31 : decode cX11_forecast 31 = .ok (.getfield 377, 3) := by decide +kernel
theorem dX11_forecast_34 : decode cX11_forecast 34 = .ok (.bipush 12, 2) := by decide +kernel
theorem dX11_forecast_36 : decode cX11_forecast 36 = .ok (.if_icmp .lt 6, 3) := by decide +kernel
theorem dX11_forecast_39 : decode cX11_forecast 39 = .ok (.bipush (-2), 2) := by decide +kernel
theorem dX11_forecast_41 : decode cX11_forecast 41 = .ok (.ireturn, 1) := by decide +kernel
theorem dX11_forecast_42 : decode cX11_forecast 42 = .ok (.aload_n 3, 1) := by decide +kernel
theorem dX11_forecast_43 : decode cX11_forecast 43 = .ok (.iload_n 1, 1) := by decide +kernel
theorem dX11_forecast_44 : decode cX11_forecast 44 = .ok (.iload_n 2, 1) := by decide +kernel
theorem dX11_forecast_45 : decode cX11_forecast 45 = .ok (.invokevirtual 380, 3) := by decide +kernel
theorem dX11_forecast_48 : decode cX11_forecast 48 = .ok (.ireturn, 1) := by decide +kernel
theorem dX11_isOf_0 : decode cX11_isOf 0 = .ok (.iload_n 1, 1) := by decide +kernel
theorem dX11_isOf_1 : decode cX11_isOf 1 = .ok (.iconst 0, 1) := by decide +kernel
theorem dX11_isOf_2 : decode cX11_isOf 2 = .ok (.bipush 7, 2) := by decide +kernel
theorem dX11_isOf_4 : decode cX11_isOf 4 = .ok (.invokestatic 64, 3) := by decide +kernel
theorem dX11_isOf_7 : decode cX11_isOf 7 = .ok (.ifCond .eq 16, 3) := by decide +kernel
theorem dX11_isOf_10 : decode cX11_isOf 10 = .ok (.iload_n 0, 1) := by decide +kernel
theorem dX11_isOf_11 : decode cX11_isOf 11 = .ok (.iload_n 1, 1) := by decide +kernel
theorem dX11_isOf_12 : decode cX11_isOf 12 = .ok (.ishr, 1) := by decide +kernel
theorem dX11_isOf_13 : decode cX11_isOf 13 = .ok (.iconst 1, 1) := by decide +kernel
theorem dX11_isOf_14 : decode cX11_isOf 14 = .ok (.iand, 1) := by decide +kernel
theorem dX11_isOf_15 : decode cX11_isOf 15 = .ok (.iconst 1, 1) := by decide +kernel
theorem dX11_isOf_16 : decode cX11_isOf 16 = .ok (.if_icmp .ne 7, 3) := by decide +kernel
theorem dX11_isOf_19 : decode cX11_isOf 19 = .ok (.iconst 1, 1) := by decide +kernel
theorem dX11_isOf_20 : decode cX11_isOf 20 = .ok (.goto 4, 3) := by decide +kernel
theorem dX11_isOf_23 : decode cX11_isOf 23 = .ok (.iconst 0, 1) := by decide +kernel
theorem dX11_isOf_24 : decode cX11_isOf 24 = .ok (.ireturn, 1) := by decide +kernel
theorem dX11_match_0 : decode cX11_match 0 = .ok (.iload_n 1, 1) := by decide +kernel
theorem dX11_match_1 : decode cX11_match 1 = .ok (.invokestatic 314, 3) := by decide +kernel
theorem dX11_match_4 : decode cX11_match 4 = .ok (.istore 4, 2) := by decide +kernel
theorem dX11_match_6 : decode cX11_match 6 = .ok (.iload_n 1, 1) := by decide +kernel
theorem dX11_match_7 : decode cX11_match 7 = .ok (.aload_n 0, 1) := by decide +kernel
theorem dX11_match_8 : decode cX11_match 8 = .ok (.getfield 10, 3) := by decide +kernel
theorem dX11_match_11 : decode cX11_match 11 = .ok (.getfield 60, 3) := by decide +kernel
theorem dX11_match_14 : decode cX11_match 14 = .ok (.getfield 90, 3) := by decide +kernel
theorem dX11_match_17 : decode cX11_match 17 = .ok (.invokestatic 319, 3) := by decide +kernel
theorem dX11_match_20 : decode cX11_match 20 = .ok (.ifCond .eq 40, 3) := by decide +kernel
theorem dX11_match_23 : decode cX11_match 23 = .ok (.iload_n 2, 1) := by decide +kernel
theorem dX11_match_24 : decode cX11_match 24 = .ok (.aload_n 0, 1) := by decide +kernel
theorem dX11_match_25 : decode cX11_match 25 = .ok (.getfield 10, 3) := by decide +kernel
theorem dX11_match_28 : decode cX11_match 28 = .ok (.getfield 60, 3) := by decide +kernel
theorem dX11_match_31 : decode cX11_match 31 = .ok (.getfield 68, 3) := by decide +kernel
theorem dX11_match_34 : decode cX11_match 34 = .ok (.invokestatic 319, 3) := by decide +kernel
theorem dX11_match_37 : decode cX11_match 37 = .ok (.ifCond .eq 23, 3) := by decide +kernel
theorem dX11_match_40 : decode cX11_match 40 = .ok (.iload 4, 2) := by decide +kernel
theorem dX11_match_42 : decode cX11_match 42 = .ok (.iconst 1, 1) := by decide +kernel
theorem dX11_match_43 : decode cX11_match 43 = .ok (.bipush 6, 2) := by decide +kernel
theorem dX11_match_45 : decode cX11_match 45 = .ok (.invokestatic 64, 3) := by decide +kernel
theorem dX11_match_48 : decode cX11_match 48 = .ok (.ifCond .eq 12, 3) := by decide +kernel
theorem dX11_match_60 : decode cX11_match 60 = .ok (.iconst (-1), 1) := by decide +kernel
theorem dX11_match_61 : decode cX11_match 61 = .ok (.ireturn, 1) := by decide +kernel
theorem dX11_near_0 : decode cX11_near 0 = .ok (.iload_n 1, 1) := by decide +kernel
theorem dX11_near_1 : decode cX11_near 1 = .ok (.iconst (-1), 1) := by decide +kernel
theorem dX11_near_2 : decode cX11_near 2 = .ok (.if_icmp .eq 34, 3) := by decide +kernel
theorem dX11_near_5 : decode cX11_near 5 = .ok (.iload_n 1, 1) := by decide +kernel
theorem dX11_near_6 : decode cX11_near 6 = .ok (.iconst 0, 1) := by decide +kernel
theorem dX11_near_7 : decode cX11_near 7 = .ok (.aload_n 0, 1) := by decide +kernel
theorem dX11_near_8 : decode cX11_near 8 = .ok (.getfield 10, 3) := by decide +kernel
theorem dX11_near_11 : decode cX11_near 11 = .ok (.getfield 343, 3) := by decide +kernel
theorem dX11_near_14 : decode cX11_near 14 = .ok (.getfield 347, 3) := by decide +kernel
theorem dX11_near_17 : decode cX11_near 17 = .ok (.iconst 1, 1) := by decide +kernel
theorem dX11_near_18 : decode cX11_near 18 = .ok (.isub, 1) := by decide +kernel
theorem dX11_near_19 : decode cX11_near 19 = .ok (.invokestatic 64, 3) := by decide +kernel
theorem dX11_near_22 : decode cX11_near 22 = .ok (.ifCond .eq 11, 3) := by decide +kernel
theorem dX11_near_33 : decode cX11_near 33 = .ok (.bipush (-2), 2) := by decide +kernel
theorem dX11_near_35 : decode cX11_near 35 = .ok (.ireturn, 1) := by decide +kernel
theorem dX11_near_36 : decode cX11_near 36 = .ok (.iconst 1, 1) := by decide +kernel
theorem dX11_near_37 : decode cX11_near 37 = .ok (.aload_n 0, 1) := by decide +kernel
theorem dX11_near_38 : decode cX11_near 38 = .ok (.getfield 10, 3) := by decide +kernel
theorem dX11_near_41 : decode cX11_near 41 = .ok (.getfield 60, 3) := by decide +kernel
theorem dX11_near_44 : decode cX11_near 44 = .ok (.getfield 90, 3) := by decide +kernel
theorem dX11_near_47 : decode cX11_near 47 = .ok (.ishl, 1) := by decide +kernel
theorem dX11_near_48 : decode cX11_near 48 = .ok (.iconst 1, 1) := by decide +kernel
theorem dX11_near_49 : decode cX11_near 49 = .ok (.isub, 1) := by decide +kernel
theorem dX11_near_50 : decode cX11_near 50 = .ok (.istore_n 2, 1) := by decide +kernel
theorem dX11_near_51 : decode cX11_near 51 = .ok (.iconst 0, 1) := by decide +kernel
theorem dX11_near_52 : decode cX11_near 52 = .ok (.istore_n 3, 1) := by decide +kernel
theorem dX11_near_53 : decode cX11_near 53 = .ok (.iload_n 3, 1) := by decide +kernel
theorem dX11_near_54 : decode cX11_near 54 = .ok (.aload_n 0, 1) := by decide +kernel
theorem dX11_near_55 : decode cX11_near 55 = .ok (.getfield 10, 3) := by decide +kernel
theorem dX11_near_58 : decode cX11_near 58 = .ok (.getfield 343, 3) := by decide +kernel
theorem dX11_near_61 : decode cX11_near 61 = .ok (.getfield 347, 3) := by decide +kernel
theorem dX11_near_64 : decode cX11_near 64 = .ok (.if_icmp .ge 17, 3) := by decide +kernel
theorem dX11_near_81 : decode cX11_near 81 = .ok (.iload_n 2, 1) := by decide +kernel
theorem dX11_near_82 : decode cX11_near 82 = .ok (.ireturn, 1) := by decide +kernel
theorem dX11_offer_0 : decode cX11_offer 0 = .ok (.aload_n 0, 1) := by decide +kernel
theorem dX11_offer_1 : decode cX11_offer 1 = .ok (.getfield 10, 3) := by decide +kernel
theorem dX11_offer_4 : decode cX11_offer 4 = .ok (.getfield 343, 3) := by decide +kernel
theorem dX11_offer_7 : decode cX11_offer 7 = .ok (.astore 4, 2) := by decide +kernel
theorem dX11_offer_9 : decode cX11_offer 9 = .ok (.iload_n 3, 1) := by decide +kernel
theorem dX11_offer_10 : decode cX11_offer 10 = .ok (.ifCond .ne 11, 3) := by decide +kernel
theorem dX11_offer_13 : decode cX11_offer 13 = .ok (.aload 4, 2) := by decide +kernel
theorem dX11_offer_15 : decode cX11_offer 15 = .ok (.iconst 0, 1) := by decide +kernel
theorem dX11_offer_16 : decode cX11_offer 16 = .ok (.putfield 390, 3) := by decide +kernel
theorem dX11_offer_19 : decode cX11_offer 19 = .ok (.iconst 0, 1) := by decide +kernel
theorem dX11_offer_20 : decode cX11_offer 20 = .ok (.ireturn, 1) := by decide +kernel
theorem dX11_offer_21 : decode cX11_offer 21 = .ok (.iload_n 2, 1) := by decide +kernel
theorem dX11_offer_22 : decode cX11_offer 22 = .ok (.iconst 0, 1) := by decide +kernel
theorem dX11_offer_23 : decode cX11_offer 23 = .ok (.bipush 99, 2) := by decide +kernel
theorem dX11_offer_25 : decode cX11_offer 25 = .ok (.invokestatic 64, 3) := by decide +kernel
theorem dX11_offer_28 : decode cX11_offer 28 = .ok (.ifCond .eq 23, 3) := by decide +kernel
theorem dX11_offer_31 : decode cX11_offer 31 = .ok (.iload_n 3, 1) := by decide +kernel
theorem dX11_offer_32 : decode cX11_offer 32 = .ok (.iconst 1, 1) := by decide +kernel
theorem dX11_offer_33 : decode cX11_offer 33 = .ok (.bipush 99, 2) := by decide +kernel
theorem dX11_offer_35 : decode cX11_offer 35 = .ok (.invokestatic 64, 3) := by decide +kernel
theorem dX11_offer_38 : decode cX11_offer 38 = .ok (.ifCond .eq 13, 3) := by decide +kernel
theorem dX11_offer_41 : decode cX11_offer 41 = .ok (.aload 4, 2) := by decide +kernel
theorem dX11_offer_43 : decode cX11_offer 43 = .ok (.getfield 390, 3) := by decide +kernel
theorem dX11_offer_46 : decode cX11_offer 46 = .ok (.bipush 10, 2) := by decide +kernel
theorem dX11_offer_48 : decode cX11_offer 48 = .ok (.if_icmp .lt 5, 3) := by decide +kernel
theorem dX11_offer_51 : decode cX11_offer 51 = .ok (.iconst (-1), 1) := by decide +kernel
theorem dX11_offer_52 : decode cX11_offer 52 = .ok (.ireturn, 1) := by decide +kernel
theorem dX11_offer_53 : decode cX11_offer 53 = .ok (.aload 4, 2) := by decide +kernel
theorem dX11_offer_55 : decode cX11_offer 55 = .ok (.iload_n 1, 1) := by decide +kernel
theorem dX11_offer_56 : decode cX11_offer 56 = .ok (.iload_n 2, 1) := by decide +kernel
theorem dX11_offer_57 : decode cX11_offer 57 = .ok (.iload_n 3, 1) := by decide +kernel
theorem dX11_offer_58 : decode cX11_offer 58 = .ok (.invokevirtual 393, 3) := by decide +kernel
theorem dX11_offer_61 : decode cX11_offer 61 = .ok (.ireturn, 1) := by decide +kernel
theorem dX11_rained_0 : decode cX11_rained 0 = .ok (.aload_n 0, 1) := by decide +kernel
theorem dX11_rained_1 : decode cX11_rained 1 = .ok (.getfield 10, 3) := by decide +kernel
theorem dX11_rained_4 : decode cX11_rained 4 = .ok (.getfield 97, 3) := by decide +kernel
theorem dX11_rained_7 : decode cX11_rained 7 = .ok (.astore_n 3, 1) := by decide +kernel
theorem dX11_rained_8 : decode cX11_rained 8 = .ok (.iload_n 1, 1) := by decide +kernel
theorem dX11_rained_9 : decode cX11_rained 9 = .ok (.iconst (-1), 1) := by decide +kernel
theorem dX11_rained_10 : decode cX11_rained 10 = .ok (.if_icmp .ne 8, 3) := by decide +kernel
theorem dX11_rained_13 : decode cX11_rained 13 = .ok (.aload_n 3, 1) := by decide +kernel
theorem dX11_rained_14 : decode cX11_rained 14 = .ok (.getfield 283, 3) := by decide +kernel
theorem dX11_rained_17 : decode cX11_rained 17 = .ok (.ireturn, 1) := by decide +kernel
theorem dX11_rained_18 : decode cX11_rained 18 = .ok (.iload_n 1, 1) := by decide +kernel
theorem dX11_rained_19 : decode cX11_rained 19 = .ok (.ifCond .lt 11, 3) := by decide +kernel
theorem dX11_rained_22 : decode cX11_rained 22 = .ok (.iload_n 1, 1) := by decide +kernel
theorem dX11_rained_23 : decode cX11_rained 23 = .ok (.aload_n 3, 1) := by decide +kernel
theorem dX11_rained_24 : decode cX11_rained 24 = .ok (.getfield 283, 3) := by decide +kernel
theorem dX11_rained_27 : decode cX11_rained 27 = .ok (.if_icmp .lt 6, 3) := by decide +kernel
theorem dX11_rained_30 : decode cX11_rained 30 = .ok (.bipush (-2), 2) := by decide +kernel
theorem dX11_rained_32 : decode cX11_rained 32 = .ok (.ireturn, 1) := by decide +kernel
theorem dX11_shares_0 : decode cX11_shares 0 = .ok (.iload_n 1, 1) := by decide +kernel
theorem dX11_shares_1 : decode cX11_shares 1 = .ok (.aload_n 0, 1) := by decide +kernel
theorem dX11_shares_2 : decode cX11_shares 2 = .ok (.getfield 10, 3) := by decide +kernel
theorem dX11_shares_5 : decode cX11_shares 5 = .ok (.getfield 60, 3) := by decide +kernel
theorem dX11_shares_8 : decode cX11_shares 8 = .ok (.getfield 90, 3) := by decide +kernel
theorem dX11_shares_11 : decode cX11_shares 11 = .ok (.invokestatic 319, 3) := by decide +kernel
theorem dX11_shares_14 : decode cX11_shares 14 = .ok (.ifCond .eq 22, 3) := by decide +kernel
theorem dX11_shares_17 : decode cX11_shares 17 = .ok (.iload_n 2, 1) := by decide +kernel
theorem dX11_shares_18 : decode cX11_shares 18 = .ok (.iconst 0, 1) := by decide +kernel
theorem dX11_shares_19 : decode cX11_shares 19 = .ok (.sipush 999, 3) := by decide +kernel
theorem dX11_shares_22 : decode cX11_shares 22 = .ok (.invokestatic 64, 3) := by decide +kernel
theorem dX11_shares_25 : decode cX11_shares 25 = .ok (.ifCond .eq 11, 3) := by decide +kernel
theorem dX11_shares_28 : decode cX11_shares 28 = .ok (.iload_n 1, 1) := by decide +kernel
theorem dX11_shares_29 : decode cX11_shares 29 = .ok (.iload_n 3, 1) := by decide +kernel
theorem dX11_shares_30 : decode cX11_shares 30 = .ok (.invokestatic 325, 3) := by decide +kernel
theorem dX11_shares_33 : decode cX11_shares 33 = .ok (.ifCond .ne 5, 3) := by decide +kernel
theorem dX11_shares_36 : decode cX11_shares 36 = .ok (.iconst (-1), 1) := by decide +kernel
theorem dX11_shares_37 : decode cX11_shares 37 = .ok (.ireturn, 1) := by decide +kernel
theorem dX11_thieves_0 : decode cX11_thieves 0 = .ok (.bipush 6, 2) := by decide +kernel
theorem dX11_thieves_2 : decode cX11_thieves 2 = .ok (.newarray .int, 2) := by decide +kernel
theorem dX11_thieves_4 : decode cX11_thieves 4 = .ok (.astore_n 1, 1) := by decide +kernel
theorem dX11_thieves_5 : decode cX11_thieves 5 = .ok (.iconst 0, 1) := by decide +kernel
theorem dX11_thieves_6 : decode cX11_thieves 6 = .ok (.istore_n 2, 1) := by decide +kernel
theorem dX11_thieves_7 : decode cX11_thieves 7 = .ok (.iload_n 2, 1) := by decide +kernel
theorem dX11_thieves_8 : decode cX11_thieves 8 = .ok (.aload_n 0, 1) := by decide +kernel
theorem dX11_thieves_9 : decode cX11_thieves 9 = .ok (.getfield 10, 3) := by decide +kernel
theorem dX11_thieves_12 : decode cX11_thieves 12 = .ok (.getfield 343, 3) := by decide +kernel
theorem dX11_thieves_15 : decode cX11_thieves 15 = .ok (.getfield 347, 3) := by decide +kernel
theorem dX11_thieves_18 : decode cX11_thieves 18 = .ok (.if_icmp .ge 17, 3) := by decide +kernel
theorem dX11_thieves_35 : decode cX11_thieves 35 = .ok (.iconst (-1), 1) := by decide +kernel
theorem dX11_thieves_36 : decode cX11_thieves 36 = .ok (.istore_n 2, 1) := by decide +kernel
theorem dX11_thieves_37 : decode cX11_thieves 37 = .ok (.iconst 0, 1) := by decide +kernel
theorem dX11_thieves_38 : decode cX11_thieves 38 = .ok (.istore_n 3, 1) := by decide +kernel
theorem dX11_thieves_39 : decode cX11_thieves 39 = .ok (.iload_n 3, 1) := by decide +kernel
theorem dX11_thieves_40 : decode cX11_thieves 40 = .ok (.iconst 1, 1) := by decide +kernel
theorem dX11_thieves_41 : decode cX11_thieves 41 = .ok (.aload_n 0, 1) := by decide +kernel
theorem dX11_thieves_42 : decode cX11_thieves 42 = .ok (.getfield 10, 3) := by decide +kernel
theorem dX11_thieves_45 : decode cX11_thieves 45 = .ok (.getfield 60, 3) := by decide +kernel
theorem dX11_thieves_48 : decode cX11_thieves 48 = .ok (.getfield 90, 3) := by decide +kernel
theorem dX11_thieves_51 : decode cX11_thieves 51 = .ok (.ishl, 1) := by decide +kernel
theorem dX11_thieves_52 : decode cX11_thieves 52 = .ok (.if_icmp .ge 88, 3) := by decide +kernel
theorem dX11_thieves_55 : decode cX11_thieves 55 = .ok (.iload_n 2, 1) := by decide +kernel
theorem dX11_thieves_56 : decode cX11_thieves 56 = .ok (.iconst (-1), 1) := by decide +kernel
theorem dX11_thieves_57 : decode cX11_thieves 57 = .ok (.if_icmp .eq 14, 3) := by decide +kernel
theorem dX11_thieves_71 : decode cX11_thieves 71 = .ok (.iconst 1, 1) := by decide +kernel
theorem dX11_thieves_72 : decode cX11_thieves 72 = .ok (.goto 4, 3) := by decide +kernel
theorem dX11_thieves_76 : decode cX11_thieves 76 = .ok (.istore 4, 2) := by decide +kernel
theorem dX11_thieves_78 : decode cX11_thieves 78 = .ok (.iconst 0, 1) := by decide +kernel
theorem dX11_thieves_79 : decode cX11_thieves 79 = .ok (.istore 5, 2) := by decide +kernel
theorem dX11_thieves_81 : decode cX11_thieves 81 = .ok (.iload 5, 2) := by decide +kernel
theorem dX11_thieves_83 : decode cX11_thieves 83 = .ok (.aload_n 0, 1) := by decide +kernel
theorem dX11_thieves_84 : decode cX11_thieves 84 = .ok (.getfield 10, 3) := by decide +kernel
theorem dX11_thieves_87 : decode cX11_thieves 87 = .ok (.getfield 343, 3) := by decide +kernel
theorem dX11_thieves_90 : decode cX11_thieves 90 = .ok (.getfield 347, 3) := by decide +kernel
theorem dX11_thieves_93 : decode cX11_thieves 93 = .ok (.if_icmp .ge 30, 3) := by decide +kernel
theorem dX11_thieves_123 : decode cX11_thieves 123 = .ok (.iload 4, 2) := by decide +kernel
theorem dX11_thieves_125 : decode cX11_thieves 125 = .ok (.ifCond .eq 7, 3) := by decide +kernel
theorem dX11_thieves_128 : decode cX11_thieves 128 = .ok (.iload_n 3, 1) := by decide +kernel
theorem dX11_thieves_129 : decode cX11_thieves 129 = .ok (.goto 4, 3) := by decide +kernel
theorem dX11_thieves_133 : decode cX11_thieves 133 = .ok (.istore_n 2, 1) := by decide +kernel
theorem dX11_thieves_134 : decode cX11_thieves 134 = .ok (.iinc 3 1, 3) := by decide +kernel
theorem dX11_thieves_137 : decode cX11_thieves 137 = .ok (.goto (-98), 3) := by decide +kernel
theorem dX11_thieves_140 : decode cX11_thieves 140 = .ok (.iload_n 2, 1) := by decide +kernel
theorem dX11_thieves_141 : decode cX11_thieves 141 = .ok (.ireturn, 1) := by decide +kernel
theorem dX1_addForecast_0 : decode cX1_addForecast 0 = .ok (.aload_n 0, 1) := by decide +kernel
theorem dX1_addForecast_1 : decode cX1_addForecast 1 = .ok (.getfield 21, 3) := by decide +kernel
theorem dX1_addForecast_4 : decode cX1_addForecast 4 = .ok (.aload_n 0, 1) := by decide +kernel
theorem dX1_addForecast_5 : decode cX1_addForecast 5 = .ok (.getfield 41, 3) := by decide +kernel
theorem dX1_addForecast_8 : decode cX1_addForecast 8 = .ok (.iload_n 1, 1) := by decide +kernel
theorem dX1_addForecast_9 : decode cX1_addForecast 9 = .ok (.iastore, 1) := by decide +kernel
theorem dX1_addForecast_10 : decode cX1_addForecast 10 = .ok (.aload_n 0, 1) := by decide +kernel
theorem dX1_addForecast_11 : decode cX1_addForecast 11 = .ok (.getfield 24, 3) := by decide +kernel
theorem dX1_addForecast_14 : decode cX1_addForecast 14 = .ok (.aload_n 0, 1) := by decide +kernel
theorem dX1_addForecast_15 : decode cX1_addForecast 15 = .ok (.getfield 41, 3) := by decide +kernel
theorem dX1_addForecast_18 : decode cX1_addForecast 18 = .ok (.iload_n 2, 1) := by decide +kernel
theorem dX1_addForecast_19 : decode cX1_addForecast 19 = .ok (.bastore, 1) := by decide +kernel
theorem dX1_addForecast_20 : decode cX1_addForecast 20 = .ok (.aload_n 0, 1) := by decide +kernel
theorem dX1_addForecast_21 : decode cX1_addForecast 21 = .ok (.dup, 1) := by decide +kernel
theorem dX1_addForecast_22 : decode cX1_addForecast 22 = .ok (.getfield 41, 3) := by decide +kernel
theorem dX1_addForecast_25 : decode cX1_addForecast 25 = .ok (.iconst 1, 1) := by decide +kernel
theorem dX1_addForecast_26 : decode cX1_addForecast 26 = .ok (.iadd, 1) := by decide +kernel
theorem dX1_addForecast_27 : decode cX1_addForecast 27 = .ok (.dup_x1, 1) := by decide +kernel
theorem dX1_addForecast_28 : decode cX1_addForecast 28 = .ok (.putfield 41, 3) := by decide +kernel
theorem dX1_addForecast_31 : decode cX1_addForecast 31 = .ok (.ireturn, 1) := by decide +kernel
theorem dX1_addOffer_0 : decode cX1_addOffer 0 = .ok (.aload_n 0, 1) := by decide +kernel
theorem dX1_addOffer_1 : decode cX1_addOffer 1 = .ok (.getfield 28, 3) := by decide +kernel
theorem dX1_addOffer_4 : decode cX1_addOffer 4 = .ok (.aload_n 0, 1) := by decide +kernel
theorem dX1_addOffer_5 : decode cX1_addOffer 5 = .ok (.getfield 44, 3) := by decide +kernel
theorem dX1_addOffer_8 : decode cX1_addOffer 8 = .ok (.iload_n 1, 1) := by decide +kernel
theorem dX1_addOffer_9 : decode cX1_addOffer 9 = .ok (.bastore, 1) := by decide +kernel
theorem dX1_addOffer_10 : decode cX1_addOffer 10 = .ok (.aload_n 0, 1) := by decide +kernel
theorem dX1_addOffer_11 : decode cX1_addOffer 11 = .ok (.getfield 31, 3) := by decide +kernel
theorem dX1_addOffer_14 : decode cX1_addOffer 14 = .ok (.aload_n 0, 1) := by decide +kernel
theorem dX1_addOffer_15 : decode cX1_addOffer 15 = .ok (.getfield 44, 3) := by decide +kernel
theorem dX1_addOffer_18 : decode cX1_addOffer 18 = .ok (.iload_n 2, 1) := by decide +kernel
theorem dX1_addOffer_19 : decode cX1_addOffer 19 = .ok (.iastore, 1) := by decide +kernel
theorem dX1_addOffer_20 : decode cX1_addOffer 20 = .ok (.aload_n 0, 1) := by decide +kernel
theorem dX1_addOffer_21 : decode cX1_addOffer 21 = .ok (.getfield 34, 3) := by decide +kernel
theorem dX1_addOffer_24 : decode cX1_addOffer 24 = .ok (.aload_n 0, 1) := by decide +kernel
theorem dX1_addOffer_25 : decode cX1_addOffer 25 = .ok (.getfield 44, 3) := by decide +kernel
theorem dX1_addOffer_28 : decode cX1_addOffer 28 = .ok (.iload_n 3, 1) := by decide +kernel
theorem dX1_addOffer_29 : decode cX1_addOffer 29 = .ok (.iastore, 1) := by decide +kernel
theorem dX1_addOffer_30 : decode cX1_addOffer 30 = .ok (.aload_n 0, 1) := by decide +kernel
theorem dX1_addOffer_31 : decode cX1_addOffer 31 = .ok (.dup, 1) := by decide +kernel
theorem dX1_addOffer_32 : decode cX1_addOffer 32 = .ok (.getfield 44, 3) := by decide +kernel
theorem dX1_addOffer_35 : decode cX1_addOffer 35 = .ok (.iconst 1, 1) := by decide +kernel
theorem dX1_addOffer_36 : decode cX1_addOffer 36 = .ok (.iadd, 1) := by decide +kernel
theorem dX1_addOffer_37 : decode cX1_addOffer 37 = .ok (.dup_x1, 1) := by decide +kernel
theorem dX1_addOffer_38 : decode cX1_addOffer 38 = .ok (.putfield 44, 3) := by decide +kernel
theorem dX1_addOffer_41 : decode cX1_addOffer 41 = .ok (.ireturn, 1) := by decide +kernel
theorem dX1_falseAlarms_0 : decode cX1_falseAlarms 0 = .ok (.iconst 0, 1) := by decide +kernel
theorem dX1_falseAlarms_1 : decode cX1_falseAlarms 1 = .ok (.istore_n 2, 1) := by decide +kernel
theorem dX1_falseAlarms_2 : decode cX1_falseAlarms 2 = .ok (.iconst 0, 1) := by decide +kernel
theorem dX1_falseAlarms_3 : decode cX1_falseAlarms 3 = .ok (.istore_n 3, 1) := by decide +kernel
theorem dX1_falseAlarms_4 : decode cX1_falseAlarms 4 = .ok (.iload_n 3, 1) := by decide +kernel
theorem dX1_falseAlarms_5 : decode cX1_falseAlarms 5 = .ok (.aload_n 0, 1) := by decide +kernel
theorem dX1_falseAlarms_6 : decode cX1_falseAlarms 6 = .ok (.getfield 41, 3) := by decide +kernel
theorem dX1_falseAlarms_9 : decode cX1_falseAlarms 9 = .ok (.if_icmp .ge 36, 3) := by decide +kernel
theorem dX1_falseAlarms_45 : decode cX1_falseAlarms 45 = .ok (.iload_n 2, 1) := by decide +kernel
theorem dX1_falseAlarms_46 : decode cX1_falseAlarms 46 = .ok (.ireturn, 1) := by decide +kernel
theorem dX1_misses_0 : decode cX1_misses 0 = .ok (.iconst 0, 1) := by decide +kernel
theorem dX1_misses_1 : decode cX1_misses 1 = .ok (.istore_n 2, 1) := by decide +kernel
theorem dX1_misses_2 : decode cX1_misses 2 = .ok (.iconst 0, 1) := by decide +kernel
theorem dX1_misses_3 : decode cX1_misses 3 = .ok (.istore_n 3, 1) := by decide +kernel
theorem dX1_misses_4 : decode cX1_misses 4 = .ok (.iload_n 3, 1) := by decide +kernel
theorem dX1_misses_5 : decode cX1_misses 5 = .ok (.aload_n 0, 1) := by decide +kernel
theorem dX1_misses_6 : decode cX1_misses 6 = .ok (.getfield 41, 3) := by decide +kernel
theorem dX1_misses_9 : decode cX1_misses 9 = .ok (.if_icmp .ge 36, 3) := by decide +kernel
theorem dX1_misses_45 : decode cX1_misses 45 = .ok (.iload_n 2, 1) := by decide +kernel
theorem dX1_misses_46 : decode cX1_misses 46 = .ok (.ireturn, 1) := by decide +kernel
theorem dX1_traded_0 : decode cX1_traded 0 = .ok (.iconst 0, 1) := by decide +kernel
theorem dX1_traded_1 : decode cX1_traded 1 = .ok (.istore_n 2, 1) := by decide +kernel
theorem dX1_traded_2 : decode cX1_traded 2 = .ok (.iconst 0, 1) := by decide +kernel
theorem dX1_traded_3 : decode cX1_traded 3 = .ok (.istore_n 3, 1) := by decide +kernel
theorem dX1_traded_4 : decode cX1_traded 4 = .ok (.iconst 0, 1) := by decide +kernel
theorem dX1_traded_5 : decode cX1_traded 5 = .ok (.istore 4, 2) := by decide +kernel
theorem dX1_traded_7 : decode cX1_traded 7 = .ok (.iload 4, 2) := by decide +kernel
theorem dX1_traded_9 : decode cX1_traded 9 = .ok (.aload_n 0, 1) := by decide +kernel
theorem dX1_traded_10 : decode cX1_traded 10 = .ok (.getfield 44, 3) := by decide +kernel
theorem dX1_traded_13 : decode cX1_traded 13 = .ok (.if_icmp .ge 79, 3) := by decide +kernel
theorem dX1_traded_92 : decode cX1_traded 92 = .ok (.iload_n 2, 1) := by decide +kernel
theorem dX1_traded_93 : decode cX1_traded 93 = .ok (.iload_n 3, 1) := by decide +kernel
theorem dX1_traded_94 : decode cX1_traded 94 = .ok (.invokestatic 47, 3) := by decide +kernel
theorem dX1_traded_97 : decode cX1_traded 97 = .ok (.ireturn, 1) := by decide +kernel
theorem z_m1 {i : Int32} (h : 0 ≤ i ∧ i ≤ -1) : False := by
  obtain ⟨h1, h2⟩ := h
  rw [fa_le] at h1 h2
  have e1 : (0 : Int32).toInt = 0 := by decide
  have e2 : (-1 : Int32).toInt = -1 := by decide
  omega
theorem z_shr0 (n : Int32) : ((0 : Int32) >>> n) &&& 1 = 0 := by
  have h : (0 : Int32) >>> n = 0 := by
    apply Int32.toBitVec_inj.mp
    simp
  rw [h]
  decide
set_option maxHeartbeats 4000000 in
set_option maxRecDepth 100000 in
theorem k_isOf (l : Launch) (D : va_G) (cy : Nat → ClassId) (L : List Nat) (σ : Nat → va_E) (φ : Nat → Nat → Nat → Int32) (ρ : Nat → Nat → Int32) (b n : Int32) : zMI l D cy yX11_isOf cX11_isOf 2 .boolean (zrm 1 0 0) [.int b, .int n] L σ φ ρ (zpu L σ φ ρ (fun r => b = 0 → r = 0)) := by
  refine zMI.mk (by decide) (Nat.le_of_ble_eq_true rfl) (fun E hE hret => ?_)
  show zW E 0 0 L σ φ ρ 0 [(0, .int b), (1, .int n)] []
  refine x_iload_n hE dX11_isOf_0 rfl 1 rfl ?_
  refine x_iconst (v := 0) hE dX11_isOf_1 (by decide) ?_
  refine x_bipush (v := 7) hE dX11_isOf_2 (by decide) ?_
  refine c_ip hE (r_S (st := []) hE (k_isWithin l D cy L σ φ ρ (n) (0) (7)) q582 q583 q113 q584 ⟨by decide, by decide, pn_X11_isWithin⟩ ⟨Nat.le_of_ble_eq_true rfl, Nat.le_of_ble_eq_true rfl⟩ ⟨Nat.le_of_ble_eq_true rfl, Nat.le_of_ble_eq_true rfl⟩ rfl (Nat.le_of_ble_eq_true rfl) dX11_isOf_4) (fun r4 h4 => ?_)
  refine x_widen (k' := 0) (n' := 0) (Nat.le_of_ble_eq_true rfl) (Nat.le_of_ble_eq_true rfl) ?_
  refine x_if_eq (tgt := 23) hE dX11_isOf_7 (by decide) (fun c_7 => ?_) (fun c_7 => ?_)
  · refine x_iconst (v := 0) hE dX11_isOf_23 (by decide) ?_
    exact hret _ _ _ _ _ _ _ _ (0) (Nat.le_of_ble_eq_true rfl) (Nat.le_of_ble_eq_true rfl) dX11_isOf_24 (rfl) (⟨rfl, fun _ => rfl⟩)
  · refine x_iload_n hE dX11_isOf_10 rfl 0 rfl ?_
    refine x_iload_n hE dX11_isOf_11 rfl 1 rfl ?_
    refine x_ishr hE dX11_isOf_12 ?_
    refine x_iconst (v := 1) hE dX11_isOf_13 (by decide) ?_
    refine x_iand hE dX11_isOf_14 ?_
    refine x_iconst (v := 1) hE dX11_isOf_15 (by decide) ?_
    refine x_icmp_ne (tgt := 23) hE dX11_isOf_16 (by decide) (fun c_16 => ?_) (fun c_16 => ?_)
    · refine x_iconst (v := 0) hE dX11_isOf_23 (by decide) ?_
      exact hret _ _ _ _ _ _ _ _ (0) (Nat.le_of_ble_eq_true rfl) (Nat.le_of_ble_eq_true rfl) dX11_isOf_24 (rfl) (⟨rfl, fun _ => rfl⟩)
    · refine x_iconst (v := 1) hE dX11_isOf_19 (by decide) ?_
      refine x_goto (tgt := 24) hE dX11_isOf_20 (by decide) ?_
      exact hret _ _ _ _ _ _ _ _ (1) (Nat.le_of_ble_eq_true rfl) (Nat.le_of_ble_eq_true rfl) dX11_isOf_24 (rfl) (⟨rfl, fun h => absurd (h ▸ c_16 : ((0 : Int32) >>> _) &&& 1 = 1) (by rw [z_shr0]; decide)⟩)
set_option maxHeartbeats 4000000 in
set_option maxRecDepth 100000 in
theorem k_addForecast (l : Launch) (D : va_G) (cy : Nat → ClassId) (L : List Nat) (σ : Nat → va_E) (φ : Nat → Nat → Nat → Int32) (ρ : Nat → Nat → Int32) {a i0 i1 i2 i3 i4 i5 i6 i7 : Nat} (v h : Int32) (ha : zT L σ a (.inr (1, [.int 0, .int 0, .int 0, .ref i0, .ref i1, .ref i2, .ref i3, .ref i4, .ref i5, .ref i6, .ref i7]))) (hi3 : zT L σ i3 (zIA cy 12)) (hi4 : zT L σ i4 (zZA cy 12)) (h1 : φ 1 1 a = 0) : zMI l D cy yX1_addForecast cX1_addForecast 3 .int (zrm 0 0 0) [.ref a, .int v, .int h] L σ φ ρ (fun r _ => r = 1) := by
  refine zMI.mk (by decide) (Nat.le_of_ble_eq_true rfl) (fun E hE hret => ?_)
  show zW E 0 0 L σ φ ρ 0 [(0, .ref a), (1, .int v), (2, .int h)] []
  refine x_aload_n hE dX1_addForecast_0 rfl 0 rfl ?_
  refine h_getr hE ha rfl inZX1 6 (by decide) q330 rfl dX1_addForecast_1 ?_
  refine x_aload_n hE dX1_addForecast_4 rfl 0 rfl ?_
  refine h_geti hE ha rfl inZX1 1 (by decide) q320 rfl dX1_addForecast_5 ?_
  refine x_norm (y := 0) (h1) ?_
  refine x_iload_n hE dX1_addForecast_8 rfl 1 rfl ?_
  refine h_iast hE hi3 (by unfold vp_in; decide) dX1_addForecast_9 ?_
  refine x_aload_n hE dX1_addForecast_10 rfl 0 rfl ?_
  refine h_getr hE ha rfl inZX1 7 (by decide) q331 rfl dX1_addForecast_11 ?_
  refine x_aload_n hE dX1_addForecast_14 rfl 0 rfl ?_
  refine h_geti hE ha rfl inZX1 1 (by decide) q320 rfl dX1_addForecast_15 ?_
  refine x_norm (y := 0) (h1) ?_
  refine x_iload_n hE dX1_addForecast_18 rfl 2 rfl ?_
  refine h_zast hE hi4 (by unfold vp_in; decide) dX1_addForecast_19 ?_
  refine x_aload_n hE dX1_addForecast_20 rfl 0 rfl ?_
  refine x_dup hE dX1_addForecast_21 rfl ?_
  refine h_geti hE ha rfl inZX1 1 (by decide) q320 rfl dX1_addForecast_22 ?_
  refine x_norm (y := 0) (h1) ?_
  refine x_iconst (v := 1) hE dX1_addForecast_25 (by decide) ?_
  refine x_iadd hE dX1_addForecast_26 ?_
  refine x_norm (y := 1) (by decide) ?_
  refine x_dup_x1 hE dX1_addForecast_27 rfl rfl ?_
  refine h_puti (ty := .int) (ty0 := tyX1) hE ha rfl inZX1 tyX1_ok nmX1 1 (by decide) q320 rfl rfl (by decide +kernel) rfl rfl dX1_addForecast_28 ?_
  exact hret _ _ _ _ _ _ _ _ (1) (Nat.le_of_ble_eq_true rfl) (Nat.le_of_ble_eq_true rfl) dX1_addForecast_31 (rfl) (rfl)
set_option maxHeartbeats 4000000 in
set_option maxRecDepth 100000 in
theorem k_addOffer (l : Launch) (D : va_G) (cy : Nat → ClassId) (L : List Nat) (σ : Nat → va_E) (φ : Nat → Nat → Nat → Int32) (ρ : Nat → Nat → Int32) {a i0 i1 i2 i3 i4 i5 i6 i7 : Nat} (b p d : Int32) (ha : zT L σ a (.inr (1, [.int 0, .int 0, .int 0, .ref i0, .ref i1, .ref i2, .ref i3, .ref i4, .ref i5, .ref i6, .ref i7]))) (hi5 : zT L σ i5 (zZA cy 10)) (hi6 : zT L σ i6 (zIA cy 10)) (hi7 : zT L σ i7 (zIA cy 10)) (h2 : φ 1 2 a = 0) : zMI l D cy yX1_addOffer cX1_addOffer 4 .int (zrm 0 0 0) [.ref a, .int b, .int p, .int d] L σ φ ρ (fun r _ => r = 1) := by
  refine zMI.mk (by decide) (Nat.le_of_ble_eq_true rfl) (fun E hE hret => ?_)
  show zW E 0 0 L σ φ ρ 0 [(0, .ref a), (1, .int b), (2, .int p), (3, .int d)] []
  refine x_aload_n hE dX1_addOffer_0 rfl 0 rfl ?_
  refine h_getr hE ha rfl inZX1 8 (by decide) q332 rfl dX1_addOffer_1 ?_
  refine x_aload_n hE dX1_addOffer_4 rfl 0 rfl ?_
  refine h_geti hE ha rfl inZX1 2 (by decide) q322 rfl dX1_addOffer_5 ?_
  refine x_norm (y := 0) (h2) ?_
  refine x_iload_n hE dX1_addOffer_8 rfl 1 rfl ?_
  refine h_zast hE hi5 (by unfold vp_in; decide) dX1_addOffer_9 ?_
  refine x_aload_n hE dX1_addOffer_10 rfl 0 rfl ?_
  refine h_getr hE ha rfl inZX1 9 (by decide) q333 rfl dX1_addOffer_11 ?_
  refine x_aload_n hE dX1_addOffer_14 rfl 0 rfl ?_
  refine h_geti hE ha rfl inZX1 2 (by decide) q322 rfl dX1_addOffer_15 ?_
  refine x_norm (y := 0) (h2) ?_
  refine x_iload_n hE dX1_addOffer_18 rfl 2 rfl ?_
  refine h_iast hE hi6 (by unfold vp_in; decide) dX1_addOffer_19 ?_
  refine x_aload_n hE dX1_addOffer_20 rfl 0 rfl ?_
  refine h_getr hE ha rfl inZX1 10 (by decide) q334 rfl dX1_addOffer_21 ?_
  refine x_aload_n hE dX1_addOffer_24 rfl 0 rfl ?_
  refine h_geti hE ha rfl inZX1 2 (by decide) q322 rfl dX1_addOffer_25 ?_
  refine x_norm (y := 0) (h2) ?_
  refine x_iload_n hE dX1_addOffer_28 rfl 3 rfl ?_
  refine h_iast hE hi7 (by unfold vp_in; decide) dX1_addOffer_29 ?_
  refine x_aload_n hE dX1_addOffer_30 rfl 0 rfl ?_
  refine x_dup hE dX1_addOffer_31 rfl ?_
  refine h_geti hE ha rfl inZX1 2 (by decide) q322 rfl dX1_addOffer_32 ?_
  refine x_norm (y := 0) (h2) ?_
  refine x_iconst (v := 1) hE dX1_addOffer_35 (by decide) ?_
  refine x_iadd hE dX1_addOffer_36 ?_
  refine x_norm (y := 1) (by decide) ?_
  refine x_dup_x1 hE dX1_addOffer_37 rfl rfl ?_
  refine h_puti (ty := .int) (ty0 := tyX1) hE ha rfl inZX1 tyX1_ok nmX1 2 (by decide) q322 rfl rfl (by decide +kernel) rfl rfl dX1_addOffer_38 ?_
  exact hret _ _ _ _ _ _ _ _ (1) (Nat.le_of_ble_eq_true rfl) (Nat.le_of_ble_eq_true rfl) dX1_addOffer_41 (rfl) (rfl)
set_option maxHeartbeats 4000000 in
set_option maxRecDepth 100000 in
theorem k_misses (l : Launch) (D : va_G) (cy : Nat → ClassId) (L : List Nat) (σ : Nat → va_E) (φ : Nat → Nat → Nat → Int32) (ρ : Nat → Nat → Int32) {a i0 i1 i2 i3 i4 i5 i6 i7 : Nat} (t : Int32) (ha : zT L σ a (.inr (1, [.int 0, .int 0, .int 0, .ref i0, .ref i1, .ref i2, .ref i3, .ref i4, .ref i5, .ref i6, .ref i7]))) (h1 : φ 1 1 a = 0) : zMI l D cy yX1_misses cX1_misses 4 .int (zrm 1 0 0) [.ref a, .int t] L σ φ ρ (zpu L σ φ ρ (fun r => r = 0)) := by
  refine zMI.mk (by decide) (Nat.le_of_ble_eq_true rfl) (fun E hE hret => ?_)
  show zW E 0 0 L σ φ ρ 0 [(0, .ref a), (1, .int t)] []
  refine x_iconst (v := 0) hE dX1_misses_0 (by decide) ?_
  refine x_istore_n (lv' := [(2, .int 0), (0, .ref a), (1, .int t)]) hE dX1_misses_1 rfl (by decide) rfl ?_
  refine x_iconst (v := 0) hE dX1_misses_2 (by decide) ?_
  refine x_istore_n (lv' := [(3, .int 0), (2, .int 0), (0, .ref a), (1, .int t)]) hE dX1_misses_3 rfl (by decide) rfl ?_
  refine x_iload_n hE dX1_misses_4 rfl 0 rfl ?_
  refine x_aload_n hE dX1_misses_5 rfl 2 rfl ?_
  refine h_geti hE ha rfl inZX1 1 (by decide) q320 rfl dX1_misses_6 ?_
  refine x_norm (y := 0) (h1) ?_
  refine x_icmp_ge (tgt := 45) hE dX1_misses_9 (by decide) (fun c_9 => ?_) (fun c_9 => absurd (by decide) c_9)
  refine x_iload_n hE dX1_misses_45 rfl 1 rfl ?_
  exact hret _ _ _ _ _ _ _ _ (0) (Nat.le_of_ble_eq_true rfl) (Nat.le_of_ble_eq_true rfl) dX1_misses_46 (rfl) (⟨rfl, rfl⟩)
set_option maxHeartbeats 4000000 in
set_option maxRecDepth 100000 in
theorem k_falseAlarms (l : Launch) (D : va_G) (cy : Nat → ClassId) (L : List Nat) (σ : Nat → va_E) (φ : Nat → Nat → Nat → Int32) (ρ : Nat → Nat → Int32) {a i0 i1 i2 i3 i4 i5 i6 i7 : Nat} (t : Int32) (ha : zT L σ a (.inr (1, [.int 0, .int 0, .int 0, .ref i0, .ref i1, .ref i2, .ref i3, .ref i4, .ref i5, .ref i6, .ref i7]))) (h1 : φ 1 1 a = 0) : zMI l D cy yX1_falseAlarms cX1_falseAlarms 4 .int (zrm 1 0 0) [.ref a, .int t] L σ φ ρ (zpu L σ φ ρ (fun r => r = 0)) := by
  refine zMI.mk (by decide) (Nat.le_of_ble_eq_true rfl) (fun E hE hret => ?_)
  show zW E 0 0 L σ φ ρ 0 [(0, .ref a), (1, .int t)] []
  refine x_iconst (v := 0) hE dX1_falseAlarms_0 (by decide) ?_
  refine x_istore_n (lv' := [(2, .int 0), (0, .ref a), (1, .int t)]) hE dX1_falseAlarms_1 rfl (by decide) rfl ?_
  refine x_iconst (v := 0) hE dX1_falseAlarms_2 (by decide) ?_
  refine x_istore_n (lv' := [(3, .int 0), (2, .int 0), (0, .ref a), (1, .int t)]) hE dX1_falseAlarms_3 rfl (by decide) rfl ?_
  refine x_iload_n hE dX1_falseAlarms_4 rfl 0 rfl ?_
  refine x_aload_n hE dX1_falseAlarms_5 rfl 2 rfl ?_
  refine h_geti hE ha rfl inZX1 1 (by decide) q320 rfl dX1_falseAlarms_6 ?_
  refine x_norm (y := 0) (h1) ?_
  refine x_icmp_ge (tgt := 45) hE dX1_falseAlarms_9 (by decide) (fun c_9 => ?_) (fun c_9 => absurd (by decide) c_9)
  refine x_iload_n hE dX1_falseAlarms_45 rfl 1 rfl ?_
  exact hret _ _ _ _ _ _ _ _ (0) (Nat.le_of_ble_eq_true rfl) (Nat.le_of_ble_eq_true rfl) dX1_falseAlarms_46 (rfl) (⟨rfl, rfl⟩)
set_option maxHeartbeats 4000000 in
set_option maxRecDepth 100000 in
theorem k_traded (l : Launch) (D : va_G) (cy : Nat → ClassId) (L : List Nat) (σ : Nat → va_E) (φ : Nat → Nat → Nat → Int32) (ρ : Nat → Nat → Int32) {a i0 i1 i2 i3 i4 i5 i6 i7 : Nat} (t : Int32) (ha : zT L σ a (.inr (1, [.int 0, .int 0, .int 0, .ref i0, .ref i1, .ref i2, .ref i3, .ref i4, .ref i5, .ref i6, .ref i7]))) (h2 : φ 1 2 a = 0) : zMI l D cy yX1_traded cX1_traded 5 .int (zrm 1 0 0) [.ref a, .int t] L σ φ ρ (zpu L σ φ ρ (fun r => r = 0)) := by
  refine zMI.mk (by decide) (Nat.le_of_ble_eq_true rfl) (fun E hE hret => ?_)
  show zW E 0 0 L σ φ ρ 0 [(0, .ref a), (1, .int t)] []
  refine x_iconst (v := 0) hE dX1_traded_0 (by decide) ?_
  refine x_istore_n (lv' := [(2, .int 0), (0, .ref a), (1, .int t)]) hE dX1_traded_1 rfl (by decide) rfl ?_
  refine x_iconst (v := 0) hE dX1_traded_2 (by decide) ?_
  refine x_istore_n (lv' := [(3, .int 0), (2, .int 0), (0, .ref a), (1, .int t)]) hE dX1_traded_3 rfl (by decide) rfl ?_
  refine x_iconst (v := 0) hE dX1_traded_4 (by decide) ?_
  refine x_istore (lv' := [(4, .int 0), (3, .int 0), (2, .int 0), (0, .ref a), (1, .int t)]) hE dX1_traded_5 (by decide) rfl ?_
  refine x_iload hE dX1_traded_7 0 rfl ?_
  refine x_aload_n hE dX1_traded_9 rfl 3 rfl ?_
  refine h_geti hE ha rfl inZX1 2 (by decide) q322 rfl dX1_traded_10 ?_
  refine x_norm (y := 0) (h2) ?_
  refine x_icmp_ge (tgt := 92) hE dX1_traded_13 (by decide) (fun c_13 => ?_) (fun c_13 => absurd (by decide) c_13)
  refine x_iload_n hE dX1_traded_92 rfl 2 rfl ?_
  refine x_iload_n hE dX1_traded_93 rfl 1 rfl ?_
  refine x_min hE q1336 q780 q130 q781 (Nat.le_of_ble_eq_true rfl) (Nat.le_of_ble_eq_true rfl) (Nat.le_of_ble_eq_true rfl) (Nat.le_of_ble_eq_true rfl) dX1_traded_94 ?_
  exact hret _ _ _ _ _ _ _ _ (if (0) < (0) then (0) else (0)) (Nat.le_of_ble_eq_true rfl) (Nat.le_of_ble_eq_true rfl) dX1_traded_97 (rfl) (⟨rfl, rfl⟩)
set_option maxHeartbeats 4000000 in
set_option maxRecDepth 100000 in
theorem o_rained (l : Launch) (D : va_G) (cy : Nat → ClassId) (L : List Nat) (σ : Nat → va_E) (φ : Nat → Nat → Nat → Int32) (ρ : Nat → Nat → Int32) {x : Nat} (i : Int32) (w : Int32) (hx : zOR cy L σ φ x) : zMI l D cy yX11_rained cX11_rained 4 .int (zrm 3 0 0) [.ref x, .int i, .int w] L σ φ ρ (fun r _ => r = if i = -1 then 0 else -2) := by
  refine zMI.mk (by decide) (Nat.le_of_ble_eq_true rfl) (fun E hE hret => ?_)
  show zW E 0 0 L σ φ ρ 0 [(0, .ref x), (1, .int i), (2, .int w)] []
  obtain ⟨now, kept, tape, reader, weather, planner, ways, la, wo, sp, li, te, g, la', wo', sp', li', te', g', hx, hs, hs0, hk, hk0, htp, htp0, hrd, hrd0, hrd1, hwe, hwe0, hpl, hwy⟩ := hx
  obtain ⟨hn, hla, hwo, hsp, hli, hte⟩ := id hs
  obtain ⟨p45, p46, p00, p01, p10, p50, p51, pl0, pl1, pl2, pg⟩ := id hs0
  obtain ⟨f0, f1, f2, f3, f4, f5, f6, f7, hL, hL0, hL1, hL2, hL3, hL4, hL5, hL6, hL7⟩ := id hla
  obtain ⟨w0, w1, w2, w3, w4, w5, w6, w7, hW, hW0, hW1, hW2, hW3, hW4, hW5, hW6, hW7⟩ := id hwo
  obtain ⟨s0, s1, hSp, hSp0, hSp1, hSpW⟩ := id hsp
  obtain ⟨i0, i1, i2, i3, i4, i5, i6, i7, hLi, hLi0, hLi1, hLi2, hLi3, hLi4, hLi5, hLi6, hLi7⟩ := id hli
  obtain ⟨t0, t1, t2, t3, hTp, hTp0, hTp1, hTp2, hTp3, hTn1, hTn2⟩ := id htp
  refine x_aload_n hE dX11_rained_0 rfl 0 rfl ?_
  refine h_getr hE hx rfl inZX11 0 (by decide) q556 rfl dX11_rained_1 ?_
  refine h_getr hE hn rfl inZX4 1 (by decide) q369 rfl dX11_rained_4 ?_
  refine x_astore_n (lv' := [(3, .ref wo), (0, .ref x), (1, .int i), (2, .int w)]) hE dX11_rained_7 rfl (by decide) rfl ?_
  refine x_iload_n hE dX11_rained_8 rfl 2 rfl ?_
  refine x_iconst (v := -1) hE dX11_rained_9 (by decide) ?_
  refine x_icmp_ne (tgt := 18) hE dX11_rained_10 (by decide) (fun c_10 => ?_) (fun c_10 => ?_)
  · refine x_iload_n hE dX11_rained_18 rfl 2 rfl ?_
    refine x_if_lt (tgt := 30) hE dX11_rained_19 (by decide) (fun c_19 => ?_) (fun c_19 => ?_)
    · refine x_bipush (v := -2) hE dX11_rained_30 (by decide) ?_
      exact hret _ _ _ _ _ _ _ _ (-2) (Nat.le_of_ble_eq_true rfl) (Nat.le_of_ble_eq_true rfl) dX11_rained_32 (rfl) (by grind [zb])
    · refine x_iload_n hE dX11_rained_22 rfl 2 rfl ?_
      refine x_aload_n hE dX11_rained_23 rfl 0 rfl ?_
      refine h_geti hE hW rfl inZX10 11 (by decide) q253 rfl dX11_rained_24 ?_
      refine x_norm (y := 0) (by simpa using p10 11) ?_
      refine x_icmp_lt (tgt := 33) hE dX11_rained_27 (by decide) (fun c_27 => absurd c_27 (z_le_nlt (z_nlt c_19))) (fun c_27 => ?_)
      refine x_bipush (v := -2) hE dX11_rained_30 (by decide) ?_
      exact hret _ _ _ _ _ _ _ _ (-2) (Nat.le_of_ble_eq_true rfl) (Nat.le_of_ble_eq_true rfl) dX11_rained_32 (rfl) (by grind [zb])
  · refine x_aload_n hE dX11_rained_13 rfl 0 rfl ?_
    refine h_geti hE hW rfl inZX10 11 (by decide) q253 rfl dX11_rained_14 ?_
    refine x_norm (y := 0) (by simpa using p10 11) ?_
    exact hret _ _ _ _ _ _ _ _ (0) (Nat.le_of_ble_eq_true rfl) (Nat.le_of_ble_eq_true rfl) dX11_rained_17 (rfl) (by grind [zb])
set_option maxHeartbeats 4000000 in
set_option maxRecDepth 100000 in
theorem o_match (l : Launch) (D : va_G) (cy : Nat → ClassId) (L : List Nat) (σ : Nat → va_E) (φ : Nat → Nat → Nat → Int32) (ρ : Nat → Nat → Int32) {x : Nat} (a : Int32) (b : Int32) (p : Int32) (hx : zOR cy L σ φ x) : zMI l D cy yX11_match cX11_match 6 .int (zrm 3 0 0) [.ref x, .int a, .int b, .int p] L σ φ ρ (fun r _ => r = -1) := by
  refine zMI.mk (by decide) (Nat.le_of_ble_eq_true rfl) (fun E hE hret => ?_)
  show zW E 0 0 L σ φ ρ 0 [(0, .ref x), (1, .int a), (2, .int b), (3, .int p)] []
  obtain ⟨now, kept, tape, reader, weather, planner, ways, la, wo, sp, li, te, g, la', wo', sp', li', te', g', hx, hs, hs0, hk, hk0, htp, htp0, hrd, hrd0, hrd1, hwe, hwe0, hpl, hwy⟩ := hx
  obtain ⟨hn, hla, hwo, hsp, hli, hte⟩ := id hs
  obtain ⟨p45, p46, p00, p01, p10, p50, p51, pl0, pl1, pl2, pg⟩ := id hs0
  obtain ⟨f0, f1, f2, f3, f4, f5, f6, f7, hL, hL0, hL1, hL2, hL3, hL4, hL5, hL6, hL7⟩ := id hla
  obtain ⟨w0, w1, w2, w3, w4, w5, w6, w7, hW, hW0, hW1, hW2, hW3, hW4, hW5, hW6, hW7⟩ := id hwo
  obtain ⟨s0, s1, hSp, hSp0, hSp1, hSpW⟩ := id hsp
  obtain ⟨i0, i1, i2, i3, i4, i5, i6, i7, hLi, hLi0, hLi1, hLi2, hLi3, hLi4, hLi5, hLi6, hLi7⟩ := id hli
  obtain ⟨t0, t1, t2, t3, hTp, hTp0, hTp1, hTp2, hTp3, hTn1, hTn2⟩ := id htp
  refine x_iload_n hE dX11_match_0 rfl 1 rfl ?_
  refine c_ip hE (r_S (st := []) hE (k_bitCount l D cy L σ φ ρ (a)) q1202 q1023 q133 q1024 ⟨by decide, by decide, pn_J6_bitCount_0f7a4⟩ ⟨Nat.le_of_ble_eq_true rfl, Nat.le_of_ble_eq_true rfl⟩ ⟨Nat.le_of_ble_eq_true rfl, Nat.le_of_ble_eq_true rfl⟩ rfl (Nat.le_of_ble_eq_true rfl) dX11_match_1) (fun r1 h_1 => ?_)
  refine x_widen (k' := 0) (n' := 0) (Nat.le_of_ble_eq_true rfl) (Nat.le_of_ble_eq_true rfl) ?_
  refine x_istore (lv' := [(4, .int r1), (0, .ref x), (1, .int a), (2, .int b), (3, .int p)]) hE dX11_match_4 (by decide) rfl ?_
  refine x_iload_n hE dX11_match_6 rfl 2 rfl ?_
  refine x_aload_n hE dX11_match_7 rfl 1 rfl ?_
  refine h_getr hE hx rfl inZX11 0 (by decide) q556 rfl dX11_match_8 ?_
  refine h_getr hE hn rfl inZX4 0 (by decide) q362 rfl dX11_match_11 ?_
  refine h_geti hE hL rfl inZX0 1 (by decide) q161 rfl dX11_match_14 ?_
  refine x_norm (y := 0) (p01) ?_
  refine c_ip hE (r_S (st := []) hE (k_isSet0 l D cy L σ φ ρ (a)) q1203 q1204 q113 q1205 ⟨by decide, by decide, pn_X11_isSet⟩ ⟨Nat.le_of_ble_eq_true rfl, Nat.le_of_ble_eq_true rfl⟩ ⟨Nat.le_of_ble_eq_true rfl, Nat.le_of_ble_eq_true rfl⟩ rfl (Nat.le_of_ble_eq_true rfl) dX11_match_17) (fun r17 h_17 => ?_)
  refine x_widen (k' := 0) (n' := 0) (Nat.le_of_ble_eq_true rfl) (Nat.le_of_ble_eq_true rfl) ?_
  refine x_if_eq (tgt := 60) hE dX11_match_20 (by decide) (fun c_20 => ?_) (fun c_20 => ?_)
  · refine x_iconst (v := -1) hE dX11_match_60 (by decide) ?_
    exact hret _ _ _ _ _ _ _ _ (-1) (Nat.le_of_ble_eq_true rfl) (Nat.le_of_ble_eq_true rfl) dX11_match_61 (rfl) (by grind [zb])
  · refine x_iload_n hE dX11_match_23 rfl 3 rfl ?_
    refine x_aload_n hE dX11_match_24 rfl 1 rfl ?_
    refine h_getr hE hx rfl inZX11 0 (by decide) q556 rfl dX11_match_25 ?_
    refine h_getr hE hn rfl inZX4 0 (by decide) q362 rfl dX11_match_28 ?_
    refine h_geti hE hL rfl inZX0 0 (by decide) q156 rfl dX11_match_31 ?_
    refine x_norm (y := 0) (p00) ?_
    refine c_ip hE (r_S (st := []) hE (k_isSet0 l D cy L σ φ ρ (b)) q1203 q1204 q113 q1205 ⟨by decide, by decide, pn_X11_isSet⟩ ⟨Nat.le_of_ble_eq_true rfl, Nat.le_of_ble_eq_true rfl⟩ ⟨Nat.le_of_ble_eq_true rfl, Nat.le_of_ble_eq_true rfl⟩ rfl (Nat.le_of_ble_eq_true rfl) dX11_match_34) (fun r34 h_34 => ?_)
    refine x_widen (k' := 0) (n' := 0) (Nat.le_of_ble_eq_true rfl) (Nat.le_of_ble_eq_true rfl) ?_
    refine x_if_eq (tgt := 60) hE dX11_match_37 (by decide) (fun c_37 => ?_) (fun c_37 => ?_)
    · refine x_iconst (v := -1) hE dX11_match_60 (by decide) ?_
      exact hret _ _ _ _ _ _ _ _ (-1) (Nat.le_of_ble_eq_true rfl) (Nat.le_of_ble_eq_true rfl) dX11_match_61 (rfl) (by grind [zb])
    · refine x_iload hE dX11_match_40 0 rfl ?_
      refine x_iconst (v := 1) hE dX11_match_42 (by decide) ?_
      refine x_bipush (v := 6) hE dX11_match_43 (by decide) ?_
      refine c_ip hE (r_S (st := []) hE (k_isWithin l D cy L σ φ ρ (r1) (1) (6)) q582 q583 q113 q584 ⟨by decide, by decide, pn_X11_isWithin⟩ ⟨Nat.le_of_ble_eq_true rfl, Nat.le_of_ble_eq_true rfl⟩ ⟨Nat.le_of_ble_eq_true rfl, Nat.le_of_ble_eq_true rfl⟩ rfl (Nat.le_of_ble_eq_true rfl) dX11_match_45) (fun r45 h45 => ?_)
      refine x_widen (k' := 0) (n' := 0) (Nat.le_of_ble_eq_true rfl) (Nat.le_of_ble_eq_true rfl) ?_
      refine x_if_eq (tgt := 60) hE dX11_match_48 (by decide) (fun c_48 => ?_) (fun c_48 => absurd (by grind [zb]) c_48)
      refine x_iconst (v := -1) hE dX11_match_60 (by decide) ?_
      exact hret _ _ _ _ _ _ _ _ (-1) (Nat.le_of_ble_eq_true rfl) (Nat.le_of_ble_eq_true rfl) dX11_match_61 (rfl) (by grind [zb])
set_option maxHeartbeats 4000000 in
set_option maxRecDepth 100000 in
theorem o_shares (l : Launch) (D : va_G) (cy : Nat → ClassId) (L : List Nat) (σ : Nat → va_E) (φ : Nat → Nat → Nat → Int32) (ρ : Nat → Nat → Int32) {x : Nat} (a : Int32) (b : Int32) (p : Int32) (hx : zOR cy L σ φ x) : zMI l D cy yX11_shares cX11_shares 11 .int (zrm 3 0 0) [.ref x, .int a, .int b, .int p] L σ φ ρ (fun r _ => r = -1) := by
  refine zMI.mk (by decide) (Nat.le_of_ble_eq_true rfl) (fun E hE hret => ?_)
  show zW E 0 0 L σ φ ρ 0 [(0, .ref x), (1, .int a), (2, .int b), (3, .int p)] []
  obtain ⟨now, kept, tape, reader, weather, planner, ways, la, wo, sp, li, te, g, la', wo', sp', li', te', g', hx, hs, hs0, hk, hk0, htp, htp0, hrd, hrd0, hrd1, hwe, hwe0, hpl, hwy⟩ := hx
  obtain ⟨hn, hla, hwo, hsp, hli, hte⟩ := id hs
  obtain ⟨p45, p46, p00, p01, p10, p50, p51, pl0, pl1, pl2, pg⟩ := id hs0
  obtain ⟨f0, f1, f2, f3, f4, f5, f6, f7, hL, hL0, hL1, hL2, hL3, hL4, hL5, hL6, hL7⟩ := id hla
  obtain ⟨w0, w1, w2, w3, w4, w5, w6, w7, hW, hW0, hW1, hW2, hW3, hW4, hW5, hW6, hW7⟩ := id hwo
  obtain ⟨s0, s1, hSp, hSp0, hSp1, hSpW⟩ := id hsp
  obtain ⟨i0, i1, i2, i3, i4, i5, i6, i7, hLi, hLi0, hLi1, hLi2, hLi3, hLi4, hLi5, hLi6, hLi7⟩ := id hli
  obtain ⟨t0, t1, t2, t3, hTp, hTp0, hTp1, hTp2, hTp3, hTn1, hTn2⟩ := id htp
  refine x_iload_n hE dX11_shares_0 rfl 1 rfl ?_
  refine x_aload_n hE dX11_shares_1 rfl 0 rfl ?_
  refine h_getr hE hx rfl inZX11 0 (by decide) q556 rfl dX11_shares_2 ?_
  refine h_getr hE hn rfl inZX4 0 (by decide) q362 rfl dX11_shares_5 ?_
  refine h_geti hE hL rfl inZX0 1 (by decide) q161 rfl dX11_shares_8 ?_
  refine x_norm (y := 0) (p01) ?_
  refine c_ip hE (r_S (st := []) hE (k_isSet0 l D cy L σ φ ρ (a)) q1203 q1204 q113 q1205 ⟨by decide, by decide, pn_X11_isSet⟩ ⟨Nat.le_of_ble_eq_true rfl, Nat.le_of_ble_eq_true rfl⟩ ⟨Nat.le_of_ble_eq_true rfl, Nat.le_of_ble_eq_true rfl⟩ rfl (Nat.le_of_ble_eq_true rfl) dX11_shares_11) (fun r11 h_11 => ?_)
  refine x_widen (k' := 0) (n' := 0) (Nat.le_of_ble_eq_true rfl) (Nat.le_of_ble_eq_true rfl) ?_
  refine x_if_eq (tgt := 36) hE dX11_shares_14 (by decide) (fun c_14 => ?_) (fun c_14 => ?_)
  · refine x_iconst (v := -1) hE dX11_shares_36 (by decide) ?_
    exact hret _ _ _ _ _ _ _ _ (-1) (Nat.le_of_ble_eq_true rfl) (Nat.le_of_ble_eq_true rfl) dX11_shares_37 (rfl) (by grind [zb])
  · refine x_iload_n hE dX11_shares_17 rfl 2 rfl ?_
    refine x_iconst (v := 0) hE dX11_shares_18 (by decide) ?_
    refine x_sipush (v := 999) hE dX11_shares_19 (by decide) ?_
    refine c_ip hE (r_S (st := []) hE (k_isWithin l D cy L σ φ ρ (b) (0) (999)) q582 q583 q113 q584 ⟨by decide, by decide, pn_X11_isWithin⟩ ⟨Nat.le_of_ble_eq_true rfl, Nat.le_of_ble_eq_true rfl⟩ ⟨Nat.le_of_ble_eq_true rfl, Nat.le_of_ble_eq_true rfl⟩ rfl (Nat.le_of_ble_eq_true rfl) dX11_shares_22) (fun r22 h22 => ?_)
    refine x_widen (k' := 0) (n' := 0) (Nat.le_of_ble_eq_true rfl) (Nat.le_of_ble_eq_true rfl) ?_
    refine x_if_eq (tgt := 36) hE dX11_shares_25 (by decide) (fun c_25 => ?_) (fun c_25 => ?_)
    · refine x_iconst (v := -1) hE dX11_shares_36 (by decide) ?_
      exact hret _ _ _ _ _ _ _ _ (-1) (Nat.le_of_ble_eq_true rfl) (Nat.le_of_ble_eq_true rfl) dX11_shares_37 (rfl) (by grind [zb])
    · refine x_iload_n hE dX11_shares_28 rfl 1 rfl ?_
      refine x_iload_n hE dX11_shares_29 rfl 3 rfl ?_
      refine c_ip hE (r_S (st := []) hE (k_isOf l D cy L σ φ ρ (a) (p)) q1228 q1183 q113 q1184 ⟨by decide, by decide, pn_X11_isOf⟩ ⟨Nat.le_of_ble_eq_true rfl, Nat.le_of_ble_eq_true rfl⟩ ⟨Nat.le_of_ble_eq_true rfl, Nat.le_of_ble_eq_true rfl⟩ rfl (Nat.le_of_ble_eq_true rfl) dX11_shares_30) (fun r30 h_30 => ?_)
      refine x_widen (k' := 0) (n' := 0) (Nat.le_of_ble_eq_true rfl) (Nat.le_of_ble_eq_true rfl) ?_
      refine x_if_ne (tgt := 38) hE dX11_shares_33 (by decide) (fun c_33 => absurd c_33 (fun h => h (h_30 (by grind [zb])))) (fun c_33 => ?_)
      refine x_iconst (v := -1) hE dX11_shares_36 (by decide) ?_
      exact hret _ _ _ _ _ _ _ _ (-1) (Nat.le_of_ble_eq_true rfl) (Nat.le_of_ble_eq_true rfl) dX11_shares_37 (rfl) (by grind [zb])
set_option maxHeartbeats 4000000 in
set_option maxRecDepth 100000 in
theorem o_near (l : Launch) (D : va_G) (cy : Nat → ClassId) (L : List Nat) (σ : Nat → va_E) (φ : Nat → Nat → Nat → Int32) (ρ : Nat → Nat → Int32) {x : Nat} (i : Int32) (hx : zOR cy L σ φ x) : zMI l D cy yX11_near cX11_near 4 .int (zrm 3 0 0) [.ref x, .int i] L σ φ ρ (fun r _ => r = if i = -1 then 0 else -2) := by
  refine zMI.mk (by decide) (Nat.le_of_ble_eq_true rfl) (fun E hE hret => ?_)
  show zW E 0 0 L σ φ ρ 0 [(0, .ref x), (1, .int i)] []
  obtain ⟨now, kept, tape, reader, weather, planner, ways, la, wo, sp, li, te, g, la', wo', sp', li', te', g', hx, hs, hs0, hk, hk0, htp, htp0, hrd, hrd0, hrd1, hwe, hwe0, hpl, hwy⟩ := hx
  obtain ⟨hn, hla, hwo, hsp, hli, hte⟩ := id hs
  obtain ⟨p45, p46, p00, p01, p10, p50, p51, pl0, pl1, pl2, pg⟩ := id hs0
  obtain ⟨f0, f1, f2, f3, f4, f5, f6, f7, hL, hL0, hL1, hL2, hL3, hL4, hL5, hL6, hL7⟩ := id hla
  obtain ⟨w0, w1, w2, w3, w4, w5, w6, w7, hW, hW0, hW1, hW2, hW3, hW4, hW5, hW6, hW7⟩ := id hwo
  obtain ⟨s0, s1, hSp, hSp0, hSp1, hSpW⟩ := id hsp
  obtain ⟨i0, i1, i2, i3, i4, i5, i6, i7, hLi, hLi0, hLi1, hLi2, hLi3, hLi4, hLi5, hLi6, hLi7⟩ := id hli
  obtain ⟨t0, t1, t2, t3, hTp, hTp0, hTp1, hTp2, hTp3, hTn1, hTn2⟩ := id htp
  refine x_iload_n hE dX11_near_0 rfl 1 rfl ?_
  refine x_iconst (v := -1) hE dX11_near_1 (by decide) ?_
  refine x_icmp_eq (tgt := 36) hE dX11_near_2 (by decide) (fun c_2 => ?_) (fun c_2 => ?_)
  · refine x_iconst (v := 1) hE dX11_near_36 (by decide) ?_
    refine x_aload_n hE dX11_near_37 rfl 0 rfl ?_
    refine h_getr hE hx rfl inZX11 0 (by decide) q556 rfl dX11_near_38 ?_
    refine h_getr hE hn rfl inZX4 0 (by decide) q362 rfl dX11_near_41 ?_
    refine h_geti hE hL rfl inZX0 1 (by decide) q161 rfl dX11_near_44 ?_
    refine x_norm (y := 0) (p01) ?_
    refine x_ishl hE dX11_near_47 ?_
    refine x_norm (y := 1) (by decide) ?_
    refine x_iconst (v := 1) hE dX11_near_48 (by decide) ?_
    refine x_isub hE dX11_near_49 ?_
    refine x_norm (y := 0) (by decide) ?_
    refine x_istore_n (lv' := [(2, .int 0), (0, .ref x), (1, .int i)]) hE dX11_near_50 rfl (by decide) rfl ?_
    refine x_iconst (v := 0) hE dX11_near_51 (by decide) ?_
    refine x_istore_n (lv' := [(3, .int 0), (2, .int 0), (0, .ref x), (1, .int i)]) hE dX11_near_52 rfl (by decide) rfl ?_
    refine x_iload_n hE dX11_near_53 rfl 0 rfl ?_
    refine x_aload_n hE dX11_near_54 rfl 2 rfl ?_
    refine h_getr hE hx rfl inZX11 0 (by decide) q556 rfl dX11_near_55 ?_
    refine h_getr hE hn rfl inZX4 3 (by decide) q373 rfl dX11_near_58 ?_
    refine h_geti hE hLi rfl inZX1 0 (by decide) q319 rfl dX11_near_61 ?_
    refine x_norm (y := 0) (pl0) ?_
    refine x_icmp_ge (tgt := 81) hE dX11_near_64 (by decide) (fun c_64 => ?_) (fun c_64 => absurd (by decide) c_64)
    refine x_iload_n hE dX11_near_81 rfl 1 rfl ?_
    exact hret _ _ _ _ _ _ _ _ (0) (Nat.le_of_ble_eq_true rfl) (Nat.le_of_ble_eq_true rfl) dX11_near_82 (rfl) (by grind [zb])
  · refine x_iload_n hE dX11_near_5 rfl 1 rfl ?_
    refine x_iconst (v := 0) hE dX11_near_6 (by decide) ?_
    refine x_aload_n hE dX11_near_7 rfl 0 rfl ?_
    refine h_getr hE hx rfl inZX11 0 (by decide) q556 rfl dX11_near_8 ?_
    refine h_getr hE hn rfl inZX4 3 (by decide) q373 rfl dX11_near_11 ?_
    refine h_geti hE hLi rfl inZX1 0 (by decide) q319 rfl dX11_near_14 ?_
    refine x_norm (y := 0) (pl0) ?_
    refine x_iconst (v := 1) hE dX11_near_17 (by decide) ?_
    refine x_isub hE dX11_near_18 ?_
    refine x_norm (y := -1) (by decide) ?_
    refine c_ip hE (r_S (st := []) hE (k_isWithin l D cy L σ φ ρ (i) (0) (-1)) q582 q583 q113 q584 ⟨by decide, by decide, pn_X11_isWithin⟩ ⟨Nat.le_of_ble_eq_true rfl, Nat.le_of_ble_eq_true rfl⟩ ⟨Nat.le_of_ble_eq_true rfl, Nat.le_of_ble_eq_true rfl⟩ rfl (Nat.le_of_ble_eq_true rfl) dX11_near_19) (fun r19 h19 => ?_)
    refine x_widen (k' := 0) (n' := 0) (Nat.le_of_ble_eq_true rfl) (Nat.le_of_ble_eq_true rfl) ?_
    refine x_if_eq (tgt := 33) hE dX11_near_22 (by decide) (fun c_22 => ?_) (fun c_22 => absurd (h19.trans (zb_f z_m1)) c_22)
    refine x_bipush (v := -2) hE dX11_near_33 (by decide) ?_
    exact hret _ _ _ _ _ _ _ _ (-2) (Nat.le_of_ble_eq_true rfl) (Nat.le_of_ble_eq_true rfl) dX11_near_35 (rfl) (by grind [zb])
set_option maxHeartbeats 4000000 in
set_option maxRecDepth 100000 in
theorem o_thieves (l : Launch) (D : va_G) (cy : Nat → ClassId) (L : List Nat) (σ : Nat → va_E) (φ : Nat → Nat → Nat → Int32) (ρ : Nat → Nat → Int32) {x : Nat}  (hx : zOR cy L σ φ x) : zMI l D cy yX11_thieves cX11_thieves 6 .int (zrm 3 1 6) [.ref x] L σ φ ρ (fun r _ => r = 0) := by
  refine zMI.mk (by decide) (Nat.le_of_ble_eq_true rfl) (fun E hE hret => ?_)
  show zW E 0 0 L σ φ ρ 0 [(0, .ref x)] []
  obtain ⟨now, kept, tape, reader, weather, planner, ways, la, wo, sp, li, te, g, la', wo', sp', li', te', g', hx, hs, hs0, hk, hk0, htp, htp0, hrd, hrd0, hrd1, hwe, hwe0, hpl, hwy⟩ := hx
  obtain ⟨hn, hla, hwo, hsp, hli, hte⟩ := id hs
  obtain ⟨p45, p46, p00, p01, p10, p50, p51, pl0, pl1, pl2, pg⟩ := id hs0
  obtain ⟨f0, f1, f2, f3, f4, f5, f6, f7, hL, hL0, hL1, hL2, hL3, hL4, hL5, hL6, hL7⟩ := id hla
  obtain ⟨w0, w1, w2, w3, w4, w5, w6, w7, hW, hW0, hW1, hW2, hW3, hW4, hW5, hW6, hW7⟩ := id hwo
  obtain ⟨s0, s1, hSp, hSp0, hSp1, hSpW⟩ := id hsp
  obtain ⟨i0, i1, i2, i3, i4, i5, i6, i7, hLi, hLi0, hLi1, hLi2, hLi3, hLi4, hLi5, hLi6, hLi7⟩ := id hli
  obtain ⟨t0, t1, t2, t3, hTp, hTp0, hTp1, hTp2, hTp3, hTn1, hTn2⟩ := id htp
  refine x_bipush (v := 6) hE dX11_thieves_0 (by decide) ?_
  refine h_newa (t0 := 0) (ty := .int) (N0 := 6) (x := (6, .inl (fun _ => 0))) hE rfl (fun _ h => nomatch h) q207 rfl (fun _ => rfl) (fun _ => rfl) (fun _ => rfl) (by decide) (by decide) (Nat.le_of_ble_eq_true rfl) (Nat.le_of_ble_eq_true rfl) (Nat.le_of_ble_eq_true rfl) dX11_thieves_2 (fun qa2 La2 σa2 φa2 ρa2 hna2 hxa2 hwa2 hra2 => ?_)
  refine x_astore_n (lv' := [(1, .ref qa2), (0, .ref x)]) hE dX11_thieves_4 rfl (by decide) rfl ?_
  refine x_iconst (v := 0) hE dX11_thieves_5 (by decide) ?_
  refine x_istore_n (lv' := [(2, .int 0), (1, .ref qa2), (0, .ref x)]) hE dX11_thieves_6 rfl (by decide) rfl ?_
  refine x_iload_n hE dX11_thieves_7 rfl 0 rfl ?_
  refine x_aload_n hE dX11_thieves_8 rfl 2 rfl ?_
  refine h_getr hE (zX.all hxa2 hx) rfl inZX11 0 (by decide) q556 rfl dX11_thieves_9 ?_
  refine h_getr hE (zX.all hxa2 hn) rfl inZX4 3 (by decide) q373 rfl dX11_thieves_12 ?_
  refine h_geti hE (zX.all hxa2 hLi) rfl inZX1 0 (by decide) q319 rfl dX11_thieves_15 ?_
  refine x_norm (y := 0) ((((hxa2 _).2 _ hLi.1 (Nat.ne_of_lt (Nat.lt_succ_self _))).2.1 _ _).trans (pl0)) ?_
  refine x_icmp_ge (tgt := 35) hE dX11_thieves_18 (by decide) (fun c_18 => ?_) (fun c_18 => absurd (by decide) c_18)
  refine x_iconst (v := -1) hE dX11_thieves_35 (by decide) ?_
  refine x_istore_n (lv' := [(2, .int (-1)), (1, .ref qa2), (0, .ref x)]) hE dX11_thieves_36 rfl (by decide) rfl ?_
  refine x_iconst (v := 0) hE dX11_thieves_37 (by decide) ?_
  refine x_istore_n (lv' := [(3, .int 0), (2, .int (-1)), (1, .ref qa2), (0, .ref x)]) hE dX11_thieves_38 rfl (by decide) rfl ?_
  refine x_iload_n hE dX11_thieves_39 rfl 0 rfl ?_
  refine x_iconst (v := 1) hE dX11_thieves_40 (by decide) ?_
  refine x_aload_n hE dX11_thieves_41 rfl 3 rfl ?_
  refine h_getr hE (zX.all hxa2 hx) rfl inZX11 0 (by decide) q556 rfl dX11_thieves_42 ?_
  refine h_getr hE (zX.all hxa2 hn) rfl inZX4 0 (by decide) q362 rfl dX11_thieves_45 ?_
  refine h_geti hE (zX.all hxa2 hL) rfl inZX0 1 (by decide) q161 rfl dX11_thieves_48 ?_
  refine x_norm (y := 0) ((((hxa2 _).2 _ hL.1 (Nat.ne_of_lt (Nat.lt_succ_self _))).2.1 _ _).trans (p01)) ?_
  refine x_ishl hE dX11_thieves_51 ?_
  refine x_norm (y := 1) (by decide) ?_
  refine x_icmp_ge (tgt := 140) hE dX11_thieves_52 (by decide) (fun c_52 => absurd c_52 (by decide)) (fun c_52 => ?_)
  refine x_iload_n hE dX11_thieves_55 rfl 1 rfl ?_
  refine x_iconst (v := -1) hE dX11_thieves_56 (by decide) ?_
  refine x_icmp_eq (tgt := 71) hE dX11_thieves_57 (by decide) (fun c_57 => ?_) (fun c_57 => absurd (by decide) c_57)
  refine x_iconst (v := 1) hE dX11_thieves_71 (by decide) ?_
  refine x_goto (tgt := 76) hE dX11_thieves_72 (by decide) ?_
  refine x_istore (lv' := [(4, .int 1), (3, .int 0), (2, .int (-1)), (1, .ref qa2), (0, .ref x)]) hE dX11_thieves_76 (by decide) rfl ?_
  refine x_iconst (v := 0) hE dX11_thieves_78 (by decide) ?_
  refine x_istore (lv' := [(5, .int 0), (4, .int 1), (3, .int 0), (2, .int (-1)), (1, .ref qa2), (0, .ref x)]) hE dX11_thieves_79 (by decide) rfl ?_
  refine x_iload hE dX11_thieves_81 0 rfl ?_
  refine x_aload_n hE dX11_thieves_83 rfl 5 rfl ?_
  refine h_getr hE (zX.all hxa2 hx) rfl inZX11 0 (by decide) q556 rfl dX11_thieves_84 ?_
  refine h_getr hE (zX.all hxa2 hn) rfl inZX4 3 (by decide) q373 rfl dX11_thieves_87 ?_
  refine h_geti hE (zX.all hxa2 hLi) rfl inZX1 0 (by decide) q319 rfl dX11_thieves_90 ?_
  refine x_norm (y := 0) ((((hxa2 _).2 _ hLi.1 (Nat.ne_of_lt (Nat.lt_succ_self _))).2.1 _ _).trans (pl0)) ?_
  refine x_icmp_ge (tgt := 123) hE dX11_thieves_93 (by decide) (fun c_93 => ?_) (fun c_93 => absurd (by decide) c_93)
  refine x_iload hE dX11_thieves_123 1 rfl ?_
  refine x_if_eq (tgt := 132) hE dX11_thieves_125 (by decide) (fun c_125 => absurd c_125 (by decide)) (fun c_125 => ?_)
  refine x_iload_n hE dX11_thieves_128 rfl 2 rfl ?_
  refine x_goto (tgt := 133) hE dX11_thieves_129 (by decide) ?_
  refine x_istore_n (lv' := [(2, .int 0), (5, .int 0), (4, .int 1), (3, .int 0), (1, .ref qa2), (0, .ref x)]) hE dX11_thieves_133 rfl (by decide) rfl ?_
  refine x_iinc (v := 1) (lv' := [(3, .int 1), (2, .int 0), (5, .int 0), (4, .int 1), (1, .ref qa2), (0, .ref x)]) hE dX11_thieves_134 3 rfl (by decide) (by decide) rfl ?_
  refine x_goto (tgt := 39) hE dX11_thieves_137 (by decide) ?_
  refine x_iload_n hE dX11_thieves_39 rfl 0 rfl ?_
  refine x_iconst (v := 1) hE dX11_thieves_40 (by decide) ?_
  refine x_aload_n hE dX11_thieves_41 rfl 5 rfl ?_
  refine h_getr hE (zX.all hxa2 hx) rfl inZX11 0 (by decide) q556 rfl dX11_thieves_42 ?_
  refine h_getr hE (zX.all hxa2 hn) rfl inZX4 0 (by decide) q362 rfl dX11_thieves_45 ?_
  refine h_geti hE (zX.all hxa2 hL) rfl inZX0 1 (by decide) q161 rfl dX11_thieves_48 ?_
  refine x_norm (y := 0) ((((hxa2 _).2 _ hL.1 (Nat.ne_of_lt (Nat.lt_succ_self _))).2.1 _ _).trans (p01)) ?_
  refine x_ishl hE dX11_thieves_51 ?_
  refine x_norm (y := 1) (by decide) ?_
  refine x_icmp_ge (tgt := 140) hE dX11_thieves_52 (by decide) (fun c_52 => ?_) (fun c_52 => absurd (by decide) c_52)
  refine x_iload_n hE dX11_thieves_140 rfl 1 rfl ?_
  exact hret _ _ _ _ _ _ _ _ (0) (Nat.le_of_ble_eq_true rfl) (Nat.le_of_ble_eq_true rfl) dX11_thieves_141 (rfl) (by grind [zb])
set_option maxHeartbeats 4000000 in
set_option maxRecDepth 100000 in
theorem o_forecast (l : Launch) (D : va_G) (cy : Nat → ClassId) (L : List Nat) (σ : Nat → va_E) (φ : Nat → Nat → Nat → Int32) (ρ : Nat → Nat → Int32) {x : Nat} (f : Int32) (h : Int32) (hx : zOR cy L σ φ x) : zMI l D cy yX11_forecast cX11_forecast 4 .int (zrm 3 0 0) [.ref x, .int f, .int h] L σ φ ρ (fun r _ => r = if f = -1 then 0 else if 0 ≤ f ∧ f ≤ 9 then 1 else -2) := by
  refine zMI.mk (by decide) (Nat.le_of_ble_eq_true rfl) (fun E hE hret => ?_)
  show zW E 0 0 L σ φ ρ 0 [(0, .ref x), (1, .int f), (2, .int h)] []
  obtain ⟨now, kept, tape, reader, weather, planner, ways, la, wo, sp, li, te, g, la', wo', sp', li', te', g', hx, hs, hs0, hk, hk0, htp, htp0, hrd, hrd0, hrd1, hwe, hwe0, hpl, hwy⟩ := hx
  obtain ⟨hn, hla, hwo, hsp, hli, hte⟩ := id hs
  obtain ⟨p45, p46, p00, p01, p10, p50, p51, pl0, pl1, pl2, pg⟩ := id hs0
  obtain ⟨f0, f1, f2, f3, f4, f5, f6, f7, hL, hL0, hL1, hL2, hL3, hL4, hL5, hL6, hL7⟩ := id hla
  obtain ⟨w0, w1, w2, w3, w4, w5, w6, w7, hW, hW0, hW1, hW2, hW3, hW4, hW5, hW6, hW7⟩ := id hwo
  obtain ⟨s0, s1, hSp, hSp0, hSp1, hSpW⟩ := id hsp
  obtain ⟨i0, i1, i2, i3, i4, i5, i6, i7, hLi, hLi0, hLi1, hLi2, hLi3, hLi4, hLi5, hLi6, hLi7⟩ := id hli
  obtain ⟨t0, t1, t2, t3, hTp, hTp0, hTp1, hTp2, hTp3, hTn1, hTn2⟩ := id htp
  refine x_aload_n hE dX11_forecast_0 rfl 0 rfl ?_
  refine h_getr hE hx rfl inZX11 0 (by decide) q556 rfl dX11_forecast_1 ?_
  refine h_getr hE hn rfl inZX4 3 (by decide) q373 rfl dX11_forecast_4 ?_
  refine x_astore_n (lv' := [(3, .ref li), (0, .ref x), (1, .int f), (2, .int h)]) hE dX11_forecast_7 rfl (by decide) rfl ?_
  refine x_iload_n hE dX11_forecast_8 rfl 2 rfl ?_
  refine x_iconst (v := -1) hE dX11_forecast_9 (by decide) ?_
  refine x_icmp_ne (tgt := 20) hE dX11_forecast_10 (by decide) (fun c_10 => ?_) (fun c_10 => ?_)
  · refine x_iload_n hE dX11_forecast_20 rfl 2 rfl ?_
    refine x_iconst (v := 0) hE dX11_forecast_21 (by decide) ?_
    refine x_bipush (v := 9) hE dX11_forecast_22 (by decide) ?_
    refine c_ip hE (r_S (st := []) hE (k_isWithin l D cy L σ φ ρ (f) (0) (9)) q582 q583 q113 q584 ⟨by decide, by decide, pn_X11_isWithin⟩ ⟨Nat.le_of_ble_eq_true rfl, Nat.le_of_ble_eq_true rfl⟩ ⟨Nat.le_of_ble_eq_true rfl, Nat.le_of_ble_eq_true rfl⟩ rfl (Nat.le_of_ble_eq_true rfl) dX11_forecast_24) (fun r24 h24 => ?_)
    refine x_widen (k' := 0) (n' := 0) (Nat.le_of_ble_eq_true rfl) (Nat.le_of_ble_eq_true rfl) ?_
    refine x_if_eq (tgt := 39) hE dX11_forecast_27 (by decide) (fun c_27 => ?_) (fun c_27 => ?_)
    · refine x_bipush (v := -2) hE dX11_forecast_39 (by decide) ?_
      exact hret _ _ _ _ _ _ _ _ (-2) (Nat.le_of_ble_eq_true rfl) (Nat.le_of_ble_eq_true rfl) dX11_forecast_41 (rfl) (by grind [zb])
    · refine x_aload_n hE dX11_forecast_30 rfl 0 rfl ?_
      refine h_geti hE hLi rfl inZX1 1 (by decide) q321 rfl dX11_forecast_31 ?_
      refine x_norm (y := 0) (pl1) ?_
      refine x_bipush (v := 12) hE dX11_forecast_34 (by decide) ?_
      refine x_icmp_lt (tgt := 42) hE dX11_forecast_36 (by decide) (fun c_36 => ?_) (fun c_36 => absurd (by decide) c_36)
      refine x_aload_n hE dX11_forecast_42 rfl 0 rfl ?_
      refine x_iload_n hE dX11_forecast_43 rfl 2 rfl ?_
      refine x_iload_n hE dX11_forecast_44 rfl 3 rfl ?_
      refine c_i hE (r_V (st := []) hE (k_addForecast l D cy L σ φ ρ (f) (h) hLi hLi3 hLi4 pl1) q1300 q1301 q1302 q118 q1303 hLi rfl ⟨by decide, by decide, pn_X1_addForecast⟩ ⟨Nat.le_of_ble_eq_true rfl, Nat.le_of_ble_eq_true rfl⟩ ⟨Nat.le_of_ble_eq_true rfl, Nat.le_of_ble_eq_true rfl⟩ rfl (Nat.le_of_ble_eq_true rfl) dX11_forecast_45) (fun r45 L' σ' φ' ρ' h_45 => ?_)
      refine x_widen (k' := 0) (n' := 0) (Nat.le_of_ble_eq_true rfl) (Nat.le_of_ble_eq_true rfl) ?_
      exact hret _ _ _ _ _ _ _ _ (r45) (Nat.le_of_ble_eq_true rfl) (Nat.le_of_ble_eq_true rfl) dX11_forecast_48 (rfl) (by grind [zb])
  · refine x_aload_n hE dX11_forecast_13 rfl 0 rfl ?_
    refine x_iconst (v := 0) hE dX11_forecast_14 (by decide) ?_
    refine h_puti (ty := .int) (ty0 := tyX1) hE hLi rfl inZX1 tyX1_ok nmX1 1 (by decide) q321 rfl rfl (by decide +kernel) rfl rfl dX11_forecast_15 ?_
    refine x_iconst (v := 0) hE dX11_forecast_18 (by decide) ?_
    exact hret _ _ _ _ _ _ _ _ (0) (Nat.le_of_ble_eq_true rfl) (Nat.le_of_ble_eq_true rfl) dX11_forecast_19 (rfl) (by grind [zb])
set_option maxHeartbeats 4000000 in
set_option maxRecDepth 100000 in
theorem o_errors (l : Launch) (D : va_G) (cy : Nat → ClassId) (L : List Nat) (σ : Nat → va_E) (φ : Nat → Nat → Nat → Int32) (ρ : Nat → Nat → Int32) {x : Nat} (t : Int32) (m : Int32) (hx : zOR cy L σ φ x) : zMI l D cy yX11_errors cX11_errors 3 .int (zrm 3 0 0) [.ref x, .int t, .int m] L σ φ ρ (fun r _ => r = if 0 ≤ t ∧ t ≤ 10 then 0 else -1) := by
  refine zMI.mk (by decide) (Nat.le_of_ble_eq_true rfl) (fun E hE hret => ?_)
  show zW E 0 0 L σ φ ρ 0 [(0, .ref x), (1, .int t), (2, .int m)] []
  obtain ⟨now, kept, tape, reader, weather, planner, ways, la, wo, sp, li, te, g, la', wo', sp', li', te', g', hx, hs, hs0, hk, hk0, htp, htp0, hrd, hrd0, hrd1, hwe, hwe0, hpl, hwy⟩ := hx
  obtain ⟨hn, hla, hwo, hsp, hli, hte⟩ := id hs
  obtain ⟨p45, p46, p00, p01, p10, p50, p51, pl0, pl1, pl2, pg⟩ := id hs0
  obtain ⟨f0, f1, f2, f3, f4, f5, f6, f7, hL, hL0, hL1, hL2, hL3, hL4, hL5, hL6, hL7⟩ := id hla
  obtain ⟨w0, w1, w2, w3, w4, w5, w6, w7, hW, hW0, hW1, hW2, hW3, hW4, hW5, hW6, hW7⟩ := id hwo
  obtain ⟨s0, s1, hSp, hSp0, hSp1, hSpW⟩ := id hsp
  obtain ⟨i0, i1, i2, i3, i4, i5, i6, i7, hLi, hLi0, hLi1, hLi2, hLi3, hLi4, hLi5, hLi6, hLi7⟩ := id hli
  obtain ⟨t0, t1, t2, t3, hTp, hTp0, hTp1, hTp2, hTp3, hTn1, hTn2⟩ := id htp
  refine x_iload_n hE dX11_errors_0 rfl 1 rfl ?_
  refine x_iconst (v := 0) hE dX11_errors_1 (by decide) ?_
  refine x_bipush (v := 10) hE dX11_errors_2 (by decide) ?_
  refine c_ip hE (r_S (st := []) hE (k_isWithin l D cy L σ φ ρ (t) (0) (10)) q582 q583 q113 q584 ⟨by decide, by decide, pn_X11_isWithin⟩ ⟨Nat.le_of_ble_eq_true rfl, Nat.le_of_ble_eq_true rfl⟩ ⟨Nat.le_of_ble_eq_true rfl, Nat.le_of_ble_eq_true rfl⟩ rfl (Nat.le_of_ble_eq_true rfl) dX11_errors_4) (fun r4 h4 => ?_)
  refine x_widen (k' := 0) (n' := 0) (Nat.le_of_ble_eq_true rfl) (Nat.le_of_ble_eq_true rfl) ?_
  refine x_if_ne (tgt := 12) hE dX11_errors_7 (by decide) (fun c_7 => ?_) (fun c_7 => ?_)
  · refine x_iload_n hE dX11_errors_12 rfl 2 rfl ?_
    refine x_if_eq (tgt := 30) hE dX11_errors_13 (by decide) (fun c_13 => ?_) (fun c_13 => ?_)
    · refine x_aload_n hE dX11_errors_30 rfl 0 rfl ?_
      refine h_getr hE hx rfl inZX11 0 (by decide) q556 rfl dX11_errors_31 ?_
      refine h_getr hE hn rfl inZX4 3 (by decide) q373 rfl dX11_errors_34 ?_
      refine x_iload_n hE dX11_errors_37 rfl 1 rfl ?_
      refine c_ip hE (r_V (st := []) hE (k_falseAlarms l D cy L σ φ ρ (t) hLi pl1) q1312 q1313 q1314 q118 q1315 hLi rfl ⟨by decide, by decide, pn_X1_falseAlarms⟩ ⟨Nat.le_of_ble_eq_true rfl, Nat.le_of_ble_eq_true rfl⟩ ⟨Nat.le_of_ble_eq_true rfl, Nat.le_of_ble_eq_true rfl⟩ rfl (Nat.le_of_ble_eq_true rfl) dX11_errors_38) (fun r38 h_38 => ?_)
      refine x_widen (k' := 0) (n' := 0) (Nat.le_of_ble_eq_true rfl) (Nat.le_of_ble_eq_true rfl) ?_
      refine x_norm (y := 0) (h_38) ?_
      exact hret _ _ _ _ _ _ _ _ (0) (Nat.le_of_ble_eq_true rfl) (Nat.le_of_ble_eq_true rfl) dX11_errors_41 (rfl) (by grind [zb])
    · refine x_aload_n hE dX11_errors_16 rfl 0 rfl ?_
      refine h_getr hE hx rfl inZX11 0 (by decide) q556 rfl dX11_errors_17 ?_
      refine h_getr hE hn rfl inZX4 3 (by decide) q373 rfl dX11_errors_20 ?_
      refine x_iload_n hE dX11_errors_23 rfl 1 rfl ?_
      refine c_ip hE (r_V (st := []) hE (k_misses l D cy L σ φ ρ (t) hLi pl1) q1308 q1309 q1310 q118 q1311 hLi rfl ⟨by decide, by decide, pn_X1_misses⟩ ⟨Nat.le_of_ble_eq_true rfl, Nat.le_of_ble_eq_true rfl⟩ ⟨Nat.le_of_ble_eq_true rfl, Nat.le_of_ble_eq_true rfl⟩ rfl (Nat.le_of_ble_eq_true rfl) dX11_errors_24) (fun r24 h_24 => ?_)
      refine x_widen (k' := 0) (n' := 0) (Nat.le_of_ble_eq_true rfl) (Nat.le_of_ble_eq_true rfl) ?_
      refine x_norm (y := 0) (h_24) ?_
      refine x_goto (tgt := 41) hE dX11_errors_27 (by decide) ?_
      exact hret _ _ _ _ _ _ _ _ (0) (Nat.le_of_ble_eq_true rfl) (Nat.le_of_ble_eq_true rfl) dX11_errors_41 (rfl) (by grind [zb])
  · refine x_iconst (v := -1) hE dX11_errors_10 (by decide) ?_
    exact hret _ _ _ _ _ _ _ _ (-1) (Nat.le_of_ble_eq_true rfl) (Nat.le_of_ble_eq_true rfl) dX11_errors_11 (rfl) (by grind [zb])
set_option maxHeartbeats 4000000 in
set_option maxRecDepth 100000 in
theorem o_offer (l : Launch) (D : va_G) (cy : Nat → ClassId) (L : List Nat) (σ : Nat → va_E) (φ : Nat → Nat → Nat → Int32) (ρ : Nat → Nat → Int32) {x : Nat} (b : Int32) (p : Int32) (d : Int32) (hx : zOR cy L σ φ x) : zMI l D cy yX11_offer cX11_offer 5 .int (zrm 3 0 0) [.ref x, .int b, .int p, .int d] L σ φ ρ (fun r _ => r = if d = 0 then 0 else if (0 ≤ p ∧ p ≤ 99) ∧ (1 ≤ d ∧ d ≤ 99) then 1 else -1) := by
  refine zMI.mk (by decide) (Nat.le_of_ble_eq_true rfl) (fun E hE hret => ?_)
  show zW E 0 0 L σ φ ρ 0 [(0, .ref x), (1, .int b), (2, .int p), (3, .int d)] []
  obtain ⟨now, kept, tape, reader, weather, planner, ways, la, wo, sp, li, te, g, la', wo', sp', li', te', g', hx, hs, hs0, hk, hk0, htp, htp0, hrd, hrd0, hrd1, hwe, hwe0, hpl, hwy⟩ := hx
  obtain ⟨hn, hla, hwo, hsp, hli, hte⟩ := id hs
  obtain ⟨p45, p46, p00, p01, p10, p50, p51, pl0, pl1, pl2, pg⟩ := id hs0
  obtain ⟨f0, f1, f2, f3, f4, f5, f6, f7, hL, hL0, hL1, hL2, hL3, hL4, hL5, hL6, hL7⟩ := id hla
  obtain ⟨w0, w1, w2, w3, w4, w5, w6, w7, hW, hW0, hW1, hW2, hW3, hW4, hW5, hW6, hW7⟩ := id hwo
  obtain ⟨s0, s1, hSp, hSp0, hSp1, hSpW⟩ := id hsp
  obtain ⟨i0, i1, i2, i3, i4, i5, i6, i7, hLi, hLi0, hLi1, hLi2, hLi3, hLi4, hLi5, hLi6, hLi7⟩ := id hli
  obtain ⟨t0, t1, t2, t3, hTp, hTp0, hTp1, hTp2, hTp3, hTn1, hTn2⟩ := id htp
  refine x_aload_n hE dX11_offer_0 rfl 0 rfl ?_
  refine h_getr hE hx rfl inZX11 0 (by decide) q556 rfl dX11_offer_1 ?_
  refine h_getr hE hn rfl inZX4 3 (by decide) q373 rfl dX11_offer_4 ?_
  refine x_astore (lv' := [(4, .ref li), (0, .ref x), (1, .int b), (2, .int p), (3, .int d)]) hE dX11_offer_7 (by decide) rfl ?_
  refine x_iload_n hE dX11_offer_9 rfl 4 rfl ?_
  refine x_if_ne (tgt := 21) hE dX11_offer_10 (by decide) (fun c_10 => ?_) (fun c_10 => ?_)
  · refine x_iload_n hE dX11_offer_21 rfl 3 rfl ?_
    refine x_iconst (v := 0) hE dX11_offer_22 (by decide) ?_
    refine x_bipush (v := 99) hE dX11_offer_23 (by decide) ?_
    refine c_ip hE (r_S (st := []) hE (k_isWithin l D cy L σ φ ρ (p) (0) (99)) q582 q583 q113 q584 ⟨by decide, by decide, pn_X11_isWithin⟩ ⟨Nat.le_of_ble_eq_true rfl, Nat.le_of_ble_eq_true rfl⟩ ⟨Nat.le_of_ble_eq_true rfl, Nat.le_of_ble_eq_true rfl⟩ rfl (Nat.le_of_ble_eq_true rfl) dX11_offer_25) (fun r25 h25 => ?_)
    refine x_widen (k' := 0) (n' := 0) (Nat.le_of_ble_eq_true rfl) (Nat.le_of_ble_eq_true rfl) ?_
    refine x_if_eq (tgt := 51) hE dX11_offer_28 (by decide) (fun c_28 => ?_) (fun c_28 => ?_)
    · refine x_iconst (v := -1) hE dX11_offer_51 (by decide) ?_
      exact hret _ _ _ _ _ _ _ _ (-1) (Nat.le_of_ble_eq_true rfl) (Nat.le_of_ble_eq_true rfl) dX11_offer_52 (rfl) (by grind [zb])
    · refine x_iload_n hE dX11_offer_31 rfl 4 rfl ?_
      refine x_iconst (v := 1) hE dX11_offer_32 (by decide) ?_
      refine x_bipush (v := 99) hE dX11_offer_33 (by decide) ?_
      refine c_ip hE (r_S (st := []) hE (k_isWithin l D cy L σ φ ρ (d) (1) (99)) q582 q583 q113 q584 ⟨by decide, by decide, pn_X11_isWithin⟩ ⟨Nat.le_of_ble_eq_true rfl, Nat.le_of_ble_eq_true rfl⟩ ⟨Nat.le_of_ble_eq_true rfl, Nat.le_of_ble_eq_true rfl⟩ rfl (Nat.le_of_ble_eq_true rfl) dX11_offer_35) (fun r35 h35 => ?_)
      refine x_widen (k' := 0) (n' := 0) (Nat.le_of_ble_eq_true rfl) (Nat.le_of_ble_eq_true rfl) ?_
      refine x_if_eq (tgt := 51) hE dX11_offer_38 (by decide) (fun c_38 => ?_) (fun c_38 => ?_)
      · refine x_iconst (v := -1) hE dX11_offer_51 (by decide) ?_
        exact hret _ _ _ _ _ _ _ _ (-1) (Nat.le_of_ble_eq_true rfl) (Nat.le_of_ble_eq_true rfl) dX11_offer_52 (rfl) (by grind [zb])
      · refine x_aload hE dX11_offer_41 0 rfl ?_
        refine h_geti hE hLi rfl inZX1 2 (by decide) q323 rfl dX11_offer_43 ?_
        refine x_norm (y := 0) (pl2) ?_
        refine x_bipush (v := 10) hE dX11_offer_46 (by decide) ?_
        refine x_icmp_lt (tgt := 53) hE dX11_offer_48 (by decide) (fun c_48 => ?_) (fun c_48 => absurd (by decide) c_48)
        refine x_aload hE dX11_offer_53 0 rfl ?_
        refine x_iload_n hE dX11_offer_55 rfl 2 rfl ?_
        refine x_iload_n hE dX11_offer_56 rfl 3 rfl ?_
        refine x_iload_n hE dX11_offer_57 rfl 4 rfl ?_
        refine c_i hE (r_V (st := []) hE (k_addOffer l D cy L σ φ ρ (b) (p) (d) hLi hLi5 hLi6 hLi7 pl2) q1324 q1325 q1326 q118 q1327 hLi rfl ⟨by decide, by decide, pn_X1_addOffer⟩ ⟨Nat.le_of_ble_eq_true rfl, Nat.le_of_ble_eq_true rfl⟩ ⟨Nat.le_of_ble_eq_true rfl, Nat.le_of_ble_eq_true rfl⟩ rfl (Nat.le_of_ble_eq_true rfl) dX11_offer_58) (fun r58 L' σ' φ' ρ' h_58 => ?_)
        refine x_widen (k' := 0) (n' := 0) (Nat.le_of_ble_eq_true rfl) (Nat.le_of_ble_eq_true rfl) ?_
        exact hret _ _ _ _ _ _ _ _ (r58) (Nat.le_of_ble_eq_true rfl) (Nat.le_of_ble_eq_true rfl) dX11_offer_61 (rfl) (by grind [zb])
  · refine x_aload hE dX11_offer_13 0 rfl ?_
    refine x_iconst (v := 0) hE dX11_offer_15 (by decide) ?_
    refine h_puti (ty := .int) (ty0 := tyX1) hE hLi rfl inZX1 tyX1_ok nmX1 2 (by decide) q323 rfl rfl (by decide +kernel) rfl rfl dX11_offer_16 ?_
    refine x_iconst (v := 0) hE dX11_offer_19 (by decide) ?_
    exact hret _ _ _ _ _ _ _ _ (0) (Nat.le_of_ble_eq_true rfl) (Nat.le_of_ble_eq_true rfl) dX11_offer_20 (rfl) (by grind [zb])
set_option maxHeartbeats 4000000 in
set_option maxRecDepth 100000 in
theorem o_bound (l : Launch) (D : va_G) (cy : Nat → ClassId) (L : List Nat) (σ : Nat → va_E) (φ : Nat → Nat → Nat → Int32) (ρ : Nat → Nat → Int32) {x : Nat}  (hx : zOR cy L σ φ x) : zMI l D cy yX11_bound cX11_bound 4 .int (zrm 3 0 0) [.ref x] L σ φ ρ (fun r _ => r = 0) := by
  refine zMI.mk (by decide) (Nat.le_of_ble_eq_true rfl) (fun E hE hret => ?_)
  show zW E 0 0 L σ φ ρ 0 [(0, .ref x)] []
  obtain ⟨now, kept, tape, reader, weather, planner, ways, la, wo, sp, li, te, g, la', wo', sp', li', te', g', hx, hs, hs0, hk, hk0, htp, htp0, hrd, hrd0, hrd1, hwe, hwe0, hpl, hwy⟩ := hx
  obtain ⟨hn, hla, hwo, hsp, hli, hte⟩ := id hs
  obtain ⟨p45, p46, p00, p01, p10, p50, p51, pl0, pl1, pl2, pg⟩ := id hs0
  obtain ⟨f0, f1, f2, f3, f4, f5, f6, f7, hL, hL0, hL1, hL2, hL3, hL4, hL5, hL6, hL7⟩ := id hla
  obtain ⟨w0, w1, w2, w3, w4, w5, w6, w7, hW, hW0, hW1, hW2, hW3, hW4, hW5, hW6, hW7⟩ := id hwo
  obtain ⟨s0, s1, hSp, hSp0, hSp1, hSpW⟩ := id hsp
  obtain ⟨i0, i1, i2, i3, i4, i5, i6, i7, hLi, hLi0, hLi1, hLi2, hLi3, hLi4, hLi5, hLi6, hLi7⟩ := id hli
  obtain ⟨t0, t1, t2, t3, hTp, hTp0, hTp1, hTp2, hTp3, hTn1, hTn2⟩ := id htp
  refine x_aload_n hE dX11_bound_0 rfl 0 rfl ?_
  refine h_getr hE hx rfl inZX11 0 (by decide) q556 rfl dX11_bound_1 ?_
  refine h_getr hE hn rfl inZX4 3 (by decide) q373 rfl dX11_bound_4 ?_
  refine x_astore_n (lv' := [(1, .ref li), (0, .ref x)]) hE dX11_bound_7 rfl (by decide) rfl ?_
  refine x_iconst (v := 0) hE dX11_bound_8 (by decide) ?_
  refine x_istore_n (lv' := [(2, .int 0), (1, .ref li), (0, .ref x)]) hE dX11_bound_9 rfl (by decide) rfl ?_
  refine x_iconst (v := 1) hE dX11_bound_10 (by decide) ?_
  refine x_istore_n (lv' := [(3, .int 1), (2, .int 0), (1, .ref li), (0, .ref x)]) hE dX11_bound_11 rfl (by decide) rfl ?_
  refine x_iload_n hE dX11_bound_12 rfl 0 rfl ?_
  refine x_bipush (v := 10) hE dX11_bound_13 (by decide) ?_
  refine x_icmp_gt (tgt := 51) hE dX11_bound_15 (by decide) (fun c_15 => absurd c_15 (by decide)) (fun c_15 => ?_)
  refine x_aload_n hE dX11_bound_18 rfl 2 rfl ?_
  refine x_iload_n hE dX11_bound_19 rfl 0 rfl ?_
  refine c_ip hE (r_V (st := []) hE (k_misses l D cy L σ φ ρ (1) hLi pl1) q1308 q1309 q1310 q118 q1311 hLi rfl ⟨by decide, by decide, pn_X1_misses⟩ ⟨Nat.le_of_ble_eq_true rfl, Nat.le_of_ble_eq_true rfl⟩ ⟨Nat.le_of_ble_eq_true rfl, Nat.le_of_ble_eq_true rfl⟩ rfl (Nat.le_of_ble_eq_true rfl) dX11_bound_20) (fun r20 h_20 => ?_)
  refine x_widen (k' := 0) (n' := 0) (Nat.le_of_ble_eq_true rfl) (Nat.le_of_ble_eq_true rfl) ?_
  refine x_norm (y := 0) (h_20) ?_
  refine x_aload_n hE dX11_bound_23 rfl 2 rfl ?_
  refine x_iload_n hE dX11_bound_24 rfl 0 rfl ?_
  refine c_ip hE (r_V (st := [.int 0]) hE (k_falseAlarms l D cy L σ φ ρ (1) hLi pl1) q1312 q1313 q1314 q118 q1315 hLi rfl ⟨by decide, by decide, pn_X1_falseAlarms⟩ ⟨Nat.le_of_ble_eq_true rfl, Nat.le_of_ble_eq_true rfl⟩ ⟨Nat.le_of_ble_eq_true rfl, Nat.le_of_ble_eq_true rfl⟩ rfl (Nat.le_of_ble_eq_true rfl) dX11_bound_25) (fun r25 h_25 => ?_)
  refine x_widen (k' := 0) (n' := 0) (Nat.le_of_ble_eq_true rfl) (Nat.le_of_ble_eq_true rfl) ?_
  refine x_norm (y := 0) (h_25) ?_
  refine x_iadd hE dX11_bound_28 ?_
  refine x_norm (y := 0) (by decide) ?_
  refine x_aload_n hE dX11_bound_29 rfl 2 rfl ?_
  refine x_iload_n hE dX11_bound_30 rfl 1 rfl ?_
  refine c_ip hE (r_V (st := [.int 0]) hE (k_misses l D cy L σ φ ρ (0) hLi pl1) q1308 q1309 q1310 q118 q1311 hLi rfl ⟨by decide, by decide, pn_X1_misses⟩ ⟨Nat.le_of_ble_eq_true rfl, Nat.le_of_ble_eq_true rfl⟩ ⟨Nat.le_of_ble_eq_true rfl, Nat.le_of_ble_eq_true rfl⟩ rfl (Nat.le_of_ble_eq_true rfl) dX11_bound_31) (fun r31 h_31 => ?_)
  refine x_widen (k' := 0) (n' := 0) (Nat.le_of_ble_eq_true rfl) (Nat.le_of_ble_eq_true rfl) ?_
  refine x_norm (y := 0) (h_31) ?_
  refine x_aload_n hE dX11_bound_34 rfl 2 rfl ?_
  refine x_iload_n hE dX11_bound_35 rfl 1 rfl ?_
  refine c_ip hE (r_V (st := [.int 0, .int 0]) hE (k_falseAlarms l D cy L σ φ ρ (0) hLi pl1) q1312 q1313 q1314 q118 q1315 hLi rfl ⟨by decide, by decide, pn_X1_falseAlarms⟩ ⟨Nat.le_of_ble_eq_true rfl, Nat.le_of_ble_eq_true rfl⟩ ⟨Nat.le_of_ble_eq_true rfl, Nat.le_of_ble_eq_true rfl⟩ rfl (Nat.le_of_ble_eq_true rfl) dX11_bound_36) (fun r36 h_36 => ?_)
  refine x_widen (k' := 0) (n' := 0) (Nat.le_of_ble_eq_true rfl) (Nat.le_of_ble_eq_true rfl) ?_
  refine x_norm (y := 0) (h_36) ?_
  refine x_iadd hE dX11_bound_39 ?_
  refine x_norm (y := 0) (by decide) ?_
  refine x_icmp_ge (tgt := 45) hE dX11_bound_40 (by decide) (fun c_40 => ?_) (fun c_40 => absurd (by decide) c_40)
  refine x_iinc (v := 2) (lv' := [(3, .int 2), (2, .int 0), (1, .ref li), (0, .ref x)]) hE dX11_bound_45 0 rfl (by decide) (by decide) rfl ?_
  refine x_goto (tgt := 12) hE dX11_bound_48 (by decide) ?_
  refine x_iload_n hE dX11_bound_12 rfl 0 rfl ?_
  refine x_bipush (v := 10) hE dX11_bound_13 (by decide) ?_
  refine x_icmp_gt (tgt := 51) hE dX11_bound_15 (by decide) (fun c_15 => absurd c_15 (by decide)) (fun c_15 => ?_)
  refine x_aload_n hE dX11_bound_18 rfl 2 rfl ?_
  refine x_iload_n hE dX11_bound_19 rfl 0 rfl ?_
  refine c_ip hE (r_V (st := []) hE (k_misses l D cy L σ φ ρ (2) hLi pl1) q1308 q1309 q1310 q118 q1311 hLi rfl ⟨by decide, by decide, pn_X1_misses⟩ ⟨Nat.le_of_ble_eq_true rfl, Nat.le_of_ble_eq_true rfl⟩ ⟨Nat.le_of_ble_eq_true rfl, Nat.le_of_ble_eq_true rfl⟩ rfl (Nat.le_of_ble_eq_true rfl) dX11_bound_20) (fun r20 h_20 => ?_)
  refine x_widen (k' := 0) (n' := 0) (Nat.le_of_ble_eq_true rfl) (Nat.le_of_ble_eq_true rfl) ?_
  refine x_norm (y := 0) (h_20) ?_
  refine x_aload_n hE dX11_bound_23 rfl 2 rfl ?_
  refine x_iload_n hE dX11_bound_24 rfl 0 rfl ?_
  refine c_ip hE (r_V (st := [.int 0]) hE (k_falseAlarms l D cy L σ φ ρ (2) hLi pl1) q1312 q1313 q1314 q118 q1315 hLi rfl ⟨by decide, by decide, pn_X1_falseAlarms⟩ ⟨Nat.le_of_ble_eq_true rfl, Nat.le_of_ble_eq_true rfl⟩ ⟨Nat.le_of_ble_eq_true rfl, Nat.le_of_ble_eq_true rfl⟩ rfl (Nat.le_of_ble_eq_true rfl) dX11_bound_25) (fun r25 h_25 => ?_)
  refine x_widen (k' := 0) (n' := 0) (Nat.le_of_ble_eq_true rfl) (Nat.le_of_ble_eq_true rfl) ?_
  refine x_norm (y := 0) (h_25) ?_
  refine x_iadd hE dX11_bound_28 ?_
  refine x_norm (y := 0) (by decide) ?_
  refine x_aload_n hE dX11_bound_29 rfl 2 rfl ?_
  refine x_iload_n hE dX11_bound_30 rfl 1 rfl ?_
  refine c_ip hE (r_V (st := [.int 0]) hE (k_misses l D cy L σ φ ρ (0) hLi pl1) q1308 q1309 q1310 q118 q1311 hLi rfl ⟨by decide, by decide, pn_X1_misses⟩ ⟨Nat.le_of_ble_eq_true rfl, Nat.le_of_ble_eq_true rfl⟩ ⟨Nat.le_of_ble_eq_true rfl, Nat.le_of_ble_eq_true rfl⟩ rfl (Nat.le_of_ble_eq_true rfl) dX11_bound_31) (fun r31 h_31 => ?_)
  refine x_widen (k' := 0) (n' := 0) (Nat.le_of_ble_eq_true rfl) (Nat.le_of_ble_eq_true rfl) ?_
  refine x_norm (y := 0) (h_31) ?_
  refine x_aload_n hE dX11_bound_34 rfl 2 rfl ?_
  refine x_iload_n hE dX11_bound_35 rfl 1 rfl ?_
  refine c_ip hE (r_V (st := [.int 0, .int 0]) hE (k_falseAlarms l D cy L σ φ ρ (0) hLi pl1) q1312 q1313 q1314 q118 q1315 hLi rfl ⟨by decide, by decide, pn_X1_falseAlarms⟩ ⟨Nat.le_of_ble_eq_true rfl, Nat.le_of_ble_eq_true rfl⟩ ⟨Nat.le_of_ble_eq_true rfl, Nat.le_of_ble_eq_true rfl⟩ rfl (Nat.le_of_ble_eq_true rfl) dX11_bound_36) (fun r36 h_36 => ?_)
  refine x_widen (k' := 0) (n' := 0) (Nat.le_of_ble_eq_true rfl) (Nat.le_of_ble_eq_true rfl) ?_
  refine x_norm (y := 0) (h_36) ?_
  refine x_iadd hE dX11_bound_39 ?_
  refine x_norm (y := 0) (by decide) ?_
  refine x_icmp_ge (tgt := 45) hE dX11_bound_40 (by decide) (fun c_40 => ?_) (fun c_40 => absurd (by decide) c_40)
  refine x_iinc (v := 3) (lv' := [(3, .int 3), (2, .int 0), (1, .ref li), (0, .ref x)]) hE dX11_bound_45 0 rfl (by decide) (by decide) rfl ?_
  refine x_goto (tgt := 12) hE dX11_bound_48 (by decide) ?_
  refine x_iload_n hE dX11_bound_12 rfl 0 rfl ?_
  refine x_bipush (v := 10) hE dX11_bound_13 (by decide) ?_
  refine x_icmp_gt (tgt := 51) hE dX11_bound_15 (by decide) (fun c_15 => absurd c_15 (by decide)) (fun c_15 => ?_)
  refine x_aload_n hE dX11_bound_18 rfl 2 rfl ?_
  refine x_iload_n hE dX11_bound_19 rfl 0 rfl ?_
  refine c_ip hE (r_V (st := []) hE (k_misses l D cy L σ φ ρ (3) hLi pl1) q1308 q1309 q1310 q118 q1311 hLi rfl ⟨by decide, by decide, pn_X1_misses⟩ ⟨Nat.le_of_ble_eq_true rfl, Nat.le_of_ble_eq_true rfl⟩ ⟨Nat.le_of_ble_eq_true rfl, Nat.le_of_ble_eq_true rfl⟩ rfl (Nat.le_of_ble_eq_true rfl) dX11_bound_20) (fun r20 h_20 => ?_)
  refine x_widen (k' := 0) (n' := 0) (Nat.le_of_ble_eq_true rfl) (Nat.le_of_ble_eq_true rfl) ?_
  refine x_norm (y := 0) (h_20) ?_
  refine x_aload_n hE dX11_bound_23 rfl 2 rfl ?_
  refine x_iload_n hE dX11_bound_24 rfl 0 rfl ?_
  refine c_ip hE (r_V (st := [.int 0]) hE (k_falseAlarms l D cy L σ φ ρ (3) hLi pl1) q1312 q1313 q1314 q118 q1315 hLi rfl ⟨by decide, by decide, pn_X1_falseAlarms⟩ ⟨Nat.le_of_ble_eq_true rfl, Nat.le_of_ble_eq_true rfl⟩ ⟨Nat.le_of_ble_eq_true rfl, Nat.le_of_ble_eq_true rfl⟩ rfl (Nat.le_of_ble_eq_true rfl) dX11_bound_25) (fun r25 h_25 => ?_)
  refine x_widen (k' := 0) (n' := 0) (Nat.le_of_ble_eq_true rfl) (Nat.le_of_ble_eq_true rfl) ?_
  refine x_norm (y := 0) (h_25) ?_
  refine x_iadd hE dX11_bound_28 ?_
  refine x_norm (y := 0) (by decide) ?_
  refine x_aload_n hE dX11_bound_29 rfl 2 rfl ?_
  refine x_iload_n hE dX11_bound_30 rfl 1 rfl ?_
  refine c_ip hE (r_V (st := [.int 0]) hE (k_misses l D cy L σ φ ρ (0) hLi pl1) q1308 q1309 q1310 q118 q1311 hLi rfl ⟨by decide, by decide, pn_X1_misses⟩ ⟨Nat.le_of_ble_eq_true rfl, Nat.le_of_ble_eq_true rfl⟩ ⟨Nat.le_of_ble_eq_true rfl, Nat.le_of_ble_eq_true rfl⟩ rfl (Nat.le_of_ble_eq_true rfl) dX11_bound_31) (fun r31 h_31 => ?_)
  refine x_widen (k' := 0) (n' := 0) (Nat.le_of_ble_eq_true rfl) (Nat.le_of_ble_eq_true rfl) ?_
  refine x_norm (y := 0) (h_31) ?_
  refine x_aload_n hE dX11_bound_34 rfl 2 rfl ?_
  refine x_iload_n hE dX11_bound_35 rfl 1 rfl ?_
  refine c_ip hE (r_V (st := [.int 0, .int 0]) hE (k_falseAlarms l D cy L σ φ ρ (0) hLi pl1) q1312 q1313 q1314 q118 q1315 hLi rfl ⟨by decide, by decide, pn_X1_falseAlarms⟩ ⟨Nat.le_of_ble_eq_true rfl, Nat.le_of_ble_eq_true rfl⟩ ⟨Nat.le_of_ble_eq_true rfl, Nat.le_of_ble_eq_true rfl⟩ rfl (Nat.le_of_ble_eq_true rfl) dX11_bound_36) (fun r36 h_36 => ?_)
  refine x_widen (k' := 0) (n' := 0) (Nat.le_of_ble_eq_true rfl) (Nat.le_of_ble_eq_true rfl) ?_
  refine x_norm (y := 0) (h_36) ?_
  refine x_iadd hE dX11_bound_39 ?_
  refine x_norm (y := 0) (by decide) ?_
  refine x_icmp_ge (tgt := 45) hE dX11_bound_40 (by decide) (fun c_40 => ?_) (fun c_40 => absurd (by decide) c_40)
  refine x_iinc (v := 4) (lv' := [(3, .int 4), (2, .int 0), (1, .ref li), (0, .ref x)]) hE dX11_bound_45 0 rfl (by decide) (by decide) rfl ?_
  refine x_goto (tgt := 12) hE dX11_bound_48 (by decide) ?_
  refine x_iload_n hE dX11_bound_12 rfl 0 rfl ?_
  refine x_bipush (v := 10) hE dX11_bound_13 (by decide) ?_
  refine x_icmp_gt (tgt := 51) hE dX11_bound_15 (by decide) (fun c_15 => absurd c_15 (by decide)) (fun c_15 => ?_)
  refine x_aload_n hE dX11_bound_18 rfl 2 rfl ?_
  refine x_iload_n hE dX11_bound_19 rfl 0 rfl ?_
  refine c_ip hE (r_V (st := []) hE (k_misses l D cy L σ φ ρ (4) hLi pl1) q1308 q1309 q1310 q118 q1311 hLi rfl ⟨by decide, by decide, pn_X1_misses⟩ ⟨Nat.le_of_ble_eq_true rfl, Nat.le_of_ble_eq_true rfl⟩ ⟨Nat.le_of_ble_eq_true rfl, Nat.le_of_ble_eq_true rfl⟩ rfl (Nat.le_of_ble_eq_true rfl) dX11_bound_20) (fun r20 h_20 => ?_)
  refine x_widen (k' := 0) (n' := 0) (Nat.le_of_ble_eq_true rfl) (Nat.le_of_ble_eq_true rfl) ?_
  refine x_norm (y := 0) (h_20) ?_
  refine x_aload_n hE dX11_bound_23 rfl 2 rfl ?_
  refine x_iload_n hE dX11_bound_24 rfl 0 rfl ?_
  refine c_ip hE (r_V (st := [.int 0]) hE (k_falseAlarms l D cy L σ φ ρ (4) hLi pl1) q1312 q1313 q1314 q118 q1315 hLi rfl ⟨by decide, by decide, pn_X1_falseAlarms⟩ ⟨Nat.le_of_ble_eq_true rfl, Nat.le_of_ble_eq_true rfl⟩ ⟨Nat.le_of_ble_eq_true rfl, Nat.le_of_ble_eq_true rfl⟩ rfl (Nat.le_of_ble_eq_true rfl) dX11_bound_25) (fun r25 h_25 => ?_)
  refine x_widen (k' := 0) (n' := 0) (Nat.le_of_ble_eq_true rfl) (Nat.le_of_ble_eq_true rfl) ?_
  refine x_norm (y := 0) (h_25) ?_
  refine x_iadd hE dX11_bound_28 ?_
  refine x_norm (y := 0) (by decide) ?_
  refine x_aload_n hE dX11_bound_29 rfl 2 rfl ?_
  refine x_iload_n hE dX11_bound_30 rfl 1 rfl ?_
  refine c_ip hE (r_V (st := [.int 0]) hE (k_misses l D cy L σ φ ρ (0) hLi pl1) q1308 q1309 q1310 q118 q1311 hLi rfl ⟨by decide, by decide, pn_X1_misses⟩ ⟨Nat.le_of_ble_eq_true rfl, Nat.le_of_ble_eq_true rfl⟩ ⟨Nat.le_of_ble_eq_true rfl, Nat.le_of_ble_eq_true rfl⟩ rfl (Nat.le_of_ble_eq_true rfl) dX11_bound_31) (fun r31 h_31 => ?_)
  refine x_widen (k' := 0) (n' := 0) (Nat.le_of_ble_eq_true rfl) (Nat.le_of_ble_eq_true rfl) ?_
  refine x_norm (y := 0) (h_31) ?_
  refine x_aload_n hE dX11_bound_34 rfl 2 rfl ?_
  refine x_iload_n hE dX11_bound_35 rfl 1 rfl ?_
  refine c_ip hE (r_V (st := [.int 0, .int 0]) hE (k_falseAlarms l D cy L σ φ ρ (0) hLi pl1) q1312 q1313 q1314 q118 q1315 hLi rfl ⟨by decide, by decide, pn_X1_falseAlarms⟩ ⟨Nat.le_of_ble_eq_true rfl, Nat.le_of_ble_eq_true rfl⟩ ⟨Nat.le_of_ble_eq_true rfl, Nat.le_of_ble_eq_true rfl⟩ rfl (Nat.le_of_ble_eq_true rfl) dX11_bound_36) (fun r36 h_36 => ?_)
  refine x_widen (k' := 0) (n' := 0) (Nat.le_of_ble_eq_true rfl) (Nat.le_of_ble_eq_true rfl) ?_
  refine x_norm (y := 0) (h_36) ?_
  refine x_iadd hE dX11_bound_39 ?_
  refine x_norm (y := 0) (by decide) ?_
  refine x_icmp_ge (tgt := 45) hE dX11_bound_40 (by decide) (fun c_40 => ?_) (fun c_40 => absurd (by decide) c_40)
  refine x_iinc (v := 5) (lv' := [(3, .int 5), (2, .int 0), (1, .ref li), (0, .ref x)]) hE dX11_bound_45 0 rfl (by decide) (by decide) rfl ?_
  refine x_goto (tgt := 12) hE dX11_bound_48 (by decide) ?_
  refine x_iload_n hE dX11_bound_12 rfl 0 rfl ?_
  refine x_bipush (v := 10) hE dX11_bound_13 (by decide) ?_
  refine x_icmp_gt (tgt := 51) hE dX11_bound_15 (by decide) (fun c_15 => absurd c_15 (by decide)) (fun c_15 => ?_)
  refine x_aload_n hE dX11_bound_18 rfl 2 rfl ?_
  refine x_iload_n hE dX11_bound_19 rfl 0 rfl ?_
  refine c_ip hE (r_V (st := []) hE (k_misses l D cy L σ φ ρ (5) hLi pl1) q1308 q1309 q1310 q118 q1311 hLi rfl ⟨by decide, by decide, pn_X1_misses⟩ ⟨Nat.le_of_ble_eq_true rfl, Nat.le_of_ble_eq_true rfl⟩ ⟨Nat.le_of_ble_eq_true rfl, Nat.le_of_ble_eq_true rfl⟩ rfl (Nat.le_of_ble_eq_true rfl) dX11_bound_20) (fun r20 h_20 => ?_)
  refine x_widen (k' := 0) (n' := 0) (Nat.le_of_ble_eq_true rfl) (Nat.le_of_ble_eq_true rfl) ?_
  refine x_norm (y := 0) (h_20) ?_
  refine x_aload_n hE dX11_bound_23 rfl 2 rfl ?_
  refine x_iload_n hE dX11_bound_24 rfl 0 rfl ?_
  refine c_ip hE (r_V (st := [.int 0]) hE (k_falseAlarms l D cy L σ φ ρ (5) hLi pl1) q1312 q1313 q1314 q118 q1315 hLi rfl ⟨by decide, by decide, pn_X1_falseAlarms⟩ ⟨Nat.le_of_ble_eq_true rfl, Nat.le_of_ble_eq_true rfl⟩ ⟨Nat.le_of_ble_eq_true rfl, Nat.le_of_ble_eq_true rfl⟩ rfl (Nat.le_of_ble_eq_true rfl) dX11_bound_25) (fun r25 h_25 => ?_)
  refine x_widen (k' := 0) (n' := 0) (Nat.le_of_ble_eq_true rfl) (Nat.le_of_ble_eq_true rfl) ?_
  refine x_norm (y := 0) (h_25) ?_
  refine x_iadd hE dX11_bound_28 ?_
  refine x_norm (y := 0) (by decide) ?_
  refine x_aload_n hE dX11_bound_29 rfl 2 rfl ?_
  refine x_iload_n hE dX11_bound_30 rfl 1 rfl ?_
  refine c_ip hE (r_V (st := [.int 0]) hE (k_misses l D cy L σ φ ρ (0) hLi pl1) q1308 q1309 q1310 q118 q1311 hLi rfl ⟨by decide, by decide, pn_X1_misses⟩ ⟨Nat.le_of_ble_eq_true rfl, Nat.le_of_ble_eq_true rfl⟩ ⟨Nat.le_of_ble_eq_true rfl, Nat.le_of_ble_eq_true rfl⟩ rfl (Nat.le_of_ble_eq_true rfl) dX11_bound_31) (fun r31 h_31 => ?_)
  refine x_widen (k' := 0) (n' := 0) (Nat.le_of_ble_eq_true rfl) (Nat.le_of_ble_eq_true rfl) ?_
  refine x_norm (y := 0) (h_31) ?_
  refine x_aload_n hE dX11_bound_34 rfl 2 rfl ?_
  refine x_iload_n hE dX11_bound_35 rfl 1 rfl ?_
  refine c_ip hE (r_V (st := [.int 0, .int 0]) hE (k_falseAlarms l D cy L σ φ ρ (0) hLi pl1) q1312 q1313 q1314 q118 q1315 hLi rfl ⟨by decide, by decide, pn_X1_falseAlarms⟩ ⟨Nat.le_of_ble_eq_true rfl, Nat.le_of_ble_eq_true rfl⟩ ⟨Nat.le_of_ble_eq_true rfl, Nat.le_of_ble_eq_true rfl⟩ rfl (Nat.le_of_ble_eq_true rfl) dX11_bound_36) (fun r36 h_36 => ?_)
  refine x_widen (k' := 0) (n' := 0) (Nat.le_of_ble_eq_true rfl) (Nat.le_of_ble_eq_true rfl) ?_
  refine x_norm (y := 0) (h_36) ?_
  refine x_iadd hE dX11_bound_39 ?_
  refine x_norm (y := 0) (by decide) ?_
  refine x_icmp_ge (tgt := 45) hE dX11_bound_40 (by decide) (fun c_40 => ?_) (fun c_40 => absurd (by decide) c_40)
  refine x_iinc (v := 6) (lv' := [(3, .int 6), (2, .int 0), (1, .ref li), (0, .ref x)]) hE dX11_bound_45 0 rfl (by decide) (by decide) rfl ?_
  refine x_goto (tgt := 12) hE dX11_bound_48 (by decide) ?_
  refine x_iload_n hE dX11_bound_12 rfl 0 rfl ?_
  refine x_bipush (v := 10) hE dX11_bound_13 (by decide) ?_
  refine x_icmp_gt (tgt := 51) hE dX11_bound_15 (by decide) (fun c_15 => absurd c_15 (by decide)) (fun c_15 => ?_)
  refine x_aload_n hE dX11_bound_18 rfl 2 rfl ?_
  refine x_iload_n hE dX11_bound_19 rfl 0 rfl ?_
  refine c_ip hE (r_V (st := []) hE (k_misses l D cy L σ φ ρ (6) hLi pl1) q1308 q1309 q1310 q118 q1311 hLi rfl ⟨by decide, by decide, pn_X1_misses⟩ ⟨Nat.le_of_ble_eq_true rfl, Nat.le_of_ble_eq_true rfl⟩ ⟨Nat.le_of_ble_eq_true rfl, Nat.le_of_ble_eq_true rfl⟩ rfl (Nat.le_of_ble_eq_true rfl) dX11_bound_20) (fun r20 h_20 => ?_)
  refine x_widen (k' := 0) (n' := 0) (Nat.le_of_ble_eq_true rfl) (Nat.le_of_ble_eq_true rfl) ?_
  refine x_norm (y := 0) (h_20) ?_
  refine x_aload_n hE dX11_bound_23 rfl 2 rfl ?_
  refine x_iload_n hE dX11_bound_24 rfl 0 rfl ?_
  refine c_ip hE (r_V (st := [.int 0]) hE (k_falseAlarms l D cy L σ φ ρ (6) hLi pl1) q1312 q1313 q1314 q118 q1315 hLi rfl ⟨by decide, by decide, pn_X1_falseAlarms⟩ ⟨Nat.le_of_ble_eq_true rfl, Nat.le_of_ble_eq_true rfl⟩ ⟨Nat.le_of_ble_eq_true rfl, Nat.le_of_ble_eq_true rfl⟩ rfl (Nat.le_of_ble_eq_true rfl) dX11_bound_25) (fun r25 h_25 => ?_)
  refine x_widen (k' := 0) (n' := 0) (Nat.le_of_ble_eq_true rfl) (Nat.le_of_ble_eq_true rfl) ?_
  refine x_norm (y := 0) (h_25) ?_
  refine x_iadd hE dX11_bound_28 ?_
  refine x_norm (y := 0) (by decide) ?_
  refine x_aload_n hE dX11_bound_29 rfl 2 rfl ?_
  refine x_iload_n hE dX11_bound_30 rfl 1 rfl ?_
  refine c_ip hE (r_V (st := [.int 0]) hE (k_misses l D cy L σ φ ρ (0) hLi pl1) q1308 q1309 q1310 q118 q1311 hLi rfl ⟨by decide, by decide, pn_X1_misses⟩ ⟨Nat.le_of_ble_eq_true rfl, Nat.le_of_ble_eq_true rfl⟩ ⟨Nat.le_of_ble_eq_true rfl, Nat.le_of_ble_eq_true rfl⟩ rfl (Nat.le_of_ble_eq_true rfl) dX11_bound_31) (fun r31 h_31 => ?_)
  refine x_widen (k' := 0) (n' := 0) (Nat.le_of_ble_eq_true rfl) (Nat.le_of_ble_eq_true rfl) ?_
  refine x_norm (y := 0) (h_31) ?_
  refine x_aload_n hE dX11_bound_34 rfl 2 rfl ?_
  refine x_iload_n hE dX11_bound_35 rfl 1 rfl ?_
  refine c_ip hE (r_V (st := [.int 0, .int 0]) hE (k_falseAlarms l D cy L σ φ ρ (0) hLi pl1) q1312 q1313 q1314 q118 q1315 hLi rfl ⟨by decide, by decide, pn_X1_falseAlarms⟩ ⟨Nat.le_of_ble_eq_true rfl, Nat.le_of_ble_eq_true rfl⟩ ⟨Nat.le_of_ble_eq_true rfl, Nat.le_of_ble_eq_true rfl⟩ rfl (Nat.le_of_ble_eq_true rfl) dX11_bound_36) (fun r36 h_36 => ?_)
  refine x_widen (k' := 0) (n' := 0) (Nat.le_of_ble_eq_true rfl) (Nat.le_of_ble_eq_true rfl) ?_
  refine x_norm (y := 0) (h_36) ?_
  refine x_iadd hE dX11_bound_39 ?_
  refine x_norm (y := 0) (by decide) ?_
  refine x_icmp_ge (tgt := 45) hE dX11_bound_40 (by decide) (fun c_40 => ?_) (fun c_40 => absurd (by decide) c_40)
  refine x_iinc (v := 7) (lv' := [(3, .int 7), (2, .int 0), (1, .ref li), (0, .ref x)]) hE dX11_bound_45 0 rfl (by decide) (by decide) rfl ?_
  refine x_goto (tgt := 12) hE dX11_bound_48 (by decide) ?_
  refine x_iload_n hE dX11_bound_12 rfl 0 rfl ?_
  refine x_bipush (v := 10) hE dX11_bound_13 (by decide) ?_
  refine x_icmp_gt (tgt := 51) hE dX11_bound_15 (by decide) (fun c_15 => absurd c_15 (by decide)) (fun c_15 => ?_)
  refine x_aload_n hE dX11_bound_18 rfl 2 rfl ?_
  refine x_iload_n hE dX11_bound_19 rfl 0 rfl ?_
  refine c_ip hE (r_V (st := []) hE (k_misses l D cy L σ φ ρ (7) hLi pl1) q1308 q1309 q1310 q118 q1311 hLi rfl ⟨by decide, by decide, pn_X1_misses⟩ ⟨Nat.le_of_ble_eq_true rfl, Nat.le_of_ble_eq_true rfl⟩ ⟨Nat.le_of_ble_eq_true rfl, Nat.le_of_ble_eq_true rfl⟩ rfl (Nat.le_of_ble_eq_true rfl) dX11_bound_20) (fun r20 h_20 => ?_)
  refine x_widen (k' := 0) (n' := 0) (Nat.le_of_ble_eq_true rfl) (Nat.le_of_ble_eq_true rfl) ?_
  refine x_norm (y := 0) (h_20) ?_
  refine x_aload_n hE dX11_bound_23 rfl 2 rfl ?_
  refine x_iload_n hE dX11_bound_24 rfl 0 rfl ?_
  refine c_ip hE (r_V (st := [.int 0]) hE (k_falseAlarms l D cy L σ φ ρ (7) hLi pl1) q1312 q1313 q1314 q118 q1315 hLi rfl ⟨by decide, by decide, pn_X1_falseAlarms⟩ ⟨Nat.le_of_ble_eq_true rfl, Nat.le_of_ble_eq_true rfl⟩ ⟨Nat.le_of_ble_eq_true rfl, Nat.le_of_ble_eq_true rfl⟩ rfl (Nat.le_of_ble_eq_true rfl) dX11_bound_25) (fun r25 h_25 => ?_)
  refine x_widen (k' := 0) (n' := 0) (Nat.le_of_ble_eq_true rfl) (Nat.le_of_ble_eq_true rfl) ?_
  refine x_norm (y := 0) (h_25) ?_
  refine x_iadd hE dX11_bound_28 ?_
  refine x_norm (y := 0) (by decide) ?_
  refine x_aload_n hE dX11_bound_29 rfl 2 rfl ?_
  refine x_iload_n hE dX11_bound_30 rfl 1 rfl ?_
  refine c_ip hE (r_V (st := [.int 0]) hE (k_misses l D cy L σ φ ρ (0) hLi pl1) q1308 q1309 q1310 q118 q1311 hLi rfl ⟨by decide, by decide, pn_X1_misses⟩ ⟨Nat.le_of_ble_eq_true rfl, Nat.le_of_ble_eq_true rfl⟩ ⟨Nat.le_of_ble_eq_true rfl, Nat.le_of_ble_eq_true rfl⟩ rfl (Nat.le_of_ble_eq_true rfl) dX11_bound_31) (fun r31 h_31 => ?_)
  refine x_widen (k' := 0) (n' := 0) (Nat.le_of_ble_eq_true rfl) (Nat.le_of_ble_eq_true rfl) ?_
  refine x_norm (y := 0) (h_31) ?_
  refine x_aload_n hE dX11_bound_34 rfl 2 rfl ?_
  refine x_iload_n hE dX11_bound_35 rfl 1 rfl ?_
  refine c_ip hE (r_V (st := [.int 0, .int 0]) hE (k_falseAlarms l D cy L σ φ ρ (0) hLi pl1) q1312 q1313 q1314 q118 q1315 hLi rfl ⟨by decide, by decide, pn_X1_falseAlarms⟩ ⟨Nat.le_of_ble_eq_true rfl, Nat.le_of_ble_eq_true rfl⟩ ⟨Nat.le_of_ble_eq_true rfl, Nat.le_of_ble_eq_true rfl⟩ rfl (Nat.le_of_ble_eq_true rfl) dX11_bound_36) (fun r36 h_36 => ?_)
  refine x_widen (k' := 0) (n' := 0) (Nat.le_of_ble_eq_true rfl) (Nat.le_of_ble_eq_true rfl) ?_
  refine x_norm (y := 0) (h_36) ?_
  refine x_iadd hE dX11_bound_39 ?_
  refine x_norm (y := 0) (by decide) ?_
  refine x_icmp_ge (tgt := 45) hE dX11_bound_40 (by decide) (fun c_40 => ?_) (fun c_40 => absurd (by decide) c_40)
  refine x_iinc (v := 8) (lv' := [(3, .int 8), (2, .int 0), (1, .ref li), (0, .ref x)]) hE dX11_bound_45 0 rfl (by decide) (by decide) rfl ?_
  refine x_goto (tgt := 12) hE dX11_bound_48 (by decide) ?_
  refine x_iload_n hE dX11_bound_12 rfl 0 rfl ?_
  refine x_bipush (v := 10) hE dX11_bound_13 (by decide) ?_
  refine x_icmp_gt (tgt := 51) hE dX11_bound_15 (by decide) (fun c_15 => absurd c_15 (by decide)) (fun c_15 => ?_)
  refine x_aload_n hE dX11_bound_18 rfl 2 rfl ?_
  refine x_iload_n hE dX11_bound_19 rfl 0 rfl ?_
  refine c_ip hE (r_V (st := []) hE (k_misses l D cy L σ φ ρ (8) hLi pl1) q1308 q1309 q1310 q118 q1311 hLi rfl ⟨by decide, by decide, pn_X1_misses⟩ ⟨Nat.le_of_ble_eq_true rfl, Nat.le_of_ble_eq_true rfl⟩ ⟨Nat.le_of_ble_eq_true rfl, Nat.le_of_ble_eq_true rfl⟩ rfl (Nat.le_of_ble_eq_true rfl) dX11_bound_20) (fun r20 h_20 => ?_)
  refine x_widen (k' := 0) (n' := 0) (Nat.le_of_ble_eq_true rfl) (Nat.le_of_ble_eq_true rfl) ?_
  refine x_norm (y := 0) (h_20) ?_
  refine x_aload_n hE dX11_bound_23 rfl 2 rfl ?_
  refine x_iload_n hE dX11_bound_24 rfl 0 rfl ?_
  refine c_ip hE (r_V (st := [.int 0]) hE (k_falseAlarms l D cy L σ φ ρ (8) hLi pl1) q1312 q1313 q1314 q118 q1315 hLi rfl ⟨by decide, by decide, pn_X1_falseAlarms⟩ ⟨Nat.le_of_ble_eq_true rfl, Nat.le_of_ble_eq_true rfl⟩ ⟨Nat.le_of_ble_eq_true rfl, Nat.le_of_ble_eq_true rfl⟩ rfl (Nat.le_of_ble_eq_true rfl) dX11_bound_25) (fun r25 h_25 => ?_)
  refine x_widen (k' := 0) (n' := 0) (Nat.le_of_ble_eq_true rfl) (Nat.le_of_ble_eq_true rfl) ?_
  refine x_norm (y := 0) (h_25) ?_
  refine x_iadd hE dX11_bound_28 ?_
  refine x_norm (y := 0) (by decide) ?_
  refine x_aload_n hE dX11_bound_29 rfl 2 rfl ?_
  refine x_iload_n hE dX11_bound_30 rfl 1 rfl ?_
  refine c_ip hE (r_V (st := [.int 0]) hE (k_misses l D cy L σ φ ρ (0) hLi pl1) q1308 q1309 q1310 q118 q1311 hLi rfl ⟨by decide, by decide, pn_X1_misses⟩ ⟨Nat.le_of_ble_eq_true rfl, Nat.le_of_ble_eq_true rfl⟩ ⟨Nat.le_of_ble_eq_true rfl, Nat.le_of_ble_eq_true rfl⟩ rfl (Nat.le_of_ble_eq_true rfl) dX11_bound_31) (fun r31 h_31 => ?_)
  refine x_widen (k' := 0) (n' := 0) (Nat.le_of_ble_eq_true rfl) (Nat.le_of_ble_eq_true rfl) ?_
  refine x_norm (y := 0) (h_31) ?_
  refine x_aload_n hE dX11_bound_34 rfl 2 rfl ?_
  refine x_iload_n hE dX11_bound_35 rfl 1 rfl ?_
  refine c_ip hE (r_V (st := [.int 0, .int 0]) hE (k_falseAlarms l D cy L σ φ ρ (0) hLi pl1) q1312 q1313 q1314 q118 q1315 hLi rfl ⟨by decide, by decide, pn_X1_falseAlarms⟩ ⟨Nat.le_of_ble_eq_true rfl, Nat.le_of_ble_eq_true rfl⟩ ⟨Nat.le_of_ble_eq_true rfl, Nat.le_of_ble_eq_true rfl⟩ rfl (Nat.le_of_ble_eq_true rfl) dX11_bound_36) (fun r36 h_36 => ?_)
  refine x_widen (k' := 0) (n' := 0) (Nat.le_of_ble_eq_true rfl) (Nat.le_of_ble_eq_true rfl) ?_
  refine x_norm (y := 0) (h_36) ?_
  refine x_iadd hE dX11_bound_39 ?_
  refine x_norm (y := 0) (by decide) ?_
  refine x_icmp_ge (tgt := 45) hE dX11_bound_40 (by decide) (fun c_40 => ?_) (fun c_40 => absurd (by decide) c_40)
  refine x_iinc (v := 9) (lv' := [(3, .int 9), (2, .int 0), (1, .ref li), (0, .ref x)]) hE dX11_bound_45 0 rfl (by decide) (by decide) rfl ?_
  refine x_goto (tgt := 12) hE dX11_bound_48 (by decide) ?_
  refine x_iload_n hE dX11_bound_12 rfl 0 rfl ?_
  refine x_bipush (v := 10) hE dX11_bound_13 (by decide) ?_
  refine x_icmp_gt (tgt := 51) hE dX11_bound_15 (by decide) (fun c_15 => absurd c_15 (by decide)) (fun c_15 => ?_)
  refine x_aload_n hE dX11_bound_18 rfl 2 rfl ?_
  refine x_iload_n hE dX11_bound_19 rfl 0 rfl ?_
  refine c_ip hE (r_V (st := []) hE (k_misses l D cy L σ φ ρ (9) hLi pl1) q1308 q1309 q1310 q118 q1311 hLi rfl ⟨by decide, by decide, pn_X1_misses⟩ ⟨Nat.le_of_ble_eq_true rfl, Nat.le_of_ble_eq_true rfl⟩ ⟨Nat.le_of_ble_eq_true rfl, Nat.le_of_ble_eq_true rfl⟩ rfl (Nat.le_of_ble_eq_true rfl) dX11_bound_20) (fun r20 h_20 => ?_)
  refine x_widen (k' := 0) (n' := 0) (Nat.le_of_ble_eq_true rfl) (Nat.le_of_ble_eq_true rfl) ?_
  refine x_norm (y := 0) (h_20) ?_
  refine x_aload_n hE dX11_bound_23 rfl 2 rfl ?_
  refine x_iload_n hE dX11_bound_24 rfl 0 rfl ?_
  refine c_ip hE (r_V (st := [.int 0]) hE (k_falseAlarms l D cy L σ φ ρ (9) hLi pl1) q1312 q1313 q1314 q118 q1315 hLi rfl ⟨by decide, by decide, pn_X1_falseAlarms⟩ ⟨Nat.le_of_ble_eq_true rfl, Nat.le_of_ble_eq_true rfl⟩ ⟨Nat.le_of_ble_eq_true rfl, Nat.le_of_ble_eq_true rfl⟩ rfl (Nat.le_of_ble_eq_true rfl) dX11_bound_25) (fun r25 h_25 => ?_)
  refine x_widen (k' := 0) (n' := 0) (Nat.le_of_ble_eq_true rfl) (Nat.le_of_ble_eq_true rfl) ?_
  refine x_norm (y := 0) (h_25) ?_
  refine x_iadd hE dX11_bound_28 ?_
  refine x_norm (y := 0) (by decide) ?_
  refine x_aload_n hE dX11_bound_29 rfl 2 rfl ?_
  refine x_iload_n hE dX11_bound_30 rfl 1 rfl ?_
  refine c_ip hE (r_V (st := [.int 0]) hE (k_misses l D cy L σ φ ρ (0) hLi pl1) q1308 q1309 q1310 q118 q1311 hLi rfl ⟨by decide, by decide, pn_X1_misses⟩ ⟨Nat.le_of_ble_eq_true rfl, Nat.le_of_ble_eq_true rfl⟩ ⟨Nat.le_of_ble_eq_true rfl, Nat.le_of_ble_eq_true rfl⟩ rfl (Nat.le_of_ble_eq_true rfl) dX11_bound_31) (fun r31 h_31 => ?_)
  refine x_widen (k' := 0) (n' := 0) (Nat.le_of_ble_eq_true rfl) (Nat.le_of_ble_eq_true rfl) ?_
  refine x_norm (y := 0) (h_31) ?_
  refine x_aload_n hE dX11_bound_34 rfl 2 rfl ?_
  refine x_iload_n hE dX11_bound_35 rfl 1 rfl ?_
  refine c_ip hE (r_V (st := [.int 0, .int 0]) hE (k_falseAlarms l D cy L σ φ ρ (0) hLi pl1) q1312 q1313 q1314 q118 q1315 hLi rfl ⟨by decide, by decide, pn_X1_falseAlarms⟩ ⟨Nat.le_of_ble_eq_true rfl, Nat.le_of_ble_eq_true rfl⟩ ⟨Nat.le_of_ble_eq_true rfl, Nat.le_of_ble_eq_true rfl⟩ rfl (Nat.le_of_ble_eq_true rfl) dX11_bound_36) (fun r36 h_36 => ?_)
  refine x_widen (k' := 0) (n' := 0) (Nat.le_of_ble_eq_true rfl) (Nat.le_of_ble_eq_true rfl) ?_
  refine x_norm (y := 0) (h_36) ?_
  refine x_iadd hE dX11_bound_39 ?_
  refine x_norm (y := 0) (by decide) ?_
  refine x_icmp_ge (tgt := 45) hE dX11_bound_40 (by decide) (fun c_40 => ?_) (fun c_40 => absurd (by decide) c_40)
  refine x_iinc (v := 10) (lv' := [(3, .int 10), (2, .int 0), (1, .ref li), (0, .ref x)]) hE dX11_bound_45 0 rfl (by decide) (by decide) rfl ?_
  refine x_goto (tgt := 12) hE dX11_bound_48 (by decide) ?_
  refine x_iload_n hE dX11_bound_12 rfl 0 rfl ?_
  refine x_bipush (v := 10) hE dX11_bound_13 (by decide) ?_
  refine x_icmp_gt (tgt := 51) hE dX11_bound_15 (by decide) (fun c_15 => absurd c_15 (by decide)) (fun c_15 => ?_)
  refine x_aload_n hE dX11_bound_18 rfl 2 rfl ?_
  refine x_iload_n hE dX11_bound_19 rfl 0 rfl ?_
  refine c_ip hE (r_V (st := []) hE (k_misses l D cy L σ φ ρ (10) hLi pl1) q1308 q1309 q1310 q118 q1311 hLi rfl ⟨by decide, by decide, pn_X1_misses⟩ ⟨Nat.le_of_ble_eq_true rfl, Nat.le_of_ble_eq_true rfl⟩ ⟨Nat.le_of_ble_eq_true rfl, Nat.le_of_ble_eq_true rfl⟩ rfl (Nat.le_of_ble_eq_true rfl) dX11_bound_20) (fun r20 h_20 => ?_)
  refine x_widen (k' := 0) (n' := 0) (Nat.le_of_ble_eq_true rfl) (Nat.le_of_ble_eq_true rfl) ?_
  refine x_norm (y := 0) (h_20) ?_
  refine x_aload_n hE dX11_bound_23 rfl 2 rfl ?_
  refine x_iload_n hE dX11_bound_24 rfl 0 rfl ?_
  refine c_ip hE (r_V (st := [.int 0]) hE (k_falseAlarms l D cy L σ φ ρ (10) hLi pl1) q1312 q1313 q1314 q118 q1315 hLi rfl ⟨by decide, by decide, pn_X1_falseAlarms⟩ ⟨Nat.le_of_ble_eq_true rfl, Nat.le_of_ble_eq_true rfl⟩ ⟨Nat.le_of_ble_eq_true rfl, Nat.le_of_ble_eq_true rfl⟩ rfl (Nat.le_of_ble_eq_true rfl) dX11_bound_25) (fun r25 h_25 => ?_)
  refine x_widen (k' := 0) (n' := 0) (Nat.le_of_ble_eq_true rfl) (Nat.le_of_ble_eq_true rfl) ?_
  refine x_norm (y := 0) (h_25) ?_
  refine x_iadd hE dX11_bound_28 ?_
  refine x_norm (y := 0) (by decide) ?_
  refine x_aload_n hE dX11_bound_29 rfl 2 rfl ?_
  refine x_iload_n hE dX11_bound_30 rfl 1 rfl ?_
  refine c_ip hE (r_V (st := [.int 0]) hE (k_misses l D cy L σ φ ρ (0) hLi pl1) q1308 q1309 q1310 q118 q1311 hLi rfl ⟨by decide, by decide, pn_X1_misses⟩ ⟨Nat.le_of_ble_eq_true rfl, Nat.le_of_ble_eq_true rfl⟩ ⟨Nat.le_of_ble_eq_true rfl, Nat.le_of_ble_eq_true rfl⟩ rfl (Nat.le_of_ble_eq_true rfl) dX11_bound_31) (fun r31 h_31 => ?_)
  refine x_widen (k' := 0) (n' := 0) (Nat.le_of_ble_eq_true rfl) (Nat.le_of_ble_eq_true rfl) ?_
  refine x_norm (y := 0) (h_31) ?_
  refine x_aload_n hE dX11_bound_34 rfl 2 rfl ?_
  refine x_iload_n hE dX11_bound_35 rfl 1 rfl ?_
  refine c_ip hE (r_V (st := [.int 0, .int 0]) hE (k_falseAlarms l D cy L σ φ ρ (0) hLi pl1) q1312 q1313 q1314 q118 q1315 hLi rfl ⟨by decide, by decide, pn_X1_falseAlarms⟩ ⟨Nat.le_of_ble_eq_true rfl, Nat.le_of_ble_eq_true rfl⟩ ⟨Nat.le_of_ble_eq_true rfl, Nat.le_of_ble_eq_true rfl⟩ rfl (Nat.le_of_ble_eq_true rfl) dX11_bound_36) (fun r36 h_36 => ?_)
  refine x_widen (k' := 0) (n' := 0) (Nat.le_of_ble_eq_true rfl) (Nat.le_of_ble_eq_true rfl) ?_
  refine x_norm (y := 0) (h_36) ?_
  refine x_iadd hE dX11_bound_39 ?_
  refine x_norm (y := 0) (by decide) ?_
  refine x_icmp_ge (tgt := 45) hE dX11_bound_40 (by decide) (fun c_40 => ?_) (fun c_40 => absurd (by decide) c_40)
  refine x_iinc (v := 11) (lv' := [(3, .int 11), (2, .int 0), (1, .ref li), (0, .ref x)]) hE dX11_bound_45 0 rfl (by decide) (by decide) rfl ?_
  refine x_goto (tgt := 12) hE dX11_bound_48 (by decide) ?_
  refine x_iload_n hE dX11_bound_12 rfl 0 rfl ?_
  refine x_bipush (v := 10) hE dX11_bound_13 (by decide) ?_
  refine x_icmp_gt (tgt := 51) hE dX11_bound_15 (by decide) (fun c_15 => ?_) (fun c_15 => absurd (by decide) c_15)
  refine x_iload_n hE dX11_bound_51 rfl 1 rfl ?_
  exact hret _ _ _ _ _ _ _ _ (0) (Nat.le_of_ble_eq_true rfl) (Nat.le_of_ble_eq_true rfl) dX11_bound_52 (rfl) (by grind [zb])
set_option maxHeartbeats 4000000 in
set_option maxRecDepth 100000 in
theorem o_filling (l : Launch) (D : va_G) (cy : Nat → ClassId) (L : List Nat) (σ : Nat → va_E) (φ : Nat → Nat → Nat → Int32) (ρ : Nat → Nat → Int32) {x : Nat} (p a b c n q : Int32) (hx : zOR cy L σ φ x) : zML l D cy yX11_filling cX11_filling 15 (zrm 3 0 0) [.ref x, .int p, .int a, .int b, .int c, .int n, .int q] L σ φ ρ (fun r _ => r = -1) := by
  refine zML.mk (by decide) (Nat.le_of_ble_eq_true rfl) (fun E hE hret => ?_)
  show zW E 0 0 L σ φ ρ 0 [(0, .ref x), (1, .int p), (2, .int a), (3, .int b), (4, .int c), (5, .int n), (6, .int q)] []
  obtain ⟨now, kept, tape, reader, weather, planner, ways, la, wo, sp, li, te, g, la', wo', sp', li', te', g', hx, hs, hs0, hk, hk0, htp, htp0, hrd, hrd0, hrd1, hwe, hwe0, hpl, hwy⟩ := hx
  obtain ⟨hn, hla, hwo, hsp, hli, hte⟩ := id hs
  obtain ⟨p45, p46, p00, p01, p10, p50, p51, pl0, pl1, pl2, pg⟩ := id hs0
  obtain ⟨f0, f1, f2, f3, f4, f5, f6, f7, hL, hL0, hL1, hL2, hL3, hL4, hL5, hL6, hL7⟩ := id hla
  obtain ⟨w0, w1, w2, w3, w4, w5, w6, w7, hW, hW0, hW1, hW2, hW3, hW4, hW5, hW6, hW7⟩ := id hwo
  obtain ⟨s0, s1, hSp, hSp0, hSp1, hSpW⟩ := id hsp
  obtain ⟨i0, i1, i2, i3, i4, i5, i6, i7, hLi, hLi0, hLi1, hLi2, hLi3, hLi4, hLi5, hLi6, hLi7⟩ := id hli
  obtain ⟨t0, t1, t2, t3, hTp, hTp0, hTp1, hTp2, hTp3, hTn1, hTn2⟩ := id htp
  refine x_aload_n hE dX11_filling_0 rfl 0 rfl ?_
  refine h_getr hE hx rfl inZX11 0 (by decide) q556 rfl dX11_filling_1 ?_
  refine h_getr hE hn rfl inZX4 0 (by decide) q362 rfl dX11_filling_4 ?_
  refine x_iload_n hE dX11_filling_7 rfl 1 rfl ?_
  refine c_ip hE (r_V (st := []) hE (k_hasPerson l D cy L σ φ ρ (p) hL) q1032 q1033 q1034 q115 q1035 hL rfl ⟨by decide, by decide, pn_X0_hasPerson⟩ ⟨Nat.le_of_ble_eq_true rfl, Nat.le_of_ble_eq_true rfl⟩ ⟨Nat.le_of_ble_eq_true rfl, Nat.le_of_ble_eq_true rfl⟩ rfl (Nat.le_of_ble_eq_true rfl) dX11_filling_8) (fun r8 h8 => ?_)
  refine x_widen (k' := 0) (n' := 0) (Nat.le_of_ble_eq_true rfl) (Nat.le_of_ble_eq_true rfl) ?_
  refine x_norm (y := 0) (h8.trans (zb_f (fun e => z_le_nlt e.1 (p01 ▸ e.2)))) ?_
  refine x_if_eq (tgt := 56) hE dX11_filling_11 (by decide) (fun c_11 => ?_) (fun c_11 => absurd (by decide) c_11)
  refine x_ldc2 (v := -1) hE q1288 dX11_filling_56 ?_
  exact hret _ _ _ _ _ _ _ _ (-1) (Nat.le_of_ble_eq_true rfl) (Nat.le_of_ble_eq_true rfl) dX11_filling_59 (rfl)
