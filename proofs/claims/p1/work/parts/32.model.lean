theorem dX12_about_0 : decode cX12_about 0 = .ok (.iload_n 1, 1) := by decide +kernel
theorem dX12_about_1 : decode cX12_about 1 = .ok (.iconst 0, 1) := by decide +kernel
theorem dX12_about_2 : decode cX12_about 2 = .ok (.bipush 12, 2) := by decide +kernel
theorem dX12_about_4 : decode cX12_about 4 = .ok (.invokestatic 113, 3) := by decide +kernel
theorem dX12_about_7 : decode cX12_about 7 = .ok (.ifCond .eq 12, 3) := by decide +kernel
theorem dX12_about_10 : decode cX12_about 10 = .ok (.aload_n 0, 1) := by decide +kernel
theorem dX12_about_11 : decode cX12_about 11 = .ok (.getfield 7, 3) := by decide +kernel
theorem dX12_about_14 : decode cX12_about 14 = .ok (.iload_n 1, 1) := by decide +kernel
theorem dX12_about_15 : decode cX12_about 15 = .ok (.iaload, 1) := by decide +kernel
theorem dX12_about_16 : decode cX12_about 16 = .ok (.goto 18, 3) := by decide +kernel
theorem dX12_about_19 : decode cX12_about 19 = .ok (.iload_n 1, 1) := by decide +kernel
theorem dX12_about_20 : decode cX12_about 20 = .ok (.bipush 13, 2) := by decide +kernel
theorem dX12_about_22 : decode cX12_about 22 = .ok (.if_icmp .ne 10, 3) := by decide +kernel
theorem dX12_about_25 : decode cX12_about 25 = .ok (.aload_n 0, 1) := by decide +kernel
theorem dX12_about_26 : decode cX12_about 26 = .ok (.getfield 133, 3) := by decide +kernel
theorem dX12_about_29 : decode cX12_about 29 = .ok (.goto 5, 3) := by decide +kernel
theorem dX12_about_32 : decode cX12_about 32 = .ok (.bipush (-2), 2) := by decide +kernel
theorem dX12_about_34 : decode cX12_about 34 = .ok (.ireturn, 1) := by decide +kernel
theorem dX12_back_0 : decode cX12_back 0 = .ok (.aload_n 0, 1) := by decide +kernel
theorem dX12_back_1 : decode cX12_back 1 = .ok (.getfield 13, 3) := by decide +kernel
theorem dX12_back_4 : decode cX12_back 4 = .ok (.aload_n 0, 1) := by decide +kernel
theorem dX12_back_5 : decode cX12_back 5 = .ok (.getfield 7, 3) := by decide +kernel
theorem dX12_back_8 : decode cX12_back 8 = .ok (.invokestatic 109, 3) := by decide +kernel
theorem dX12_back_11 : decode cX12_back 11 = .ok (.aload_n 0, 1) := by decide +kernel
theorem dX12_back_12 : decode cX12_back 12 = .ok (.getfield 7, 3) := by decide +kernel
theorem dX12_back_15 : decode cX12_back 15 = .ok (.iconst 2, 1) := by decide +kernel
theorem dX12_back_16 : decode cX12_back 16 = .ok (.iaload, 1) := by decide +kernel
theorem dX12_back_17 : decode cX12_back 17 = .ok (.ireturn, 1) := by decide +kernel
theorem dX12_bound_0 : decode cX12_bound 0 = .ok (.iconst 0, 1) := by decide +kernel
theorem dX12_bound_1 : decode cX12_bound 1 = .ok (.istore_n 1, 1) := by decide +kernel
theorem dX12_bound_2 : decode cX12_bound 2 = .ok (.iconst 1, 1) := by decide +kernel
theorem dX12_bound_3 : decode cX12_bound 3 = .ok (.istore_n 2, 1) := by decide +kernel
theorem dX12_bound_4 : decode cX12_bound 4 = .ok (.iload_n 2, 1) := by decide +kernel
theorem dX12_bound_5 : decode cX12_bound 5 = .ok (.bipush 10, 2) := by decide +kernel
theorem dX12_bound_7 : decode cX12_bound 7 = .ok (.if_icmp .gt 40, 3) := by decide +kernel
theorem dX12_bound_10 : decode cX12_bound 10 = .ok (.aload_n 0, 1) := by decide +kernel
theorem dX12_bound_11 : decode cX12_bound 11 = .ok (.iload_n 2, 1) := by decide +kernel
theorem dX12_bound_12 : decode cX12_bound 12 = .ok (.iconst 0, 1) := by decide +kernel
theorem dX12_bound_13 : decode cX12_bound 13 = .ok (.invokevirtual 507, 3) := by decide +kernel
theorem dX12_bound_16 : decode cX12_bound 16 = .ok (.aload_n 0, 1) := by decide +kernel
theorem dX12_bound_17 : decode cX12_bound 17 = .ok (.iload_n 2, 1) := by decide +kernel
theorem dX12_bound_18 : decode cX12_bound 18 = .ok (.iconst 1, 1) := by decide +kernel
theorem dX12_bound_19 : decode cX12_bound 19 = .ok (.invokevirtual 507, 3) := by decide +kernel
theorem dX12_bound_22 : decode cX12_bound 22 = .ok (.iadd, 1) := by decide +kernel
theorem dX12_bound_23 : decode cX12_bound 23 = .ok (.aload_n 0, 1) := by decide +kernel
theorem dX12_bound_24 : decode cX12_bound 24 = .ok (.iload_n 1, 1) := by decide +kernel
theorem dX12_bound_25 : decode cX12_bound 25 = .ok (.iconst 0, 1) := by decide +kernel
theorem dX12_bound_26 : decode cX12_bound 26 = .ok (.invokevirtual 507, 3) := by decide +kernel
theorem dX12_bound_29 : decode cX12_bound 29 = .ok (.aload_n 0, 1) := by decide +kernel
theorem dX12_bound_30 : decode cX12_bound 30 = .ok (.iload_n 1, 1) := by decide +kernel
theorem dX12_bound_31 : decode cX12_bound 31 = .ok (.iconst 1, 1) := by decide +kernel
theorem dX12_bound_32 : decode cX12_bound 32 = .ok (.invokevirtual 507, 3) := by decide +kernel
theorem dX12_bound_35 : decode cX12_bound 35 = .ok (.iadd, 1) := by decide +kernel
theorem dX12_bound_36 : decode cX12_bound 36 = .ok (.if_icmp .ge 5, 3) := by decide +kernel
theorem dX12_bound_41 : decode cX12_bound 41 = .ok (.iinc 2 1, 3) := by decide +kernel
theorem dX12_bound_44 : decode cX12_bound 44 = .ok (.goto (-40), 3) := by decide +kernel
theorem dX12_bound_47 : decode cX12_bound 47 = .ok (.iload_n 1, 1) := by decide +kernel
theorem dX12_bound_48 : decode cX12_bound 48 = .ok (.ireturn, 1) := by decide +kernel
theorem dX12_canGo_0 : decode cX12_canGo 0 = .ok (.aload_n 0, 1) := by decide +kernel
theorem dX12_canGo_1 : decode cX12_canGo 1 = .ok (.iload_n 1, 1) := by decide +kernel
theorem dX12_canGo_2 : decode cX12_canGo 2 = .ok (.invokevirtual 397, 3) := by decide +kernel
theorem dX12_canGo_5 : decode cX12_canGo 5 = .ok (.ifCond .eq 34, 3) := by decide +kernel
theorem dX12_canGo_39 : decode cX12_canGo 39 = .ok (.iconst 0, 1) := by decide +kernel
theorem dX12_canGo_40 : decode cX12_canGo 40 = .ok (.ireturn, 1) := by decide +kernel
theorem dX12_canShake_0 : decode cX12_canShake 0 = .ok (.aload_n 0, 1) := by decide +kernel
theorem dX12_canShake_1 : decode cX12_canShake 1 = .ok (.iload_n 1, 1) := by decide +kernel
theorem dX12_canShake_2 : decode cX12_canShake 2 = .ok (.invokevirtual 397, 3) := by decide +kernel
theorem dX12_canShake_5 : decode cX12_canShake 5 = .ok (.ifCond .eq 35, 3) := by decide +kernel
theorem dX12_canShake_40 : decode cX12_canShake 40 = .ok (.iconst 0, 1) := by decide +kernel
theorem dX12_canShake_41 : decode cX12_canShake 41 = .ok (.ireturn, 1) := by decide +kernel
theorem dX12_canSteal_0 : decode cX12_canSteal 0 = .ok (.aload_n 0, 1) := by decide +kernel
theorem dX12_canSteal_1 : decode cX12_canSteal 1 = .ok (.iload_n 1, 1) := by decide +kernel
theorem dX12_canSteal_2 : decode cX12_canSteal 2 = .ok (.iload_n 2, 1) := by decide +kernel
theorem dX12_canSteal_3 : decode cX12_canSteal 3 = .ok (.invokevirtual 403, 3) := by decide +kernel
theorem dX12_canSteal_6 : decode cX12_canSteal 6 = .ok (.ifCond .eq 35, 3) := by decide +kernel
theorem dX12_canSteal_41 : decode cX12_canSteal 41 = .ok (.iconst 0, 1) := by decide +kernel
theorem dX12_canSteal_42 : decode cX12_canSteal 42 = .ok (.ireturn, 1) := by decide +kernel
theorem dX12_errors_0 : decode cX12_errors 0 = .ok (.iload_n 1, 1) := by decide +kernel
theorem dX12_errors_1 : decode cX12_errors 1 = .ok (.iconst 0, 1) := by decide +kernel
theorem dX12_errors_2 : decode cX12_errors 2 = .ok (.bipush 10, 2) := by decide +kernel
theorem dX12_errors_4 : decode cX12_errors 4 = .ok (.invokestatic 113, 3) := by decide +kernel
theorem dX12_errors_7 : decode cX12_errors 7 = .ok (.ifCond .eq 12, 3) := by decide +kernel
theorem dX12_errors_10 : decode cX12_errors 10 = .ok (.aload_n 0, 1) := by decide +kernel
theorem dX12_errors_11 : decode cX12_errors 11 = .ok (.iload_n 1, 1) := by decide +kernel
theorem dX12_errors_12 : decode cX12_errors 12 = .ok (.iload_n 2, 1) := by decide +kernel
theorem dX12_errors_13 : decode cX12_errors 13 = .ok (.invokevirtual 507, 3) := by decide +kernel
theorem dX12_errors_16 : decode cX12_errors 16 = .ok (.goto 4, 3) := by decide +kernel
theorem dX12_errors_19 : decode cX12_errors 19 = .ok (.iconst (-1), 1) := by decide +kernel
theorem dX12_errors_20 : decode cX12_errors 20 = .ok (.ireturn, 1) := by decide +kernel
theorem dX12_errorsOf_0 : decode cX12_errorsOf 0 = .ok (.iconst 0, 1) := by decide +kernel
theorem dX12_errorsOf_1 : decode cX12_errorsOf 1 = .ok (.istore_n 3, 1) := by decide +kernel
theorem dX12_errorsOf_2 : decode cX12_errorsOf 2 = .ok (.iconst 0, 1) := by decide +kernel
theorem dX12_errorsOf_3 : decode cX12_errorsOf 3 = .ok (.istore 4, 2) := by decide +kernel
theorem dX12_errorsOf_5 : decode cX12_errorsOf 5 = .ok (.iload 4, 2) := by decide +kernel
theorem dX12_errorsOf_7 : decode cX12_errorsOf 7 = .ok (.aload_n 0, 1) := by decide +kernel
theorem dX12_errorsOf_8 : decode cX12_errorsOf 8 = .ok (.getfield 7, 3) := by decide +kernel
theorem dX12_errorsOf_11 : decode cX12_errorsOf 11 = .ok (.bipush 11, 2) := by decide +kernel
theorem dX12_errorsOf_13 : decode cX12_errorsOf 13 = .ok (.iaload, 1) := by decide +kernel
theorem dX12_errorsOf_14 : decode cX12_errorsOf 14 = .ok (.if_icmp .ge 99, 3) := by decide +kernel
theorem dX12_errorsOf_113 : decode cX12_errorsOf 113 = .ok (.iload_n 3, 1) := by decide +kernel
theorem dX12_errorsOf_114 : decode cX12_errorsOf 114 = .ok (.ireturn, 1) := by decide +kernel
theorem dX12_filling_0 : decode cX12_filling 0 = .ok (.aload_n 0, 1) := by decide +kernel
theorem dX12_filling_1 : decode cX12_filling 1 = .ok (.iload_n 1, 1) := by decide +kernel
theorem dX12_filling_2 : decode cX12_filling 2 = .ok (.invokevirtual 397, 3) := by decide +kernel
theorem dX12_filling_5 : decode cX12_filling 5 = .ok (.ifCond .eq 45, 3) := by decide +kernel
theorem dX12_filling_50 : decode cX12_filling 50 = .ok (.ldc2_w 499, 3) := by decide +kernel
theorem dX12_filling_53 : decode cX12_filling 53 = .ok (.lreturn, 1) := by decide +kernel
theorem dX12_go_0 : decode cX12_go 0 = .ok (.aload_n 0, 1) := by decide +kernel
theorem dX12_go_1 : decode cX12_go 1 = .ok (.iload_n 1, 1) := by decide +kernel
theorem dX12_go_2 : decode cX12_go 2 = .ok (.iload_n 2, 1) := by decide +kernel
theorem dX12_go_3 : decode cX12_go 3 = .ok (.invokevirtual 400, 3) := by decide +kernel
theorem dX12_go_6 : decode cX12_go 6 = .ok (.ifCond .ne 5, 3) := by decide +kernel
theorem dX12_go_9 : decode cX12_go 9 = .ok (.iconst 0, 1) := by decide +kernel
theorem dX12_go_10 : decode cX12_go 10 = .ok (.ireturn, 1) := by decide +kernel
theorem dX12_image_0 : decode cX12_image 0 = .ok (.aload_n 0, 1) := by decide +kernel
theorem dX12_image_1 : decode cX12_image 1 = .ok (.getfield 7, 3) := by decide +kernel
theorem dX12_image_4 : decode cX12_image 4 = .ok (.aload_n 0, 1) := by decide +kernel
theorem dX12_image_5 : decode cX12_image 5 = .ok (.getfield 13, 3) := by decide +kernel
theorem dX12_image_8 : decode cX12_image 8 = .ok (.invokestatic 109, 3) := by decide +kernel
theorem dX12_image_11 : decode cX12_image 11 = .ok (.aload_n 0, 1) := by decide +kernel
theorem dX12_image_12 : decode cX12_image 12 = .ok (.getfield 7, 3) := by decide +kernel
theorem dX12_image_15 : decode cX12_image 15 = .ok (.iconst 2, 1) := by decide +kernel
theorem dX12_image_16 : decode cX12_image 16 = .ok (.iaload, 1) := by decide +kernel
theorem dX12_image_17 : decode cX12_image 17 = .ok (.ireturn, 1) := by decide +kernel
theorem dX12_layWorkers_0 : decode cX12_layWorkers 0 = .ok (.iload_n 1, 1) := by decide +kernel
theorem dX12_layWorkers_1 : decode cX12_layWorkers 1 = .ok (.iconst 1, 1) := by decide +kernel
theorem dX12_layWorkers_2 : decode cX12_layWorkers 2 = .ok (.iconst 1, 1) := by decide +kernel
theorem dX12_layWorkers_3 : decode cX12_layWorkers 3 = .ok (.aload_n 0, 1) := by decide +kernel
theorem dX12_layWorkers_4 : decode cX12_layWorkers 4 = .ok (.getfield 7, 3) := by decide +kernel
theorem dX12_layWorkers_7 : decode cX12_layWorkers 7 = .ok (.iconst 1, 1) := by decide +kernel
theorem dX12_layWorkers_8 : decode cX12_layWorkers 8 = .ok (.iaload, 1) := by decide +kernel
theorem dX12_layWorkers_9 : decode cX12_layWorkers 9 = .ok (.ishl, 1) := by decide +kernel
theorem dX12_layWorkers_10 : decode cX12_layWorkers 10 = .ok (.iconst 1, 1) := by decide +kernel
theorem dX12_layWorkers_11 : decode cX12_layWorkers 11 = .ok (.isub, 1) := by decide +kernel
theorem dX12_layWorkers_12 : decode cX12_layWorkers 12 = .ok (.invokestatic 113, 3) := by decide +kernel
theorem dX12_layWorkers_15 : decode cX12_layWorkers 15 = .ok (.ifCond .eq 32, 3) := by decide +kernel
theorem dX12_layWorkers_47 : decode cX12_layWorkers 47 = .ok (.iconst 0, 1) := by decide +kernel
theorem dX12_layWorkers_48 : decode cX12_layWorkers 48 = .ok (.ireturn, 1) := by decide +kernel
theorem dX12_match_0 : decode cX12_match 0 = .ok (.aload_n 0, 1) := by decide +kernel
theorem dX12_match_1 : decode cX12_match 1 = .ok (.iload_n 1, 1) := by decide +kernel
theorem dX12_match_2 : decode cX12_match 2 = .ok (.iload_n 2, 1) := by decide +kernel
theorem dX12_match_3 : decode cX12_match 3 = .ok (.invokevirtual 478, 3) := by decide +kernel
theorem dX12_match_6 : decode cX12_match 6 = .ok (.ifCond .eq 24, 3) := by decide +kernel
theorem dX12_match_30 : decode cX12_match 30 = .ok (.iconst (-1), 1) := by decide +kernel
theorem dX12_match_31 : decode cX12_match 31 = .ok (.ireturn, 1) := by decide +kernel
theorem dX12_near_0 : decode cX12_near 0 = .ok (.iload_n 1, 1) := by decide +kernel
theorem dX12_near_1 : decode cX12_near 1 = .ok (.iconst (-1), 1) := by decide +kernel
theorem dX12_near_2 : decode cX12_near 2 = .ok (.aload_n 0, 1) := by decide +kernel
theorem dX12_near_3 : decode cX12_near 3 = .ok (.getfield 7, 3) := by decide +kernel
theorem dX12_near_6 : decode cX12_near 6 = .ok (.bipush 10, 2) := by decide +kernel
theorem dX12_near_8 : decode cX12_near 8 = .ok (.iaload, 1) := by decide +kernel
theorem dX12_near_9 : decode cX12_near 9 = .ok (.iconst 1, 1) := by decide +kernel
theorem dX12_near_10 : decode cX12_near 10 = .ok (.isub, 1) := by decide +kernel
theorem dX12_near_11 : decode cX12_near 11 = .ok (.invokestatic 113, 3) := by decide +kernel
theorem dX12_near_14 : decode cX12_near 14 = .ok (.ifCond .ne 6, 3) := by decide +kernel
theorem dX12_near_17 : decode cX12_near 17 = .ok (.bipush (-2), 2) := by decide +kernel
theorem dX12_near_19 : decode cX12_near 19 = .ok (.ireturn, 1) := by decide +kernel
theorem dX12_near_20 : decode cX12_near 20 = .ok (.iload_n 1, 1) := by decide +kernel
theorem dX12_near_21 : decode cX12_near 21 = .ok (.ifCond .lt 9, 3) := by decide +kernel
theorem dX12_near_30 : decode cX12_near 30 = .ok (.iconst 1, 1) := by decide +kernel
theorem dX12_near_31 : decode cX12_near 31 = .ok (.aload_n 0, 1) := by decide +kernel
theorem dX12_near_32 : decode cX12_near 32 = .ok (.getfield 7, 3) := by decide +kernel
theorem dX12_near_35 : decode cX12_near 35 = .ok (.iconst 1, 1) := by decide +kernel
theorem dX12_near_36 : decode cX12_near 36 = .ok (.iaload, 1) := by decide +kernel
theorem dX12_near_37 : decode cX12_near 37 = .ok (.ishl, 1) := by decide +kernel
theorem dX12_near_38 : decode cX12_near 38 = .ok (.iconst 1, 1) := by decide +kernel
theorem dX12_near_39 : decode cX12_near 39 = .ok (.isub, 1) := by decide +kernel
theorem dX12_near_40 : decode cX12_near 40 = .ok (.istore_n 2, 1) := by decide +kernel
theorem dX12_near_41 : decode cX12_near 41 = .ok (.iconst 0, 1) := by decide +kernel
theorem dX12_near_42 : decode cX12_near 42 = .ok (.istore_n 3, 1) := by decide +kernel
theorem dX12_near_43 : decode cX12_near 43 = .ok (.iload_n 3, 1) := by decide +kernel
theorem dX12_near_44 : decode cX12_near 44 = .ok (.aload_n 0, 1) := by decide +kernel
theorem dX12_near_45 : decode cX12_near 45 = .ok (.getfield 7, 3) := by decide +kernel
theorem dX12_near_48 : decode cX12_near 48 = .ok (.bipush 10, 2) := by decide +kernel
theorem dX12_near_50 : decode cX12_near 50 = .ok (.iaload, 1) := by decide +kernel
theorem dX12_near_51 : decode cX12_near 51 = .ok (.if_icmp .ge 17, 3) := by decide +kernel
theorem dX12_near_68 : decode cX12_near 68 = .ok (.iload_n 2, 1) := by decide +kernel
theorem dX12_near_69 : decode cX12_near 69 = .ok (.ireturn, 1) := by decide +kernel
theorem dX12_shake_0 : decode cX12_shake 0 = .ok (.aload_n 0, 1) := by decide +kernel
theorem dX12_shake_1 : decode cX12_shake 1 = .ok (.iload_n 1, 1) := by decide +kernel
theorem dX12_shake_2 : decode cX12_shake 2 = .ok (.iload_n 2, 1) := by decide +kernel
theorem dX12_shake_3 : decode cX12_shake 3 = .ok (.invokevirtual 403, 3) := by decide +kernel
theorem dX12_shake_6 : decode cX12_shake 6 = .ok (.ifCond .ne 5, 3) := by decide +kernel
theorem dX12_shake_9 : decode cX12_shake 9 = .ok (.iconst (-1), 1) := by decide +kernel
theorem dX12_shake_10 : decode cX12_shake 10 = .ok (.ireturn, 1) := by decide +kernel
theorem dX12_shares_0 : decode cX12_shares 0 = .ok (.iload_n 1, 1) := by decide +kernel
theorem dX12_shares_1 : decode cX12_shares 1 = .ok (.iconst 1, 1) := by decide +kernel
theorem dX12_shares_2 : decode cX12_shares 2 = .ok (.iconst 1, 1) := by decide +kernel
theorem dX12_shares_3 : decode cX12_shares 3 = .ok (.aload_n 0, 1) := by decide +kernel
theorem dX12_shares_4 : decode cX12_shares 4 = .ok (.getfield 7, 3) := by decide +kernel
theorem dX12_shares_7 : decode cX12_shares 7 = .ok (.iconst 1, 1) := by decide +kernel
theorem dX12_shares_8 : decode cX12_shares 8 = .ok (.iaload, 1) := by decide +kernel
theorem dX12_shares_9 : decode cX12_shares 9 = .ok (.ishl, 1) := by decide +kernel
theorem dX12_shares_10 : decode cX12_shares 10 = .ok (.iconst 1, 1) := by decide +kernel
theorem dX12_shares_11 : decode cX12_shares 11 = .ok (.isub, 1) := by decide +kernel
theorem dX12_shares_12 : decode cX12_shares 12 = .ok (.invokestatic 113, 3) := by decide +kernel
theorem dX12_shares_15 : decode cX12_shares 15 = .ok (.ifCond .eq 30, 3) := by decide +kernel
theorem dX12_shares_45 : decode cX12_shares 45 = .ok (.iconst (-1), 1) := by decide +kernel
theorem dX12_shares_46 : decode cX12_shares 46 = .ok (.ireturn, 1) := by decide +kernel
theorem dX12_steal_0 : decode cX12_steal 0 = .ok (.iload_n 3, 1) := by decide +kernel
theorem dX12_steal_1 : decode cX12_steal 1 = .ok (.iconst 1, 1) := by decide +kernel
theorem dX12_steal_2 : decode cX12_steal 2 = .ok (.bipush 99, 2) := by decide +kernel
theorem dX12_steal_4 : decode cX12_steal 4 = .ok (.invokestatic 113, 3) := by decide +kernel
theorem dX12_steal_7 : decode cX12_steal 7 = .ok (.ifCond .eq 13, 3) := by decide +kernel
theorem dX12_steal_10 : decode cX12_steal 10 = .ok (.aload_n 0, 1) := by decide +kernel
theorem dX12_steal_11 : decode cX12_steal 11 = .ok (.iload_n 1, 1) := by decide +kernel
theorem dX12_steal_12 : decode cX12_steal 12 = .ok (.iload_n 2, 1) := by decide +kernel
theorem dX12_steal_13 : decode cX12_steal 13 = .ok (.iload_n 3, 1) := by decide +kernel
theorem dX12_steal_14 : decode cX12_steal 14 = .ok (.invokevirtual 409, 3) := by decide +kernel
theorem dX12_steal_17 : decode cX12_steal 17 = .ok (.ifCond .ne 5, 3) := by decide +kernel
theorem dX12_steal_20 : decode cX12_steal 20 = .ok (.iconst (-1), 1) := by decide +kernel
theorem dX12_steal_21 : decode cX12_steal 21 = .ok (.ireturn, 1) := by decide +kernel
theorem dX12_thieves_0 : decode cX12_thieves 0 = .ok (.iconst (-1), 1) := by decide +kernel
theorem dX12_thieves_1 : decode cX12_thieves 1 = .ok (.istore_n 1, 1) := by decide +kernel
theorem dX12_thieves_2 : decode cX12_thieves 2 = .ok (.iconst 0, 1) := by decide +kernel
theorem dX12_thieves_3 : decode cX12_thieves 3 = .ok (.istore_n 2, 1) := by decide +kernel
theorem dX12_thieves_4 : decode cX12_thieves 4 = .ok (.iload_n 2, 1) := by decide +kernel
theorem dX12_thieves_5 : decode cX12_thieves 5 = .ok (.aload_n 0, 1) := by decide +kernel
theorem dX12_thieves_6 : decode cX12_thieves 6 = .ok (.getfield 7, 3) := by decide +kernel
theorem dX12_thieves_9 : decode cX12_thieves 9 = .ok (.bipush 10, 2) := by decide +kernel
theorem dX12_thieves_11 : decode cX12_thieves 11 = .ok (.iaload, 1) := by decide +kernel
theorem dX12_thieves_12 : decode cX12_thieves 12 = .ok (.if_icmp .ge 20, 3) := by decide +kernel
theorem dX12_thieves_32 : decode cX12_thieves 32 = .ok (.iconst 0, 1) := by decide +kernel
theorem dX12_thieves_33 : decode cX12_thieves 33 = .ok (.istore_n 2, 1) := by decide +kernel
theorem dX12_thieves_34 : decode cX12_thieves 34 = .ok (.iload_n 2, 1) := by decide +kernel
theorem dX12_thieves_35 : decode cX12_thieves 35 = .ok (.iconst 1, 1) := by decide +kernel
theorem dX12_thieves_36 : decode cX12_thieves 36 = .ok (.aload_n 0, 1) := by decide +kernel
theorem dX12_thieves_37 : decode cX12_thieves 37 = .ok (.getfield 7, 3) := by decide +kernel
theorem dX12_thieves_40 : decode cX12_thieves 40 = .ok (.iconst 1, 1) := by decide +kernel
theorem dX12_thieves_41 : decode cX12_thieves 41 = .ok (.iaload, 1) := by decide +kernel
theorem dX12_thieves_42 : decode cX12_thieves 42 = .ok (.ishl, 1) := by decide +kernel
theorem dX12_thieves_43 : decode cX12_thieves 43 = .ok (.if_icmp .ge 79, 3) := by decide +kernel
theorem dX12_thieves_46 : decode cX12_thieves 46 = .ok (.iload_n 1, 1) := by decide +kernel
theorem dX12_thieves_47 : decode cX12_thieves 47 = .ok (.ifCond .lt 14, 3) := by decide +kernel
theorem dX12_thieves_61 : decode cX12_thieves 61 = .ok (.iconst 1, 1) := by decide +kernel
theorem dX12_thieves_62 : decode cX12_thieves 62 = .ok (.goto 4, 3) := by decide +kernel
theorem dX12_thieves_66 : decode cX12_thieves 66 = .ok (.istore_n 3, 1) := by decide +kernel
theorem dX12_thieves_67 : decode cX12_thieves 67 = .ok (.iconst 0, 1) := by decide +kernel
theorem dX12_thieves_68 : decode cX12_thieves 68 = .ok (.istore 4, 2) := by decide +kernel
theorem dX12_thieves_70 : decode cX12_thieves 70 = .ok (.iload 4, 2) := by decide +kernel
theorem dX12_thieves_72 : decode cX12_thieves 72 = .ok (.aload_n 0, 1) := by decide +kernel
theorem dX12_thieves_73 : decode cX12_thieves 73 = .ok (.getfield 7, 3) := by decide +kernel
theorem dX12_thieves_76 : decode cX12_thieves 76 = .ok (.bipush 10, 2) := by decide +kernel
theorem dX12_thieves_78 : decode cX12_thieves 78 = .ok (.iaload, 1) := by decide +kernel
theorem dX12_thieves_79 : decode cX12_thieves 79 = .ok (.if_icmp .ge 31, 3) := by decide +kernel
theorem dX12_thieves_110 : decode cX12_thieves 110 = .ok (.iload_n 3, 1) := by decide +kernel
theorem dX12_thieves_111 : decode cX12_thieves 111 = .ok (.ifCond .eq 5, 3) := by decide +kernel
theorem dX12_thieves_114 : decode cX12_thieves 114 = .ok (.iload_n 2, 1) := by decide +kernel
theorem dX12_thieves_115 : decode cX12_thieves 115 = .ok (.istore_n 1, 1) := by decide +kernel
theorem dX12_thieves_116 : decode cX12_thieves 116 = .ok (.iinc 2 1, 3) := by decide +kernel
theorem dX12_thieves_119 : decode cX12_thieves 119 = .ok (.goto (-85), 3) := by decide +kernel
theorem dX12_thieves_122 : decode cX12_thieves 122 = .ok (.iload_n 1, 1) := by decide +kernel
theorem dX12_thieves_123 : decode cX12_thieves 123 = .ok (.ireturn, 1) := by decide +kernel
theorem dX12_tradedAt_0 : decode cX12_tradedAt 0 = .ok (.iconst 0, 1) := by decide +kernel
theorem dX12_tradedAt_1 : decode cX12_tradedAt 1 = .ok (.istore_n 2, 1) := by decide +kernel
theorem dX12_tradedAt_2 : decode cX12_tradedAt 2 = .ok (.iconst 0, 1) := by decide +kernel
theorem dX12_tradedAt_3 : decode cX12_tradedAt 3 = .ok (.istore_n 3, 1) := by decide +kernel
theorem dX12_tradedAt_4 : decode cX12_tradedAt 4 = .ok (.iconst 0, 1) := by decide +kernel
theorem dX12_tradedAt_5 : decode cX12_tradedAt 5 = .ok (.istore 4, 2) := by decide +kernel
theorem dX12_tradedAt_7 : decode cX12_tradedAt 7 = .ok (.iload 4, 2) := by decide +kernel
theorem dX12_tradedAt_9 : decode cX12_tradedAt 9 = .ok (.aload_n 0, 1) := by decide +kernel
theorem dX12_tradedAt_10 : decode cX12_tradedAt 10 = .ok (.getfield 7, 3) := by decide +kernel
theorem dX12_tradedAt_13 : decode cX12_tradedAt 13 = .ok (.bipush 12, 2) := by decide +kernel
theorem dX12_tradedAt_15 : decode cX12_tradedAt 15 = .ok (.iaload, 1) := by decide +kernel
theorem dX12_tradedAt_16 : decode cX12_tradedAt 16 = .ok (.if_icmp .ge 91, 3) := by decide +kernel
theorem dX12_tradedAt_107 : decode cX12_tradedAt 107 = .ok (.iload_n 2, 1) := by decide +kernel
theorem dX12_tradedAt_108 : decode cX12_tradedAt 108 = .ok (.iload_n 3, 1) := by decide +kernel
theorem dX12_tradedAt_109 : decode cX12_tradedAt 109 = .ok (.if_icmp .ge 7, 3) := by decide +kernel
theorem dX12_tradedAt_116 : decode cX12_tradedAt 116 = .ok (.iload_n 3, 1) := by decide +kernel
theorem dX12_tradedAt_117 : decode cX12_tradedAt 117 = .ok (.ireturn, 1) := by decide +kernel
set_option maxHeartbeats 4000000 in
set_option maxRecDepth 100000 in
theorem m_canShake (l : Launch) (D : va_G) (cy : Nat → ClassId) (L : List Nat) (σ : Nat → va_E) (φ : Nat → Nat → Nat → Int32) (ρ : Nat → Nat → Int32) {m : Nat} {r : Nat → Nat} (p : Int32) (q : Int32) (hm : zModel cy L σ m r) (h00 : ρ (r 0) 0 = 0) (h01 : ρ (r 0) 1 = 0) : zMI l D cy yX12_canShake cX12_canShake 3 .boolean (zrm 2 0 0) [.ref m, .int p, .int q] L σ φ ρ (zpu L σ φ ρ (fun r => r = 0)) := by
  refine zMI.mk (by decide) (Nat.le_of_ble_eq_true rfl) (fun E hE hret => ?_)
  show zW E 0 0 L σ φ ρ 0 [(0, .ref m), (1, .int p), (2, .int q)] []
  obtain ⟨hM, hr0, hr1, hr2, hr3, hr15, hr16, hr22, hr25, hr26, hr27, hr28, hr29, hr32, hr33, hr34, hr39, hr41, hr42, hr43, hr44, hr45, hr46, hr47, hr48, hr49, hr50, hr51, hr52, hne⟩ := id hm
  refine x_aload_n hE dX12_canShake_0 rfl 0 rfl ?_
  refine x_iload_n hE dX12_canShake_1 rfl 1 rfl ?_
  refine c_ip hE (r_V (st := []) hE (m_isPerson l D cy L σ φ ρ (p) hm h00 h01) q1840 q1842 q87 q124 q1843 hM rfl ⟨by decide, by decide, pn_X12_isPerson⟩ ⟨Nat.le_of_ble_eq_true rfl, Nat.le_of_ble_eq_true rfl⟩ ⟨Nat.le_of_ble_eq_true rfl, Nat.le_of_ble_eq_true rfl⟩ rfl (Nat.le_of_ble_eq_true rfl) dX12_canShake_2) (fun r2 h_2 => ?_)
  refine x_widen (k' := 0) (n' := 0) (Nat.le_of_ble_eq_true rfl) (Nat.le_of_ble_eq_true rfl) ?_
  refine x_norm (y := 0) (h_2) ?_
  refine x_if_eq (tgt := 40) hE dX12_canShake_5 (by decide) (fun c_5 => ?_) (fun c_5 => absurd (by decide) c_5)
  refine x_iconst (v := 0) hE dX12_canShake_40 (by decide) ?_
  exact hret _ _ _ _ _ _ _ _ (0) (Nat.le_of_ble_eq_true rfl) (Nat.le_of_ble_eq_true rfl) dX12_canShake_41 (rfl) (⟨rfl, rfl⟩)
set_option maxHeartbeats 4000000 in
set_option maxRecDepth 100000 in
theorem m_canGo (l : Launch) (D : va_G) (cy : Nat → ClassId) (L : List Nat) (σ : Nat → va_E) (φ : Nat → Nat → Nat → Int32) (ρ : Nat → Nat → Int32) {m : Nat} {r : Nat → Nat} (p : Int32) (f : Int32) (hm : zModel cy L σ m r) (h00 : ρ (r 0) 0 = 0) (h01 : ρ (r 0) 1 = 0) : zMI l D cy yX12_canGo cX12_canGo 3 .boolean (zrm 2 0 0) [.ref m, .int p, .int f] L σ φ ρ (zpu L σ φ ρ (fun r => r = 0)) := by
  refine zMI.mk (by decide) (Nat.le_of_ble_eq_true rfl) (fun E hE hret => ?_)
  show zW E 0 0 L σ φ ρ 0 [(0, .ref m), (1, .int p), (2, .int f)] []
  obtain ⟨hM, hr0, hr1, hr2, hr3, hr15, hr16, hr22, hr25, hr26, hr27, hr28, hr29, hr32, hr33, hr34, hr39, hr41, hr42, hr43, hr44, hr45, hr46, hr47, hr48, hr49, hr50, hr51, hr52, hne⟩ := id hm
  refine x_aload_n hE dX12_canGo_0 rfl 0 rfl ?_
  refine x_iload_n hE dX12_canGo_1 rfl 1 rfl ?_
  refine c_ip hE (r_V (st := []) hE (m_isPerson l D cy L σ φ ρ (p) hm h00 h01) q1840 q1842 q87 q124 q1843 hM rfl ⟨by decide, by decide, pn_X12_isPerson⟩ ⟨Nat.le_of_ble_eq_true rfl, Nat.le_of_ble_eq_true rfl⟩ ⟨Nat.le_of_ble_eq_true rfl, Nat.le_of_ble_eq_true rfl⟩ rfl (Nat.le_of_ble_eq_true rfl) dX12_canGo_2) (fun r2 h_2 => ?_)
  refine x_widen (k' := 0) (n' := 0) (Nat.le_of_ble_eq_true rfl) (Nat.le_of_ble_eq_true rfl) ?_
  refine x_norm (y := 0) (h_2) ?_
  refine x_if_eq (tgt := 39) hE dX12_canGo_5 (by decide) (fun c_5 => ?_) (fun c_5 => absurd (by decide) c_5)
  refine x_iconst (v := 0) hE dX12_canGo_39 (by decide) ?_
  exact hret _ _ _ _ _ _ _ _ (0) (Nat.le_of_ble_eq_true rfl) (Nat.le_of_ble_eq_true rfl) dX12_canGo_40 (rfl) (⟨rfl, rfl⟩)
set_option maxHeartbeats 4000000 in
set_option maxRecDepth 100000 in
theorem m_canSteal (l : Launch) (D : va_G) (cy : Nat → ClassId) (L : List Nat) (σ : Nat → va_E) (φ : Nat → Nat → Nat → Int32) (ρ : Nat → Nat → Int32) {m : Nat} {r : Nat → Nat} (p : Int32) (q : Int32) (v : Int32) (hm : zModel cy L σ m r) (h00 : ρ (r 0) 0 = 0) (h01 : ρ (r 0) 1 = 0) : zMI l D cy yX12_canSteal cX12_canSteal 4 .boolean (zrm 3 0 0) [.ref m, .int p, .int q, .int v] L σ φ ρ (zpu L σ φ ρ (fun r => r = 0)) := by
  refine zMI.mk (by decide) (Nat.le_of_ble_eq_true rfl) (fun E hE hret => ?_)
  show zW E 0 0 L σ φ ρ 0 [(0, .ref m), (1, .int p), (2, .int q), (3, .int v)] []
  obtain ⟨hM, hr0, hr1, hr2, hr3, hr15, hr16, hr22, hr25, hr26, hr27, hr28, hr29, hr32, hr33, hr34, hr39, hr41, hr42, hr43, hr44, hr45, hr46, hr47, hr48, hr49, hr50, hr51, hr52, hne⟩ := id hm
  refine x_aload_n hE dX12_canSteal_0 rfl 0 rfl ?_
  refine x_iload_n hE dX12_canSteal_1 rfl 1 rfl ?_
  refine x_iload_n hE dX12_canSteal_2 rfl 2 rfl ?_
  refine c_ip hE (r_V (st := []) hE (m_canShake l D cy L σ φ ρ (p) (q) hm h00 h01) q1856 q1858 q89 q124 q1859 hM rfl ⟨by decide, by decide, pn_X12_canShake⟩ ⟨Nat.le_of_ble_eq_true rfl, Nat.le_of_ble_eq_true rfl⟩ ⟨Nat.le_of_ble_eq_true rfl, Nat.le_of_ble_eq_true rfl⟩ rfl (Nat.le_of_ble_eq_true rfl) dX12_canSteal_3) (fun r3 h_3 => ?_)
  refine x_widen (k' := 0) (n' := 0) (Nat.le_of_ble_eq_true rfl) (Nat.le_of_ble_eq_true rfl) ?_
  refine x_norm (y := 0) (h_3) ?_
  refine x_if_eq (tgt := 41) hE dX12_canSteal_6 (by decide) (fun c_6 => ?_) (fun c_6 => absurd (by decide) c_6)
  refine x_iconst (v := 0) hE dX12_canSteal_41 (by decide) ?_
  exact hret _ _ _ _ _ _ _ _ (0) (Nat.le_of_ble_eq_true rfl) (Nat.le_of_ble_eq_true rfl) dX12_canSteal_42 (rfl) (⟨rfl, rfl⟩)
set_option maxHeartbeats 4000000 in
set_option maxRecDepth 100000 in
theorem m_layWorkers (l : Launch) (D : va_G) (cy : Nat → ClassId) (L : List Nat) (σ : Nat → va_E) (φ : Nat → Nat → Nat → Int32) (ρ : Nat → Nat → Int32) {m : Nat} {r : Nat → Nat} (a : Int32) (b : Int32) (hm : zModel cy L σ m r) (h00 : ρ (r 0) 0 = 0) (h01 : ρ (r 0) 1 = 0) : zMI l D cy yX12_layWorkers cX12_layWorkers 5 .boolean (zrm 1 0 0) [.ref m, .int a, .int b] L σ φ ρ (zpu L σ φ ρ (fun r => r = 0)) := by
  refine zMI.mk (by decide) (Nat.le_of_ble_eq_true rfl) (fun E hE hret => ?_)
  show zW E 0 0 L σ φ ρ 0 [(0, .ref m), (1, .int a), (2, .int b)] []
  obtain ⟨hM, hr0, hr1, hr2, hr3, hr15, hr16, hr22, hr25, hr26, hr27, hr28, hr29, hr32, hr33, hr34, hr39, hr41, hr42, hr43, hr44, hr45, hr46, hr47, hr48, hr49, hr50, hr51, hr52, hne⟩ := id hm
  refine x_iload_n hE dX12_layWorkers_0 rfl 1 rfl ?_
  refine x_iconst (v := 1) hE dX12_layWorkers_1 (by decide) ?_
  refine x_iconst (v := 1) hE dX12_layWorkers_2 (by decide) ?_
  refine x_aload_n hE dX12_layWorkers_3 rfl 0 rfl ?_
  refine h_getr hE hM rfl inZX12 0 (by decide) q1394 rfl dX12_layWorkers_4 ?_
  refine x_iconst (v := 1) hE dX12_layWorkers_7 (by decide) ?_
  refine h_ialdL (iN := 1) hE hr0 (by decide) (by decide) (by omega) dX12_layWorkers_8 ?_
  refine x_norm (y := 0) (h01) ?_
  refine x_ishl hE dX12_layWorkers_9 ?_
  refine x_norm (y := 1) (by decide) ?_
  refine x_iconst (v := 1) hE dX12_layWorkers_10 (by decide) ?_
  refine x_isub hE dX12_layWorkers_11 ?_
  refine x_norm (y := 0) (by decide) ?_
  refine c_ip hE (r_S (st := []) hE (m_isIn l D cy L σ φ ρ (a) (1) (0)) q1558 q1559 q124 q1560 ⟨by decide, by decide, pn_X12_isIn⟩ ⟨Nat.le_of_ble_eq_true rfl, Nat.le_of_ble_eq_true rfl⟩ ⟨Nat.le_of_ble_eq_true rfl, Nat.le_of_ble_eq_true rfl⟩ rfl (Nat.le_of_ble_eq_true rfl) dX12_layWorkers_12) (fun r12 h12 => ?_)
  refine x_widen (k' := 0) (n' := 0) (Nat.le_of_ble_eq_true rfl) (Nat.le_of_ble_eq_true rfl) ?_
  refine x_norm (y := 0) (h12.trans (zb_f z_10)) ?_
  refine x_if_eq (tgt := 47) hE dX12_layWorkers_15 (by decide) (fun c_15 => ?_) (fun c_15 => absurd (by decide) c_15)
  refine x_iconst (v := 0) hE dX12_layWorkers_47 (by decide) ?_
  exact hret _ _ _ _ _ _ _ _ (0) (Nat.le_of_ble_eq_true rfl) (Nat.le_of_ble_eq_true rfl) dX12_layWorkers_48 (rfl) (⟨rfl, rfl⟩)
set_option maxHeartbeats 4000000 in
set_option maxRecDepth 100000 in
theorem m_errorsOf (l : Launch) (D : va_G) (cy : Nat → ClassId) (L : List Nat) (σ : Nat → va_E) (φ : Nat → Nat → Nat → Int32) (ρ : Nat → Nat → Int32) {m : Nat} {r : Nat → Nat} (t b : Int32) (hm : zModel cy L σ m r) (h11 : ρ (r 0) 11 = 0) : zMI l D cy yX12_errorsOf cX12_errorsOf 7 .int (zrm 1 0 0) [.ref m, .int t, .int b] L σ φ ρ (zpu L σ φ ρ (fun r => r = 0)) := by
  refine zMI.mk (by decide) (Nat.le_of_ble_eq_true rfl) (fun E hE hret => ?_)
  show zW E 0 0 L σ φ ρ 0 [(0, .ref m), (1, .int t), (2, .int b)] []
  obtain ⟨hM, hr0, hr1, hr2, hr3, hr15, hr16, hr22, hr25, hr26, hr27, hr28, hr29, hr32, hr33, hr34, hr39, hr41, hr42, hr43, hr44, hr45, hr46, hr47, hr48, hr49, hr50, hr51, hr52, hne⟩ := id hm
  refine x_iconst (v := 0) hE dX12_errorsOf_0 (by decide) ?_
  refine x_istore_n (lv' := [(3, .int 0), (0, .ref m), (1, .int t), (2, .int b)]) hE dX12_errorsOf_1 rfl (by decide) rfl ?_
  refine x_iconst (v := 0) hE dX12_errorsOf_2 (by decide) ?_
  refine x_istore (lv' := [(4, .int 0), (3, .int 0), (0, .ref m), (1, .int t), (2, .int b)]) hE dX12_errorsOf_3 (by decide) rfl ?_
  refine x_iload hE dX12_errorsOf_5 0 rfl ?_
  refine x_aload_n hE dX12_errorsOf_7 rfl 2 rfl ?_
  refine h_getr hE hM rfl inZX12 0 (by decide) q1394 rfl dX12_errorsOf_8 ?_
  refine x_bipush (v := 11) hE dX12_errorsOf_11 (by decide) ?_
  refine h_ialdL (iN := 11) hE hr0 (by decide) (by decide) (by omega) dX12_errorsOf_13 ?_
  refine x_norm (y := 0) (h11) ?_
  refine x_icmp_ge (tgt := 113) hE dX12_errorsOf_14 (by decide) (fun c_14 => ?_) (fun c_14 => absurd (by decide) c_14)
  refine x_iload_n hE dX12_errorsOf_113 rfl 1 rfl ?_
  exact hret _ _ _ _ _ _ _ _ (0) (Nat.le_of_ble_eq_true rfl) (Nat.le_of_ble_eq_true rfl) dX12_errorsOf_114 (rfl) (⟨rfl, rfl⟩)
set_option maxHeartbeats 4000000 in
set_option maxRecDepth 100000 in
theorem m_tradedAt (l : Launch) (D : va_G) (cy : Nat → ClassId) (L : List Nat) (σ : Nat → va_E) (φ : Nat → Nat → Nat → Int32) (ρ : Nat → Nat → Int32) {m : Nat} {r : Nat → Nat} (t : Int32) (hm : zModel cy L σ m r) (h12 : ρ (r 0) 12 = 0) : zMI l D cy yX12_tradedAt cX12_tradedAt 6 .int (zrm 1 0 0) [.ref m, .int t] L σ φ ρ (zpu L σ φ ρ (fun r => r = 0)) := by
  refine zMI.mk (by decide) (Nat.le_of_ble_eq_true rfl) (fun E hE hret => ?_)
  show zW E 0 0 L σ φ ρ 0 [(0, .ref m), (1, .int t)] []
  obtain ⟨hM, hr0, hr1, hr2, hr3, hr15, hr16, hr22, hr25, hr26, hr27, hr28, hr29, hr32, hr33, hr34, hr39, hr41, hr42, hr43, hr44, hr45, hr46, hr47, hr48, hr49, hr50, hr51, hr52, hne⟩ := id hm
  refine x_iconst (v := 0) hE dX12_tradedAt_0 (by decide) ?_
  refine x_istore_n (lv' := [(2, .int 0), (0, .ref m), (1, .int t)]) hE dX12_tradedAt_1 rfl (by decide) rfl ?_
  refine x_iconst (v := 0) hE dX12_tradedAt_2 (by decide) ?_
  refine x_istore_n (lv' := [(3, .int 0), (2, .int 0), (0, .ref m), (1, .int t)]) hE dX12_tradedAt_3 rfl (by decide) rfl ?_
  refine x_iconst (v := 0) hE dX12_tradedAt_4 (by decide) ?_
  refine x_istore (lv' := [(4, .int 0), (3, .int 0), (2, .int 0), (0, .ref m), (1, .int t)]) hE dX12_tradedAt_5 (by decide) rfl ?_
  refine x_iload hE dX12_tradedAt_7 0 rfl ?_
  refine x_aload_n hE dX12_tradedAt_9 rfl 3 rfl ?_
  refine h_getr hE hM rfl inZX12 0 (by decide) q1394 rfl dX12_tradedAt_10 ?_
  refine x_bipush (v := 12) hE dX12_tradedAt_13 (by decide) ?_
  refine h_ialdL (iN := 12) hE hr0 (by decide) (by decide) (by omega) dX12_tradedAt_15 ?_
  refine x_norm (y := 0) (h12) ?_
  refine x_icmp_ge (tgt := 107) hE dX12_tradedAt_16 (by decide) (fun c_16 => ?_) (fun c_16 => absurd (by decide) c_16)
  refine x_iload_n hE dX12_tradedAt_107 rfl 2 rfl ?_
  refine x_iload_n hE dX12_tradedAt_108 rfl 1 rfl ?_
  refine x_icmp_ge (tgt := 116) hE dX12_tradedAt_109 (by decide) (fun c_109 => ?_) (fun c_109 => absurd (by decide) c_109)
  refine x_iload_n hE dX12_tradedAt_116 rfl 1 rfl ?_
  exact hret _ _ _ _ _ _ _ _ (0) (Nat.le_of_ble_eq_true rfl) (Nat.le_of_ble_eq_true rfl) dX12_tradedAt_117 (rfl) (⟨rfl, rfl⟩)
theorem z_ab : ∀ j, j < 13 → za0 j = zabout (nI j) := by decide
set_option maxHeartbeats 4000000 in
set_option maxRecDepth 100000 in
theorem m_go (l : Launch) (D : va_G) (cy : Nat → ClassId) (L : List Nat) (σ : Nat → va_E) (φ : Nat → Nat → Nat → Int32) (ρ : Nat → Nat → Int32) {m : Nat} {r : Nat → Nat} (p : Int32) (f : Int32) (hm : zModel cy L σ m r) (hm0 : zMo0 φ ρ m r) : zMI l D cy yX12_go cX12_go 3 .boolean (zrm 4 0 0) [.ref m, .int p, .int f] L σ φ ρ (fun r _ => r = 0) := by
  refine zMI.mk (by decide) (Nat.le_of_ble_eq_true rfl) (fun E hE hret => ?_)
  show zW E 0 0 L σ φ ρ 0 [(0, .ref m), (1, .int p), (2, .int f)] []
  obtain ⟨hM, hr0, hr1, hr2, hr3, hr15, hr16, hr22, hr25, hr26, hr27, hr28, hr29, hr32, hr33, hr34, hr39, hr41, hr42, hr43, hr44, hr45, hr46, hr47, hr48, hr49, hr50, hr51, hr52, hne⟩ := id hm
  obtain ⟨hp, h0, h1⟩ := id hm0
  have h00 : ρ (r 0) 0 = 0 := (h0 0 (by omega)).trans (by decide)
  have h01 : ρ (r 0) 1 = 0 := (h0 1 (by omega)).trans (by decide)
  have h11 : ρ (r 0) 11 = 0 := (h0 11 (by omega)).trans (by decide)
  have h12 : ρ (r 0) 12 = 0 := (h0 12 (by omega)).trans (by decide)
  refine x_aload_n hE dX12_go_0 rfl 0 rfl ?_
  refine x_iload_n hE dX12_go_1 rfl 1 rfl ?_
  refine x_iload_n hE dX12_go_2 rfl 2 rfl ?_
  refine c_ip hE (r_V (st := []) hE (m_canGo l D cy L σ φ ρ (p) (f) hm h00 h01) q1848 q1850 q88 q124 q1851 hM rfl ⟨by decide, by decide, pn_X12_canGo⟩ ⟨Nat.le_of_ble_eq_true rfl, Nat.le_of_ble_eq_true rfl⟩ ⟨Nat.le_of_ble_eq_true rfl, Nat.le_of_ble_eq_true rfl⟩ rfl (Nat.le_of_ble_eq_true rfl) dX12_go_3) (fun r3 h_3 => ?_)
  refine x_widen (k' := 0) (n' := 0) (Nat.le_of_ble_eq_true rfl) (Nat.le_of_ble_eq_true rfl) ?_
  refine x_norm (y := 0) (h_3) ?_
  refine x_if_ne (tgt := 11) hE dX12_go_6 (by decide) (fun c_6 => absurd c_6 (fun h => h (by decide))) (fun c_6 => ?_)
  refine x_iconst (v := 0) hE dX12_go_9 (by decide) ?_
  exact hret _ _ _ _ _ _ _ _ (0) (Nat.le_of_ble_eq_true rfl) (Nat.le_of_ble_eq_true rfl) dX12_go_10 (rfl) (by grind [zb])
set_option maxHeartbeats 4000000 in
set_option maxRecDepth 100000 in
theorem m_shake (l : Launch) (D : va_G) (cy : Nat → ClassId) (L : List Nat) (σ : Nat → va_E) (φ : Nat → Nat → Nat → Int32) (ρ : Nat → Nat → Int32) {m : Nat} {r : Nat → Nat} (p : Int32) (q : Int32) (hm : zModel cy L σ m r) (hm0 : zMo0 φ ρ m r) : zMI l D cy yX12_shake cX12_shake 3 .int (zrm 4 0 0) [.ref m, .int p, .int q] L σ φ ρ (fun r _ => r = -1) := by
  refine zMI.mk (by decide) (Nat.le_of_ble_eq_true rfl) (fun E hE hret => ?_)
  show zW E 0 0 L σ φ ρ 0 [(0, .ref m), (1, .int p), (2, .int q)] []
  obtain ⟨hM, hr0, hr1, hr2, hr3, hr15, hr16, hr22, hr25, hr26, hr27, hr28, hr29, hr32, hr33, hr34, hr39, hr41, hr42, hr43, hr44, hr45, hr46, hr47, hr48, hr49, hr50, hr51, hr52, hne⟩ := id hm
  obtain ⟨hp, h0, h1⟩ := id hm0
  have h00 : ρ (r 0) 0 = 0 := (h0 0 (by omega)).trans (by decide)
  have h01 : ρ (r 0) 1 = 0 := (h0 1 (by omega)).trans (by decide)
  have h11 : ρ (r 0) 11 = 0 := (h0 11 (by omega)).trans (by decide)
  have h12 : ρ (r 0) 12 = 0 := (h0 12 (by omega)).trans (by decide)
  refine x_aload_n hE dX12_shake_0 rfl 0 rfl ?_
  refine x_iload_n hE dX12_shake_1 rfl 1 rfl ?_
  refine x_iload_n hE dX12_shake_2 rfl 2 rfl ?_
  refine c_ip hE (r_V (st := []) hE (m_canShake l D cy L σ φ ρ (p) (q) hm h00 h01) q1856 q1858 q89 q124 q1859 hM rfl ⟨by decide, by decide, pn_X12_canShake⟩ ⟨Nat.le_of_ble_eq_true rfl, Nat.le_of_ble_eq_true rfl⟩ ⟨Nat.le_of_ble_eq_true rfl, Nat.le_of_ble_eq_true rfl⟩ rfl (Nat.le_of_ble_eq_true rfl) dX12_shake_3) (fun r3 h_3 => ?_)
  refine x_widen (k' := 0) (n' := 0) (Nat.le_of_ble_eq_true rfl) (Nat.le_of_ble_eq_true rfl) ?_
  refine x_norm (y := 0) (h_3) ?_
  refine x_if_ne (tgt := 11) hE dX12_shake_6 (by decide) (fun c_6 => absurd c_6 (fun h => h (by decide))) (fun c_6 => ?_)
  refine x_iconst (v := -1) hE dX12_shake_9 (by decide) ?_
  exact hret _ _ _ _ _ _ _ _ (-1) (Nat.le_of_ble_eq_true rfl) (Nat.le_of_ble_eq_true rfl) dX12_shake_10 (rfl) (by grind [zb])
set_option maxHeartbeats 4000000 in
set_option maxRecDepth 100000 in
theorem m_steal (l : Launch) (D : va_G) (cy : Nat → ClassId) (L : List Nat) (σ : Nat → va_E) (φ : Nat → Nat → Nat → Int32) (ρ : Nat → Nat → Int32) {m : Nat} {r : Nat → Nat} (p : Int32) (q : Int32) (v : Int32) (hm : zModel cy L σ m r) (hm0 : zMo0 φ ρ m r) : zMI l D cy yX12_steal cX12_steal 4 .int (zrm 4 0 0) [.ref m, .int p, .int q, .int v] L σ φ ρ (fun r _ => r = -1) := by
  refine zMI.mk (by decide) (Nat.le_of_ble_eq_true rfl) (fun E hE hret => ?_)
  show zW E 0 0 L σ φ ρ 0 [(0, .ref m), (1, .int p), (2, .int q), (3, .int v)] []
  obtain ⟨hM, hr0, hr1, hr2, hr3, hr15, hr16, hr22, hr25, hr26, hr27, hr28, hr29, hr32, hr33, hr34, hr39, hr41, hr42, hr43, hr44, hr45, hr46, hr47, hr48, hr49, hr50, hr51, hr52, hne⟩ := id hm
  obtain ⟨hp, h0, h1⟩ := id hm0
  have h00 : ρ (r 0) 0 = 0 := (h0 0 (by omega)).trans (by decide)
  have h01 : ρ (r 0) 1 = 0 := (h0 1 (by omega)).trans (by decide)
  have h11 : ρ (r 0) 11 = 0 := (h0 11 (by omega)).trans (by decide)
  have h12 : ρ (r 0) 12 = 0 := (h0 12 (by omega)).trans (by decide)
  refine x_iload_n hE dX12_steal_0 rfl 3 rfl ?_
  refine x_iconst (v := 1) hE dX12_steal_1 (by decide) ?_
  refine x_bipush (v := 99) hE dX12_steal_2 (by decide) ?_
  refine c_ip hE (r_S (st := []) hE (m_isIn l D cy L σ φ ρ (v) (1) (99)) q1558 q1559 q124 q1560 ⟨by decide, by decide, pn_X12_isIn⟩ ⟨Nat.le_of_ble_eq_true rfl, Nat.le_of_ble_eq_true rfl⟩ ⟨Nat.le_of_ble_eq_true rfl, Nat.le_of_ble_eq_true rfl⟩ rfl (Nat.le_of_ble_eq_true rfl) dX12_steal_4) (fun r4 h4 => ?_)
  refine x_widen (k' := 0) (n' := 0) (Nat.le_of_ble_eq_true rfl) (Nat.le_of_ble_eq_true rfl) ?_
  refine x_if_eq (tgt := 20) hE dX12_steal_7 (by decide) (fun c_7 => ?_) (fun c_7 => ?_)
  · refine x_iconst (v := -1) hE dX12_steal_20 (by decide) ?_
    exact hret _ _ _ _ _ _ _ _ (-1) (Nat.le_of_ble_eq_true rfl) (Nat.le_of_ble_eq_true rfl) dX12_steal_21 (rfl) (by grind [zb])
  · refine x_aload_n hE dX12_steal_10 rfl 0 rfl ?_
    refine x_iload_n hE dX12_steal_11 rfl 1 rfl ?_
    refine x_iload_n hE dX12_steal_12 rfl 2 rfl ?_
    refine x_iload_n hE dX12_steal_13 rfl 3 rfl ?_
    refine c_ip hE (r_V (st := []) hE (m_canSteal l D cy L σ φ ρ (p) (q) (v) hm h00 h01) q1868 q1870 q91 q124 q1871 hM rfl ⟨by decide, by decide, pn_X12_canSteal⟩ ⟨Nat.le_of_ble_eq_true rfl, Nat.le_of_ble_eq_true rfl⟩ ⟨Nat.le_of_ble_eq_true rfl, Nat.le_of_ble_eq_true rfl⟩ rfl (Nat.le_of_ble_eq_true rfl) dX12_steal_14) (fun r14 h_14 => ?_)
    refine x_widen (k' := 0) (n' := 0) (Nat.le_of_ble_eq_true rfl) (Nat.le_of_ble_eq_true rfl) ?_
    refine x_norm (y := 0) (h_14) ?_
    refine x_if_ne (tgt := 22) hE dX12_steal_17 (by decide) (fun c_17 => absurd c_17 (fun h => h (by decide))) (fun c_17 => ?_)
    refine x_iconst (v := -1) hE dX12_steal_20 (by decide) ?_
    exact hret _ _ _ _ _ _ _ _ (-1) (Nat.le_of_ble_eq_true rfl) (Nat.le_of_ble_eq_true rfl) dX12_steal_21 (rfl) (by grind [zb])
set_option maxHeartbeats 4000000 in
set_option maxRecDepth 100000 in
theorem m_match (l : Launch) (D : va_G) (cy : Nat → ClassId) (L : List Nat) (σ : Nat → va_E) (φ : Nat → Nat → Nat → Int32) (ρ : Nat → Nat → Int32) {m : Nat} {r : Nat → Nat} (a : Int32) (b : Int32) (p : Int32) (hm : zModel cy L σ m r) (hm0 : zMo0 φ ρ m r) : zMI l D cy yX12_match cX12_match 9 .int (zrm 4 0 0) [.ref m, .int a, .int b, .int p] L σ φ ρ (fun r _ => r = -1) := by
  refine zMI.mk (by decide) (Nat.le_of_ble_eq_true rfl) (fun E hE hret => ?_)
  show zW E 0 0 L σ φ ρ 0 [(0, .ref m), (1, .int a), (2, .int b), (3, .int p)] []
  obtain ⟨hM, hr0, hr1, hr2, hr3, hr15, hr16, hr22, hr25, hr26, hr27, hr28, hr29, hr32, hr33, hr34, hr39, hr41, hr42, hr43, hr44, hr45, hr46, hr47, hr48, hr49, hr50, hr51, hr52, hne⟩ := id hm
  obtain ⟨hp, h0, h1⟩ := id hm0
  have h00 : ρ (r 0) 0 = 0 := (h0 0 (by omega)).trans (by decide)
  have h01 : ρ (r 0) 1 = 0 := (h0 1 (by omega)).trans (by decide)
  have h11 : ρ (r 0) 11 = 0 := (h0 11 (by omega)).trans (by decide)
  have h12 : ρ (r 0) 12 = 0 := (h0 12 (by omega)).trans (by decide)
  refine x_aload_n hE dX12_match_0 rfl 0 rfl ?_
  refine x_iload_n hE dX12_match_1 rfl 1 rfl ?_
  refine x_iload_n hE dX12_match_2 rfl 2 rfl ?_
  refine c_ip hE (r_V (st := []) hE (m_layWorkers l D cy L σ φ ρ (a) (b) hm h00 h01) q1969 q1971 q103 q124 q1972 hM rfl ⟨by decide, by decide, pn_X12_layWorkers⟩ ⟨Nat.le_of_ble_eq_true rfl, Nat.le_of_ble_eq_true rfl⟩ ⟨Nat.le_of_ble_eq_true rfl, Nat.le_of_ble_eq_true rfl⟩ rfl (Nat.le_of_ble_eq_true rfl) dX12_match_3) (fun r3 h_3 => ?_)
  refine x_widen (k' := 0) (n' := 0) (Nat.le_of_ble_eq_true rfl) (Nat.le_of_ble_eq_true rfl) ?_
  refine x_norm (y := 0) (h_3) ?_
  refine x_if_eq (tgt := 30) hE dX12_match_6 (by decide) (fun c_6 => ?_) (fun c_6 => absurd (by decide) c_6)
  refine x_iconst (v := -1) hE dX12_match_30 (by decide) ?_
  exact hret _ _ _ _ _ _ _ _ (-1) (Nat.le_of_ble_eq_true rfl) (Nat.le_of_ble_eq_true rfl) dX12_match_31 (rfl) (by grind [zb])
set_option maxHeartbeats 4000000 in
set_option maxRecDepth 100000 in
theorem m_shares (l : Launch) (D : va_G) (cy : Nat → ClassId) (L : List Nat) (σ : Nat → va_E) (φ : Nat → Nat → Nat → Int32) (ρ : Nat → Nat → Int32) {m : Nat} {r : Nat → Nat} (a : Int32) (b : Int32) (p : Int32) (hm : zModel cy L σ m r) (hm0 : zMo0 φ ρ m r) : zMI l D cy yX12_shares cX12_shares 9 .int (zrm 4 0 0) [.ref m, .int a, .int b, .int p] L σ φ ρ (fun r _ => r = -1) := by
  refine zMI.mk (by decide) (Nat.le_of_ble_eq_true rfl) (fun E hE hret => ?_)
  show zW E 0 0 L σ φ ρ 0 [(0, .ref m), (1, .int a), (2, .int b), (3, .int p)] []
  obtain ⟨hM, hr0, hr1, hr2, hr3, hr15, hr16, hr22, hr25, hr26, hr27, hr28, hr29, hr32, hr33, hr34, hr39, hr41, hr42, hr43, hr44, hr45, hr46, hr47, hr48, hr49, hr50, hr51, hr52, hne⟩ := id hm
  obtain ⟨hp, h0, h1⟩ := id hm0
  have h00 : ρ (r 0) 0 = 0 := (h0 0 (by omega)).trans (by decide)
  have h01 : ρ (r 0) 1 = 0 := (h0 1 (by omega)).trans (by decide)
  have h11 : ρ (r 0) 11 = 0 := (h0 11 (by omega)).trans (by decide)
  have h12 : ρ (r 0) 12 = 0 := (h0 12 (by omega)).trans (by decide)
  refine x_iload_n hE dX12_shares_0 rfl 1 rfl ?_
  refine x_iconst (v := 1) hE dX12_shares_1 (by decide) ?_
  refine x_iconst (v := 1) hE dX12_shares_2 (by decide) ?_
  refine x_aload_n hE dX12_shares_3 rfl 0 rfl ?_
  refine h_getr hE hM rfl inZX12 0 (by decide) q1394 rfl dX12_shares_4 ?_
  refine x_iconst (v := 1) hE dX12_shares_7 (by decide) ?_
  refine h_ialdL (iN := 1) hE hr0 (by decide) (by decide) (by omega) dX12_shares_8 ?_
  refine x_norm (y := 0) ((h0 1 (by omega)).trans (by decide)) ?_
  refine x_ishl hE dX12_shares_9 ?_
  refine x_norm (y := 1) (by decide) ?_
  refine x_iconst (v := 1) hE dX12_shares_10 (by decide) ?_
  refine x_isub hE dX12_shares_11 ?_
  refine x_norm (y := 0) (by decide) ?_
  refine c_ip hE (r_S (st := []) hE (m_isIn l D cy L σ φ ρ (a) (1) (0)) q1558 q1559 q124 q1560 ⟨by decide, by decide, pn_X12_isIn⟩ ⟨Nat.le_of_ble_eq_true rfl, Nat.le_of_ble_eq_true rfl⟩ ⟨Nat.le_of_ble_eq_true rfl, Nat.le_of_ble_eq_true rfl⟩ rfl (Nat.le_of_ble_eq_true rfl) dX12_shares_12) (fun r12 h12 => ?_)
  refine x_widen (k' := 0) (n' := 0) (Nat.le_of_ble_eq_true rfl) (Nat.le_of_ble_eq_true rfl) ?_
  refine x_norm (y := 0) (h12.trans (zb_f z_10)) ?_
  refine x_if_eq (tgt := 45) hE dX12_shares_15 (by decide) (fun c_15 => ?_) (fun c_15 => absurd (by decide) c_15)
  refine x_iconst (v := -1) hE dX12_shares_45 (by decide) ?_
  exact hret _ _ _ _ _ _ _ _ (-1) (Nat.le_of_ble_eq_true rfl) (Nat.le_of_ble_eq_true rfl) dX12_shares_46 (rfl) (by grind [zb])
set_option maxHeartbeats 4000000 in
set_option maxRecDepth 100000 in
theorem m_thieves (l : Launch) (D : va_G) (cy : Nat → ClassId) (L : List Nat) (σ : Nat → va_E) (φ : Nat → Nat → Nat → Int32) (ρ : Nat → Nat → Int32) {m : Nat} {r : Nat → Nat}  (hm : zModel cy L σ m r) (hm0 : zMo0 φ ρ m r) : zMI l D cy yX12_thieves cX12_thieves 5 .int (zrm 4 0 0) [.ref m] L σ φ ρ (fun r _ => r = 0) := by
  refine zMI.mk (by decide) (Nat.le_of_ble_eq_true rfl) (fun E hE hret => ?_)
  show zW E 0 0 L σ φ ρ 0 [(0, .ref m)] []
  obtain ⟨hM, hr0, hr1, hr2, hr3, hr15, hr16, hr22, hr25, hr26, hr27, hr28, hr29, hr32, hr33, hr34, hr39, hr41, hr42, hr43, hr44, hr45, hr46, hr47, hr48, hr49, hr50, hr51, hr52, hne⟩ := id hm
  obtain ⟨hp, h0, h1⟩ := id hm0
  have h00 : ρ (r 0) 0 = 0 := (h0 0 (by omega)).trans (by decide)
  have h01 : ρ (r 0) 1 = 0 := (h0 1 (by omega)).trans (by decide)
  have h11 : ρ (r 0) 11 = 0 := (h0 11 (by omega)).trans (by decide)
  have h12 : ρ (r 0) 12 = 0 := (h0 12 (by omega)).trans (by decide)
  refine x_iconst (v := -1) hE dX12_thieves_0 (by decide) ?_
  refine x_istore_n (lv' := [(1, .int (-1)), (0, .ref m)]) hE dX12_thieves_1 rfl (by decide) rfl ?_
  refine x_iconst (v := 0) hE dX12_thieves_2 (by decide) ?_
  refine x_istore_n (lv' := [(2, .int 0), (1, .int (-1)), (0, .ref m)]) hE dX12_thieves_3 rfl (by decide) rfl ?_
  refine x_iload_n hE dX12_thieves_4 rfl 0 rfl ?_
  refine x_aload_n hE dX12_thieves_5 rfl 2 rfl ?_
  refine h_getr hE hM rfl inZX12 0 (by decide) q1394 rfl dX12_thieves_6 ?_
  refine x_bipush (v := 10) hE dX12_thieves_9 (by decide) ?_
  refine h_ialdL (iN := 10) hE hr0 (by decide) (by decide) (by omega) dX12_thieves_11 ?_
  refine x_norm (y := 0) ((h0 10 (by omega)).trans (by decide)) ?_
  refine x_icmp_ge (tgt := 32) hE dX12_thieves_12 (by decide) (fun c_12 => ?_) (fun c_12 => absurd (by decide) c_12)
  refine x_iconst (v := 0) hE dX12_thieves_32 (by decide) ?_
  refine x_istore_n (lv' := [(2, .int 0), (1, .int (-1)), (0, .ref m)]) hE dX12_thieves_33 rfl (by decide) rfl ?_
  refine x_iload_n hE dX12_thieves_34 rfl 0 rfl ?_
  refine x_iconst (v := 1) hE dX12_thieves_35 (by decide) ?_
  refine x_aload_n hE dX12_thieves_36 rfl 2 rfl ?_
  refine h_getr hE hM rfl inZX12 0 (by decide) q1394 rfl dX12_thieves_37 ?_
  refine x_iconst (v := 1) hE dX12_thieves_40 (by decide) ?_
  refine h_ialdL (iN := 1) hE hr0 (by decide) (by decide) (by omega) dX12_thieves_41 ?_
  refine x_norm (y := 0) ((h0 1 (by omega)).trans (by decide)) ?_
  refine x_ishl hE dX12_thieves_42 ?_
  refine x_norm (y := 1) (by decide) ?_
  refine x_icmp_ge (tgt := 122) hE dX12_thieves_43 (by decide) (fun c_43 => absurd c_43 (by decide)) (fun c_43 => ?_)
  refine x_iload_n hE dX12_thieves_46 rfl 1 rfl ?_
  refine x_if_lt (tgt := 61) hE dX12_thieves_47 (by decide) (fun c_47 => ?_) (fun c_47 => absurd (by decide) c_47)
  refine x_iconst (v := 1) hE dX12_thieves_61 (by decide) ?_
  refine x_goto (tgt := 66) hE dX12_thieves_62 (by decide) ?_
  refine x_istore_n (lv' := [(3, .int 1), (2, .int 0), (1, .int (-1)), (0, .ref m)]) hE dX12_thieves_66 rfl (by decide) rfl ?_
  refine x_iconst (v := 0) hE dX12_thieves_67 (by decide) ?_
  refine x_istore (lv' := [(4, .int 0), (3, .int 1), (2, .int 0), (1, .int (-1)), (0, .ref m)]) hE dX12_thieves_68 (by decide) rfl ?_
  refine x_iload hE dX12_thieves_70 0 rfl ?_
  refine x_aload_n hE dX12_thieves_72 rfl 4 rfl ?_
  refine h_getr hE hM rfl inZX12 0 (by decide) q1394 rfl dX12_thieves_73 ?_
  refine x_bipush (v := 10) hE dX12_thieves_76 (by decide) ?_
  refine h_ialdL (iN := 10) hE hr0 (by decide) (by decide) (by omega) dX12_thieves_78 ?_
  refine x_norm (y := 0) ((h0 10 (by omega)).trans (by decide)) ?_
  refine x_icmp_ge (tgt := 110) hE dX12_thieves_79 (by decide) (fun c_79 => ?_) (fun c_79 => absurd (by decide) c_79)
  refine x_iload_n hE dX12_thieves_110 rfl 1 rfl ?_
  refine x_if_eq (tgt := 116) hE dX12_thieves_111 (by decide) (fun c_111 => absurd c_111 (by decide)) (fun c_111 => ?_)
  refine x_iload_n hE dX12_thieves_114 rfl 2 rfl ?_
  refine x_istore_n (lv' := [(1, .int 0), (4, .int 0), (3, .int 1), (2, .int 0), (0, .ref m)]) hE dX12_thieves_115 rfl (by decide) rfl ?_
  refine x_iinc (v := 1) (lv' := [(2, .int 1), (1, .int 0), (4, .int 0), (3, .int 1), (0, .ref m)]) hE dX12_thieves_116 3 rfl (by decide) (by decide) rfl ?_
  refine x_goto (tgt := 34) hE dX12_thieves_119 (by decide) ?_
  refine x_iload_n hE dX12_thieves_34 rfl 0 rfl ?_
  refine x_iconst (v := 1) hE dX12_thieves_35 (by decide) ?_
  refine x_aload_n hE dX12_thieves_36 rfl 4 rfl ?_
  refine h_getr hE hM rfl inZX12 0 (by decide) q1394 rfl dX12_thieves_37 ?_
  refine x_iconst (v := 1) hE dX12_thieves_40 (by decide) ?_
  refine h_ialdL (iN := 1) hE hr0 (by decide) (by decide) (by omega) dX12_thieves_41 ?_
  refine x_norm (y := 0) ((h0 1 (by omega)).trans (by decide)) ?_
  refine x_ishl hE dX12_thieves_42 ?_
  refine x_norm (y := 1) (by decide) ?_
  refine x_icmp_ge (tgt := 122) hE dX12_thieves_43 (by decide) (fun c_43 => ?_) (fun c_43 => absurd (by decide) c_43)
  refine x_iload_n hE dX12_thieves_122 rfl 1 rfl ?_
  exact hret _ _ _ _ _ _ _ _ (0) (Nat.le_of_ble_eq_true rfl) (Nat.le_of_ble_eq_true rfl) dX12_thieves_123 (rfl) (by grind [zb])
set_option maxHeartbeats 4000000 in
set_option maxRecDepth 100000 in
theorem m_errors (l : Launch) (D : va_G) (cy : Nat → ClassId) (L : List Nat) (σ : Nat → va_E) (φ : Nat → Nat → Nat → Int32) (ρ : Nat → Nat → Int32) {m : Nat} {r : Nat → Nat} (t : Int32) (b : Int32) (hm : zModel cy L σ m r) (hm0 : zMo0 φ ρ m r) : zMI l D cy yX12_errors cX12_errors 3 .int (zrm 4 0 0) [.ref m, .int t, .int b] L σ φ ρ (fun r _ => r = if 0 ≤ t ∧ t ≤ 10 then 0 else -1) := by
  refine zMI.mk (by decide) (Nat.le_of_ble_eq_true rfl) (fun E hE hret => ?_)
  show zW E 0 0 L σ φ ρ 0 [(0, .ref m), (1, .int t), (2, .int b)] []
  obtain ⟨hM, hr0, hr1, hr2, hr3, hr15, hr16, hr22, hr25, hr26, hr27, hr28, hr29, hr32, hr33, hr34, hr39, hr41, hr42, hr43, hr44, hr45, hr46, hr47, hr48, hr49, hr50, hr51, hr52, hne⟩ := id hm
  obtain ⟨hp, h0, h1⟩ := id hm0
  have h00 : ρ (r 0) 0 = 0 := (h0 0 (by omega)).trans (by decide)
  have h01 : ρ (r 0) 1 = 0 := (h0 1 (by omega)).trans (by decide)
  have h11 : ρ (r 0) 11 = 0 := (h0 11 (by omega)).trans (by decide)
  have h12 : ρ (r 0) 12 = 0 := (h0 12 (by omega)).trans (by decide)
  refine x_iload_n hE dX12_errors_0 rfl 1 rfl ?_
  refine x_iconst (v := 0) hE dX12_errors_1 (by decide) ?_
  refine x_bipush (v := 10) hE dX12_errors_2 (by decide) ?_
  refine c_ip hE (r_S (st := []) hE (m_isIn l D cy L σ φ ρ (t) (0) (10)) q1558 q1559 q124 q1560 ⟨by decide, by decide, pn_X12_isIn⟩ ⟨Nat.le_of_ble_eq_true rfl, Nat.le_of_ble_eq_true rfl⟩ ⟨Nat.le_of_ble_eq_true rfl, Nat.le_of_ble_eq_true rfl⟩ rfl (Nat.le_of_ble_eq_true rfl) dX12_errors_4) (fun r4 h4 => ?_)
  refine x_widen (k' := 0) (n' := 0) (Nat.le_of_ble_eq_true rfl) (Nat.le_of_ble_eq_true rfl) ?_
  refine x_if_eq (tgt := 19) hE dX12_errors_7 (by decide) (fun c_7 => ?_) (fun c_7 => ?_)
  · refine x_iconst (v := -1) hE dX12_errors_19 (by decide) ?_
    exact hret _ _ _ _ _ _ _ _ (-1) (Nat.le_of_ble_eq_true rfl) (Nat.le_of_ble_eq_true rfl) dX12_errors_20 (rfl) (by grind [zb])
  · refine x_aload_n hE dX12_errors_10 rfl 0 rfl ?_
    refine x_iload_n hE dX12_errors_11 rfl 1 rfl ?_
    refine x_iload_n hE dX12_errors_12 rfl 2 rfl ?_
    refine c_ip hE (r_V (st := []) hE (m_errorsOf l D cy L σ φ ρ (t) (b) hm h11) q2041 q2043 q110 q124 q2044 hM rfl ⟨by decide, by decide, pn_X12_errorsOf⟩ ⟨Nat.le_of_ble_eq_true rfl, Nat.le_of_ble_eq_true rfl⟩ ⟨Nat.le_of_ble_eq_true rfl, Nat.le_of_ble_eq_true rfl⟩ rfl (Nat.le_of_ble_eq_true rfl) dX12_errors_13) (fun r13 h_13 => ?_)
    refine x_widen (k' := 0) (n' := 0) (Nat.le_of_ble_eq_true rfl) (Nat.le_of_ble_eq_true rfl) ?_
    refine x_norm (y := 0) (h_13) ?_
    refine x_goto (tgt := 20) hE dX12_errors_16 (by decide) ?_
    exact hret _ _ _ _ _ _ _ _ (0) (Nat.le_of_ble_eq_true rfl) (Nat.le_of_ble_eq_true rfl) dX12_errors_20 (rfl) (by grind [zb])
set_option maxHeartbeats 4000000 in
set_option maxRecDepth 100000 in
theorem m_bound (l : Launch) (D : va_G) (cy : Nat → ClassId) (L : List Nat) (σ : Nat → va_E) (φ : Nat → Nat → Nat → Int32) (ρ : Nat → Nat → Int32) {m : Nat} {r : Nat → Nat}  (hm : zModel cy L σ m r) (hm0 : zMo0 φ ρ m r) : zMI l D cy yX12_bound cX12_bound 3 .int (zrm 4 0 0) [.ref m] L σ φ ρ (fun r _ => r = 0) := by
  refine zMI.mk (by decide) (Nat.le_of_ble_eq_true rfl) (fun E hE hret => ?_)
  show zW E 0 0 L σ φ ρ 0 [(0, .ref m)] []
  obtain ⟨hM, hr0, hr1, hr2, hr3, hr15, hr16, hr22, hr25, hr26, hr27, hr28, hr29, hr32, hr33, hr34, hr39, hr41, hr42, hr43, hr44, hr45, hr46, hr47, hr48, hr49, hr50, hr51, hr52, hne⟩ := id hm
  obtain ⟨hp, h0, h1⟩ := id hm0
  have h00 : ρ (r 0) 0 = 0 := (h0 0 (by omega)).trans (by decide)
  have h01 : ρ (r 0) 1 = 0 := (h0 1 (by omega)).trans (by decide)
  have h11 : ρ (r 0) 11 = 0 := (h0 11 (by omega)).trans (by decide)
  have h12 : ρ (r 0) 12 = 0 := (h0 12 (by omega)).trans (by decide)
  refine x_iconst (v := 0) hE dX12_bound_0 (by decide) ?_
  refine x_istore_n (lv' := [(1, .int 0), (0, .ref m)]) hE dX12_bound_1 rfl (by decide) rfl ?_
  refine x_iconst (v := 1) hE dX12_bound_2 (by decide) ?_
  refine x_istore_n (lv' := [(2, .int 1), (1, .int 0), (0, .ref m)]) hE dX12_bound_3 rfl (by decide) rfl ?_
  refine x_iload_n hE dX12_bound_4 rfl 0 rfl ?_
  refine x_bipush (v := 10) hE dX12_bound_5 (by decide) ?_
  refine x_icmp_gt (tgt := 47) hE dX12_bound_7 (by decide) (fun c_7 => absurd c_7 (by decide)) (fun c_7 => ?_)
  refine x_aload_n hE dX12_bound_10 rfl 2 rfl ?_
  refine x_iload_n hE dX12_bound_11 rfl 0 rfl ?_
  refine x_iconst (v := 0) hE dX12_bound_12 (by decide) ?_
  refine c_ip hE (r_V (st := []) hE (m_errorsOf l D cy L σ φ ρ (1) (0) hm h11) q2041 q2043 q110 q124 q2044 hM rfl ⟨by decide, by decide, pn_X12_errorsOf⟩ ⟨Nat.le_of_ble_eq_true rfl, Nat.le_of_ble_eq_true rfl⟩ ⟨Nat.le_of_ble_eq_true rfl, Nat.le_of_ble_eq_true rfl⟩ rfl (Nat.le_of_ble_eq_true rfl) dX12_bound_13) (fun r13 h_13 => ?_)
  refine x_widen (k' := 0) (n' := 0) (Nat.le_of_ble_eq_true rfl) (Nat.le_of_ble_eq_true rfl) ?_
  refine x_norm (y := 0) (h_13) ?_
  refine x_aload_n hE dX12_bound_16 rfl 2 rfl ?_
  refine x_iload_n hE dX12_bound_17 rfl 0 rfl ?_
  refine x_iconst (v := 1) hE dX12_bound_18 (by decide) ?_
  refine c_ip hE (r_V (st := [.int 0]) hE (m_errorsOf l D cy L σ φ ρ (1) (1) hm h11) q2041 q2043 q110 q124 q2044 hM rfl ⟨by decide, by decide, pn_X12_errorsOf⟩ ⟨Nat.le_of_ble_eq_true rfl, Nat.le_of_ble_eq_true rfl⟩ ⟨Nat.le_of_ble_eq_true rfl, Nat.le_of_ble_eq_true rfl⟩ rfl (Nat.le_of_ble_eq_true rfl) dX12_bound_19) (fun r19 h_19 => ?_)
  refine x_widen (k' := 0) (n' := 0) (Nat.le_of_ble_eq_true rfl) (Nat.le_of_ble_eq_true rfl) ?_
  refine x_norm (y := 0) (h_19) ?_
  refine x_iadd hE dX12_bound_22 ?_
  refine x_norm (y := 0) (by decide) ?_
  refine x_aload_n hE dX12_bound_23 rfl 2 rfl ?_
  refine x_iload_n hE dX12_bound_24 rfl 1 rfl ?_
  refine x_iconst (v := 0) hE dX12_bound_25 (by decide) ?_
  refine c_ip hE (r_V (st := [.int 0]) hE (m_errorsOf l D cy L σ φ ρ (0) (0) hm h11) q2041 q2043 q110 q124 q2044 hM rfl ⟨by decide, by decide, pn_X12_errorsOf⟩ ⟨Nat.le_of_ble_eq_true rfl, Nat.le_of_ble_eq_true rfl⟩ ⟨Nat.le_of_ble_eq_true rfl, Nat.le_of_ble_eq_true rfl⟩ rfl (Nat.le_of_ble_eq_true rfl) dX12_bound_26) (fun r26 h_26 => ?_)
  refine x_widen (k' := 0) (n' := 0) (Nat.le_of_ble_eq_true rfl) (Nat.le_of_ble_eq_true rfl) ?_
  refine x_norm (y := 0) (h_26) ?_
  refine x_aload_n hE dX12_bound_29 rfl 2 rfl ?_
  refine x_iload_n hE dX12_bound_30 rfl 1 rfl ?_
  refine x_iconst (v := 1) hE dX12_bound_31 (by decide) ?_
  refine c_ip hE (r_V (st := [.int 0, .int 0]) hE (m_errorsOf l D cy L σ φ ρ (0) (1) hm h11) q2041 q2043 q110 q124 q2044 hM rfl ⟨by decide, by decide, pn_X12_errorsOf⟩ ⟨Nat.le_of_ble_eq_true rfl, Nat.le_of_ble_eq_true rfl⟩ ⟨Nat.le_of_ble_eq_true rfl, Nat.le_of_ble_eq_true rfl⟩ rfl (Nat.le_of_ble_eq_true rfl) dX12_bound_32) (fun r32 h_32 => ?_)
  refine x_widen (k' := 0) (n' := 0) (Nat.le_of_ble_eq_true rfl) (Nat.le_of_ble_eq_true rfl) ?_
  refine x_norm (y := 0) (h_32) ?_
  refine x_iadd hE dX12_bound_35 ?_
  refine x_norm (y := 0) (by decide) ?_
  refine x_icmp_ge (tgt := 41) hE dX12_bound_36 (by decide) (fun c_36 => ?_) (fun c_36 => absurd (by decide) c_36)
  refine x_iinc (v := 2) (lv' := [(2, .int 2), (1, .int 0), (0, .ref m)]) hE dX12_bound_41 0 rfl (by decide) (by decide) rfl ?_
  refine x_goto (tgt := 4) hE dX12_bound_44 (by decide) ?_
  refine x_iload_n hE dX12_bound_4 rfl 0 rfl ?_
  refine x_bipush (v := 10) hE dX12_bound_5 (by decide) ?_
  refine x_icmp_gt (tgt := 47) hE dX12_bound_7 (by decide) (fun c_7 => absurd c_7 (by decide)) (fun c_7 => ?_)
  refine x_aload_n hE dX12_bound_10 rfl 2 rfl ?_
  refine x_iload_n hE dX12_bound_11 rfl 0 rfl ?_
  refine x_iconst (v := 0) hE dX12_bound_12 (by decide) ?_
  refine c_ip hE (r_V (st := []) hE (m_errorsOf l D cy L σ φ ρ (2) (0) hm h11) q2041 q2043 q110 q124 q2044 hM rfl ⟨by decide, by decide, pn_X12_errorsOf⟩ ⟨Nat.le_of_ble_eq_true rfl, Nat.le_of_ble_eq_true rfl⟩ ⟨Nat.le_of_ble_eq_true rfl, Nat.le_of_ble_eq_true rfl⟩ rfl (Nat.le_of_ble_eq_true rfl) dX12_bound_13) (fun r13 h_13 => ?_)
  refine x_widen (k' := 0) (n' := 0) (Nat.le_of_ble_eq_true rfl) (Nat.le_of_ble_eq_true rfl) ?_
  refine x_norm (y := 0) (h_13) ?_
  refine x_aload_n hE dX12_bound_16 rfl 2 rfl ?_
  refine x_iload_n hE dX12_bound_17 rfl 0 rfl ?_
  refine x_iconst (v := 1) hE dX12_bound_18 (by decide) ?_
  refine c_ip hE (r_V (st := [.int 0]) hE (m_errorsOf l D cy L σ φ ρ (2) (1) hm h11) q2041 q2043 q110 q124 q2044 hM rfl ⟨by decide, by decide, pn_X12_errorsOf⟩ ⟨Nat.le_of_ble_eq_true rfl, Nat.le_of_ble_eq_true rfl⟩ ⟨Nat.le_of_ble_eq_true rfl, Nat.le_of_ble_eq_true rfl⟩ rfl (Nat.le_of_ble_eq_true rfl) dX12_bound_19) (fun r19 h_19 => ?_)
  refine x_widen (k' := 0) (n' := 0) (Nat.le_of_ble_eq_true rfl) (Nat.le_of_ble_eq_true rfl) ?_
  refine x_norm (y := 0) (h_19) ?_
  refine x_iadd hE dX12_bound_22 ?_
  refine x_norm (y := 0) (by decide) ?_
  refine x_aload_n hE dX12_bound_23 rfl 2 rfl ?_
  refine x_iload_n hE dX12_bound_24 rfl 1 rfl ?_
  refine x_iconst (v := 0) hE dX12_bound_25 (by decide) ?_
  refine c_ip hE (r_V (st := [.int 0]) hE (m_errorsOf l D cy L σ φ ρ (0) (0) hm h11) q2041 q2043 q110 q124 q2044 hM rfl ⟨by decide, by decide, pn_X12_errorsOf⟩ ⟨Nat.le_of_ble_eq_true rfl, Nat.le_of_ble_eq_true rfl⟩ ⟨Nat.le_of_ble_eq_true rfl, Nat.le_of_ble_eq_true rfl⟩ rfl (Nat.le_of_ble_eq_true rfl) dX12_bound_26) (fun r26 h_26 => ?_)
  refine x_widen (k' := 0) (n' := 0) (Nat.le_of_ble_eq_true rfl) (Nat.le_of_ble_eq_true rfl) ?_
  refine x_norm (y := 0) (h_26) ?_
  refine x_aload_n hE dX12_bound_29 rfl 2 rfl ?_
  refine x_iload_n hE dX12_bound_30 rfl 1 rfl ?_
  refine x_iconst (v := 1) hE dX12_bound_31 (by decide) ?_
  refine c_ip hE (r_V (st := [.int 0, .int 0]) hE (m_errorsOf l D cy L σ φ ρ (0) (1) hm h11) q2041 q2043 q110 q124 q2044 hM rfl ⟨by decide, by decide, pn_X12_errorsOf⟩ ⟨Nat.le_of_ble_eq_true rfl, Nat.le_of_ble_eq_true rfl⟩ ⟨Nat.le_of_ble_eq_true rfl, Nat.le_of_ble_eq_true rfl⟩ rfl (Nat.le_of_ble_eq_true rfl) dX12_bound_32) (fun r32 h_32 => ?_)
  refine x_widen (k' := 0) (n' := 0) (Nat.le_of_ble_eq_true rfl) (Nat.le_of_ble_eq_true rfl) ?_
  refine x_norm (y := 0) (h_32) ?_
  refine x_iadd hE dX12_bound_35 ?_
  refine x_norm (y := 0) (by decide) ?_
  refine x_icmp_ge (tgt := 41) hE dX12_bound_36 (by decide) (fun c_36 => ?_) (fun c_36 => absurd (by decide) c_36)
  refine x_iinc (v := 3) (lv' := [(2, .int 3), (1, .int 0), (0, .ref m)]) hE dX12_bound_41 0 rfl (by decide) (by decide) rfl ?_
  refine x_goto (tgt := 4) hE dX12_bound_44 (by decide) ?_
  refine x_iload_n hE dX12_bound_4 rfl 0 rfl ?_
  refine x_bipush (v := 10) hE dX12_bound_5 (by decide) ?_
  refine x_icmp_gt (tgt := 47) hE dX12_bound_7 (by decide) (fun c_7 => absurd c_7 (by decide)) (fun c_7 => ?_)
  refine x_aload_n hE dX12_bound_10 rfl 2 rfl ?_
  refine x_iload_n hE dX12_bound_11 rfl 0 rfl ?_
  refine x_iconst (v := 0) hE dX12_bound_12 (by decide) ?_
  refine c_ip hE (r_V (st := []) hE (m_errorsOf l D cy L σ φ ρ (3) (0) hm h11) q2041 q2043 q110 q124 q2044 hM rfl ⟨by decide, by decide, pn_X12_errorsOf⟩ ⟨Nat.le_of_ble_eq_true rfl, Nat.le_of_ble_eq_true rfl⟩ ⟨Nat.le_of_ble_eq_true rfl, Nat.le_of_ble_eq_true rfl⟩ rfl (Nat.le_of_ble_eq_true rfl) dX12_bound_13) (fun r13 h_13 => ?_)
  refine x_widen (k' := 0) (n' := 0) (Nat.le_of_ble_eq_true rfl) (Nat.le_of_ble_eq_true rfl) ?_
  refine x_norm (y := 0) (h_13) ?_
  refine x_aload_n hE dX12_bound_16 rfl 2 rfl ?_
  refine x_iload_n hE dX12_bound_17 rfl 0 rfl ?_
  refine x_iconst (v := 1) hE dX12_bound_18 (by decide) ?_
  refine c_ip hE (r_V (st := [.int 0]) hE (m_errorsOf l D cy L σ φ ρ (3) (1) hm h11) q2041 q2043 q110 q124 q2044 hM rfl ⟨by decide, by decide, pn_X12_errorsOf⟩ ⟨Nat.le_of_ble_eq_true rfl, Nat.le_of_ble_eq_true rfl⟩ ⟨Nat.le_of_ble_eq_true rfl, Nat.le_of_ble_eq_true rfl⟩ rfl (Nat.le_of_ble_eq_true rfl) dX12_bound_19) (fun r19 h_19 => ?_)
  refine x_widen (k' := 0) (n' := 0) (Nat.le_of_ble_eq_true rfl) (Nat.le_of_ble_eq_true rfl) ?_
  refine x_norm (y := 0) (h_19) ?_
  refine x_iadd hE dX12_bound_22 ?_
  refine x_norm (y := 0) (by decide) ?_
  refine x_aload_n hE dX12_bound_23 rfl 2 rfl ?_
  refine x_iload_n hE dX12_bound_24 rfl 1 rfl ?_
  refine x_iconst (v := 0) hE dX12_bound_25 (by decide) ?_
  refine c_ip hE (r_V (st := [.int 0]) hE (m_errorsOf l D cy L σ φ ρ (0) (0) hm h11) q2041 q2043 q110 q124 q2044 hM rfl ⟨by decide, by decide, pn_X12_errorsOf⟩ ⟨Nat.le_of_ble_eq_true rfl, Nat.le_of_ble_eq_true rfl⟩ ⟨Nat.le_of_ble_eq_true rfl, Nat.le_of_ble_eq_true rfl⟩ rfl (Nat.le_of_ble_eq_true rfl) dX12_bound_26) (fun r26 h_26 => ?_)
  refine x_widen (k' := 0) (n' := 0) (Nat.le_of_ble_eq_true rfl) (Nat.le_of_ble_eq_true rfl) ?_
  refine x_norm (y := 0) (h_26) ?_
  refine x_aload_n hE dX12_bound_29 rfl 2 rfl ?_
  refine x_iload_n hE dX12_bound_30 rfl 1 rfl ?_
  refine x_iconst (v := 1) hE dX12_bound_31 (by decide) ?_
  refine c_ip hE (r_V (st := [.int 0, .int 0]) hE (m_errorsOf l D cy L σ φ ρ (0) (1) hm h11) q2041 q2043 q110 q124 q2044 hM rfl ⟨by decide, by decide, pn_X12_errorsOf⟩ ⟨Nat.le_of_ble_eq_true rfl, Nat.le_of_ble_eq_true rfl⟩ ⟨Nat.le_of_ble_eq_true rfl, Nat.le_of_ble_eq_true rfl⟩ rfl (Nat.le_of_ble_eq_true rfl) dX12_bound_32) (fun r32 h_32 => ?_)
  refine x_widen (k' := 0) (n' := 0) (Nat.le_of_ble_eq_true rfl) (Nat.le_of_ble_eq_true rfl) ?_
  refine x_norm (y := 0) (h_32) ?_
  refine x_iadd hE dX12_bound_35 ?_
  refine x_norm (y := 0) (by decide) ?_
  refine x_icmp_ge (tgt := 41) hE dX12_bound_36 (by decide) (fun c_36 => ?_) (fun c_36 => absurd (by decide) c_36)
  refine x_iinc (v := 4) (lv' := [(2, .int 4), (1, .int 0), (0, .ref m)]) hE dX12_bound_41 0 rfl (by decide) (by decide) rfl ?_
  refine x_goto (tgt := 4) hE dX12_bound_44 (by decide) ?_
  refine x_iload_n hE dX12_bound_4 rfl 0 rfl ?_
  refine x_bipush (v := 10) hE dX12_bound_5 (by decide) ?_
  refine x_icmp_gt (tgt := 47) hE dX12_bound_7 (by decide) (fun c_7 => absurd c_7 (by decide)) (fun c_7 => ?_)
  refine x_aload_n hE dX12_bound_10 rfl 2 rfl ?_
  refine x_iload_n hE dX12_bound_11 rfl 0 rfl ?_
  refine x_iconst (v := 0) hE dX12_bound_12 (by decide) ?_
  refine c_ip hE (r_V (st := []) hE (m_errorsOf l D cy L σ φ ρ (4) (0) hm h11) q2041 q2043 q110 q124 q2044 hM rfl ⟨by decide, by decide, pn_X12_errorsOf⟩ ⟨Nat.le_of_ble_eq_true rfl, Nat.le_of_ble_eq_true rfl⟩ ⟨Nat.le_of_ble_eq_true rfl, Nat.le_of_ble_eq_true rfl⟩ rfl (Nat.le_of_ble_eq_true rfl) dX12_bound_13) (fun r13 h_13 => ?_)
  refine x_widen (k' := 0) (n' := 0) (Nat.le_of_ble_eq_true rfl) (Nat.le_of_ble_eq_true rfl) ?_
  refine x_norm (y := 0) (h_13) ?_
  refine x_aload_n hE dX12_bound_16 rfl 2 rfl ?_
  refine x_iload_n hE dX12_bound_17 rfl 0 rfl ?_
  refine x_iconst (v := 1) hE dX12_bound_18 (by decide) ?_
  refine c_ip hE (r_V (st := [.int 0]) hE (m_errorsOf l D cy L σ φ ρ (4) (1) hm h11) q2041 q2043 q110 q124 q2044 hM rfl ⟨by decide, by decide, pn_X12_errorsOf⟩ ⟨Nat.le_of_ble_eq_true rfl, Nat.le_of_ble_eq_true rfl⟩ ⟨Nat.le_of_ble_eq_true rfl, Nat.le_of_ble_eq_true rfl⟩ rfl (Nat.le_of_ble_eq_true rfl) dX12_bound_19) (fun r19 h_19 => ?_)
  refine x_widen (k' := 0) (n' := 0) (Nat.le_of_ble_eq_true rfl) (Nat.le_of_ble_eq_true rfl) ?_
  refine x_norm (y := 0) (h_19) ?_
  refine x_iadd hE dX12_bound_22 ?_
  refine x_norm (y := 0) (by decide) ?_
  refine x_aload_n hE dX12_bound_23 rfl 2 rfl ?_
  refine x_iload_n hE dX12_bound_24 rfl 1 rfl ?_
  refine x_iconst (v := 0) hE dX12_bound_25 (by decide) ?_
  refine c_ip hE (r_V (st := [.int 0]) hE (m_errorsOf l D cy L σ φ ρ (0) (0) hm h11) q2041 q2043 q110 q124 q2044 hM rfl ⟨by decide, by decide, pn_X12_errorsOf⟩ ⟨Nat.le_of_ble_eq_true rfl, Nat.le_of_ble_eq_true rfl⟩ ⟨Nat.le_of_ble_eq_true rfl, Nat.le_of_ble_eq_true rfl⟩ rfl (Nat.le_of_ble_eq_true rfl) dX12_bound_26) (fun r26 h_26 => ?_)
  refine x_widen (k' := 0) (n' := 0) (Nat.le_of_ble_eq_true rfl) (Nat.le_of_ble_eq_true rfl) ?_
  refine x_norm (y := 0) (h_26) ?_
  refine x_aload_n hE dX12_bound_29 rfl 2 rfl ?_
  refine x_iload_n hE dX12_bound_30 rfl 1 rfl ?_
  refine x_iconst (v := 1) hE dX12_bound_31 (by decide) ?_
  refine c_ip hE (r_V (st := [.int 0, .int 0]) hE (m_errorsOf l D cy L σ φ ρ (0) (1) hm h11) q2041 q2043 q110 q124 q2044 hM rfl ⟨by decide, by decide, pn_X12_errorsOf⟩ ⟨Nat.le_of_ble_eq_true rfl, Nat.le_of_ble_eq_true rfl⟩ ⟨Nat.le_of_ble_eq_true rfl, Nat.le_of_ble_eq_true rfl⟩ rfl (Nat.le_of_ble_eq_true rfl) dX12_bound_32) (fun r32 h_32 => ?_)
  refine x_widen (k' := 0) (n' := 0) (Nat.le_of_ble_eq_true rfl) (Nat.le_of_ble_eq_true rfl) ?_
  refine x_norm (y := 0) (h_32) ?_
  refine x_iadd hE dX12_bound_35 ?_
  refine x_norm (y := 0) (by decide) ?_
  refine x_icmp_ge (tgt := 41) hE dX12_bound_36 (by decide) (fun c_36 => ?_) (fun c_36 => absurd (by decide) c_36)
  refine x_iinc (v := 5) (lv' := [(2, .int 5), (1, .int 0), (0, .ref m)]) hE dX12_bound_41 0 rfl (by decide) (by decide) rfl ?_
  refine x_goto (tgt := 4) hE dX12_bound_44 (by decide) ?_
  refine x_iload_n hE dX12_bound_4 rfl 0 rfl ?_
  refine x_bipush (v := 10) hE dX12_bound_5 (by decide) ?_
  refine x_icmp_gt (tgt := 47) hE dX12_bound_7 (by decide) (fun c_7 => absurd c_7 (by decide)) (fun c_7 => ?_)
  refine x_aload_n hE dX12_bound_10 rfl 2 rfl ?_
  refine x_iload_n hE dX12_bound_11 rfl 0 rfl ?_
  refine x_iconst (v := 0) hE dX12_bound_12 (by decide) ?_
  refine c_ip hE (r_V (st := []) hE (m_errorsOf l D cy L σ φ ρ (5) (0) hm h11) q2041 q2043 q110 q124 q2044 hM rfl ⟨by decide, by decide, pn_X12_errorsOf⟩ ⟨Nat.le_of_ble_eq_true rfl, Nat.le_of_ble_eq_true rfl⟩ ⟨Nat.le_of_ble_eq_true rfl, Nat.le_of_ble_eq_true rfl⟩ rfl (Nat.le_of_ble_eq_true rfl) dX12_bound_13) (fun r13 h_13 => ?_)
  refine x_widen (k' := 0) (n' := 0) (Nat.le_of_ble_eq_true rfl) (Nat.le_of_ble_eq_true rfl) ?_
  refine x_norm (y := 0) (h_13) ?_
  refine x_aload_n hE dX12_bound_16 rfl 2 rfl ?_
  refine x_iload_n hE dX12_bound_17 rfl 0 rfl ?_
  refine x_iconst (v := 1) hE dX12_bound_18 (by decide) ?_
  refine c_ip hE (r_V (st := [.int 0]) hE (m_errorsOf l D cy L σ φ ρ (5) (1) hm h11) q2041 q2043 q110 q124 q2044 hM rfl ⟨by decide, by decide, pn_X12_errorsOf⟩ ⟨Nat.le_of_ble_eq_true rfl, Nat.le_of_ble_eq_true rfl⟩ ⟨Nat.le_of_ble_eq_true rfl, Nat.le_of_ble_eq_true rfl⟩ rfl (Nat.le_of_ble_eq_true rfl) dX12_bound_19) (fun r19 h_19 => ?_)
  refine x_widen (k' := 0) (n' := 0) (Nat.le_of_ble_eq_true rfl) (Nat.le_of_ble_eq_true rfl) ?_
  refine x_norm (y := 0) (h_19) ?_
  refine x_iadd hE dX12_bound_22 ?_
  refine x_norm (y := 0) (by decide) ?_
  refine x_aload_n hE dX12_bound_23 rfl 2 rfl ?_
  refine x_iload_n hE dX12_bound_24 rfl 1 rfl ?_
  refine x_iconst (v := 0) hE dX12_bound_25 (by decide) ?_
  refine c_ip hE (r_V (st := [.int 0]) hE (m_errorsOf l D cy L σ φ ρ (0) (0) hm h11) q2041 q2043 q110 q124 q2044 hM rfl ⟨by decide, by decide, pn_X12_errorsOf⟩ ⟨Nat.le_of_ble_eq_true rfl, Nat.le_of_ble_eq_true rfl⟩ ⟨Nat.le_of_ble_eq_true rfl, Nat.le_of_ble_eq_true rfl⟩ rfl (Nat.le_of_ble_eq_true rfl) dX12_bound_26) (fun r26 h_26 => ?_)
  refine x_widen (k' := 0) (n' := 0) (Nat.le_of_ble_eq_true rfl) (Nat.le_of_ble_eq_true rfl) ?_
  refine x_norm (y := 0) (h_26) ?_
  refine x_aload_n hE dX12_bound_29 rfl 2 rfl ?_
  refine x_iload_n hE dX12_bound_30 rfl 1 rfl ?_
  refine x_iconst (v := 1) hE dX12_bound_31 (by decide) ?_
  refine c_ip hE (r_V (st := [.int 0, .int 0]) hE (m_errorsOf l D cy L σ φ ρ (0) (1) hm h11) q2041 q2043 q110 q124 q2044 hM rfl ⟨by decide, by decide, pn_X12_errorsOf⟩ ⟨Nat.le_of_ble_eq_true rfl, Nat.le_of_ble_eq_true rfl⟩ ⟨Nat.le_of_ble_eq_true rfl, Nat.le_of_ble_eq_true rfl⟩ rfl (Nat.le_of_ble_eq_true rfl) dX12_bound_32) (fun r32 h_32 => ?_)
  refine x_widen (k' := 0) (n' := 0) (Nat.le_of_ble_eq_true rfl) (Nat.le_of_ble_eq_true rfl) ?_
  refine x_norm (y := 0) (h_32) ?_
  refine x_iadd hE dX12_bound_35 ?_
  refine x_norm (y := 0) (by decide) ?_
  refine x_icmp_ge (tgt := 41) hE dX12_bound_36 (by decide) (fun c_36 => ?_) (fun c_36 => absurd (by decide) c_36)
  refine x_iinc (v := 6) (lv' := [(2, .int 6), (1, .int 0), (0, .ref m)]) hE dX12_bound_41 0 rfl (by decide) (by decide) rfl ?_
  refine x_goto (tgt := 4) hE dX12_bound_44 (by decide) ?_
  refine x_iload_n hE dX12_bound_4 rfl 0 rfl ?_
  refine x_bipush (v := 10) hE dX12_bound_5 (by decide) ?_
  refine x_icmp_gt (tgt := 47) hE dX12_bound_7 (by decide) (fun c_7 => absurd c_7 (by decide)) (fun c_7 => ?_)
  refine x_aload_n hE dX12_bound_10 rfl 2 rfl ?_
  refine x_iload_n hE dX12_bound_11 rfl 0 rfl ?_
  refine x_iconst (v := 0) hE dX12_bound_12 (by decide) ?_
  refine c_ip hE (r_V (st := []) hE (m_errorsOf l D cy L σ φ ρ (6) (0) hm h11) q2041 q2043 q110 q124 q2044 hM rfl ⟨by decide, by decide, pn_X12_errorsOf⟩ ⟨Nat.le_of_ble_eq_true rfl, Nat.le_of_ble_eq_true rfl⟩ ⟨Nat.le_of_ble_eq_true rfl, Nat.le_of_ble_eq_true rfl⟩ rfl (Nat.le_of_ble_eq_true rfl) dX12_bound_13) (fun r13 h_13 => ?_)
  refine x_widen (k' := 0) (n' := 0) (Nat.le_of_ble_eq_true rfl) (Nat.le_of_ble_eq_true rfl) ?_
  refine x_norm (y := 0) (h_13) ?_
  refine x_aload_n hE dX12_bound_16 rfl 2 rfl ?_
  refine x_iload_n hE dX12_bound_17 rfl 0 rfl ?_
  refine x_iconst (v := 1) hE dX12_bound_18 (by decide) ?_
  refine c_ip hE (r_V (st := [.int 0]) hE (m_errorsOf l D cy L σ φ ρ (6) (1) hm h11) q2041 q2043 q110 q124 q2044 hM rfl ⟨by decide, by decide, pn_X12_errorsOf⟩ ⟨Nat.le_of_ble_eq_true rfl, Nat.le_of_ble_eq_true rfl⟩ ⟨Nat.le_of_ble_eq_true rfl, Nat.le_of_ble_eq_true rfl⟩ rfl (Nat.le_of_ble_eq_true rfl) dX12_bound_19) (fun r19 h_19 => ?_)
  refine x_widen (k' := 0) (n' := 0) (Nat.le_of_ble_eq_true rfl) (Nat.le_of_ble_eq_true rfl) ?_
  refine x_norm (y := 0) (h_19) ?_
  refine x_iadd hE dX12_bound_22 ?_
  refine x_norm (y := 0) (by decide) ?_
  refine x_aload_n hE dX12_bound_23 rfl 2 rfl ?_
  refine x_iload_n hE dX12_bound_24 rfl 1 rfl ?_
  refine x_iconst (v := 0) hE dX12_bound_25 (by decide) ?_
  refine c_ip hE (r_V (st := [.int 0]) hE (m_errorsOf l D cy L σ φ ρ (0) (0) hm h11) q2041 q2043 q110 q124 q2044 hM rfl ⟨by decide, by decide, pn_X12_errorsOf⟩ ⟨Nat.le_of_ble_eq_true rfl, Nat.le_of_ble_eq_true rfl⟩ ⟨Nat.le_of_ble_eq_true rfl, Nat.le_of_ble_eq_true rfl⟩ rfl (Nat.le_of_ble_eq_true rfl) dX12_bound_26) (fun r26 h_26 => ?_)
  refine x_widen (k' := 0) (n' := 0) (Nat.le_of_ble_eq_true rfl) (Nat.le_of_ble_eq_true rfl) ?_
  refine x_norm (y := 0) (h_26) ?_
  refine x_aload_n hE dX12_bound_29 rfl 2 rfl ?_
  refine x_iload_n hE dX12_bound_30 rfl 1 rfl ?_
  refine x_iconst (v := 1) hE dX12_bound_31 (by decide) ?_
  refine c_ip hE (r_V (st := [.int 0, .int 0]) hE (m_errorsOf l D cy L σ φ ρ (0) (1) hm h11) q2041 q2043 q110 q124 q2044 hM rfl ⟨by decide, by decide, pn_X12_errorsOf⟩ ⟨Nat.le_of_ble_eq_true rfl, Nat.le_of_ble_eq_true rfl⟩ ⟨Nat.le_of_ble_eq_true rfl, Nat.le_of_ble_eq_true rfl⟩ rfl (Nat.le_of_ble_eq_true rfl) dX12_bound_32) (fun r32 h_32 => ?_)
  refine x_widen (k' := 0) (n' := 0) (Nat.le_of_ble_eq_true rfl) (Nat.le_of_ble_eq_true rfl) ?_
  refine x_norm (y := 0) (h_32) ?_
  refine x_iadd hE dX12_bound_35 ?_
  refine x_norm (y := 0) (by decide) ?_
  refine x_icmp_ge (tgt := 41) hE dX12_bound_36 (by decide) (fun c_36 => ?_) (fun c_36 => absurd (by decide) c_36)
  refine x_iinc (v := 7) (lv' := [(2, .int 7), (1, .int 0), (0, .ref m)]) hE dX12_bound_41 0 rfl (by decide) (by decide) rfl ?_
  refine x_goto (tgt := 4) hE dX12_bound_44 (by decide) ?_
  refine x_iload_n hE dX12_bound_4 rfl 0 rfl ?_
  refine x_bipush (v := 10) hE dX12_bound_5 (by decide) ?_
  refine x_icmp_gt (tgt := 47) hE dX12_bound_7 (by decide) (fun c_7 => absurd c_7 (by decide)) (fun c_7 => ?_)
  refine x_aload_n hE dX12_bound_10 rfl 2 rfl ?_
  refine x_iload_n hE dX12_bound_11 rfl 0 rfl ?_
  refine x_iconst (v := 0) hE dX12_bound_12 (by decide) ?_
  refine c_ip hE (r_V (st := []) hE (m_errorsOf l D cy L σ φ ρ (7) (0) hm h11) q2041 q2043 q110 q124 q2044 hM rfl ⟨by decide, by decide, pn_X12_errorsOf⟩ ⟨Nat.le_of_ble_eq_true rfl, Nat.le_of_ble_eq_true rfl⟩ ⟨Nat.le_of_ble_eq_true rfl, Nat.le_of_ble_eq_true rfl⟩ rfl (Nat.le_of_ble_eq_true rfl) dX12_bound_13) (fun r13 h_13 => ?_)
  refine x_widen (k' := 0) (n' := 0) (Nat.le_of_ble_eq_true rfl) (Nat.le_of_ble_eq_true rfl) ?_
  refine x_norm (y := 0) (h_13) ?_
  refine x_aload_n hE dX12_bound_16 rfl 2 rfl ?_
  refine x_iload_n hE dX12_bound_17 rfl 0 rfl ?_
  refine x_iconst (v := 1) hE dX12_bound_18 (by decide) ?_
  refine c_ip hE (r_V (st := [.int 0]) hE (m_errorsOf l D cy L σ φ ρ (7) (1) hm h11) q2041 q2043 q110 q124 q2044 hM rfl ⟨by decide, by decide, pn_X12_errorsOf⟩ ⟨Nat.le_of_ble_eq_true rfl, Nat.le_of_ble_eq_true rfl⟩ ⟨Nat.le_of_ble_eq_true rfl, Nat.le_of_ble_eq_true rfl⟩ rfl (Nat.le_of_ble_eq_true rfl) dX12_bound_19) (fun r19 h_19 => ?_)
  refine x_widen (k' := 0) (n' := 0) (Nat.le_of_ble_eq_true rfl) (Nat.le_of_ble_eq_true rfl) ?_
  refine x_norm (y := 0) (h_19) ?_
  refine x_iadd hE dX12_bound_22 ?_
  refine x_norm (y := 0) (by decide) ?_
  refine x_aload_n hE dX12_bound_23 rfl 2 rfl ?_
  refine x_iload_n hE dX12_bound_24 rfl 1 rfl ?_
  refine x_iconst (v := 0) hE dX12_bound_25 (by decide) ?_
  refine c_ip hE (r_V (st := [.int 0]) hE (m_errorsOf l D cy L σ φ ρ (0) (0) hm h11) q2041 q2043 q110 q124 q2044 hM rfl ⟨by decide, by decide, pn_X12_errorsOf⟩ ⟨Nat.le_of_ble_eq_true rfl, Nat.le_of_ble_eq_true rfl⟩ ⟨Nat.le_of_ble_eq_true rfl, Nat.le_of_ble_eq_true rfl⟩ rfl (Nat.le_of_ble_eq_true rfl) dX12_bound_26) (fun r26 h_26 => ?_)
  refine x_widen (k' := 0) (n' := 0) (Nat.le_of_ble_eq_true rfl) (Nat.le_of_ble_eq_true rfl) ?_
  refine x_norm (y := 0) (h_26) ?_
  refine x_aload_n hE dX12_bound_29 rfl 2 rfl ?_
  refine x_iload_n hE dX12_bound_30 rfl 1 rfl ?_
  refine x_iconst (v := 1) hE dX12_bound_31 (by decide) ?_
  refine c_ip hE (r_V (st := [.int 0, .int 0]) hE (m_errorsOf l D cy L σ φ ρ (0) (1) hm h11) q2041 q2043 q110 q124 q2044 hM rfl ⟨by decide, by decide, pn_X12_errorsOf⟩ ⟨Nat.le_of_ble_eq_true rfl, Nat.le_of_ble_eq_true rfl⟩ ⟨Nat.le_of_ble_eq_true rfl, Nat.le_of_ble_eq_true rfl⟩ rfl (Nat.le_of_ble_eq_true rfl) dX12_bound_32) (fun r32 h_32 => ?_)
  refine x_widen (k' := 0) (n' := 0) (Nat.le_of_ble_eq_true rfl) (Nat.le_of_ble_eq_true rfl) ?_
  refine x_norm (y := 0) (h_32) ?_
  refine x_iadd hE dX12_bound_35 ?_
  refine x_norm (y := 0) (by decide) ?_
  refine x_icmp_ge (tgt := 41) hE dX12_bound_36 (by decide) (fun c_36 => ?_) (fun c_36 => absurd (by decide) c_36)
  refine x_iinc (v := 8) (lv' := [(2, .int 8), (1, .int 0), (0, .ref m)]) hE dX12_bound_41 0 rfl (by decide) (by decide) rfl ?_
  refine x_goto (tgt := 4) hE dX12_bound_44 (by decide) ?_
  refine x_iload_n hE dX12_bound_4 rfl 0 rfl ?_
  refine x_bipush (v := 10) hE dX12_bound_5 (by decide) ?_
  refine x_icmp_gt (tgt := 47) hE dX12_bound_7 (by decide) (fun c_7 => absurd c_7 (by decide)) (fun c_7 => ?_)
  refine x_aload_n hE dX12_bound_10 rfl 2 rfl ?_
  refine x_iload_n hE dX12_bound_11 rfl 0 rfl ?_
  refine x_iconst (v := 0) hE dX12_bound_12 (by decide) ?_
  refine c_ip hE (r_V (st := []) hE (m_errorsOf l D cy L σ φ ρ (8) (0) hm h11) q2041 q2043 q110 q124 q2044 hM rfl ⟨by decide, by decide, pn_X12_errorsOf⟩ ⟨Nat.le_of_ble_eq_true rfl, Nat.le_of_ble_eq_true rfl⟩ ⟨Nat.le_of_ble_eq_true rfl, Nat.le_of_ble_eq_true rfl⟩ rfl (Nat.le_of_ble_eq_true rfl) dX12_bound_13) (fun r13 h_13 => ?_)
  refine x_widen (k' := 0) (n' := 0) (Nat.le_of_ble_eq_true rfl) (Nat.le_of_ble_eq_true rfl) ?_
  refine x_norm (y := 0) (h_13) ?_
  refine x_aload_n hE dX12_bound_16 rfl 2 rfl ?_
  refine x_iload_n hE dX12_bound_17 rfl 0 rfl ?_
  refine x_iconst (v := 1) hE dX12_bound_18 (by decide) ?_
  refine c_ip hE (r_V (st := [.int 0]) hE (m_errorsOf l D cy L σ φ ρ (8) (1) hm h11) q2041 q2043 q110 q124 q2044 hM rfl ⟨by decide, by decide, pn_X12_errorsOf⟩ ⟨Nat.le_of_ble_eq_true rfl, Nat.le_of_ble_eq_true rfl⟩ ⟨Nat.le_of_ble_eq_true rfl, Nat.le_of_ble_eq_true rfl⟩ rfl (Nat.le_of_ble_eq_true rfl) dX12_bound_19) (fun r19 h_19 => ?_)
  refine x_widen (k' := 0) (n' := 0) (Nat.le_of_ble_eq_true rfl) (Nat.le_of_ble_eq_true rfl) ?_
  refine x_norm (y := 0) (h_19) ?_
  refine x_iadd hE dX12_bound_22 ?_
  refine x_norm (y := 0) (by decide) ?_
  refine x_aload_n hE dX12_bound_23 rfl 2 rfl ?_
  refine x_iload_n hE dX12_bound_24 rfl 1 rfl ?_
  refine x_iconst (v := 0) hE dX12_bound_25 (by decide) ?_
  refine c_ip hE (r_V (st := [.int 0]) hE (m_errorsOf l D cy L σ φ ρ (0) (0) hm h11) q2041 q2043 q110 q124 q2044 hM rfl ⟨by decide, by decide, pn_X12_errorsOf⟩ ⟨Nat.le_of_ble_eq_true rfl, Nat.le_of_ble_eq_true rfl⟩ ⟨Nat.le_of_ble_eq_true rfl, Nat.le_of_ble_eq_true rfl⟩ rfl (Nat.le_of_ble_eq_true rfl) dX12_bound_26) (fun r26 h_26 => ?_)
  refine x_widen (k' := 0) (n' := 0) (Nat.le_of_ble_eq_true rfl) (Nat.le_of_ble_eq_true rfl) ?_
  refine x_norm (y := 0) (h_26) ?_
  refine x_aload_n hE dX12_bound_29 rfl 2 rfl ?_
  refine x_iload_n hE dX12_bound_30 rfl 1 rfl ?_
  refine x_iconst (v := 1) hE dX12_bound_31 (by decide) ?_
  refine c_ip hE (r_V (st := [.int 0, .int 0]) hE (m_errorsOf l D cy L σ φ ρ (0) (1) hm h11) q2041 q2043 q110 q124 q2044 hM rfl ⟨by decide, by decide, pn_X12_errorsOf⟩ ⟨Nat.le_of_ble_eq_true rfl, Nat.le_of_ble_eq_true rfl⟩ ⟨Nat.le_of_ble_eq_true rfl, Nat.le_of_ble_eq_true rfl⟩ rfl (Nat.le_of_ble_eq_true rfl) dX12_bound_32) (fun r32 h_32 => ?_)
  refine x_widen (k' := 0) (n' := 0) (Nat.le_of_ble_eq_true rfl) (Nat.le_of_ble_eq_true rfl) ?_
  refine x_norm (y := 0) (h_32) ?_
  refine x_iadd hE dX12_bound_35 ?_
  refine x_norm (y := 0) (by decide) ?_
  refine x_icmp_ge (tgt := 41) hE dX12_bound_36 (by decide) (fun c_36 => ?_) (fun c_36 => absurd (by decide) c_36)
  refine x_iinc (v := 9) (lv' := [(2, .int 9), (1, .int 0), (0, .ref m)]) hE dX12_bound_41 0 rfl (by decide) (by decide) rfl ?_
  refine x_goto (tgt := 4) hE dX12_bound_44 (by decide) ?_
  refine x_iload_n hE dX12_bound_4 rfl 0 rfl ?_
  refine x_bipush (v := 10) hE dX12_bound_5 (by decide) ?_
  refine x_icmp_gt (tgt := 47) hE dX12_bound_7 (by decide) (fun c_7 => absurd c_7 (by decide)) (fun c_7 => ?_)
  refine x_aload_n hE dX12_bound_10 rfl 2 rfl ?_
  refine x_iload_n hE dX12_bound_11 rfl 0 rfl ?_
  refine x_iconst (v := 0) hE dX12_bound_12 (by decide) ?_
  refine c_ip hE (r_V (st := []) hE (m_errorsOf l D cy L σ φ ρ (9) (0) hm h11) q2041 q2043 q110 q124 q2044 hM rfl ⟨by decide, by decide, pn_X12_errorsOf⟩ ⟨Nat.le_of_ble_eq_true rfl, Nat.le_of_ble_eq_true rfl⟩ ⟨Nat.le_of_ble_eq_true rfl, Nat.le_of_ble_eq_true rfl⟩ rfl (Nat.le_of_ble_eq_true rfl) dX12_bound_13) (fun r13 h_13 => ?_)
  refine x_widen (k' := 0) (n' := 0) (Nat.le_of_ble_eq_true rfl) (Nat.le_of_ble_eq_true rfl) ?_
  refine x_norm (y := 0) (h_13) ?_
  refine x_aload_n hE dX12_bound_16 rfl 2 rfl ?_
  refine x_iload_n hE dX12_bound_17 rfl 0 rfl ?_
  refine x_iconst (v := 1) hE dX12_bound_18 (by decide) ?_
  refine c_ip hE (r_V (st := [.int 0]) hE (m_errorsOf l D cy L σ φ ρ (9) (1) hm h11) q2041 q2043 q110 q124 q2044 hM rfl ⟨by decide, by decide, pn_X12_errorsOf⟩ ⟨Nat.le_of_ble_eq_true rfl, Nat.le_of_ble_eq_true rfl⟩ ⟨Nat.le_of_ble_eq_true rfl, Nat.le_of_ble_eq_true rfl⟩ rfl (Nat.le_of_ble_eq_true rfl) dX12_bound_19) (fun r19 h_19 => ?_)
  refine x_widen (k' := 0) (n' := 0) (Nat.le_of_ble_eq_true rfl) (Nat.le_of_ble_eq_true rfl) ?_
  refine x_norm (y := 0) (h_19) ?_
  refine x_iadd hE dX12_bound_22 ?_
  refine x_norm (y := 0) (by decide) ?_
  refine x_aload_n hE dX12_bound_23 rfl 2 rfl ?_
  refine x_iload_n hE dX12_bound_24 rfl 1 rfl ?_
  refine x_iconst (v := 0) hE dX12_bound_25 (by decide) ?_
  refine c_ip hE (r_V (st := [.int 0]) hE (m_errorsOf l D cy L σ φ ρ (0) (0) hm h11) q2041 q2043 q110 q124 q2044 hM rfl ⟨by decide, by decide, pn_X12_errorsOf⟩ ⟨Nat.le_of_ble_eq_true rfl, Nat.le_of_ble_eq_true rfl⟩ ⟨Nat.le_of_ble_eq_true rfl, Nat.le_of_ble_eq_true rfl⟩ rfl (Nat.le_of_ble_eq_true rfl) dX12_bound_26) (fun r26 h_26 => ?_)
  refine x_widen (k' := 0) (n' := 0) (Nat.le_of_ble_eq_true rfl) (Nat.le_of_ble_eq_true rfl) ?_
  refine x_norm (y := 0) (h_26) ?_
  refine x_aload_n hE dX12_bound_29 rfl 2 rfl ?_
  refine x_iload_n hE dX12_bound_30 rfl 1 rfl ?_
  refine x_iconst (v := 1) hE dX12_bound_31 (by decide) ?_
  refine c_ip hE (r_V (st := [.int 0, .int 0]) hE (m_errorsOf l D cy L σ φ ρ (0) (1) hm h11) q2041 q2043 q110 q124 q2044 hM rfl ⟨by decide, by decide, pn_X12_errorsOf⟩ ⟨Nat.le_of_ble_eq_true rfl, Nat.le_of_ble_eq_true rfl⟩ ⟨Nat.le_of_ble_eq_true rfl, Nat.le_of_ble_eq_true rfl⟩ rfl (Nat.le_of_ble_eq_true rfl) dX12_bound_32) (fun r32 h_32 => ?_)
  refine x_widen (k' := 0) (n' := 0) (Nat.le_of_ble_eq_true rfl) (Nat.le_of_ble_eq_true rfl) ?_
  refine x_norm (y := 0) (h_32) ?_
  refine x_iadd hE dX12_bound_35 ?_
  refine x_norm (y := 0) (by decide) ?_
  refine x_icmp_ge (tgt := 41) hE dX12_bound_36 (by decide) (fun c_36 => ?_) (fun c_36 => absurd (by decide) c_36)
  refine x_iinc (v := 10) (lv' := [(2, .int 10), (1, .int 0), (0, .ref m)]) hE dX12_bound_41 0 rfl (by decide) (by decide) rfl ?_
  refine x_goto (tgt := 4) hE dX12_bound_44 (by decide) ?_
  refine x_iload_n hE dX12_bound_4 rfl 0 rfl ?_
  refine x_bipush (v := 10) hE dX12_bound_5 (by decide) ?_
  refine x_icmp_gt (tgt := 47) hE dX12_bound_7 (by decide) (fun c_7 => absurd c_7 (by decide)) (fun c_7 => ?_)
  refine x_aload_n hE dX12_bound_10 rfl 2 rfl ?_
  refine x_iload_n hE dX12_bound_11 rfl 0 rfl ?_
  refine x_iconst (v := 0) hE dX12_bound_12 (by decide) ?_
  refine c_ip hE (r_V (st := []) hE (m_errorsOf l D cy L σ φ ρ (10) (0) hm h11) q2041 q2043 q110 q124 q2044 hM rfl ⟨by decide, by decide, pn_X12_errorsOf⟩ ⟨Nat.le_of_ble_eq_true rfl, Nat.le_of_ble_eq_true rfl⟩ ⟨Nat.le_of_ble_eq_true rfl, Nat.le_of_ble_eq_true rfl⟩ rfl (Nat.le_of_ble_eq_true rfl) dX12_bound_13) (fun r13 h_13 => ?_)
  refine x_widen (k' := 0) (n' := 0) (Nat.le_of_ble_eq_true rfl) (Nat.le_of_ble_eq_true rfl) ?_
  refine x_norm (y := 0) (h_13) ?_
  refine x_aload_n hE dX12_bound_16 rfl 2 rfl ?_
  refine x_iload_n hE dX12_bound_17 rfl 0 rfl ?_
  refine x_iconst (v := 1) hE dX12_bound_18 (by decide) ?_
  refine c_ip hE (r_V (st := [.int 0]) hE (m_errorsOf l D cy L σ φ ρ (10) (1) hm h11) q2041 q2043 q110 q124 q2044 hM rfl ⟨by decide, by decide, pn_X12_errorsOf⟩ ⟨Nat.le_of_ble_eq_true rfl, Nat.le_of_ble_eq_true rfl⟩ ⟨Nat.le_of_ble_eq_true rfl, Nat.le_of_ble_eq_true rfl⟩ rfl (Nat.le_of_ble_eq_true rfl) dX12_bound_19) (fun r19 h_19 => ?_)
  refine x_widen (k' := 0) (n' := 0) (Nat.le_of_ble_eq_true rfl) (Nat.le_of_ble_eq_true rfl) ?_
  refine x_norm (y := 0) (h_19) ?_
  refine x_iadd hE dX12_bound_22 ?_
  refine x_norm (y := 0) (by decide) ?_
  refine x_aload_n hE dX12_bound_23 rfl 2 rfl ?_
  refine x_iload_n hE dX12_bound_24 rfl 1 rfl ?_
  refine x_iconst (v := 0) hE dX12_bound_25 (by decide) ?_
  refine c_ip hE (r_V (st := [.int 0]) hE (m_errorsOf l D cy L σ φ ρ (0) (0) hm h11) q2041 q2043 q110 q124 q2044 hM rfl ⟨by decide, by decide, pn_X12_errorsOf⟩ ⟨Nat.le_of_ble_eq_true rfl, Nat.le_of_ble_eq_true rfl⟩ ⟨Nat.le_of_ble_eq_true rfl, Nat.le_of_ble_eq_true rfl⟩ rfl (Nat.le_of_ble_eq_true rfl) dX12_bound_26) (fun r26 h_26 => ?_)
  refine x_widen (k' := 0) (n' := 0) (Nat.le_of_ble_eq_true rfl) (Nat.le_of_ble_eq_true rfl) ?_
  refine x_norm (y := 0) (h_26) ?_
  refine x_aload_n hE dX12_bound_29 rfl 2 rfl ?_
  refine x_iload_n hE dX12_bound_30 rfl 1 rfl ?_
  refine x_iconst (v := 1) hE dX12_bound_31 (by decide) ?_
  refine c_ip hE (r_V (st := [.int 0, .int 0]) hE (m_errorsOf l D cy L σ φ ρ (0) (1) hm h11) q2041 q2043 q110 q124 q2044 hM rfl ⟨by decide, by decide, pn_X12_errorsOf⟩ ⟨Nat.le_of_ble_eq_true rfl, Nat.le_of_ble_eq_true rfl⟩ ⟨Nat.le_of_ble_eq_true rfl, Nat.le_of_ble_eq_true rfl⟩ rfl (Nat.le_of_ble_eq_true rfl) dX12_bound_32) (fun r32 h_32 => ?_)
  refine x_widen (k' := 0) (n' := 0) (Nat.le_of_ble_eq_true rfl) (Nat.le_of_ble_eq_true rfl) ?_
  refine x_norm (y := 0) (h_32) ?_
  refine x_iadd hE dX12_bound_35 ?_
  refine x_norm (y := 0) (by decide) ?_
  refine x_icmp_ge (tgt := 41) hE dX12_bound_36 (by decide) (fun c_36 => ?_) (fun c_36 => absurd (by decide) c_36)
  refine x_iinc (v := 11) (lv' := [(2, .int 11), (1, .int 0), (0, .ref m)]) hE dX12_bound_41 0 rfl (by decide) (by decide) rfl ?_
  refine x_goto (tgt := 4) hE dX12_bound_44 (by decide) ?_
  refine x_iload_n hE dX12_bound_4 rfl 0 rfl ?_
  refine x_bipush (v := 10) hE dX12_bound_5 (by decide) ?_
  refine x_icmp_gt (tgt := 47) hE dX12_bound_7 (by decide) (fun c_7 => ?_) (fun c_7 => absurd (by decide) c_7)
  refine x_iload_n hE dX12_bound_47 rfl 1 rfl ?_
  exact hret _ _ _ _ _ _ _ _ (0) (Nat.le_of_ble_eq_true rfl) (Nat.le_of_ble_eq_true rfl) dX12_bound_48 (rfl) (by grind [zb])
set_option maxHeartbeats 4000000 in
set_option maxRecDepth 100000 in
theorem m_near (l : Launch) (D : va_G) (cy : Nat → ClassId) (L : List Nat) (σ : Nat → va_E) (φ : Nat → Nat → Nat → Int32) (ρ : Nat → Nat → Int32) {m : Nat} {r : Nat → Nat} (i : Int32) (hm : zModel cy L σ m r) (hm0 : zMo0 φ ρ m r) : zMI l D cy yX12_near cX12_near 4 .int (zrm 4 0 0) [.ref m, .int i] L σ φ ρ (fun r _ => r = if i = -1 then 0 else -2) := by
  refine zMI.mk (by decide) (Nat.le_of_ble_eq_true rfl) (fun E hE hret => ?_)
  show zW E 0 0 L σ φ ρ 0 [(0, .ref m), (1, .int i)] []
  obtain ⟨hM, hr0, hr1, hr2, hr3, hr15, hr16, hr22, hr25, hr26, hr27, hr28, hr29, hr32, hr33, hr34, hr39, hr41, hr42, hr43, hr44, hr45, hr46, hr47, hr48, hr49, hr50, hr51, hr52, hne⟩ := id hm
  obtain ⟨hp, h0, h1⟩ := id hm0
  have h00 : ρ (r 0) 0 = 0 := (h0 0 (by omega)).trans (by decide)
  have h01 : ρ (r 0) 1 = 0 := (h0 1 (by omega)).trans (by decide)
  have h11 : ρ (r 0) 11 = 0 := (h0 11 (by omega)).trans (by decide)
  have h12 : ρ (r 0) 12 = 0 := (h0 12 (by omega)).trans (by decide)
  refine x_iload_n hE dX12_near_0 rfl 1 rfl ?_
  refine x_iconst (v := -1) hE dX12_near_1 (by decide) ?_
  refine x_aload_n hE dX12_near_2 rfl 0 rfl ?_
  refine h_getr hE hM rfl inZX12 0 (by decide) q1394 rfl dX12_near_3 ?_
  refine x_bipush (v := 10) hE dX12_near_6 (by decide) ?_
  refine h_ialdL (iN := 10) hE hr0 (by decide) (by decide) (by omega) dX12_near_8 ?_
  refine x_norm (y := 0) ((h0 10 (by omega)).trans (by decide)) ?_
  refine x_iconst (v := 1) hE dX12_near_9 (by decide) ?_
  refine x_isub hE dX12_near_10 ?_
  refine x_norm (y := -1) (by decide) ?_
  refine c_ip hE (r_S (st := []) hE (m_isIn l D cy L σ φ ρ (i) (-1) (-1)) q1558 q1559 q124 q1560 ⟨by decide, by decide, pn_X12_isIn⟩ ⟨Nat.le_of_ble_eq_true rfl, Nat.le_of_ble_eq_true rfl⟩ ⟨Nat.le_of_ble_eq_true rfl, Nat.le_of_ble_eq_true rfl⟩ rfl (Nat.le_of_ble_eq_true rfl) dX12_near_11) (fun r11 h11 => ?_)
  refine x_widen (k' := 0) (n' := 0) (Nat.le_of_ble_eq_true rfl) (Nat.le_of_ble_eq_true rfl) ?_
  refine x_if_ne (tgt := 20) hE dX12_near_14 (by decide) (fun c_14 => ?_) (fun c_14 => ?_)
  · refine x_iload_n hE dX12_near_20 rfl 1 rfl ?_
    refine x_if_lt (tgt := 30) hE dX12_near_21 (by decide) (fun c_21 => ?_) (fun c_21 => absurd (by grind [zb]) c_21)
    refine x_iconst (v := 1) hE dX12_near_30 (by decide) ?_
    refine x_aload_n hE dX12_near_31 rfl 0 rfl ?_
    refine h_getr hE hM rfl inZX12 0 (by decide) q1394 rfl dX12_near_32 ?_
    refine x_iconst (v := 1) hE dX12_near_35 (by decide) ?_
    refine h_ialdL (iN := 1) hE hr0 (by decide) (by decide) (by omega) dX12_near_36 ?_
    refine x_norm (y := 0) ((h0 1 (by omega)).trans (by decide)) ?_
    refine x_ishl hE dX12_near_37 ?_
    refine x_norm (y := 1) (by decide) ?_
    refine x_iconst (v := 1) hE dX12_near_38 (by decide) ?_
    refine x_isub hE dX12_near_39 ?_
    refine x_norm (y := 0) (by decide) ?_
    refine x_istore_n (lv' := [(2, .int 0), (0, .ref m), (1, .int i)]) hE dX12_near_40 rfl (by decide) rfl ?_
    refine x_iconst (v := 0) hE dX12_near_41 (by decide) ?_
    refine x_istore_n (lv' := [(3, .int 0), (2, .int 0), (0, .ref m), (1, .int i)]) hE dX12_near_42 rfl (by decide) rfl ?_
    refine x_iload_n hE dX12_near_43 rfl 0 rfl ?_
    refine x_aload_n hE dX12_near_44 rfl 2 rfl ?_
    refine h_getr hE hM rfl inZX12 0 (by decide) q1394 rfl dX12_near_45 ?_
    refine x_bipush (v := 10) hE dX12_near_48 (by decide) ?_
    refine h_ialdL (iN := 10) hE hr0 (by decide) (by decide) (by omega) dX12_near_50 ?_
    refine x_norm (y := 0) ((h0 10 (by omega)).trans (by decide)) ?_
    refine x_icmp_ge (tgt := 68) hE dX12_near_51 (by decide) (fun c_51 => ?_) (fun c_51 => absurd (by decide) c_51)
    refine x_iload_n hE dX12_near_68 rfl 1 rfl ?_
    exact hret _ _ _ _ _ _ _ _ (0) (Nat.le_of_ble_eq_true rfl) (Nat.le_of_ble_eq_true rfl) dX12_near_69 (rfl) (by grind [zb])
  · refine x_bipush (v := -2) hE dX12_near_17 (by decide) ?_
    exact hret _ _ _ _ _ _ _ _ (-2) (Nat.le_of_ble_eq_true rfl) (Nat.le_of_ble_eq_true rfl) dX12_near_19 (rfl) (by grind [zb])
set_option maxHeartbeats 4000000 in
set_option maxRecDepth 100000 in
theorem m_about (l : Launch) (D : va_G) (cy : Nat → ClassId) (L : List Nat) (σ : Nat → va_E) (φ : Nat → Nat → Nat → Int32) (ρ : Nat → Nat → Int32) {m : Nat} {r : Nat → Nat} (w : Int32) (hm : zModel cy L σ m r) (hm0 : zMo0 φ ρ m r) : zMI l D cy yX12_about cX12_about 2 .int (zrm 4 0 0) [.ref m, .int w] L σ φ ρ (fun r _ => r = zabout w) := by
  refine zMI.mk (by decide) (Nat.le_of_ble_eq_true rfl) (fun E hE hret => ?_)
  show zW E 0 0 L σ φ ρ 0 [(0, .ref m), (1, .int w)] []
  obtain ⟨hM, hr0, hr1, hr2, hr3, hr15, hr16, hr22, hr25, hr26, hr27, hr28, hr29, hr32, hr33, hr34, hr39, hr41, hr42, hr43, hr44, hr45, hr46, hr47, hr48, hr49, hr50, hr51, hr52, hne⟩ := id hm
  obtain ⟨hp, h0, h1⟩ := id hm0
  have h00 : ρ (r 0) 0 = 0 := (h0 0 (by omega)).trans (by decide)
  have h01 : ρ (r 0) 1 = 0 := (h0 1 (by omega)).trans (by decide)
  have h11 : ρ (r 0) 11 = 0 := (h0 11 (by omega)).trans (by decide)
  have h12 : ρ (r 0) 12 = 0 := (h0 12 (by omega)).trans (by decide)
  refine x_iload_n hE dX12_about_0 rfl 1 rfl ?_
  refine x_iconst (v := 0) hE dX12_about_1 (by decide) ?_
  refine x_bipush (v := 12) hE dX12_about_2 (by decide) ?_
  refine c_ip hE (r_S (st := []) hE (m_isIn l D cy L σ φ ρ (w) (0) (12)) q1558 q1559 q124 q1560 ⟨by decide, by decide, pn_X12_isIn⟩ ⟨Nat.le_of_ble_eq_true rfl, Nat.le_of_ble_eq_true rfl⟩ ⟨Nat.le_of_ble_eq_true rfl, Nat.le_of_ble_eq_true rfl⟩ rfl (Nat.le_of_ble_eq_true rfl) dX12_about_4) (fun r4 h4 => ?_)
  refine x_widen (k' := 0) (n' := 0) (Nat.le_of_ble_eq_true rfl) (Nat.le_of_ble_eq_true rfl) ?_
  refine x_if_eq (tgt := 19) hE dX12_about_7 (by decide) (fun c_7 => ?_) (fun c_7 => ?_)
  · refine x_iload_n hE dX12_about_19 rfl 1 rfl ?_
    refine x_bipush (v := 13) hE dX12_about_20 (by decide) ?_
    refine x_icmp_ne (tgt := 32) hE dX12_about_22 (by decide) (fun c_22 => ?_) (fun c_22 => ?_)
    · refine x_bipush (v := -2) hE dX12_about_32 (by decide) ?_
      exact hret _ _ _ _ _ _ _ _ (-2) (Nat.le_of_ble_eq_true rfl) (Nat.le_of_ble_eq_true rfl) dX12_about_34 (rfl) (by grind [zb, zabout])
    · refine x_aload_n hE dX12_about_25 rfl 0 rfl ?_
      refine h_geti hE hM rfl inZX12 4 (by decide) q1398 rfl dX12_about_26 ?_
      refine x_norm (y := 0) ((by simpa using hp 4)) ?_
      refine x_goto (tgt := 34) hE dX12_about_29 (by decide) ?_
      exact hret _ _ _ _ _ _ _ _ (0) (Nat.le_of_ble_eq_true rfl) (Nat.le_of_ble_eq_true rfl) dX12_about_34 (rfl) (by grind [zb, zabout])
  · have hw1 : 0 ≤ w ∧ w ≤ 12 := by grind [zb]
    obtain ⟨j, _, hj, hwj⟩ := z_nI (a := 0) (b := 12) hw1 (by omega) (by omega)
    rw [hwj]
    refine x_aload_n hE dX12_about_10 rfl 0 rfl ?_
    refine h_getr hE hM rfl inZX12 0 (by decide) q1394 rfl dX12_about_11 ?_
    refine x_iload_n hE dX12_about_14 rfl 1 rfl ?_
    refine h_ialdL (iN := j) hE hr0 (nI_clamp (by omega)) (nI_pos (by omega)) (by omega) dX12_about_15 ?_
    refine x_goto (tgt := 34) hE dX12_about_16 (by decide) ?_
    exact hret _ _ _ _ _ _ _ _ (ρ (r 0) (j)) (Nat.le_of_ble_eq_true rfl) (Nat.le_of_ble_eq_true rfl) dX12_about_34 (rfl) (by rw [hwj]; exact (h0 j (by omega)).trans (z_ab j (by omega)))
set_option maxHeartbeats 4000000 in
set_option maxRecDepth 100000 in
theorem m_filling (l : Launch) (D : va_G) (cy : Nat → ClassId) (L : List Nat) (σ : Nat → va_E) (φ : Nat → Nat → Nat → Int32) (ρ : Nat → Nat → Int32) {m : Nat} {r : Nat → Nat} (p a b c n q : Int32) (hm : zModel cy L σ m r) (hm0 : zMo0 φ ρ m r) : zML l D cy yX12_filling cX12_filling 12 (zrm 3 0 0) [.ref m, .int p, .int a, .int b, .int c, .int n, .int q] L σ φ ρ (fun r _ => r = -1) := by
  refine zML.mk (by decide) (Nat.le_of_ble_eq_true rfl) (fun E hE hret => ?_)
  show zW E 0 0 L σ φ ρ 0 [(0, .ref m), (1, .int p), (2, .int a), (3, .int b), (4, .int c), (5, .int n), (6, .int q)] []
  obtain ⟨hM, hr0, hr1, hr2, hr3, hr15, hr16, hr22, hr25, hr26, hr27, hr28, hr29, hr32, hr33, hr34, hr39, hr41, hr42, hr43, hr44, hr45, hr46, hr47, hr48, hr49, hr50, hr51, hr52, hne⟩ := id hm
  obtain ⟨hp, h0, h1⟩ := id hm0
  have h00 : ρ (r 0) 0 = 0 := (h0 0 (by omega)).trans (by decide)
  have h01 : ρ (r 0) 1 = 0 := (h0 1 (by omega)).trans (by decide)
  refine x_aload_n hE dX12_filling_0 rfl 0 rfl ?_
  refine x_iload_n hE dX12_filling_1 rfl 1 rfl ?_
  refine c_ip hE (r_V (st := []) hE (m_isPerson l D cy L σ φ ρ (p) hm h00 h01) q1840 q1842 q87 q124 q1843 hM rfl ⟨by decide, by decide, pn_X12_isPerson⟩ ⟨Nat.le_of_ble_eq_true rfl, Nat.le_of_ble_eq_true rfl⟩ ⟨Nat.le_of_ble_eq_true rfl, Nat.le_of_ble_eq_true rfl⟩ rfl (Nat.le_of_ble_eq_true rfl) dX12_filling_2) (fun r2 h_2 => ?_)
  refine x_widen (k' := 0) (n' := 0) (Nat.le_of_ble_eq_true rfl) (Nat.le_of_ble_eq_true rfl) ?_
  refine x_norm (y := 0) (h_2) ?_
  refine x_if_eq (tgt := 50) hE dX12_filling_5 (by decide) (fun c_5 => ?_) (fun c_5 => absurd (by decide) c_5)
  refine x_ldc2 (v := -1) hE q2028 dX12_filling_50 ?_
  exact hret _ _ _ _ _ _ _ _ (-1) (Nat.le_of_ble_eq_true rfl) (Nat.le_of_ble_eq_true rfl) dX12_filling_53 (rfl)
set_option maxHeartbeats 4000000 in
set_option maxRecDepth 100000 in
theorem m_image (l : Launch) (D : va_G) (cy : Nat → ClassId) (L : List Nat) (σ : Nat → va_E) (φ : Nat → Nat → Nat → Int32) (ρ : Nat → Nat → Int32) {m : Nat} {r : Nat → Nat}  (hm : zModel cy L σ m r) (hm0 : zMo0 φ ρ m r) : zMI l D cy yX12_image cX12_image 1 .int (zrm 3 0 0) [.ref m] L σ φ ρ (fun r _ => r = 0) := by
  refine zMI.mk (by decide) (Nat.le_of_ble_eq_true rfl) (fun E hE hret => ?_)
  show zW E 0 0 L σ φ ρ 0 [(0, .ref m)] []
  obtain ⟨hM, hr0, hr1, hr2, hr3, hr15, hr16, hr22, hr25, hr26, hr27, hr28, hr29, hr32, hr33, hr34, hr39, hr41, hr42, hr43, hr44, hr45, hr46, hr47, hr48, hr49, hr50, hr51, hr52, hne⟩ := id hm
  obtain ⟨hp, h0, h1⟩ := id hm0
  have h00 : ρ (r 0) 0 = 0 := (h0 0 (by omega)).trans (by decide)
  have h01 : ρ (r 0) 1 = 0 := (h0 1 (by omega)).trans (by decide)
  refine x_aload_n hE dX12_image_0 rfl 0 rfl ?_
  refine h_getr hE hM rfl inZX12 0 (by decide) q1394 rfl dX12_image_1 ?_
  refine x_aload_n hE dX12_image_4 rfl 0 rfl ?_
  refine h_getr hE hM rfl inZX12 1 (by decide) q1395 rfl dX12_image_5 ?_
  refine c_vs hE (r_S (st := []) hE (m_copy l D cy L σ φ ρ hr0 hr1 hne) q1391 q1392 q124 q1393 ⟨by decide, by decide, pn_X12_copy⟩ ⟨Nat.le_of_ble_eq_true rfl, Nat.le_of_ble_eq_true rfl⟩ ⟨Nat.le_of_ble_eq_true rfl, Nat.le_of_ble_eq_true rfl⟩ rfl (Nat.le_of_ble_eq_true rfl) dX12_image_8) (fun φ1 ρ1 hc => ?_)
  refine x_widen (k' := 0) (n' := 0) (Nat.le_of_ble_eq_true rfl) (Nat.le_of_ble_eq_true rfl) ?_
  obtain ⟨hc1, hc2, hc3⟩ := hc
  refine x_aload_n hE dX12_image_11 rfl 0 rfl ?_
  refine h_getr hE hM rfl inZX12 0 (by decide) q1394 rfl dX12_image_12 ?_
  refine x_iconst (v := 2) hE dX12_image_15 (by decide) ?_
  refine h_ialdL (iN := 2) hE hr0 (by decide) (by decide) (by omega) dX12_image_16 ?_
  refine x_norm (y := 0) (by rw [hc2 _ hne]; exact (h0 2 (by omega)).trans (by decide)) ?_
  exact hret _ _ _ _ _ _ _ _ (0) (Nat.le_of_ble_eq_true rfl) (Nat.le_of_ble_eq_true rfl) dX12_image_17 (rfl) (rfl)
set_option maxHeartbeats 4000000 in
set_option maxRecDepth 100000 in
theorem m_back (l : Launch) (D : va_G) (cy : Nat → ClassId) (L : List Nat) (σ : Nat → va_E) (φ : Nat → Nat → Nat → Int32) (ρ : Nat → Nat → Int32) {m : Nat} {r : Nat → Nat}  (hm : zModel cy L σ m r) (hm0 : zMo0 φ ρ m r) : zMI l D cy yX12_back cX12_back 1 .int (zrm 3 0 0) [.ref m] L σ φ ρ (fun r _ => r = 0) := by
  refine zMI.mk (by decide) (Nat.le_of_ble_eq_true rfl) (fun E hE hret => ?_)
  show zW E 0 0 L σ φ ρ 0 [(0, .ref m)] []
  obtain ⟨hM, hr0, hr1, hr2, hr3, hr15, hr16, hr22, hr25, hr26, hr27, hr28, hr29, hr32, hr33, hr34, hr39, hr41, hr42, hr43, hr44, hr45, hr46, hr47, hr48, hr49, hr50, hr51, hr52, hne⟩ := id hm
  obtain ⟨hp, h0, h1⟩ := id hm0
  have h00 : ρ (r 0) 0 = 0 := (h0 0 (by omega)).trans (by decide)
  have h01 : ρ (r 0) 1 = 0 := (h0 1 (by omega)).trans (by decide)
  refine x_aload_n hE dX12_back_0 rfl 0 rfl ?_
  refine h_getr hE hM rfl inZX12 1 (by decide) q1395 rfl dX12_back_1 ?_
  refine x_aload_n hE dX12_back_4 rfl 0 rfl ?_
  refine h_getr hE hM rfl inZX12 0 (by decide) q1394 rfl dX12_back_5 ?_
  refine c_vs hE (r_S (st := []) hE (m_copy l D cy L σ φ ρ hr1 hr0 hne.symm) q1391 q1392 q124 q1393 ⟨by decide, by decide, pn_X12_copy⟩ ⟨Nat.le_of_ble_eq_true rfl, Nat.le_of_ble_eq_true rfl⟩ ⟨Nat.le_of_ble_eq_true rfl, Nat.le_of_ble_eq_true rfl⟩ rfl (Nat.le_of_ble_eq_true rfl) dX12_back_8) (fun φ1 ρ1 hc => ?_)
  refine x_widen (k' := 0) (n' := 0) (Nat.le_of_ble_eq_true rfl) (Nat.le_of_ble_eq_true rfl) ?_
  obtain ⟨hc1, hc2, hc3⟩ := hc
  refine x_aload_n hE dX12_back_11 rfl 0 rfl ?_
  refine h_getr hE hM rfl inZX12 0 (by decide) q1394 rfl dX12_back_12 ?_
  refine x_iconst (v := 2) hE dX12_back_15 (by decide) ?_
  refine h_ialdL (iN := 2) hE hr0 (by decide) (by decide) (by omega) dX12_back_16 ?_
  refine x_norm (y := 0) (by rw [hc3 2 (by omega)]; exact (h1 2 (by omega)).trans (by decide)) ?_
  exact hret _ _ _ _ _ _ _ _ (0) (Nat.le_of_ble_eq_true rfl) (Nat.le_of_ble_eq_true rfl) dX12_back_17 (rfl) (rfl)
