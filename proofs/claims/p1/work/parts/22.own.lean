theorem dX11_by_0 : decode cX11_by 0 = .ok (.iload_n 1, 1) := by decide +kernel
theorem dX11_by_1 : decode cX11_by 1 = .ok (.iconst (-1), 1) := by decide +kernel
theorem dX11_by_2 : decode cX11_by 2 = .ok (.if_icmp .eq 16, 3) := by decide +kernel
theorem dX11_by_5 : decode cX11_by 5 = .ok (.aload_n 0, 1) := by decide +kernel
theorem dX11_by_6 : decode cX11_by 6 = .ok (.getfield 10, 3) := by decide +kernel
theorem dX11_by_9 : decode cX11_by 9 = .ok (.iload_n 1, 1) := by decide +kernel
theorem dX11_by_10 : decode cX11_by 10 = .ok (.invokevirtual 131, 3) := by decide +kernel
theorem dX11_by_13 : decode cX11_by 13 = .ok (.ifCond .ne 5, 3) := by decide +kernel
theorem dX11_by_16 : decode cX11_by 16 = .ok (.iconst 0, 1) := by decide +kernel
theorem dX11_by_17 : decode cX11_by 17 = .ok (.ireturn, 1) := by decide +kernel
theorem dX11_by_18 : decode cX11_by 18 = .ok (.aload_n 0, 1) := by decide +kernel
theorem dX11_by_19 : decode cX11_by 19 = .ok (.getfield 10, 3) := by decide +kernel
theorem dX11_by_22 : decode cX11_by 22 = .ok (.iload_n 1, 1) := by decide +kernel
theorem dX11_by_23 : decode cX11_by 23 = .ok (.putfield 134, 3) := by decide +kernel
theorem dX11_by_26 : decode cX11_by 26 = .ok (.iconst 1, 1) := by decide +kernel
theorem dX11_by_27 : decode cX11_by 27 = .ok (.ireturn, 1) := by decide +kernel
theorem dX11_cross_0 : decode cX11_cross 0 = .ok (.aload_n 0, 1) := by decide +kernel
theorem dX11_cross_1 : decode cX11_cross 1 = .ok (.getfield 10, 3) := by decide +kernel
theorem dX11_cross_4 : decode cX11_cross 4 = .ok (.getfield 60, 3) := by decide +kernel
theorem dX11_cross_7 : decode cX11_cross 7 = .ok (.iload_n 1, 1) := by decide +kernel
theorem dX11_cross_8 : decode cX11_cross 8 = .ok (.invokevirtual 78, 3) := by decide +kernel
theorem dX11_cross_11 : decode cX11_cross 11 = .ok (.ifCond .eq 28, 3) := by decide +kernel
theorem dX11_cross_39 : decode cX11_cross 39 = .ok (.iconst (-1), 1) := by decide +kernel
theorem dX11_cross_40 : decode cX11_cross 40 = .ok (.ireturn, 1) := by decide +kernel
theorem dX11_fault_0 : decode cX11_fault 0 = .ok (.iload_n 1, 1) := by decide +kernel
theorem dX11_fault_1 : decode cX11_fault 1 = .ok (.ifCond .ne 11, 3) := by decide +kernel
theorem dX11_fault_4 : decode cX11_fault 4 = .ok (.aload_n 0, 1) := by decide +kernel
theorem dX11_fault_5 : decode cX11_fault 5 = .ok (.getfield 31, 3) := by decide +kernel
theorem dX11_fault_8 : decode cX11_fault 8 = .ok (.getfield 125, 3) := by decide +kernel
theorem dX11_fault_11 : decode cX11_fault 11 = .ok (.ireturn, 1) := by decide +kernel
theorem dX11_fault_12 : decode cX11_fault 12 = .ok (.iload_n 1, 1) := by decide +kernel
theorem dX11_fault_13 : decode cX11_fault 13 = .ok (.iconst 1, 1) := by decide +kernel
theorem dX11_fault_14 : decode cX11_fault 14 = .ok (.if_icmp .ne 13, 3) := by decide +kernel
theorem dX11_fault_17 : decode cX11_fault 17 = .ok (.aload_n 0, 1) := by decide +kernel
theorem dX11_fault_18 : decode cX11_fault 18 = .ok (.getfield 31, 3) := by decide +kernel
theorem dX11_fault_21 : decode cX11_fault 21 = .ok (.getfield 128, 3) := by decide +kernel
theorem dX11_fault_24 : decode cX11_fault 24 = .ok (.goto 4, 3) := by decide +kernel
theorem dX11_fault_27 : decode cX11_fault 27 = .ok (.iconst (-1), 1) := by decide +kernel
theorem dX11_fault_28 : decode cX11_fault 28 = .ok (.ireturn, 1) := by decide +kernel
theorem dX11_foretoldCloud_0 : decode cX11_foretoldCloud 0 = .ok (.iload_n 1, 1) := by decide +kernel
theorem dX11_foretoldCloud_1 : decode cX11_foretoldCloud 1 = .ok (.iconst 1, 1) := by decide +kernel
theorem dX11_foretoldCloud_2 : decode cX11_foretoldCloud 2 = .ok (.bipush 30, 2) := by decide +kernel
theorem dX11_foretoldCloud_4 : decode cX11_foretoldCloud 4 = .ok (.invokestatic 64, 3) := by decide +kernel
theorem dX11_foretoldCloud_7 : decode cX11_foretoldCloud 7 = .ok (.ifCond .eq 17, 3) := by decide +kernel
theorem dX11_foretoldCloud_10 : decode cX11_foretoldCloud 10 = .ok (.aload_n 0, 1) := by decide +kernel
theorem dX11_foretoldCloud_11 : decode cX11_foretoldCloud 11 = .ok (.getfield 10, 3) := by decide +kernel
theorem dX11_foretoldCloud_14 : decode cX11_foretoldCloud 14 = .ok (.getfield 60, 3) := by decide +kernel
theorem dX11_foretoldCloud_17 : decode cX11_foretoldCloud 17 = .ok (.iload_n 2, 1) := by decide +kernel
theorem dX11_foretoldCloud_18 : decode cX11_foretoldCloud 18 = .ok (.invokevirtual 147, 3) := by decide +kernel
theorem dX11_foretoldCloud_21 : decode cX11_foretoldCloud 21 = .ok (.ifCond .ne 5, 3) := by decide +kernel
theorem dX11_foretoldCloud_24 : decode cX11_foretoldCloud 24 = .ok (.iconst (-1), 1) := by decide +kernel
theorem dX11_foretoldCloud_25 : decode cX11_foretoldCloud 25 = .ok (.ireturn, 1) := by decide +kernel
theorem dX11_foretoldWet_0 : decode cX11_foretoldWet 0 = .ok (.iload_n 1, 1) := by decide +kernel
theorem dX11_foretoldWet_1 : decode cX11_foretoldWet 1 = .ok (.iconst 1, 1) := by decide +kernel
theorem dX11_foretoldWet_2 : decode cX11_foretoldWet 2 = .ok (.bipush 30, 2) := by decide +kernel
theorem dX11_foretoldWet_4 : decode cX11_foretoldWet 4 = .ok (.invokestatic 64, 3) := by decide +kernel
theorem dX11_foretoldWet_7 : decode cX11_foretoldWet 7 = .ok (.ifCond .eq 17, 3) := by decide +kernel
theorem dX11_foretoldWet_10 : decode cX11_foretoldWet 10 = .ok (.aload_n 0, 1) := by decide +kernel
theorem dX11_foretoldWet_11 : decode cX11_foretoldWet 11 = .ok (.getfield 10, 3) := by decide +kernel
theorem dX11_foretoldWet_14 : decode cX11_foretoldWet 14 = .ok (.getfield 60, 3) := by decide +kernel
theorem dX11_foretoldWet_17 : decode cX11_foretoldWet 17 = .ok (.iload_n 2, 1) := by decide +kernel
theorem dX11_foretoldWet_18 : decode cX11_foretoldWet 18 = .ok (.invokevirtual 78, 3) := by decide +kernel
theorem dX11_foretoldWet_21 : decode cX11_foretoldWet 21 = .ok (.ifCond .ne 5, 3) := by decide +kernel
theorem dX11_foretoldWet_24 : decode cX11_foretoldWet 24 = .ok (.iconst (-1), 1) := by decide +kernel
theorem dX11_foretoldWet_25 : decode cX11_foretoldWet 25 = .ok (.ireturn, 1) := by decide +kernel
theorem dX11_go_0 : decode cX11_go 0 = .ok (.aload_n 0, 1) := by decide +kernel
theorem dX11_go_1 : decode cX11_go 1 = .ok (.getfield 10, 3) := by decide +kernel
theorem dX11_go_4 : decode cX11_go 4 = .ok (.iload_n 1, 1) := by decide +kernel
theorem dX11_go_5 : decode cX11_go 5 = .ok (.iload_n 2, 1) := by decide +kernel
theorem dX11_go_6 : decode cX11_go 6 = .ok (.invokevirtual 154, 3) := by decide +kernel
theorem dX11_go_9 : decode cX11_go 9 = .ok (.ifCond .ne 5, 3) := by decide +kernel
theorem dX11_go_12 : decode cX11_go 12 = .ok (.iconst 0, 1) := by decide +kernel
theorem dX11_go_13 : decode cX11_go 13 = .ok (.ireturn, 1) := by decide +kernel
theorem dX11_missing_0 : decode cX11_missing 0 = .ok (.aload_n 0, 1) := by decide +kernel
theorem dX11_missing_1 : decode cX11_missing 1 = .ok (.getfield 10, 3) := by decide +kernel
theorem dX11_missing_4 : decode cX11_missing 4 = .ok (.getfield 343, 3) := by decide +kernel
theorem dX11_missing_7 : decode cX11_missing 7 = .ok (.astore 4, 2) := by decide +kernel
theorem dX11_missing_9 : decode cX11_missing 9 = .ok (.iload_n 1, 1) := by decide +kernel
theorem dX11_missing_10 : decode cX11_missing 10 = .ok (.iconst (-1), 1) := by decide +kernel
theorem dX11_missing_11 : decode cX11_missing 11 = .ok (.if_icmp .ne 11, 3) := by decide +kernel
theorem dX11_missing_14 : decode cX11_missing 14 = .ok (.aload 4, 2) := by decide +kernel
theorem dX11_missing_16 : decode cX11_missing 16 = .ok (.iconst 0, 1) := by decide +kernel
theorem dX11_missing_17 : decode cX11_missing 17 = .ok (.putfield 347, 3) := by decide +kernel
theorem dX11_missing_20 : decode cX11_missing 20 = .ok (.iconst 0, 1) := by decide +kernel
theorem dX11_missing_21 : decode cX11_missing 21 = .ok (.ireturn, 1) := by decide +kernel
theorem dX11_missing_22 : decode cX11_missing 22 = .ok (.aload_n 0, 1) := by decide +kernel
theorem dX11_missing_23 : decode cX11_missing 23 = .ok (.getfield 10, 3) := by decide +kernel
theorem dX11_missing_26 : decode cX11_missing 26 = .ok (.getfield 60, 3) := by decide +kernel
theorem dX11_missing_29 : decode cX11_missing 29 = .ok (.iload_n 1, 1) := by decide +kernel
theorem dX11_missing_30 : decode cX11_missing 30 = .ok (.invokevirtual 147, 3) := by decide +kernel
theorem dX11_missing_33 : decode cX11_missing 33 = .ok (.ifCond .eq 29, 3) := by decide +kernel
theorem dX11_missing_62 : decode cX11_missing 62 = .ok (.bipush (-2), 2) := by decide +kernel
theorem dX11_missing_64 : decode cX11_missing 64 = .ok (.ireturn, 1) := by decide +kernel
theorem dX11_ofField_0 : decode cX11_ofField 0 = .ok (.aload_n 0, 1) := by decide +kernel
theorem dX11_ofField_1 : decode cX11_ofField 1 = .ok (.getfield 10, 3) := by decide +kernel
theorem dX11_ofField_4 : decode cX11_ofField 4 = .ok (.getfield 60, 3) := by decide +kernel
theorem dX11_ofField_7 : decode cX11_ofField 7 = .ok (.astore_n 3, 1) := by decide +kernel
theorem dX11_ofField_8 : decode cX11_ofField 8 = .ok (.aload_n 0, 1) := by decide +kernel
theorem dX11_ofField_9 : decode cX11_ofField 9 = .ok (.getfield 10, 3) := by decide +kernel
theorem dX11_ofField_12 : decode cX11_ofField 12 = .ok (.getfield 97, 3) := by decide +kernel
theorem dX11_ofField_15 : decode cX11_ofField 15 = .ok (.astore 4, 2) := by decide +kernel
theorem dX11_ofField_17 : decode cX11_ofField 17 = .ok (.aload_n 3, 1) := by decide +kernel
theorem dX11_ofField_18 : decode cX11_ofField 18 = .ok (.iload_n 1, 1) := by decide +kernel
theorem dX11_ofField_19 : decode cX11_ofField 19 = .ok (.invokevirtual 78, 3) := by decide +kernel
theorem dX11_ofField_22 : decode cX11_ofField 22 = .ok (.ifCond .ne 5, 3) := by decide +kernel
theorem dX11_ofField_25 : decode cX11_ofField 25 = .ok (.iconst (-1), 1) := by decide +kernel
theorem dX11_ofField_26 : decode cX11_ofField 26 = .ok (.ireturn, 1) := by decide +kernel
theorem dX11_ofPerson_0 : decode cX11_ofPerson 0 = .ok (.aload_n 0, 1) := by decide +kernel
theorem dX11_ofPerson_1 : decode cX11_ofPerson 1 = .ok (.getfield 10, 3) := by decide +kernel
theorem dX11_ofPerson_4 : decode cX11_ofPerson 4 = .ok (.getfield 60, 3) := by decide +kernel
theorem dX11_ofPerson_7 : decode cX11_ofPerson 7 = .ok (.astore_n 3, 1) := by decide +kernel
theorem dX11_ofPerson_8 : decode cX11_ofPerson 8 = .ok (.aload_n 0, 1) := by decide +kernel
theorem dX11_ofPerson_9 : decode cX11_ofPerson 9 = .ok (.getfield 10, 3) := by decide +kernel
theorem dX11_ofPerson_12 : decode cX11_ofPerson 12 = .ok (.getfield 97, 3) := by decide +kernel
theorem dX11_ofPerson_15 : decode cX11_ofPerson 15 = .ok (.astore 4, 2) := by decide +kernel
theorem dX11_ofPerson_17 : decode cX11_ofPerson 17 = .ok (.aload_n 3, 1) := by decide +kernel
theorem dX11_ofPerson_18 : decode cX11_ofPerson 18 = .ok (.iload_n 1, 1) := by decide +kernel
theorem dX11_ofPerson_19 : decode cX11_ofPerson 19 = .ok (.invokevirtual 147, 3) := by decide +kernel
theorem dX11_ofPerson_22 : decode cX11_ofPerson 22 = .ok (.ifCond .ne 6, 3) := by decide +kernel
theorem dX11_ofPerson_25 : decode cX11_ofPerson 25 = .ok (.bipush (-2), 2) := by decide +kernel
theorem dX11_ofPerson_27 : decode cX11_ofPerson 27 = .ok (.ireturn, 1) := by decide +kernel
theorem dX11_person_0 : decode cX11_person 0 = .ok (.aload_n 0, 1) := by decide +kernel
theorem dX11_person_1 : decode cX11_person 1 = .ok (.getfield 10, 3) := by decide +kernel
theorem dX11_person_4 : decode cX11_person 4 = .ok (.getfield 60, 3) := by decide +kernel
theorem dX11_person_7 : decode cX11_person 7 = .ok (.astore 5, 2) := by decide +kernel
theorem dX11_person_9 : decode cX11_person 9 = .ok (.iload_n 1, 1) := by decide +kernel
theorem dX11_person_10 : decode cX11_person 10 = .ok (.iconst 1, 1) := by decide +kernel
theorem dX11_person_11 : decode cX11_person 11 = .ok (.bipush 99, 2) := by decide +kernel
theorem dX11_person_13 : decode cX11_person 13 = .ok (.invokestatic 64, 3) := by decide +kernel
theorem dX11_person_16 : decode cX11_person 16 = .ok (.ifCond .eq 38, 3) := by decide +kernel
theorem dX11_person_19 : decode cX11_person 19 = .ok (.iload_n 2, 1) := by decide +kernel
theorem dX11_person_20 : decode cX11_person 20 = .ok (.iconst 0, 1) := by decide +kernel
theorem dX11_person_21 : decode cX11_person 21 = .ok (.bipush 99, 2) := by decide +kernel
theorem dX11_person_23 : decode cX11_person 23 = .ok (.invokestatic 64, 3) := by decide +kernel
theorem dX11_person_26 : decode cX11_person 26 = .ok (.ifCond .eq 28, 3) := by decide +kernel
theorem dX11_person_29 : decode cX11_person 29 = .ok (.aload 5, 2) := by decide +kernel
theorem dX11_person_31 : decode cX11_person 31 = .ok (.iload_n 3, 1) := by decide +kernel
theorem dX11_person_32 : decode cX11_person 32 = .ok (.invokevirtual 78, 3) := by decide +kernel
theorem dX11_person_35 : decode cX11_person 35 = .ok (.ifCond .eq 19, 3) := by decide +kernel
theorem dX11_person_54 : decode cX11_person 54 = .ok (.iconst 0, 1) := by decide +kernel
theorem dX11_person_55 : decode cX11_person 55 = .ok (.istore 6, 2) := by decide +kernel
theorem dX11_person_57 : decode cX11_person 57 = .ok (.iload 6, 2) := by decide +kernel
theorem dX11_person_59 : decode cX11_person 59 = .ok (.ifCond .eq 13, 3) := by decide +kernel
theorem dX11_person_72 : decode cX11_person 72 = .ok (.iconst (-1), 1) := by decide +kernel
theorem dX11_person_73 : decode cX11_person 73 = .ok (.ireturn, 1) := by decide +kernel
theorem dX11_plan_0 : decode cX11_plan 0 = .ok (.aload_n 0, 1) := by decide +kernel
theorem dX11_plan_1 : decode cX11_plan 1 = .ok (.getfield 10, 3) := by decide +kernel
theorem dX11_plan_4 : decode cX11_plan 4 = .ok (.getfield 60, 3) := by decide +kernel
theorem dX11_plan_7 : decode cX11_plan 7 = .ok (.iload_n 1, 1) := by decide +kernel
theorem dX11_plan_8 : decode cX11_plan 8 = .ok (.invokevirtual 147, 3) := by decide +kernel
theorem dX11_plan_11 : decode cX11_plan 11 = .ok (.ifCond .eq 23, 3) := by decide +kernel
theorem dX11_plan_34 : decode cX11_plan 34 = .ok (.iconst (-1), 1) := by decide +kernel
theorem dX11_plan_35 : decode cX11_plan 35 = .ok (.ireturn, 1) := by decide +kernel
theorem dX11_played_0 : decode cX11_played 0 = .ok (.aload_n 0, 1) := by decide +kernel
theorem dX11_played_1 : decode cX11_played 1 = .ok (.getfield 10, 3) := by decide +kernel
theorem dX11_played_4 : decode cX11_played 4 = .ok (.iload_n 1, 1) := by decide +kernel
theorem dX11_played_5 : decode cX11_played 5 = .ok (.invokevirtual 131, 3) := by decide +kernel
theorem dX11_played_8 : decode cX11_played 8 = .ok (.ifCond .ne 6, 3) := by decide +kernel
theorem dX11_played_11 : decode cX11_played 11 = .ok (.bipush (-2), 2) := by decide +kernel
theorem dX11_played_13 : decode cX11_played 13 = .ok (.ireturn, 1) := by decide +kernel
theorem dX11_pour_0 : decode cX11_pour 0 = .ok (.aload_n 0, 1) := by decide +kernel
theorem dX11_pour_1 : decode cX11_pour 1 = .ok (.getfield 10, 3) := by decide +kernel
theorem dX11_pour_4 : decode cX11_pour 4 = .ok (.getfield 97, 3) := by decide +kernel
theorem dX11_pour_7 : decode cX11_pour 7 = .ok (.astore_n 3, 1) := by decide +kernel
theorem dX11_pour_8 : decode cX11_pour 8 = .ok (.iload_n 1, 1) := by decide +kernel
theorem dX11_pour_9 : decode cX11_pour 9 = .ok (.iconst 1, 1) := by decide +kernel
theorem dX11_pour_10 : decode cX11_pour 10 = .ok (.sipush 999, 3) := by decide +kernel
theorem dX11_pour_13 : decode cX11_pour 13 = .ok (.invokestatic 64, 3) := by decide +kernel
theorem dX11_pour_16 : decode cX11_pour 16 = .ok (.ifCond .eq 25, 3) := by decide +kernel
theorem dX11_pour_19 : decode cX11_pour 19 = .ok (.iload_n 1, 1) := by decide +kernel
theorem dX11_pour_20 : decode cX11_pour 20 = .ok (.aload_n 3, 1) := by decide +kernel
theorem dX11_pour_21 : decode cX11_pour 21 = .ok (.getfield 176, 3) := by decide +kernel
theorem dX11_pour_24 : decode cX11_pour 24 = .ok (.if_icmp .gt 17, 3) := by decide +kernel
theorem dX11_pour_27 : decode cX11_pour 27 = .ok (.aload_n 0, 1) := by decide +kernel
theorem dX11_pour_28 : decode cX11_pour 28 = .ok (.getfield 10, 3) := by decide +kernel
theorem dX11_pour_31 : decode cX11_pour 31 = .ok (.getfield 60, 3) := by decide +kernel
theorem dX11_pour_34 : decode cX11_pour 34 = .ok (.iload_n 2, 1) := by decide +kernel
theorem dX11_pour_35 : decode cX11_pour 35 = .ok (.invokevirtual 78, 3) := by decide +kernel
theorem dX11_pour_38 : decode cX11_pour 38 = .ok (.ifCond .ne 5, 3) := by decide +kernel
theorem dX11_pour_41 : decode cX11_pour 41 = .ok (.iconst (-1), 1) := by decide +kernel
theorem dX11_pour_42 : decode cX11_pour 42 = .ok (.ireturn, 1) := by decide +kernel
theorem dX11_road_0 : decode cX11_road 0 = .ok (.aload_n 0, 1) := by decide +kernel
theorem dX11_road_1 : decode cX11_road 1 = .ok (.getfield 10, 3) := by decide +kernel
theorem dX11_road_4 : decode cX11_road 4 = .ok (.getfield 60, 3) := by decide +kernel
theorem dX11_road_7 : decode cX11_road 7 = .ok (.astore_n 3, 1) := by decide +kernel
theorem dX11_road_8 : decode cX11_road 8 = .ok (.aload_n 3, 1) := by decide +kernel
theorem dX11_road_9 : decode cX11_road 9 = .ok (.iload_n 1, 1) := by decide +kernel
theorem dX11_road_10 : decode cX11_road 10 = .ok (.invokevirtual 78, 3) := by decide +kernel
theorem dX11_road_13 : decode cX11_road 13 = .ok (.ifCond .eq 25, 3) := by decide +kernel
theorem dX11_road_38 : decode cX11_road 38 = .ok (.iconst 0, 1) := by decide +kernel
theorem dX11_road_39 : decode cX11_road 39 = .ok (.ireturn, 1) := by decide +kernel
theorem dX11_shake_0 : decode cX11_shake 0 = .ok (.aload_n 0, 1) := by decide +kernel
theorem dX11_shake_1 : decode cX11_shake 1 = .ok (.getfield 10, 3) := by decide +kernel
theorem dX11_shake_4 : decode cX11_shake 4 = .ok (.iload_n 1, 1) := by decide +kernel
theorem dX11_shake_5 : decode cX11_shake 5 = .ok (.iload_n 2, 1) := by decide +kernel
theorem dX11_shake_6 : decode cX11_shake 6 = .ok (.invokevirtual 160, 3) := by decide +kernel
theorem dX11_shake_9 : decode cX11_shake 9 = .ok (.ifCond .ne 5, 3) := by decide +kernel
theorem dX11_shake_12 : decode cX11_shake 12 = .ok (.iconst (-1), 1) := by decide +kernel
theorem dX11_shake_13 : decode cX11_shake 13 = .ok (.ireturn, 1) := by decide +kernel
theorem dX11_steal_0 : decode cX11_steal 0 = .ok (.aload_n 0, 1) := by decide +kernel
theorem dX11_steal_1 : decode cX11_steal 1 = .ok (.getfield 10, 3) := by decide +kernel
theorem dX11_steal_4 : decode cX11_steal 4 = .ok (.iload_n 1, 1) := by decide +kernel
theorem dX11_steal_5 : decode cX11_steal 5 = .ok (.iload_n 2, 1) := by decide +kernel
theorem dX11_steal_6 : decode cX11_steal 6 = .ok (.iload_n 3, 1) := by decide +kernel
theorem dX11_steal_7 : decode cX11_steal 7 = .ok (.invokevirtual 170, 3) := by decide +kernel
theorem dX11_steal_10 : decode cX11_steal 10 = .ok (.ifCond .ne 5, 3) := by decide +kernel
theorem dX11_steal_13 : decode cX11_steal 13 = .ok (.iconst (-1), 1) := by decide +kernel
theorem dX11_steal_14 : decode cX11_steal 14 = .ok (.ireturn, 1) := by decide +kernel
theorem dX11_undo_0 : decode cX11_undo 0 = .ok (.aload_n 0, 1) := by decide +kernel
theorem dX11_undo_1 : decode cX11_undo 1 = .ok (.getfield 10, 3) := by decide +kernel
theorem dX11_undo_4 : decode cX11_undo 4 = .ok (.invokevirtual 246, 3) := by decide +kernel
theorem dX11_undo_7 : decode cX11_undo 7 = .ok (.ireturn, 1) := by decide +kernel
theorem dX11_water_0 : decode cX11_water 0 = .ok (.aload_n 0, 1) := by decide +kernel
theorem dX11_water_1 : decode cX11_water 1 = .ok (.getfield 10, 3) := by decide +kernel
theorem dX11_water_4 : decode cX11_water 4 = .ok (.getfield 97, 3) := by decide +kernel
theorem dX11_water_7 : decode cX11_water 7 = .ok (.astore_n 1, 1) := by decide +kernel
theorem dX11_water_8 : decode cX11_water 8 = .ok (.aload_n 1, 1) := by decide +kernel
theorem dX11_water_9 : decode cX11_water 9 = .ok (.getfield 176, 3) := by decide +kernel
theorem dX11_water_12 : decode cX11_water 12 = .ok (.aload_n 1, 1) := by decide +kernel
theorem dX11_water_13 : decode cX11_water 13 = .ok (.getfield 403, 3) := by decide +kernel
theorem dX11_water_16 : decode cX11_water 16 = .ok (.iadd, 1) := by decide +kernel
theorem dX11_water_17 : decode cX11_water 17 = .ok (.aload_n 1, 1) := by decide +kernel
theorem dX11_water_18 : decode cX11_water 18 = .ok (.getfield 406, 3) := by decide +kernel
theorem dX11_water_21 : decode cX11_water 21 = .ok (.isub, 1) := by decide +kernel
theorem dX11_water_22 : decode cX11_water 22 = .ok (.istore_n 2, 1) := by decide +kernel
theorem dX11_water_23 : decode cX11_water 23 = .ok (.iconst 0, 1) := by decide +kernel
theorem dX11_water_24 : decode cX11_water 24 = .ok (.istore_n 3, 1) := by decide +kernel
theorem dX11_water_25 : decode cX11_water 25 = .ok (.iload_n 3, 1) := by decide +kernel
theorem dX11_water_26 : decode cX11_water 26 = .ok (.aload_n 0, 1) := by decide +kernel
theorem dX11_water_27 : decode cX11_water 27 = .ok (.getfield 10, 3) := by decide +kernel
theorem dX11_water_30 : decode cX11_water 30 = .ok (.getfield 60, 3) := by decide +kernel
theorem dX11_water_33 : decode cX11_water 33 = .ok (.getfield 90, 3) := by decide +kernel
theorem dX11_water_36 : decode cX11_water 36 = .ok (.if_icmp .ge 18, 3) := by decide +kernel
theorem dX11_water_54 : decode cX11_water 54 = .ok (.iconst 0, 1) := by decide +kernel
theorem dX11_water_55 : decode cX11_water 55 = .ok (.istore_n 3, 1) := by decide +kernel
theorem dX11_water_56 : decode cX11_water 56 = .ok (.iload_n 3, 1) := by decide +kernel
theorem dX11_water_57 : decode cX11_water 57 = .ok (.aload_n 0, 1) := by decide +kernel
theorem dX11_water_58 : decode cX11_water 58 = .ok (.getfield 10, 3) := by decide +kernel
theorem dX11_water_61 : decode cX11_water 61 = .ok (.getfield 60, 3) := by decide +kernel
theorem dX11_water_64 : decode cX11_water 64 = .ok (.getfield 68, 3) := by decide +kernel
theorem dX11_water_67 : decode cX11_water 67 = .ok (.if_icmp .ge 18, 3) := by decide +kernel
theorem dX11_water_85 : decode cX11_water 85 = .ok (.iload_n 2, 1) := by decide +kernel
theorem dX11_water_86 : decode cX11_water 86 = .ok (.ireturn, 1) := by decide +kernel
theorem dX11_widest_0 : decode cX11_widest 0 = .ok (.aload_n 0, 1) := by decide +kernel
theorem dX11_widest_1 : decode cX11_widest 1 = .ok (.getfield 10, 3) := by decide +kernel
theorem dX11_widest_4 : decode cX11_widest 4 = .ok (.getfield 60, 3) := by decide +kernel
theorem dX11_widest_7 : decode cX11_widest 7 = .ok (.iload_n 1, 1) := by decide +kernel
theorem dX11_widest_8 : decode cX11_widest 8 = .ok (.invokevirtual 78, 3) := by decide +kernel
theorem dX11_widest_11 : decode cX11_widest 11 = .ok (.ifCond .eq 17, 3) := by decide +kernel
theorem dX11_widest_28 : decode cX11_widest 28 = .ok (.iconst (-1), 1) := by decide +kernel
theorem dX11_widest_29 : decode cX11_widest 29 = .ok (.ireturn, 1) := by decide +kernel
theorem dX11_work_0 : decode cX11_work 0 = .ok (.aload_n 0, 1) := by decide +kernel
theorem dX11_work_1 : decode cX11_work 1 = .ok (.getfield 10, 3) := by decide +kernel
theorem dX11_work_4 : decode cX11_work 4 = .ok (.getfield 60, 3) := by decide +kernel
theorem dX11_work_7 : decode cX11_work 7 = .ok (.iload_n 1, 1) := by decide +kernel
theorem dX11_work_8 : decode cX11_work 8 = .ok (.invokevirtual 147, 3) := by decide +kernel
theorem dX11_work_11 : decode cX11_work 11 = .ok (.ifCond .eq 29, 3) := by decide +kernel
theorem dX11_work_40 : decode cX11_work 40 = .ok (.iconst 0, 1) := by decide +kernel
theorem dX11_work_41 : decode cX11_work 41 = .ok (.ireturn, 1) := by decide +kernel
theorem dX11_year_0 : decode cX11_year 0 = .ok (.iload_n 1, 1) := by decide +kernel
theorem dX11_year_1 : decode cX11_year 1 = .ok (.iconst 0, 1) := by decide +kernel
theorem dX11_year_2 : decode cX11_year 2 = .ok (.sipush 9999, 3) := by decide +kernel
theorem dX11_year_5 : decode cX11_year 5 = .ok (.invokestatic 64, 3) := by decide +kernel
theorem dX11_year_8 : decode cX11_year 8 = .ok (.ifCond .eq 27, 3) := by decide +kernel
theorem dX11_year_11 : decode cX11_year 11 = .ok (.iload_n 2, 1) := by decide +kernel
theorem dX11_year_12 : decode cX11_year 12 = .ok (.iconst 1, 1) := by decide +kernel
theorem dX11_year_13 : decode cX11_year 13 = .ok (.bipush 30, 2) := by decide +kernel
theorem dX11_year_15 : decode cX11_year 15 = .ok (.invokestatic 64, 3) := by decide +kernel
theorem dX11_year_18 : decode cX11_year 18 = .ok (.ifCond .eq 17, 3) := by decide +kernel
theorem dX11_year_21 : decode cX11_year 21 = .ok (.aload_n 0, 1) := by decide +kernel
theorem dX11_year_22 : decode cX11_year 22 = .ok (.getfield 10, 3) := by decide +kernel
theorem dX11_year_25 : decode cX11_year 25 = .ok (.getfield 60, 3) := by decide +kernel
theorem dX11_year_28 : decode cX11_year 28 = .ok (.getfield 90, 3) := by decide +kernel
theorem dX11_year_31 : decode cX11_year 31 = .ok (.iconst 1, 1) := by decide +kernel
theorem dX11_year_32 : decode cX11_year 32 = .ok (.if_icmp .ge 5, 3) := by decide +kernel
theorem dX11_year_35 : decode cX11_year 35 = .ok (.iconst (-1), 1) := by decide +kernel
theorem dX11_year_36 : decode cX11_year 36 = .ok (.ireturn, 1) := by decide +kernel
set_option maxHeartbeats 4000000 in
set_option maxRecDepth 100000 in
theorem o_road (l : Launch) (D : va_G) (cy : Nat → ClassId) (L : List Nat) (σ : Nat → va_E) (φ : Nat → Nat → Nat → Int32) (ρ : Nat → Nat → Int32) {x : Nat} (a : Int32) (b : Int32) (hx : zOR cy L σ φ x) : zMI l D cy yX11_road cX11_road 4 .boolean (zrm 3 0 0) [.ref x, .int a, .int b] L σ φ ρ (fun r _ => r = 0) := by
  refine zMI.mk (by decide) (Nat.le_of_ble_eq_true rfl) (fun E hE hret => ?_)
  show zW E 0 0 L σ φ ρ 0 [(0, .ref x), (1, .int a), (2, .int b)] []
  obtain ⟨now, kept, tape, reader, weather, planner, ways, la, wo, sp, li, te, g, la', wo', sp', li', te', g', hx, hs, hs0, hk, hk0, htp, htp0, hrd, hrd0, hrd1, hwe, hwe0, hpl, hwy⟩ := hx
  obtain ⟨hn, hla, hwo, hsp, hli, hte⟩ := id hs
  obtain ⟨p45, p46, p00, p01, p10, p50, p51, pl0, pl1, pl2, pg⟩ := id hs0
  obtain ⟨f0, f1, f2, f3, f4, f5, f6, f7, hL, hL0, hL1, hL2, hL3, hL4, hL5, hL6, hL7⟩ := id hla
  obtain ⟨w0, w1, w2, w3, w4, w5, w6, w7, hW, hW0, hW1, hW2, hW3, hW4, hW5, hW6, hW7⟩ := id hwo
  obtain ⟨s0, s1, hSp, hSp0, hSp1, hSpW⟩ := id hsp
  obtain ⟨i0, i1, i2, i3, i4, i5, i6, i7, hLi, hLi0, hLi1, hLi2, hLi3, hLi4, hLi5, hLi6, hLi7⟩ := id hli
  obtain ⟨t0, t1, t2, t3, hTp, hTp0, hTp1, hTp2, hTp3, hTn1, hTn2⟩ := id htp
  refine x_aload_n hE dX11_road_0 rfl 0 rfl ?_
  refine h_getr hE hx rfl inZX11 0 (by decide) q556 rfl dX11_road_1 ?_
  refine h_getr hE hn rfl inZX4 0 (by decide) q362 rfl dX11_road_4 ?_
  refine x_astore_n (lv' := [(3, .ref la), (0, .ref x), (1, .int a), (2, .int b)]) hE dX11_road_7 rfl (by decide) rfl ?_
  refine x_aload_n hE dX11_road_8 rfl 0 rfl ?_
  refine x_iload_n hE dX11_road_9 rfl 2 rfl ?_
  refine c_ip hE (r_V (st := []) hE (k_hasField l D cy L σ φ ρ (a) hL) q593 q594 q595 q115 q596 hL rfl ⟨by decide, by decide, pn_X0_hasField⟩ ⟨Nat.le_of_ble_eq_true rfl, Nat.le_of_ble_eq_true rfl⟩ ⟨Nat.le_of_ble_eq_true rfl, Nat.le_of_ble_eq_true rfl⟩ rfl (Nat.le_of_ble_eq_true rfl) dX11_road_10) (fun r10 h10 => ?_)
  refine x_widen (k' := 0) (n' := 0) (Nat.le_of_ble_eq_true rfl) (Nat.le_of_ble_eq_true rfl) ?_
  refine x_norm (y := 0) (h10.trans (zb_f (fun e => z_le_nlt e.1 (p00 ▸ e.2)))) ?_
  refine x_if_eq (tgt := 38) hE dX11_road_13 (by decide) (fun c_13 => ?_) (fun c_13 => absurd (by decide) c_13)
  refine x_iconst (v := 0) hE dX11_road_38 (by decide) ?_
  exact hret _ _ _ _ _ _ _ _ (0) (Nat.le_of_ble_eq_true rfl) (Nat.le_of_ble_eq_true rfl) dX11_road_39 (rfl) (by grind [zb])
set_option maxHeartbeats 4000000 in
set_option maxRecDepth 100000 in
theorem o_person (l : Launch) (D : va_G) (cy : Nat → ClassId) (L : List Nat) (σ : Nat → va_E) (φ : Nat → Nat → Nat → Int32) (ρ : Nat → Nat → Int32) {x : Nat} (a : Int32) (b : Int32) (c : Int32) (d : Int32) (hx : zOR cy L σ φ x) : zMI l D cy yX11_person cX11_person 8 .int (zrm 3 0 0) [.ref x, .int a, .int b, .int c, .int d] L σ φ ρ (fun r _ => r = -1) := by
  refine zMI.mk (by decide) (Nat.le_of_ble_eq_true rfl) (fun E hE hret => ?_)
  show zW E 0 0 L σ φ ρ 0 [(0, .ref x), (1, .int a), (2, .int b), (3, .int c), (4, .int d)] []
  obtain ⟨now, kept, tape, reader, weather, planner, ways, la, wo, sp, li, te, g, la', wo', sp', li', te', g', hx, hs, hs0, hk, hk0, htp, htp0, hrd, hrd0, hrd1, hwe, hwe0, hpl, hwy⟩ := hx
  obtain ⟨hn, hla, hwo, hsp, hli, hte⟩ := id hs
  obtain ⟨p45, p46, p00, p01, p10, p50, p51, pl0, pl1, pl2, pg⟩ := id hs0
  obtain ⟨f0, f1, f2, f3, f4, f5, f6, f7, hL, hL0, hL1, hL2, hL3, hL4, hL5, hL6, hL7⟩ := id hla
  obtain ⟨w0, w1, w2, w3, w4, w5, w6, w7, hW, hW0, hW1, hW2, hW3, hW4, hW5, hW6, hW7⟩ := id hwo
  obtain ⟨s0, s1, hSp, hSp0, hSp1, hSpW⟩ := id hsp
  obtain ⟨i0, i1, i2, i3, i4, i5, i6, i7, hLi, hLi0, hLi1, hLi2, hLi3, hLi4, hLi5, hLi6, hLi7⟩ := id hli
  obtain ⟨t0, t1, t2, t3, hTp, hTp0, hTp1, hTp2, hTp3, hTn1, hTn2⟩ := id htp
  refine x_aload_n hE dX11_person_0 rfl 0 rfl ?_
  refine h_getr hE hx rfl inZX11 0 (by decide) q556 rfl dX11_person_1 ?_
  refine h_getr hE hn rfl inZX4 0 (by decide) q362 rfl dX11_person_4 ?_
  refine x_astore (lv' := [(5, .ref la), (0, .ref x), (1, .int a), (2, .int b), (3, .int c), (4, .int d)]) hE dX11_person_7 (by decide) rfl ?_
  refine x_iload_n hE dX11_person_9 rfl 2 rfl ?_
  refine x_iconst (v := 1) hE dX11_person_10 (by decide) ?_
  refine x_bipush (v := 99) hE dX11_person_11 (by decide) ?_
  refine c_ip hE (r_S (st := []) hE (k_isWithin l D cy L σ φ ρ (a) (1) (99)) q582 q583 q113 q584 ⟨by decide, by decide, pn_X11_isWithin⟩ ⟨Nat.le_of_ble_eq_true rfl, Nat.le_of_ble_eq_true rfl⟩ ⟨Nat.le_of_ble_eq_true rfl, Nat.le_of_ble_eq_true rfl⟩ rfl (Nat.le_of_ble_eq_true rfl) dX11_person_13) (fun r13 h13 => ?_)
  refine x_widen (k' := 0) (n' := 0) (Nat.le_of_ble_eq_true rfl) (Nat.le_of_ble_eq_true rfl) ?_
  refine x_if_eq (tgt := 54) hE dX11_person_16 (by decide) (fun c_16 => ?_) (fun c_16 => ?_)
  · refine x_iconst (v := 0) hE dX11_person_54 (by decide) ?_
    refine x_istore (lv' := [(6, .int 0), (5, .ref la), (0, .ref x), (1, .int a), (2, .int b), (3, .int c), (4, .int d)]) hE dX11_person_55 (by decide) rfl ?_
    refine x_iload hE dX11_person_57 0 rfl ?_
    refine x_if_eq (tgt := 72) hE dX11_person_59 (by decide) (fun c_59 => ?_) (fun c_59 => absurd (by decide) c_59)
    refine x_iconst (v := -1) hE dX11_person_72 (by decide) ?_
    exact hret _ _ _ _ _ _ _ _ (-1) (Nat.le_of_ble_eq_true rfl) (Nat.le_of_ble_eq_true rfl) dX11_person_73 (rfl) (by grind [zb])
  · refine x_iload_n hE dX11_person_19 rfl 3 rfl ?_
    refine x_iconst (v := 0) hE dX11_person_20 (by decide) ?_
    refine x_bipush (v := 99) hE dX11_person_21 (by decide) ?_
    refine c_ip hE (r_S (st := []) hE (k_isWithin l D cy L σ φ ρ (b) (0) (99)) q582 q583 q113 q584 ⟨by decide, by decide, pn_X11_isWithin⟩ ⟨Nat.le_of_ble_eq_true rfl, Nat.le_of_ble_eq_true rfl⟩ ⟨Nat.le_of_ble_eq_true rfl, Nat.le_of_ble_eq_true rfl⟩ rfl (Nat.le_of_ble_eq_true rfl) dX11_person_23) (fun r23 h23 => ?_)
    refine x_widen (k' := 0) (n' := 0) (Nat.le_of_ble_eq_true rfl) (Nat.le_of_ble_eq_true rfl) ?_
    refine x_if_eq (tgt := 54) hE dX11_person_26 (by decide) (fun c_26 => ?_) (fun c_26 => ?_)
    · refine x_iconst (v := 0) hE dX11_person_54 (by decide) ?_
      refine x_istore (lv' := [(6, .int 0), (5, .ref la), (0, .ref x), (1, .int a), (2, .int b), (3, .int c), (4, .int d)]) hE dX11_person_55 (by decide) rfl ?_
      refine x_iload hE dX11_person_57 0 rfl ?_
      refine x_if_eq (tgt := 72) hE dX11_person_59 (by decide) (fun c_59 => ?_) (fun c_59 => absurd (by decide) c_59)
      refine x_iconst (v := -1) hE dX11_person_72 (by decide) ?_
      exact hret _ _ _ _ _ _ _ _ (-1) (Nat.le_of_ble_eq_true rfl) (Nat.le_of_ble_eq_true rfl) dX11_person_73 (rfl) (by grind [zb])
    · refine x_aload hE dX11_person_29 0 rfl ?_
      refine x_iload_n hE dX11_person_31 rfl 4 rfl ?_
      refine c_ip hE (r_V (st := []) hE (k_hasField l D cy L σ φ ρ (c) hL) q593 q594 q595 q115 q596 hL rfl ⟨by decide, by decide, pn_X0_hasField⟩ ⟨Nat.le_of_ble_eq_true rfl, Nat.le_of_ble_eq_true rfl⟩ ⟨Nat.le_of_ble_eq_true rfl, Nat.le_of_ble_eq_true rfl⟩ rfl (Nat.le_of_ble_eq_true rfl) dX11_person_32) (fun r32 h32 => ?_)
      refine x_widen (k' := 0) (n' := 0) (Nat.le_of_ble_eq_true rfl) (Nat.le_of_ble_eq_true rfl) ?_
      refine x_norm (y := 0) (h32.trans (zb_f (fun e => z_le_nlt e.1 (p00 ▸ e.2)))) ?_
      refine x_if_eq (tgt := 54) hE dX11_person_35 (by decide) (fun c_35 => ?_) (fun c_35 => absurd (by decide) c_35)
      refine x_iconst (v := 0) hE dX11_person_54 (by decide) ?_
      refine x_istore (lv' := [(6, .int 0), (5, .ref la), (0, .ref x), (1, .int a), (2, .int b), (3, .int c), (4, .int d)]) hE dX11_person_55 (by decide) rfl ?_
      refine x_iload hE dX11_person_57 0 rfl ?_
      refine x_if_eq (tgt := 72) hE dX11_person_59 (by decide) (fun c_59 => ?_) (fun c_59 => absurd (by decide) c_59)
      refine x_iconst (v := -1) hE dX11_person_72 (by decide) ?_
      exact hret _ _ _ _ _ _ _ _ (-1) (Nat.le_of_ble_eq_true rfl) (Nat.le_of_ble_eq_true rfl) dX11_person_73 (rfl) (by grind [zb])
set_option maxHeartbeats 4000000 in
set_option maxRecDepth 100000 in
theorem o_fault (l : Launch) (D : va_G) (cy : Nat → ClassId) (L : List Nat) (σ : Nat → va_E) (φ : Nat → Nat → Nat → Int32) (ρ : Nat → Nat → Int32) {x : Nat} (w : Int32) (hx : zOR cy L σ φ x) : zMI l D cy yX11_fault cX11_fault 2 .int (zrm 3 0 0) [.ref x, .int w] L σ φ ρ (fun r _ => r = -1) := by
  refine zMI.mk (by decide) (Nat.le_of_ble_eq_true rfl) (fun E hE hret => ?_)
  show zW E 0 0 L σ φ ρ 0 [(0, .ref x), (1, .int w)] []
  obtain ⟨now, kept, tape, reader, weather, planner, ways, la, wo, sp, li, te, g, la', wo', sp', li', te', g', hx, hs, hs0, hk, hk0, htp, htp0, hrd, hrd0, hrd1, hwe, hwe0, hpl, hwy⟩ := hx
  obtain ⟨hn, hla, hwo, hsp, hli, hte⟩ := id hs
  obtain ⟨p45, p46, p00, p01, p10, p50, p51, pl0, pl1, pl2, pg⟩ := id hs0
  obtain ⟨f0, f1, f2, f3, f4, f5, f6, f7, hL, hL0, hL1, hL2, hL3, hL4, hL5, hL6, hL7⟩ := id hla
  obtain ⟨w0, w1, w2, w3, w4, w5, w6, w7, hW, hW0, hW1, hW2, hW3, hW4, hW5, hW6, hW7⟩ := id hwo
  obtain ⟨s0, s1, hSp, hSp0, hSp1, hSpW⟩ := id hsp
  obtain ⟨i0, i1, i2, i3, i4, i5, i6, i7, hLi, hLi0, hLi1, hLi2, hLi3, hLi4, hLi5, hLi6, hLi7⟩ := id hli
  obtain ⟨t0, t1, t2, t3, hTp, hTp0, hTp1, hTp2, hTp3, hTn1, hTn2⟩ := id htp
  refine x_iload_n hE dX11_fault_0 rfl 1 rfl ?_
  refine x_if_ne (tgt := 12) hE dX11_fault_1 (by decide) (fun c_1 => ?_) (fun c_1 => ?_)
  · refine x_iload_n hE dX11_fault_12 rfl 1 rfl ?_
    refine x_iconst (v := 1) hE dX11_fault_13 (by decide) ?_
    refine x_icmp_ne (tgt := 27) hE dX11_fault_14 (by decide) (fun c_14 => ?_) (fun c_14 => ?_)
    · refine x_iconst (v := -1) hE dX11_fault_27 (by decide) ?_
      exact hret _ _ _ _ _ _ _ _ (-1) (Nat.le_of_ble_eq_true rfl) (Nat.le_of_ble_eq_true rfl) dX11_fault_28 (rfl) (by grind [zb])
    · refine x_aload_n hE dX11_fault_17 rfl 0 rfl ?_
      refine h_getr hE hx rfl inZX11 3 (by decide) q559 rfl dX11_fault_18 ?_
      refine h_geti hE hrd rfl inZX3 1 (by decide) q435 rfl dX11_fault_21 ?_
      refine x_norm (y := -1) (hrd1) ?_
      refine x_goto (tgt := 28) hE dX11_fault_24 (by decide) ?_
      exact hret _ _ _ _ _ _ _ _ (-1) (Nat.le_of_ble_eq_true rfl) (Nat.le_of_ble_eq_true rfl) dX11_fault_28 (rfl) (by grind [zb])
  · refine x_aload_n hE dX11_fault_4 rfl 0 rfl ?_
    refine h_getr hE hx rfl inZX11 3 (by decide) q559 rfl dX11_fault_5 ?_
    refine h_geti hE hrd rfl inZX3 0 (by decide) q433 rfl dX11_fault_8 ?_
    refine x_norm (y := -1) (hrd0) ?_
    exact hret _ _ _ _ _ _ _ _ (-1) (Nat.le_of_ble_eq_true rfl) (Nat.le_of_ble_eq_true rfl) dX11_fault_11 (rfl) (by grind [zb])
set_option maxHeartbeats 4000000 in
set_option maxRecDepth 100000 in
theorem o_by (l : Launch) (D : va_G) (cy : Nat → ClassId) (L : List Nat) (σ : Nat → va_E) (φ : Nat → Nat → Nat → Int32) (ρ : Nat → Nat → Int32) {x : Nat} (t : Int32) (hx : zOR cy L σ φ x) : zMI l D cy yX11_by cX11_by 2 .boolean (zrm 3 0 0) [.ref x, .int t] L σ φ ρ (fun r _ => r = zb (t = -1)) := by
  refine zMI.mk (by decide) (Nat.le_of_ble_eq_true rfl) (fun E hE hret => ?_)
  show zW E 0 0 L σ φ ρ 0 [(0, .ref x), (1, .int t)] []
  obtain ⟨now, kept, tape, reader, weather, planner, ways, la, wo, sp, li, te, g, la', wo', sp', li', te', g', hx, hs, hs0, hk, hk0, htp, htp0, hrd, hrd0, hrd1, hwe, hwe0, hpl, hwy⟩ := hx
  obtain ⟨hn, hla, hwo, hsp, hli, hte⟩ := id hs
  obtain ⟨p45, p46, p00, p01, p10, p50, p51, pl0, pl1, pl2, pg⟩ := id hs0
  obtain ⟨f0, f1, f2, f3, f4, f5, f6, f7, hL, hL0, hL1, hL2, hL3, hL4, hL5, hL6, hL7⟩ := id hla
  obtain ⟨w0, w1, w2, w3, w4, w5, w6, w7, hW, hW0, hW1, hW2, hW3, hW4, hW5, hW6, hW7⟩ := id hwo
  obtain ⟨s0, s1, hSp, hSp0, hSp1, hSpW⟩ := id hsp
  obtain ⟨i0, i1, i2, i3, i4, i5, i6, i7, hLi, hLi0, hLi1, hLi2, hLi3, hLi4, hLi5, hLi6, hLi7⟩ := id hli
  obtain ⟨t0, t1, t2, t3, hTp, hTp0, hTp1, hTp2, hTp3, hTn1, hTn2⟩ := id htp
  refine x_iload_n hE dX11_by_0 rfl 1 rfl ?_
  refine x_iconst (v := -1) hE dX11_by_1 (by decide) ?_
  refine x_icmp_eq (tgt := 18) hE dX11_by_2 (by decide) (fun c_2 => ?_) (fun c_2 => ?_)
  · refine x_aload_n hE dX11_by_18 rfl 0 rfl ?_
    refine h_getr hE hx rfl inZX11 0 (by decide) q556 rfl dX11_by_19 ?_
    refine x_iload_n hE dX11_by_22 rfl 1 rfl ?_
    refine h_puti (ty := .int) (ty0 := tyX4) hE hn rfl inZX4 tyX4_ok nmX4 6 (by decide) q379 rfl rfl (by decide +kernel) rfl rfl dX11_by_23 ?_
    refine x_iconst (v := 1) hE dX11_by_26 (by decide) ?_
    exact hret _ _ _ _ _ _ _ _ (1) (Nat.le_of_ble_eq_true rfl) (Nat.le_of_ble_eq_true rfl) dX11_by_27 (rfl) (by grind [zb])
  · refine x_aload_n hE dX11_by_5 rfl 0 rfl ?_
    refine h_getr hE hx rfl inZX11 0 (by decide) q556 rfl dX11_by_6 ?_
    refine x_iload_n hE dX11_by_9 rfl 1 rfl ?_
    refine c_ip hE (r_V (st := []) hE (k_hasText l D cy L σ φ ρ (t) hn p45) q938 q939 q940 q114 q941 hn rfl ⟨by decide, by decide, pn_X4_hasText⟩ ⟨Nat.le_of_ble_eq_true rfl, Nat.le_of_ble_eq_true rfl⟩ ⟨Nat.le_of_ble_eq_true rfl, Nat.le_of_ble_eq_true rfl⟩ rfl (Nat.le_of_ble_eq_true rfl) dX11_by_10) (fun r10 h_10 => ?_)
    refine x_widen (k' := 0) (n' := 0) (Nat.le_of_ble_eq_true rfl) (Nat.le_of_ble_eq_true rfl) ?_
    refine x_norm (y := 0) (h_10) ?_
    refine x_if_ne (tgt := 18) hE dX11_by_13 (by decide) (fun c_13 => absurd c_13 (fun h => h (by decide))) (fun c_13 => ?_)
    refine x_iconst (v := 0) hE dX11_by_16 (by decide) ?_
    exact hret _ _ _ _ _ _ _ _ (0) (Nat.le_of_ble_eq_true rfl) (Nat.le_of_ble_eq_true rfl) dX11_by_17 (rfl) (by grind [zb])
set_option maxHeartbeats 4000000 in
set_option maxRecDepth 100000 in
theorem o_work (l : Launch) (D : va_G) (cy : Nat → ClassId) (L : List Nat) (σ : Nat → va_E) (φ : Nat → Nat → Nat → Int32) (ρ : Nat → Nat → Int32) {x : Nat} (p : Int32) (w : Int32) (hx : zOR cy L σ φ x) : zMI l D cy yX11_work cX11_work 3 .boolean (zrm 3 0 0) [.ref x, .int p, .int w] L σ φ ρ (fun r _ => r = 0) := by
  refine zMI.mk (by decide) (Nat.le_of_ble_eq_true rfl) (fun E hE hret => ?_)
  show zW E 0 0 L σ φ ρ 0 [(0, .ref x), (1, .int p), (2, .int w)] []
  obtain ⟨now, kept, tape, reader, weather, planner, ways, la, wo, sp, li, te, g, la', wo', sp', li', te', g', hx, hs, hs0, hk, hk0, htp, htp0, hrd, hrd0, hrd1, hwe, hwe0, hpl, hwy⟩ := hx
  obtain ⟨hn, hla, hwo, hsp, hli, hte⟩ := id hs
  obtain ⟨p45, p46, p00, p01, p10, p50, p51, pl0, pl1, pl2, pg⟩ := id hs0
  obtain ⟨f0, f1, f2, f3, f4, f5, f6, f7, hL, hL0, hL1, hL2, hL3, hL4, hL5, hL6, hL7⟩ := id hla
  obtain ⟨w0, w1, w2, w3, w4, w5, w6, w7, hW, hW0, hW1, hW2, hW3, hW4, hW5, hW6, hW7⟩ := id hwo
  obtain ⟨s0, s1, hSp, hSp0, hSp1, hSpW⟩ := id hsp
  obtain ⟨i0, i1, i2, i3, i4, i5, i6, i7, hLi, hLi0, hLi1, hLi2, hLi3, hLi4, hLi5, hLi6, hLi7⟩ := id hli
  obtain ⟨t0, t1, t2, t3, hTp, hTp0, hTp1, hTp2, hTp3, hTn1, hTn2⟩ := id htp
  refine x_aload_n hE dX11_work_0 rfl 0 rfl ?_
  refine h_getr hE hx rfl inZX11 0 (by decide) q556 rfl dX11_work_1 ?_
  refine h_getr hE hn rfl inZX4 0 (by decide) q362 rfl dX11_work_4 ?_
  refine x_iload_n hE dX11_work_7 rfl 1 rfl ?_
  refine c_ip hE (r_V (st := []) hE (k_hasPerson l D cy L σ φ ρ (p) hL) q1032 q1033 q1034 q115 q1035 hL rfl ⟨by decide, by decide, pn_X0_hasPerson⟩ ⟨Nat.le_of_ble_eq_true rfl, Nat.le_of_ble_eq_true rfl⟩ ⟨Nat.le_of_ble_eq_true rfl, Nat.le_of_ble_eq_true rfl⟩ rfl (Nat.le_of_ble_eq_true rfl) dX11_work_8) (fun r8 h8 => ?_)
  refine x_widen (k' := 0) (n' := 0) (Nat.le_of_ble_eq_true rfl) (Nat.le_of_ble_eq_true rfl) ?_
  refine x_norm (y := 0) (h8.trans (zb_f (fun e => z_le_nlt e.1 (p01 ▸ e.2)))) ?_
  refine x_if_eq (tgt := 40) hE dX11_work_11 (by decide) (fun c_11 => ?_) (fun c_11 => absurd (by decide) c_11)
  refine x_iconst (v := 0) hE dX11_work_40 (by decide) ?_
  exact hret _ _ _ _ _ _ _ _ (0) (Nat.le_of_ble_eq_true rfl) (Nat.le_of_ble_eq_true rfl) dX11_work_41 (rfl) (by grind [zb])
set_option maxHeartbeats 4000000 in
set_option maxRecDepth 100000 in
theorem o_go (l : Launch) (D : va_G) (cy : Nat → ClassId) (L : List Nat) (σ : Nat → va_E) (φ : Nat → Nat → Nat → Int32) (ρ : Nat → Nat → Int32) {x : Nat} (p : Int32) (f : Int32) (hx : zOR cy L σ φ x) : zMI l D cy yX11_go cX11_go 3 .boolean (zrm 3 0 0) [.ref x, .int p, .int f] L σ φ ρ (fun r _ => r = 0) := by
  refine zMI.mk (by decide) (Nat.le_of_ble_eq_true rfl) (fun E hE hret => ?_)
  show zW E 0 0 L σ φ ρ 0 [(0, .ref x), (1, .int p), (2, .int f)] []
  obtain ⟨now, kept, tape, reader, weather, planner, ways, la, wo, sp, li, te, g, la', wo', sp', li', te', g', hx, hs, hs0, hk, hk0, htp, htp0, hrd, hrd0, hrd1, hwe, hwe0, hpl, hwy⟩ := hx
  obtain ⟨hn, hla, hwo, hsp, hli, hte⟩ := id hs
  obtain ⟨p45, p46, p00, p01, p10, p50, p51, pl0, pl1, pl2, pg⟩ := id hs0
  obtain ⟨f0, f1, f2, f3, f4, f5, f6, f7, hL, hL0, hL1, hL2, hL3, hL4, hL5, hL6, hL7⟩ := id hla
  obtain ⟨w0, w1, w2, w3, w4, w5, w6, w7, hW, hW0, hW1, hW2, hW3, hW4, hW5, hW6, hW7⟩ := id hwo
  obtain ⟨s0, s1, hSp, hSp0, hSp1, hSpW⟩ := id hsp
  obtain ⟨i0, i1, i2, i3, i4, i5, i6, i7, hLi, hLi0, hLi1, hLi2, hLi3, hLi4, hLi5, hLi6, hLi7⟩ := id hli
  obtain ⟨t0, t1, t2, t3, hTp, hTp0, hTp1, hTp2, hTp3, hTn1, hTn2⟩ := id htp
  refine x_aload_n hE dX11_go_0 rfl 0 rfl ?_
  refine h_getr hE hx rfl inZX11 0 (by decide) q556 rfl dX11_go_1 ?_
  refine x_iload_n hE dX11_go_4 rfl 1 rfl ?_
  refine x_iload_n hE dX11_go_5 rfl 2 rfl ?_
  refine c_ip hE (r_V (st := []) hE (k_canGo l D cy L σ φ ρ (p) (f) hn hL p01) q1040 q1041 q1042 q114 q1043 hn rfl ⟨by decide, by decide, pn_X4_canGo⟩ ⟨Nat.le_of_ble_eq_true rfl, Nat.le_of_ble_eq_true rfl⟩ ⟨Nat.le_of_ble_eq_true rfl, Nat.le_of_ble_eq_true rfl⟩ rfl (Nat.le_of_ble_eq_true rfl) dX11_go_6) (fun r6 h_6 => ?_)
  refine x_widen (k' := 0) (n' := 0) (Nat.le_of_ble_eq_true rfl) (Nat.le_of_ble_eq_true rfl) ?_
  refine x_norm (y := 0) (h_6) ?_
  refine x_if_ne (tgt := 14) hE dX11_go_9 (by decide) (fun c_9 => absurd c_9 (fun h => h (by decide))) (fun c_9 => ?_)
  refine x_iconst (v := 0) hE dX11_go_12 (by decide) ?_
  exact hret _ _ _ _ _ _ _ _ (0) (Nat.le_of_ble_eq_true rfl) (Nat.le_of_ble_eq_true rfl) dX11_go_13 (rfl) (by grind [zb])
set_option maxHeartbeats 4000000 in
set_option maxRecDepth 100000 in
theorem o_shake (l : Launch) (D : va_G) (cy : Nat → ClassId) (L : List Nat) (σ : Nat → va_E) (φ : Nat → Nat → Nat → Int32) (ρ : Nat → Nat → Int32) {x : Nat} (p : Int32) (q : Int32) (hx : zOR cy L σ φ x) : zMI l D cy yX11_shake cX11_shake 3 .int (zrm 3 0 0) [.ref x, .int p, .int q] L σ φ ρ (fun r _ => r = -1) := by
  refine zMI.mk (by decide) (Nat.le_of_ble_eq_true rfl) (fun E hE hret => ?_)
  show zW E 0 0 L σ φ ρ 0 [(0, .ref x), (1, .int p), (2, .int q)] []
  obtain ⟨now, kept, tape, reader, weather, planner, ways, la, wo, sp, li, te, g, la', wo', sp', li', te', g', hx, hs, hs0, hk, hk0, htp, htp0, hrd, hrd0, hrd1, hwe, hwe0, hpl, hwy⟩ := hx
  obtain ⟨hn, hla, hwo, hsp, hli, hte⟩ := id hs
  obtain ⟨p45, p46, p00, p01, p10, p50, p51, pl0, pl1, pl2, pg⟩ := id hs0
  obtain ⟨f0, f1, f2, f3, f4, f5, f6, f7, hL, hL0, hL1, hL2, hL3, hL4, hL5, hL6, hL7⟩ := id hla
  obtain ⟨w0, w1, w2, w3, w4, w5, w6, w7, hW, hW0, hW1, hW2, hW3, hW4, hW5, hW6, hW7⟩ := id hwo
  obtain ⟨s0, s1, hSp, hSp0, hSp1, hSpW⟩ := id hsp
  obtain ⟨i0, i1, i2, i3, i4, i5, i6, i7, hLi, hLi0, hLi1, hLi2, hLi3, hLi4, hLi5, hLi6, hLi7⟩ := id hli
  obtain ⟨t0, t1, t2, t3, hTp, hTp0, hTp1, hTp2, hTp3, hTn1, hTn2⟩ := id htp
  refine x_aload_n hE dX11_shake_0 rfl 0 rfl ?_
  refine h_getr hE hx rfl inZX11 0 (by decide) q556 rfl dX11_shake_1 ?_
  refine x_iload_n hE dX11_shake_4 rfl 1 rfl ?_
  refine x_iload_n hE dX11_shake_5 rfl 2 rfl ?_
  refine c_ip hE (r_V (st := []) hE (k_canMeet l D cy L σ φ ρ (p) (q) hn hL p01) q1051 q1052 q1053 q114 q1054 hn rfl ⟨by decide, by decide, pn_X4_canMeet⟩ ⟨Nat.le_of_ble_eq_true rfl, Nat.le_of_ble_eq_true rfl⟩ ⟨Nat.le_of_ble_eq_true rfl, Nat.le_of_ble_eq_true rfl⟩ rfl (Nat.le_of_ble_eq_true rfl) dX11_shake_6) (fun r6 h_6 => ?_)
  refine x_widen (k' := 0) (n' := 0) (Nat.le_of_ble_eq_true rfl) (Nat.le_of_ble_eq_true rfl) ?_
  refine x_norm (y := 0) (h_6) ?_
  refine x_if_ne (tgt := 14) hE dX11_shake_9 (by decide) (fun c_9 => absurd c_9 (fun h => h (by decide))) (fun c_9 => ?_)
  refine x_iconst (v := -1) hE dX11_shake_12 (by decide) ?_
  exact hret _ _ _ _ _ _ _ _ (-1) (Nat.le_of_ble_eq_true rfl) (Nat.le_of_ble_eq_true rfl) dX11_shake_13 (rfl) (by grind [zb])
set_option maxHeartbeats 4000000 in
set_option maxRecDepth 100000 in
theorem o_steal (l : Launch) (D : va_G) (cy : Nat → ClassId) (L : List Nat) (σ : Nat → va_E) (φ : Nat → Nat → Nat → Int32) (ρ : Nat → Nat → Int32) {x : Nat} (p : Int32) (q : Int32) (v : Int32) (hx : zOR cy L σ φ x) : zMI l D cy yX11_steal cX11_steal 4 .int (zrm 3 0 0) [.ref x, .int p, .int q, .int v] L σ φ ρ (fun r _ => r = -1) := by
  refine zMI.mk (by decide) (Nat.le_of_ble_eq_true rfl) (fun E hE hret => ?_)
  show zW E 0 0 L σ φ ρ 0 [(0, .ref x), (1, .int p), (2, .int q), (3, .int v)] []
  obtain ⟨now, kept, tape, reader, weather, planner, ways, la, wo, sp, li, te, g, la', wo', sp', li', te', g', hx, hs, hs0, hk, hk0, htp, htp0, hrd, hrd0, hrd1, hwe, hwe0, hpl, hwy⟩ := hx
  obtain ⟨hn, hla, hwo, hsp, hli, hte⟩ := id hs
  obtain ⟨p45, p46, p00, p01, p10, p50, p51, pl0, pl1, pl2, pg⟩ := id hs0
  obtain ⟨f0, f1, f2, f3, f4, f5, f6, f7, hL, hL0, hL1, hL2, hL3, hL4, hL5, hL6, hL7⟩ := id hla
  obtain ⟨w0, w1, w2, w3, w4, w5, w6, w7, hW, hW0, hW1, hW2, hW3, hW4, hW5, hW6, hW7⟩ := id hwo
  obtain ⟨s0, s1, hSp, hSp0, hSp1, hSpW⟩ := id hsp
  obtain ⟨i0, i1, i2, i3, i4, i5, i6, i7, hLi, hLi0, hLi1, hLi2, hLi3, hLi4, hLi5, hLi6, hLi7⟩ := id hli
  obtain ⟨t0, t1, t2, t3, hTp, hTp0, hTp1, hTp2, hTp3, hTn1, hTn2⟩ := id htp
  refine x_aload_n hE dX11_steal_0 rfl 0 rfl ?_
  refine h_getr hE hx rfl inZX11 0 (by decide) q556 rfl dX11_steal_1 ?_
  refine x_iload_n hE dX11_steal_4 rfl 1 rfl ?_
  refine x_iload_n hE dX11_steal_5 rfl 2 rfl ?_
  refine x_iload_n hE dX11_steal_6 rfl 3 rfl ?_
  refine c_ip hE (r_V (st := []) hE (k_canTake l D cy L σ φ ρ (p) (q) (v) hn hL p01) q1063 q1064 q1065 q114 q1066 hn rfl ⟨by decide, by decide, pn_X4_canTake⟩ ⟨Nat.le_of_ble_eq_true rfl, Nat.le_of_ble_eq_true rfl⟩ ⟨Nat.le_of_ble_eq_true rfl, Nat.le_of_ble_eq_true rfl⟩ rfl (Nat.le_of_ble_eq_true rfl) dX11_steal_7) (fun r7 h_7 => ?_)
  refine x_widen (k' := 0) (n' := 0) (Nat.le_of_ble_eq_true rfl) (Nat.le_of_ble_eq_true rfl) ?_
  refine x_norm (y := 0) (h_7) ?_
  refine x_if_ne (tgt := 15) hE dX11_steal_10 (by decide) (fun c_10 => absurd c_10 (fun h => h (by decide))) (fun c_10 => ?_)
  refine x_iconst (v := -1) hE dX11_steal_13 (by decide) ?_
  exact hret _ _ _ _ _ _ _ _ (-1) (Nat.le_of_ble_eq_true rfl) (Nat.le_of_ble_eq_true rfl) dX11_steal_14 (rfl) (by grind [zb])
set_option maxHeartbeats 4000000 in
set_option maxRecDepth 100000 in
theorem o_pour (l : Launch) (D : va_G) (cy : Nat → ClassId) (L : List Nat) (σ : Nat → va_E) (φ : Nat → Nat → Nat → Int32) (ρ : Nat → Nat → Int32) {x : Nat} (d : Int32) (f : Int32) (hx : zOR cy L σ φ x) : zMI l D cy yX11_pour cX11_pour 4 .int (zrm 3 0 0) [.ref x, .int d, .int f] L σ φ ρ (fun r _ => r = -1) := by
  refine zMI.mk (by decide) (Nat.le_of_ble_eq_true rfl) (fun E hE hret => ?_)
  show zW E 0 0 L σ φ ρ 0 [(0, .ref x), (1, .int d), (2, .int f)] []
  obtain ⟨now, kept, tape, reader, weather, planner, ways, la, wo, sp, li, te, g, la', wo', sp', li', te', g', hx, hs, hs0, hk, hk0, htp, htp0, hrd, hrd0, hrd1, hwe, hwe0, hpl, hwy⟩ := hx
  obtain ⟨hn, hla, hwo, hsp, hli, hte⟩ := id hs
  obtain ⟨p45, p46, p00, p01, p10, p50, p51, pl0, pl1, pl2, pg⟩ := id hs0
  obtain ⟨f0, f1, f2, f3, f4, f5, f6, f7, hL, hL0, hL1, hL2, hL3, hL4, hL5, hL6, hL7⟩ := id hla
  obtain ⟨w0, w1, w2, w3, w4, w5, w6, w7, hW, hW0, hW1, hW2, hW3, hW4, hW5, hW6, hW7⟩ := id hwo
  obtain ⟨s0, s1, hSp, hSp0, hSp1, hSpW⟩ := id hsp
  obtain ⟨i0, i1, i2, i3, i4, i5, i6, i7, hLi, hLi0, hLi1, hLi2, hLi3, hLi4, hLi5, hLi6, hLi7⟩ := id hli
  obtain ⟨t0, t1, t2, t3, hTp, hTp0, hTp1, hTp2, hTp3, hTn1, hTn2⟩ := id htp
  refine x_aload_n hE dX11_pour_0 rfl 0 rfl ?_
  refine h_getr hE hx rfl inZX11 0 (by decide) q556 rfl dX11_pour_1 ?_
  refine h_getr hE hn rfl inZX4 1 (by decide) q369 rfl dX11_pour_4 ?_
  refine x_astore_n (lv' := [(3, .ref wo), (0, .ref x), (1, .int d), (2, .int f)]) hE dX11_pour_7 rfl (by decide) rfl ?_
  refine x_iload_n hE dX11_pour_8 rfl 2 rfl ?_
  refine x_iconst (v := 1) hE dX11_pour_9 (by decide) ?_
  refine x_sipush (v := 999) hE dX11_pour_10 (by decide) ?_
  refine c_ip hE (r_S (st := []) hE (k_isWithin l D cy L σ φ ρ (d) (1) (999)) q582 q583 q113 q584 ⟨by decide, by decide, pn_X11_isWithin⟩ ⟨Nat.le_of_ble_eq_true rfl, Nat.le_of_ble_eq_true rfl⟩ ⟨Nat.le_of_ble_eq_true rfl, Nat.le_of_ble_eq_true rfl⟩ rfl (Nat.le_of_ble_eq_true rfl) dX11_pour_13) (fun r13 h13 => ?_)
  refine x_widen (k' := 0) (n' := 0) (Nat.le_of_ble_eq_true rfl) (Nat.le_of_ble_eq_true rfl) ?_
  refine x_if_eq (tgt := 41) hE dX11_pour_16 (by decide) (fun c_16 => ?_) (fun c_16 => ?_)
  · refine x_iconst (v := -1) hE dX11_pour_41 (by decide) ?_
    exact hret _ _ _ _ _ _ _ _ (-1) (Nat.le_of_ble_eq_true rfl) (Nat.le_of_ble_eq_true rfl) dX11_pour_42 (rfl) (by grind [zb])
  · refine x_iload_n hE dX11_pour_19 rfl 2 rfl ?_
    refine x_aload_n hE dX11_pour_20 rfl 0 rfl ?_
    refine h_geti hE hW rfl inZX10 6 (by decide) q240 rfl dX11_pour_21 ?_
    refine x_norm (y := 0) (by simpa using p10 6) ?_
    refine x_icmp_gt (tgt := 41) hE dX11_pour_24 (by decide) (fun c_24 => ?_) (fun c_24 => ?_)
    · refine x_iconst (v := -1) hE dX11_pour_41 (by decide) ?_
      exact hret _ _ _ _ _ _ _ _ (-1) (Nat.le_of_ble_eq_true rfl) (Nat.le_of_ble_eq_true rfl) dX11_pour_42 (rfl) (by grind [zb])
    · refine x_aload_n hE dX11_pour_27 rfl 1 rfl ?_
      refine h_getr hE hx rfl inZX11 0 (by decide) q556 rfl dX11_pour_28 ?_
      refine h_getr hE hn rfl inZX4 0 (by decide) q362 rfl dX11_pour_31 ?_
      refine x_iload_n hE dX11_pour_34 rfl 3 rfl ?_
      refine c_ip hE (r_V (st := []) hE (k_hasField l D cy L σ φ ρ (f) hL) q593 q594 q595 q115 q596 hL rfl ⟨by decide, by decide, pn_X0_hasField⟩ ⟨Nat.le_of_ble_eq_true rfl, Nat.le_of_ble_eq_true rfl⟩ ⟨Nat.le_of_ble_eq_true rfl, Nat.le_of_ble_eq_true rfl⟩ rfl (Nat.le_of_ble_eq_true rfl) dX11_pour_35) (fun r35 h35 => ?_)
      refine x_widen (k' := 0) (n' := 0) (Nat.le_of_ble_eq_true rfl) (Nat.le_of_ble_eq_true rfl) ?_
      refine x_norm (y := 0) (h35.trans (zb_f (fun e => z_le_nlt e.1 (p00 ▸ e.2)))) ?_
      refine x_if_ne (tgt := 43) hE dX11_pour_38 (by decide) (fun c_38 => absurd c_38 (fun h => h (by decide))) (fun c_38 => ?_)
      refine x_iconst (v := -1) hE dX11_pour_41 (by decide) ?_
      exact hret _ _ _ _ _ _ _ _ (-1) (Nat.le_of_ble_eq_true rfl) (Nat.le_of_ble_eq_true rfl) dX11_pour_42 (rfl) (by grind [zb])
set_option maxHeartbeats 4000000 in
set_option maxRecDepth 100000 in
theorem o_played (l : Launch) (D : va_G) (cy : Nat → ClassId) (L : List Nat) (σ : Nat → va_E) (φ : Nat → Nat → Nat → Int32) (ρ : Nat → Nat → Int32) {x : Nat} (t : Int32) (hx : zOR cy L σ φ x) : zMI l D cy yX11_played cX11_played 4 .int (zrm 3 0 0) [.ref x, .int t] L σ φ ρ (fun r _ => r = -2) := by
  refine zMI.mk (by decide) (Nat.le_of_ble_eq_true rfl) (fun E hE hret => ?_)
  show zW E 0 0 L σ φ ρ 0 [(0, .ref x), (1, .int t)] []
  obtain ⟨now, kept, tape, reader, weather, planner, ways, la, wo, sp, li, te, g, la', wo', sp', li', te', g', hx, hs, hs0, hk, hk0, htp, htp0, hrd, hrd0, hrd1, hwe, hwe0, hpl, hwy⟩ := hx
  obtain ⟨hn, hla, hwo, hsp, hli, hte⟩ := id hs
  obtain ⟨p45, p46, p00, p01, p10, p50, p51, pl0, pl1, pl2, pg⟩ := id hs0
  obtain ⟨f0, f1, f2, f3, f4, f5, f6, f7, hL, hL0, hL1, hL2, hL3, hL4, hL5, hL6, hL7⟩ := id hla
  obtain ⟨w0, w1, w2, w3, w4, w5, w6, w7, hW, hW0, hW1, hW2, hW3, hW4, hW5, hW6, hW7⟩ := id hwo
  obtain ⟨s0, s1, hSp, hSp0, hSp1, hSpW⟩ := id hsp
  obtain ⟨i0, i1, i2, i3, i4, i5, i6, i7, hLi, hLi0, hLi1, hLi2, hLi3, hLi4, hLi5, hLi6, hLi7⟩ := id hli
  obtain ⟨t0, t1, t2, t3, hTp, hTp0, hTp1, hTp2, hTp3, hTn1, hTn2⟩ := id htp
  refine x_aload_n hE dX11_played_0 rfl 0 rfl ?_
  refine h_getr hE hx rfl inZX11 0 (by decide) q556 rfl dX11_played_1 ?_
  refine x_iload_n hE dX11_played_4 rfl 1 rfl ?_
  refine c_ip hE (r_V (st := []) hE (k_hasText l D cy L σ φ ρ (t) hn p45) q938 q939 q940 q114 q941 hn rfl ⟨by decide, by decide, pn_X4_hasText⟩ ⟨Nat.le_of_ble_eq_true rfl, Nat.le_of_ble_eq_true rfl⟩ ⟨Nat.le_of_ble_eq_true rfl, Nat.le_of_ble_eq_true rfl⟩ rfl (Nat.le_of_ble_eq_true rfl) dX11_played_5) (fun r5 h_5 => ?_)
  refine x_widen (k' := 0) (n' := 0) (Nat.le_of_ble_eq_true rfl) (Nat.le_of_ble_eq_true rfl) ?_
  refine x_norm (y := 0) (h_5) ?_
  refine x_if_ne (tgt := 14) hE dX11_played_8 (by decide) (fun c_8 => absurd c_8 (fun h => h (by decide))) (fun c_8 => ?_)
  refine x_bipush (v := -2) hE dX11_played_11 (by decide) ?_
  exact hret _ _ _ _ _ _ _ _ (-2) (Nat.le_of_ble_eq_true rfl) (Nat.le_of_ble_eq_true rfl) dX11_played_13 (rfl) (by grind [zb])
set_option maxHeartbeats 4000000 in
set_option maxRecDepth 100000 in
theorem o_year (l : Launch) (D : va_G) (cy : Nat → ClassId) (L : List Nat) (σ : Nat → va_E) (φ : Nat → Nat → Nat → Int32) (ρ : Nat → Nat → Int32) {x : Nat} (s : Int32) (n : Int32) (hx : zOR cy L σ φ x) : zMI l D cy yX11_year cX11_year 5 .int (zrm 3 0 0) [.ref x, .int s, .int n] L σ φ ρ (fun r _ => r = -1) := by
  refine zMI.mk (by decide) (Nat.le_of_ble_eq_true rfl) (fun E hE hret => ?_)
  show zW E 0 0 L σ φ ρ 0 [(0, .ref x), (1, .int s), (2, .int n)] []
  obtain ⟨now, kept, tape, reader, weather, planner, ways, la, wo, sp, li, te, g, la', wo', sp', li', te', g', hx, hs, hs0, hk, hk0, htp, htp0, hrd, hrd0, hrd1, hwe, hwe0, hpl, hwy⟩ := hx
  obtain ⟨hn, hla, hwo, hsp, hli, hte⟩ := id hs
  obtain ⟨p45, p46, p00, p01, p10, p50, p51, pl0, pl1, pl2, pg⟩ := id hs0
  obtain ⟨f0, f1, f2, f3, f4, f5, f6, f7, hL, hL0, hL1, hL2, hL3, hL4, hL5, hL6, hL7⟩ := id hla
  obtain ⟨w0, w1, w2, w3, w4, w5, w6, w7, hW, hW0, hW1, hW2, hW3, hW4, hW5, hW6, hW7⟩ := id hwo
  obtain ⟨s0, s1, hSp, hSp0, hSp1, hSpW⟩ := id hsp
  obtain ⟨i0, i1, i2, i3, i4, i5, i6, i7, hLi, hLi0, hLi1, hLi2, hLi3, hLi4, hLi5, hLi6, hLi7⟩ := id hli
  obtain ⟨t0, t1, t2, t3, hTp, hTp0, hTp1, hTp2, hTp3, hTn1, hTn2⟩ := id htp
  refine x_iload_n hE dX11_year_0 rfl 1 rfl ?_
  refine x_iconst (v := 0) hE dX11_year_1 (by decide) ?_
  refine x_sipush (v := 9999) hE dX11_year_2 (by decide) ?_
  refine c_ip hE (r_S (st := []) hE (k_isWithin l D cy L σ φ ρ (s) (0) (9999)) q582 q583 q113 q584 ⟨by decide, by decide, pn_X11_isWithin⟩ ⟨Nat.le_of_ble_eq_true rfl, Nat.le_of_ble_eq_true rfl⟩ ⟨Nat.le_of_ble_eq_true rfl, Nat.le_of_ble_eq_true rfl⟩ rfl (Nat.le_of_ble_eq_true rfl) dX11_year_5) (fun r5 h5 => ?_)
  refine x_widen (k' := 0) (n' := 0) (Nat.le_of_ble_eq_true rfl) (Nat.le_of_ble_eq_true rfl) ?_
  refine x_if_eq (tgt := 35) hE dX11_year_8 (by decide) (fun c_8 => ?_) (fun c_8 => ?_)
  · refine x_iconst (v := -1) hE dX11_year_35 (by decide) ?_
    exact hret _ _ _ _ _ _ _ _ (-1) (Nat.le_of_ble_eq_true rfl) (Nat.le_of_ble_eq_true rfl) dX11_year_36 (rfl) (by grind [zb])
  · refine x_iload_n hE dX11_year_11 rfl 2 rfl ?_
    refine x_iconst (v := 1) hE dX11_year_12 (by decide) ?_
    refine x_bipush (v := 30) hE dX11_year_13 (by decide) ?_
    refine c_ip hE (r_S (st := []) hE (k_isWithin l D cy L σ φ ρ (n) (1) (30)) q582 q583 q113 q584 ⟨by decide, by decide, pn_X11_isWithin⟩ ⟨Nat.le_of_ble_eq_true rfl, Nat.le_of_ble_eq_true rfl⟩ ⟨Nat.le_of_ble_eq_true rfl, Nat.le_of_ble_eq_true rfl⟩ rfl (Nat.le_of_ble_eq_true rfl) dX11_year_15) (fun r15 h15 => ?_)
    refine x_widen (k' := 0) (n' := 0) (Nat.le_of_ble_eq_true rfl) (Nat.le_of_ble_eq_true rfl) ?_
    refine x_if_eq (tgt := 35) hE dX11_year_18 (by decide) (fun c_18 => ?_) (fun c_18 => ?_)
    · refine x_iconst (v := -1) hE dX11_year_35 (by decide) ?_
      exact hret _ _ _ _ _ _ _ _ (-1) (Nat.le_of_ble_eq_true rfl) (Nat.le_of_ble_eq_true rfl) dX11_year_36 (rfl) (by grind [zb])
    · refine x_aload_n hE dX11_year_21 rfl 0 rfl ?_
      refine h_getr hE hx rfl inZX11 0 (by decide) q556 rfl dX11_year_22 ?_
      refine h_getr hE hn rfl inZX4 0 (by decide) q362 rfl dX11_year_25 ?_
      refine h_geti hE hL rfl inZX0 1 (by decide) q161 rfl dX11_year_28 ?_
      refine x_norm (y := 0) (p01) ?_
      refine x_iconst (v := 1) hE dX11_year_31 (by decide) ?_
      refine x_icmp_ge (tgt := 37) hE dX11_year_32 (by decide) (fun c_32 => absurd c_32 (by decide)) (fun c_32 => ?_)
      refine x_iconst (v := -1) hE dX11_year_35 (by decide) ?_
      exact hret _ _ _ _ _ _ _ _ (-1) (Nat.le_of_ble_eq_true rfl) (Nat.le_of_ble_eq_true rfl) dX11_year_36 (rfl) (by grind [zb])
set_option maxHeartbeats 4000000 in
set_option maxRecDepth 100000 in
theorem o_undo (l : Launch) (D : va_G) (cy : Nat → ClassId) (L : List Nat) (σ : Nat → va_E) (φ : Nat → Nat → Nat → Int32) (ρ : Nat → Nat → Int32) {x : Nat}  (hx : zOR cy L σ φ x) : zMI l D cy yX11_undo cX11_undo 1 .int (zrm 3 0 0) [.ref x] L σ φ ρ (fun r _ => r = -1) := by
  refine zMI.mk (by decide) (Nat.le_of_ble_eq_true rfl) (fun E hE hret => ?_)
  show zW E 0 0 L σ φ ρ 0 [(0, .ref x)] []
  obtain ⟨now, kept, tape, reader, weather, planner, ways, la, wo, sp, li, te, g, la', wo', sp', li', te', g', hx, hs, hs0, hk, hk0, htp, htp0, hrd, hrd0, hrd1, hwe, hwe0, hpl, hwy⟩ := hx
  obtain ⟨hn, hla, hwo, hsp, hli, hte⟩ := id hs
  obtain ⟨p45, p46, p00, p01, p10, p50, p51, pl0, pl1, pl2, pg⟩ := id hs0
  obtain ⟨f0, f1, f2, f3, f4, f5, f6, f7, hL, hL0, hL1, hL2, hL3, hL4, hL5, hL6, hL7⟩ := id hla
  obtain ⟨w0, w1, w2, w3, w4, w5, w6, w7, hW, hW0, hW1, hW2, hW3, hW4, hW5, hW6, hW7⟩ := id hwo
  obtain ⟨s0, s1, hSp, hSp0, hSp1, hSpW⟩ := id hsp
  obtain ⟨i0, i1, i2, i3, i4, i5, i6, i7, hLi, hLi0, hLi1, hLi2, hLi3, hLi4, hLi5, hLi6, hLi7⟩ := id hli
  obtain ⟨t0, t1, t2, t3, hTp, hTp0, hTp1, hTp2, hTp3, hTn1, hTn2⟩ := id htp
  refine x_aload_n hE dX11_undo_0 rfl 0 rfl ?_
  refine h_getr hE hx rfl inZX11 0 (by decide) q556 rfl dX11_undo_1 ?_
  refine c_i hE (r_V (st := []) hE (k_takeBack l D cy L σ φ ρ hn hSp p50) q1110 q1111 q1112 q114 q1113 hn rfl ⟨by decide, by decide, pn_X4_takeBack⟩ ⟨Nat.le_of_ble_eq_true rfl, Nat.le_of_ble_eq_true rfl⟩ ⟨Nat.le_of_ble_eq_true rfl, Nat.le_of_ble_eq_true rfl⟩ rfl (Nat.le_of_ble_eq_true rfl) dX11_undo_4) (fun rt L' σ' φ' ρ' ht => ?_)
  refine x_widen (k' := 0) (n' := 0) (Nat.le_of_ble_eq_true rfl) (Nat.le_of_ble_eq_true rfl) ?_
  exact hret _ _ _ _ _ _ _ _ (rt) (Nat.le_of_ble_eq_true rfl) (Nat.le_of_ble_eq_true rfl) dX11_undo_7 (rfl) (by grind [zb])
set_option maxHeartbeats 4000000 in
set_option maxRecDepth 100000 in
theorem o_ofField (l : Launch) (D : va_G) (cy : Nat → ClassId) (L : List Nat) (σ : Nat → va_E) (φ : Nat → Nat → Nat → Int32) (ρ : Nat → Nat → Int32) {x : Nat} (f : Int32) (w : Int32) (hx : zOR cy L σ φ x) : zMI l D cy yX11_ofField cX11_ofField 5 .int (zrm 3 0 0) [.ref x, .int f, .int w] L σ φ ρ (fun r _ => r = -1) := by
  refine zMI.mk (by decide) (Nat.le_of_ble_eq_true rfl) (fun E hE hret => ?_)
  show zW E 0 0 L σ φ ρ 0 [(0, .ref x), (1, .int f), (2, .int w)] []
  obtain ⟨now, kept, tape, reader, weather, planner, ways, la, wo, sp, li, te, g, la', wo', sp', li', te', g', hx, hs, hs0, hk, hk0, htp, htp0, hrd, hrd0, hrd1, hwe, hwe0, hpl, hwy⟩ := hx
  obtain ⟨hn, hla, hwo, hsp, hli, hte⟩ := id hs
  obtain ⟨p45, p46, p00, p01, p10, p50, p51, pl0, pl1, pl2, pg⟩ := id hs0
  obtain ⟨f0, f1, f2, f3, f4, f5, f6, f7, hL, hL0, hL1, hL2, hL3, hL4, hL5, hL6, hL7⟩ := id hla
  obtain ⟨w0, w1, w2, w3, w4, w5, w6, w7, hW, hW0, hW1, hW2, hW3, hW4, hW5, hW6, hW7⟩ := id hwo
  obtain ⟨s0, s1, hSp, hSp0, hSp1, hSpW⟩ := id hsp
  obtain ⟨i0, i1, i2, i3, i4, i5, i6, i7, hLi, hLi0, hLi1, hLi2, hLi3, hLi4, hLi5, hLi6, hLi7⟩ := id hli
  obtain ⟨t0, t1, t2, t3, hTp, hTp0, hTp1, hTp2, hTp3, hTn1, hTn2⟩ := id htp
  refine x_aload_n hE dX11_ofField_0 rfl 0 rfl ?_
  refine h_getr hE hx rfl inZX11 0 (by decide) q556 rfl dX11_ofField_1 ?_
  refine h_getr hE hn rfl inZX4 0 (by decide) q362 rfl dX11_ofField_4 ?_
  refine x_astore_n (lv' := [(3, .ref la), (0, .ref x), (1, .int f), (2, .int w)]) hE dX11_ofField_7 rfl (by decide) rfl ?_
  refine x_aload_n hE dX11_ofField_8 rfl 1 rfl ?_
  refine h_getr hE hx rfl inZX11 0 (by decide) q556 rfl dX11_ofField_9 ?_
  refine h_getr hE hn rfl inZX4 1 (by decide) q369 rfl dX11_ofField_12 ?_
  refine x_astore (lv' := [(4, .ref wo), (3, .ref la), (0, .ref x), (1, .int f), (2, .int w)]) hE dX11_ofField_15 (by decide) rfl ?_
  refine x_aload_n hE dX11_ofField_17 rfl 1 rfl ?_
  refine x_iload_n hE dX11_ofField_18 rfl 3 rfl ?_
  refine c_ip hE (r_V (st := []) hE (k_hasField l D cy L σ φ ρ (f) hL) q593 q594 q595 q115 q596 hL rfl ⟨by decide, by decide, pn_X0_hasField⟩ ⟨Nat.le_of_ble_eq_true rfl, Nat.le_of_ble_eq_true rfl⟩ ⟨Nat.le_of_ble_eq_true rfl, Nat.le_of_ble_eq_true rfl⟩ rfl (Nat.le_of_ble_eq_true rfl) dX11_ofField_19) (fun r19 h19 => ?_)
  refine x_widen (k' := 0) (n' := 0) (Nat.le_of_ble_eq_true rfl) (Nat.le_of_ble_eq_true rfl) ?_
  refine x_norm (y := 0) (h19.trans (zb_f (fun e => z_le_nlt e.1 (p00 ▸ e.2)))) ?_
  refine x_if_ne (tgt := 27) hE dX11_ofField_22 (by decide) (fun c_22 => absurd c_22 (fun h => h (by decide))) (fun c_22 => ?_)
  refine x_iconst (v := -1) hE dX11_ofField_25 (by decide) ?_
  exact hret _ _ _ _ _ _ _ _ (-1) (Nat.le_of_ble_eq_true rfl) (Nat.le_of_ble_eq_true rfl) dX11_ofField_26 (rfl) (by grind [zb])
set_option maxHeartbeats 4000000 in
set_option maxRecDepth 100000 in
theorem o_ofPerson (l : Launch) (D : va_G) (cy : Nat → ClassId) (L : List Nat) (σ : Nat → va_E) (φ : Nat → Nat → Nat → Int32) (ρ : Nat → Nat → Int32) {x : Nat} (p : Int32) (w : Int32) (hx : zOR cy L σ φ x) : zMI l D cy yX11_ofPerson cX11_ofPerson 5 .int (zrm 3 0 0) [.ref x, .int p, .int w] L σ φ ρ (fun r _ => r = -2) := by
  refine zMI.mk (by decide) (Nat.le_of_ble_eq_true rfl) (fun E hE hret => ?_)
  show zW E 0 0 L σ φ ρ 0 [(0, .ref x), (1, .int p), (2, .int w)] []
  obtain ⟨now, kept, tape, reader, weather, planner, ways, la, wo, sp, li, te, g, la', wo', sp', li', te', g', hx, hs, hs0, hk, hk0, htp, htp0, hrd, hrd0, hrd1, hwe, hwe0, hpl, hwy⟩ := hx
  obtain ⟨hn, hla, hwo, hsp, hli, hte⟩ := id hs
  obtain ⟨p45, p46, p00, p01, p10, p50, p51, pl0, pl1, pl2, pg⟩ := id hs0
  obtain ⟨f0, f1, f2, f3, f4, f5, f6, f7, hL, hL0, hL1, hL2, hL3, hL4, hL5, hL6, hL7⟩ := id hla
  obtain ⟨w0, w1, w2, w3, w4, w5, w6, w7, hW, hW0, hW1, hW2, hW3, hW4, hW5, hW6, hW7⟩ := id hwo
  obtain ⟨s0, s1, hSp, hSp0, hSp1, hSpW⟩ := id hsp
  obtain ⟨i0, i1, i2, i3, i4, i5, i6, i7, hLi, hLi0, hLi1, hLi2, hLi3, hLi4, hLi5, hLi6, hLi7⟩ := id hli
  obtain ⟨t0, t1, t2, t3, hTp, hTp0, hTp1, hTp2, hTp3, hTn1, hTn2⟩ := id htp
  refine x_aload_n hE dX11_ofPerson_0 rfl 0 rfl ?_
  refine h_getr hE hx rfl inZX11 0 (by decide) q556 rfl dX11_ofPerson_1 ?_
  refine h_getr hE hn rfl inZX4 0 (by decide) q362 rfl dX11_ofPerson_4 ?_
  refine x_astore_n (lv' := [(3, .ref la), (0, .ref x), (1, .int p), (2, .int w)]) hE dX11_ofPerson_7 rfl (by decide) rfl ?_
  refine x_aload_n hE dX11_ofPerson_8 rfl 1 rfl ?_
  refine h_getr hE hx rfl inZX11 0 (by decide) q556 rfl dX11_ofPerson_9 ?_
  refine h_getr hE hn rfl inZX4 1 (by decide) q369 rfl dX11_ofPerson_12 ?_
  refine x_astore (lv' := [(4, .ref wo), (3, .ref la), (0, .ref x), (1, .int p), (2, .int w)]) hE dX11_ofPerson_15 (by decide) rfl ?_
  refine x_aload_n hE dX11_ofPerson_17 rfl 1 rfl ?_
  refine x_iload_n hE dX11_ofPerson_18 rfl 3 rfl ?_
  refine c_ip hE (r_V (st := []) hE (k_hasPerson l D cy L σ φ ρ (p) hL) q1032 q1033 q1034 q115 q1035 hL rfl ⟨by decide, by decide, pn_X0_hasPerson⟩ ⟨Nat.le_of_ble_eq_true rfl, Nat.le_of_ble_eq_true rfl⟩ ⟨Nat.le_of_ble_eq_true rfl, Nat.le_of_ble_eq_true rfl⟩ rfl (Nat.le_of_ble_eq_true rfl) dX11_ofPerson_19) (fun r19 h19 => ?_)
  refine x_widen (k' := 0) (n' := 0) (Nat.le_of_ble_eq_true rfl) (Nat.le_of_ble_eq_true rfl) ?_
  refine x_norm (y := 0) (h19.trans (zb_f (fun e => z_le_nlt e.1 (p01 ▸ e.2)))) ?_
  refine x_if_ne (tgt := 28) hE dX11_ofPerson_22 (by decide) (fun c_22 => absurd c_22 (fun h => h (by decide))) (fun c_22 => ?_)
  refine x_bipush (v := -2) hE dX11_ofPerson_25 (by decide) ?_
  exact hret _ _ _ _ _ _ _ _ (-2) (Nat.le_of_ble_eq_true rfl) (Nat.le_of_ble_eq_true rfl) dX11_ofPerson_27 (rfl) (by grind [zb])
set_option maxHeartbeats 4000000 in
set_option maxRecDepth 100000 in
theorem o_foretoldWet (l : Launch) (D : va_G) (cy : Nat → ClassId) (L : List Nat) (σ : Nat → va_E) (φ : Nat → Nat → Nat → Int32) (ρ : Nat → Nat → Int32) {x : Nat} (n : Int32) (f : Int32) (hx : zOR cy L σ φ x) : zMI l D cy yX11_foretoldWet cX11_foretoldWet 3 .int (zrm 3 0 0) [.ref x, .int n, .int f] L σ φ ρ (fun r _ => r = -1) := by
  refine zMI.mk (by decide) (Nat.le_of_ble_eq_true rfl) (fun E hE hret => ?_)
  show zW E 0 0 L σ φ ρ 0 [(0, .ref x), (1, .int n), (2, .int f)] []
  obtain ⟨now, kept, tape, reader, weather, planner, ways, la, wo, sp, li, te, g, la', wo', sp', li', te', g', hx, hs, hs0, hk, hk0, htp, htp0, hrd, hrd0, hrd1, hwe, hwe0, hpl, hwy⟩ := hx
  obtain ⟨hn, hla, hwo, hsp, hli, hte⟩ := id hs
  obtain ⟨p45, p46, p00, p01, p10, p50, p51, pl0, pl1, pl2, pg⟩ := id hs0
  obtain ⟨f0, f1, f2, f3, f4, f5, f6, f7, hL, hL0, hL1, hL2, hL3, hL4, hL5, hL6, hL7⟩ := id hla
  obtain ⟨w0, w1, w2, w3, w4, w5, w6, w7, hW, hW0, hW1, hW2, hW3, hW4, hW5, hW6, hW7⟩ := id hwo
  obtain ⟨s0, s1, hSp, hSp0, hSp1, hSpW⟩ := id hsp
  obtain ⟨i0, i1, i2, i3, i4, i5, i6, i7, hLi, hLi0, hLi1, hLi2, hLi3, hLi4, hLi5, hLi6, hLi7⟩ := id hli
  obtain ⟨t0, t1, t2, t3, hTp, hTp0, hTp1, hTp2, hTp3, hTn1, hTn2⟩ := id htp
  refine x_iload_n hE dX11_foretoldWet_0 rfl 1 rfl ?_
  refine x_iconst (v := 1) hE dX11_foretoldWet_1 (by decide) ?_
  refine x_bipush (v := 30) hE dX11_foretoldWet_2 (by decide) ?_
  refine c_ip hE (r_S (st := []) hE (k_isWithin l D cy L σ φ ρ (n) (1) (30)) q582 q583 q113 q584 ⟨by decide, by decide, pn_X11_isWithin⟩ ⟨Nat.le_of_ble_eq_true rfl, Nat.le_of_ble_eq_true rfl⟩ ⟨Nat.le_of_ble_eq_true rfl, Nat.le_of_ble_eq_true rfl⟩ rfl (Nat.le_of_ble_eq_true rfl) dX11_foretoldWet_4) (fun r4 h4 => ?_)
  refine x_widen (k' := 0) (n' := 0) (Nat.le_of_ble_eq_true rfl) (Nat.le_of_ble_eq_true rfl) ?_
  refine x_if_eq (tgt := 24) hE dX11_foretoldWet_7 (by decide) (fun c_7 => ?_) (fun c_7 => ?_)
  · refine x_iconst (v := -1) hE dX11_foretoldWet_24 (by decide) ?_
    exact hret _ _ _ _ _ _ _ _ (-1) (Nat.le_of_ble_eq_true rfl) (Nat.le_of_ble_eq_true rfl) dX11_foretoldWet_25 (rfl) (by grind [zb])
  · refine x_aload_n hE dX11_foretoldWet_10 rfl 0 rfl ?_
    refine h_getr hE hx rfl inZX11 0 (by decide) q556 rfl dX11_foretoldWet_11 ?_
    refine h_getr hE hn rfl inZX4 0 (by decide) q362 rfl dX11_foretoldWet_14 ?_
    refine x_iload_n hE dX11_foretoldWet_17 rfl 2 rfl ?_
    refine c_ip hE (r_V (st := []) hE (k_hasField l D cy L σ φ ρ (f) hL) q593 q594 q595 q115 q596 hL rfl ⟨by decide, by decide, pn_X0_hasField⟩ ⟨Nat.le_of_ble_eq_true rfl, Nat.le_of_ble_eq_true rfl⟩ ⟨Nat.le_of_ble_eq_true rfl, Nat.le_of_ble_eq_true rfl⟩ rfl (Nat.le_of_ble_eq_true rfl) dX11_foretoldWet_18) (fun r18 h18 => ?_)
    refine x_widen (k' := 0) (n' := 0) (Nat.le_of_ble_eq_true rfl) (Nat.le_of_ble_eq_true rfl) ?_
    refine x_norm (y := 0) (h18.trans (zb_f (fun e => z_le_nlt e.1 (p00 ▸ e.2)))) ?_
    refine x_if_ne (tgt := 26) hE dX11_foretoldWet_21 (by decide) (fun c_21 => absurd c_21 (fun h => h (by decide))) (fun c_21 => ?_)
    refine x_iconst (v := -1) hE dX11_foretoldWet_24 (by decide) ?_
    exact hret _ _ _ _ _ _ _ _ (-1) (Nat.le_of_ble_eq_true rfl) (Nat.le_of_ble_eq_true rfl) dX11_foretoldWet_25 (rfl) (by grind [zb])
set_option maxHeartbeats 4000000 in
set_option maxRecDepth 100000 in
theorem o_foretoldCloud (l : Launch) (D : va_G) (cy : Nat → ClassId) (L : List Nat) (σ : Nat → va_E) (φ : Nat → Nat → Nat → Int32) (ρ : Nat → Nat → Int32) {x : Nat} (n : Int32) (p : Int32) (b : Int32) (hx : zOR cy L σ φ x) : zMI l D cy yX11_foretoldCloud cX11_foretoldCloud 4 .int (zrm 3 0 0) [.ref x, .int n, .int p, .int b] L σ φ ρ (fun r _ => r = -1) := by
  refine zMI.mk (by decide) (Nat.le_of_ble_eq_true rfl) (fun E hE hret => ?_)
  show zW E 0 0 L σ φ ρ 0 [(0, .ref x), (1, .int n), (2, .int p), (3, .int b)] []
  obtain ⟨now, kept, tape, reader, weather, planner, ways, la, wo, sp, li, te, g, la', wo', sp', li', te', g', hx, hs, hs0, hk, hk0, htp, htp0, hrd, hrd0, hrd1, hwe, hwe0, hpl, hwy⟩ := hx
  obtain ⟨hn, hla, hwo, hsp, hli, hte⟩ := id hs
  obtain ⟨p45, p46, p00, p01, p10, p50, p51, pl0, pl1, pl2, pg⟩ := id hs0
  obtain ⟨f0, f1, f2, f3, f4, f5, f6, f7, hL, hL0, hL1, hL2, hL3, hL4, hL5, hL6, hL7⟩ := id hla
  obtain ⟨w0, w1, w2, w3, w4, w5, w6, w7, hW, hW0, hW1, hW2, hW3, hW4, hW5, hW6, hW7⟩ := id hwo
  obtain ⟨s0, s1, hSp, hSp0, hSp1, hSpW⟩ := id hsp
  obtain ⟨i0, i1, i2, i3, i4, i5, i6, i7, hLi, hLi0, hLi1, hLi2, hLi3, hLi4, hLi5, hLi6, hLi7⟩ := id hli
  obtain ⟨t0, t1, t2, t3, hTp, hTp0, hTp1, hTp2, hTp3, hTn1, hTn2⟩ := id htp
  refine x_iload_n hE dX11_foretoldCloud_0 rfl 1 rfl ?_
  refine x_iconst (v := 1) hE dX11_foretoldCloud_1 (by decide) ?_
  refine x_bipush (v := 30) hE dX11_foretoldCloud_2 (by decide) ?_
  refine c_ip hE (r_S (st := []) hE (k_isWithin l D cy L σ φ ρ (n) (1) (30)) q582 q583 q113 q584 ⟨by decide, by decide, pn_X11_isWithin⟩ ⟨Nat.le_of_ble_eq_true rfl, Nat.le_of_ble_eq_true rfl⟩ ⟨Nat.le_of_ble_eq_true rfl, Nat.le_of_ble_eq_true rfl⟩ rfl (Nat.le_of_ble_eq_true rfl) dX11_foretoldCloud_4) (fun r4 h4 => ?_)
  refine x_widen (k' := 0) (n' := 0) (Nat.le_of_ble_eq_true rfl) (Nat.le_of_ble_eq_true rfl) ?_
  refine x_if_eq (tgt := 24) hE dX11_foretoldCloud_7 (by decide) (fun c_7 => ?_) (fun c_7 => ?_)
  · refine x_iconst (v := -1) hE dX11_foretoldCloud_24 (by decide) ?_
    exact hret _ _ _ _ _ _ _ _ (-1) (Nat.le_of_ble_eq_true rfl) (Nat.le_of_ble_eq_true rfl) dX11_foretoldCloud_25 (rfl) (by grind [zb])
  · refine x_aload_n hE dX11_foretoldCloud_10 rfl 0 rfl ?_
    refine h_getr hE hx rfl inZX11 0 (by decide) q556 rfl dX11_foretoldCloud_11 ?_
    refine h_getr hE hn rfl inZX4 0 (by decide) q362 rfl dX11_foretoldCloud_14 ?_
    refine x_iload_n hE dX11_foretoldCloud_17 rfl 2 rfl ?_
    refine c_ip hE (r_V (st := []) hE (k_hasPerson l D cy L σ φ ρ (p) hL) q1032 q1033 q1034 q115 q1035 hL rfl ⟨by decide, by decide, pn_X0_hasPerson⟩ ⟨Nat.le_of_ble_eq_true rfl, Nat.le_of_ble_eq_true rfl⟩ ⟨Nat.le_of_ble_eq_true rfl, Nat.le_of_ble_eq_true rfl⟩ rfl (Nat.le_of_ble_eq_true rfl) dX11_foretoldCloud_18) (fun r18 h18 => ?_)
    refine x_widen (k' := 0) (n' := 0) (Nat.le_of_ble_eq_true rfl) (Nat.le_of_ble_eq_true rfl) ?_
    refine x_norm (y := 0) (h18.trans (zb_f (fun e => z_le_nlt e.1 (p01 ▸ e.2)))) ?_
    refine x_if_ne (tgt := 26) hE dX11_foretoldCloud_21 (by decide) (fun c_21 => absurd c_21 (fun h => h (by decide))) (fun c_21 => ?_)
    refine x_iconst (v := -1) hE dX11_foretoldCloud_24 (by decide) ?_
    exact hret _ _ _ _ _ _ _ _ (-1) (Nat.le_of_ble_eq_true rfl) (Nat.le_of_ble_eq_true rfl) dX11_foretoldCloud_25 (rfl) (by grind [zb])
set_option maxHeartbeats 4000000 in
set_option maxRecDepth 100000 in
theorem o_plan (l : Launch) (D : va_G) (cy : Nat → ClassId) (L : List Nat) (σ : Nat → va_E) (φ : Nat → Nat → Nat → Int32) (ρ : Nat → Nat → Int32) {x : Nat} (p : Int32) (n : Int32) (i : Int32) (hx : zOR cy L σ φ x) : zMI l D cy yX11_plan cX11_plan 4 .int (zrm 3 0 0) [.ref x, .int p, .int n, .int i] L σ φ ρ (fun r _ => r = -1) := by
  refine zMI.mk (by decide) (Nat.le_of_ble_eq_true rfl) (fun E hE hret => ?_)
  show zW E 0 0 L σ φ ρ 0 [(0, .ref x), (1, .int p), (2, .int n), (3, .int i)] []
  obtain ⟨now, kept, tape, reader, weather, planner, ways, la, wo, sp, li, te, g, la', wo', sp', li', te', g', hx, hs, hs0, hk, hk0, htp, htp0, hrd, hrd0, hrd1, hwe, hwe0, hpl, hwy⟩ := hx
  obtain ⟨hn, hla, hwo, hsp, hli, hte⟩ := id hs
  obtain ⟨p45, p46, p00, p01, p10, p50, p51, pl0, pl1, pl2, pg⟩ := id hs0
  obtain ⟨f0, f1, f2, f3, f4, f5, f6, f7, hL, hL0, hL1, hL2, hL3, hL4, hL5, hL6, hL7⟩ := id hla
  obtain ⟨w0, w1, w2, w3, w4, w5, w6, w7, hW, hW0, hW1, hW2, hW3, hW4, hW5, hW6, hW7⟩ := id hwo
  obtain ⟨s0, s1, hSp, hSp0, hSp1, hSpW⟩ := id hsp
  obtain ⟨i0, i1, i2, i3, i4, i5, i6, i7, hLi, hLi0, hLi1, hLi2, hLi3, hLi4, hLi5, hLi6, hLi7⟩ := id hli
  obtain ⟨t0, t1, t2, t3, hTp, hTp0, hTp1, hTp2, hTp3, hTn1, hTn2⟩ := id htp
  refine x_aload_n hE dX11_plan_0 rfl 0 rfl ?_
  refine h_getr hE hx rfl inZX11 0 (by decide) q556 rfl dX11_plan_1 ?_
  refine h_getr hE hn rfl inZX4 0 (by decide) q362 rfl dX11_plan_4 ?_
  refine x_iload_n hE dX11_plan_7 rfl 1 rfl ?_
  refine c_ip hE (r_V (st := []) hE (k_hasPerson l D cy L σ φ ρ (p) hL) q1032 q1033 q1034 q115 q1035 hL rfl ⟨by decide, by decide, pn_X0_hasPerson⟩ ⟨Nat.le_of_ble_eq_true rfl, Nat.le_of_ble_eq_true rfl⟩ ⟨Nat.le_of_ble_eq_true rfl, Nat.le_of_ble_eq_true rfl⟩ rfl (Nat.le_of_ble_eq_true rfl) dX11_plan_8) (fun r8 h8 => ?_)
  refine x_widen (k' := 0) (n' := 0) (Nat.le_of_ble_eq_true rfl) (Nat.le_of_ble_eq_true rfl) ?_
  refine x_norm (y := 0) (h8.trans (zb_f (fun e => z_le_nlt e.1 (p01 ▸ e.2)))) ?_
  refine x_if_eq (tgt := 34) hE dX11_plan_11 (by decide) (fun c_11 => ?_) (fun c_11 => absurd (by decide) c_11)
  refine x_iconst (v := -1) hE dX11_plan_34 (by decide) ?_
  exact hret _ _ _ _ _ _ _ _ (-1) (Nat.le_of_ble_eq_true rfl) (Nat.le_of_ble_eq_true rfl) dX11_plan_35 (rfl) (by grind [zb])
set_option maxHeartbeats 4000000 in
set_option maxRecDepth 100000 in
theorem o_cross (l : Launch) (D : va_G) (cy : Nat → ClassId) (L : List Nat) (σ : Nat → va_E) (φ : Nat → Nat → Nat → Int32) (ρ : Nat → Nat → Int32) {x : Nat} (a : Int32) (b : Int32) (t : Int32) (i : Int32) (hx : zOR cy L σ φ x) : zMI l D cy yX11_cross cX11_cross 6 .int (zrm 3 0 0) [.ref x, .int a, .int b, .int t, .int i] L σ φ ρ (fun r _ => r = -1) := by
  refine zMI.mk (by decide) (Nat.le_of_ble_eq_true rfl) (fun E hE hret => ?_)
  show zW E 0 0 L σ φ ρ 0 [(0, .ref x), (1, .int a), (2, .int b), (3, .int t), (4, .int i)] []
  obtain ⟨now, kept, tape, reader, weather, planner, ways, la, wo, sp, li, te, g, la', wo', sp', li', te', g', hx, hs, hs0, hk, hk0, htp, htp0, hrd, hrd0, hrd1, hwe, hwe0, hpl, hwy⟩ := hx
  obtain ⟨hn, hla, hwo, hsp, hli, hte⟩ := id hs
  obtain ⟨p45, p46, p00, p01, p10, p50, p51, pl0, pl1, pl2, pg⟩ := id hs0
  obtain ⟨f0, f1, f2, f3, f4, f5, f6, f7, hL, hL0, hL1, hL2, hL3, hL4, hL5, hL6, hL7⟩ := id hla
  obtain ⟨w0, w1, w2, w3, w4, w5, w6, w7, hW, hW0, hW1, hW2, hW3, hW4, hW5, hW6, hW7⟩ := id hwo
  obtain ⟨s0, s1, hSp, hSp0, hSp1, hSpW⟩ := id hsp
  obtain ⟨i0, i1, i2, i3, i4, i5, i6, i7, hLi, hLi0, hLi1, hLi2, hLi3, hLi4, hLi5, hLi6, hLi7⟩ := id hli
  obtain ⟨t0, t1, t2, t3, hTp, hTp0, hTp1, hTp2, hTp3, hTn1, hTn2⟩ := id htp
  refine x_aload_n hE dX11_cross_0 rfl 0 rfl ?_
  refine h_getr hE hx rfl inZX11 0 (by decide) q556 rfl dX11_cross_1 ?_
  refine h_getr hE hn rfl inZX4 0 (by decide) q362 rfl dX11_cross_4 ?_
  refine x_iload_n hE dX11_cross_7 rfl 1 rfl ?_
  refine c_ip hE (r_V (st := []) hE (k_hasField l D cy L σ φ ρ (a) hL) q593 q594 q595 q115 q596 hL rfl ⟨by decide, by decide, pn_X0_hasField⟩ ⟨Nat.le_of_ble_eq_true rfl, Nat.le_of_ble_eq_true rfl⟩ ⟨Nat.le_of_ble_eq_true rfl, Nat.le_of_ble_eq_true rfl⟩ rfl (Nat.le_of_ble_eq_true rfl) dX11_cross_8) (fun r8 h8 => ?_)
  refine x_widen (k' := 0) (n' := 0) (Nat.le_of_ble_eq_true rfl) (Nat.le_of_ble_eq_true rfl) ?_
  refine x_norm (y := 0) (h8.trans (zb_f (fun e => z_le_nlt e.1 (p00 ▸ e.2)))) ?_
  refine x_if_eq (tgt := 39) hE dX11_cross_11 (by decide) (fun c_11 => ?_) (fun c_11 => absurd (by decide) c_11)
  refine x_iconst (v := -1) hE dX11_cross_39 (by decide) ?_
  exact hret _ _ _ _ _ _ _ _ (-1) (Nat.le_of_ble_eq_true rfl) (Nat.le_of_ble_eq_true rfl) dX11_cross_40 (rfl) (by grind [zb])
set_option maxHeartbeats 4000000 in
set_option maxRecDepth 100000 in
theorem o_widest (l : Launch) (D : va_G) (cy : Nat → ClassId) (L : List Nat) (σ : Nat → va_E) (φ : Nat → Nat → Nat → Int32) (ρ : Nat → Nat → Int32) {x : Nat} (a : Int32) (b : Int32) (hx : zOR cy L σ φ x) : zMI l D cy yX11_widest cX11_widest 3 .int (zrm 3 0 0) [.ref x, .int a, .int b] L σ φ ρ (fun r _ => r = -1) := by
  refine zMI.mk (by decide) (Nat.le_of_ble_eq_true rfl) (fun E hE hret => ?_)
  show zW E 0 0 L σ φ ρ 0 [(0, .ref x), (1, .int a), (2, .int b)] []
  obtain ⟨now, kept, tape, reader, weather, planner, ways, la, wo, sp, li, te, g, la', wo', sp', li', te', g', hx, hs, hs0, hk, hk0, htp, htp0, hrd, hrd0, hrd1, hwe, hwe0, hpl, hwy⟩ := hx
  obtain ⟨hn, hla, hwo, hsp, hli, hte⟩ := id hs
  obtain ⟨p45, p46, p00, p01, p10, p50, p51, pl0, pl1, pl2, pg⟩ := id hs0
  obtain ⟨f0, f1, f2, f3, f4, f5, f6, f7, hL, hL0, hL1, hL2, hL3, hL4, hL5, hL6, hL7⟩ := id hla
  obtain ⟨w0, w1, w2, w3, w4, w5, w6, w7, hW, hW0, hW1, hW2, hW3, hW4, hW5, hW6, hW7⟩ := id hwo
  obtain ⟨s0, s1, hSp, hSp0, hSp1, hSpW⟩ := id hsp
  obtain ⟨i0, i1, i2, i3, i4, i5, i6, i7, hLi, hLi0, hLi1, hLi2, hLi3, hLi4, hLi5, hLi6, hLi7⟩ := id hli
  obtain ⟨t0, t1, t2, t3, hTp, hTp0, hTp1, hTp2, hTp3, hTn1, hTn2⟩ := id htp
  refine x_aload_n hE dX11_widest_0 rfl 0 rfl ?_
  refine h_getr hE hx rfl inZX11 0 (by decide) q556 rfl dX11_widest_1 ?_
  refine h_getr hE hn rfl inZX4 0 (by decide) q362 rfl dX11_widest_4 ?_
  refine x_iload_n hE dX11_widest_7 rfl 1 rfl ?_
  refine c_ip hE (r_V (st := []) hE (k_hasField l D cy L σ φ ρ (a) hL) q593 q594 q595 q115 q596 hL rfl ⟨by decide, by decide, pn_X0_hasField⟩ ⟨Nat.le_of_ble_eq_true rfl, Nat.le_of_ble_eq_true rfl⟩ ⟨Nat.le_of_ble_eq_true rfl, Nat.le_of_ble_eq_true rfl⟩ rfl (Nat.le_of_ble_eq_true rfl) dX11_widest_8) (fun r8 h8 => ?_)
  refine x_widen (k' := 0) (n' := 0) (Nat.le_of_ble_eq_true rfl) (Nat.le_of_ble_eq_true rfl) ?_
  refine x_norm (y := 0) (h8.trans (zb_f (fun e => z_le_nlt e.1 (p00 ▸ e.2)))) ?_
  refine x_if_eq (tgt := 28) hE dX11_widest_11 (by decide) (fun c_11 => ?_) (fun c_11 => absurd (by decide) c_11)
  refine x_iconst (v := -1) hE dX11_widest_28 (by decide) ?_
  exact hret _ _ _ _ _ _ _ _ (-1) (Nat.le_of_ble_eq_true rfl) (Nat.le_of_ble_eq_true rfl) dX11_widest_29 (rfl) (by grind [zb])
set_option maxHeartbeats 4000000 in
set_option maxRecDepth 100000 in
theorem o_missing (l : Launch) (D : va_G) (cy : Nat → ClassId) (L : List Nat) (σ : Nat → va_E) (φ : Nat → Nat → Nat → Int32) (ρ : Nat → Nat → Int32) {x : Nat} (p : Int32) (a : Int32) (b : Int32) (hx : zOR cy L σ φ x) : zMI l D cy yX11_missing cX11_missing 5 .int (zrm 3 0 0) [.ref x, .int p, .int a, .int b] L σ φ ρ (fun r _ => r = if p = -1 then 0 else -2) := by
  refine zMI.mk (by decide) (Nat.le_of_ble_eq_true rfl) (fun E hE hret => ?_)
  show zW E 0 0 L σ φ ρ 0 [(0, .ref x), (1, .int p), (2, .int a), (3, .int b)] []
  obtain ⟨now, kept, tape, reader, weather, planner, ways, la, wo, sp, li, te, g, la', wo', sp', li', te', g', hx, hs, hs0, hk, hk0, htp, htp0, hrd, hrd0, hrd1, hwe, hwe0, hpl, hwy⟩ := hx
  obtain ⟨hn, hla, hwo, hsp, hli, hte⟩ := id hs
  obtain ⟨p45, p46, p00, p01, p10, p50, p51, pl0, pl1, pl2, pg⟩ := id hs0
  obtain ⟨f0, f1, f2, f3, f4, f5, f6, f7, hL, hL0, hL1, hL2, hL3, hL4, hL5, hL6, hL7⟩ := id hla
  obtain ⟨w0, w1, w2, w3, w4, w5, w6, w7, hW, hW0, hW1, hW2, hW3, hW4, hW5, hW6, hW7⟩ := id hwo
  obtain ⟨s0, s1, hSp, hSp0, hSp1, hSpW⟩ := id hsp
  obtain ⟨i0, i1, i2, i3, i4, i5, i6, i7, hLi, hLi0, hLi1, hLi2, hLi3, hLi4, hLi5, hLi6, hLi7⟩ := id hli
  obtain ⟨t0, t1, t2, t3, hTp, hTp0, hTp1, hTp2, hTp3, hTn1, hTn2⟩ := id htp
  refine x_aload_n hE dX11_missing_0 rfl 0 rfl ?_
  refine h_getr hE hx rfl inZX11 0 (by decide) q556 rfl dX11_missing_1 ?_
  refine h_getr hE hn rfl inZX4 3 (by decide) q373 rfl dX11_missing_4 ?_
  refine x_astore (lv' := [(4, .ref li), (0, .ref x), (1, .int p), (2, .int a), (3, .int b)]) hE dX11_missing_7 (by decide) rfl ?_
  refine x_iload_n hE dX11_missing_9 rfl 2 rfl ?_
  refine x_iconst (v := -1) hE dX11_missing_10 (by decide) ?_
  refine x_icmp_ne (tgt := 22) hE dX11_missing_11 (by decide) (fun c_11 => ?_) (fun c_11 => ?_)
  · refine x_aload_n hE dX11_missing_22 rfl 1 rfl ?_
    refine h_getr hE hx rfl inZX11 0 (by decide) q556 rfl dX11_missing_23 ?_
    refine h_getr hE hn rfl inZX4 0 (by decide) q362 rfl dX11_missing_26 ?_
    refine x_iload_n hE dX11_missing_29 rfl 2 rfl ?_
    refine c_ip hE (r_V (st := []) hE (k_hasPerson l D cy L σ φ ρ (p) hL) q1032 q1033 q1034 q115 q1035 hL rfl ⟨by decide, by decide, pn_X0_hasPerson⟩ ⟨Nat.le_of_ble_eq_true rfl, Nat.le_of_ble_eq_true rfl⟩ ⟨Nat.le_of_ble_eq_true rfl, Nat.le_of_ble_eq_true rfl⟩ rfl (Nat.le_of_ble_eq_true rfl) dX11_missing_30) (fun r30 h30 => ?_)
    refine x_widen (k' := 0) (n' := 0) (Nat.le_of_ble_eq_true rfl) (Nat.le_of_ble_eq_true rfl) ?_
    refine x_norm (y := 0) (h30.trans (zb_f (fun e => z_le_nlt e.1 (p01 ▸ e.2)))) ?_
    refine x_if_eq (tgt := 62) hE dX11_missing_33 (by decide) (fun c_33 => ?_) (fun c_33 => absurd (by decide) c_33)
    refine x_bipush (v := -2) hE dX11_missing_62 (by decide) ?_
    exact hret _ _ _ _ _ _ _ _ (-2) (Nat.le_of_ble_eq_true rfl) (Nat.le_of_ble_eq_true rfl) dX11_missing_64 (rfl) (by grind [zb])
  · refine x_aload hE dX11_missing_14 0 rfl ?_
    refine x_iconst (v := 0) hE dX11_missing_16 (by decide) ?_
    refine h_puti (ty := .int) (ty0 := tyX1) hE hLi rfl inZX1 tyX1_ok nmX1 0 (by decide) q319 rfl rfl (by decide +kernel) rfl rfl dX11_missing_17 ?_
    refine x_iconst (v := 0) hE dX11_missing_20 (by decide) ?_
    exact hret _ _ _ _ _ _ _ _ (0) (Nat.le_of_ble_eq_true rfl) (Nat.le_of_ble_eq_true rfl) dX11_missing_21 (rfl) (by grind [zb])
set_option maxHeartbeats 4000000 in
set_option maxRecDepth 100000 in
theorem o_water (l : Launch) (D : va_G) (cy : Nat → ClassId) (L : List Nat) (σ : Nat → va_E) (φ : Nat → Nat → Nat → Int32) (ρ : Nat → Nat → Int32) {x : Nat}  (hx : zOR cy L σ φ x) : zMI l D cy yX11_water cX11_water 4 .int (zrm 3 0 0) [.ref x] L σ φ ρ (fun r _ => r = 0) := by
  refine zMI.mk (by decide) (Nat.le_of_ble_eq_true rfl) (fun E hE hret => ?_)
  show zW E 0 0 L σ φ ρ 0 [(0, .ref x)] []
  obtain ⟨now, kept, tape, reader, weather, planner, ways, la, wo, sp, li, te, g, la', wo', sp', li', te', g', hx, hs, hs0, hk, hk0, htp, htp0, hrd, hrd0, hrd1, hwe, hwe0, hpl, hwy⟩ := hx
  obtain ⟨hn, hla, hwo, hsp, hli, hte⟩ := id hs
  obtain ⟨p45, p46, p00, p01, p10, p50, p51, pl0, pl1, pl2, pg⟩ := id hs0
  obtain ⟨f0, f1, f2, f3, f4, f5, f6, f7, hL, hL0, hL1, hL2, hL3, hL4, hL5, hL6, hL7⟩ := id hla
  obtain ⟨w0, w1, w2, w3, w4, w5, w6, w7, hW, hW0, hW1, hW2, hW3, hW4, hW5, hW6, hW7⟩ := id hwo
  obtain ⟨s0, s1, hSp, hSp0, hSp1, hSpW⟩ := id hsp
  obtain ⟨i0, i1, i2, i3, i4, i5, i6, i7, hLi, hLi0, hLi1, hLi2, hLi3, hLi4, hLi5, hLi6, hLi7⟩ := id hli
  obtain ⟨t0, t1, t2, t3, hTp, hTp0, hTp1, hTp2, hTp3, hTn1, hTn2⟩ := id htp
  refine x_aload_n hE dX11_water_0 rfl 0 rfl ?_
  refine h_getr hE hx rfl inZX11 0 (by decide) q556 rfl dX11_water_1 ?_
  refine h_getr hE hn rfl inZX4 1 (by decide) q369 rfl dX11_water_4 ?_
  refine x_astore_n (lv' := [(1, .ref wo), (0, .ref x)]) hE dX11_water_7 rfl (by decide) rfl ?_
  refine x_aload_n hE dX11_water_8 rfl 0 rfl ?_
  refine h_geti hE hW rfl inZX10 6 (by decide) q240 rfl dX11_water_9 ?_
  refine x_norm (y := 0) (by simpa using p10 6) ?_
  refine x_aload_n hE dX11_water_12 rfl 0 rfl ?_
  refine h_geti hE hW rfl inZX10 8 (by decide) q246 rfl dX11_water_13 ?_
  refine x_norm (y := 0) (by simpa using p10 8) ?_
  refine x_iadd hE dX11_water_16 ?_
  refine x_norm (y := 0) (by decide) ?_
  refine x_aload_n hE dX11_water_17 rfl 0 rfl ?_
  refine h_geti hE hW rfl inZX10 7 (by decide) q243 rfl dX11_water_18 ?_
  refine x_norm (y := 0) (by simpa using p10 7) ?_
  refine x_isub hE dX11_water_21 ?_
  refine x_norm (y := 0) (by decide) ?_
  refine x_istore_n (lv' := [(2, .int 0), (1, .ref wo), (0, .ref x)]) hE dX11_water_22 rfl (by decide) rfl ?_
  refine x_iconst (v := 0) hE dX11_water_23 (by decide) ?_
  refine x_istore_n (lv' := [(3, .int 0), (2, .int 0), (1, .ref wo), (0, .ref x)]) hE dX11_water_24 rfl (by decide) rfl ?_
  refine x_iload_n hE dX11_water_25 rfl 0 rfl ?_
  refine x_aload_n hE dX11_water_26 rfl 3 rfl ?_
  refine h_getr hE hx rfl inZX11 0 (by decide) q556 rfl dX11_water_27 ?_
  refine h_getr hE hn rfl inZX4 0 (by decide) q362 rfl dX11_water_30 ?_
  refine h_geti hE hL rfl inZX0 1 (by decide) q161 rfl dX11_water_33 ?_
  refine x_norm (y := 0) (p01) ?_
  refine x_icmp_ge (tgt := 54) hE dX11_water_36 (by decide) (fun c_36 => ?_) (fun c_36 => absurd (by decide) c_36)
  refine x_iconst (v := 0) hE dX11_water_54 (by decide) ?_
  refine x_istore_n (lv' := [(3, .int 0), (2, .int 0), (1, .ref wo), (0, .ref x)]) hE dX11_water_55 rfl (by decide) rfl ?_
  refine x_iload_n hE dX11_water_56 rfl 0 rfl ?_
  refine x_aload_n hE dX11_water_57 rfl 3 rfl ?_
  refine h_getr hE hx rfl inZX11 0 (by decide) q556 rfl dX11_water_58 ?_
  refine h_getr hE hn rfl inZX4 0 (by decide) q362 rfl dX11_water_61 ?_
  refine h_geti hE hL rfl inZX0 0 (by decide) q156 rfl dX11_water_64 ?_
  refine x_norm (y := 0) (p00) ?_
  refine x_icmp_ge (tgt := 85) hE dX11_water_67 (by decide) (fun c_67 => ?_) (fun c_67 => absurd (by decide) c_67)
  refine x_iload_n hE dX11_water_85 rfl 1 rfl ?_
  exact hret _ _ _ _ _ _ _ _ (0) (Nat.le_of_ble_eq_true rfl) (Nat.le_of_ble_eq_true rfl) dX11_water_86 (rfl) (by grind [zb])
