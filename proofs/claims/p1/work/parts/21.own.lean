theorem dJ6_bitCount_0f7a4_0 : decode cJ6_bitCount_0f7a4 0 = .ok (.iload_n 0, 1) := by decide +kernel
theorem dJ6_bitCount_0f7a4_1 : decode cJ6_bitCount_0f7a4 1 = .ok (.iload_n 0, 1) := by decide +kernel
theorem dJ6_bitCount_0f7a4_2 : decode cJ6_bitCount_0f7a4 2 = .ok (.iconst 1, 1) := by decide +kernel
theorem dJ6_bitCount_0f7a4_3 : decode cJ6_bitCount_0f7a4 3 = .ok (.iushr, 1) := by decide +kernel
theorem dJ6_bitCount_0f7a4_4 : decode cJ6_bitCount_0f7a4 4 = .ok (.ldc_w 265, 3) := by decide +kernel
theorem dJ6_bitCount_0f7a4_7 : decode cJ6_bitCount_0f7a4 7 = .ok (.iand, 1) := by decide +kernel
theorem dJ6_bitCount_0f7a4_8 : decode cJ6_bitCount_0f7a4 8 = .ok (.isub, 1) := by decide +kernel
theorem dJ6_bitCount_0f7a4_9 : decode cJ6_bitCount_0f7a4 9 = .ok (.istore_n 0, 1) := by decide +kernel
theorem dJ6_bitCount_0f7a4_10 : decode cJ6_bitCount_0f7a4 10 = .ok (.iload_n 0, 1) := by decide +kernel
theorem dJ6_bitCount_0f7a4_11 : decode cJ6_bitCount_0f7a4 11 = .ok (.ldc_w 266, 3) := by decide +kernel
theorem dJ6_bitCount_0f7a4_14 : decode cJ6_bitCount_0f7a4 14 = .ok (.iand, 1) := by decide +kernel
theorem dJ6_bitCount_0f7a4_15 : decode cJ6_bitCount_0f7a4 15 = .ok (.iload_n 0, 1) := by decide +kernel
theorem dJ6_bitCount_0f7a4_16 : decode cJ6_bitCount_0f7a4 16 = .ok (.iconst 2, 1) := by decide +kernel
theorem dJ6_bitCount_0f7a4_17 : decode cJ6_bitCount_0f7a4 17 = .ok (.iushr, 1) := by decide +kernel
theorem dJ6_bitCount_0f7a4_18 : decode cJ6_bitCount_0f7a4 18 = .ok (.ldc_w 266, 3) := by decide +kernel
theorem dJ6_bitCount_0f7a4_21 : decode cJ6_bitCount_0f7a4 21 = .ok (.iand, 1) := by decide +kernel
theorem dJ6_bitCount_0f7a4_22 : decode cJ6_bitCount_0f7a4 22 = .ok (.iadd, 1) := by decide +kernel
theorem dJ6_bitCount_0f7a4_23 : decode cJ6_bitCount_0f7a4 23 = .ok (.istore_n 0, 1) := by decide +kernel
theorem dJ6_bitCount_0f7a4_24 : decode cJ6_bitCount_0f7a4 24 = .ok (.iload_n 0, 1) := by decide +kernel
theorem dJ6_bitCount_0f7a4_25 : decode cJ6_bitCount_0f7a4 25 = .ok (.iload_n 0, 1) := by decide +kernel
theorem dJ6_bitCount_0f7a4_26 : decode cJ6_bitCount_0f7a4 26 = .ok (.iconst 4, 1) := by decide +kernel
theorem dJ6_bitCount_0f7a4_27 : decode cJ6_bitCount_0f7a4 27 = .ok (.iushr, 1) := by decide +kernel
theorem dJ6_bitCount_0f7a4_28 : decode cJ6_bitCount_0f7a4 28 = .ok (.iadd, 1) := by decide +kernel
theorem dJ6_bitCount_0f7a4_29 : decode cJ6_bitCount_0f7a4 29 = .ok (.ldc_w 267, 3) := by decide +kernel
theorem dJ6_bitCount_0f7a4_32 : decode cJ6_bitCount_0f7a4 32 = .ok (.iand, 1) := by decide +kernel
theorem dJ6_bitCount_0f7a4_33 : decode cJ6_bitCount_0f7a4 33 = .ok (.istore_n 0, 1) := by decide +kernel
theorem dJ6_bitCount_0f7a4_34 : decode cJ6_bitCount_0f7a4 34 = .ok (.iload_n 0, 1) := by decide +kernel
theorem dJ6_bitCount_0f7a4_35 : decode cJ6_bitCount_0f7a4 35 = .ok (.iload_n 0, 1) := by decide +kernel
theorem dJ6_bitCount_0f7a4_36 : decode cJ6_bitCount_0f7a4 36 = .ok (.bipush 8, 2) := by decide +kernel
theorem dJ6_bitCount_0f7a4_38 : decode cJ6_bitCount_0f7a4 38 = .ok (.iushr, 1) := by decide +kernel
theorem dJ6_bitCount_0f7a4_39 : decode cJ6_bitCount_0f7a4 39 = .ok (.iadd, 1) := by decide +kernel
theorem dJ6_bitCount_0f7a4_40 : decode cJ6_bitCount_0f7a4 40 = .ok (.istore_n 0, 1) := by decide +kernel
theorem dJ6_bitCount_0f7a4_41 : decode cJ6_bitCount_0f7a4 41 = .ok (.iload_n 0, 1) := by decide +kernel
theorem dJ6_bitCount_0f7a4_42 : decode cJ6_bitCount_0f7a4 42 = .ok (.iload_n 0, 1) := by decide +kernel
theorem dJ6_bitCount_0f7a4_43 : decode cJ6_bitCount_0f7a4 43 = .ok (.bipush 16, 2) := by decide +kernel
theorem dJ6_bitCount_0f7a4_45 : decode cJ6_bitCount_0f7a4 45 = .ok (.iushr, 1) := by decide +kernel
theorem dJ6_bitCount_0f7a4_46 : decode cJ6_bitCount_0f7a4 46 = .ok (.iadd, 1) := by decide +kernel
theorem dJ6_bitCount_0f7a4_47 : decode cJ6_bitCount_0f7a4 47 = .ok (.istore_n 0, 1) := by decide +kernel
theorem dJ6_bitCount_0f7a4_48 : decode cJ6_bitCount_0f7a4 48 = .ok (.iload_n 0, 1) := by decide +kernel
theorem dJ6_bitCount_0f7a4_49 : decode cJ6_bitCount_0f7a4 49 = .ok (.bipush 63, 2) := by decide +kernel
theorem dJ6_bitCount_0f7a4_51 : decode cJ6_bitCount_0f7a4 51 = .ok (.iand, 1) := by decide +kernel
theorem dJ6_bitCount_0f7a4_52 : decode cJ6_bitCount_0f7a4 52 = .ok (.ireturn, 1) := by decide +kernel
theorem dX11_isSet_0 : decode cX11_isSet 0 = .ok (.iload_n 0, 1) := by decide +kernel
theorem dX11_isSet_1 : decode cX11_isSet 1 = .ok (.iconst 1, 1) := by decide +kernel
theorem dX11_isSet_2 : decode cX11_isSet 2 = .ok (.iload_n 1, 1) := by decide +kernel
theorem dX11_isSet_3 : decode cX11_isSet 3 = .ok (.ishl, 1) := by decide +kernel
theorem dX11_isSet_4 : decode cX11_isSet 4 = .ok (.ineg, 1) := by decide +kernel
theorem dX11_isSet_5 : decode cX11_isSet 5 = .ok (.iand, 1) := by decide +kernel
theorem dX11_isSet_6 : decode cX11_isSet 6 = .ok (.ifCond .ne 7, 3) := by decide +kernel
theorem dX11_isSet_9 : decode cX11_isSet 9 = .ok (.iconst 1, 1) := by decide +kernel
theorem dX11_isSet_10 : decode cX11_isSet 10 = .ok (.goto 4, 3) := by decide +kernel
theorem dX11_isSet_13 : decode cX11_isSet 13 = .ok (.iconst 0, 1) := by decide +kernel
theorem dX11_isSet_14 : decode cX11_isSet 14 = .ok (.ireturn, 1) := by decide +kernel
theorem dX4_canGo_0 : decode cX4_canGo 0 = .ok (.aload_n 0, 1) := by decide +kernel
theorem dX4_canGo_1 : decode cX4_canGo 1 = .ok (.getfield 12, 3) := by decide +kernel
theorem dX4_canGo_4 : decode cX4_canGo 4 = .ok (.iload_n 1, 1) := by decide +kernel
theorem dX4_canGo_5 : decode cX4_canGo 5 = .ok (.invokevirtual 56, 3) := by decide +kernel
theorem dX4_canGo_8 : decode cX4_canGo 8 = .ok (.ifCond .eq 38, 3) := by decide +kernel
theorem dX4_canGo_46 : decode cX4_canGo 46 = .ok (.iconst 0, 1) := by decide +kernel
theorem dX4_canGo_47 : decode cX4_canGo 47 = .ok (.ireturn, 1) := by decide +kernel
theorem dX4_canMeet_0 : decode cX4_canMeet 0 = .ok (.aload_n 0, 1) := by decide +kernel
theorem dX4_canMeet_1 : decode cX4_canMeet 1 = .ok (.getfield 12, 3) := by decide +kernel
theorem dX4_canMeet_4 : decode cX4_canMeet 4 = .ok (.iload_n 1, 1) := by decide +kernel
theorem dX4_canMeet_5 : decode cX4_canMeet 5 = .ok (.invokevirtual 56, 3) := by decide +kernel
theorem dX4_canMeet_8 : decode cX4_canMeet 8 = .ok (.ifCond .eq 44, 3) := by decide +kernel
theorem dX4_canMeet_52 : decode cX4_canMeet 52 = .ok (.iconst 0, 1) := by decide +kernel
theorem dX4_canMeet_53 : decode cX4_canMeet 53 = .ok (.ireturn, 1) := by decide +kernel
theorem dX4_canTake_0 : decode cX4_canTake 0 = .ok (.aload_n 0, 1) := by decide +kernel
theorem dX4_canTake_1 : decode cX4_canTake 1 = .ok (.iload_n 1, 1) := by decide +kernel
theorem dX4_canTake_2 : decode cX4_canTake 2 = .ok (.iload_n 2, 1) := by decide +kernel
theorem dX4_canTake_3 : decode cX4_canTake 3 = .ok (.invokevirtual 70, 3) := by decide +kernel
theorem dX4_canTake_6 : decode cX4_canTake 6 = .ok (.ifCond .eq 47, 3) := by decide +kernel
theorem dX4_canTake_53 : decode cX4_canTake 53 = .ok (.iconst 0, 1) := by decide +kernel
theorem dX4_canTake_54 : decode cX4_canTake 54 = .ok (.ireturn, 1) := by decide +kernel
theorem dX4_hasText_0 : decode cX4_hasText 0 = .ok (.iload_n 1, 1) := by decide +kernel
theorem dX4_hasText_1 : decode cX4_hasText 1 = .ok (.ifCond .lt 24, 3) := by decide +kernel
theorem dX4_hasText_4 : decode cX4_hasText 4 = .ok (.iload_n 1, 1) := by decide +kernel
theorem dX4_hasText_5 : decode cX4_hasText 5 = .ok (.aload_n 0, 1) := by decide +kernel
theorem dX4_hasText_6 : decode cX4_hasText 6 = .ok (.getfield 49, 3) := by decide +kernel
theorem dX4_hasText_9 : decode cX4_hasText 9 = .ok (.if_icmp .ge 16, 3) := by decide +kernel
theorem dX4_hasText_25 : decode cX4_hasText 25 = .ok (.iconst 0, 1) := by decide +kernel
theorem dX4_hasText_26 : decode cX4_hasText 26 = .ok (.ireturn, 1) := by decide +kernel
theorem dX4_takeBack_0 : decode cX4_takeBack 0 = .ok (.aload_n 0, 1) := by decide +kernel
theorem dX4_takeBack_1 : decode cX4_takeBack 1 = .ok (.getfield 28, 3) := by decide +kernel
theorem dX4_takeBack_4 : decode cX4_takeBack 4 = .ok (.getfield 87, 3) := by decide +kernel
theorem dX4_takeBack_7 : decode cX4_takeBack 7 = .ok (.iconst 1, 1) := by decide +kernel
theorem dX4_takeBack_8 : decode cX4_takeBack 8 = .ok (.if_icmp .ge 5, 3) := by decide +kernel
theorem dX4_takeBack_11 : decode cX4_takeBack 11 = .ok (.iconst (-1), 1) := by decide +kernel
theorem dX4_takeBack_12 : decode cX4_takeBack 12 = .ok (.ireturn, 1) := by decide +kernel
theorem z_and1 (b : Int32) : b &&& (-1) = b := by
  apply Int32.toBitVec_inj.mp
  simp
set_option maxHeartbeats 4000000 in
set_option maxRecDepth 100000 in
theorem k_isSet0 (l : Launch) (D : va_G) (cy : Nat → ClassId) (L : List Nat) (σ : Nat → va_E) (φ : Nat → Nat → Nat → Int32) (ρ : Nat → Nat → Int32) (b : Int32) : zMI l D cy yX11_isSet cX11_isSet 2 .boolean (zrm 0 0 0) [.int b, .int 0] L σ φ ρ (zpu L σ φ ρ (fun r => r = zb (b = 0))) := by
  refine zMI.mk (by decide) (Nat.le_of_ble_eq_true rfl) (fun E hE hret => ?_)
  show zW E 0 0 L σ φ ρ 0 [(0, .int b), (1, .int 0)] []
  refine x_iload_n hE dX11_isSet_0 rfl 0 rfl ?_
  refine x_iconst (v := 1) hE dX11_isSet_1 (by decide) ?_
  refine x_iload_n hE dX11_isSet_2 rfl 1 rfl ?_
  refine x_ishl hE dX11_isSet_3 ?_
  refine x_norm (y := 1) (by decide) ?_
  refine x_ineg hE dX11_isSet_4 ?_
  refine x_norm (y := -1) (by decide) ?_
  refine x_iand hE dX11_isSet_5 ?_
  refine x_norm (y := b) (z_and1 b) ?_
  refine x_if_ne (tgt := 13) hE dX11_isSet_6 (by decide) (fun c_6 => ?_) (fun c_6 => ?_)
  · refine x_iconst (v := 0) hE dX11_isSet_13 (by decide) ?_
    exact hret _ _ _ _ _ _ _ _ (0) (Nat.le_of_ble_eq_true rfl) (Nat.le_of_ble_eq_true rfl) dX11_isSet_14 (rfl) (⟨rfl, by grind [zb]⟩)
  · refine x_iconst (v := 1) hE dX11_isSet_9 (by decide) ?_
    refine x_goto (tgt := 14) hE dX11_isSet_10 (by decide) ?_
    exact hret _ _ _ _ _ _ _ _ (1) (Nat.le_of_ble_eq_true rfl) (Nat.le_of_ble_eq_true rfl) dX11_isSet_14 (rfl) (⟨rfl, by grind [zb]⟩)
set_option maxHeartbeats 4000000 in
set_option maxRecDepth 100000 in
theorem k_bitCount (l : Launch) (D : va_G) (cy : Nat → ClassId) (L : List Nat) (σ : Nat → va_E) (φ : Nat → Nat → Nat → Int32) (ρ : Nat → Nat → Int32) (x : Int32) : zMI l D cy yJ6_bitCount_0f7a4 cJ6_bitCount_0f7a4 1 .int (zrm 0 0 0) [.int x] L σ φ ρ (zpu L σ φ ρ (fun r => x = 0 → r = 0)) := by
  refine zMI.mk (by decide) (Nat.le_of_ble_eq_true rfl) (fun E hE hret => ?_)
  show zW E 0 0 L σ φ ρ 0 [(0, .int x)] []
  refine x_iload_n hE dJ6_bitCount_0f7a4_0 rfl 0 rfl ?_
  refine x_iload_n hE dJ6_bitCount_0f7a4_1 rfl 0 rfl ?_
  refine x_iconst (v := 1) hE dJ6_bitCount_0f7a4_2 (by decide) ?_
  refine x_iushr hE dJ6_bitCount_0f7a4_3 ?_
  refine x_ldcw (v := 1431655765) hE q1025 dJ6_bitCount_0f7a4_4 ?_
  refine x_iand hE dJ6_bitCount_0f7a4_7 ?_
  refine x_isub hE dJ6_bitCount_0f7a4_8 ?_
  refine x_istore_n (lv' := [(0, .int ((x) - (((Int32.toUInt32 (x) >>> (Int32.toUInt32 (1) &&& Int32.toUInt32 31)).toInt32) &&& (1431655765))))]) hE dJ6_bitCount_0f7a4_9 rfl (by decide) rfl ?_
  refine x_iload_n hE dJ6_bitCount_0f7a4_10 rfl 0 rfl ?_
  refine x_ldcw (v := 858993459) hE q1026 dJ6_bitCount_0f7a4_11 ?_
  refine x_iand hE dJ6_bitCount_0f7a4_14 ?_
  refine x_iload_n hE dJ6_bitCount_0f7a4_15 rfl 0 rfl ?_
  refine x_iconst (v := 2) hE dJ6_bitCount_0f7a4_16 (by decide) ?_
  refine x_iushr hE dJ6_bitCount_0f7a4_17 ?_
  refine x_ldcw (v := 858993459) hE q1026 dJ6_bitCount_0f7a4_18 ?_
  refine x_iand hE dJ6_bitCount_0f7a4_21 ?_
  refine x_iadd hE dJ6_bitCount_0f7a4_22 ?_
  refine x_istore_n (lv' := [(0, .int ((((x) - (((Int32.toUInt32 (x) >>> (Int32.toUInt32 (1) &&& Int32.toUInt32 31)).toInt32) &&& (1431655765))) &&& (858993459)) + (((Int32.toUInt32 ((x) - (((Int32.toUInt32 (x) >>> (Int32.toUInt32 (1) &&& Int32.toUInt32 31)).toInt32) &&& (1431655765))) >>> (Int32.toUInt32 (2) &&& Int32.toUInt32 31)).toInt32) &&& (858993459))))]) hE dJ6_bitCount_0f7a4_23 rfl (by decide) rfl ?_
  refine x_iload_n hE dJ6_bitCount_0f7a4_24 rfl 0 rfl ?_
  refine x_iload_n hE dJ6_bitCount_0f7a4_25 rfl 0 rfl ?_
  refine x_iconst (v := 4) hE dJ6_bitCount_0f7a4_26 (by decide) ?_
  refine x_iushr hE dJ6_bitCount_0f7a4_27 ?_
  refine x_iadd hE dJ6_bitCount_0f7a4_28 ?_
  refine x_ldcw (v := 252645135) hE q1027 dJ6_bitCount_0f7a4_29 ?_
  refine x_iand hE dJ6_bitCount_0f7a4_32 ?_
  refine x_istore_n (lv' := [(0, .int ((((((x) - (((Int32.toUInt32 (x) >>> (Int32.toUInt32 (1) &&& Int32.toUInt32 31)).toInt32) &&& (1431655765))) &&& (858993459)) + (((Int32.toUInt32 ((x) - (((Int32.toUInt32 (x) >>> (Int32.toUInt32 (1) &&& Int32.toUInt32 31)).toInt32) &&& (1431655765))) >>> (Int32.toUInt32 (2) &&& Int32.toUInt32 31)).toInt32) &&& (858993459))) + ((Int32.toUInt32 ((((x) - (((Int32.toUInt32 (x) >>> (Int32.toUInt32 (1) &&& Int32.toUInt32 31)).toInt32) &&& (1431655765))) &&& (858993459)) + (((Int32.toUInt32 ((x) - (((Int32.toUInt32 (x) >>> (Int32.toUInt32 (1) &&& Int32.toUInt32 31)).toInt32) &&& (1431655765))) >>> (Int32.toUInt32 (2) &&& Int32.toUInt32 31)).toInt32) &&& (858993459))) >>> (Int32.toUInt32 (4) &&& Int32.toUInt32 31)).toInt32)) &&& (252645135)))]) hE dJ6_bitCount_0f7a4_33 rfl (by decide) rfl ?_
  refine x_iload_n hE dJ6_bitCount_0f7a4_34 rfl 0 rfl ?_
  refine x_iload_n hE dJ6_bitCount_0f7a4_35 rfl 0 rfl ?_
  refine x_bipush (v := 8) hE dJ6_bitCount_0f7a4_36 (by decide) ?_
  refine x_iushr hE dJ6_bitCount_0f7a4_38 ?_
  refine x_iadd hE dJ6_bitCount_0f7a4_39 ?_
  refine x_istore_n (lv' := [(0, .int (((((((x) - (((Int32.toUInt32 (x) >>> (Int32.toUInt32 (1) &&& Int32.toUInt32 31)).toInt32) &&& (1431655765))) &&& (858993459)) + (((Int32.toUInt32 ((x) - (((Int32.toUInt32 (x) >>> (Int32.toUInt32 (1) &&& Int32.toUInt32 31)).toInt32) &&& (1431655765))) >>> (Int32.toUInt32 (2) &&& Int32.toUInt32 31)).toInt32) &&& (858993459))) + ((Int32.toUInt32 ((((x) - (((Int32.toUInt32 (x) >>> (Int32.toUInt32 (1) &&& Int32.toUInt32 31)).toInt32) &&& (1431655765))) &&& (858993459)) + (((Int32.toUInt32 ((x) - (((Int32.toUInt32 (x) >>> (Int32.toUInt32 (1) &&& Int32.toUInt32 31)).toInt32) &&& (1431655765))) >>> (Int32.toUInt32 (2) &&& Int32.toUInt32 31)).toInt32) &&& (858993459))) >>> (Int32.toUInt32 (4) &&& Int32.toUInt32 31)).toInt32)) &&& (252645135)) + ((Int32.toUInt32 ((((((x) - (((Int32.toUInt32 (x) >>> (Int32.toUInt32 (1) &&& Int32.toUInt32 31)).toInt32) &&& (1431655765))) &&& (858993459)) + (((Int32.toUInt32 ((x) - (((Int32.toUInt32 (x) >>> (Int32.toUInt32 (1) &&& Int32.toUInt32 31)).toInt32) &&& (1431655765))) >>> (Int32.toUInt32 (2) &&& Int32.toUInt32 31)).toInt32) &&& (858993459))) + ((Int32.toUInt32 ((((x) - (((Int32.toUInt32 (x) >>> (Int32.toUInt32 (1) &&& Int32.toUInt32 31)).toInt32) &&& (1431655765))) &&& (858993459)) + (((Int32.toUInt32 ((x) - (((Int32.toUInt32 (x) >>> (Int32.toUInt32 (1) &&& Int32.toUInt32 31)).toInt32) &&& (1431655765))) >>> (Int32.toUInt32 (2) &&& Int32.toUInt32 31)).toInt32) &&& (858993459))) >>> (Int32.toUInt32 (4) &&& Int32.toUInt32 31)).toInt32)) &&& (252645135)) >>> (Int32.toUInt32 (8) &&& Int32.toUInt32 31)).toInt32)))]) hE dJ6_bitCount_0f7a4_40 rfl (by decide) rfl ?_
  refine x_iload_n hE dJ6_bitCount_0f7a4_41 rfl 0 rfl ?_
  refine x_iload_n hE dJ6_bitCount_0f7a4_42 rfl 0 rfl ?_
  refine x_bipush (v := 16) hE dJ6_bitCount_0f7a4_43 (by decide) ?_
  refine x_iushr hE dJ6_bitCount_0f7a4_45 ?_
  refine x_iadd hE dJ6_bitCount_0f7a4_46 ?_
  refine x_istore_n (lv' := [(0, .int ((((((((x) - (((Int32.toUInt32 (x) >>> (Int32.toUInt32 (1) &&& Int32.toUInt32 31)).toInt32) &&& (1431655765))) &&& (858993459)) + (((Int32.toUInt32 ((x) - (((Int32.toUInt32 (x) >>> (Int32.toUInt32 (1) &&& Int32.toUInt32 31)).toInt32) &&& (1431655765))) >>> (Int32.toUInt32 (2) &&& Int32.toUInt32 31)).toInt32) &&& (858993459))) + ((Int32.toUInt32 ((((x) - (((Int32.toUInt32 (x) >>> (Int32.toUInt32 (1) &&& Int32.toUInt32 31)).toInt32) &&& (1431655765))) &&& (858993459)) + (((Int32.toUInt32 ((x) - (((Int32.toUInt32 (x) >>> (Int32.toUInt32 (1) &&& Int32.toUInt32 31)).toInt32) &&& (1431655765))) >>> (Int32.toUInt32 (2) &&& Int32.toUInt32 31)).toInt32) &&& (858993459))) >>> (Int32.toUInt32 (4) &&& Int32.toUInt32 31)).toInt32)) &&& (252645135)) + ((Int32.toUInt32 ((((((x) - (((Int32.toUInt32 (x) >>> (Int32.toUInt32 (1) &&& Int32.toUInt32 31)).toInt32) &&& (1431655765))) &&& (858993459)) + (((Int32.toUInt32 ((x) - (((Int32.toUInt32 (x) >>> (Int32.toUInt32 (1) &&& Int32.toUInt32 31)).toInt32) &&& (1431655765))) >>> (Int32.toUInt32 (2) &&& Int32.toUInt32 31)).toInt32) &&& (858993459))) + ((Int32.toUInt32 ((((x) - (((Int32.toUInt32 (x) >>> (Int32.toUInt32 (1) &&& Int32.toUInt32 31)).toInt32) &&& (1431655765))) &&& (858993459)) + (((Int32.toUInt32 ((x) - (((Int32.toUInt32 (x) >>> (Int32.toUInt32 (1) &&& Int32.toUInt32 31)).toInt32) &&& (1431655765))) >>> (Int32.toUInt32 (2) &&& Int32.toUInt32 31)).toInt32) &&& (858993459))) >>> (Int32.toUInt32 (4) &&& Int32.toUInt32 31)).toInt32)) &&& (252645135)) >>> (Int32.toUInt32 (8) &&& Int32.toUInt32 31)).toInt32)) + ((Int32.toUInt32 (((((((x) - (((Int32.toUInt32 (x) >>> (Int32.toUInt32 (1) &&& Int32.toUInt32 31)).toInt32) &&& (1431655765))) &&& (858993459)) + (((Int32.toUInt32 ((x) - (((Int32.toUInt32 (x) >>> (Int32.toUInt32 (1) &&& Int32.toUInt32 31)).toInt32) &&& (1431655765))) >>> (Int32.toUInt32 (2) &&& Int32.toUInt32 31)).toInt32) &&& (858993459))) + ((Int32.toUInt32 ((((x) - (((Int32.toUInt32 (x) >>> (Int32.toUInt32 (1) &&& Int32.toUInt32 31)).toInt32) &&& (1431655765))) &&& (858993459)) + (((Int32.toUInt32 ((x) - (((Int32.toUInt32 (x) >>> (Int32.toUInt32 (1) &&& Int32.toUInt32 31)).toInt32) &&& (1431655765))) >>> (Int32.toUInt32 (2) &&& Int32.toUInt32 31)).toInt32) &&& (858993459))) >>> (Int32.toUInt32 (4) &&& Int32.toUInt32 31)).toInt32)) &&& (252645135)) + ((Int32.toUInt32 ((((((x) - (((Int32.toUInt32 (x) >>> (Int32.toUInt32 (1) &&& Int32.toUInt32 31)).toInt32) &&& (1431655765))) &&& (858993459)) + (((Int32.toUInt32 ((x) - (((Int32.toUInt32 (x) >>> (Int32.toUInt32 (1) &&& Int32.toUInt32 31)).toInt32) &&& (1431655765))) >>> (Int32.toUInt32 (2) &&& Int32.toUInt32 31)).toInt32) &&& (858993459))) + ((Int32.toUInt32 ((((x) - (((Int32.toUInt32 (x) >>> (Int32.toUInt32 (1) &&& Int32.toUInt32 31)).toInt32) &&& (1431655765))) &&& (858993459)) + (((Int32.toUInt32 ((x) - (((Int32.toUInt32 (x) >>> (Int32.toUInt32 (1) &&& Int32.toUInt32 31)).toInt32) &&& (1431655765))) >>> (Int32.toUInt32 (2) &&& Int32.toUInt32 31)).toInt32) &&& (858993459))) >>> (Int32.toUInt32 (4) &&& Int32.toUInt32 31)).toInt32)) &&& (252645135)) >>> (Int32.toUInt32 (8) &&& Int32.toUInt32 31)).toInt32)) >>> (Int32.toUInt32 (16) &&& Int32.toUInt32 31)).toInt32)))]) hE dJ6_bitCount_0f7a4_47 rfl (by decide) rfl ?_
  refine x_iload_n hE dJ6_bitCount_0f7a4_48 rfl 0 rfl ?_
  refine x_bipush (v := 63) hE dJ6_bitCount_0f7a4_49 (by decide) ?_
  refine x_iand hE dJ6_bitCount_0f7a4_51 ?_
  exact hret _ _ _ _ _ _ _ _ (((((((((x) - (((Int32.toUInt32 (x) >>> (Int32.toUInt32 (1) &&& Int32.toUInt32 31)).toInt32) &&& (1431655765))) &&& (858993459)) + (((Int32.toUInt32 ((x) - (((Int32.toUInt32 (x) >>> (Int32.toUInt32 (1) &&& Int32.toUInt32 31)).toInt32) &&& (1431655765))) >>> (Int32.toUInt32 (2) &&& Int32.toUInt32 31)).toInt32) &&& (858993459))) + ((Int32.toUInt32 ((((x) - (((Int32.toUInt32 (x) >>> (Int32.toUInt32 (1) &&& Int32.toUInt32 31)).toInt32) &&& (1431655765))) &&& (858993459)) + (((Int32.toUInt32 ((x) - (((Int32.toUInt32 (x) >>> (Int32.toUInt32 (1) &&& Int32.toUInt32 31)).toInt32) &&& (1431655765))) >>> (Int32.toUInt32 (2) &&& Int32.toUInt32 31)).toInt32) &&& (858993459))) >>> (Int32.toUInt32 (4) &&& Int32.toUInt32 31)).toInt32)) &&& (252645135)) + ((Int32.toUInt32 ((((((x) - (((Int32.toUInt32 (x) >>> (Int32.toUInt32 (1) &&& Int32.toUInt32 31)).toInt32) &&& (1431655765))) &&& (858993459)) + (((Int32.toUInt32 ((x) - (((Int32.toUInt32 (x) >>> (Int32.toUInt32 (1) &&& Int32.toUInt32 31)).toInt32) &&& (1431655765))) >>> (Int32.toUInt32 (2) &&& Int32.toUInt32 31)).toInt32) &&& (858993459))) + ((Int32.toUInt32 ((((x) - (((Int32.toUInt32 (x) >>> (Int32.toUInt32 (1) &&& Int32.toUInt32 31)).toInt32) &&& (1431655765))) &&& (858993459)) + (((Int32.toUInt32 ((x) - (((Int32.toUInt32 (x) >>> (Int32.toUInt32 (1) &&& Int32.toUInt32 31)).toInt32) &&& (1431655765))) >>> (Int32.toUInt32 (2) &&& Int32.toUInt32 31)).toInt32) &&& (858993459))) >>> (Int32.toUInt32 (4) &&& Int32.toUInt32 31)).toInt32)) &&& (252645135)) >>> (Int32.toUInt32 (8) &&& Int32.toUInt32 31)).toInt32)) + ((Int32.toUInt32 (((((((x) - (((Int32.toUInt32 (x) >>> (Int32.toUInt32 (1) &&& Int32.toUInt32 31)).toInt32) &&& (1431655765))) &&& (858993459)) + (((Int32.toUInt32 ((x) - (((Int32.toUInt32 (x) >>> (Int32.toUInt32 (1) &&& Int32.toUInt32 31)).toInt32) &&& (1431655765))) >>> (Int32.toUInt32 (2) &&& Int32.toUInt32 31)).toInt32) &&& (858993459))) + ((Int32.toUInt32 ((((x) - (((Int32.toUInt32 (x) >>> (Int32.toUInt32 (1) &&& Int32.toUInt32 31)).toInt32) &&& (1431655765))) &&& (858993459)) + (((Int32.toUInt32 ((x) - (((Int32.toUInt32 (x) >>> (Int32.toUInt32 (1) &&& Int32.toUInt32 31)).toInt32) &&& (1431655765))) >>> (Int32.toUInt32 (2) &&& Int32.toUInt32 31)).toInt32) &&& (858993459))) >>> (Int32.toUInt32 (4) &&& Int32.toUInt32 31)).toInt32)) &&& (252645135)) + ((Int32.toUInt32 ((((((x) - (((Int32.toUInt32 (x) >>> (Int32.toUInt32 (1) &&& Int32.toUInt32 31)).toInt32) &&& (1431655765))) &&& (858993459)) + (((Int32.toUInt32 ((x) - (((Int32.toUInt32 (x) >>> (Int32.toUInt32 (1) &&& Int32.toUInt32 31)).toInt32) &&& (1431655765))) >>> (Int32.toUInt32 (2) &&& Int32.toUInt32 31)).toInt32) &&& (858993459))) + ((Int32.toUInt32 ((((x) - (((Int32.toUInt32 (x) >>> (Int32.toUInt32 (1) &&& Int32.toUInt32 31)).toInt32) &&& (1431655765))) &&& (858993459)) + (((Int32.toUInt32 ((x) - (((Int32.toUInt32 (x) >>> (Int32.toUInt32 (1) &&& Int32.toUInt32 31)).toInt32) &&& (1431655765))) >>> (Int32.toUInt32 (2) &&& Int32.toUInt32 31)).toInt32) &&& (858993459))) >>> (Int32.toUInt32 (4) &&& Int32.toUInt32 31)).toInt32)) &&& (252645135)) >>> (Int32.toUInt32 (8) &&& Int32.toUInt32 31)).toInt32)) >>> (Int32.toUInt32 (16) &&& Int32.toUInt32 31)).toInt32)) &&& (63)) (Nat.le_of_ble_eq_true rfl) (Nat.le_of_ble_eq_true rfl) dJ6_bitCount_0f7a4_52 (rfl) (⟨rfl, fun h => by subst h; decide⟩)
set_option maxHeartbeats 4000000 in
set_option maxRecDepth 100000 in
theorem k_hasText (l : Launch) (D : va_G) (cy : Nat → ClassId) (L : List Nat) (σ : Nat → va_E) (φ : Nat → Nat → Nat → Int32) (ρ : Nat → Nat → Int32) {a la wo sp li te : Nat} (t : Int32) (ha : zT L σ a (.inr (4, [.ref la, .ref wo, .ref sp, .ref li, .ref te, .int 0, .int 0]))) (h5 : φ 4 5 a = 0) : zMI l D cy yX4_hasText cX4_hasText 2 .boolean (zrm 0 0 0) [.ref a, .int t] L σ φ ρ (zpu L σ φ ρ (fun r => r = 0)) := by
  refine zMI.mk (by decide) (Nat.le_of_ble_eq_true rfl) (fun E hE hret => ?_)
  show zW E 0 0 L σ φ ρ 0 [(0, .ref a), (1, .int t)] []
  refine x_iload_n hE dX4_hasText_0 rfl 1 rfl ?_
  refine x_if_lt (tgt := 25) hE dX4_hasText_1 (by decide) (fun c_1 => ?_) (fun c_1 => ?_)
  · refine x_iconst (v := 0) hE dX4_hasText_25 (by decide) ?_
    exact hret _ _ _ _ _ _ _ _ (0) (Nat.le_of_ble_eq_true rfl) (Nat.le_of_ble_eq_true rfl) dX4_hasText_26 (rfl) (⟨rfl, rfl⟩)
  · refine x_iload_n hE dX4_hasText_4 rfl 1 rfl ?_
    refine x_aload_n hE dX4_hasText_5 rfl 0 rfl ?_
    refine h_geti hE ha rfl inZX4 5 (by decide) q376 rfl dX4_hasText_6 ?_
    refine x_norm (y := 0) (h5) ?_
    refine x_icmp_ge (tgt := 25) hE dX4_hasText_9 (by decide) (fun c_9 => ?_) (fun c_9 => absurd (z_nlt c_1) c_9)
    refine x_iconst (v := 0) hE dX4_hasText_25 (by decide) ?_
    exact hret _ _ _ _ _ _ _ _ (0) (Nat.le_of_ble_eq_true rfl) (Nat.le_of_ble_eq_true rfl) dX4_hasText_26 (rfl) (⟨rfl, rfl⟩)
set_option maxHeartbeats 4000000 in
set_option maxRecDepth 100000 in
theorem k_canGo (l : Launch) (D : va_G) (cy : Nat → ClassId) (L : List Nat) (σ : Nat → va_E) (φ : Nat → Nat → Nat → Int32) (ρ : Nat → Nat → Int32) {a la wo sp li te f0 f1 f2 f3 f4 f5 f6 f7 : Nat} (p : Int32) (f : Int32) (ha : zT L σ a (.inr (4, [.ref la, .ref wo, .ref sp, .ref li, .ref te, .int 0, .int 0]))) (hL : zT L σ la (.inr (0, [.int 0, .int 0, .ref f0, .ref f1, .ref f2, .ref f3, .ref f4, .ref f5, .ref f6, .ref f7]))) (h1 : φ 0 1 la = 0) : zMI l D cy yX4_canGo cX4_canGo 3 .boolean (zrm 1 0 0) [.ref a, .int p, .int f] L σ φ ρ (zpu L σ φ ρ (fun r => r = 0)) := by
  refine zMI.mk (by decide) (Nat.le_of_ble_eq_true rfl) (fun E hE hret => ?_)
  show zW E 0 0 L σ φ ρ 0 [(0, .ref a), (1, .int p), (2, .int f)] []
  refine x_aload_n hE dX4_canGo_0 rfl 0 rfl ?_
  refine h_getr hE ha rfl inZX4 0 (by decide) q361 rfl dX4_canGo_1 ?_
  refine x_iload_n hE dX4_canGo_4 rfl 1 rfl ?_
  refine c_ip hE (r_V (st := []) hE (k_hasPerson l D cy L σ φ ρ (p) hL) q1044 q1033 q1034 q115 q1035 hL rfl ⟨by decide, by decide, pn_X0_hasPerson⟩ ⟨Nat.le_of_ble_eq_true rfl, Nat.le_of_ble_eq_true rfl⟩ ⟨Nat.le_of_ble_eq_true rfl, Nat.le_of_ble_eq_true rfl⟩ rfl (Nat.le_of_ble_eq_true rfl) dX4_canGo_5) (fun r5 h_5 => ?_)
  refine x_widen (k' := 0) (n' := 0) (Nat.le_of_ble_eq_true rfl) (Nat.le_of_ble_eq_true rfl) ?_
  refine x_norm (y := 0) (h_5.trans (zb_f (fun e => z_le_nlt e.1 (h1 ▸ e.2)))) ?_
  refine x_if_eq (tgt := 46) hE dX4_canGo_8 (by decide) (fun c_8 => ?_) (fun c_8 => absurd (by decide) c_8)
  refine x_iconst (v := 0) hE dX4_canGo_46 (by decide) ?_
  exact hret _ _ _ _ _ _ _ _ (0) (Nat.le_of_ble_eq_true rfl) (Nat.le_of_ble_eq_true rfl) dX4_canGo_47 (rfl) (⟨rfl, rfl⟩)
set_option maxHeartbeats 4000000 in
set_option maxRecDepth 100000 in
theorem k_canMeet (l : Launch) (D : va_G) (cy : Nat → ClassId) (L : List Nat) (σ : Nat → va_E) (φ : Nat → Nat → Nat → Int32) (ρ : Nat → Nat → Int32) {a la wo sp li te f0 f1 f2 f3 f4 f5 f6 f7 : Nat} (p : Int32) (q : Int32) (ha : zT L σ a (.inr (4, [.ref la, .ref wo, .ref sp, .ref li, .ref te, .int 0, .int 0]))) (hL : zT L σ la (.inr (0, [.int 0, .int 0, .ref f0, .ref f1, .ref f2, .ref f3, .ref f4, .ref f5, .ref f6, .ref f7]))) (h1 : φ 0 1 la = 0) : zMI l D cy yX4_canMeet cX4_canMeet 3 .boolean (zrm 1 0 0) [.ref a, .int p, .int q] L σ φ ρ (zpu L σ φ ρ (fun r => r = 0)) := by
  refine zMI.mk (by decide) (Nat.le_of_ble_eq_true rfl) (fun E hE hret => ?_)
  show zW E 0 0 L σ φ ρ 0 [(0, .ref a), (1, .int p), (2, .int q)] []
  refine x_aload_n hE dX4_canMeet_0 rfl 0 rfl ?_
  refine h_getr hE ha rfl inZX4 0 (by decide) q361 rfl dX4_canMeet_1 ?_
  refine x_iload_n hE dX4_canMeet_4 rfl 1 rfl ?_
  refine c_ip hE (r_V (st := []) hE (k_hasPerson l D cy L σ φ ρ (p) hL) q1044 q1033 q1034 q115 q1035 hL rfl ⟨by decide, by decide, pn_X0_hasPerson⟩ ⟨Nat.le_of_ble_eq_true rfl, Nat.le_of_ble_eq_true rfl⟩ ⟨Nat.le_of_ble_eq_true rfl, Nat.le_of_ble_eq_true rfl⟩ rfl (Nat.le_of_ble_eq_true rfl) dX4_canMeet_5) (fun r5 h_5 => ?_)
  refine x_widen (k' := 0) (n' := 0) (Nat.le_of_ble_eq_true rfl) (Nat.le_of_ble_eq_true rfl) ?_
  refine x_norm (y := 0) (h_5.trans (zb_f (fun e => z_le_nlt e.1 (h1 ▸ e.2)))) ?_
  refine x_if_eq (tgt := 52) hE dX4_canMeet_8 (by decide) (fun c_8 => ?_) (fun c_8 => absurd (by decide) c_8)
  refine x_iconst (v := 0) hE dX4_canMeet_52 (by decide) ?_
  exact hret _ _ _ _ _ _ _ _ (0) (Nat.le_of_ble_eq_true rfl) (Nat.le_of_ble_eq_true rfl) dX4_canMeet_53 (rfl) (⟨rfl, rfl⟩)
set_option maxHeartbeats 4000000 in
set_option maxRecDepth 100000 in
theorem k_canTake (l : Launch) (D : va_G) (cy : Nat → ClassId) (L : List Nat) (σ : Nat → va_E) (φ : Nat → Nat → Nat → Int32) (ρ : Nat → Nat → Int32) {a la wo sp li te f0 f1 f2 f3 f4 f5 f6 f7 : Nat} (p q v : Int32) (ha : zT L σ a (.inr (4, [.ref la, .ref wo, .ref sp, .ref li, .ref te, .int 0, .int 0]))) (hL : zT L σ la (.inr (0, [.int 0, .int 0, .ref f0, .ref f1, .ref f2, .ref f3, .ref f4, .ref f5, .ref f6, .ref f7]))) (h1 : φ 0 1 la = 0) : zMI l D cy yX4_canTake cX4_canTake 4 .boolean (zrm 2 0 0) [.ref a, .int p, .int q, .int v] L σ φ ρ (zpu L σ φ ρ (fun r => r = 0)) := by
  refine zMI.mk (by decide) (Nat.le_of_ble_eq_true rfl) (fun E hE hret => ?_)
  show zW E 0 0 L σ φ ρ 0 [(0, .ref a), (1, .int p), (2, .int q), (3, .int v)] []
  refine x_aload_n hE dX4_canTake_0 rfl 0 rfl ?_
  refine x_iload_n hE dX4_canTake_1 rfl 1 rfl ?_
  refine x_iload_n hE dX4_canTake_2 rfl 2 rfl ?_
  refine c_ip hE (r_V (st := []) hE (k_canMeet l D cy L σ φ ρ p q ha hL h1) q1067 q1052 q1053 q114 q1054 ha rfl ⟨by decide, by decide, pn_X4_canMeet⟩ ⟨Nat.le_of_ble_eq_true rfl, Nat.le_of_ble_eq_true rfl⟩ ⟨Nat.le_of_ble_eq_true rfl, Nat.le_of_ble_eq_true rfl⟩ rfl (Nat.le_of_ble_eq_true rfl) dX4_canTake_3) (fun rm hm => ?_)
  refine x_widen (k' := 0) (n' := 0) (Nat.le_of_ble_eq_true rfl) (Nat.le_of_ble_eq_true rfl) ?_
  refine x_norm (y := 0) (hm) ?_
  refine x_if_eq (tgt := 53) hE dX4_canTake_6 (by decide) (fun c_6 => ?_) (fun c_6 => absurd (by decide) c_6)
  refine x_iconst (v := 0) hE dX4_canTake_53 (by decide) ?_
  exact hret _ _ _ _ _ _ _ _ (0) (Nat.le_of_ble_eq_true rfl) (Nat.le_of_ble_eq_true rfl) dX4_canTake_54 (rfl) (⟨rfl, rfl⟩)
set_option maxHeartbeats 4000000 in
set_option maxRecDepth 100000 in
theorem k_takeBack (l : Launch) (D : va_G) (cy : Nat → ClassId) (L : List Nat) (σ : Nat → va_E) (φ : Nat → Nat → Nat → Int32) (ρ : Nat → Nat → Int32) {a la wo sp li te s0 s1 : Nat} (ha : zT L σ a (.inr (4, [.ref la, .ref wo, .ref sp, .ref li, .ref te, .int 0, .int 0]))) (hS : zT L σ sp (.inr (5, [.int 0, .int 0, .ref s0, .ref s1]))) (h50 : φ 5 0 sp = 0) : zMI l D cy yX4_takeBack cX4_takeBack 3 .int (zrm 0 0 0) [.ref a] L σ φ ρ (fun r _ => r = -1) := by
  refine zMI.mk (by decide) (Nat.le_of_ble_eq_true rfl) (fun E hE hret => ?_)
  show zW E 0 0 L σ φ ρ 0 [(0, .ref a)] []
  refine x_aload_n hE dX4_takeBack_0 rfl 0 rfl ?_
  refine h_getr hE ha rfl inZX4 2 (by decide) q370 rfl dX4_takeBack_1 ?_
  refine h_geti hE hS rfl inZX5 0 (by decide) q298 rfl dX4_takeBack_4 ?_
  refine x_norm (y := 0) (h50) ?_
  refine x_iconst (v := 1) hE dX4_takeBack_7 (by decide) ?_
  refine x_icmp_ge (tgt := 13) hE dX4_takeBack_8 (by decide) (fun c_8 => absurd c_8 (by decide)) (fun c_8 => ?_)
  refine x_iconst (v := -1) hE dX4_takeBack_11 (by decide) ?_
  exact hret _ _ _ _ _ _ _ _ (-1) (Nat.le_of_ble_eq_true rfl) (Nat.le_of_ble_eq_true rfl) dX4_takeBack_12 (rfl) (rfl)
