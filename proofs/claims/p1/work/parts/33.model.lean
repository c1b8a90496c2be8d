theorem dX12_byteAt_0 : decode cX12_byteAt 0 = .ok (.iload_n 1, 1) := by decide +kernel
theorem dX12_byteAt_1 : decode cX12_byteAt 1 = .ok (.aload_n 0, 1) := by decide +kernel
theorem dX12_byteAt_2 : decode cX12_byteAt 2 = .ok (.getfield 133, 3) := by decide +kernel
theorem dX12_byteAt_5 : decode cX12_byteAt 5 = .ok (.if_icmp .ge 12, 3) := by decide +kernel
theorem dX12_byteAt_17 : decode cX12_byteAt 17 = .ok (.iconst (-1), 1) := by decide +kernel
theorem dX12_byteAt_18 : decode cX12_byteAt 18 = .ok (.ireturn, 1) := by decide +kernel
theorem dX12_feed_0 : decode cX12_feed 0 = .ok (.aload_n 0, 1) := by decide +kernel
theorem dX12_feed_1 : decode cX12_feed 1 = .ok (.getfield 133, 3) := by decide +kernel
theorem dX12_feed_4 : decode cX12_feed 4 = .ok (.bipush 20, 2) := by decide +kernel
theorem dX12_feed_6 : decode cX12_feed 6 = .ok (.iadd, 1) := by decide +kernel
theorem dX12_feed_7 : decode cX12_feed 7 = .ok (.sipush 300, 3) := by decide +kernel
theorem dX12_feed_10 : decode cX12_feed 10 = .ok (.if_icmp .le 5, 3) := by decide +kernel
theorem dX12_feed_15 : decode cX12_feed 15 = .ok (.aload_n 0, 1) := by decide +kernel
theorem dX12_feed_16 : decode cX12_feed 16 = .ok (.iload_n 1, 1) := by decide +kernel
theorem dX12_feed_17 : decode cX12_feed 17 = .ok (.invokevirtual 136, 3) := by decide +kernel
theorem dX12_feed_20 : decode cX12_feed 20 = .ok (.aload_n 0, 1) := by decide +kernel
theorem dX12_feed_21 : decode cX12_feed 21 = .ok (.iload_n 2, 1) := by decide +kernel
theorem dX12_feed_22 : decode cX12_feed 22 = .ok (.invokevirtual 136, 3) := by decide +kernel
theorem dX12_feed_25 : decode cX12_feed 25 = .ok (.aload_n 0, 1) := by decide +kernel
theorem dX12_feed_26 : decode cX12_feed 26 = .ok (.iload_n 3, 1) := by decide +kernel
theorem dX12_feed_27 : decode cX12_feed 27 = .ok (.invokevirtual 136, 3) := by decide +kernel
theorem dX12_feed_30 : decode cX12_feed 30 = .ok (.aload_n 0, 1) := by decide +kernel
theorem dX12_feed_31 : decode cX12_feed 31 = .ok (.iload 4, 2) := by decide +kernel
theorem dX12_feed_33 : decode cX12_feed 33 = .ok (.invokevirtual 136, 3) := by decide +kernel
theorem dX12_feed_36 : decode cX12_feed 36 = .ok (.aload_n 0, 1) := by decide +kernel
theorem dX12_feed_37 : decode cX12_feed 37 = .ok (.iload 5, 2) := by decide +kernel
theorem dX12_feed_39 : decode cX12_feed 39 = .ok (.invokevirtual 136, 3) := by decide +kernel
theorem dX12_feed_42 : decode cX12_feed 42 = .ok (.aload_n 0, 1) := by decide +kernel
theorem dX12_feed_43 : decode cX12_feed 43 = .ok (.getfield 133, 3) := by decide +kernel
theorem dX12_feed_46 : decode cX12_feed 46 = .ok (.ireturn, 1) := by decide +kernel
theorem dX12_four_0 : decode cX12_four 0 = .ok (.bipush 24, 2) := by decide +kernel
theorem dX12_four_2 : decode cX12_four 2 = .ok (.istore_n 2, 1) := by decide +kernel
theorem dX12_four_3 : decode cX12_four 3 = .ok (.iload_n 2, 1) := by decide +kernel
theorem dX12_four_4 : decode cX12_four 4 = .ok (.ifCond .lt 35, 3) := by decide +kernel
theorem dX12_four_7 : decode cX12_four 7 = .ok (.aload_n 0, 1) := by decide +kernel
theorem dX12_four_8 : decode cX12_four 8 = .ok (.getfield 19, 3) := by decide +kernel
theorem dX12_four_11 : decode cX12_four 11 = .ok (.aload_n 0, 1) := by decide +kernel
theorem dX12_four_12 : decode cX12_four 12 = .ok (.getfield 133, 3) := by decide +kernel
theorem dX12_four_15 : decode cX12_four 15 = .ok (.iload_n 1, 1) := by decide +kernel
theorem dX12_four_16 : decode cX12_four 16 = .ok (.iload_n 2, 1) := by decide +kernel
theorem dX12_four_17 : decode cX12_four 17 = .ok (.ishr, 1) := by decide +kernel
theorem dX12_four_18 : decode cX12_four 18 = .ok (.sipush 255, 3) := by decide +kernel
theorem dX12_four_21 : decode cX12_four 21 = .ok (.iand, 1) := by decide +kernel
theorem dX12_four_22 : decode cX12_four 22 = .ok (.iastore, 1) := by decide +kernel
theorem dX12_four_23 : decode cX12_four 23 = .ok (.aload_n 0, 1) := by decide +kernel
theorem dX12_four_24 : decode cX12_four 24 = .ok (.dup, 1) := by decide +kernel
theorem dX12_four_25 : decode cX12_four 25 = .ok (.getfield 133, 3) := by decide +kernel
theorem dX12_four_28 : decode cX12_four 28 = .ok (.iconst 1, 1) := by decide +kernel
theorem dX12_four_29 : decode cX12_four 29 = .ok (.iadd, 1) := by decide +kernel
theorem dX12_four_30 : decode cX12_four 30 = .ok (.putfield 133, 3) := by decide +kernel
theorem dX12_four_33 : decode cX12_four 33 = .ok (.iinc 2 (-8), 3) := by decide +kernel
theorem dX12_four_36 : decode cX12_four 36 = .ok (.goto (-33), 3) := by decide +kernel
theorem dX12_four_39 : decode cX12_four 39 = .ok (.return_, 1) := by decide +kernel
theorem dX12_market_0 : decode cX12_market 0 = .ok (.iload_n 1, 1) := by decide +kernel
theorem dX12_market_1 : decode cX12_market 1 = .ok (.iconst (-1), 1) := by decide +kernel
theorem dX12_market_2 : decode cX12_market 2 = .ok (.bipush 99, 2) := by decide +kernel
theorem dX12_market_4 : decode cX12_market 4 = .ok (.invokestatic 113, 3) := by decide +kernel
theorem dX12_market_7 : decode cX12_market 7 = .ok (.ifCond .ne 5, 3) := by decide +kernel
theorem dX12_market_10 : decode cX12_market 10 = .ok (.iconst (-1), 1) := by decide +kernel
theorem dX12_market_11 : decode cX12_market 11 = .ok (.ireturn, 1) := by decide +kernel
theorem dX12_market_12 : decode cX12_market 12 = .ok (.iload_n 1, 1) := by decide +kernel
theorem dX12_market_13 : decode cX12_market 13 = .ok (.ifCond .lt 9, 3) := by decide +kernel
theorem dX12_market_16 : decode cX12_market 16 = .ok (.aload_n 0, 1) := by decide +kernel
theorem dX12_market_17 : decode cX12_market 17 = .ok (.iload_n 1, 1) := by decide +kernel
theorem dX12_market_18 : decode cX12_market 18 = .ok (.invokevirtual 511, 3) := by decide +kernel
theorem dX12_market_21 : decode cX12_market 21 = .ok (.ireturn, 1) := by decide +kernel
theorem dX12_market_22 : decode cX12_market 22 = .ok (.iconst 0, 1) := by decide +kernel
theorem dX12_market_23 : decode cX12_market 23 = .ok (.istore_n 2, 1) := by decide +kernel
theorem dX12_market_24 : decode cX12_market 24 = .ok (.iconst 1, 1) := by decide +kernel
theorem dX12_market_25 : decode cX12_market 25 = .ok (.istore_n 3, 1) := by decide +kernel
theorem dX12_market_26 : decode cX12_market 26 = .ok (.iload_n 3, 1) := by decide +kernel
theorem dX12_market_27 : decode cX12_market 27 = .ok (.bipush 100, 2) := by decide +kernel
theorem dX12_market_29 : decode cX12_market 29 = .ok (.if_icmp .ge 24, 3) := by decide +kernel
theorem dX12_market_32 : decode cX12_market 32 = .ok (.aload_n 0, 1) := by decide +kernel
theorem dX12_market_33 : decode cX12_market 33 = .ok (.iload_n 3, 1) := by decide +kernel
theorem dX12_market_34 : decode cX12_market 34 = .ok (.invokevirtual 511, 3) := by decide +kernel
theorem dX12_market_37 : decode cX12_market 37 = .ok (.aload_n 0, 1) := by decide +kernel
theorem dX12_market_38 : decode cX12_market 38 = .ok (.iload_n 2, 1) := by decide +kernel
theorem dX12_market_39 : decode cX12_market 39 = .ok (.invokevirtual 511, 3) := by decide +kernel
theorem dX12_market_42 : decode cX12_market 42 = .ok (.if_icmp .le 5, 3) := by decide +kernel
theorem dX12_market_47 : decode cX12_market 47 = .ok (.iinc 3 1, 3) := by decide +kernel
theorem dX12_market_50 : decode cX12_market 50 = .ok (.goto (-24), 3) := by decide +kernel
theorem dX12_market_53 : decode cX12_market 53 = .ok (.iload_n 2, 1) := by decide +kernel
theorem dX12_market_54 : decode cX12_market 54 = .ok (.ireturn, 1) := by decide +kernel
theorem dX12_nextToken_0 : decode cX12_nextToken 0 = .ok (.aload_n 0, 1) := by decide +kernel
theorem dX12_nextToken_1 : decode cX12_nextToken 1 = .ok (.aload_n 0, 1) := by decide +kernel
theorem dX12_nextToken_2 : decode cX12_nextToken 2 = .ok (.getfield 140, 3) := by decide +kernel
theorem dX12_nextToken_5 : decode cX12_nextToken 5 = .ok (.invokevirtual 143, 3) := by decide +kernel
theorem dX12_nextToken_8 : decode cX12_nextToken 8 = .ok (.bipush 32, 2) := by decide +kernel
theorem dX12_nextToken_10 : decode cX12_nextToken 10 = .ok (.if_icmp .eq 16, 3) := by decide +kernel
theorem dX12_nextToken_13 : decode cX12_nextToken 13 = .ok (.aload_n 0, 1) := by decide +kernel
theorem dX12_nextToken_14 : decode cX12_nextToken 14 = .ok (.aload_n 0, 1) := by decide +kernel
theorem dX12_nextToken_15 : decode cX12_nextToken 15 = .ok (.getfield 140, 3) := by decide +kernel
theorem dX12_nextToken_18 : decode cX12_nextToken 18 = .ok (.invokevirtual 143, 3) := by decide +kernel
theorem dX12_nextToken_21 : decode cX12_nextToken 21 = .ok (.bipush 10, 2) := by decide +kernel
theorem dX12_nextToken_23 : decode cX12_nextToken 23 = .ok (.if_icmp .ne 16, 3) := by decide +kernel
theorem dX12_nextToken_39 : decode cX12_nextToken 39 = .ok (.aload_n 0, 1) := by decide +kernel
theorem dX12_nextToken_40 : decode cX12_nextToken 40 = .ok (.aload_n 0, 1) := by decide +kernel
theorem dX12_nextToken_41 : decode cX12_nextToken 41 = .ok (.getfield 140, 3) := by decide +kernel
theorem dX12_nextToken_44 : decode cX12_nextToken 44 = .ok (.putfield 147, 3) := by decide +kernel
theorem dX12_nextToken_47 : decode cX12_nextToken 47 = .ok (.aload_n 0, 1) := by decide +kernel
theorem dX12_nextToken_48 : decode cX12_nextToken 48 = .ok (.aload_n 0, 1) := by decide +kernel
theorem dX12_nextToken_49 : decode cX12_nextToken 49 = .ok (.getfield 140, 3) := by decide +kernel
theorem dX12_nextToken_52 : decode cX12_nextToken 52 = .ok (.invokevirtual 143, 3) := by decide +kernel
theorem dX12_nextToken_55 : decode cX12_nextToken 55 = .ok (.istore_n 1, 1) := by decide +kernel
theorem dX12_nextToken_56 : decode cX12_nextToken 56 = .ok (.iload_n 1, 1) := by decide +kernel
theorem dX12_nextToken_57 : decode cX12_nextToken 57 = .ok (.ifCond .ge 11, 3) := by decide +kernel
theorem dX12_nextToken_60 : decode cX12_nextToken 60 = .ok (.aload_n 0, 1) := by decide +kernel
theorem dX12_nextToken_61 : decode cX12_nextToken 61 = .ok (.iconst 0, 1) := by decide +kernel
theorem dX12_nextToken_62 : decode cX12_nextToken 62 = .ok (.putfield 150, 3) := by decide +kernel
theorem dX12_nextToken_65 : decode cX12_nextToken 65 = .ok (.goto 245, 3) := by decide +kernel
theorem dX12_nextToken_310 : decode cX12_nextToken 310 = .ok (.return_, 1) := by decide +kernel
theorem dX12_readText_0 : decode cX12_readText 0 = .ok (.aload_n 0, 1) := by decide +kernel
theorem dX12_readText_1 : decode cX12_readText 1 = .ok (.sipush 705, 3) := by decide +kernel
theorem dX12_readText_4 : decode cX12_readText 4 = .ok (.aload_n 0, 1) := by decide +kernel
theorem dX12_readText_5 : decode cX12_readText 5 = .ok (.getfield 7, 3) := by decide +kernel
theorem dX12_readText_8 : decode cX12_readText 8 = .ok (.bipush 7, 2) := by decide +kernel
theorem dX12_readText_10 : decode cX12_readText 10 = .ok (.iaload, 1) := by decide +kernel
theorem dX12_readText_11 : decode cX12_readText 11 = .ok (.imul, 1) := by decide +kernel
theorem dX12_readText_12 : decode cX12_readText 12 = .ok (.putfield 188, 3) := by decide +kernel
theorem dX12_readText_15 : decode cX12_readText 15 = .ok (.aload_n 0, 1) := by decide +kernel
theorem dX12_readText_16 : decode cX12_readText 16 = .ok (.getfield 16, 3) := by decide +kernel
theorem dX12_readText_19 : decode cX12_readText 19 = .ok (.aload_n 0, 1) := by decide +kernel
theorem dX12_readText_20 : decode cX12_readText 20 = .ok (.getfield 188, 3) := by decide +kernel
theorem dX12_readText_23 : decode cX12_readText 23 = .ok (.iconst 0, 1) := by decide +kernel
theorem dX12_readText_24 : decode cX12_readText 24 = .ok (.iastore, 1) := by decide +kernel
theorem dX12_readText_25 : decode cX12_readText 25 = .ok (.aload_n 0, 1) := by decide +kernel
theorem dX12_readText_26 : decode cX12_readText 26 = .ok (.iconst 0, 1) := by decide +kernel
theorem dX12_readText_27 : decode cX12_readText 27 = .ok (.putfield 191, 3) := by decide +kernel
theorem dX12_readText_30 : decode cX12_readText 30 = .ok (.aload_n 0, 1) := by decide +kernel
theorem dX12_readText_31 : decode cX12_readText 31 = .ok (.iconst 0, 1) := by decide +kernel
theorem dX12_readText_32 : decode cX12_readText 32 = .ok (.putfield 296, 3) := by decide +kernel
theorem dX12_readText_35 : decode cX12_readText 35 = .ok (.aload_n 0, 1) := by decide +kernel
theorem dX12_readText_36 : decode cX12_readText 36 = .ok (.iconst 0, 1) := by decide +kernel
theorem dX12_readText_37 : decode cX12_readText 37 = .ok (.putfield 140, 3) := by decide +kernel
theorem dX12_readText_40 : decode cX12_readText 40 = .ok (.aload_n 0, 1) := by decide +kernel
theorem dX12_readText_41 : decode cX12_readText 41 = .ok (.invokevirtual 217, 3) := by decide +kernel
theorem dX12_readText_44 : decode cX12_readText 44 = .ok (.aload_n 0, 1) := by decide +kernel
theorem dX12_readText_45 : decode cX12_readText 45 = .ok (.getfield 150, 3) := by decide +kernel
theorem dX12_readText_48 : decode cX12_readText 48 = .ok (.ifCond .eq 17, 3) := by decide +kernel
theorem dX12_readText_65 : decode cX12_readText 65 = .ok (.iconst 0, 1) := by decide +kernel
theorem dX12_readText_66 : decode cX12_readText 66 = .ok (.ireturn, 1) := by decide +kernel
theorem dX12_text_0 : decode cX12_text 0 = .ok (.aload_n 0, 1) := by decide +kernel
theorem dX12_text_1 : decode cX12_text 1 = .ok (.getfield 7, 3) := by decide +kernel
theorem dX12_text_4 : decode cX12_text 4 = .ok (.bipush 7, 2) := by decide +kernel
theorem dX12_text_6 : decode cX12_text 6 = .ok (.iaload, 1) := by decide +kernel
theorem dX12_text_7 : decode cX12_text 7 = .ok (.iconst 4, 1) := by decide +kernel
theorem dX12_text_8 : decode cX12_text 8 = .ok (.if_icmp .ne 5, 3) := by decide +kernel
theorem dX12_text_13 : decode cX12_text 13 = .ok (.aload_n 0, 1) := by decide +kernel
theorem dX12_text_14 : decode cX12_text 14 = .ok (.aload_n 0, 1) := by decide +kernel
theorem dX12_text_15 : decode cX12_text 15 = .ok (.invokevirtual 305, 3) := by decide +kernel
theorem dX12_text_18 : decode cX12_text 18 = .ok (.putfield 22, 3) := by decide +kernel
theorem dX12_text_21 : decode cX12_text 21 = .ok (.aload_n 0, 1) := by decide +kernel
theorem dX12_text_22 : decode cX12_text 22 = .ok (.aload_n 0, 1) := by decide +kernel
theorem dX12_text_23 : decode cX12_text 23 = .ok (.getfield 22, 3) := by decide +kernel
theorem dX12_text_26 : decode cX12_text 26 = .ok (.ifCond .ne 7, 3) := by decide +kernel
theorem dX12_text_29 : decode cX12_text 29 = .ok (.iconst (-1), 1) := by decide +kernel
theorem dX12_text_30 : decode cX12_text 30 = .ok (.goto 7, 3) := by decide +kernel
theorem dX12_text_37 : decode cX12_text 37 = .ok (.putfield 26, 3) := by decide +kernel
theorem dX12_text_40 : decode cX12_text 40 = .ok (.aload_n 0, 1) := by decide +kernel
theorem dX12_text_41 : decode cX12_text 41 = .ok (.iconst 0, 1) := by decide +kernel
theorem dX12_text_42 : decode cX12_text 42 = .ok (.putfield 133, 3) := by decide +kernel
theorem dX12_text_45 : decode cX12_text 45 = .ok (.aload_n 0, 1) := by decide +kernel
theorem dX12_text_46 : decode cX12_text 46 = .ok (.getfield 22, 3) := by decide +kernel
theorem dX12_text_49 : decode cX12_text 49 = .ok (.ifCond .eq 5, 3) := by decide +kernel
theorem dX12_text_54 : decode cX12_text 54 = .ok (.aload_n 0, 1) := by decide +kernel
theorem dX12_text_55 : decode cX12_text 55 = .ok (.getfield 7, 3) := by decide +kernel
theorem dX12_text_58 : decode cX12_text 58 = .ok (.bipush 7, 2) := by decide +kernel
theorem dX12_text_60 : decode cX12_text 60 = .ok (.dup2, 1) := by decide +kernel
theorem dX12_text_61 : decode cX12_text 61 = .ok (.iaload, 1) := by decide +kernel
theorem dX12_text_62 : decode cX12_text 62 = .ok (.iconst 1, 1) := by decide +kernel
theorem dX12_text_63 : decode cX12_text 63 = .ok (.iadd, 1) := by decide +kernel
theorem dX12_text_64 : decode cX12_text 64 = .ok (.iastore, 1) := by decide +kernel
theorem dX12_text_65 : decode cX12_text 65 = .ok (.aload_n 0, 1) := by decide +kernel
theorem dX12_text_66 : decode cX12_text 66 = .ok (.getfield 7, 3) := by decide +kernel
theorem dX12_text_69 : decode cX12_text 69 = .ok (.bipush 7, 2) := by decide +kernel
theorem dX12_text_71 : decode cX12_text 71 = .ok (.iaload, 1) := by decide +kernel
theorem dX12_text_72 : decode cX12_text 72 = .ok (.iconst 1, 1) := by decide +kernel
theorem dX12_text_73 : decode cX12_text 73 = .ok (.isub, 1) := by decide +kernel
theorem dX12_text_74 : decode cX12_text 74 = .ok (.ireturn, 1) := by decide +kernel
set_option maxHeartbeats 4000000 in
set_option maxRecDepth 100000 in
theorem m_four0 (l : Launch) (D : va_G) (cy : Nat → ClassId) (L : List Nat) (σ : Nat → va_E) (φ : Nat → Nat → Nat → Int32) (ρ : Nat → Nat → Int32) {m : Nat} {r : Nat → Nat} (v : Int32) (hm : zModel cy L σ m r) (ht : φ 12 4 m = 0) : zMV l D cy yX12_four cX12_four 3 (zrm 0 0 0) [.ref m, .int v] L σ φ ρ (zsv L σ (fun φ' _ => φ' 12 4 m = 4)) := by
  refine zMV.mk (by decide) (Nat.le_of_ble_eq_true rfl) (fun E hE hI hret => ?_)
  show zW E 0 0 L σ φ ρ 0 [(0, .ref m), (1, .int v)] []
  obtain ⟨hM, hr0, hr1, hr2, hr3, hr15, hr16, hr22, hr25, hr26, hr27, hr28, hr29, hr32, hr33, hr34, hr39, hr41, hr42, hr43, hr44, hr45, hr46, hr47, hr48, hr49, hr50, hr51, hr52, hne⟩ := id hm
  refine x_bipush (v := 24) hE dX12_four_0 (by decide) ?_
  refine x_istore_n (lv' := [(2, .int 24), (0, .ref m), (1, .int v)]) hE dX12_four_2 rfl (by decide) rfl ?_
  refine x_iload_n hE dX12_four_3 rfl 0 rfl ?_
  refine x_if_lt (tgt := 39) hE dX12_four_4 (by decide) (fun c_4 => absurd c_4 (by decide)) (fun c_4 => ?_)
  refine x_aload_n hE dX12_four_7 rfl 1 rfl ?_
  refine h_getr hE hM rfl inZX12 3 (by decide) q1397 rfl dX12_four_8 ?_
  refine x_aload_n hE dX12_four_11 rfl 1 rfl ?_
  refine h_geti hE hM rfl inZX12 4 (by decide) q1398 rfl dX12_four_12 ?_
  refine x_norm (y := 0) (ht) ?_
  refine x_iload_n hE dX12_four_15 rfl 2 rfl ?_
  refine x_iload_n hE dX12_four_16 rfl 0 rfl ?_
  refine x_ishr hE dX12_four_17 ?_
  refine x_sipush (v := 255) hE dX12_four_18 (by decide) ?_
  refine x_iand hE dX12_four_21 ?_
  refine h_iastL (iN := 0) hE hr3 (by decide) (by decide) (by omega) dX12_four_22 ?_
  refine x_rho (fun ρ_22 hρ_22 => ?_)
  refine x_aload_n hE dX12_four_23 rfl 1 rfl ?_
  refine x_dup hE dX12_four_24 rfl ?_
  refine h_geti hE hM rfl inZX12 4 (by decide) q1398 rfl dX12_four_25 ?_
  refine x_norm (y := 0) (ht) ?_
  refine x_iconst (v := 1) hE dX12_four_28 (by decide) ?_
  refine x_iadd hE dX12_four_29 ?_
  refine x_norm (y := 1) (by decide) ?_
  refine h_puti (ty := .int) (ty0 := tyX12) hE hM rfl inZX12 tyX12_ok nmX12 4 (by decide) q1398 rfl rfl (by decide +kernel) rfl rfl dX12_four_30 ?_
  refine x_iinc (v := 16) (lv' := [(2, .int 16), (0, .ref m), (1, .int v)]) hE dX12_four_33 0 rfl (by decide) (by decide) rfl ?_
  refine x_goto (tgt := 3) hE dX12_four_36 (by decide) ?_
  refine x_iload_n hE dX12_four_3 rfl 0 rfl ?_
  refine x_if_lt (tgt := 39) hE dX12_four_4 (by decide) (fun c_4 => absurd c_4 (by decide)) (fun c_4 => ?_)
  refine x_aload_n hE dX12_four_7 rfl 1 rfl ?_
  refine h_getr hE hM rfl inZX12 3 (by decide) q1397 rfl dX12_four_8 ?_
  refine x_aload_n hE dX12_four_11 rfl 1 rfl ?_
  refine h_geti hE hM rfl inZX12 4 (by decide) q1398 rfl dX12_four_12 ?_
  refine x_norm (y := 1) (by simp [zup]) ?_
  refine x_iload_n hE dX12_four_15 rfl 2 rfl ?_
  refine x_iload_n hE dX12_four_16 rfl 0 rfl ?_
  refine x_ishr hE dX12_four_17 ?_
  refine x_sipush (v := 255) hE dX12_four_18 (by decide) ?_
  refine x_iand hE dX12_four_21 ?_
  refine h_iastL (iN := 1) hE hr3 (by decide) (by decide) (by omega) dX12_four_22 ?_
  refine x_rho (fun ρ_22 hρ_22 => ?_)
  refine x_aload_n hE dX12_four_23 rfl 1 rfl ?_
  refine x_dup hE dX12_four_24 rfl ?_
  refine h_geti hE hM rfl inZX12 4 (by decide) q1398 rfl dX12_four_25 ?_
  refine x_norm (y := 1) (by simp [zup]) ?_
  refine x_iconst (v := 1) hE dX12_four_28 (by decide) ?_
  refine x_iadd hE dX12_four_29 ?_
  refine x_norm (y := 2) (by decide) ?_
  refine h_puti (ty := .int) (ty0 := tyX12) hE hM rfl inZX12 tyX12_ok nmX12 4 (by decide) q1398 rfl rfl (by decide +kernel) rfl rfl dX12_four_30 ?_
  refine x_iinc (v := 8) (lv' := [(2, .int 8), (0, .ref m), (1, .int v)]) hE dX12_four_33 0 rfl (by decide) (by decide) rfl ?_
  refine x_goto (tgt := 3) hE dX12_four_36 (by decide) ?_
  refine x_iload_n hE dX12_four_3 rfl 0 rfl ?_
  refine x_if_lt (tgt := 39) hE dX12_four_4 (by decide) (fun c_4 => absurd c_4 (by decide)) (fun c_4 => ?_)
  refine x_aload_n hE dX12_four_7 rfl 1 rfl ?_
  refine h_getr hE hM rfl inZX12 3 (by decide) q1397 rfl dX12_four_8 ?_
  refine x_aload_n hE dX12_four_11 rfl 1 rfl ?_
  refine h_geti hE hM rfl inZX12 4 (by decide) q1398 rfl dX12_four_12 ?_
  refine x_norm (y := 2) (by simp [zup]) ?_
  refine x_iload_n hE dX12_four_15 rfl 2 rfl ?_
  refine x_iload_n hE dX12_four_16 rfl 0 rfl ?_
  refine x_ishr hE dX12_four_17 ?_
  refine x_sipush (v := 255) hE dX12_four_18 (by decide) ?_
  refine x_iand hE dX12_four_21 ?_
  refine h_iastL (iN := 2) hE hr3 (by decide) (by decide) (by omega) dX12_four_22 ?_
  refine x_rho (fun ρ_22 hρ_22 => ?_)
  refine x_aload_n hE dX12_four_23 rfl 1 rfl ?_
  refine x_dup hE dX12_four_24 rfl ?_
  refine h_geti hE hM rfl inZX12 4 (by decide) q1398 rfl dX12_four_25 ?_
  refine x_norm (y := 2) (by simp [zup]) ?_
  refine x_iconst (v := 1) hE dX12_four_28 (by decide) ?_
  refine x_iadd hE dX12_four_29 ?_
  refine x_norm (y := 3) (by decide) ?_
  refine h_puti (ty := .int) (ty0 := tyX12) hE hM rfl inZX12 tyX12_ok nmX12 4 (by decide) q1398 rfl rfl (by decide +kernel) rfl rfl dX12_four_30 ?_
  refine x_iinc (v := 0) (lv' := [(2, .int 0), (0, .ref m), (1, .int v)]) hE dX12_four_33 0 rfl (by decide) (by decide) rfl ?_
  refine x_goto (tgt := 3) hE dX12_four_36 (by decide) ?_
  refine x_iload_n hE dX12_four_3 rfl 0 rfl ?_
  refine x_if_lt (tgt := 39) hE dX12_four_4 (by decide) (fun c_4 => absurd c_4 (by decide)) (fun c_4 => ?_)
  refine x_aload_n hE dX12_four_7 rfl 1 rfl ?_
  refine h_getr hE hM rfl inZX12 3 (by decide) q1397 rfl dX12_four_8 ?_
  refine x_aload_n hE dX12_four_11 rfl 1 rfl ?_
  refine h_geti hE hM rfl inZX12 4 (by decide) q1398 rfl dX12_four_12 ?_
  refine x_norm (y := 3) (by simp [zup]) ?_
  refine x_iload_n hE dX12_four_15 rfl 2 rfl ?_
  refine x_iload_n hE dX12_four_16 rfl 0 rfl ?_
  refine x_ishr hE dX12_four_17 ?_
  refine x_sipush (v := 255) hE dX12_four_18 (by decide) ?_
  refine x_iand hE dX12_four_21 ?_
  refine h_iastL (iN := 3) hE hr3 (by decide) (by decide) (by omega) dX12_four_22 ?_
  refine x_rho (fun ρ_22 hρ_22 => ?_)
  refine x_aload_n hE dX12_four_23 rfl 1 rfl ?_
  refine x_dup hE dX12_four_24 rfl ?_
  refine h_geti hE hM rfl inZX12 4 (by decide) q1398 rfl dX12_four_25 ?_
  refine x_norm (y := 3) (by simp [zup]) ?_
  refine x_iconst (v := 1) hE dX12_four_28 (by decide) ?_
  refine x_iadd hE dX12_four_29 ?_
  refine x_norm (y := 4) (by decide) ?_
  refine h_puti (ty := .int) (ty0 := tyX12) hE hM rfl inZX12 tyX12_ok nmX12 4 (by decide) q1398 rfl rfl (by decide +kernel) rfl rfl dX12_four_30 ?_
  refine x_iinc (v := -8) (lv' := [(2, .int (-8)), (0, .ref m), (1, .int v)]) hE dX12_four_33 0 rfl (by decide) (by decide) rfl ?_
  refine x_goto (tgt := 3) hE dX12_four_36 (by decide) ?_
  refine x_iload_n hE dX12_four_3 rfl 0 rfl ?_
  refine x_if_lt (tgt := 39) hE dX12_four_4 (by decide) (fun c_4 => ?_) (fun c_4 => absurd (by decide) c_4)
  exact hret _ _ _ _ _ _ _ _ (Nat.le_of_ble_eq_true rfl) (Nat.le_of_ble_eq_true rfl) dX12_four_39 (⟨rfl, rfl, by simp [zup]⟩)
set_option maxHeartbeats 4000000 in
set_option maxRecDepth 100000 in
theorem m_four4 (l : Launch) (D : va_G) (cy : Nat → ClassId) (L : List Nat) (σ : Nat → va_E) (φ : Nat → Nat → Nat → Int32) (ρ : Nat → Nat → Int32) {m : Nat} {r : Nat → Nat} (v : Int32) (hm : zModel cy L σ m r) (ht : φ 12 4 m = 4) : zMV l D cy yX12_four cX12_four 3 (zrm 0 0 0) [.ref m, .int v] L σ φ ρ (zsv L σ (fun φ' _ => φ' 12 4 m = 8)) := by
  refine zMV.mk (by decide) (Nat.le_of_ble_eq_true rfl) (fun E hE hI hret => ?_)
  show zW E 0 0 L σ φ ρ 0 [(0, .ref m), (1, .int v)] []
  obtain ⟨hM, hr0, hr1, hr2, hr3, hr15, hr16, hr22, hr25, hr26, hr27, hr28, hr29, hr32, hr33, hr34, hr39, hr41, hr42, hr43, hr44, hr45, hr46, hr47, hr48, hr49, hr50, hr51, hr52, hne⟩ := id hm
  refine x_bipush (v := 24) hE dX12_four_0 (by decide) ?_
  refine x_istore_n (lv' := [(2, .int 24), (0, .ref m), (1, .int v)]) hE dX12_four_2 rfl (by decide) rfl ?_
  refine x_iload_n hE dX12_four_3 rfl 0 rfl ?_
  refine x_if_lt (tgt := 39) hE dX12_four_4 (by decide) (fun c_4 => absurd c_4 (by decide)) (fun c_4 => ?_)
  refine x_aload_n hE dX12_four_7 rfl 1 rfl ?_
  refine h_getr hE hM rfl inZX12 3 (by decide) q1397 rfl dX12_four_8 ?_
  refine x_aload_n hE dX12_four_11 rfl 1 rfl ?_
  refine h_geti hE hM rfl inZX12 4 (by decide) q1398 rfl dX12_four_12 ?_
  refine x_norm (y := 4) (ht) ?_
  refine x_iload_n hE dX12_four_15 rfl 2 rfl ?_
  refine x_iload_n hE dX12_four_16 rfl 0 rfl ?_
  refine x_ishr hE dX12_four_17 ?_
  refine x_sipush (v := 255) hE dX12_four_18 (by decide) ?_
  refine x_iand hE dX12_four_21 ?_
  refine h_iastL (iN := 4) hE hr3 (by decide) (by decide) (by omega) dX12_four_22 ?_
  refine x_rho (fun ρ_22 hρ_22 => ?_)
  refine x_aload_n hE dX12_four_23 rfl 1 rfl ?_
  refine x_dup hE dX12_four_24 rfl ?_
  refine h_geti hE hM rfl inZX12 4 (by decide) q1398 rfl dX12_four_25 ?_
  refine x_norm (y := 4) (ht) ?_
  refine x_iconst (v := 1) hE dX12_four_28 (by decide) ?_
  refine x_iadd hE dX12_four_29 ?_
  refine x_norm (y := 5) (by decide) ?_
  refine h_puti (ty := .int) (ty0 := tyX12) hE hM rfl inZX12 tyX12_ok nmX12 4 (by decide) q1398 rfl rfl (by decide +kernel) rfl rfl dX12_four_30 ?_
  refine x_iinc (v := 16) (lv' := [(2, .int 16), (0, .ref m), (1, .int v)]) hE dX12_four_33 0 rfl (by decide) (by decide) rfl ?_
  refine x_goto (tgt := 3) hE dX12_four_36 (by decide) ?_
  refine x_iload_n hE dX12_four_3 rfl 0 rfl ?_
  refine x_if_lt (tgt := 39) hE dX12_four_4 (by decide) (fun c_4 => absurd c_4 (by decide)) (fun c_4 => ?_)
  refine x_aload_n hE dX12_four_7 rfl 1 rfl ?_
  refine h_getr hE hM rfl inZX12 3 (by decide) q1397 rfl dX12_four_8 ?_
  refine x_aload_n hE dX12_four_11 rfl 1 rfl ?_
  refine h_geti hE hM rfl inZX12 4 (by decide) q1398 rfl dX12_four_12 ?_
  refine x_norm (y := 5) (by simp [zup]) ?_
  refine x_iload_n hE dX12_four_15 rfl 2 rfl ?_
  refine x_iload_n hE dX12_four_16 rfl 0 rfl ?_
  refine x_ishr hE dX12_four_17 ?_
  refine x_sipush (v := 255) hE dX12_four_18 (by decide) ?_
  refine x_iand hE dX12_four_21 ?_
  refine h_iastL (iN := 5) hE hr3 (by decide) (by decide) (by omega) dX12_four_22 ?_
  refine x_rho (fun ρ_22 hρ_22 => ?_)
  refine x_aload_n hE dX12_four_23 rfl 1 rfl ?_
  refine x_dup hE dX12_four_24 rfl ?_
  refine h_geti hE hM rfl inZX12 4 (by decide) q1398 rfl dX12_four_25 ?_
  refine x_norm (y := 5) (by simp [zup]) ?_
  refine x_iconst (v := 1) hE dX12_four_28 (by decide) ?_
  refine x_iadd hE dX12_four_29 ?_
  refine x_norm (y := 6) (by decide) ?_
  refine h_puti (ty := .int) (ty0 := tyX12) hE hM rfl inZX12 tyX12_ok nmX12 4 (by decide) q1398 rfl rfl (by decide +kernel) rfl rfl dX12_four_30 ?_
  refine x_iinc (v := 8) (lv' := [(2, .int 8), (0, .ref m), (1, .int v)]) hE dX12_four_33 0 rfl (by decide) (by decide) rfl ?_
  refine x_goto (tgt := 3) hE dX12_four_36 (by decide) ?_
  refine x_iload_n hE dX12_four_3 rfl 0 rfl ?_
  refine x_if_lt (tgt := 39) hE dX12_four_4 (by decide) (fun c_4 => absurd c_4 (by decide)) (fun c_4 => ?_)
  refine x_aload_n hE dX12_four_7 rfl 1 rfl ?_
  refine h_getr hE hM rfl inZX12 3 (by decide) q1397 rfl dX12_four_8 ?_
  refine x_aload_n hE dX12_four_11 rfl 1 rfl ?_
  refine h_geti hE hM rfl inZX12 4 (by decide) q1398 rfl dX12_four_12 ?_
  refine x_norm (y := 6) (by simp [zup]) ?_
  refine x_iload_n hE dX12_four_15 rfl 2 rfl ?_
  refine x_iload_n hE dX12_four_16 rfl 0 rfl ?_
  refine x_ishr hE dX12_four_17 ?_
  refine x_sipush (v := 255) hE dX12_four_18 (by decide) ?_
  refine x_iand hE dX12_four_21 ?_
  refine h_iastL (iN := 6) hE hr3 (by decide) (by decide) (by omega) dX12_four_22 ?_
  refine x_rho (fun ρ_22 hρ_22 => ?_)
  refine x_aload_n hE dX12_four_23 rfl 1 rfl ?_
  refine x_dup hE dX12_four_24 rfl ?_
  refine h_geti hE hM rfl inZX12 4 (by decide) q1398 rfl dX12_four_25 ?_
  refine x_norm (y := 6) (by simp [zup]) ?_
  refine x_iconst (v := 1) hE dX12_four_28 (by decide) ?_
  refine x_iadd hE dX12_four_29 ?_
  refine x_norm (y := 7) (by decide) ?_
  refine h_puti (ty := .int) (ty0 := tyX12) hE hM rfl inZX12 tyX12_ok nmX12 4 (by decide) q1398 rfl rfl (by decide +kernel) rfl rfl dX12_four_30 ?_
  refine x_iinc (v := 0) (lv' := [(2, .int 0), (0, .ref m), (1, .int v)]) hE dX12_four_33 0 rfl (by decide) (by decide) rfl ?_
  refine x_goto (tgt := 3) hE dX12_four_36 (by decide) ?_
  refine x_iload_n hE dX12_four_3 rfl 0 rfl ?_
  refine x_if_lt (tgt := 39) hE dX12_four_4 (by decide) (fun c_4 => absurd c_4 (by decide)) (fun c_4 => ?_)
  refine x_aload_n hE dX12_four_7 rfl 1 rfl ?_
  refine h_getr hE hM rfl inZX12 3 (by decide) q1397 rfl dX12_four_8 ?_
  refine x_aload_n hE dX12_four_11 rfl 1 rfl ?_
  refine h_geti hE hM rfl inZX12 4 (by decide) q1398 rfl dX12_four_12 ?_
  refine x_norm (y := 7) (by simp [zup]) ?_
  refine x_iload_n hE dX12_four_15 rfl 2 rfl ?_
  refine x_iload_n hE dX12_four_16 rfl 0 rfl ?_
  refine x_ishr hE dX12_four_17 ?_
  refine x_sipush (v := 255) hE dX12_four_18 (by decide) ?_
  refine x_iand hE dX12_four_21 ?_
  refine h_iastL (iN := 7) hE hr3 (by decide) (by decide) (by omega) dX12_four_22 ?_
  refine x_rho (fun ρ_22 hρ_22 => ?_)
  refine x_aload_n hE dX12_four_23 rfl 1 rfl ?_
  refine x_dup hE dX12_four_24 rfl ?_
  refine h_geti hE hM rfl inZX12 4 (by decide) q1398 rfl dX12_four_25 ?_
  refine x_norm (y := 7) (by simp [zup]) ?_
  refine x_iconst (v := 1) hE dX12_four_28 (by decide) ?_
  refine x_iadd hE dX12_four_29 ?_
  refine x_norm (y := 8) (by decide) ?_
  refine h_puti (ty := .int) (ty0 := tyX12) hE hM rfl inZX12 tyX12_ok nmX12 4 (by decide) q1398 rfl rfl (by decide +kernel) rfl rfl dX12_four_30 ?_
  refine x_iinc (v := -8) (lv' := [(2, .int (-8)), (0, .ref m), (1, .int v)]) hE dX12_four_33 0 rfl (by decide) (by decide) rfl ?_
  refine x_goto (tgt := 3) hE dX12_four_36 (by decide) ?_
  refine x_iload_n hE dX12_four_3 rfl 0 rfl ?_
  refine x_if_lt (tgt := 39) hE dX12_four_4 (by decide) (fun c_4 => ?_) (fun c_4 => absurd (by decide) c_4)
  exact hret _ _ _ _ _ _ _ _ (Nat.le_of_ble_eq_true rfl) (Nat.le_of_ble_eq_true rfl) dX12_four_39 (⟨rfl, rfl, by simp [zup]⟩)
set_option maxHeartbeats 4000000 in
set_option maxRecDepth 100000 in
theorem m_four8 (l : Launch) (D : va_G) (cy : Nat → ClassId) (L : List Nat) (σ : Nat → va_E) (φ : Nat → Nat → Nat → Int32) (ρ : Nat → Nat → Int32) {m : Nat} {r : Nat → Nat} (v : Int32) (hm : zModel cy L σ m r) (ht : φ 12 4 m = 8) : zMV l D cy yX12_four cX12_four 3 (zrm 0 0 0) [.ref m, .int v] L σ φ ρ (zsv L σ (fun φ' _ => φ' 12 4 m = 12)) := by
  refine zMV.mk (by decide) (Nat.le_of_ble_eq_true rfl) (fun E hE hI hret => ?_)
  show zW E 0 0 L σ φ ρ 0 [(0, .ref m), (1, .int v)] []
  obtain ⟨hM, hr0, hr1, hr2, hr3, hr15, hr16, hr22, hr25, hr26, hr27, hr28, hr29, hr32, hr33, hr34, hr39, hr41, hr42, hr43, hr44, hr45, hr46, hr47, hr48, hr49, hr50, hr51, hr52, hne⟩ := id hm
  refine x_bipush (v := 24) hE dX12_four_0 (by decide) ?_
  refine x_istore_n (lv' := [(2, .int 24), (0, .ref m), (1, .int v)]) hE dX12_four_2 rfl (by decide) rfl ?_
  refine x_iload_n hE dX12_four_3 rfl 0 rfl ?_
  refine x_if_lt (tgt := 39) hE dX12_four_4 (by decide) (fun c_4 => absurd c_4 (by decide)) (fun c_4 => ?_)
  refine x_aload_n hE dX12_four_7 rfl 1 rfl ?_
  refine h_getr hE hM rfl inZX12 3 (by decide) q1397 rfl dX12_four_8 ?_
  refine x_aload_n hE dX12_four_11 rfl 1 rfl ?_
  refine h_geti hE hM rfl inZX12 4 (by decide) q1398 rfl dX12_four_12 ?_
  refine x_norm (y := 8) (ht) ?_
  refine x_iload_n hE dX12_four_15 rfl 2 rfl ?_
  refine x_iload_n hE dX12_four_16 rfl 0 rfl ?_
  refine x_ishr hE dX12_four_17 ?_
  refine x_sipush (v := 255) hE dX12_four_18 (by decide) ?_
  refine x_iand hE dX12_four_21 ?_
  refine h_iastL (iN := 8) hE hr3 (by decide) (by decide) (by omega) dX12_four_22 ?_
  refine x_rho (fun ρ_22 hρ_22 => ?_)
  refine x_aload_n hE dX12_four_23 rfl 1 rfl ?_
  refine x_dup hE dX12_four_24 rfl ?_
  refine h_geti hE hM rfl inZX12 4 (by decide) q1398 rfl dX12_four_25 ?_
  refine x_norm (y := 8) (ht) ?_
  refine x_iconst (v := 1) hE dX12_four_28 (by decide) ?_
  refine x_iadd hE dX12_four_29 ?_
  refine x_norm (y := 9) (by decide) ?_
  refine h_puti (ty := .int) (ty0 := tyX12) hE hM rfl inZX12 tyX12_ok nmX12 4 (by decide) q1398 rfl rfl (by decide +kernel) rfl rfl dX12_four_30 ?_
  refine x_iinc (v := 16) (lv' := [(2, .int 16), (0, .ref m), (1, .int v)]) hE dX12_four_33 0 rfl (by decide) (by decide) rfl ?_
  refine x_goto (tgt := 3) hE dX12_four_36 (by decide) ?_
  refine x_iload_n hE dX12_four_3 rfl 0 rfl ?_
  refine x_if_lt (tgt := 39) hE dX12_four_4 (by decide) (fun c_4 => absurd c_4 (by decide)) (fun c_4 => ?_)
  refine x_aload_n hE dX12_four_7 rfl 1 rfl ?_
  refine h_getr hE hM rfl inZX12 3 (by decide) q1397 rfl dX12_four_8 ?_
  refine x_aload_n hE dX12_four_11 rfl 1 rfl ?_
  refine h_geti hE hM rfl inZX12 4 (by decide) q1398 rfl dX12_four_12 ?_
  refine x_norm (y := 9) (by simp [zup]) ?_
  refine x_iload_n hE dX12_four_15 rfl 2 rfl ?_
  refine x_iload_n hE dX12_four_16 rfl 0 rfl ?_
  refine x_ishr hE dX12_four_17 ?_
  refine x_sipush (v := 255) hE dX12_four_18 (by decide) ?_
  refine x_iand hE dX12_four_21 ?_
  refine h_iastL (iN := 9) hE hr3 (by decide) (by decide) (by omega) dX12_four_22 ?_
  refine x_rho (fun ρ_22 hρ_22 => ?_)
  refine x_aload_n hE dX12_four_23 rfl 1 rfl ?_
  refine x_dup hE dX12_four_24 rfl ?_
  refine h_geti hE hM rfl inZX12 4 (by decide) q1398 rfl dX12_four_25 ?_
  refine x_norm (y := 9) (by simp [zup]) ?_
  refine x_iconst (v := 1) hE dX12_four_28 (by decide) ?_
  refine x_iadd hE dX12_four_29 ?_
  refine x_norm (y := 10) (by decide) ?_
  refine h_puti (ty := .int) (ty0 := tyX12) hE hM rfl inZX12 tyX12_ok nmX12 4 (by decide) q1398 rfl rfl (by decide +kernel) rfl rfl dX12_four_30 ?_
  refine x_iinc (v := 8) (lv' := [(2, .int 8), (0, .ref m), (1, .int v)]) hE dX12_four_33 0 rfl (by decide) (by decide) rfl ?_
  refine x_goto (tgt := 3) hE dX12_four_36 (by decide) ?_
  refine x_iload_n hE dX12_four_3 rfl 0 rfl ?_
  refine x_if_lt (tgt := 39) hE dX12_four_4 (by decide) (fun c_4 => absurd c_4 (by decide)) (fun c_4 => ?_)
  refine x_aload_n hE dX12_four_7 rfl 1 rfl ?_
  refine h_getr hE hM rfl inZX12 3 (by decide) q1397 rfl dX12_four_8 ?_
  refine x_aload_n hE dX12_four_11 rfl 1 rfl ?_
  refine h_geti hE hM rfl inZX12 4 (by decide) q1398 rfl dX12_four_12 ?_
  refine x_norm (y := 10) (by simp [zup]) ?_
  refine x_iload_n hE dX12_four_15 rfl 2 rfl ?_
  refine x_iload_n hE dX12_four_16 rfl 0 rfl ?_
  refine x_ishr hE dX12_four_17 ?_
  refine x_sipush (v := 255) hE dX12_four_18 (by decide) ?_
  refine x_iand hE dX12_four_21 ?_
  refine h_iastL (iN := 10) hE hr3 (by decide) (by decide) (by omega) dX12_four_22 ?_
  refine x_rho (fun ρ_22 hρ_22 => ?_)
  refine x_aload_n hE dX12_four_23 rfl 1 rfl ?_
  refine x_dup hE dX12_four_24 rfl ?_
  refine h_geti hE hM rfl inZX12 4 (by decide) q1398 rfl dX12_four_25 ?_
  refine x_norm (y := 10) (by simp [zup]) ?_
  refine x_iconst (v := 1) hE dX12_four_28 (by decide) ?_
  refine x_iadd hE dX12_four_29 ?_
  refine x_norm (y := 11) (by decide) ?_
  refine h_puti (ty := .int) (ty0 := tyX12) hE hM rfl inZX12 tyX12_ok nmX12 4 (by decide) q1398 rfl rfl (by decide +kernel) rfl rfl dX12_four_30 ?_
  refine x_iinc (v := 0) (lv' := [(2, .int 0), (0, .ref m), (1, .int v)]) hE dX12_four_33 0 rfl (by decide) (by decide) rfl ?_
  refine x_goto (tgt := 3) hE dX12_four_36 (by decide) ?_
  refine x_iload_n hE dX12_four_3 rfl 0 rfl ?_
  refine x_if_lt (tgt := 39) hE dX12_four_4 (by decide) (fun c_4 => absurd c_4 (by decide)) (fun c_4 => ?_)
  refine x_aload_n hE dX12_four_7 rfl 1 rfl ?_
  refine h_getr hE hM rfl inZX12 3 (by decide) q1397 rfl dX12_four_8 ?_
  refine x_aload_n hE dX12_four_11 rfl 1 rfl ?_
  refine h_geti hE hM rfl inZX12 4 (by decide) q1398 rfl dX12_four_12 ?_
  refine x_norm (y := 11) (by simp [zup]) ?_
  refine x_iload_n hE dX12_four_15 rfl 2 rfl ?_
  refine x_iload_n hE dX12_four_16 rfl 0 rfl ?_
  refine x_ishr hE dX12_four_17 ?_
  refine x_sipush (v := 255) hE dX12_four_18 (by decide) ?_
  refine x_iand hE dX12_four_21 ?_
  refine h_iastL (iN := 11) hE hr3 (by decide) (by decide) (by omega) dX12_four_22 ?_
  refine x_rho (fun ρ_22 hρ_22 => ?_)
  refine x_aload_n hE dX12_four_23 rfl 1 rfl ?_
  refine x_dup hE dX12_four_24 rfl ?_
  refine h_geti hE hM rfl inZX12 4 (by decide) q1398 rfl dX12_four_25 ?_
  refine x_norm (y := 11) (by simp [zup]) ?_
  refine x_iconst (v := 1) hE dX12_four_28 (by decide) ?_
  refine x_iadd hE dX12_four_29 ?_
  refine x_norm (y := 12) (by decide) ?_
  refine h_puti (ty := .int) (ty0 := tyX12) hE hM rfl inZX12 tyX12_ok nmX12 4 (by decide) q1398 rfl rfl (by decide +kernel) rfl rfl dX12_four_30 ?_
  refine x_iinc (v := -8) (lv' := [(2, .int (-8)), (0, .ref m), (1, .int v)]) hE dX12_four_33 0 rfl (by decide) (by decide) rfl ?_
  refine x_goto (tgt := 3) hE dX12_four_36 (by decide) ?_
  refine x_iload_n hE dX12_four_3 rfl 0 rfl ?_
  refine x_if_lt (tgt := 39) hE dX12_four_4 (by decide) (fun c_4 => ?_) (fun c_4 => absurd (by decide) c_4)
  exact hret _ _ _ _ _ _ _ _ (Nat.le_of_ble_eq_true rfl) (Nat.le_of_ble_eq_true rfl) dX12_four_39 (⟨rfl, rfl, by simp [zup]⟩)
set_option maxHeartbeats 4000000 in
set_option maxRecDepth 100000 in
theorem m_four12 (l : Launch) (D : va_G) (cy : Nat → ClassId) (L : List Nat) (σ : Nat → va_E) (φ : Nat → Nat → Nat → Int32) (ρ : Nat → Nat → Int32) {m : Nat} {r : Nat → Nat} (v : Int32) (hm : zModel cy L σ m r) (ht : φ 12 4 m = 12) : zMV l D cy yX12_four cX12_four 3 (zrm 0 0 0) [.ref m, .int v] L σ φ ρ (zsv L σ (fun φ' _ => φ' 12 4 m = 16)) := by
  refine zMV.mk (by decide) (Nat.le_of_ble_eq_true rfl) (fun E hE hI hret => ?_)
  show zW E 0 0 L σ φ ρ 0 [(0, .ref m), (1, .int v)] []
  obtain ⟨hM, hr0, hr1, hr2, hr3, hr15, hr16, hr22, hr25, hr26, hr27, hr28, hr29, hr32, hr33, hr34, hr39, hr41, hr42, hr43, hr44, hr45, hr46, hr47, hr48, hr49, hr50, hr51, hr52, hne⟩ := id hm
  refine x_bipush (v := 24) hE dX12_four_0 (by decide) ?_
  refine x_istore_n (lv' := [(2, .int 24), (0, .ref m), (1, .int v)]) hE dX12_four_2 rfl (by decide) rfl ?_
  refine x_iload_n hE dX12_four_3 rfl 0 rfl ?_
  refine x_if_lt (tgt := 39) hE dX12_four_4 (by decide) (fun c_4 => absurd c_4 (by decide)) (fun c_4 => ?_)
  refine x_aload_n hE dX12_four_7 rfl 1 rfl ?_
  refine h_getr hE hM rfl inZX12 3 (by decide) q1397 rfl dX12_four_8 ?_
  refine x_aload_n hE dX12_four_11 rfl 1 rfl ?_
  refine h_geti hE hM rfl inZX12 4 (by decide) q1398 rfl dX12_four_12 ?_
  refine x_norm (y := 12) (ht) ?_
  refine x_iload_n hE dX12_four_15 rfl 2 rfl ?_
  refine x_iload_n hE dX12_four_16 rfl 0 rfl ?_
  refine x_ishr hE dX12_four_17 ?_
  refine x_sipush (v := 255) hE dX12_four_18 (by decide) ?_
  refine x_iand hE dX12_four_21 ?_
  refine h_iastL (iN := 12) hE hr3 (by decide) (by decide) (by omega) dX12_four_22 ?_
  refine x_rho (fun ρ_22 hρ_22 => ?_)
  refine x_aload_n hE dX12_four_23 rfl 1 rfl ?_
  refine x_dup hE dX12_four_24 rfl ?_
  refine h_geti hE hM rfl inZX12 4 (by decide) q1398 rfl dX12_four_25 ?_
  refine x_norm (y := 12) (ht) ?_
  refine x_iconst (v := 1) hE dX12_four_28 (by decide) ?_
  refine x_iadd hE dX12_four_29 ?_
  refine x_norm (y := 13) (by decide) ?_
  refine h_puti (ty := .int) (ty0 := tyX12) hE hM rfl inZX12 tyX12_ok nmX12 4 (by decide) q1398 rfl rfl (by decide +kernel) rfl rfl dX12_four_30 ?_
  refine x_iinc (v := 16) (lv' := [(2, .int 16), (0, .ref m), (1, .int v)]) hE dX12_four_33 0 rfl (by decide) (by decide) rfl ?_
  refine x_goto (tgt := 3) hE dX12_four_36 (by decide) ?_
  refine x_iload_n hE dX12_four_3 rfl 0 rfl ?_
  refine x_if_lt (tgt := 39) hE dX12_four_4 (by decide) (fun c_4 => absurd c_4 (by decide)) (fun c_4 => ?_)
  refine x_aload_n hE dX12_four_7 rfl 1 rfl ?_
  refine h_getr hE hM rfl inZX12 3 (by decide) q1397 rfl dX12_four_8 ?_
  refine x_aload_n hE dX12_four_11 rfl 1 rfl ?_
  refine h_geti hE hM rfl inZX12 4 (by decide) q1398 rfl dX12_four_12 ?_
  refine x_norm (y := 13) (by simp [zup]) ?_
  refine x_iload_n hE dX12_four_15 rfl 2 rfl ?_
  refine x_iload_n hE dX12_four_16 rfl 0 rfl ?_
  refine x_ishr hE dX12_four_17 ?_
  refine x_sipush (v := 255) hE dX12_four_18 (by decide) ?_
  refine x_iand hE dX12_four_21 ?_
  refine h_iastL (iN := 13) hE hr3 (by decide) (by decide) (by omega) dX12_four_22 ?_
  refine x_rho (fun ρ_22 hρ_22 => ?_)
  refine x_aload_n hE dX12_four_23 rfl 1 rfl ?_
  refine x_dup hE dX12_four_24 rfl ?_
  refine h_geti hE hM rfl inZX12 4 (by decide) q1398 rfl dX12_four_25 ?_
  refine x_norm (y := 13) (by simp [zup]) ?_
  refine x_iconst (v := 1) hE dX12_four_28 (by decide) ?_
  refine x_iadd hE dX12_four_29 ?_
  refine x_norm (y := 14) (by decide) ?_
  refine h_puti (ty := .int) (ty0 := tyX12) hE hM rfl inZX12 tyX12_ok nmX12 4 (by decide) q1398 rfl rfl (by decide +kernel) rfl rfl dX12_four_30 ?_
  refine x_iinc (v := 8) (lv' := [(2, .int 8), (0, .ref m), (1, .int v)]) hE dX12_four_33 0 rfl (by decide) (by decide) rfl ?_
  refine x_goto (tgt := 3) hE dX12_four_36 (by decide) ?_
  refine x_iload_n hE dX12_four_3 rfl 0 rfl ?_
  refine x_if_lt (tgt := 39) hE dX12_four_4 (by decide) (fun c_4 => absurd c_4 (by decide)) (fun c_4 => ?_)
  refine x_aload_n hE dX12_four_7 rfl 1 rfl ?_
  refine h_getr hE hM rfl inZX12 3 (by decide) q1397 rfl dX12_four_8 ?_
  refine x_aload_n hE dX12_four_11 rfl 1 rfl ?_
  refine h_geti hE hM rfl inZX12 4 (by decide) q1398 rfl dX12_four_12 ?_
  refine x_norm (y := 14) (by simp [zup]) ?_
  refine x_iload_n hE dX12_four_15 rfl 2 rfl ?_
  refine x_iload_n hE dX12_four_16 rfl 0 rfl ?_
  refine x_ishr hE dX12_four_17 ?_
  refine x_sipush (v := 255) hE dX12_four_18 (by decide) ?_
  refine x_iand hE dX12_four_21 ?_
  refine h_iastL (iN := 14) hE hr3 (by decide) (by decide) (by omega) dX12_four_22 ?_
  refine x_rho (fun ρ_22 hρ_22 => ?_)
  refine x_aload_n hE dX12_four_23 rfl 1 rfl ?_
  refine x_dup hE dX12_four_24 rfl ?_
  refine h_geti hE hM rfl inZX12 4 (by decide) q1398 rfl dX12_four_25 ?_
  refine x_norm (y := 14) (by simp [zup]) ?_
  refine x_iconst (v := 1) hE dX12_four_28 (by decide) ?_
  refine x_iadd hE dX12_four_29 ?_
  refine x_norm (y := 15) (by decide) ?_
  refine h_puti (ty := .int) (ty0 := tyX12) hE hM rfl inZX12 tyX12_ok nmX12 4 (by decide) q1398 rfl rfl (by decide +kernel) rfl rfl dX12_four_30 ?_
  refine x_iinc (v := 0) (lv' := [(2, .int 0), (0, .ref m), (1, .int v)]) hE dX12_four_33 0 rfl (by decide) (by decide) rfl ?_
  refine x_goto (tgt := 3) hE dX12_four_36 (by decide) ?_
  refine x_iload_n hE dX12_four_3 rfl 0 rfl ?_
  refine x_if_lt (tgt := 39) hE dX12_four_4 (by decide) (fun c_4 => absurd c_4 (by decide)) (fun c_4 => ?_)
  refine x_aload_n hE dX12_four_7 rfl 1 rfl ?_
  refine h_getr hE hM rfl inZX12 3 (by decide) q1397 rfl dX12_four_8 ?_
  refine x_aload_n hE dX12_four_11 rfl 1 rfl ?_
  refine h_geti hE hM rfl inZX12 4 (by decide) q1398 rfl dX12_four_12 ?_
  refine x_norm (y := 15) (by simp [zup]) ?_
  refine x_iload_n hE dX12_four_15 rfl 2 rfl ?_
  refine x_iload_n hE dX12_four_16 rfl 0 rfl ?_
  refine x_ishr hE dX12_four_17 ?_
  refine x_sipush (v := 255) hE dX12_four_18 (by decide) ?_
  refine x_iand hE dX12_four_21 ?_
  refine h_iastL (iN := 15) hE hr3 (by decide) (by decide) (by omega) dX12_four_22 ?_
  refine x_rho (fun ρ_22 hρ_22 => ?_)
  refine x_aload_n hE dX12_four_23 rfl 1 rfl ?_
  refine x_dup hE dX12_four_24 rfl ?_
  refine h_geti hE hM rfl inZX12 4 (by decide) q1398 rfl dX12_four_25 ?_
  refine x_norm (y := 15) (by simp [zup]) ?_
  refine x_iconst (v := 1) hE dX12_four_28 (by decide) ?_
  refine x_iadd hE dX12_four_29 ?_
  refine x_norm (y := 16) (by decide) ?_
  refine h_puti (ty := .int) (ty0 := tyX12) hE hM rfl inZX12 tyX12_ok nmX12 4 (by decide) q1398 rfl rfl (by decide +kernel) rfl rfl dX12_four_30 ?_
  refine x_iinc (v := -8) (lv' := [(2, .int (-8)), (0, .ref m), (1, .int v)]) hE dX12_four_33 0 rfl (by decide) (by decide) rfl ?_
  refine x_goto (tgt := 3) hE dX12_four_36 (by decide) ?_
  refine x_iload_n hE dX12_four_3 rfl 0 rfl ?_
  refine x_if_lt (tgt := 39) hE dX12_four_4 (by decide) (fun c_4 => ?_) (fun c_4 => absurd (by decide) c_4)
  exact hret _ _ _ _ _ _ _ _ (Nat.le_of_ble_eq_true rfl) (Nat.le_of_ble_eq_true rfl) dX12_four_39 (⟨rfl, rfl, by simp [zup]⟩)
set_option maxHeartbeats 4000000 in
set_option maxRecDepth 100000 in
theorem m_four16 (l : Launch) (D : va_G) (cy : Nat → ClassId) (L : List Nat) (σ : Nat → va_E) (φ : Nat → Nat → Nat → Int32) (ρ : Nat → Nat → Int32) {m : Nat} {r : Nat → Nat} (v : Int32) (hm : zModel cy L σ m r) (ht : φ 12 4 m = 16) : zMV l D cy yX12_four cX12_four 3 (zrm 0 0 0) [.ref m, .int v] L σ φ ρ (zsv L σ (fun φ' _ => φ' 12 4 m = 20)) := by
  refine zMV.mk (by decide) (Nat.le_of_ble_eq_true rfl) (fun E hE hI hret => ?_)
  show zW E 0 0 L σ φ ρ 0 [(0, .ref m), (1, .int v)] []
  obtain ⟨hM, hr0, hr1, hr2, hr3, hr15, hr16, hr22, hr25, hr26, hr27, hr28, hr29, hr32, hr33, hr34, hr39, hr41, hr42, hr43, hr44, hr45, hr46, hr47, hr48, hr49, hr50, hr51, hr52, hne⟩ := id hm
  refine x_bipush (v := 24) hE dX12_four_0 (by decide) ?_
  refine x_istore_n (lv' := [(2, .int 24), (0, .ref m), (1, .int v)]) hE dX12_four_2 rfl (by decide) rfl ?_
  refine x_iload_n hE dX12_four_3 rfl 0 rfl ?_
  refine x_if_lt (tgt := 39) hE dX12_four_4 (by decide) (fun c_4 => absurd c_4 (by decide)) (fun c_4 => ?_)
  refine x_aload_n hE dX12_four_7 rfl 1 rfl ?_
  refine h_getr hE hM rfl inZX12 3 (by decide) q1397 rfl dX12_four_8 ?_
  refine x_aload_n hE dX12_four_11 rfl 1 rfl ?_
  refine h_geti hE hM rfl inZX12 4 (by decide) q1398 rfl dX12_four_12 ?_
  refine x_norm (y := 16) (ht) ?_
  refine x_iload_n hE dX12_four_15 rfl 2 rfl ?_
  refine x_iload_n hE dX12_four_16 rfl 0 rfl ?_
  refine x_ishr hE dX12_four_17 ?_
  refine x_sipush (v := 255) hE dX12_four_18 (by decide) ?_
  refine x_iand hE dX12_four_21 ?_
  refine h_iastL (iN := 16) hE hr3 (by decide) (by decide) (by omega) dX12_four_22 ?_
  refine x_rho (fun ρ_22 hρ_22 => ?_)
  refine x_aload_n hE dX12_four_23 rfl 1 rfl ?_
  refine x_dup hE dX12_four_24 rfl ?_
  refine h_geti hE hM rfl inZX12 4 (by decide) q1398 rfl dX12_four_25 ?_
  refine x_norm (y := 16) (ht) ?_
  refine x_iconst (v := 1) hE dX12_four_28 (by decide) ?_
  refine x_iadd hE dX12_four_29 ?_
  refine x_norm (y := 17) (by decide) ?_
  refine h_puti (ty := .int) (ty0 := tyX12) hE hM rfl inZX12 tyX12_ok nmX12 4 (by decide) q1398 rfl rfl (by decide +kernel) rfl rfl dX12_four_30 ?_
  refine x_iinc (v := 16) (lv' := [(2, .int 16), (0, .ref m), (1, .int v)]) hE dX12_four_33 0 rfl (by decide) (by decide) rfl ?_
  refine x_goto (tgt := 3) hE dX12_four_36 (by decide) ?_
  refine x_iload_n hE dX12_four_3 rfl 0 rfl ?_
  refine x_if_lt (tgt := 39) hE dX12_four_4 (by decide) (fun c_4 => absurd c_4 (by decide)) (fun c_4 => ?_)
  refine x_aload_n hE dX12_four_7 rfl 1 rfl ?_
  refine h_getr hE hM rfl inZX12 3 (by decide) q1397 rfl dX12_four_8 ?_
  refine x_aload_n hE dX12_four_11 rfl 1 rfl ?_
  refine h_geti hE hM rfl inZX12 4 (by decide) q1398 rfl dX12_four_12 ?_
  refine x_norm (y := 17) (by simp [zup]) ?_
  refine x_iload_n hE dX12_four_15 rfl 2 rfl ?_
  refine x_iload_n hE dX12_four_16 rfl 0 rfl ?_
  refine x_ishr hE dX12_four_17 ?_
  refine x_sipush (v := 255) hE dX12_four_18 (by decide) ?_
  refine x_iand hE dX12_four_21 ?_
  refine h_iastL (iN := 17) hE hr3 (by decide) (by decide) (by omega) dX12_four_22 ?_
  refine x_rho (fun ρ_22 hρ_22 => ?_)
  refine x_aload_n hE dX12_four_23 rfl 1 rfl ?_
  refine x_dup hE dX12_four_24 rfl ?_
  refine h_geti hE hM rfl inZX12 4 (by decide) q1398 rfl dX12_four_25 ?_
  refine x_norm (y := 17) (by simp [zup]) ?_
  refine x_iconst (v := 1) hE dX12_four_28 (by decide) ?_
  refine x_iadd hE dX12_four_29 ?_
  refine x_norm (y := 18) (by decide) ?_
  refine h_puti (ty := .int) (ty0 := tyX12) hE hM rfl inZX12 tyX12_ok nmX12 4 (by decide) q1398 rfl rfl (by decide +kernel) rfl rfl dX12_four_30 ?_
  refine x_iinc (v := 8) (lv' := [(2, .int 8), (0, .ref m), (1, .int v)]) hE dX12_four_33 0 rfl (by decide) (by decide) rfl ?_
  refine x_goto (tgt := 3) hE dX12_four_36 (by decide) ?_
  refine x_iload_n hE dX12_four_3 rfl 0 rfl ?_
  refine x_if_lt (tgt := 39) hE dX12_four_4 (by decide) (fun c_4 => absurd c_4 (by decide)) (fun c_4 => ?_)
  refine x_aload_n hE dX12_four_7 rfl 1 rfl ?_
  refine h_getr hE hM rfl inZX12 3 (by decide) q1397 rfl dX12_four_8 ?_
  refine x_aload_n hE dX12_four_11 rfl 1 rfl ?_
  refine h_geti hE hM rfl inZX12 4 (by decide) q1398 rfl dX12_four_12 ?_
  refine x_norm (y := 18) (by simp [zup]) ?_
  refine x_iload_n hE dX12_four_15 rfl 2 rfl ?_
  refine x_iload_n hE dX12_four_16 rfl 0 rfl ?_
  refine x_ishr hE dX12_four_17 ?_
  refine x_sipush (v := 255) hE dX12_four_18 (by decide) ?_
  refine x_iand hE dX12_four_21 ?_
  refine h_iastL (iN := 18) hE hr3 (by decide) (by decide) (by omega) dX12_four_22 ?_
  refine x_rho (fun ρ_22 hρ_22 => ?_)
  refine x_aload_n hE dX12_four_23 rfl 1 rfl ?_
  refine x_dup hE dX12_four_24 rfl ?_
  refine h_geti hE hM rfl inZX12 4 (by decide) q1398 rfl dX12_four_25 ?_
  refine x_norm (y := 18) (by simp [zup]) ?_
  refine x_iconst (v := 1) hE dX12_four_28 (by decide) ?_
  refine x_iadd hE dX12_four_29 ?_
  refine x_norm (y := 19) (by decide) ?_
  refine h_puti (ty := .int) (ty0 := tyX12) hE hM rfl inZX12 tyX12_ok nmX12 4 (by decide) q1398 rfl rfl (by decide +kernel) rfl rfl dX12_four_30 ?_
  refine x_iinc (v := 0) (lv' := [(2, .int 0), (0, .ref m), (1, .int v)]) hE dX12_four_33 0 rfl (by decide) (by decide) rfl ?_
  refine x_goto (tgt := 3) hE dX12_four_36 (by decide) ?_
  refine x_iload_n hE dX12_four_3 rfl 0 rfl ?_
  refine x_if_lt (tgt := 39) hE dX12_four_4 (by decide) (fun c_4 => absurd c_4 (by decide)) (fun c_4 => ?_)
  refine x_aload_n hE dX12_four_7 rfl 1 rfl ?_
  refine h_getr hE hM rfl inZX12 3 (by decide) q1397 rfl dX12_four_8 ?_
  refine x_aload_n hE dX12_four_11 rfl 1 rfl ?_
  refine h_geti hE hM rfl inZX12 4 (by decide) q1398 rfl dX12_four_12 ?_
  refine x_norm (y := 19) (by simp [zup]) ?_
  refine x_iload_n hE dX12_four_15 rfl 2 rfl ?_
  refine x_iload_n hE dX12_four_16 rfl 0 rfl ?_
  refine x_ishr hE dX12_four_17 ?_
  refine x_sipush (v := 255) hE dX12_four_18 (by decide) ?_
  refine x_iand hE dX12_four_21 ?_
  refine h_iastL (iN := 19) hE hr3 (by decide) (by decide) (by omega) dX12_four_22 ?_
  refine x_rho (fun ρ_22 hρ_22 => ?_)
  refine x_aload_n hE dX12_four_23 rfl 1 rfl ?_
  refine x_dup hE dX12_four_24 rfl ?_
  refine h_geti hE hM rfl inZX12 4 (by decide) q1398 rfl dX12_four_25 ?_
  refine x_norm (y := 19) (by simp [zup]) ?_
  refine x_iconst (v := 1) hE dX12_four_28 (by decide) ?_
  refine x_iadd hE dX12_four_29 ?_
  refine x_norm (y := 20) (by decide) ?_
  refine h_puti (ty := .int) (ty0 := tyX12) hE hM rfl inZX12 tyX12_ok nmX12 4 (by decide) q1398 rfl rfl (by decide +kernel) rfl rfl dX12_four_30 ?_
  refine x_iinc (v := -8) (lv' := [(2, .int (-8)), (0, .ref m), (1, .int v)]) hE dX12_four_33 0 rfl (by decide) (by decide) rfl ?_
  refine x_goto (tgt := 3) hE dX12_four_36 (by decide) ?_
  refine x_iload_n hE dX12_four_3 rfl 0 rfl ?_
  refine x_if_lt (tgt := 39) hE dX12_four_4 (by decide) (fun c_4 => ?_) (fun c_4 => absurd (by decide) c_4)
  exact hret _ _ _ _ _ _ _ _ (Nat.le_of_ble_eq_true rfl) (Nat.le_of_ble_eq_true rfl) dX12_four_39 (⟨rfl, rfl, by simp [zup]⟩)
set_option maxHeartbeats 4000000 in
set_option maxRecDepth 100000 in
theorem m_feed (l : Launch) (D : va_G) (cy : Nat → ClassId) (L : List Nat) (σ : Nat → va_E) (φ : Nat → Nat → Nat → Int32) (ρ : Nat → Nat → Int32) {m : Nat} {r : Nat → Nat} (a : Int32) (b : Int32) (c : Int32) (d : Int32) (e : Int32) (hm : zModel cy L σ m r) (hm0 : zMo0 φ ρ m r) : zMI l D cy yX12_feed cX12_feed 6 .int (zrm 3 0 0) [.ref m, .int a, .int b, .int c, .int d, .int e] L σ φ ρ (fun r _ => r = 20) := by
  refine zMI.mk (by decide) (Nat.le_of_ble_eq_true rfl) (fun E hE hret => ?_)
  show zW E 0 0 L σ φ ρ 0 [(0, .ref m), (1, .int a), (2, .int b), (3, .int c), (4, .int d), (5, .int e)] []
  obtain ⟨hM, hr0, hr1, hr2, hr3, hr15, hr16, hr22, hr25, hr26, hr27, hr28, hr29, hr32, hr33, hr34, hr39, hr41, hr42, hr43, hr44, hr45, hr46, hr47, hr48, hr49, hr50, hr51, hr52, hne⟩ := id hm
  obtain ⟨hp, h0, h1⟩ := id hm0
  have h00 : ρ (r 0) 0 = 0 := (h0 0 (by omega)).trans (by decide)
  have h01 : ρ (r 0) 1 = 0 := (h0 1 (by omega)).trans (by decide)
  refine x_aload_n hE dX12_feed_0 rfl 0 rfl ?_
  refine h_geti hE hM rfl inZX12 4 (by decide) q1398 rfl dX12_feed_1 ?_
  refine x_norm (y := 0) ((by simpa using hp 4)) ?_
  refine x_bipush (v := 20) hE dX12_feed_4 (by decide) ?_
  refine x_iadd hE dX12_feed_6 ?_
  refine x_norm (y := 20) (by decide) ?_
  refine x_sipush (v := 300) hE dX12_feed_7 (by decide) ?_
  refine x_icmp_le (tgt := 15) hE dX12_feed_10 (by decide) (fun c_10 => ?_) (fun c_10 => absurd (by decide) c_10)
  refine x_aload_n hE dX12_feed_15 rfl 0 rfl ?_
  refine x_iload_n hE dX12_feed_16 rfl 1 rfl ?_
  refine c_vs hE (r_V (st := []) hE (m_four0 l D cy L σ φ ρ (a) hm (by simpa using hp 4)) q1588 q1590 q41 q124 q1591 hM rfl ⟨by decide, by decide, pn_X12_four⟩ ⟨Nat.le_of_ble_eq_true rfl, Nat.le_of_ble_eq_true rfl⟩ ⟨Nat.le_of_ble_eq_true rfl, Nat.le_of_ble_eq_true rfl⟩ rfl (Nat.le_of_ble_eq_true rfl) dX12_feed_17) (fun φ4 ρ4 ha4 => ?_)
  refine x_widen (k' := 0) (n' := 0) (Nat.le_of_ble_eq_true rfl) (Nat.le_of_ble_eq_true rfl) ?_
  refine x_aload_n hE dX12_feed_20 rfl 0 rfl ?_
  refine x_iload_n hE dX12_feed_21 rfl 2 rfl ?_
  refine c_vs hE (r_V (st := []) hE (m_four4 l D cy L σ φ4 ρ4 (b) hm ha4) q1588 q1590 q41 q124 q1591 hM rfl ⟨by decide, by decide, pn_X12_four⟩ ⟨Nat.le_of_ble_eq_true rfl, Nat.le_of_ble_eq_true rfl⟩ ⟨Nat.le_of_ble_eq_true rfl, Nat.le_of_ble_eq_true rfl⟩ rfl (Nat.le_of_ble_eq_true rfl) dX12_feed_22) (fun φ8 ρ8 ha8 => ?_)
  refine x_widen (k' := 0) (n' := 0) (Nat.le_of_ble_eq_true rfl) (Nat.le_of_ble_eq_true rfl) ?_
  refine x_aload_n hE dX12_feed_25 rfl 0 rfl ?_
  refine x_iload_n hE dX12_feed_26 rfl 3 rfl ?_
  refine c_vs hE (r_V (st := []) hE (m_four8 l D cy L σ φ8 ρ8 (c) hm ha8) q1588 q1590 q41 q124 q1591 hM rfl ⟨by decide, by decide, pn_X12_four⟩ ⟨Nat.le_of_ble_eq_true rfl, Nat.le_of_ble_eq_true rfl⟩ ⟨Nat.le_of_ble_eq_true rfl, Nat.le_of_ble_eq_true rfl⟩ rfl (Nat.le_of_ble_eq_true rfl) dX12_feed_27) (fun φ12 ρ12 ha12 => ?_)
  refine x_widen (k' := 0) (n' := 0) (Nat.le_of_ble_eq_true rfl) (Nat.le_of_ble_eq_true rfl) ?_
  refine x_aload_n hE dX12_feed_30 rfl 0 rfl ?_
  refine x_iload hE dX12_feed_31 4 rfl ?_
  refine c_vs hE (r_V (st := []) hE (m_four12 l D cy L σ φ12 ρ12 (d) hm ha12) q1588 q1590 q41 q124 q1591 hM rfl ⟨by decide, by decide, pn_X12_four⟩ ⟨Nat.le_of_ble_eq_true rfl, Nat.le_of_ble_eq_true rfl⟩ ⟨Nat.le_of_ble_eq_true rfl, Nat.le_of_ble_eq_true rfl⟩ rfl (Nat.le_of_ble_eq_true rfl) dX12_feed_33) (fun φ16 ρ16 ha16 => ?_)
  refine x_widen (k' := 0) (n' := 0) (Nat.le_of_ble_eq_true rfl) (Nat.le_of_ble_eq_true rfl) ?_
  refine x_aload_n hE dX12_feed_36 rfl 0 rfl ?_
  refine x_iload hE dX12_feed_37 5 rfl ?_
  refine c_vs hE (r_V (st := []) hE (m_four16 l D cy L σ φ16 ρ16 (e) hm ha16) q1588 q1590 q41 q124 q1591 hM rfl ⟨by decide, by decide, pn_X12_four⟩ ⟨Nat.le_of_ble_eq_true rfl, Nat.le_of_ble_eq_true rfl⟩ ⟨Nat.le_of_ble_eq_true rfl, Nat.le_of_ble_eq_true rfl⟩ rfl (Nat.le_of_ble_eq_true rfl) dX12_feed_39) (fun φ20 ρ20 ha20 => ?_)
  refine x_widen (k' := 0) (n' := 0) (Nat.le_of_ble_eq_true rfl) (Nat.le_of_ble_eq_true rfl) ?_
  refine x_aload_n hE dX12_feed_42 rfl 0 rfl ?_
  refine h_geti hE hM rfl inZX12 4 (by decide) q1398 rfl dX12_feed_43 ?_
  refine x_norm (y := 20) (ha20) ?_
  exact hret _ _ _ _ _ _ _ _ (20) (Nat.le_of_ble_eq_true rfl) (Nat.le_of_ble_eq_true rfl) dX12_feed_46 (rfl) (rfl)
set_option maxHeartbeats 4000000 in
set_option maxRecDepth 100000 in
theorem m_byteAt (l : Launch) (D : va_G) (cy : Nat → ClassId) (L : List Nat) (σ : Nat → va_E) (φ : Nat → Nat → Nat → Int32) (ρ : Nat → Nat → Int32) {m : Nat} {r : Nat → Nat} (hm : zModel cy L σ m r) (ht : φ 12 4 m = 0) : zMI l D cy yX12_byteAt cX12_byteAt 2 .int (zrm 0 0 0) [.ref m, .int 0] L σ φ ρ (zpu L σ φ ρ (fun r => r = -1)) := by
  refine zMI.mk (by decide) (Nat.le_of_ble_eq_true rfl) (fun E hE hret => ?_)
  show zW E 0 0 L σ φ ρ 0 [(0, .ref m), (1, .int 0)] []
  obtain ⟨hM, hr0, hr1, hr2, hr3, hr15, hr16, hr22, hr25, hr26, hr27, hr28, hr29, hr32, hr33, hr34, hr39, hr41, hr42, hr43, hr44, hr45, hr46, hr47, hr48, hr49, hr50, hr51, hr52, hne⟩ := id hm
  refine x_iload_n hE dX12_byteAt_0 rfl 1 rfl ?_
  refine x_aload_n hE dX12_byteAt_1 rfl 0 rfl ?_
  refine h_geti hE hM rfl inZX12 4 (by decide) q1398 rfl dX12_byteAt_2 ?_
  refine x_norm (y := 0) (ht) ?_
  refine x_icmp_ge (tgt := 17) hE dX12_byteAt_5 (by decide) (fun c_5 => ?_) (fun c_5 => absurd (by decide) c_5)
  refine x_iconst (v := -1) hE dX12_byteAt_17 (by decide) ?_
  exact hret _ _ _ _ _ _ _ _ (-1) (Nat.le_of_ble_eq_true rfl) (Nat.le_of_ble_eq_true rfl) dX12_byteAt_18 (rfl) (⟨rfl, rfl⟩)
set_option maxHeartbeats 4000000 in
set_option maxRecDepth 100000 in
theorem m_nextToken (l : Launch) (D : va_G) (cy : Nat → ClassId) (L : List Nat) (σ : Nat → va_E) (φ : Nat → Nat → Nat → Int32) (ρ : Nat → Nat → Int32) {m : Nat} {r : Nat → Nat} (hm : zModel cy L σ m r) (ht : φ 12 4 m = 0) (ha : φ 12 7 m = 0) : zMV l D cy yX12_nextToken cX12_nextToken 2 (zrm 1 0 0) [.ref m] L σ φ ρ (zsv L σ (fun φ' ρ' => φ' = zup (zup φ 12 8 m 0) 12 9 m 0 ∧ ρ' = ρ)) := by
  refine zMV.mk (by decide) (Nat.le_of_ble_eq_true rfl) (fun E hE hI hret => ?_)
  show zW E 0 0 L σ φ ρ 0 [(0, .ref m)] []
  obtain ⟨hM, hr0, hr1, hr2, hr3, hr15, hr16, hr22, hr25, hr26, hr27, hr28, hr29, hr32, hr33, hr34, hr39, hr41, hr42, hr43, hr44, hr45, hr46, hr47, hr48, hr49, hr50, hr51, hr52, hne⟩ := id hm
  refine x_aload_n hE dX12_nextToken_0 rfl 0 rfl ?_
  refine x_aload_n hE dX12_nextToken_1 rfl 0 rfl ?_
  refine h_geti hE hM rfl inZX12 7 (by decide) q1401 rfl dX12_nextToken_2 ?_
  refine x_norm (y := 0) (ha) ?_
  refine c_ip hE (r_V (st := []) hE (m_byteAt l D cy L σ φ ρ hm ht) q1608 q1610 q44 q124 q1611 hM rfl ⟨by decide, by decide, pn_X12_byteAt⟩ ⟨Nat.le_of_ble_eq_true rfl, Nat.le_of_ble_eq_true rfl⟩ ⟨Nat.le_of_ble_eq_true rfl, Nat.le_of_ble_eq_true rfl⟩ rfl (Nat.le_of_ble_eq_true rfl) dX12_nextToken_5) (fun r5 h_5 => ?_)
  refine x_widen (k' := 0) (n' := 0) (Nat.le_of_ble_eq_true rfl) (Nat.le_of_ble_eq_true rfl) ?_
  refine x_norm (y := -1) (h_5) ?_
  refine x_bipush (v := 32) hE dX12_nextToken_8 (by decide) ?_
  refine x_icmp_eq (tgt := 26) hE dX12_nextToken_10 (by decide) (fun c_10 => absurd c_10 (by decide)) (fun c_10 => ?_)
  refine x_aload_n hE dX12_nextToken_13 rfl 0 rfl ?_
  refine x_aload_n hE dX12_nextToken_14 rfl 0 rfl ?_
  refine h_geti hE hM rfl inZX12 7 (by decide) q1401 rfl dX12_nextToken_15 ?_
  refine x_norm (y := 0) (ha) ?_
  refine c_ip hE (r_V (st := []) hE (m_byteAt l D cy L σ φ ρ hm ht) q1608 q1610 q44 q124 q1611 hM rfl ⟨by decide, by decide, pn_X12_byteAt⟩ ⟨Nat.le_of_ble_eq_true rfl, Nat.le_of_ble_eq_true rfl⟩ ⟨Nat.le_of_ble_eq_true rfl, Nat.le_of_ble_eq_true rfl⟩ rfl (Nat.le_of_ble_eq_true rfl) dX12_nextToken_18) (fun r18 h_18 => ?_)
  refine x_widen (k' := 0) (n' := 0) (Nat.le_of_ble_eq_true rfl) (Nat.le_of_ble_eq_true rfl) ?_
  refine x_norm (y := -1) (h_18) ?_
  refine x_bipush (v := 10) hE dX12_nextToken_21 (by decide) ?_
  refine x_icmp_ne (tgt := 39) hE dX12_nextToken_23 (by decide) (fun c_23 => ?_) (fun c_23 => absurd c_23 (by decide))
  refine x_aload_n hE dX12_nextToken_39 rfl 0 rfl ?_
  refine x_aload_n hE dX12_nextToken_40 rfl 0 rfl ?_
  refine h_geti hE hM rfl inZX12 7 (by decide) q1401 rfl dX12_nextToken_41 ?_
  refine x_norm (y := 0) (ha) ?_
  refine h_puti (ty := .int) (ty0 := tyX12) hE hM rfl inZX12 tyX12_ok nmX12 8 (by decide) q1402 rfl rfl (by decide +kernel) rfl rfl dX12_nextToken_44 ?_
  refine x_aload_n hE dX12_nextToken_47 rfl 0 rfl ?_
  refine x_aload_n hE dX12_nextToken_48 rfl 0 rfl ?_
  refine h_geti hE hM rfl inZX12 7 (by decide) q1401 rfl dX12_nextToken_49 ?_
  refine x_norm (y := 0) (by simp [zup]; exact ha) ?_
  refine c_ip hE (r_V (st := []) hE (m_byteAt l D cy L σ (zup φ 12 8 m (0)) ρ hm (by simp [zup]; exact ht)) q1608 q1610 q44 q124 q1611 hM rfl ⟨by decide, by decide, pn_X12_byteAt⟩ ⟨Nat.le_of_ble_eq_true rfl, Nat.le_of_ble_eq_true rfl⟩ ⟨Nat.le_of_ble_eq_true rfl, Nat.le_of_ble_eq_true rfl⟩ rfl (Nat.le_of_ble_eq_true rfl) dX12_nextToken_52) (fun r52 h_52 => ?_)
  refine x_widen (k' := 0) (n' := 0) (Nat.le_of_ble_eq_true rfl) (Nat.le_of_ble_eq_true rfl) ?_
  refine x_norm (y := -1) (h_52) ?_
  refine x_istore_n (lv' := [(1, .int (-1)), (0, .ref m)]) hE dX12_nextToken_55 rfl (by decide) rfl ?_
  refine x_iload_n hE dX12_nextToken_56 rfl 0 rfl ?_
  refine x_if_ge (tgt := 68) hE dX12_nextToken_57 (by decide) (fun c_57 => absurd c_57 (by decide)) (fun c_57 => ?_)
  refine x_aload_n hE dX12_nextToken_60 rfl 1 rfl ?_
  refine x_iconst (v := 0) hE dX12_nextToken_61 (by decide) ?_
  refine h_puti (ty := .int) (ty0 := tyX12) hE hM rfl inZX12 tyX12_ok nmX12 9 (by decide) q1403 rfl rfl (by decide +kernel) rfl rfl dX12_nextToken_62 ?_
  refine x_goto (tgt := 310) hE dX12_nextToken_65 (by decide) ?_
  exact hret _ _ _ _ _ _ _ _ (Nat.le_of_ble_eq_true rfl) (Nat.le_of_ble_eq_true rfl) dX12_nextToken_310 (⟨rfl, rfl, rfl, rfl⟩)
set_option maxHeartbeats 4000000 in
set_option maxRecDepth 100000 in
theorem m_readText (l : Launch) (D : va_G) (cy : Nat → ClassId) (L : List Nat) (σ : Nat → va_E) (φ : Nat → Nat → Nat → Int32) (ρ : Nat → Nat → Int32) {m : Nat} {r : Nat → Nat} (hm : zModel cy L σ m r) (ht : φ 12 4 m = 0) (h7 : ρ (r 0) 7 = 0) : zMI l D cy yX12_readText cX12_readText 2 .int (zrm 2 0 0) [.ref m] L σ φ ρ (zsa L σ (fun r' φ' ρ' => r' = 0 ∧ ρ' (r 0) = ρ (r 0))) := by
  refine zMI.mk (by decide) (Nat.le_of_ble_eq_true rfl) (fun E hE hret => ?_)
  show zW E 0 0 L σ φ ρ 0 [(0, .ref m)] []
  obtain ⟨hM, hr0, hr1, hr2, hr3, hr15, hr16, hr22, hr25, hr26, hr27, hr28, hr29, hr32, hr33, hr34, hr39, hr41, hr42, hr43, hr44, hr45, hr46, hr47, hr48, hr49, hr50, hr51, hr52, hne⟩ := id hm
  refine x_aload_n hE dX12_readText_0 rfl 0 rfl ?_
  refine x_sipush (v := 705) hE dX12_readText_1 (by decide) ?_
  refine x_aload_n hE dX12_readText_4 rfl 0 rfl ?_
  refine h_getr hE hM rfl inZX12 0 (by decide) q1394 rfl dX12_readText_5 ?_
  refine x_bipush (v := 7) hE dX12_readText_8 (by decide) ?_
  refine h_ialdL (iN := 7) hE hr0 (by decide) (by decide) (by omega) dX12_readText_10 ?_
  refine x_norm (y := 0) (h7) ?_
  refine x_imul hE dX12_readText_11 ?_
  refine x_norm (y := 0) (by decide) ?_
  refine h_puti (ty := .int) (ty0 := tyX12) hE hM rfl inZX12 tyX12_ok nmX12 12 (by decide) q1406 rfl rfl (by decide +kernel) rfl rfl dX12_readText_12 ?_
  refine x_aload_n hE dX12_readText_15 rfl 0 rfl ?_
  refine h_getr hE hM rfl inZX12 2 (by decide) q1396 rfl dX12_readText_16 ?_
  refine x_aload_n hE dX12_readText_19 rfl 0 rfl ?_
  refine h_geti hE hM rfl inZX12 12 (by decide) q1406 rfl dX12_readText_20 ?_
  refine x_norm (y := 0) (by simp [zup]) ?_
  refine x_iconst (v := 0) hE dX12_readText_23 (by decide) ?_
  refine h_iastL (iN := 0) hE hr2 (by decide) (by decide) (by omega) dX12_readText_24 ?_
  refine x_aload_n hE dX12_readText_25 rfl 0 rfl ?_
  refine x_iconst (v := 0) hE dX12_readText_26 (by decide) ?_
  refine h_puti (ty := .int) (ty0 := tyX12) hE hM rfl inZX12 tyX12_ok nmX12 13 (by decide) q1407 rfl rfl (by decide +kernel) rfl rfl dX12_readText_27 ?_
  refine x_aload_n hE dX12_readText_30 rfl 0 rfl ?_
  refine x_iconst (v := 0) hE dX12_readText_31 (by decide) ?_
  refine h_puti (ty := .int) (ty0 := tyX12) hE hM rfl inZX12 tyX12_ok nmX12 21 (by decide) q1415 rfl rfl (by decide +kernel) rfl rfl dX12_readText_32 ?_
  refine x_aload_n hE dX12_readText_35 rfl 0 rfl ?_
  refine x_iconst (v := 0) hE dX12_readText_36 (by decide) ?_
  refine h_puti (ty := .int) (ty0 := tyX12) hE hM rfl inZX12 tyX12_ok nmX12 7 (by decide) q1401 rfl rfl (by decide +kernel) rfl rfl dX12_readText_37 ?_
  refine x_aload_n hE dX12_readText_40 rfl 0 rfl ?_
  refine c_vs hE (r_V (st := []) hE (m_nextToken l D cy L σ (zup (zup (zup (zup φ 12 12 m (0)) 12 13 m (0)) 12 21 m (0)) 12 7 m (0)) (va_up ρ (r 2) (upd (ρ (r 2)) (0) (0))) hm (by simp [zup]; exact ht) (by simp [zup])) q1604 q1606 q43 q124 q1607 hM rfl ⟨by decide, by decide, pn_X12_nextToken⟩ ⟨Nat.le_of_ble_eq_true rfl, Nat.le_of_ble_eq_true rfl⟩ ⟨Nat.le_of_ble_eq_true rfl, Nat.le_of_ble_eq_true rfl⟩ rfl (Nat.le_of_ble_eq_true rfl) dX12_readText_41) (fun φn ρn hn => ?_)
  refine x_widen (k' := 0) (n' := 0) (Nat.le_of_ble_eq_true rfl) (Nat.le_of_ble_eq_true rfl) ?_
  obtain ⟨hn1, hn2⟩ := hn
  subst hn1
  refine x_aload_n hE dX12_readText_44 rfl 0 rfl ?_
  refine h_geti hE hM rfl inZX12 9 (by decide) q1403 rfl dX12_readText_45 ?_
  refine x_norm (y := 0) (by simp [zup]) ?_
  refine x_if_eq (tgt := 65) hE dX12_readText_48 (by decide) (fun c_48 => ?_) (fun c_48 => absurd (by decide) c_48)
  refine x_iconst (v := 0) hE dX12_readText_65 (by decide) ?_
  exact hret _ _ _ _ _ _ _ _ (0) (Nat.le_of_ble_eq_true rfl) (Nat.le_of_ble_eq_true rfl) dX12_readText_66 (rfl) (⟨rfl, rfl, rfl, by show ρn (r 0) = _; rw [hn2, va_up_ne _ _ (zT.ne hr0 hr2 (by simp))]⟩)
set_option maxHeartbeats 4000000 in
set_option maxRecDepth 100000 in
theorem m_text (l : Launch) (D : va_G) (cy : Nat → ClassId) (L : List Nat) (σ : Nat → va_E) (φ : Nat → Nat → Nat → Int32) (ρ : Nat → Nat → Int32) {m : Nat} {r : Nat → Nat}  (hm : zModel cy L σ m r) (hm0 : zMo0 φ ρ m r) : zMI l D cy yX12_text cX12_text 1 .int (zrm 3 0 0) [.ref m] L σ φ ρ (fun r _ => r = 0) := by
  refine zMI.mk (by decide) (Nat.le_of_ble_eq_true rfl) (fun E hE hret => ?_)
  show zW E 0 0 L σ φ ρ 0 [(0, .ref m)] []
  obtain ⟨hM, hr0, hr1, hr2, hr3, hr15, hr16, hr22, hr25, hr26, hr27, hr28, hr29, hr32, hr33, hr34, hr39, hr41, hr42, hr43, hr44, hr45, hr46, hr47, hr48, hr49, hr50, hr51, hr52, hne⟩ := id hm
  obtain ⟨hp, h0, h1⟩ := id hm0
  have h00 : ρ (r 0) 0 = 0 := (h0 0 (by omega)).trans (by decide)
  have h01 : ρ (r 0) 1 = 0 := (h0 1 (by omega)).trans (by decide)
  refine x_aload_n hE dX12_text_0 rfl 0 rfl ?_
  refine h_getr hE hM rfl inZX12 0 (by decide) q1394 rfl dX12_text_1 ?_
  refine x_bipush (v := 7) hE dX12_text_4 (by decide) ?_
  refine h_ialdL (iN := 7) hE hr0 (by decide) (by decide) (by omega) dX12_text_6 ?_
  refine x_norm (y := 0) ((h0 7 (by omega)).trans (by decide)) ?_
  refine x_iconst (v := 4) hE dX12_text_7 (by decide) ?_
  refine x_icmp_ne (tgt := 13) hE dX12_text_8 (by decide) (fun c_8 => ?_) (fun c_8 => absurd c_8 (by decide))
  refine x_aload_n hE dX12_text_13 rfl 0 rfl ?_
  refine x_aload_n hE dX12_text_14 rfl 0 rfl ?_
  refine c_is hE (r_V (st := [.ref m]) hE (m_readText l D cy L σ φ ρ hm (by simpa using hp 4) ((h0 7 (by omega)).trans (by decide))) q1600 q1602 q42 q124 q1603 hM rfl ⟨by decide, by decide, pn_X12_readText⟩ ⟨Nat.le_of_ble_eq_true rfl, Nat.le_of_ble_eq_true rfl⟩ ⟨Nat.le_of_ble_eq_true rfl, Nat.le_of_ble_eq_true rfl⟩ rfl (Nat.le_of_ble_eq_true rfl) dX12_text_15) (fun rq φ1 ρ1 hq => ?_)
  refine x_widen (k' := 0) (n' := 0) (Nat.le_of_ble_eq_true rfl) (Nat.le_of_ble_eq_true rfl) ?_
  obtain ⟨hq1, hq2⟩ := hq
  refine x_norm (y := 0) (hq1) ?_
  refine h_puti (ty := .int) (ty0 := tyX12) hE hM rfl inZX12 tyX12_ok nmX12 5 (by decide) q1399 rfl rfl (by decide +kernel) rfl rfl dX12_text_18 ?_
  refine x_aload_n hE dX12_text_21 rfl 0 rfl ?_
  refine x_aload_n hE dX12_text_22 rfl 0 rfl ?_
  refine h_geti hE hM rfl inZX12 5 (by decide) q1399 rfl dX12_text_23 ?_
  refine x_norm (y := 0) (by simp [zup]) ?_
  refine x_if_ne (tgt := 33) hE dX12_text_26 (by decide) (fun c_26 => absurd c_26 (fun h => h (by decide))) (fun c_26 => ?_)
  refine x_iconst (v := -1) hE dX12_text_29 (by decide) ?_
  refine x_goto (tgt := 37) hE dX12_text_30 (by decide) ?_
  refine h_puti (ty := .int) (ty0 := tyX12) hE hM rfl inZX12 tyX12_ok nmX12 6 (by decide) q1400 rfl rfl (by decide +kernel) rfl rfl dX12_text_37 ?_
  refine x_aload_n hE dX12_text_40 rfl 0 rfl ?_
  refine x_iconst (v := 0) hE dX12_text_41 (by decide) ?_
  refine h_puti (ty := .int) (ty0 := tyX12) hE hM rfl inZX12 tyX12_ok nmX12 4 (by decide) q1398 rfl rfl (by decide +kernel) rfl rfl dX12_text_42 ?_
  refine x_aload_n hE dX12_text_45 rfl 0 rfl ?_
  refine h_geti hE hM rfl inZX12 5 (by decide) q1399 rfl dX12_text_46 ?_
  refine x_norm (y := 0) (by simp [zup]) ?_
  refine x_if_eq (tgt := 54) hE dX12_text_49 (by decide) (fun c_49 => ?_) (fun c_49 => absurd (by decide) c_49)
  refine x_aload_n hE dX12_text_54 rfl 0 rfl ?_
  refine h_getr hE hM rfl inZX12 0 (by decide) q1394 rfl dX12_text_55 ?_
  refine x_bipush (v := 7) hE dX12_text_58 (by decide) ?_
  refine x_dup2 hE dX12_text_60 rfl rfl ?_
  refine h_ialdL (iN := 7) hE hr0 (by decide) (by decide) (by omega) dX12_text_61 ?_
  refine x_norm (y := 0) ((by rw [hq2]; exact (h0 7 (by omega)).trans (by decide))) ?_
  refine x_iconst (v := 1) hE dX12_text_62 (by decide) ?_
  refine x_iadd hE dX12_text_63 ?_
  refine x_norm (y := 1) (by decide) ?_
  refine h_iastL (iN := 7) hE hr0 (by decide) (by decide) (by omega) dX12_text_64 ?_
  refine x_aload_n hE dX12_text_65 rfl 0 rfl ?_
  refine h_getr hE hM rfl inZX12 0 (by decide) q1394 rfl dX12_text_66 ?_
  refine x_bipush (v := 7) hE dX12_text_69 (by decide) ?_
  refine h_ialdL (iN := 7) hE hr0 (by decide) (by decide) (by omega) dX12_text_71 ?_
  refine x_norm (y := 1) (by simp [va_up, upd]) ?_
  refine x_iconst (v := 1) hE dX12_text_72 (by decide) ?_
  refine x_isub hE dX12_text_73 ?_
  refine x_norm (y := 0) (by decide) ?_
  exact hret _ _ _ _ _ _ _ _ (0) (Nat.le_of_ble_eq_true rfl) (Nat.le_of_ble_eq_true rfl) dX12_text_74 (rfl) (rfl)
-- market(p) of a new reference
set_option maxHeartbeats 4000000 in
set_option maxRecDepth 100000 in
theorem m_market (l : Launch) (D : va_G) (cy : Nat → ClassId) (L : List Nat) (σ : Nat → va_E) (φ : Nat → Nat → Nat → Int32) (ρ : Nat → Nat → Int32) {m : Nat} {r : Nat → Nat} (p : Int32) (hm : zModel cy L σ m r) (hm0 : zMo0 φ ρ m r) : zMI l D cy yX12_market cX12_market 4 .int (zrm 3 0 0) [.ref m, .int p] L σ φ ρ (fun r _ => r = if p = -1 then 0 else if 0 ≤ p ∧ p ≤ 99 then 0 else -1) := by
  refine zMI.mk (by decide) (Nat.le_of_ble_eq_true rfl) (fun E hE hret => ?_)
  show zW E 0 0 L σ φ ρ 0 [(0, .ref m), (1, .int p)] []
  obtain ⟨hM, hr0, hr1, hr2, hr3, hr15, hr16, hr22, hr25, hr26, hr27, hr28, hr29, hr32, hr33, hr34, hr39, hr41, hr42, hr43, hr44, hr45, hr46, hr47, hr48, hr49, hr50, hr51, hr52, hne⟩ := id hm
  obtain ⟨hp, h0, h1⟩ := id hm0
  have h00 : ρ (r 0) 0 = 0 := (h0 0 (by omega)).trans (by decide)
  have h01 : ρ (r 0) 1 = 0 := (h0 1 (by omega)).trans (by decide)
  have h11 : ρ (r 0) 11 = 0 := (h0 11 (by omega)).trans (by decide)
  have h12 : ρ (r 0) 12 = 0 := (h0 12 (by omega)).trans (by decide)
  have loop : p = -1 → ∀ (f i : Nat), i ≤ 100 → 100 - i < f → zW E 0 0 L σ φ ρ 26 [(3, .int (nI i)), (2, .int 0), (0, .ref m), (1, .int p)] [] := by
    intro hp f
    induction f with
    | zero => intro i h1 h2; omega
    | succ f ih =>
      intro i hi hf
      rcases Nat.lt_or_ge i 100 with hlt | hge
      · refine x_iload_n hE dX12_market_26 rfl 0 rfl ?_
        refine x_bipush (v := 100) hE dX12_market_27 (by decide) ?_
        refine x_icmp_ge (tgt := 53) hE dX12_market_29 (by decide) (fun c_29 => absurd c_29 (fun h => absurd ((nI_leI (a := 100) (by omega) (by omega)).mp h) (by omega))) (fun c_29 => ?_)
        refine x_aload_n hE dX12_market_32 rfl 2 rfl ?_
        refine x_iload_n hE dX12_market_33 rfl 0 rfl ?_
        refine c_ip hE (r_V (st := []) hE (m_tradedAt l D cy L σ φ ρ (nI i) hm h12) q2057 q2059 q111 q124 q2060 hM rfl ⟨by decide, by decide, pn_X12_tradedAt⟩ ⟨Nat.le_of_ble_eq_true rfl, Nat.le_of_ble_eq_true rfl⟩ ⟨Nat.le_of_ble_eq_true rfl, Nat.le_of_ble_eq_true rfl⟩ rfl (Nat.le_of_ble_eq_true rfl) dX12_market_34) (fun r34 h_34 => ?_)
        refine x_widen (k' := 0) (n' := 0) (Nat.le_of_ble_eq_true rfl) (Nat.le_of_ble_eq_true rfl) ?_
        refine x_norm (y := 0) (h_34) ?_
        refine x_aload_n hE dX12_market_37 rfl 2 rfl ?_
        refine x_iload_n hE dX12_market_38 rfl 1 rfl ?_
        refine c_ip hE (r_V (st := [.int 0]) hE (m_tradedAt l D cy L σ φ ρ (0) hm h12) q2057 q2059 q111 q124 q2060 hM rfl ⟨by decide, by decide, pn_X12_tradedAt⟩ ⟨Nat.le_of_ble_eq_true rfl, Nat.le_of_ble_eq_true rfl⟩ ⟨Nat.le_of_ble_eq_true rfl, Nat.le_of_ble_eq_true rfl⟩ rfl (Nat.le_of_ble_eq_true rfl) dX12_market_39) (fun r39 h_39 => ?_)
        refine x_widen (k' := 0) (n' := 0) (Nat.le_of_ble_eq_true rfl) (Nat.le_of_ble_eq_true rfl) ?_
        refine x_norm (y := 0) (h_39) ?_
        refine x_icmp_le (tgt := 47) hE dX12_market_42 (by decide) (fun c_42 => ?_) (fun c_42 => absurd (by decide) c_42)
        refine x_iinc (v := nI (i + 1)) (lv' := [(3, .int (nI (i + 1))), (2, .int 0), (0, .ref m), (1, .int p)]) hE dX12_market_47 0 rfl (nI_1 i) (by decide) rfl ?_
        refine x_goto (tgt := 26) hE dX12_market_50 (by decide) ?_
        refine x_sub (lv' := [(3, .int (nI (i + 1))), (2, .int 0), (0, .ref m), (1, .int p)]) (by simp) ?_
        exact ih (i + 1) (by omega) (by omega)
      · refine x_iload_n hE dX12_market_26 rfl 0 rfl ?_
        refine x_bipush (v := 100) hE dX12_market_27 (by decide) ?_
        refine x_icmp_ge (tgt := 53) hE dX12_market_29 (by decide) (fun c_29 => ?_) (fun c_29 => absurd ((nI_leI (a := 100) (by omega) (by omega)).mpr (by omega)) c_29)
        refine x_iload_n hE dX12_market_53 rfl 1 rfl ?_
        exact hret _ _ _ _ _ _ _ _ (0) (Nat.le_of_ble_eq_true rfl) (Nat.le_of_ble_eq_true rfl) dX12_market_54 (rfl) (by rw [if_pos hp])
  refine x_iload_n hE dX12_market_0 rfl 1 rfl ?_
  refine x_iconst (v := -1) hE dX12_market_1 (by decide) ?_
  refine x_bipush (v := 99) hE dX12_market_2 (by decide) ?_
  refine c_ip hE (r_S (st := []) hE (m_isIn l D cy L σ φ ρ (p) (-1) (99)) q1558 q1559 q124 q1560 ⟨by decide, by decide, pn_X12_isIn⟩ ⟨Nat.le_of_ble_eq_true rfl, Nat.le_of_ble_eq_true rfl⟩ ⟨Nat.le_of_ble_eq_true rfl, Nat.le_of_ble_eq_true rfl⟩ rfl (Nat.le_of_ble_eq_true rfl) dX12_market_4) (fun r4 h4 => ?_)
  refine x_widen (k' := 0) (n' := 0) (Nat.le_of_ble_eq_true rfl) (Nat.le_of_ble_eq_true rfl) ?_
  refine x_if_ne (tgt := 12) hE dX12_market_7 (by decide) (fun c_7 => ?_) (fun c_7 => ?_)
  · refine x_iload_n hE dX12_market_12 rfl 1 rfl ?_
    refine x_if_lt (tgt := 22) hE dX12_market_13 (by decide) (fun c_13 => ?_) (fun c_13 => ?_)
    · refine x_iconst (v := 0) hE dX12_market_22 (by decide) ?_
      refine x_istore_n (lv' := [(2, .int 0), (0, .ref m), (1, .int p)]) hE dX12_market_23 rfl (by decide) rfl ?_
      refine x_iconst (v := 1) hE dX12_market_24 (by decide) ?_
      refine x_istore_n (lv' := [(3, .int 1), (2, .int 0), (0, .ref m), (1, .int p)]) hE dX12_market_25 rfl (by decide) rfl ?_
      have hpm : p = -1 := by grind [zb]
      refine x_sub (lv' := [(3, .int (nI 1)), (2, .int 0), (0, .ref m), (1, .int p)]) (by simp; rfl) ?_
      exact loop hpm 101 1 (by omega) (by omega)
    · refine x_aload_n hE dX12_market_16 rfl 0 rfl ?_
      refine x_iload_n hE dX12_market_17 rfl 1 rfl ?_
      refine c_ip hE (r_V (st := []) hE (m_tradedAt l D cy L σ φ ρ (p) hm h12) q2057 q2059 q111 q124 q2060 hM rfl ⟨by decide, by decide, pn_X12_tradedAt⟩ ⟨Nat.le_of_ble_eq_true rfl, Nat.le_of_ble_eq_true rfl⟩ ⟨Nat.le_of_ble_eq_true rfl, Nat.le_of_ble_eq_true rfl⟩ rfl (Nat.le_of_ble_eq_true rfl) dX12_market_18) (fun r18 h_18 => ?_)
      refine x_widen (k' := 0) (n' := 0) (Nat.le_of_ble_eq_true rfl) (Nat.le_of_ble_eq_true rfl) ?_
      refine x_norm (y := 0) (h_18) ?_
      exact hret _ _ _ _ _ _ _ _ (0) (Nat.le_of_ble_eq_true rfl) (Nat.le_of_ble_eq_true rfl) dX12_market_21 (rfl) (by grind [zb])
  · refine x_iconst (v := -1) hE dX12_market_10 (by decide) ?_
    exact hret _ _ _ _ _ _ _ _ (-1) (Nat.le_of_ble_eq_true rfl) (Nat.le_of_ble_eq_true rfl) dX12_market_11 (rfl) (by grind [zb])
