theorem dX0_addField_0 : decode cX0_addField 0 = .ok (.aload_n 0, 1) := by decide +kernel
theorem dX0_addField_1 : decode cX0_addField 1 = .ok (.getfield 9, 3) := by decide +kernel
theorem dX0_addField_4 : decode cX0_addField 4 = .ok (.aload_n 0, 1) := by decide +kernel
theorem dX0_addField_5 : decode cX0_addField 5 = .ok (.getfield 36, 3) := by decide +kernel
theorem dX0_addField_8 : decode cX0_addField 8 = .ok (.iload_n 1, 1) := by decide +kernel
theorem dX0_addField_9 : decode cX0_addField 9 = .ok (.iastore, 1) := by decide +kernel
theorem dX0_addField_10 : decode cX0_addField 10 = .ok (.aload_n 0, 1) := by decide +kernel
theorem dX0_addField_11 : decode cX0_addField 11 = .ok (.getfield 15, 3) := by decide +kernel
theorem dX0_addField_14 : decode cX0_addField 14 = .ok (.aload_n 0, 1) := by decide +kernel
theorem dX0_addField_15 : decode cX0_addField 15 = .ok (.getfield 36, 3) := by decide +kernel
theorem dX0_addField_18 : decode cX0_addField 18 = .ok (.iload_n 2, 1) := by decide +kernel
theorem dX0_addField_19 : decode cX0_addField 19 = .ok (.iastore, 1) := by decide +kernel
theorem dX0_addField_20 : decode cX0_addField 20 = .ok (.aload_n 0, 1) := by decide +kernel
theorem dX0_addField_21 : decode cX0_addField 21 = .ok (.getfield 18, 3) := by decide +kernel
theorem dX0_addField_24 : decode cX0_addField 24 = .ok (.aload_n 0, 1) := by decide +kernel
theorem dX0_addField_25 : decode cX0_addField 25 = .ok (.getfield 36, 3) := by decide +kernel
theorem dX0_addField_28 : decode cX0_addField 28 = .ok (.iload_n 3, 1) := by decide +kernel
theorem dX0_addField_29 : decode cX0_addField 29 = .ok (.iastore, 1) := by decide +kernel
theorem dX0_addField_30 : decode cX0_addField 30 = .ok (.aload_n 0, 1) := by decide +kernel
theorem dX0_addField_31 : decode cX0_addField 31 = .ok (.dup, 1) := by decide +kernel
theorem dX0_addField_32 : decode cX0_addField 32 = .ok (.getfield 36, 3) := by decide +kernel
theorem dX0_addField_35 : decode cX0_addField 35 = .ok (.dup_x1, 1) := by decide +kernel
theorem dX0_addField_36 : decode cX0_addField 36 = .ok (.iconst 1, 1) := by decide +kernel
theorem dX0_addField_37 : decode cX0_addField 37 = .ok (.iadd, 1) := by decide +kernel
theorem dX0_addField_38 : decode cX0_addField 38 = .ok (.putfield 36, 3) := by decide +kernel
theorem dX0_addField_41 : decode cX0_addField 41 = .ok (.ireturn, 1) := by decide +kernel
theorem dX11_end_0 : decode cX11_end 0 = .ok (.iload_n 1, 1) := by decide +kernel
theorem dX11_end_1 : decode cX11_end 1 = .ok (.ifCond .lt 14, 3) := by decide +kernel
theorem dX11_end_4 : decode cX11_end 4 = .ok (.iload_n 1, 1) := by decide +kernel
theorem dX11_end_5 : decode cX11_end 5 = .ok (.aload_n 0, 1) := by decide +kernel
theorem dX11_end_6 : decode cX11_end 6 = .ok (.getfield 22, 3) := by decide +kernel
theorem dX11_end_9 : decode cX11_end 9 = .ok (.getfield 107, 3) := by decide +kernel
theorem dX11_end_12 : decode cX11_end 12 = .ok (.if_icmp .le 5, 3) := by decide +kernel
theorem dX11_end_15 : decode cX11_end 15 = .ok (.iconst (-1), 1) := by decide +kernel
theorem dX11_end_16 : decode cX11_end 16 = .ok (.ireturn, 1) := by decide +kernel
theorem dX11_end_17 : decode cX11_end 17 = .ok (.aload_n 0, 1) := by decide +kernel
theorem dX11_end_18 : decode cX11_end 18 = .ok (.getfield 22, 3) := by decide +kernel
theorem dX11_end_21 : decode cX11_end 21 = .ok (.iload_n 1, 1) := by decide +kernel
theorem dX11_end_22 : decode cX11_end 22 = .ok (.putfield 107, 3) := by decide +kernel
theorem dX11_end_25 : decode cX11_end 25 = .ok (.iload_n 1, 1) := by decide +kernel
theorem dX11_end_26 : decode cX11_end 26 = .ok (.ireturn, 1) := by decide +kernel
theorem dX11_field_0 : decode cX11_field 0 = .ok (.aload_n 0, 1) := by decide +kernel
theorem dX11_field_1 : decode cX11_field 1 = .ok (.getfield 10, 3) := by decide +kernel
theorem dX11_field_4 : decode cX11_field 4 = .ok (.getfield 60, 3) := by decide +kernel
theorem dX11_field_7 : decode cX11_field 7 = .ok (.astore 4, 2) := by decide +kernel
theorem dX11_field_9 : decode cX11_field 9 = .ok (.iload_n 1, 1) := by decide +kernel
theorem dX11_field_10 : decode cX11_field 10 = .ok (.iconst 0, 1) := by decide +kernel
theorem dX11_field_11 : decode cX11_field 11 = .ok (.bipush 9, 2) := by decide +kernel
theorem dX11_field_13 : decode cX11_field 13 = .ok (.invokestatic 64, 3) := by decide +kernel
theorem dX11_field_16 : decode cX11_field 16 = .ok (.ifCond .eq 34, 3) := by decide +kernel
theorem dX11_field_19 : decode cX11_field 19 = .ok (.iload_n 2, 1) := by decide +kernel
theorem dX11_field_20 : decode cX11_field 20 = .ok (.iconst 0, 1) := by decide +kernel
theorem dX11_field_21 : decode cX11_field 21 = .ok (.sipush 999, 3) := by decide +kernel
theorem dX11_field_24 : decode cX11_field 24 = .ok (.invokestatic 64, 3) := by decide +kernel
theorem dX11_field_27 : decode cX11_field 27 = .ok (.ifCond .eq 23, 3) := by decide +kernel
theorem dX11_field_30 : decode cX11_field 30 = .ok (.iload_n 3, 1) := by decide +kernel
theorem dX11_field_31 : decode cX11_field 31 = .ok (.iconst 1, 1) := by decide +kernel
theorem dX11_field_32 : decode cX11_field 32 = .ok (.sipush 999, 3) := by decide +kernel
theorem dX11_field_35 : decode cX11_field 35 = .ok (.invokestatic 64, 3) := by decide +kernel
theorem dX11_field_38 : decode cX11_field 38 = .ok (.ifCond .eq 12, 3) := by decide +kernel
theorem dX11_field_41 : decode cX11_field 41 = .ok (.iload_n 3, 1) := by decide +kernel
theorem dX11_field_42 : decode cX11_field 42 = .ok (.iload_n 2, 1) := by decide +kernel
theorem dX11_field_43 : decode cX11_field 43 = .ok (.if_icmp .le 7, 3) := by decide +kernel
theorem dX11_field_46 : decode cX11_field 46 = .ok (.iconst 1, 1) := by decide +kernel
theorem dX11_field_47 : decode cX11_field 47 = .ok (.goto 4, 3) := by decide +kernel
theorem dX11_field_50 : decode cX11_field 50 = .ok (.iconst 0, 1) := by decide +kernel
theorem dX11_field_51 : decode cX11_field 51 = .ok (.istore 5, 2) := by decide +kernel
theorem dX11_field_53 : decode cX11_field 53 = .ok (.iload 5, 2) := by decide +kernel
theorem dX11_field_55 : decode cX11_field 55 = .ok (.ifCond .eq 13, 3) := by decide +kernel
theorem dX11_field_58 : decode cX11_field 58 = .ok (.aload 4, 2) := by decide +kernel
theorem dX11_field_60 : decode cX11_field 60 = .ok (.getfield 68, 3) := by decide +kernel
theorem dX11_field_63 : decode cX11_field 63 = .ok (.bipush 6, 2) := by decide +kernel
theorem dX11_field_65 : decode cX11_field 65 = .ok (.if_icmp .lt 5, 3) := by decide +kernel
theorem dX11_field_68 : decode cX11_field 68 = .ok (.iconst (-1), 1) := by decide +kernel
theorem dX11_field_69 : decode cX11_field 69 = .ok (.ireturn, 1) := by decide +kernel
theorem dX11_field_70 : decode cX11_field 70 = .ok (.aload 4, 2) := by decide +kernel
theorem dX11_field_72 : decode cX11_field 72 = .ok (.iload_n 1, 1) := by decide +kernel
theorem dX11_field_73 : decode cX11_field 73 = .ok (.iload_n 2, 1) := by decide +kernel
theorem dX11_field_74 : decode cX11_field 74 = .ok (.iload_n 3, 1) := by decide +kernel
theorem dX11_field_75 : decode cX11_field 75 = .ok (.invokevirtual 74, 3) := by decide +kernel
theorem dX11_field_78 : decode cX11_field 78 = .ok (.ireturn, 1) := by decide +kernel
set_option maxHeartbeats 4000000 in
set_option maxRecDepth 100000 in
theorem k_addField (l : Launch) (D : va_G) (cy : Nat → ClassId) (L : List Nat) (σ : Nat → va_E) (φ : Nat → Nat → Nat → Int32) (ρ : Nat → Nat → Int32) {a a0 a1 a2 a3 a4 a5 a6 a7 : Nat} (x y z : Int32) (ha : zT L σ a (.inr (0, [.int 0, .int 0, .ref a0, .ref a1, .ref a2, .ref a3, .ref a4, .ref a5, .ref a6, .ref a7]))) (ha0 : zT L σ a0 (zIA cy 6)) (ha1 : zT L σ a1 (zIA cy 6)) (ha2 : zT L σ a2 (zIA cy 6)) (h0 : φ 0 0 a = 0) : zMI l D cy yX0_addField cX0_addField 4 .int (zrm 0 0 0) [.ref a, .int x, .int y, .int z] L σ φ ρ (fun r _ => r = 0) := by
  refine zMI.mk (by decide) (Nat.le_of_ble_eq_true rfl) (fun E hE hret => ?_)
  show zW E 0 0 L σ φ ρ 0 [(0, .ref a), (1, .int x), (2, .int y), (3, .int z)] []
  refine x_aload_n hE dX0_addField_0 rfl 0 rfl ?_
  refine h_getr hE ha rfl inZX0 2 (by decide) q163 rfl dX0_addField_1 ?_
  refine x_aload_n hE dX0_addField_4 rfl 0 rfl ?_
  refine h_geti hE ha rfl inZX0 0 (by decide) q154 rfl dX0_addField_5 ?_
  refine x_norm (y := 0) (h0) ?_
  refine x_iload_n hE dX0_addField_8 rfl 1 rfl ?_
  refine h_iast hE ha0 (by unfold vp_in; decide) dX0_addField_9 ?_
  refine x_aload_n hE dX0_addField_10 rfl 0 rfl ?_
  refine h_getr hE ha rfl inZX0 3 (by decide) q166 rfl dX0_addField_11 ?_
  refine x_aload_n hE dX0_addField_14 rfl 0 rfl ?_
  refine h_geti hE ha rfl inZX0 0 (by decide) q154 rfl dX0_addField_15 ?_
  refine x_norm (y := 0) (h0) ?_
  refine x_iload_n hE dX0_addField_18 rfl 2 rfl ?_
  refine h_iast hE ha1 (by unfold vp_in; decide) dX0_addField_19 ?_
  refine x_aload_n hE dX0_addField_20 rfl 0 rfl ?_
  refine h_getr hE ha rfl inZX0 4 (by decide) q170 rfl dX0_addField_21 ?_
  refine x_aload_n hE dX0_addField_24 rfl 0 rfl ?_
  refine h_geti hE ha rfl inZX0 0 (by decide) q154 rfl dX0_addField_25 ?_
  refine x_norm (y := 0) (h0) ?_
  refine x_iload_n hE dX0_addField_28 rfl 3 rfl ?_
  refine h_iast hE ha2 (by unfold vp_in; decide) dX0_addField_29 ?_
  refine x_aload_n hE dX0_addField_30 rfl 0 rfl ?_
  refine x_dup hE dX0_addField_31 rfl ?_
  refine h_geti hE ha rfl inZX0 0 (by decide) q154 rfl dX0_addField_32 ?_
  refine x_norm (y := 0) (h0) ?_
  refine x_dup_x1 hE dX0_addField_35 rfl rfl ?_
  refine x_iconst (v := 1) hE dX0_addField_36 (by decide) ?_
  refine x_iadd hE dX0_addField_37 ?_
  refine h_puti (ty := .int) (ty0 := tyX0) hE ha rfl inZX0 tyX0_ok nmX0 0 (by decide) q154 rfl rfl (by decide +kernel) rfl rfl dX0_addField_38 ?_
  exact hret _ _ _ _ _ _ _ _ (0) (Nat.le_of_ble_eq_true rfl) (Nat.le_of_ble_eq_true rfl) dX0_addField_41 (rfl) (rfl)
set_option maxHeartbeats 4000000 in
set_option maxRecDepth 100000 in
theorem o_field (l : Launch) (D : va_G) (cy : Nat → ClassId) (L : List Nat) (σ : Nat → va_E) (φ : Nat → Nat → Nat → Int32) (ρ : Nat → Nat → Int32) {x : Nat} (h : Int32) (n : Int32) (d : Int32) (hx : zOR cy L σ φ x) : zMI l D cy yX11_field cX11_field 6 .int (zrm 3 0 0) [.ref x, .int h, .int n, .int d] L σ φ ρ (fun r _ => r = if (0 ≤ h ∧ h ≤ 9) ∧ (0 ≤ n ∧ n ≤ 999) ∧ (1 ≤ d ∧ d ≤ 999) ∧ n < d then 0 else -1) := by
  refine zMI.mk (by decide) (Nat.le_of_ble_eq_true rfl) (fun E hE hret => ?_)
  show zW E 0 0 L σ φ ρ 0 [(0, .ref x), (1, .int h), (2, .int n), (3, .int d)] []
  obtain ⟨now, kept, tape, reader, weather, planner, ways, la, wo, sp, li, te, g, la', wo', sp', li', te', g', hx, hs, hs0, hk, hk0, htp, htp0, hrd, hrd0, hrd1, hwe, hwe0, hpl, hwy⟩ := hx
  obtain ⟨hn, hla, hwo, hsp, hli, hte⟩ := id hs
  obtain ⟨p45, p46, p00, p01, p10, p50, p51, pl0, pl1, pl2, pg⟩ := id hs0
  obtain ⟨f0, f1, f2, f3, f4, f5, f6, f7, hL, hL0, hL1, hL2, hL3, hL4, hL5, hL6, hL7⟩ := id hla
  obtain ⟨w0, w1, w2, w3, w4, w5, w6, w7, hW, hW0, hW1, hW2, hW3, hW4, hW5, hW6, hW7⟩ := id hwo
  obtain ⟨s0, s1, hSp, hSp0, hSp1, hSpW⟩ := id hsp
  obtain ⟨i0, i1, i2, i3, i4, i5, i6, i7, hLi, hLi0, hLi1, hLi2, hLi3, hLi4, hLi5, hLi6, hLi7⟩ := id hli
  obtain ⟨t0, t1, t2, t3, hTp, hTp0, hTp1, hTp2, hTp3, hTn1, hTn2⟩ := id htp
  refine x_aload_n hE dX11_field_0 rfl 0 rfl ?_
  refine h_getr hE hx rfl inZX11 0 (by decide) q556 rfl dX11_field_1 ?_
  refine h_getr hE hn rfl inZX4 0 (by decide) q362 rfl dX11_field_4 ?_
  refine x_astore (lv' := [(4, .ref la), (0, .ref x), (1, .int h), (2, .int n), (3, .int d)]) hE dX11_field_7 (by decide) rfl ?_
  refine x_iload_n hE dX11_field_9 rfl 2 rfl ?_
  refine x_iconst (v := 0) hE dX11_field_10 (by decide) ?_
  refine x_bipush (v := 9) hE dX11_field_11 (by decide) ?_
  refine c_ip hE (r_S (st := []) hE (k_isWithin l D cy L σ φ ρ (h) (0) (9)) q582 q583 q113 q584 ⟨by decide, by decide, pn_X11_isWithin⟩ ⟨Nat.le_of_ble_eq_true rfl, Nat.le_of_ble_eq_true rfl⟩ ⟨Nat.le_of_ble_eq_true rfl, Nat.le_of_ble_eq_true rfl⟩ rfl (Nat.le_of_ble_eq_true rfl) dX11_field_13) (fun r13 h13 => ?_)
  refine x_widen (k' := 0) (n' := 0) (Nat.le_of_ble_eq_true rfl) (Nat.le_of_ble_eq_true rfl) ?_
  refine x_if_eq (tgt := 50) hE dX11_field_16 (by decide) (fun c_16 => ?_) (fun c_16 => ?_)
  · refine x_iconst (v := 0) hE dX11_field_50 (by decide) ?_
    refine x_istore (lv' := [(5, .int 0), (4, .ref la), (0, .ref x), (1, .int h), (2, .int n), (3, .int d)]) hE dX11_field_51 (by decide) rfl ?_
    refine x_iload hE dX11_field_53 0 rfl ?_
    refine x_if_eq (tgt := 68) hE dX11_field_55 (by decide) (fun c_55 => ?_) (fun c_55 => absurd (by decide) c_55)
    refine x_iconst (v := -1) hE dX11_field_68 (by decide) ?_
    exact hret _ _ _ _ _ _ _ _ (-1) (Nat.le_of_ble_eq_true rfl) (Nat.le_of_ble_eq_true rfl) dX11_field_69 (rfl) (by grind [zb])
  · refine x_iload_n hE dX11_field_19 rfl 3 rfl ?_
    refine x_iconst (v := 0) hE dX11_field_20 (by decide) ?_
    refine x_sipush (v := 999) hE dX11_field_21 (by decide) ?_
    refine c_ip hE (r_S (st := []) hE (k_isWithin l D cy L σ φ ρ (n) (0) (999)) q582 q583 q113 q584 ⟨by decide, by decide, pn_X11_isWithin⟩ ⟨Nat.le_of_ble_eq_true rfl, Nat.le_of_ble_eq_true rfl⟩ ⟨Nat.le_of_ble_eq_true rfl, Nat.le_of_ble_eq_true rfl⟩ rfl (Nat.le_of_ble_eq_true rfl) dX11_field_24) (fun r24 h24 => ?_)
    refine x_widen (k' := 0) (n' := 0) (Nat.le_of_ble_eq_true rfl) (Nat.le_of_ble_eq_true rfl) ?_
    refine x_if_eq (tgt := 50) hE dX11_field_27 (by decide) (fun c_27 => ?_) (fun c_27 => ?_)
    · refine x_iconst (v := 0) hE dX11_field_50 (by decide) ?_
      refine x_istore (lv' := [(5, .int 0), (4, .ref la), (0, .ref x), (1, .int h), (2, .int n), (3, .int d)]) hE dX11_field_51 (by decide) rfl ?_
      refine x_iload hE dX11_field_53 0 rfl ?_
      refine x_if_eq (tgt := 68) hE dX11_field_55 (by decide) (fun c_55 => ?_) (fun c_55 => absurd (by decide) c_55)
      refine x_iconst (v := -1) hE dX11_field_68 (by decide) ?_
      exact hret _ _ _ _ _ _ _ _ (-1) (Nat.le_of_ble_eq_true rfl) (Nat.le_of_ble_eq_true rfl) dX11_field_69 (rfl) (by grind [zb])
    · refine x_iload_n hE dX11_field_30 rfl 4 rfl ?_
      refine x_iconst (v := 1) hE dX11_field_31 (by decide) ?_
      refine x_sipush (v := 999) hE dX11_field_32 (by decide) ?_
      refine c_ip hE (r_S (st := []) hE (k_isWithin l D cy L σ φ ρ (d) (1) (999)) q582 q583 q113 q584 ⟨by decide, by decide, pn_X11_isWithin⟩ ⟨Nat.le_of_ble_eq_true rfl, Nat.le_of_ble_eq_true rfl⟩ ⟨Nat.le_of_ble_eq_true rfl, Nat.le_of_ble_eq_true rfl⟩ rfl (Nat.le_of_ble_eq_true rfl) dX11_field_35) (fun r35 h35 => ?_)
      refine x_widen (k' := 0) (n' := 0) (Nat.le_of_ble_eq_true rfl) (Nat.le_of_ble_eq_true rfl) ?_
      refine x_if_eq (tgt := 50) hE dX11_field_38 (by decide) (fun c_38 => ?_) (fun c_38 => ?_)
      · refine x_iconst (v := 0) hE dX11_field_50 (by decide) ?_
        refine x_istore (lv' := [(5, .int 0), (4, .ref la), (0, .ref x), (1, .int h), (2, .int n), (3, .int d)]) hE dX11_field_51 (by decide) rfl ?_
        refine x_iload hE dX11_field_53 0 rfl ?_
        refine x_if_eq (tgt := 68) hE dX11_field_55 (by decide) (fun c_55 => ?_) (fun c_55 => absurd (by decide) c_55)
        refine x_iconst (v := -1) hE dX11_field_68 (by decide) ?_
        exact hret _ _ _ _ _ _ _ _ (-1) (Nat.le_of_ble_eq_true rfl) (Nat.le_of_ble_eq_true rfl) dX11_field_69 (rfl) (by grind [zb])
      · refine x_iload_n hE dX11_field_41 rfl 4 rfl ?_
        refine x_iload_n hE dX11_field_42 rfl 3 rfl ?_
        refine x_icmp_le (tgt := 50) hE dX11_field_43 (by decide) (fun c_43 => ?_) (fun c_43 => ?_)
        · refine x_iconst (v := 0) hE dX11_field_50 (by decide) ?_
          refine x_istore (lv' := [(5, .int 0), (4, .ref la), (0, .ref x), (1, .int h), (2, .int n), (3, .int d)]) hE dX11_field_51 (by decide) rfl ?_
          refine x_iload hE dX11_field_53 0 rfl ?_
          refine x_if_eq (tgt := 68) hE dX11_field_55 (by decide) (fun c_55 => ?_) (fun c_55 => absurd (by decide) c_55)
          refine x_iconst (v := -1) hE dX11_field_68 (by decide) ?_
          exact hret _ _ _ _ _ _ _ _ (-1) (Nat.le_of_ble_eq_true rfl) (Nat.le_of_ble_eq_true rfl) dX11_field_69 (rfl) (by grind [zb])
        · refine x_iconst (v := 1) hE dX11_field_46 (by decide) ?_
          refine x_goto (tgt := 51) hE dX11_field_47 (by decide) ?_
          refine x_istore (lv' := [(5, .int 1), (4, .ref la), (0, .ref x), (1, .int h), (2, .int n), (3, .int d)]) hE dX11_field_51 (by decide) rfl ?_
          refine x_iload hE dX11_field_53 0 rfl ?_
          refine x_if_eq (tgt := 68) hE dX11_field_55 (by decide) (fun c_55 => absurd c_55 (by decide)) (fun c_55 => ?_)
          refine x_aload hE dX11_field_58 1 rfl ?_
          refine h_geti hE hL rfl inZX0 0 (by decide) q156 rfl dX11_field_60 ?_
          refine x_norm (y := 0) (p00) ?_
          refine x_bipush (v := 6) hE dX11_field_63 (by decide) ?_
          refine x_icmp_lt (tgt := 70) hE dX11_field_65 (by decide) (fun c_65 => ?_) (fun c_65 => absurd (by decide) c_65)
          refine x_aload hE dX11_field_70 1 rfl ?_
          refine x_iload_n hE dX11_field_72 rfl 3 rfl ?_
          refine x_iload_n hE dX11_field_73 rfl 4 rfl ?_
          refine x_iload_n hE dX11_field_74 rfl 5 rfl ?_
          refine c_i hE (r_V (st := []) hE (k_addField l D cy L σ φ ρ h n d hL hL0 hL1 hL2 p00) q585 q586 q587 q115 q588 hL rfl ⟨by decide, by decide, pn_X0_addField⟩ ⟨Nat.le_of_ble_eq_true rfl, Nat.le_of_ble_eq_true rfl⟩ ⟨Nat.le_of_ble_eq_true rfl, Nat.le_of_ble_eq_true rfl⟩ rfl (Nat.le_of_ble_eq_true rfl) dX11_field_75) (fun r75 L' σ' φ' ρ' h75 => ?_)
          refine x_widen (k' := 0) (n' := 0) (Nat.le_of_ble_eq_true rfl) (Nat.le_of_ble_eq_true rfl) ?_
          exact hret _ _ _ _ _ _ _ _ (r75) (Nat.le_of_ble_eq_true rfl) (Nat.le_of_ble_eq_true rfl) dX11_field_78 (rfl) (by grind [zb])
set_option maxHeartbeats 4000000 in
set_option maxRecDepth 100000 in
theorem o_end (l : Launch) (D : va_G) (cy : Nat → ClassId) (L : List Nat) (σ : Nat → va_E) (φ : Nat → Nat → Nat → Int32) (ρ : Nat → Nat → Int32) {x : Nat} (n : Int32) (hx : zOR cy L σ φ x) : zMI l D cy yX11_end cX11_end 2 .int (zrm 3 0 0) [.ref x, .int n] L σ φ ρ (fun r _ => r = if n = 0 then 0 else -1) := by
  refine zMI.mk (by decide) (Nat.le_of_ble_eq_true rfl) (fun E hE hret => ?_)
  show zW E 0 0 L σ φ ρ 0 [(0, .ref x), (1, .int n)] []
  obtain ⟨now, kept, tape, reader, weather, planner, ways, la, wo, sp, li, te, g, la', wo', sp', li', te', g', hx, hs, hs0, hk, hk0, htp, htp0, hrd, hrd0, hrd1, hwe, hwe0, hpl, hwy⟩ := hx
  obtain ⟨hn, hla, hwo, hsp, hli, hte⟩ := id hs
  obtain ⟨p45, p46, p00, p01, p10, p50, p51, pl0, pl1, pl2, pg⟩ := id hs0
  obtain ⟨f0, f1, f2, f3, f4, f5, f6, f7, hL, hL0, hL1, hL2, hL3, hL4, hL5, hL6, hL7⟩ := id hla
  obtain ⟨w0, w1, w2, w3, w4, w5, w6, w7, hW, hW0, hW1, hW2, hW3, hW4, hW5, hW6, hW7⟩ := id hwo
  obtain ⟨s0, s1, hSp, hSp0, hSp1, hSpW⟩ := id hsp
  obtain ⟨i0, i1, i2, i3, i4, i5, i6, i7, hLi, hLi0, hLi1, hLi2, hLi3, hLi4, hLi5, hLi6, hLi7⟩ := id hli
  obtain ⟨t0, t1, t2, t3, hTp, hTp0, hTp1, hTp2, hTp3, hTn1, hTn2⟩ := id htp
  refine x_iload_n hE dX11_end_0 rfl 1 rfl ?_
  refine x_if_lt (tgt := 15) hE dX11_end_1 (by decide) (fun c_1 => ?_) (fun c_1 => ?_)
  · refine x_iconst (v := -1) hE dX11_end_15 (by decide) ?_
    exact hret _ _ _ _ _ _ _ _ (-1) (Nat.le_of_ble_eq_true rfl) (Nat.le_of_ble_eq_true rfl) dX11_end_16 (rfl) (by grind [zb])
  · refine x_iload_n hE dX11_end_4 rfl 1 rfl ?_
    refine x_aload_n hE dX11_end_5 rfl 0 rfl ?_
    refine h_getr hE hx rfl inZX11 2 (by decide) q558 rfl dX11_end_6 ?_
    refine h_geti hE hTp rfl inZX6 0 (by decide) q403 rfl dX11_end_9 ?_
    refine x_norm (y := 0) (htp0) ?_
    refine x_icmp_le (tgt := 17) hE dX11_end_12 (by decide) (fun c_12 => ?_) (fun c_12 => ?_)
    · refine x_aload_n hE dX11_end_17 rfl 0 rfl ?_
      refine h_getr hE hx rfl inZX11 2 (by decide) q558 rfl dX11_end_18 ?_
      refine x_iload_n hE dX11_end_21 rfl 1 rfl ?_
      refine h_puti (ty := .int) (ty0 := tyX6) hE hTp rfl inZX6 tyX6_ok nmX6 0 (by decide) q403 rfl rfl (by decide +kernel) rfl rfl dX11_end_22 ?_
      refine x_iload_n hE dX11_end_25 rfl 1 rfl ?_
      exact hret _ _ _ _ _ _ _ _ (n) (Nat.le_of_ble_eq_true rfl) (Nat.le_of_ble_eq_true rfl) dX11_end_26 (rfl) (by grind [zb])
    · refine x_iconst (v := -1) hE dX11_end_15 (by decide) ?_
      exact hret _ _ _ _ _ _ _ _ (-1) (Nat.le_of_ble_eq_true rfl) (Nat.le_of_ble_eq_true rfl) dX11_end_16 (rfl) (by grind [zb])
