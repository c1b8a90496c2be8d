set_option maxHeartbeats 4000000 in
set_option maxRecDepth 100000 in
theorem lc_14 {E : zCx} {l : Launch} {D : va_G} {cy : Nat → ClassId} {b x mm : Nat} {r : Nat → Nat} {xs : Nat → Int32} {La Lb : List Nat} {σ : Nat → va_E} {φ : Nat → Nat → Nat → Int32} {ρ : Nat → Nat → Int32} (hE : zOk E l D cy R_law code 4 room_1) (hs : zSc E b 7 xs) (hx : zOR cy La σ φ x) (hm : zModel cy Lb σ mm r) (hm0 : zMo0 φ ρ mm r) (hend : ∀ (L : List Nat) (σ : Nat → va_E) (φ : Nat → Nat → Nat → Int32) (ρ : Nat → Nat → Int32), zW E 1000 64000 L σ φ ρ 1608 [(3, .int 0), (2, .ref mm), (1, .ref x), (0, .ref b)] []) : zW E 800 60000 (La ++ Lb) σ φ ρ 684 [(3, .int 0), (2, .ref mm), (1, .ref x), (0, .ref b)] [] := by
  obtain ⟨SX, hxT⟩ := hx.at
  refine x_aload_n hE dL_law_684 rfl 2 rfl ?_
  refine x_aload_n hE dL_law_685 rfl 3 rfl ?_
  refine x_iload_n hE dL_law_686 rfl 0 rfl ?_
  refine x_iconst (v := 1) hE dL_law_687 (by decide) ?_
  refine x_iadd hE dL_law_688 ?_
  refine x_norm (y := 1) (by decide) ?_
  refine s_ld (iN := 1) hE hs (by decide) (by decide) (by omega) dL_law_689 ?_
  refine c_iK hE (r_VA (st := []) hE (o_played l D cy La σ φ ρ (xs 1) hx) q1077 q1078 q1079 q113 q1080 hxT rfl ⟨by decide, by decide, pn_X11_played⟩ ⟨Nat.le_of_ble_eq_true rfl, Nat.le_of_ble_eq_true rfl⟩ ⟨Nat.le_of_ble_eq_true rfl, Nat.le_of_ble_eq_true rfl⟩ rfl (Nat.le_of_ble_eq_true rfl) dL_law_690) (fun r1 u1 e1 => ?_)
  refine x_widen (k' := 900) (n' := 62000) (Nat.le_of_ble_eq_true rfl) (Nat.le_of_ble_eq_true rfl) ?_
  refine x_aload_n hE dL_law_693 rfl 1 rfl ?_
  refine x_aload_n hE dL_law_694 rfl 3 rfl ?_
  refine x_iload_n hE dL_law_695 rfl 0 rfl ?_
  refine x_iconst (v := 1) hE dL_law_696 (by decide) ?_
  refine x_iadd hE dL_law_697 ?_
  refine x_norm (y := 1) (by decide) ?_
  refine s_ld (iN := 1) hE hs (by decide) (by decide) (by omega) dL_law_698 ?_
  refine c_i hE (r_V (st := [.int r1]) hE (m_played l D cy Lb σ φ ρ (xs 1) hm hm0) q1880 q1881 q1882 q124 q1883 hm.1 rfl ⟨by decide, by decide, pn_X12_played⟩ ⟨Nat.le_of_ble_eq_true rfl, Nat.le_of_ble_eq_true rfl⟩ ⟨Nat.le_of_ble_eq_true rfl, Nat.le_of_ble_eq_true rfl⟩ rfl (Nat.le_of_ble_eq_true rfl) dL_law_699) (fun r2 L2 σ2 φ2 ρ2 e2 => ?_)
  refine x_widen (k' := 1000) (n' := 64000) (Nat.le_of_ble_eq_true rfl) (Nat.le_of_ble_eq_true rfl) ?_
  refine x_icmp_eq (tgt := 1608) hE dL_law_702 (by decide) (fun c_702 => ?_) (fun c_702 => absurd (e1.trans e2.symm) c_702)
  exact hend _ _ _ _
set_option maxHeartbeats 4000000 in
set_option maxRecDepth 100000 in
theorem lc_15 {E : zCx} {l : Launch} {D : va_G} {cy : Nat → ClassId} {b x mm : Nat} {r : Nat → Nat} {xs : Nat → Int32} {La Lb : List Nat} {σ : Nat → va_E} {φ : Nat → Nat → Nat → Int32} {ρ : Nat → Nat → Int32} (hE : zOk E l D cy R_law code 4 room_1) (hs : zSc E b 7 xs) (hx : zOR cy La σ φ x) (hm : zModel cy Lb σ mm r) (hm0 : zMo0 φ ρ mm r) (hend : ∀ (L : List Nat) (σ : Nat → va_E) (φ : Nat → Nat → Nat → Int32) (ρ : Nat → Nat → Int32), zW E 1000 64000 L σ φ ρ 1608 [(3, .int 0), (2, .ref mm), (1, .ref x), (0, .ref b)] []) : zW E 800 60000 (La ++ Lb) σ φ ρ 707 [(3, .int 0), (2, .ref mm), (1, .ref x), (0, .ref b)] [] := by
  obtain ⟨SX, hxT⟩ := hx.at
  refine x_aload_n hE dL_law_707 rfl 2 rfl ?_
  refine x_aload_n hE dL_law_708 rfl 3 rfl ?_
  refine x_iload_n hE dL_law_709 rfl 0 rfl ?_
  refine x_iconst (v := 1) hE dL_law_710 (by decide) ?_
  refine x_iadd hE dL_law_711 ?_
  refine x_norm (y := 1) (by decide) ?_
  refine s_ld (iN := 1) hE hs (by decide) (by decide) (by omega) dL_law_712 ?_
  refine x_aload_n hE dL_law_713 rfl 3 rfl ?_
  refine x_iload_n hE dL_law_714 rfl 0 rfl ?_
  refine x_iconst (v := 2) hE dL_law_715 (by decide) ?_
  refine x_iadd hE dL_law_716 ?_
  refine x_norm (y := 2) (by decide) ?_
  refine s_ld (iN := 2) hE hs (by decide) (by decide) (by omega) dL_law_717 ?_
  refine c_iK hE (r_VA (st := []) hE (o_year l D cy La σ φ ρ (xs 1) (xs 2) hx) q1094 q1095 q1096 q113 q1097 hxT rfl ⟨by decide, by decide, pn_X11_year⟩ ⟨Nat.le_of_ble_eq_true rfl, Nat.le_of_ble_eq_true rfl⟩ ⟨Nat.le_of_ble_eq_true rfl, Nat.le_of_ble_eq_true rfl⟩ rfl (Nat.le_of_ble_eq_true rfl) dL_law_718) (fun r1 u1 e1 => ?_)
  refine x_widen (k' := 900) (n' := 62000) (Nat.le_of_ble_eq_true rfl) (Nat.le_of_ble_eq_true rfl) ?_
  refine x_aload_n hE dL_law_721 rfl 1 rfl ?_
  refine x_aload_n hE dL_law_722 rfl 3 rfl ?_
  refine x_iload_n hE dL_law_723 rfl 0 rfl ?_
  refine x_iconst (v := 1) hE dL_law_724 (by decide) ?_
  refine x_iadd hE dL_law_725 ?_
  refine x_norm (y := 1) (by decide) ?_
  refine s_ld (iN := 1) hE hs (by decide) (by decide) (by omega) dL_law_726 ?_
  refine x_aload_n hE dL_law_727 rfl 3 rfl ?_
  refine x_iload_n hE dL_law_728 rfl 0 rfl ?_
  refine x_iconst (v := 2) hE dL_law_729 (by decide) ?_
  refine x_iadd hE dL_law_730 ?_
  refine x_norm (y := 2) (by decide) ?_
  refine s_ld (iN := 2) hE hs (by decide) (by decide) (by omega) dL_law_731 ?_
  refine c_i hE (r_V (st := [.int r1]) hE (m_year l D cy Lb σ φ ρ (xs 1) (xs 2) hm hm0) q1900 q1901 q1902 q124 q1903 hm.1 rfl ⟨by decide, by decide, pn_X12_year⟩ ⟨Nat.le_of_ble_eq_true rfl, Nat.le_of_ble_eq_true rfl⟩ ⟨Nat.le_of_ble_eq_true rfl, Nat.le_of_ble_eq_true rfl⟩ rfl (Nat.le_of_ble_eq_true rfl) dL_law_732) (fun r2 L2 σ2 φ2 ρ2 e2 => ?_)
  refine x_widen (k' := 1000) (n' := 64000) (Nat.le_of_ble_eq_true rfl) (Nat.le_of_ble_eq_true rfl) ?_
  refine x_icmp_eq (tgt := 1608) hE dL_law_735 (by decide) (fun c_735 => ?_) (fun c_735 => absurd (e1.trans e2.symm) c_735)
  exact hend _ _ _ _
set_option maxHeartbeats 4000000 in
set_option maxRecDepth 100000 in
theorem lc_16 {E : zCx} {l : Launch} {D : va_G} {cy : Nat → ClassId} {b x mm : Nat} {r : Nat → Nat} {xs : Nat → Int32} {La Lb : List Nat} {σ : Nat → va_E} {φ : Nat → Nat → Nat → Int32} {ρ : Nat → Nat → Int32} (hE : zOk E l D cy R_law code 4 room_1) (hs : zSc E b 7 xs) (hx : zOR cy La σ φ x) (hm : zModel cy Lb σ mm r) (hm0 : zMo0 φ ρ mm r) (hend : ∀ (L : List Nat) (σ : Nat → va_E) (φ : Nat → Nat → Nat → Int32) (ρ : Nat → Nat → Int32), zW E 1000 64000 L σ φ ρ 1608 [(3, .int 0), (2, .ref mm), (1, .ref x), (0, .ref b)] []) : zW E 800 60000 (La ++ Lb) σ φ ρ 740 [(3, .int 0), (2, .ref mm), (1, .ref x), (0, .ref b)] [] := by
  obtain ⟨SX, hxT⟩ := hx.at
  refine x_aload_n hE dL_law_740 rfl 2 rfl ?_
  refine c_iK hE (r_VA (st := []) hE (o_undo l D cy La σ φ ρ  hx) q1106 q1107 q1108 q113 q1109 hxT rfl ⟨by decide, by decide, pn_X11_undo⟩ ⟨Nat.le_of_ble_eq_true rfl, Nat.le_of_ble_eq_true rfl⟩ ⟨Nat.le_of_ble_eq_true rfl, Nat.le_of_ble_eq_true rfl⟩ rfl (Nat.le_of_ble_eq_true rfl) dL_law_741) (fun r1 u1 e1 => ?_)
  refine x_widen (k' := 900) (n' := 62000) (Nat.le_of_ble_eq_true rfl) (Nat.le_of_ble_eq_true rfl) ?_
  refine x_aload_n hE dL_law_744 rfl 1 rfl ?_
  refine c_i hE (r_V (st := [.int r1]) hE (m_undo l D cy Lb σ φ ρ  hm hm0) q1749 q1750 q1751 q124 q1752 hm.1 rfl ⟨by decide, by decide, pn_X12_undo⟩ ⟨Nat.le_of_ble_eq_true rfl, Nat.le_of_ble_eq_true rfl⟩ ⟨Nat.le_of_ble_eq_true rfl, Nat.le_of_ble_eq_true rfl⟩ rfl (Nat.le_of_ble_eq_true rfl) dL_law_745) (fun r2 L2 σ2 φ2 ρ2 e2 => ?_)
  refine x_widen (k' := 1000) (n' := 64000) (Nat.le_of_ble_eq_true rfl) (Nat.le_of_ble_eq_true rfl) ?_
  refine x_icmp_eq (tgt := 1608) hE dL_law_748 (by decide) (fun c_748 => ?_) (fun c_748 => absurd (e1.trans e2.symm) c_748)
  exact hend _ _ _ _
set_option maxHeartbeats 4000000 in
set_option maxRecDepth 100000 in
theorem lc_17 {E : zCx} {l : Launch} {D : va_G} {cy : Nat → ClassId} {b x mm : Nat} {r : Nat → Nat} {xs : Nat → Int32} {La Lb : List Nat} {σ : Nat → va_E} {φ : Nat → Nat → Nat → Int32} {ρ : Nat → Nat → Int32} (hE : zOk E l D cy R_law code 4 room_1) (hs : zSc E b 7 xs) (hx : zOR cy La σ φ x) (hm : zModel cy Lb σ mm r) (hm0 : zMo0 φ ρ mm r) (hend : ∀ (L : List Nat) (σ : Nat → va_E) (φ : Nat → Nat → Nat → Int32) (ρ : Nat → Nat → Int32), zW E 1000 64000 L σ φ ρ 1608 [(3, .int 0), (2, .ref mm), (1, .ref x), (0, .ref b)] []) : zW E 800 60000 (La ++ Lb) σ φ ρ 753 [(3, .int 0), (2, .ref mm), (1, .ref x), (0, .ref b)] [] := by
  obtain ⟨SX, hxT⟩ := hx.at
  refine x_aload_n hE dL_law_753 rfl 2 rfl ?_
  refine x_aload_n hE dL_law_754 rfl 3 rfl ?_
  refine x_iload_n hE dL_law_755 rfl 0 rfl ?_
  refine x_iconst (v := 1) hE dL_law_756 (by decide) ?_
  refine x_iadd hE dL_law_757 ?_
  refine x_norm (y := 1) (by decide) ?_
  refine s_ld (iN := 1) hE hs (by decide) (by decide) (by omega) dL_law_758 ?_
  refine x_aload_n hE dL_law_759 rfl 3 rfl ?_
  refine x_iload_n hE dL_law_760 rfl 0 rfl ?_
  refine x_iconst (v := 2) hE dL_law_761 (by decide) ?_
  refine x_iadd hE dL_law_762 ?_
  refine x_norm (y := 2) (by decide) ?_
  refine s_ld (iN := 2) hE hs (by decide) (by decide) (by omega) dL_law_763 ?_
  refine c_iK hE (r_VA (st := []) hE (o_ofField l D cy La σ φ ρ (xs 1) (xs 2) hx) q1119 q1120 q1121 q113 q1122 hxT rfl ⟨by decide, by decide, pn_X11_ofField⟩ ⟨Nat.le_of_ble_eq_true rfl, Nat.le_of_ble_eq_true rfl⟩ ⟨Nat.le_of_ble_eq_true rfl, Nat.le_of_ble_eq_true rfl⟩ rfl (Nat.le_of_ble_eq_true rfl) dL_law_764) (fun r1 u1 e1 => ?_)
  refine x_widen (k' := 900) (n' := 62000) (Nat.le_of_ble_eq_true rfl) (Nat.le_of_ble_eq_true rfl) ?_
  refine x_aload_n hE dL_law_767 rfl 1 rfl ?_
  refine x_aload_n hE dL_law_768 rfl 3 rfl ?_
  refine x_iload_n hE dL_law_769 rfl 0 rfl ?_
  refine x_iconst (v := 1) hE dL_law_770 (by decide) ?_
  refine x_iadd hE dL_law_771 ?_
  refine x_norm (y := 1) (by decide) ?_
  refine s_ld (iN := 1) hE hs (by decide) (by decide) (by omega) dL_law_772 ?_
  refine x_aload_n hE dL_law_773 rfl 3 rfl ?_
  refine x_iload_n hE dL_law_774 rfl 0 rfl ?_
  refine x_iconst (v := 2) hE dL_law_775 (by decide) ?_
  refine x_iadd hE dL_law_776 ?_
  refine x_norm (y := 2) (by decide) ?_
  refine s_ld (iN := 2) hE hs (by decide) (by decide) (by omega) dL_law_777 ?_
  refine c_i hE (r_V (st := [.int r1]) hE (m_ofField l D cy Lb σ φ ρ (xs 1) (xs 2) hm hm0) q1911 q1912 q1913 q124 q1914 hm.1 rfl ⟨by decide, by decide, pn_X12_ofField⟩ ⟨Nat.le_of_ble_eq_true rfl, Nat.le_of_ble_eq_true rfl⟩ ⟨Nat.le_of_ble_eq_true rfl, Nat.le_of_ble_eq_true rfl⟩ rfl (Nat.le_of_ble_eq_true rfl) dL_law_778) (fun r2 L2 σ2 φ2 ρ2 e2 => ?_)
  refine x_widen (k' := 1000) (n' := 64000) (Nat.le_of_ble_eq_true rfl) (Nat.le_of_ble_eq_true rfl) ?_
  refine x_icmp_eq (tgt := 1608) hE dL_law_781 (by decide) (fun c_781 => ?_) (fun c_781 => absurd (e1.trans e2.symm) c_781)
  exact hend _ _ _ _
set_option maxHeartbeats 4000000 in
set_option maxRecDepth 100000 in
theorem lc_18 {E : zCx} {l : Launch} {D : va_G} {cy : Nat → ClassId} {b x mm : Nat} {r : Nat → Nat} {xs : Nat → Int32} {La Lb : List Nat} {σ : Nat → va_E} {φ : Nat → Nat → Nat → Int32} {ρ : Nat → Nat → Int32} (hE : zOk E l D cy R_law code 4 room_1) (hs : zSc E b 7 xs) (hx : zOR cy La σ φ x) (hm : zModel cy Lb σ mm r) (hm0 : zMo0 φ ρ mm r) (hend : ∀ (L : List Nat) (σ : Nat → va_E) (φ : Nat → Nat → Nat → Int32) (ρ : Nat → Nat → Int32), zW E 1000 64000 L σ φ ρ 1608 [(3, .int 0), (2, .ref mm), (1, .ref x), (0, .ref b)] []) : zW E 800 60000 (La ++ Lb) σ φ ρ 786 [(3, .int 0), (2, .ref mm), (1, .ref x), (0, .ref b)] [] := by
  obtain ⟨SX, hxT⟩ := hx.at
  refine x_aload_n hE dL_law_786 rfl 2 rfl ?_
  refine x_aload_n hE dL_law_787 rfl 3 rfl ?_
  refine x_iload_n hE dL_law_788 rfl 0 rfl ?_
  refine x_iconst (v := 1) hE dL_law_789 (by decide) ?_
  refine x_iadd hE dL_law_790 ?_
  refine x_norm (y := 1) (by decide) ?_
  refine s_ld (iN := 1) hE hs (by decide) (by decide) (by omega) dL_law_791 ?_
  refine x_aload_n hE dL_law_792 rfl 3 rfl ?_
  refine x_iload_n hE dL_law_793 rfl 0 rfl ?_
  refine x_iconst (v := 2) hE dL_law_794 (by decide) ?_
  refine x_iadd hE dL_law_795 ?_
  refine x_norm (y := 2) (by decide) ?_
  refine s_ld (iN := 2) hE hs (by decide) (by decide) (by omega) dL_law_796 ?_
  refine c_iK hE (r_VA (st := []) hE (o_ofPerson l D cy La σ φ ρ (xs 1) (xs 2) hx) q1127 q1128 q1129 q113 q1130 hxT rfl ⟨by decide, by decide, pn_X11_ofPerson⟩ ⟨Nat.le_of_ble_eq_true rfl, Nat.le_of_ble_eq_true rfl⟩ ⟨Nat.le_of_ble_eq_true rfl, Nat.le_of_ble_eq_true rfl⟩ rfl (Nat.le_of_ble_eq_true rfl) dL_law_797) (fun r1 u1 e1 => ?_)
  refine x_widen (k' := 900) (n' := 62000) (Nat.le_of_ble_eq_true rfl) (Nat.le_of_ble_eq_true rfl) ?_
  refine x_aload_n hE dL_law_800 rfl 1 rfl ?_
  refine x_aload_n hE dL_law_801 rfl 3 rfl ?_
  refine x_iload_n hE dL_law_802 rfl 0 rfl ?_
  refine x_iconst (v := 1) hE dL_law_803 (by decide) ?_
  refine x_iadd hE dL_law_804 ?_
  refine x_norm (y := 1) (by decide) ?_
  refine s_ld (iN := 1) hE hs (by decide) (by decide) (by omega) dL_law_805 ?_
  refine x_aload_n hE dL_law_806 rfl 3 rfl ?_
  refine x_iload_n hE dL_law_807 rfl 0 rfl ?_
  refine x_iconst (v := 2) hE dL_law_808 (by decide) ?_
  refine x_iadd hE dL_law_809 ?_
  refine x_norm (y := 2) (by decide) ?_
  refine s_ld (iN := 2) hE hs (by decide) (by decide) (by omega) dL_law_810 ?_
  refine c_i hE (r_V (st := [.int r1]) hE (m_ofPerson l D cy Lb σ φ ρ (xs 1) (xs 2) hm hm0) q1919 q1920 q1921 q124 q1922 hm.1 rfl ⟨by decide, by decide, pn_X12_ofPerson⟩ ⟨Nat.le_of_ble_eq_true rfl, Nat.le_of_ble_eq_true rfl⟩ ⟨Nat.le_of_ble_eq_true rfl, Nat.le_of_ble_eq_true rfl⟩ rfl (Nat.le_of_ble_eq_true rfl) dL_law_811) (fun r2 L2 σ2 φ2 ρ2 e2 => ?_)
  refine x_widen (k' := 1000) (n' := 64000) (Nat.le_of_ble_eq_true rfl) (Nat.le_of_ble_eq_true rfl) ?_
  refine x_icmp_eq (tgt := 1608) hE dL_law_814 (by decide) (fun c_814 => ?_) (fun c_814 => absurd (e1.trans e2.symm) c_814)
  exact hend _ _ _ _
set_option maxHeartbeats 4000000 in
set_option maxRecDepth 100000 in
theorem lc_19 {E : zCx} {l : Launch} {D : va_G} {cy : Nat → ClassId} {b x mm : Nat} {r : Nat → Nat} {xs : Nat → Int32} {La Lb : List Nat} {σ : Nat → va_E} {φ : Nat → Nat → Nat → Int32} {ρ : Nat → Nat → Int32} (hE : zOk E l D cy R_law code 4 room_1) (hs : zSc E b 7 xs) (hx : zOR cy La σ φ x) (hm : zModel cy Lb σ mm r) (hm0 : zMo0 φ ρ mm r) (hend : ∀ (L : List Nat) (σ : Nat → va_E) (φ : Nat → Nat → Nat → Int32) (ρ : Nat → Nat → Int32), zW E 1000 64000 L σ φ ρ 1608 [(3, .int 0), (2, .ref mm), (1, .ref x), (0, .ref b)] []) : zW E 800 60000 (La ++ Lb) σ φ ρ 819 [(3, .int 0), (2, .ref mm), (1, .ref x), (0, .ref b)] [] := by
  obtain ⟨SX, hxT⟩ := hx.at
  refine x_aload_n hE dL_law_819 rfl 2 rfl ?_
  refine x_aload_n hE dL_law_820 rfl 3 rfl ?_
  refine x_iload_n hE dL_law_821 rfl 0 rfl ?_
  refine x_iconst (v := 1) hE dL_law_822 (by decide) ?_
  refine x_iadd hE dL_law_823 ?_
  refine x_norm (y := 1) (by decide) ?_
  refine s_ld (iN := 1) hE hs (by decide) (by decide) (by omega) dL_law_824 ?_
  refine x_aload_n hE dL_law_825 rfl 3 rfl ?_
  refine x_iload_n hE dL_law_826 rfl 0 rfl ?_
  refine x_iconst (v := 2) hE dL_law_827 (by decide) ?_
  refine x_iadd hE dL_law_828 ?_
  refine x_norm (y := 2) (by decide) ?_
  refine s_ld (iN := 2) hE hs (by decide) (by decide) (by omega) dL_law_829 ?_
  refine c_iK hE (r_VA (st := []) hE (o_rained l D cy La σ φ ρ (xs 1) (xs 2) hx) q1136 q1137 q1138 q113 q1139 hxT rfl ⟨by decide, by decide, pn_X11_rained⟩ ⟨Nat.le_of_ble_eq_true rfl, Nat.le_of_ble_eq_true rfl⟩ ⟨Nat.le_of_ble_eq_true rfl, Nat.le_of_ble_eq_true rfl⟩ rfl (Nat.le_of_ble_eq_true rfl) dL_law_830) (fun r1 u1 e1 => ?_)
  refine x_widen (k' := 900) (n' := 62000) (Nat.le_of_ble_eq_true rfl) (Nat.le_of_ble_eq_true rfl) ?_
  refine x_aload_n hE dL_law_833 rfl 1 rfl ?_
  refine x_aload_n hE dL_law_834 rfl 3 rfl ?_
  refine x_iload_n hE dL_law_835 rfl 0 rfl ?_
  refine x_iconst (v := 1) hE dL_law_836 (by decide) ?_
  refine x_iadd hE dL_law_837 ?_
  refine x_norm (y := 1) (by decide) ?_
  refine s_ld (iN := 1) hE hs (by decide) (by decide) (by omega) dL_law_838 ?_
  refine x_aload_n hE dL_law_839 rfl 3 rfl ?_
  refine x_iload_n hE dL_law_840 rfl 0 rfl ?_
  refine x_iconst (v := 2) hE dL_law_841 (by decide) ?_
  refine x_iadd hE dL_law_842 ?_
  refine x_norm (y := 2) (by decide) ?_
  refine s_ld (iN := 2) hE hs (by decide) (by decide) (by omega) dL_law_843 ?_
  refine c_i hE (r_V (st := [.int r1]) hE (m_rained l D cy Lb σ φ ρ (xs 1) (xs 2) hm hm0) q1927 q1928 q1929 q124 q1930 hm.1 rfl ⟨by decide, by decide, pn_X12_rained⟩ ⟨Nat.le_of_ble_eq_true rfl, Nat.le_of_ble_eq_true rfl⟩ ⟨Nat.le_of_ble_eq_true rfl, Nat.le_of_ble_eq_true rfl⟩ rfl (Nat.le_of_ble_eq_true rfl) dL_law_844) (fun r2 L2 σ2 φ2 ρ2 e2 => ?_)
  refine x_widen (k' := 1000) (n' := 64000) (Nat.le_of_ble_eq_true rfl) (Nat.le_of_ble_eq_true rfl) ?_
  refine x_icmp_eq (tgt := 1608) hE dL_law_847 (by decide) (fun c_847 => ?_) (fun c_847 => absurd (e1.trans e2.symm) c_847)
  exact hend _ _ _ _
set_option maxHeartbeats 4000000 in
set_option maxRecDepth 100000 in
theorem lc_20 {E : zCx} {l : Launch} {D : va_G} {cy : Nat → ClassId} {b x mm : Nat} {r : Nat → Nat} {xs : Nat → Int32} {La Lb : List Nat} {σ : Nat → va_E} {φ : Nat → Nat → Nat → Int32} {ρ : Nat → Nat → Int32} (hE : zOk E l D cy R_law code 4 room_1) (hs : zSc E b 7 xs) (hx : zOR cy La σ φ x) (hm : zModel cy Lb σ mm r) (hm0 : zMo0 φ ρ mm r) (hend : ∀ (L : List Nat) (σ : Nat → va_E) (φ : Nat → Nat → Nat → Int32) (ρ : Nat → Nat → Int32), zW E 1000 64000 L σ φ ρ 1608 [(3, .int 0), (2, .ref mm), (1, .ref x), (0, .ref b)] []) : zW E 800 60000 (La ++ Lb) σ φ ρ 852 [(3, .int 0), (2, .ref mm), (1, .ref x), (0, .ref b)] [] := by
  obtain ⟨SX, hxT⟩ := hx.at
  refine x_aload_n hE dL_law_852 rfl 2 rfl ?_
  refine x_aload_n hE dL_law_853 rfl 3 rfl ?_
  refine x_iload_n hE dL_law_854 rfl 0 rfl ?_
  refine x_iconst (v := 1) hE dL_law_855 (by decide) ?_
  refine x_iadd hE dL_law_856 ?_
  refine x_norm (y := 1) (by decide) ?_
  refine s_ld (iN := 1) hE hs (by decide) (by decide) (by omega) dL_law_857 ?_
  refine x_aload_n hE dL_law_858 rfl 3 rfl ?_
  refine x_iload_n hE dL_law_859 rfl 0 rfl ?_
  refine x_iconst (v := 2) hE dL_law_860 (by decide) ?_
  refine x_iadd hE dL_law_861 ?_
  refine x_norm (y := 2) (by decide) ?_
  refine s_ld (iN := 2) hE hs (by decide) (by decide) (by omega) dL_law_862 ?_
  refine c_iK hE (r_VA (st := []) hE (o_foretoldWet l D cy La σ φ ρ (xs 1) (xs 2) hx) q1160 q1161 q1162 q113 q1163 hxT rfl ⟨by decide, by decide, pn_X11_foretoldWet⟩ ⟨Nat.le_of_ble_eq_true rfl, Nat.le_of_ble_eq_true rfl⟩ ⟨Nat.le_of_ble_eq_true rfl, Nat.le_of_ble_eq_true rfl⟩ rfl (Nat.le_of_ble_eq_true rfl) dL_law_863) (fun r1 u1 e1 => ?_)
  refine x_widen (k' := 900) (n' := 62000) (Nat.le_of_ble_eq_true rfl) (Nat.le_of_ble_eq_true rfl) ?_
  refine x_aload_n hE dL_law_866 rfl 1 rfl ?_
  refine x_aload_n hE dL_law_867 rfl 3 rfl ?_
  refine x_iload_n hE dL_law_868 rfl 0 rfl ?_
  refine x_iconst (v := 1) hE dL_law_869 (by decide) ?_
  refine x_iadd hE dL_law_870 ?_
  refine x_norm (y := 1) (by decide) ?_
  refine s_ld (iN := 1) hE hs (by decide) (by decide) (by omega) dL_law_871 ?_
  refine x_aload_n hE dL_law_872 rfl 3 rfl ?_
  refine x_iload_n hE dL_law_873 rfl 0 rfl ?_
  refine x_iconst (v := 2) hE dL_law_874 (by decide) ?_
  refine x_iadd hE dL_law_875 ?_
  refine x_norm (y := 2) (by decide) ?_
  refine s_ld (iN := 2) hE hs (by decide) (by decide) (by omega) dL_law_876 ?_
  refine c_i hE (r_V (st := [.int r1]) hE (m_foretoldWet l D cy Lb σ φ ρ (xs 1) (xs 2) hm hm0) q1932 q1933 q1934 q124 q1935 hm.1 rfl ⟨by decide, by decide, pn_X12_foretoldWet⟩ ⟨Nat.le_of_ble_eq_true rfl, Nat.le_of_ble_eq_true rfl⟩ ⟨Nat.le_of_ble_eq_true rfl, Nat.le_of_ble_eq_true rfl⟩ rfl (Nat.le_of_ble_eq_true rfl) dL_law_877) (fun r2 L2 σ2 φ2 ρ2 e2 => ?_)
  refine x_widen (k' := 1000) (n' := 64000) (Nat.le_of_ble_eq_true rfl) (Nat.le_of_ble_eq_true rfl) ?_
  refine x_icmp_eq (tgt := 1608) hE dL_law_880 (by decide) (fun c_880 => ?_) (fun c_880 => absurd (e1.trans e2.symm) c_880)
  exact hend _ _ _ _
set_option maxHeartbeats 4000000 in
set_option maxRecDepth 100000 in
theorem lc_21 {E : zCx} {l : Launch} {D : va_G} {cy : Nat → ClassId} {b x mm : Nat} {r : Nat → Nat} {xs : Nat → Int32} {La Lb : List Nat} {σ : Nat → va_E} {φ : Nat → Nat → Nat → Int32} {ρ : Nat → Nat → Int32} (hE : zOk E l D cy R_law code 4 room_1) (hs : zSc E b 7 xs) (hx : zOR cy La σ φ x) (hm : zModel cy Lb σ mm r) (hm0 : zMo0 φ ρ mm r) (hend : ∀ (L : List Nat) (σ : Nat → va_E) (φ : Nat → Nat → Nat → Int32) (ρ : Nat → Nat → Int32), zW E 1000 64000 L σ φ ρ 1608 [(3, .int 0), (2, .ref mm), (1, .ref x), (0, .ref b)] []) : zW E 800 60000 (La ++ Lb) σ φ ρ 885 [(3, .int 0), (2, .ref mm), (1, .ref x), (0, .ref b)] [] := by
  obtain ⟨SX, hxT⟩ := hx.at
  refine x_aload_n hE dL_law_885 rfl 2 rfl ?_
  refine x_aload_n hE dL_law_886 rfl 3 rfl ?_
  refine x_iload_n hE dL_law_887 rfl 0 rfl ?_
  refine x_iconst (v := 1) hE dL_law_888 (by decide) ?_
  refine x_iadd hE dL_law_889 ?_
  refine x_norm (y := 1) (by decide) ?_
  refine s_ld (iN := 1) hE hs (by decide) (by decide) (by omega) dL_law_890 ?_
  refine x_aload_n hE dL_law_891 rfl 3 rfl ?_
  refine x_iload_n hE dL_law_892 rfl 0 rfl ?_
  refine x_iconst (v := 2) hE dL_law_893 (by decide) ?_
  refine x_iadd hE dL_law_894 ?_
  refine x_norm (y := 2) (by decide) ?_
  refine s_ld (iN := 2) hE hs (by decide) (by decide) (by omega) dL_law_895 ?_
  refine x_aload_n hE dL_law_896 rfl 3 rfl ?_
  refine x_iload_n hE dL_law_897 rfl 0 rfl ?_
  refine x_iconst (v := 3) hE dL_law_898 (by decide) ?_
  refine x_iadd hE dL_law_899 ?_
  refine x_norm (y := 3) (by decide) ?_
  refine s_ld (iN := 3) hE hs (by decide) (by decide) (by omega) dL_law_900 ?_
  refine x_if_eq (tgt := 908) hE dL_law_901 (by decide) (fun c_901 => ?_) (fun c_901 => ?_)
  · refine x_iconst (v := 0) hE dL_law_908 (by decide) ?_
    refine c_iK hE (r_VA (st := []) hE (o_foretoldCloud l D cy La σ φ ρ (xs 1) (xs 2) (0) hx) q1174 q1175 q1176 q113 q1177 hxT rfl ⟨by decide, by decide, pn_X11_foretoldCloud⟩ ⟨Nat.le_of_ble_eq_true rfl, Nat.le_of_ble_eq_true rfl⟩ ⟨Nat.le_of_ble_eq_true rfl, Nat.le_of_ble_eq_true rfl⟩ rfl (Nat.le_of_ble_eq_true rfl) dL_law_909) (fun r1 u1 e1 => ?_)
    refine x_widen (k' := 900) (n' := 62000) (Nat.le_of_ble_eq_true rfl) (Nat.le_of_ble_eq_true rfl) ?_
    refine x_aload_n hE dL_law_912 rfl 1 rfl ?_
    refine x_aload_n hE dL_law_913 rfl 3 rfl ?_
    refine x_iload_n hE dL_law_914 rfl 0 rfl ?_
    refine x_iconst (v := 1) hE dL_law_915 (by decide) ?_
    refine x_iadd hE dL_law_916 ?_
    refine x_norm (y := 1) (by decide) ?_
    refine s_ld (iN := 1) hE hs (by decide) (by decide) (by omega) dL_law_917 ?_
    refine x_aload_n hE dL_law_918 rfl 3 rfl ?_
    refine x_iload_n hE dL_law_919 rfl 0 rfl ?_
    refine x_iconst (v := 2) hE dL_law_920 (by decide) ?_
    refine x_iadd hE dL_law_921 ?_
    refine x_norm (y := 2) (by decide) ?_
    refine s_ld (iN := 2) hE hs (by decide) (by decide) (by omega) dL_law_922 ?_
    refine x_aload_n hE dL_law_923 rfl 3 rfl ?_
    refine x_iload_n hE dL_law_924 rfl 0 rfl ?_
    refine x_iconst (v := 3) hE dL_law_925 (by decide) ?_
    refine x_iadd hE dL_law_926 ?_
    refine x_norm (y := 3) (by decide) ?_
    refine s_ld (iN := 3) hE hs (by decide) (by decide) (by omega) dL_law_927 ?_
    refine x_if_eq (tgt := 935) hE dL_law_928 (by decide) (fun c_928 => ?_) (fun c_928 => absurd (c_901) c_928)
    refine x_iconst (v := 0) hE dL_law_935 (by decide) ?_
    refine c_i hE (r_V (st := [.int r1]) hE (m_foretoldCloud l D cy Lb σ φ ρ (xs 1) (xs 2) (0) hm hm0) q1948 q1949 q1950 q124 q1951 hm.1 rfl ⟨by decide, by decide, pn_X12_foretoldCloud⟩ ⟨Nat.le_of_ble_eq_true rfl, Nat.le_of_ble_eq_true rfl⟩ ⟨Nat.le_of_ble_eq_true rfl, Nat.le_of_ble_eq_true rfl⟩ rfl (Nat.le_of_ble_eq_true rfl) dL_law_936) (fun r2 L2 σ2 φ2 ρ2 e2 => ?_)
    refine x_widen (k' := 1000) (n' := 64000) (Nat.le_of_ble_eq_true rfl) (Nat.le_of_ble_eq_true rfl) ?_
    refine x_icmp_eq (tgt := 1608) hE dL_law_939 (by decide) (fun c_939 => ?_) (fun c_939 => absurd (e1.trans e2.symm) c_939)
    exact hend _ _ _ _
  · refine x_iconst (v := 1) hE dL_law_904 (by decide) ?_
    refine x_goto (tgt := 909) hE dL_law_905 (by decide) ?_
    refine c_iK hE (r_VA (st := []) hE (o_foretoldCloud l D cy La σ φ ρ (xs 1) (xs 2) (1) hx) q1174 q1175 q1176 q113 q1177 hxT rfl ⟨by decide, by decide, pn_X11_foretoldCloud⟩ ⟨Nat.le_of_ble_eq_true rfl, Nat.le_of_ble_eq_true rfl⟩ ⟨Nat.le_of_ble_eq_true rfl, Nat.le_of_ble_eq_true rfl⟩ rfl (Nat.le_of_ble_eq_true rfl) dL_law_909) (fun r1 u1 e1 => ?_)
    refine x_widen (k' := 900) (n' := 62000) (Nat.le_of_ble_eq_true rfl) (Nat.le_of_ble_eq_true rfl) ?_
    refine x_aload_n hE dL_law_912 rfl 1 rfl ?_
    refine x_aload_n hE dL_law_913 rfl 3 rfl ?_
    refine x_iload_n hE dL_law_914 rfl 0 rfl ?_
    refine x_iconst (v := 1) hE dL_law_915 (by decide) ?_
    refine x_iadd hE dL_law_916 ?_
    refine x_norm (y := 1) (by decide) ?_
    refine s_ld (iN := 1) hE hs (by decide) (by decide) (by omega) dL_law_917 ?_
    refine x_aload_n hE dL_law_918 rfl 3 rfl ?_
    refine x_iload_n hE dL_law_919 rfl 0 rfl ?_
    refine x_iconst (v := 2) hE dL_law_920 (by decide) ?_
    refine x_iadd hE dL_law_921 ?_
    refine x_norm (y := 2) (by decide) ?_
    refine s_ld (iN := 2) hE hs (by decide) (by decide) (by omega) dL_law_922 ?_
    refine x_aload_n hE dL_law_923 rfl 3 rfl ?_
    refine x_iload_n hE dL_law_924 rfl 0 rfl ?_
    refine x_iconst (v := 3) hE dL_law_925 (by decide) ?_
    refine x_iadd hE dL_law_926 ?_
    refine x_norm (y := 3) (by decide) ?_
    refine s_ld (iN := 3) hE hs (by decide) (by decide) (by omega) dL_law_927 ?_
    refine x_if_eq (tgt := 935) hE dL_law_928 (by decide) (fun c_928 => absurd c_928 (c_901)) (fun c_928 => ?_)
    refine x_iconst (v := 1) hE dL_law_931 (by decide) ?_
    refine x_goto (tgt := 936) hE dL_law_932 (by decide) ?_
    refine c_i hE (r_V (st := [.int r1]) hE (m_foretoldCloud l D cy Lb σ φ ρ (xs 1) (xs 2) (1) hm hm0) q1948 q1949 q1950 q124 q1951 hm.1 rfl ⟨by decide, by decide, pn_X12_foretoldCloud⟩ ⟨Nat.le_of_ble_eq_true rfl, Nat.le_of_ble_eq_true rfl⟩ ⟨Nat.le_of_ble_eq_true rfl, Nat.le_of_ble_eq_true rfl⟩ rfl (Nat.le_of_ble_eq_true rfl) dL_law_936) (fun r2 L2 σ2 φ2 ρ2 e2 => ?_)
    refine x_widen (k' := 1000) (n' := 64000) (Nat.le_of_ble_eq_true rfl) (Nat.le_of_ble_eq_true rfl) ?_
    refine x_icmp_eq (tgt := 1608) hE dL_law_939 (by decide) (fun c_939 => ?_) (fun c_939 => absurd (e1.trans e2.symm) c_939)
    exact hend _ _ _ _
set_option maxHeartbeats 4000000 in
set_option maxRecDepth 100000 in
theorem lc_22 {E : zCx} {l : Launch} {D : va_G} {cy : Nat → ClassId} {b x mm : Nat} {r : Nat → Nat} {xs : Nat → Int32} {La Lb : List Nat} {σ : Nat → va_E} {φ : Nat → Nat → Nat → Int32} {ρ : Nat → Nat → Int32} (hE : zOk E l D cy R_law code 4 room_1) (hs : zSc E b 7 xs) (hx : zOR cy La σ φ x) (hm : zModel cy Lb σ mm r) (hm0 : zMo0 φ ρ mm r) (hend : ∀ (L : List Nat) (σ : Nat → va_E) (φ : Nat → Nat → Nat → Int32) (ρ : Nat → Nat → Int32), zW E 1000 64000 L σ φ ρ 1608 [(3, .int 0), (2, .ref mm), (1, .ref x), (0, .ref b)] []) : zW E 800 60000 (La ++ Lb) σ φ ρ 944 [(3, .int 0), (2, .ref mm), (1, .ref x), (0, .ref b)] [] := by
  obtain ⟨SX, hxT⟩ := hx.at
  refine x_aload_n hE dL_law_944 rfl 2 rfl ?_
  refine x_aload_n hE dL_law_945 rfl 3 rfl ?_
  refine x_iload_n hE dL_law_946 rfl 0 rfl ?_
  refine x_iconst (v := 1) hE dL_law_947 (by decide) ?_
  refine x_iadd hE dL_law_948 ?_
  refine x_norm (y := 1) (by decide) ?_
  refine s_ld (iN := 1) hE hs (by decide) (by decide) (by omega) dL_law_949 ?_
  refine x_aload_n hE dL_law_950 rfl 3 rfl ?_
  refine x_iload_n hE dL_law_951 rfl 0 rfl ?_
  refine x_iconst (v := 2) hE dL_law_952 (by decide) ?_
  refine x_iadd hE dL_law_953 ?_
  refine x_norm (y := 2) (by decide) ?_
  refine s_ld (iN := 2) hE hs (by decide) (by decide) (by omega) dL_law_954 ?_
  refine x_aload_n hE dL_law_955 rfl 3 rfl ?_
  refine x_iload_n hE dL_law_956 rfl 0 rfl ?_
  refine x_iconst (v := 3) hE dL_law_957 (by decide) ?_
  refine x_iadd hE dL_law_958 ?_
  refine x_norm (y := 3) (by decide) ?_
  refine s_ld (iN := 3) hE hs (by decide) (by decide) (by omega) dL_law_959 ?_
  refine c_iK hE (r_VA (st := []) hE (o_plan l D cy La σ φ ρ (xs 1) (xs 2) (xs 3) hx) q1185 q1186 q1187 q113 q1188 hxT rfl ⟨by decide, by decide, pn_X11_plan⟩ ⟨Nat.le_of_ble_eq_true rfl, Nat.le_of_ble_eq_true rfl⟩ ⟨Nat.le_of_ble_eq_true rfl, Nat.le_of_ble_eq_true rfl⟩ rfl (Nat.le_of_ble_eq_true rfl) dL_law_960) (fun r1 u1 e1 => ?_)
  refine x_widen (k' := 900) (n' := 62000) (Nat.le_of_ble_eq_true rfl) (Nat.le_of_ble_eq_true rfl) ?_
  refine x_aload_n hE dL_law_963 rfl 1 rfl ?_
  refine x_aload_n hE dL_law_964 rfl 3 rfl ?_
  refine x_iload_n hE dL_law_965 rfl 0 rfl ?_
  refine x_iconst (v := 1) hE dL_law_966 (by decide) ?_
  refine x_iadd hE dL_law_967 ?_
  refine x_norm (y := 1) (by decide) ?_
  refine s_ld (iN := 1) hE hs (by decide) (by decide) (by omega) dL_law_968 ?_
  refine x_aload_n hE dL_law_969 rfl 3 rfl ?_
  refine x_iload_n hE dL_law_970 rfl 0 rfl ?_
  refine x_iconst (v := 2) hE dL_law_971 (by decide) ?_
  refine x_iadd hE dL_law_972 ?_
  refine x_norm (y := 2) (by decide) ?_
  refine s_ld (iN := 2) hE hs (by decide) (by decide) (by omega) dL_law_973 ?_
  refine x_aload_n hE dL_law_974 rfl 3 rfl ?_
  refine x_iload_n hE dL_law_975 rfl 0 rfl ?_
  refine x_iconst (v := 3) hE dL_law_976 (by decide) ?_
  refine x_iadd hE dL_law_977 ?_
  refine x_norm (y := 3) (by decide) ?_
  refine s_ld (iN := 3) hE hs (by decide) (by decide) (by omega) dL_law_978 ?_
  refine c_i hE (r_V (st := [.int r1]) hE (m_plan l D cy Lb σ φ ρ (xs 1) (xs 2) (xs 3) hm hm0) q1952 q1953 q1954 q124 q1955 hm.1 rfl ⟨by decide, by decide, pn_X12_plan⟩ ⟨Nat.le_of_ble_eq_true rfl, Nat.le_of_ble_eq_true rfl⟩ ⟨Nat.le_of_ble_eq_true rfl, Nat.le_of_ble_eq_true rfl⟩ rfl (Nat.le_of_ble_eq_true rfl) dL_law_979) (fun r2 L2 σ2 φ2 ρ2 e2 => ?_)
  refine x_widen (k' := 1000) (n' := 64000) (Nat.le_of_ble_eq_true rfl) (Nat.le_of_ble_eq_true rfl) ?_
  refine x_icmp_eq (tgt := 1608) hE dL_law_982 (by decide) (fun c_982 => ?_) (fun c_982 => absurd (e1.trans e2.symm) c_982)
  exact hend _ _ _ _
set_option maxHeartbeats 4000000 in
set_option maxRecDepth 100000 in
theorem lc_23 {E : zCx} {l : Launch} {D : va_G} {cy : Nat → ClassId} {b x mm : Nat} {r : Nat → Nat} {xs : Nat → Int32} {La Lb : List Nat} {σ : Nat → va_E} {φ : Nat → Nat → Nat → Int32} {ρ : Nat → Nat → Int32} (hE : zOk E l D cy R_law code 4 room_1) (hs : zSc E b 7 xs) (hx : zOR cy La σ φ x) (hm : zModel cy Lb σ mm r) (hm0 : zMo0 φ ρ mm r) (hend : ∀ (L : List Nat) (σ : Nat → va_E) (φ : Nat → Nat → Nat → Int32) (ρ : Nat → Nat → Int32), zW E 1000 64000 L σ φ ρ 1608 [(3, .int 0), (2, .ref mm), (1, .ref x), (0, .ref b)] []) : zW E 800 60000 (La ++ Lb) σ φ ρ 987 [(3, .int 0), (2, .ref mm), (1, .ref x), (0, .ref b)] [] := by
  obtain ⟨SX, hxT⟩ := hx.at
  refine x_aload_n hE dL_law_987 rfl 2 rfl ?_
  refine x_aload_n hE dL_law_988 rfl 3 rfl ?_
  refine x_iload_n hE dL_law_989 rfl 0 rfl ?_
  refine x_iconst (v := 1) hE dL_law_990 (by decide) ?_
  refine x_iadd hE dL_law_991 ?_
  refine x_norm (y := 1) (by decide) ?_
  refine s_ld (iN := 1) hE hs (by decide) (by decide) (by omega) dL_law_992 ?_
  refine x_aload_n hE dL_law_993 rfl 3 rfl ?_
  refine x_iload_n hE dL_law_994 rfl 0 rfl ?_
  refine x_iconst (v := 2) hE dL_law_995 (by decide) ?_
  refine x_iadd hE dL_law_996 ?_
  refine x_norm (y := 2) (by decide) ?_
  refine s_ld (iN := 2) hE hs (by decide) (by decide) (by omega) dL_law_997 ?_
  refine x_aload_n hE dL_law_998 rfl 3 rfl ?_
  refine x_iload_n hE dL_law_999 rfl 0 rfl ?_
  refine x_iconst (v := 3) hE dL_law_1000 (by decide) ?_
  refine x_iadd hE dL_law_1001 ?_
  refine x_norm (y := 3) (by decide) ?_
  refine s_ld (iN := 3) hE hs (by decide) (by decide) (by omega) dL_law_1002 ?_
  refine c_iK hE (r_VA (st := []) hE (o_match l D cy La σ φ ρ (xs 1) (xs 2) (xs 3) hx) q1198 q1199 q1200 q113 q1201 hxT rfl ⟨by decide, by decide, pn_X11_match⟩ ⟨Nat.le_of_ble_eq_true rfl, Nat.le_of_ble_eq_true rfl⟩ ⟨Nat.le_of_ble_eq_true rfl, Nat.le_of_ble_eq_true rfl⟩ rfl (Nat.le_of_ble_eq_true rfl) dL_law_1003) (fun r1 u1 e1 => ?_)
  refine x_widen (k' := 900) (n' := 62000) (Nat.le_of_ble_eq_true rfl) (Nat.le_of_ble_eq_true rfl) ?_
  refine x_aload_n hE dL_law_1006 rfl 1 rfl ?_
  refine x_aload_n hE dL_law_1007 rfl 3 rfl ?_
  refine x_iload_n hE dL_law_1008 rfl 0 rfl ?_
  refine x_iconst (v := 1) hE dL_law_1009 (by decide) ?_
  refine x_iadd hE dL_law_1010 ?_
  refine x_norm (y := 1) (by decide) ?_
  refine s_ld (iN := 1) hE hs (by decide) (by decide) (by omega) dL_law_1011 ?_
  refine x_aload_n hE dL_law_1012 rfl 3 rfl ?_
  refine x_iload_n hE dL_law_1013 rfl 0 rfl ?_
  refine x_iconst (v := 2) hE dL_law_1014 (by decide) ?_
  refine x_iadd hE dL_law_1015 ?_
  refine x_norm (y := 2) (by decide) ?_
  refine s_ld (iN := 2) hE hs (by decide) (by decide) (by omega) dL_law_1016 ?_
  refine x_aload_n hE dL_law_1017 rfl 3 rfl ?_
  refine x_iload_n hE dL_law_1018 rfl 0 rfl ?_
  refine x_iconst (v := 3) hE dL_law_1019 (by decide) ?_
  refine x_iadd hE dL_law_1020 ?_
  refine x_norm (y := 3) (by decide) ?_
  refine s_ld (iN := 3) hE hs (by decide) (by decide) (by omega) dL_law_1021 ?_
  refine c_i hE (r_V (st := [.int r1]) hE (m_match l D cy Lb σ φ ρ (xs 1) (xs 2) (xs 3) hm hm0) q1965 q1966 q1967 q124 q1968 hm.1 rfl ⟨by decide, by decide, pn_X12_match⟩ ⟨Nat.le_of_ble_eq_true rfl, Nat.le_of_ble_eq_true rfl⟩ ⟨Nat.le_of_ble_eq_true rfl, Nat.le_of_ble_eq_true rfl⟩ rfl (Nat.le_of_ble_eq_true rfl) dL_law_1022) (fun r2 L2 σ2 φ2 ρ2 e2 => ?_)
  refine x_widen (k' := 1000) (n' := 64000) (Nat.le_of_ble_eq_true rfl) (Nat.le_of_ble_eq_true rfl) ?_
  refine x_icmp_eq (tgt := 1608) hE dL_law_1025 (by decide) (fun c_1025 => ?_) (fun c_1025 => absurd (e1.trans e2.symm) c_1025)
  exact hend _ _ _ _
set_option maxHeartbeats 4000000 in
set_option maxRecDepth 100000 in
theorem lc_24 {E : zCx} {l : Launch} {D : va_G} {cy : Nat → ClassId} {b x mm : Nat} {r : Nat → Nat} {xs : Nat → Int32} {La Lb : List Nat} {σ : Nat → va_E} {φ : Nat → Nat → Nat → Int32} {ρ : Nat → Nat → Int32} (hE : zOk E l D cy R_law code 4 room_1) (hs : zSc E b 7 xs) (hx : zOR cy La σ φ x) (hm : zModel cy Lb σ mm r) (hm0 : zMo0 φ ρ mm r) (hend : ∀ (L : List Nat) (σ : Nat → va_E) (φ : Nat → Nat → Nat → Int32) (ρ : Nat → Nat → Int32), zW E 1000 64000 L σ φ ρ 1608 [(3, .int 0), (2, .ref mm), (1, .ref x), (0, .ref b)] []) : zW E 800 60000 (La ++ Lb) σ φ ρ 1030 [(3, .int 0), (2, .ref mm), (1, .ref x), (0, .ref b)] [] := by
  obtain ⟨SX, hxT⟩ := hx.at
  refine x_aload_n hE dL_law_1030 rfl 2 rfl ?_
  refine x_aload_n hE dL_law_1031 rfl 3 rfl ?_
  refine x_iload_n hE dL_law_1032 rfl 0 rfl ?_
  refine x_iconst (v := 1) hE dL_law_1033 (by decide) ?_
  refine x_iadd hE dL_law_1034 ?_
  refine x_norm (y := 1) (by decide) ?_
  refine s_ld (iN := 1) hE hs (by decide) (by decide) (by omega) dL_law_1035 ?_
  refine x_aload_n hE dL_law_1036 rfl 3 rfl ?_
  refine x_iload_n hE dL_law_1037 rfl 0 rfl ?_
  refine x_iconst (v := 2) hE dL_law_1038 (by decide) ?_
  refine x_iadd hE dL_law_1039 ?_
  refine x_norm (y := 2) (by decide) ?_
  refine s_ld (iN := 2) hE hs (by decide) (by decide) (by omega) dL_law_1040 ?_
  refine x_aload_n hE dL_law_1041 rfl 3 rfl ?_
  refine x_iload_n hE dL_law_1042 rfl 0 rfl ?_
  refine x_iconst (v := 3) hE dL_law_1043 (by decide) ?_
  refine x_iadd hE dL_law_1044 ?_
  refine x_norm (y := 3) (by decide) ?_
  refine s_ld (iN := 3) hE hs (by decide) (by decide) (by omega) dL_law_1045 ?_
  refine c_iK hE (r_VA (st := []) hE (o_shares l D cy La σ φ ρ (xs 1) (xs 2) (xs 3) hx) q1229 q1230 q1231 q113 q1232 hxT rfl ⟨by decide, by decide, pn_X11_shares⟩ ⟨Nat.le_of_ble_eq_true rfl, Nat.le_of_ble_eq_true rfl⟩ ⟨Nat.le_of_ble_eq_true rfl, Nat.le_of_ble_eq_true rfl⟩ rfl (Nat.le_of_ble_eq_true rfl) dL_law_1046) (fun r1 u1 e1 => ?_)
  refine x_widen (k' := 900) (n' := 62000) (Nat.le_of_ble_eq_true rfl) (Nat.le_of_ble_eq_true rfl) ?_
  refine x_aload_n hE dL_law_1049 rfl 1 rfl ?_
  refine x_aload_n hE dL_law_1050 rfl 3 rfl ?_
  refine x_iload_n hE dL_law_1051 rfl 0 rfl ?_
  refine x_iconst (v := 1) hE dL_law_1052 (by decide) ?_
  refine x_iadd hE dL_law_1053 ?_
  refine x_norm (y := 1) (by decide) ?_
  refine s_ld (iN := 1) hE hs (by decide) (by decide) (by omega) dL_law_1054 ?_
  refine x_aload_n hE dL_law_1055 rfl 3 rfl ?_
  refine x_iload_n hE dL_law_1056 rfl 0 rfl ?_
  refine x_iconst (v := 2) hE dL_law_1057 (by decide) ?_
  refine x_iadd hE dL_law_1058 ?_
  refine x_norm (y := 2) (by decide) ?_
  refine s_ld (iN := 2) hE hs (by decide) (by decide) (by omega) dL_law_1059 ?_
  refine x_aload_n hE dL_law_1060 rfl 3 rfl ?_
  refine x_iload_n hE dL_law_1061 rfl 0 rfl ?_
  refine x_iconst (v := 3) hE dL_law_1062 (by decide) ?_
  refine x_iadd hE dL_law_1063 ?_
  refine x_norm (y := 3) (by decide) ?_
  refine s_ld (iN := 3) hE hs (by decide) (by decide) (by omega) dL_law_1064 ?_
  refine c_i hE (r_V (st := [.int r1]) hE (m_shares l D cy Lb σ φ ρ (xs 1) (xs 2) (xs 3) hm hm0) q1984 q1985 q1986 q124 q1987 hm.1 rfl ⟨by decide, by decide, pn_X12_shares⟩ ⟨Nat.le_of_ble_eq_true rfl, Nat.le_of_ble_eq_true rfl⟩ ⟨Nat.le_of_ble_eq_true rfl, Nat.le_of_ble_eq_true rfl⟩ rfl (Nat.le_of_ble_eq_true rfl) dL_law_1065) (fun r2 L2 σ2 φ2 ρ2 e2 => ?_)
  refine x_widen (k' := 1000) (n' := 64000) (Nat.le_of_ble_eq_true rfl) (Nat.le_of_ble_eq_true rfl) ?_
  refine x_icmp_eq (tgt := 1608) hE dL_law_1068 (by decide) (fun c_1068 => ?_) (fun c_1068 => absurd (e1.trans e2.symm) c_1068)
  exact hend _ _ _ _
set_option maxHeartbeats 4000000 in
set_option maxRecDepth 100000 in
theorem lc_25 {E : zCx} {l : Launch} {D : va_G} {cy : Nat → ClassId} {b x mm : Nat} {r : Nat → Nat} {xs : Nat → Int32} {La Lb : List Nat} {σ : Nat → va_E} {φ : Nat → Nat → Nat → Int32} {ρ : Nat → Nat → Int32} (hE : zOk E l D cy R_law code 4 room_1) (hs : zSc E b 7 xs) (hx : zOR cy La σ φ x) (hm : zModel cy Lb σ mm r) (hm0 : zMo0 φ ρ mm r) (hend : ∀ (L : List Nat) (σ : Nat → va_E) (φ : Nat → Nat → Nat → Int32) (ρ : Nat → Nat → Int32), zW E 1000 64000 L σ φ ρ 1608 [(3, .int 0), (2, .ref mm), (1, .ref x), (0, .ref b)] []) : zW E 800 60000 (La ++ Lb) σ φ ρ 1073 [(3, .int 0), (2, .ref mm), (1, .ref x), (0, .ref b)] [] := by
  obtain ⟨SX, hxT⟩ := hx.at
  refine x_aload_n hE dL_law_1073 rfl 2 rfl ?_
  refine x_aload_n hE dL_law_1074 rfl 3 rfl ?_
  refine x_iload_n hE dL_law_1075 rfl 0 rfl ?_
  refine x_iconst (v := 1) hE dL_law_1076 (by decide) ?_
  refine x_iadd hE dL_law_1077 ?_
  refine x_norm (y := 1) (by decide) ?_
  refine s_ld (iN := 1) hE hs (by decide) (by decide) (by omega) dL_law_1078 ?_
  refine x_aload_n hE dL_law_1079 rfl 3 rfl ?_
  refine x_iload_n hE dL_law_1080 rfl 0 rfl ?_
  refine x_iconst (v := 2) hE dL_law_1081 (by decide) ?_
  refine x_iadd hE dL_law_1082 ?_
  refine x_norm (y := 2) (by decide) ?_
  refine s_ld (iN := 2) hE hs (by decide) (by decide) (by omega) dL_law_1083 ?_
  refine x_aload_n hE dL_law_1084 rfl 3 rfl ?_
  refine x_iload_n hE dL_law_1085 rfl 0 rfl ?_
  refine x_iconst (v := 3) hE dL_law_1086 (by decide) ?_
  refine x_iadd hE dL_law_1087 ?_
  refine x_norm (y := 3) (by decide) ?_
  refine s_ld (iN := 3) hE hs (by decide) (by decide) (by omega) dL_law_1088 ?_
  refine x_aload_n hE dL_law_1089 rfl 3 rfl ?_
  refine x_iload_n hE dL_law_1090 rfl 0 rfl ?_
  refine x_iconst (v := 4) hE dL_law_1091 (by decide) ?_
  refine x_iadd hE dL_law_1092 ?_
  refine x_norm (y := 4) (by decide) ?_
  refine s_ld (iN := 4) hE hs (by decide) (by decide) (by omega) dL_law_1093 ?_
  refine c_iK hE (r_VA (st := []) hE (o_cross l D cy La σ φ ρ (xs 1) (xs 2) (xs 3) (xs 4) hx) q1233 q1234 q1235 q113 q1236 hxT rfl ⟨by decide, by decide, pn_X11_cross⟩ ⟨Nat.le_of_ble_eq_true rfl, Nat.le_of_ble_eq_true rfl⟩ ⟨Nat.le_of_ble_eq_true rfl, Nat.le_of_ble_eq_true rfl⟩ rfl (Nat.le_of_ble_eq_true rfl) dL_law_1094) (fun r1 u1 e1 => ?_)
  refine x_widen (k' := 900) (n' := 62000) (Nat.le_of_ble_eq_true rfl) (Nat.le_of_ble_eq_true rfl) ?_
  refine x_aload_n hE dL_law_1097 rfl 1 rfl ?_
  refine x_aload_n hE dL_law_1098 rfl 3 rfl ?_
  refine x_iload_n hE dL_law_1099 rfl 0 rfl ?_
  refine x_iconst (v := 1) hE dL_law_1100 (by decide) ?_
  refine x_iadd hE dL_law_1101 ?_
  refine x_norm (y := 1) (by decide) ?_
  refine s_ld (iN := 1) hE hs (by decide) (by decide) (by omega) dL_law_1102 ?_
  refine x_aload_n hE dL_law_1103 rfl 3 rfl ?_
  refine x_iload_n hE dL_law_1104 rfl 0 rfl ?_
  refine x_iconst (v := 2) hE dL_law_1105 (by decide) ?_
  refine x_iadd hE dL_law_1106 ?_
  refine x_norm (y := 2) (by decide) ?_
  refine s_ld (iN := 2) hE hs (by decide) (by decide) (by omega) dL_law_1107 ?_
  refine x_aload_n hE dL_law_1108 rfl 3 rfl ?_
  refine x_iload_n hE dL_law_1109 rfl 0 rfl ?_
  refine x_iconst (v := 3) hE dL_law_1110 (by decide) ?_
  refine x_iadd hE dL_law_1111 ?_
  refine x_norm (y := 3) (by decide) ?_
  refine s_ld (iN := 3) hE hs (by decide) (by decide) (by omega) dL_law_1112 ?_
  refine x_aload_n hE dL_law_1113 rfl 3 rfl ?_
  refine x_iload_n hE dL_law_1114 rfl 0 rfl ?_
  refine x_iconst (v := 4) hE dL_law_1115 (by decide) ?_
  refine x_iadd hE dL_law_1116 ?_
  refine x_norm (y := 4) (by decide) ?_
  refine s_ld (iN := 4) hE hs (by decide) (by decide) (by omega) dL_law_1117 ?_
  refine c_i hE (r_V (st := [.int r1]) hE (m_cross l D cy Lb σ φ ρ (xs 1) (xs 2) (xs 3) (xs 4) hm hm0) q1988 q1989 q1990 q124 q1991 hm.1 rfl ⟨by decide, by decide, pn_X12_cross⟩ ⟨Nat.le_of_ble_eq_true rfl, Nat.le_of_ble_eq_true rfl⟩ ⟨Nat.le_of_ble_eq_true rfl, Nat.le_of_ble_eq_true rfl⟩ rfl (Nat.le_of_ble_eq_true rfl) dL_law_1118) (fun r2 L2 σ2 φ2 ρ2 e2 => ?_)
  refine x_widen (k' := 1000) (n' := 64000) (Nat.le_of_ble_eq_true rfl) (Nat.le_of_ble_eq_true rfl) ?_
  refine x_icmp_eq (tgt := 1608) hE dL_law_1121 (by decide) (fun c_1121 => ?_) (fun c_1121 => absurd (e1.trans e2.symm) c_1121)
  exact hend _ _ _ _
set_option maxHeartbeats 4000000 in
set_option maxRecDepth 100000 in
theorem lc_26 {E : zCx} {l : Launch} {D : va_G} {cy : Nat → ClassId} {b x mm : Nat} {r : Nat → Nat} {xs : Nat → Int32} {La Lb : List Nat} {σ : Nat → va_E} {φ : Nat → Nat → Nat → Int32} {ρ : Nat → Nat → Int32} (hE : zOk E l D cy R_law code 4 room_1) (hs : zSc E b 7 xs) (hx : zOR cy La σ φ x) (hm : zModel cy Lb σ mm r) (hm0 : zMo0 φ ρ mm r) (hend : ∀ (L : List Nat) (σ : Nat → va_E) (φ : Nat → Nat → Nat → Int32) (ρ : Nat → Nat → Int32), zW E 1000 64000 L σ φ ρ 1608 [(3, .int 0), (2, .ref mm), (1, .ref x), (0, .ref b)] []) : zW E 800 60000 (La ++ Lb) σ φ ρ 1126 [(3, .int 0), (2, .ref mm), (1, .ref x), (0, .ref b)] [] := by
  obtain ⟨SX, hxT⟩ := hx.at
  refine x_aload_n hE dL_law_1126 rfl 2 rfl ?_
  refine x_aload_n hE dL_law_1127 rfl 3 rfl ?_
  refine x_iload_n hE dL_law_1128 rfl 0 rfl ?_
  refine x_iconst (v := 1) hE dL_law_1129 (by decide) ?_
  refine x_iadd hE dL_law_1130 ?_
  refine x_norm (y := 1) (by decide) ?_
  refine s_ld (iN := 1) hE hs (by decide) (by decide) (by omega) dL_law_1131 ?_
  refine x_aload_n hE dL_law_1132 rfl 3 rfl ?_
  refine x_iload_n hE dL_law_1133 rfl 0 rfl ?_
  refine x_iconst (v := 2) hE dL_law_1134 (by decide) ?_
  refine x_iadd hE dL_law_1135 ?_
  refine x_norm (y := 2) (by decide) ?_
  refine s_ld (iN := 2) hE hs (by decide) (by decide) (by omega) dL_law_1136 ?_
  refine c_iK hE (r_VA (st := []) hE (o_widest l D cy La σ φ ρ (xs 1) (xs 2) hx) q1250 q1251 q1252 q113 q1253 hxT rfl ⟨by decide, by decide, pn_X11_widest⟩ ⟨Nat.le_of_ble_eq_true rfl, Nat.le_of_ble_eq_true rfl⟩ ⟨Nat.le_of_ble_eq_true rfl, Nat.le_of_ble_eq_true rfl⟩ rfl (Nat.le_of_ble_eq_true rfl) dL_law_1137) (fun r1 u1 e1 => ?_)
  refine x_widen (k' := 900) (n' := 62000) (Nat.le_of_ble_eq_true rfl) (Nat.le_of_ble_eq_true rfl) ?_
  refine x_aload_n hE dL_law_1140 rfl 1 rfl ?_
  refine x_aload_n hE dL_law_1141 rfl 3 rfl ?_
  refine x_iload_n hE dL_law_1142 rfl 0 rfl ?_
  refine x_iconst (v := 1) hE dL_law_1143 (by decide) ?_
  refine x_iadd hE dL_law_1144 ?_
  refine x_norm (y := 1) (by decide) ?_
  refine s_ld (iN := 1) hE hs (by decide) (by decide) (by omega) dL_law_1145 ?_
  refine x_aload_n hE dL_law_1146 rfl 3 rfl ?_
  refine x_iload_n hE dL_law_1147 rfl 0 rfl ?_
  refine x_iconst (v := 2) hE dL_law_1148 (by decide) ?_
  refine x_iadd hE dL_law_1149 ?_
  refine x_norm (y := 2) (by decide) ?_
  refine s_ld (iN := 2) hE hs (by decide) (by decide) (by omega) dL_law_1150 ?_
  refine c_i hE (r_V (st := [.int r1]) hE (m_widest l D cy Lb σ φ ρ (xs 1) (xs 2) hm hm0) q2004 q2005 q2006 q124 q2007 hm.1 rfl ⟨by decide, by decide, pn_X12_widest⟩ ⟨Nat.le_of_ble_eq_true rfl, Nat.le_of_ble_eq_true rfl⟩ ⟨Nat.le_of_ble_eq_true rfl, Nat.le_of_ble_eq_true rfl⟩ rfl (Nat.le_of_ble_eq_true rfl) dL_law_1151) (fun r2 L2 σ2 φ2 ρ2 e2 => ?_)
  refine x_widen (k' := 1000) (n' := 64000) (Nat.le_of_ble_eq_true rfl) (Nat.le_of_ble_eq_true rfl) ?_
  refine x_icmp_eq (tgt := 1608) hE dL_law_1154 (by decide) (fun c_1154 => ?_) (fun c_1154 => absurd (e1.trans e2.symm) c_1154)
  exact hend _ _ _ _
set_option maxHeartbeats 4000000 in
set_option maxRecDepth 100000 in
theorem lc_27 {E : zCx} {l : Launch} {D : va_G} {cy : Nat → ClassId} {b x mm : Nat} {r : Nat → Nat} {xs : Nat → Int32} {La Lb : List Nat} {σ : Nat → va_E} {φ : Nat → Nat → Nat → Int32} {ρ : Nat → Nat → Int32} (hE : zOk E l D cy R_law code 4 room_1) (hs : zSc E b 7 xs) (hx : zOR cy La σ φ x) (hm : zModel cy Lb σ mm r) (hm0 : zMo0 φ ρ mm r) (hend : ∀ (L : List Nat) (σ : Nat → va_E) (φ : Nat → Nat → Nat → Int32) (ρ : Nat → Nat → Int32), zW E 1000 64000 L σ φ ρ 1608 [(3, .int 0), (2, .ref mm), (1, .ref x), (0, .ref b)] []) : zW E 800 60000 (La ++ Lb) σ φ ρ 1159 [(3, .int 0), (2, .ref mm), (1, .ref x), (0, .ref b)] [] := by
  obtain ⟨SX, hxT⟩ := hx.at
  refine x_aload_n hE dL_law_1159 rfl 2 rfl ?_
  refine x_aload_n hE dL_law_1160 rfl 3 rfl ?_
  refine x_iload_n hE dL_law_1161 rfl 0 rfl ?_
  refine x_iconst (v := 1) hE dL_law_1162 (by decide) ?_
  refine x_iadd hE dL_law_1163 ?_
  refine x_norm (y := 1) (by decide) ?_
  refine s_ld (iN := 1) hE hs (by decide) (by decide) (by omega) dL_law_1164 ?_
  refine x_aload_n hE dL_law_1165 rfl 3 rfl ?_
  refine x_iload_n hE dL_law_1166 rfl 0 rfl ?_
  refine x_iconst (v := 2) hE dL_law_1167 (by decide) ?_
  refine x_iadd hE dL_law_1168 ?_
  refine x_norm (y := 2) (by decide) ?_
  refine s_ld (iN := 2) hE hs (by decide) (by decide) (by omega) dL_law_1169 ?_
  refine x_aload_n hE dL_law_1170 rfl 3 rfl ?_
  refine x_iload_n hE dL_law_1171 rfl 0 rfl ?_
  refine x_iconst (v := 3) hE dL_law_1172 (by decide) ?_
  refine x_iadd hE dL_law_1173 ?_
  refine x_norm (y := 3) (by decide) ?_
  refine s_ld (iN := 3) hE hs (by decide) (by decide) (by omega) dL_law_1174 ?_
  refine c_iK hE (r_VA (st := []) hE (o_missing l D cy La σ φ ρ (xs 1) (xs 2) (xs 3) hx) q1264 q1265 q1266 q113 q1267 hxT rfl ⟨by decide, by decide, pn_X11_missing⟩ ⟨Nat.le_of_ble_eq_true rfl, Nat.le_of_ble_eq_true rfl⟩ ⟨Nat.le_of_ble_eq_true rfl, Nat.le_of_ble_eq_true rfl⟩ rfl (Nat.le_of_ble_eq_true rfl) dL_law_1175) (fun r1 u1 e1 => ?_)
  refine x_widen (k' := 900) (n' := 62000) (Nat.le_of_ble_eq_true rfl) (Nat.le_of_ble_eq_true rfl) ?_
  refine x_aload_n hE dL_law_1178 rfl 1 rfl ?_
  refine x_aload_n hE dL_law_1179 rfl 3 rfl ?_
  refine x_iload_n hE dL_law_1180 rfl 0 rfl ?_
  refine x_iconst (v := 1) hE dL_law_1181 (by decide) ?_
  refine x_iadd hE dL_law_1182 ?_
  refine x_norm (y := 1) (by decide) ?_
  refine s_ld (iN := 1) hE hs (by decide) (by decide) (by omega) dL_law_1183 ?_
  refine x_aload_n hE dL_law_1184 rfl 3 rfl ?_
  refine x_iload_n hE dL_law_1185 rfl 0 rfl ?_
  refine x_iconst (v := 2) hE dL_law_1186 (by decide) ?_
  refine x_iadd hE dL_law_1187 ?_
  refine x_norm (y := 2) (by decide) ?_
  refine s_ld (iN := 2) hE hs (by decide) (by decide) (by omega) dL_law_1188 ?_
  refine x_aload_n hE dL_law_1189 rfl 3 rfl ?_
  refine x_iload_n hE dL_law_1190 rfl 0 rfl ?_
  refine x_iconst (v := 3) hE dL_law_1191 (by decide) ?_
  refine x_iadd hE dL_law_1192 ?_
  refine x_norm (y := 3) (by decide) ?_
  refine s_ld (iN := 3) hE hs (by decide) (by decide) (by omega) dL_law_1193 ?_
  refine c_i hE (r_V (st := [.int r1]) hE (m_missing l D cy Lb σ φ ρ (xs 1) (xs 2) (xs 3) hm hm0) q2008 q2009 q2010 q124 q2011 hm.1 rfl ⟨by decide, by decide, pn_X12_missing⟩ ⟨Nat.le_of_ble_eq_true rfl, Nat.le_of_ble_eq_true rfl⟩ ⟨Nat.le_of_ble_eq_true rfl, Nat.le_of_ble_eq_true rfl⟩ rfl (Nat.le_of_ble_eq_true rfl) dL_law_1194) (fun r2 L2 σ2 φ2 ρ2 e2 => ?_)
  refine x_widen (k' := 1000) (n' := 64000) (Nat.le_of_ble_eq_true rfl) (Nat.le_of_ble_eq_true rfl) ?_
  refine x_icmp_eq (tgt := 1608) hE dL_law_1197 (by decide) (fun c_1197 => ?_) (fun c_1197 => absurd (e1.trans e2.symm) c_1197)
  exact hend _ _ _ _
