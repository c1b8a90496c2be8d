theorem dX0_hasField_0 : decode cX0_hasField 0 = .ok (.iload_n 1, 1) := by decide +kernel
theorem dX0_hasField_1 : decode cX0_hasField 1 = .ok (.ifCond .lt 15, 3) := by decide +kernel
theorem dX0_hasField_4 : decode cX0_hasField 4 = .ok (.iload_n 1, 1) := by decide +kernel
theorem dX0_hasField_5 : decode cX0_hasField 5 = .ok (.aload_n 0, 1) := by decide +kernel
theorem dX0_hasField_6 : decode cX0_hasField 6 = .ok (.getfield 36, 3) := by decide +kernel
theorem dX0_hasField_9 : decode cX0_hasField 9 = .ok (.if_icmp .ge 7, 3) := by decide +kernel
theorem dX0_hasField_12 : decode cX0_hasField 12 = .ok (.iconst 1, 1) := by decide +kernel
theorem dX0_hasField_13 : decode cX0_hasField 13 = .ok (.goto 4, 3) := by decide +kernel
theorem dX0_hasField_16 : decode cX0_hasField 16 = .ok (.iconst 0, 1) := by decide +kernel
theorem dX0_hasField_17 : decode cX0_hasField 17 = .ok (.ireturn, 1) := by decide +kernel
theorem dX0_hasPerson_0 : decode cX0_hasPerson 0 = .ok (.iload_n 1, 1) := by decide +kernel
theorem dX0_hasPerson_1 : decode cX0_hasPerson 1 = .ok (.ifCond .lt 15, 3) := by decide +kernel
theorem dX0_hasPerson_4 : decode cX0_hasPerson 4 = .ok (.iload_n 1, 1) := by decide +kernel
theorem dX0_hasPerson_5 : decode cX0_hasPerson 5 = .ok (.aload_n 0, 1) := by decide +kernel
theorem dX0_hasPerson_6 : decode cX0_hasPerson 6 = .ok (.getfield 40, 3) := by decide +kernel
theorem dX0_hasPerson_9 : decode cX0_hasPerson 9 = .ok (.if_icmp .ge 7, 3) := by decide +kernel
theorem dX0_hasPerson_12 : decode cX0_hasPerson 12 = .ok (.iconst 1, 1) := by decide +kernel
theorem dX0_hasPerson_13 : decode cX0_hasPerson 13 = .ok (.goto 4, 3) := by decide +kernel
theorem dX0_hasPerson_16 : decode cX0_hasPerson 16 = .ok (.iconst 0, 1) := by decide +kernel
theorem dX0_hasPerson_17 : decode cX0_hasPerson 17 = .ok (.ireturn, 1) := by decide +kernel
theorem dX11_isWithin_0 : decode cX11_isWithin 0 = .ok (.iload_n 0, 1) := by decide +kernel
theorem dX11_isWithin_1 : decode cX11_isWithin 1 = .ok (.iload_n 1, 1) := by decide +kernel
theorem dX11_isWithin_2 : decode cX11_isWithin 2 = .ok (.if_icmp .lt 12, 3) := by decide +kernel
theorem dX11_isWithin_5 : decode cX11_isWithin 5 = .ok (.iload_n 0, 1) := by decide +kernel
theorem dX11_isWithin_6 : decode cX11_isWithin 6 = .ok (.iload_n 2, 1) := by decide +kernel
theorem dX11_isWithin_7 : decode cX11_isWithin 7 = .ok (.if_icmp .gt 7, 3) := by decide +kernel
theorem dX11_isWithin_10 : decode cX11_isWithin 10 = .ok (.iconst 1, 1) := by decide +kernel
theorem dX11_isWithin_11 : decode cX11_isWithin 11 = .ok (.goto 4, 3) := by decide +kernel
theorem dX11_isWithin_14 : decode cX11_isWithin 14 = .ok (.iconst 0, 1) := by decide +kernel
theorem dX11_isWithin_15 : decode cX11_isWithin 15 = .ok (.ireturn, 1) := by decide +kernel
set_option maxHeartbeats 4000000 in
set_option maxRecDepth 100000 in
theorem k_isWithin (l : Launch) (D : va_G) (cy : Nat → ClassId) (L : List Nat) (σ : Nat → va_E) (φ : Nat → Nat → Nat → Int32) (ρ : Nat → Nat → Int32) (v a b : Int32) : zMI l D cy yX11_isWithin cX11_isWithin 3 .boolean (zrm 0 0 0) [.int v, .int a, .int b] L σ φ ρ (zpu L σ φ ρ (fun r => r = zb (a ≤ v ∧ v ≤ b))) := by
  refine zMI.mk (by decide) (Nat.le_of_ble_eq_true rfl) (fun E hE hret => ?_)
  show zW E 0 0 L σ φ ρ 0 [(0, .int v), (1, .int a), (2, .int b)] []
  refine x_iload_n hE dX11_isWithin_0 rfl 0 rfl ?_
  refine x_iload_n hE dX11_isWithin_1 rfl 1 rfl ?_
  refine x_icmp_lt (tgt := 14) hE dX11_isWithin_2 (by decide) (fun c_2 => ?_) (fun c_2 => ?_)
  · refine x_iconst (v := 0) hE dX11_isWithin_14 (by decide) ?_
    exact hret _ _ _ _ _ _ _ _ (0) (Nat.le_of_ble_eq_true rfl) (Nat.le_of_ble_eq_true rfl) dX11_isWithin_15 (rfl) (⟨rfl, (zb_f (fun h => z_lt_nle c_2 h.1)).symm⟩)
  · refine x_iload_n hE dX11_isWithin_5 rfl 0 rfl ?_
    refine x_iload_n hE dX11_isWithin_6 rfl 2 rfl ?_
    refine x_icmp_gt (tgt := 14) hE dX11_isWithin_7 (by decide) (fun c_7 => ?_) (fun c_7 => ?_)
    · refine x_iconst (v := 0) hE dX11_isWithin_14 (by decide) ?_
      exact hret _ _ _ _ _ _ _ _ (0) (Nat.le_of_ble_eq_true rfl) (Nat.le_of_ble_eq_true rfl) dX11_isWithin_15 (rfl) (⟨rfl, (zb_f (fun h => z_lt_nle c_7 h.2)).symm⟩)
    · refine x_iconst (v := 1) hE dX11_isWithin_10 (by decide) ?_
      refine x_goto (tgt := 15) hE dX11_isWithin_11 (by decide) ?_
      exact hret _ _ _ _ _ _ _ _ (1) (Nat.le_of_ble_eq_true rfl) (Nat.le_of_ble_eq_true rfl) dX11_isWithin_15 (rfl) (⟨rfl, (zb_t ⟨z_nlt c_2, z_nlt c_7⟩).symm⟩)
set_option maxHeartbeats 4000000 in
set_option maxRecDepth 100000 in
theorem k_hasField (l : Launch) (D : va_G) (cy : Nat → ClassId) (L : List Nat) (σ : Nat → va_E) (φ : Nat → Nat → Nat → Int32) (ρ : Nat → Nat → Int32) {a a0 a1 a2 a3 a4 a5 a6 a7 : Nat} (f : Int32) (ha : zT L σ a (.inr (0, [.int 0, .int 0, .ref a0, .ref a1, .ref a2, .ref a3, .ref a4, .ref a5, .ref a6, .ref a7]))) : zMI l D cy yX0_hasField cX0_hasField 2 .boolean (zrm 0 0 0) [.ref a, .int f] L σ φ ρ (zpu L σ φ ρ (fun r => r = zb (0 ≤ f ∧ f < φ 0 0 a))) := by
  refine zMI.mk (by decide) (Nat.le_of_ble_eq_true rfl) (fun E hE hret => ?_)
  show zW E 0 0 L σ φ ρ 0 [(0, .ref a), (1, .int f)] []
  refine x_iload_n hE dX0_hasField_0 rfl 1 rfl ?_
  refine x_if_lt (tgt := 16) hE dX0_hasField_1 (by decide) (fun c_1 => ?_) (fun c_1 => ?_)
  · refine x_iconst (v := 0) hE dX0_hasField_16 (by decide) ?_
    exact hret _ _ _ _ _ _ _ _ (0) (Nat.le_of_ble_eq_true rfl) (Nat.le_of_ble_eq_true rfl) dX0_hasField_17 (rfl) (⟨rfl, (zb_f (fun h => z_lt_nle c_1 h.1)).symm⟩)
  · refine x_iload_n hE dX0_hasField_4 rfl 1 rfl ?_
    refine x_aload_n hE dX0_hasField_5 rfl 0 rfl ?_
    refine h_geti hE ha rfl inZX0 0 (by decide) q154 rfl dX0_hasField_6 ?_
    refine x_icmp_ge (tgt := 16) hE dX0_hasField_9 (by decide) (fun c_9 => ?_) (fun c_9 => ?_)
    · refine x_iconst (v := 0) hE dX0_hasField_16 (by decide) ?_
      exact hret _ _ _ _ _ _ _ _ (0) (Nat.le_of_ble_eq_true rfl) (Nat.le_of_ble_eq_true rfl) dX0_hasField_17 (rfl) (⟨rfl, (zb_f (fun h => absurd h.2 (z_le_nlt c_9))).symm⟩)
    · refine x_iconst (v := 1) hE dX0_hasField_12 (by decide) ?_
      refine x_goto (tgt := 17) hE dX0_hasField_13 (by decide) ?_
      exact hret _ _ _ _ _ _ _ _ (1) (Nat.le_of_ble_eq_true rfl) (Nat.le_of_ble_eq_true rfl) dX0_hasField_17 (rfl) (⟨rfl, (zb_t ⟨z_nlt c_1, z_nle c_9⟩).symm⟩)
set_option maxHeartbeats 4000000 in
set_option maxRecDepth 100000 in
theorem k_hasPerson (l : Launch) (D : va_G) (cy : Nat → ClassId) (L : List Nat) (σ : Nat → va_E) (φ : Nat → Nat → Nat → Int32) (ρ : Nat → Nat → Int32) {a a0 a1 a2 a3 a4 a5 a6 a7 : Nat} (f : Int32) (ha : zT L σ a (.inr (0, [.int 0, .int 0, .ref a0, .ref a1, .ref a2, .ref a3, .ref a4, .ref a5, .ref a6, .ref a7]))) : zMI l D cy yX0_hasPerson cX0_hasPerson 2 .boolean (zrm 0 0 0) [.ref a, .int f] L σ φ ρ (zpu L σ φ ρ (fun r => r = zb (0 ≤ f ∧ f < φ 0 1 a))) := by
  refine zMI.mk (by decide) (Nat.le_of_ble_eq_true rfl) (fun E hE hret => ?_)
  show zW E 0 0 L σ φ ρ 0 [(0, .ref a), (1, .int f)] []
  refine x_iload_n hE dX0_hasPerson_0 rfl 1 rfl ?_
  refine x_if_lt (tgt := 16) hE dX0_hasPerson_1 (by decide) (fun c_1 => ?_) (fun c_1 => ?_)
  · refine x_iconst (v := 0) hE dX0_hasPerson_16 (by decide) ?_
    exact hret _ _ _ _ _ _ _ _ (0) (Nat.le_of_ble_eq_true rfl) (Nat.le_of_ble_eq_true rfl) dX0_hasPerson_17 (rfl) (⟨rfl, (zb_f (fun h => z_lt_nle c_1 h.1)).symm⟩)
  · refine x_iload_n hE dX0_hasPerson_4 rfl 1 rfl ?_
    refine x_aload_n hE dX0_hasPerson_5 rfl 0 rfl ?_
    refine h_geti hE ha rfl inZX0 1 (by decide) q160 rfl dX0_hasPerson_6 ?_
    refine x_icmp_ge (tgt := 16) hE dX0_hasPerson_9 (by decide) (fun c_9 => ?_) (fun c_9 => ?_)
    · refine x_iconst (v := 0) hE dX0_hasPerson_16 (by decide) ?_
      exact hret _ _ _ _ _ _ _ _ (0) (Nat.le_of_ble_eq_true rfl) (Nat.le_of_ble_eq_true rfl) dX0_hasPerson_17 (rfl) (⟨rfl, (zb_f (fun h => absurd h.2 (z_le_nlt c_9))).symm⟩)
    · refine x_iconst (v := 1) hE dX0_hasPerson_12 (by decide) ?_
      refine x_goto (tgt := 17) hE dX0_hasPerson_13 (by decide) ?_
      exact hret _ _ _ _ _ _ _ _ (1) (Nat.le_of_ble_eq_true rfl) (Nat.le_of_ble_eq_true rfl) dX0_hasPerson_17 (rfl) (⟨rfl, (zb_t ⟨z_nlt c_1, z_nle c_9⟩).symm⟩)
