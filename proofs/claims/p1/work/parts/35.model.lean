theorem dX12_begin_0 : decode cX12_begin 0 = .ok (.iconst 0, 1) := by decide +kernel
theorem dX12_begin_1 : decode cX12_begin 1 = .ok (.istore_n 1, 1) := by decide +kernel
theorem dX12_begin_2 : decode cX12_begin 2 = .ok (.iload_n 1, 1) := by decide +kernel
theorem dX12_begin_3 : decode cX12_begin 3 = .ok (.bipush 114, 2) := by decide +kernel
theorem dX12_begin_5 : decode cX12_begin 5 = .ok (.if_icmp .ge 21, 3) := by decide +kernel
theorem dX12_begin_8 : decode cX12_begin 8 = .ok (.aload_n 0, 1) := by decide +kernel
theorem dX12_begin_9 : decode cX12_begin 9 = .ok (.getfield 73, 3) := by decide +kernel
theorem dX12_begin_12 : decode cX12_begin 12 = .ok (.iload_n 1, 1) := by decide +kernel
theorem dX12_begin_13 : decode cX12_begin 13 = .ok (.aload_n 0, 1) := by decide +kernel
theorem dX12_begin_14 : decode cX12_begin 14 = .ok (.getfield 7, 3) := by decide +kernel
theorem dX12_begin_17 : decode cX12_begin 17 = .ok (.iload_n 1, 1) := by decide +kernel
theorem dX12_begin_18 : decode cX12_begin 18 = .ok (.iaload, 1) := by decide +kernel
theorem dX12_begin_19 : decode cX12_begin 19 = .ok (.iastore, 1) := by decide +kernel
theorem dX12_begin_20 : decode cX12_begin 20 = .ok (.iinc 1 1, 3) := by decide +kernel
theorem dX12_begin_23 : decode cX12_begin 23 = .ok (.goto (-21), 3) := by decide +kernel
theorem dX12_begin_26 : decode cX12_begin 26 = .ok (.iconst 0, 1) := by decide +kernel
theorem dX12_begin_27 : decode cX12_begin 27 = .ok (.istore_n 1, 1) := by decide +kernel
theorem dX12_begin_28 : decode cX12_begin 28 = .ok (.iload_n 1, 1) := by decide +kernel
theorem dX12_begin_29 : decode cX12_begin 29 = .ok (.bipush 8, 2) := by decide +kernel
theorem dX12_begin_31 : decode cX12_begin 31 = .ok (.if_icmp .ge 16, 3) := by decide +kernel
theorem dX12_begin_34 : decode cX12_begin 34 = .ok (.aload_n 0, 1) := by decide +kernel
theorem dX12_begin_35 : decode cX12_begin 35 = .ok (.getfield 70, 3) := by decide +kernel
theorem dX12_begin_38 : decode cX12_begin 38 = .ok (.iload_n 1, 1) := by decide +kernel
theorem dX12_begin_39 : decode cX12_begin 39 = .ok (.iconst (-1), 1) := by decide +kernel
theorem dX12_begin_40 : decode cX12_begin 40 = .ok (.iastore, 1) := by decide +kernel
theorem dX12_begin_41 : decode cX12_begin 41 = .ok (.iinc 1 1, 3) := by decide +kernel
theorem dX12_begin_44 : decode cX12_begin 44 = .ok (.goto (-16), 3) := by decide +kernel
theorem dX12_begin_47 : decode cX12_begin 47 = .ok (.aload_n 0, 1) := by decide +kernel
theorem dX12_begin_48 : decode cX12_begin 48 = .ok (.aload_n 0, 1) := by decide +kernel
theorem dX12_begin_49 : decode cX12_begin 49 = .ok (.getfield 7, 3) := by decide +kernel
theorem dX12_begin_52 : decode cX12_begin 52 = .ok (.iconst 2, 1) := by decide +kernel
theorem dX12_begin_53 : decode cX12_begin 53 = .ok (.iaload, 1) := by decide +kernel
theorem dX12_begin_54 : decode cX12_begin 54 = .ok (.putfield 351, 3) := by decide +kernel
theorem dX12_begin_57 : decode cX12_begin 57 = .ok (.aload_n 0, 1) := by decide +kernel
theorem dX12_begin_58 : decode cX12_begin 58 = .ok (.iconst 0, 1) := by decide +kernel
theorem dX12_begin_59 : decode cX12_begin 59 = .ok (.putfield 373, 3) := by decide +kernel
theorem dX12_begin_62 : decode cX12_begin 62 = .ok (.aload_n 0, 1) := by decide +kernel
theorem dX12_begin_63 : decode cX12_begin 63 = .ok (.iconst 0, 1) := by decide +kernel
theorem dX12_begin_64 : decode cX12_begin 64 = .ok (.putfield 367, 3) := by decide +kernel
theorem dX12_begin_67 : decode cX12_begin 67 = .ok (.return_, 1) := by decide +kernel
theorem dX12_greatestTax_0 : decode cX12_greatestTax 0 = .ok (.iload_n 1, 1) := by decide +kernel
theorem dX12_greatestTax_1 : decode cX12_greatestTax 1 = .ok (.iconst 1, 1) := by decide +kernel
theorem dX12_greatestTax_2 : decode cX12_greatestTax 2 = .ok (.bipush 30, 2) := by decide +kernel
theorem dX12_greatestTax_4 : decode cX12_greatestTax 4 = .ok (.invokestatic 113, 3) := by decide +kernel
theorem dX12_greatestTax_7 : decode cX12_greatestTax 7 = .ok (.ifCond .ne 5, 3) := by decide +kernel
theorem dX12_greatestTax_10 : decode cX12_greatestTax 10 = .ok (.iconst (-1), 1) := by decide +kernel
theorem dX12_greatestTax_11 : decode cX12_greatestTax 11 = .ok (.ireturn, 1) := by decide +kernel
theorem dX12_greatestTax_12 : decode cX12_greatestTax 12 = .ok (.iconst 0, 1) := by decide +kernel
theorem dX12_greatestTax_13 : decode cX12_greatestTax 13 = .ok (.istore_n 2, 1) := by decide +kernel
theorem dX12_greatestTax_14 : decode cX12_greatestTax 14 = .ok (.iconst 0, 1) := by decide +kernel
theorem dX12_greatestTax_15 : decode cX12_greatestTax 15 = .ok (.istore_n 3, 1) := by decide +kernel
theorem dX12_greatestTax_16 : decode cX12_greatestTax 16 = .ok (.iload_n 3, 1) := by decide +kernel
theorem dX12_greatestTax_17 : decode cX12_greatestTax 17 = .ok (.bipush 10, 2) := by decide +kernel
theorem dX12_greatestTax_19 : decode cX12_greatestTax 19 = .ok (.if_icmp .gt 118, 3) := by decide +kernel
theorem dX12_greatestTax_22 : decode cX12_greatestTax 22 = .ok (.aload_n 0, 1) := by decide +kernel
theorem dX12_greatestTax_23 : decode cX12_greatestTax 23 = .ok (.invokevirtual 459, 3) := by decide +kernel
theorem dX12_greatestTax_26 : decode cX12_greatestTax 26 = .ok (.aload_n 0, 1) := by decide +kernel
theorem dX12_greatestTax_27 : decode cX12_greatestTax 27 = .ok (.iload_n 3, 1) := by decide +kernel
theorem dX12_greatestTax_28 : decode cX12_greatestTax 28 = .ok (.putfield 67, 3) := by decide +kernel
theorem dX12_greatestTax_31 : decode cX12_greatestTax 31 = .ok (.iconst 0, 1) := by decide +kernel
theorem dX12_greatestTax_32 : decode cX12_greatestTax 32 = .ok (.istore 4, 2) := by decide +kernel
theorem dX12_greatestTax_34 : decode cX12_greatestTax 34 = .ok (.iload 4, 2) := by decide +kernel
theorem dX12_greatestTax_36 : decode cX12_greatestTax 36 = .ok (.iload_n 1, 1) := by decide +kernel
theorem dX12_greatestTax_37 : decode cX12_greatestTax 37 = .ok (.if_icmp .ge 13, 3) := by decide +kernel
theorem dX12_greatestTax_40 : decode cX12_greatestTax 40 = .ok (.aload_n 0, 1) := by decide +kernel
theorem dX12_greatestTax_41 : decode cX12_greatestTax 41 = .ok (.invokevirtual 462, 3) := by decide +kernel
theorem dX12_greatestTax_44 : decode cX12_greatestTax 44 = .ok (.iinc 4 1, 3) := by decide +kernel
theorem dX12_greatestTax_47 : decode cX12_greatestTax 47 = .ok (.goto (-13), 3) := by decide +kernel
theorem dX12_greatestTax_50 : decode cX12_greatestTax 50 = .ok (.iconst 1, 1) := by decide +kernel
theorem dX12_greatestTax_51 : decode cX12_greatestTax 51 = .ok (.istore 4, 2) := by decide +kernel
theorem dX12_greatestTax_53 : decode cX12_greatestTax 53 = .ok (.iconst 0, 1) := by decide +kernel
theorem dX12_greatestTax_54 : decode cX12_greatestTax 54 = .ok (.istore 5, 2) := by decide +kernel
theorem dX12_greatestTax_56 : decode cX12_greatestTax 56 = .ok (.iload 5, 2) := by decide +kernel
theorem dX12_greatestTax_58 : decode cX12_greatestTax 58 = .ok (.aload_n 0, 1) := by decide +kernel
theorem dX12_greatestTax_59 : decode cX12_greatestTax 59 = .ok (.getfield 7, 3) := by decide +kernel
theorem dX12_greatestTax_62 : decode cX12_greatestTax 62 = .ok (.iconst 0, 1) := by decide +kernel
theorem dX12_greatestTax_63 : decode cX12_greatestTax 63 = .ok (.iaload, 1) := by decide +kernel
theorem dX12_greatestTax_64 : decode cX12_greatestTax 64 = .ok (.if_icmp .ge 56, 3) := by decide +kernel
theorem dX12_greatestTax_120 : decode cX12_greatestTax 120 = .ok (.aload_n 0, 1) := by decide +kernel
theorem dX12_greatestTax_121 : decode cX12_greatestTax 121 = .ok (.invokevirtual 465, 3) := by decide +kernel
theorem dX12_greatestTax_124 : decode cX12_greatestTax 124 = .ok (.iload 4, 2) := by decide +kernel
theorem dX12_greatestTax_126 : decode cX12_greatestTax 126 = .ok (.ifCond .eq 5, 3) := by decide +kernel
theorem dX12_greatestTax_129 : decode cX12_greatestTax 129 = .ok (.iload_n 3, 1) := by decide +kernel
theorem dX12_greatestTax_130 : decode cX12_greatestTax 130 = .ok (.istore_n 2, 1) := by decide +kernel
theorem dX12_greatestTax_131 : decode cX12_greatestTax 131 = .ok (.iinc 3 1, 3) := by decide +kernel
theorem dX12_greatestTax_134 : decode cX12_greatestTax 134 = .ok (.goto (-118), 3) := by decide +kernel
theorem dX12_greatestTax_137 : decode cX12_greatestTax 137 = .ok (.aload_n 0, 1) := by decide +kernel
theorem dX12_greatestTax_138 : decode cX12_greatestTax 138 = .ok (.iconst (-1), 1) := by decide +kernel
theorem dX12_greatestTax_139 : decode cX12_greatestTax 139 = .ok (.putfield 67, 3) := by decide +kernel
theorem dX12_greatestTax_142 : decode cX12_greatestTax 142 = .ok (.iload_n 2, 1) := by decide +kernel
theorem dX12_greatestTax_143 : decode cX12_greatestTax 143 = .ok (.ireturn, 1) := by decide +kernel
theorem dX12_passOnward_0 : decode cX12_passOnward 0 = .ok (.aload_n 0, 1) := by decide +kernel
theorem dX12_passOnward_1 : decode cX12_passOnward 1 = .ok (.dup, 1) := by decide +kernel
theorem dX12_passOnward_2 : decode cX12_passOnward 2 = .ok (.getfield 373, 3) := by decide +kernel
theorem dX12_passOnward_5 : decode cX12_passOnward 5 = .ok (.iconst 1, 1) := by decide +kernel
theorem dX12_passOnward_6 : decode cX12_passOnward 6 = .ok (.iadd, 1) := by decide +kernel
theorem dX12_passOnward_7 : decode cX12_passOnward 7 = .ok (.putfield 373, 3) := by decide +kernel
theorem dX12_passOnward_10 : decode cX12_passOnward 10 = .ok (.aload_n 0, 1) := by decide +kernel
theorem dX12_passOnward_11 : decode cX12_passOnward 11 = .ok (.invokevirtual 382, 3) := by decide +kernel
theorem dX12_passOnward_14 : decode cX12_passOnward 14 = .ok (.istore_n 1, 1) := by decide +kernel
theorem dX12_passOnward_15 : decode cX12_passOnward 15 = .ok (.aload_n 0, 1) := by decide +kernel
theorem dX12_passOnward_16 : decode cX12_passOnward 16 = .ok (.invokevirtual 385, 3) := by decide +kernel
theorem dX12_passOnward_19 : decode cX12_passOnward 19 = .ok (.aload_n 0, 1) := by decide +kernel
theorem dX12_passOnward_20 : decode cX12_passOnward 20 = .ok (.dup, 1) := by decide +kernel
theorem dX12_passOnward_21 : decode cX12_passOnward 21 = .ok (.getfield 351, 3) := by decide +kernel
theorem dX12_passOnward_24 : decode cX12_passOnward 24 = .ok (.iload_n 1, 1) := by decide +kernel
theorem dX12_passOnward_25 : decode cX12_passOnward 25 = .ok (.ifCond .lt 7, 3) := by decide +kernel
theorem dX12_passOnward_28 : decode cX12_passOnward 28 = .ok (.iconst 1, 1) := by decide +kernel
theorem dX12_passOnward_29 : decode cX12_passOnward 29 = .ok (.goto 4, 3) := by decide +kernel
theorem dX12_passOnward_33 : decode cX12_passOnward 33 = .ok (.iadd, 1) := by decide +kernel
theorem dX12_passOnward_34 : decode cX12_passOnward 34 = .ok (.putfield 351, 3) := by decide +kernel
theorem dX12_passOnward_37 : decode cX12_passOnward 37 = .ok (.return_, 1) := by decide +kernel
theorem dX12_putBack_0 : decode cX12_putBack 0 = .ok (.iconst 0, 1) := by decide +kernel
theorem dX12_putBack_1 : decode cX12_putBack 1 = .ok (.istore_n 1, 1) := by decide +kernel
theorem dX12_putBack_2 : decode cX12_putBack 2 = .ok (.iload_n 1, 1) := by decide +kernel
theorem dX12_putBack_3 : decode cX12_putBack 3 = .ok (.bipush 114, 2) := by decide +kernel
theorem dX12_putBack_5 : decode cX12_putBack 5 = .ok (.if_icmp .ge 21, 3) := by decide +kernel
theorem dX12_putBack_8 : decode cX12_putBack 8 = .ok (.aload_n 0, 1) := by decide +kernel
theorem dX12_putBack_9 : decode cX12_putBack 9 = .ok (.getfield 7, 3) := by decide +kernel
theorem dX12_putBack_12 : decode cX12_putBack 12 = .ok (.iload_n 1, 1) := by decide +kernel
theorem dX12_putBack_13 : decode cX12_putBack 13 = .ok (.aload_n 0, 1) := by decide +kernel
theorem dX12_putBack_14 : decode cX12_putBack 14 = .ok (.getfield 73, 3) := by decide +kernel
theorem dX12_putBack_17 : decode cX12_putBack 17 = .ok (.iload_n 1, 1) := by decide +kernel
theorem dX12_putBack_18 : decode cX12_putBack 18 = .ok (.iaload, 1) := by decide +kernel
theorem dX12_putBack_19 : decode cX12_putBack 19 = .ok (.iastore, 1) := by decide +kernel
theorem dX12_putBack_20 : decode cX12_putBack 20 = .ok (.iinc 1 1, 3) := by decide +kernel
theorem dX12_putBack_23 : decode cX12_putBack 23 = .ok (.goto (-21), 3) := by decide +kernel
theorem dX12_putBack_26 : decode cX12_putBack 26 = .ok (.return_, 1) := by decide +kernel
-- begin
set_option maxHeartbeats 4000000 in
set_option maxRecDepth 100000 in
theorem m_begin (l : Launch) (D : va_G) (cy : Nat → ClassId) (L : List Nat) (σ : Nat → va_E) (φ : Nat → Nat → Nat → Int32) (ρ : Nat → Nat → Int32) {m : Nat} {r : Nat → Nat} (hm : zModel cy L σ m r) : zMV l D cy yX12_begin cX12_begin 2 (zrm 0 0 0) [.ref m] L σ φ ρ (zsv L σ (fun φ' ρ' => ρ' (r 0) = ρ (r 0) ∧ ∀ j, j < 114 → ρ' (r 41) j = ρ (r 0) j)) := by
  refine zMV.mk (by decide) (Nat.le_of_ble_eq_true rfl) (fun E hE hI hret => ?_)
  show zW E 0 0 L σ φ ρ 0 [(0, .ref m)] []
  obtain ⟨hM, hr0, hr1, hr2, hr3, hr15, hr16, hr22, hr25, hr26, hr27, hr28, hr29, hr32, hr33, hr34, hr39, hr41, hr42, hr43, hr44, hr45, hr46, hr47, hr48, hr49, hr50, hr51, hr52, hne⟩ := id hm
  have hds : (r 0) ≠ (r 41) := zT.ne hr0 hr41 (by simp)
  have loop : ∀ (f i : Nat) (ρ' : Nat → Nat → Int32), i ≤ 114 → 114 - i < f → ρ' (r 0) = ρ (r 0) → (∀ j, j < i → ρ' (r 41) j = ρ (r 0) j) → zW E 0 0 L σ φ ρ' 2 [(1, .int (nI i)), (0, .ref m)] [] := by
    intro f
    induction f with
    | zero => intro i ρ' h1 h2; omega
    | succ f ih =>
      intro i ρ' hi hf hA hB
      rcases Nat.lt_or_ge i 114 with hlt | hge
      · refine x_iload_n hE dX12_begin_2 rfl 0 rfl ?_
        refine x_bipush (v := 114) hE dX12_begin_3 (by decide) ?_
        refine x_icmp_ge (tgt := 26) hE dX12_begin_5 (by decide) (fun c_5 => absurd c_5 (fun h => absurd ((nI_leI (a := 114) (by omega) (by omega)).mp h) (by omega))) (fun c_5 => ?_)
        refine x_aload_n hE dX12_begin_8 rfl 1 rfl ?_
        refine h_getr hE hM rfl inZX12 41 (by decide) q1435 rfl dX12_begin_9 ?_
        refine x_iload_n hE dX12_begin_12 rfl 0 rfl ?_
        refine x_aload_n hE dX12_begin_13 rfl 1 rfl ?_
        refine h_getr hE hM rfl inZX12 0 (by decide) q1394 rfl dX12_begin_14 ?_
        refine x_iload_n hE dX12_begin_17 rfl 0 rfl ?_
        refine h_ialdL (iN := i) hE hr0 (nI_clamp (by omega)) (nI_pos (by omega)) (by omega) dX12_begin_18 ?_
        refine x_norm (y := ρ (r 0) i) (by rw [hA]) ?_
        refine h_iastL (iN := i) hE hr41 (nI_clamp (by omega)) (nI_pos (by omega)) (by omega) dX12_begin_19 ?_
        refine x_iinc (v := nI (i + 1)) (lv' := [(1, .int (nI (i + 1))), (0, .ref m)]) hE dX12_begin_20 0 rfl (nI_1 i) (by decide) rfl ?_
        refine x_goto (tgt := 2) hE dX12_begin_23 (by decide) ?_
        refine x_sub (lv' := [(1, .int (nI (i + 1))), (0, .ref m)]) (by simp) ?_
        refine ih (i + 1) _ (by omega) (by omega) (by rw [va_up_ne _ _ hds]; exact hA) (fun j hj => ?_)
        rw [va_up_self]
        by_cases e : j = i
        · rw [e, pk_us]
        · rw [pk_un e]; exact hB j (by omega)
      · refine x_iload_n hE dX12_begin_2 rfl 0 rfl ?_
        refine x_bipush (v := 114) hE dX12_begin_3 (by decide) ?_
        refine x_icmp_ge (tgt := 26) hE dX12_begin_5 (by decide) (fun c_5 => ?_) (fun c_5 => absurd ((nI_leI (a := 114) (by omega) (by omega)).mpr (by omega)) c_5)
        have hB : ∀ j, j < 114 → ρ' (r 41) j = ρ (r 0) j := fun j hj => hB j (by omega)
        refine x_iconst (v := 0) hE dX12_begin_26 (by decide) ?_
        refine x_istore_n (lv' := [(1, .int 0), (0, .ref m)]) hE dX12_begin_27 rfl (by decide) rfl ?_
        refine x_iload_n hE dX12_begin_28 rfl 0 rfl ?_
        refine x_bipush (v := 8) hE dX12_begin_29 (by decide) ?_
        refine x_icmp_ge (tgt := 47) hE dX12_begin_31 (by decide) (fun c_31 => absurd c_31 (by decide)) (fun c_31 => ?_)
        refine x_aload_n hE dX12_begin_34 rfl 1 rfl ?_
        refine h_getr hE hM rfl inZX12 39 (by decide) q1433 rfl dX12_begin_35 ?_
        refine x_iload_n hE dX12_begin_38 rfl 0 rfl ?_
        refine x_iconst (v := -1) hE dX12_begin_39 (by decide) ?_
        refine h_iastL (iN := 0) hE hr39 (by decide) (by decide) (by omega) dX12_begin_40 ?_
        refine x_rho (fun ρ_40 hρ_40 => ?_)
        have hA : ρ_40 (r 0) = ρ (r 0) := Eq.trans (by rw [hρ_40, va_up_ne _ _ (zT.ne hr0 hr39 (by simp))]) hA
        have hB : ∀ j, j < 114 → ρ_40 (r 41) j = ρ (r 0) j := fun j hj => Eq.trans (by rw [hρ_40, va_up_ne _ _ (zT.ne hr41 hr39 (by simp))]) (hB j hj)
        refine x_iinc (v := 1) (lv' := [(1, .int 1), (0, .ref m)]) hE dX12_begin_41 0 rfl (by decide) (by decide) rfl ?_
        refine x_goto (tgt := 28) hE dX12_begin_44 (by decide) ?_
        refine x_iload_n hE dX12_begin_28 rfl 0 rfl ?_
        refine x_bipush (v := 8) hE dX12_begin_29 (by decide) ?_
        refine x_icmp_ge (tgt := 47) hE dX12_begin_31 (by decide) (fun c_31 => absurd c_31 (by decide)) (fun c_31 => ?_)
        refine x_aload_n hE dX12_begin_34 rfl 1 rfl ?_
        refine h_getr hE hM rfl inZX12 39 (by decide) q1433 rfl dX12_begin_35 ?_
        refine x_iload_n hE dX12_begin_38 rfl 0 rfl ?_
        refine x_iconst (v := -1) hE dX12_begin_39 (by decide) ?_
        refine h_iastL (iN := 1) hE hr39 (by decide) (by decide) (by omega) dX12_begin_40 ?_
        refine x_rho (fun ρ_40 hρ_40 => ?_)
        have hA : ρ_40 (r 0) = ρ (r 0) := Eq.trans (by rw [hρ_40, va_up_ne _ _ (zT.ne hr0 hr39 (by simp))]) hA
        have hB : ∀ j, j < 114 → ρ_40 (r 41) j = ρ (r 0) j := fun j hj => Eq.trans (by rw [hρ_40, va_up_ne _ _ (zT.ne hr41 hr39 (by simp))]) (hB j hj)
        refine x_iinc (v := 2) (lv' := [(1, .int 2), (0, .ref m)]) hE dX12_begin_41 0 rfl (by decide) (by decide) rfl ?_
        refine x_goto (tgt := 28) hE dX12_begin_44 (by decide) ?_
        refine x_iload_n hE dX12_begin_28 rfl 0 rfl ?_
        refine x_bipush (v := 8) hE dX12_begin_29 (by decide) ?_
        refine x_icmp_ge (tgt := 47) hE dX12_begin_31 (by decide) (fun c_31 => absurd c_31 (by decide)) (fun c_31 => ?_)
        refine x_aload_n hE dX12_begin_34 rfl 1 rfl ?_
        refine h_getr hE hM rfl inZX12 39 (by decide) q1433 rfl dX12_begin_35 ?_
        refine x_iload_n hE dX12_begin_38 rfl 0 rfl ?_
        refine x_iconst (v := -1) hE dX12_begin_39 (by decide) ?_
        refine h_iastL (iN := 2) hE hr39 (by decide) (by decide) (by omega) dX12_begin_40 ?_
        refine x_rho (fun ρ_40 hρ_40 => ?_)
        have hA : ρ_40 (r 0) = ρ (r 0) := Eq.trans (by rw [hρ_40, va_up_ne _ _ (zT.ne hr0 hr39 (by simp))]) hA
        have hB : ∀ j, j < 114 → ρ_40 (r 41) j = ρ (r 0) j := fun j hj => Eq.trans (by rw [hρ_40, va_up_ne _ _ (zT.ne hr41 hr39 (by simp))]) (hB j hj)
        refine x_iinc (v := 3) (lv' := [(1, .int 3), (0, .ref m)]) hE dX12_begin_41 0 rfl (by decide) (by decide) rfl ?_
        refine x_goto (tgt := 28) hE dX12_begin_44 (by decide) ?_
        refine x_iload_n hE dX12_begin_28 rfl 0 rfl ?_
        refine x_bipush (v := 8) hE dX12_begin_29 (by decide) ?_
        refine x_icmp_ge (tgt := 47) hE dX12_begin_31 (by decide) (fun c_31 => absurd c_31 (by decide)) (fun c_31 => ?_)
        refine x_aload_n hE dX12_begin_34 rfl 1 rfl ?_
        refine h_getr hE hM rfl inZX12 39 (by decide) q1433 rfl dX12_begin_35 ?_
        refine x_iload_n hE dX12_begin_38 rfl 0 rfl ?_
        refine x_iconst (v := -1) hE dX12_begin_39 (by decide) ?_
        refine h_iastL (iN := 3) hE hr39 (by decide) (by decide) (by omega) dX12_begin_40 ?_
        refine x_rho (fun ρ_40 hρ_40 => ?_)
        have hA : ρ_40 (r 0) = ρ (r 0) := Eq.trans (by rw [hρ_40, va_up_ne _ _ (zT.ne hr0 hr39 (by simp))]) hA
        have hB : ∀ j, j < 114 → ρ_40 (r 41) j = ρ (r 0) j := fun j hj => Eq.trans (by rw [hρ_40, va_up_ne _ _ (zT.ne hr41 hr39 (by simp))]) (hB j hj)
        refine x_iinc (v := 4) (lv' := [(1, .int 4), (0, .ref m)]) hE dX12_begin_41 0 rfl (by decide) (by decide) rfl ?_
        refine x_goto (tgt := 28) hE dX12_begin_44 (by decide) ?_
        refine x_iload_n hE dX12_begin_28 rfl 0 rfl ?_
        refine x_bipush (v := 8) hE dX12_begin_29 (by decide) ?_
        refine x_icmp_ge (tgt := 47) hE dX12_begin_31 (by decide) (fun c_31 => absurd c_31 (by decide)) (fun c_31 => ?_)
        refine x_aload_n hE dX12_begin_34 rfl 1 rfl ?_
        refine h_getr hE hM rfl inZX12 39 (by decide) q1433 rfl dX12_begin_35 ?_
        refine x_iload_n hE dX12_begin_38 rfl 0 rfl ?_
        refine x_iconst (v := -1) hE dX12_begin_39 (by decide) ?_
        refine h_iastL (iN := 4) hE hr39 (by decide) (by decide) (by omega) dX12_begin_40 ?_
        refine x_rho (fun ρ_40 hρ_40 => ?_)
        have hA : ρ_40 (r 0) = ρ (r 0) := Eq.trans (by rw [hρ_40, va_up_ne _ _ (zT.ne hr0 hr39 (by simp))]) hA
        have hB : ∀ j, j < 114 → ρ_40 (r 41) j = ρ (r 0) j := fun j hj => Eq.trans (by rw [hρ_40, va_up_ne _ _ (zT.ne hr41 hr39 (by simp))]) (hB j hj)
        refine x_iinc (v := 5) (lv' := [(1, .int 5), (0, .ref m)]) hE dX12_begin_41 0 rfl (by decide) (by decide) rfl ?_
        refine x_goto (tgt := 28) hE dX12_begin_44 (by decide) ?_
        refine x_iload_n hE dX12_begin_28 rfl 0 rfl ?_
        refine x_bipush (v := 8) hE dX12_begin_29 (by decide) ?_
        refine x_icmp_ge (tgt := 47) hE dX12_begin_31 (by decide) (fun c_31 => absurd c_31 (by decide)) (fun c_31 => ?_)
        refine x_aload_n hE dX12_begin_34 rfl 1 rfl ?_
        refine h_getr hE hM rfl inZX12 39 (by decide) q1433 rfl dX12_begin_35 ?_
        refine x_iload_n hE dX12_begin_38 rfl 0 rfl ?_
        refine x_iconst (v := -1) hE dX12_begin_39 (by decide) ?_
        refine h_iastL (iN := 5) hE hr39 (by decide) (by decide) (by omega) dX12_begin_40 ?_
        refine x_rho (fun ρ_40 hρ_40 => ?_)
        have hA : ρ_40 (r 0) = ρ (r 0) := Eq.trans (by rw [hρ_40, va_up_ne _ _ (zT.ne hr0 hr39 (by simp))]) hA
        have hB : ∀ j, j < 114 → ρ_40 (r 41) j = ρ (r 0) j := fun j hj => Eq.trans (by rw [hρ_40, va_up_ne _ _ (zT.ne hr41 hr39 (by simp))]) (hB j hj)
        refine x_iinc (v := 6) (lv' := [(1, .int 6), (0, .ref m)]) hE dX12_begin_41 0 rfl (by decide) (by decide) rfl ?_
        refine x_goto (tgt := 28) hE dX12_begin_44 (by decide) ?_
        refine x_iload_n hE dX12_begin_28 rfl 0 rfl ?_
        refine x_bipush (v := 8) hE dX12_begin_29 (by decide) ?_
        refine x_icmp_ge (tgt := 47) hE dX12_begin_31 (by decide) (fun c_31 => absurd c_31 (by decide)) (fun c_31 => ?_)
        refine x_aload_n hE dX12_begin_34 rfl 1 rfl ?_
        refine h_getr hE hM rfl inZX12 39 (by decide) q1433 rfl dX12_begin_35 ?_
        refine x_iload_n hE dX12_begin_38 rfl 0 rfl ?_
        refine x_iconst (v := -1) hE dX12_begin_39 (by decide) ?_
        refine h_iastL (iN := 6) hE hr39 (by decide) (by decide) (by omega) dX12_begin_40 ?_
        refine x_rho (fun ρ_40 hρ_40 => ?_)
        have hA : ρ_40 (r 0) = ρ (r 0) := Eq.trans (by rw [hρ_40, va_up_ne _ _ (zT.ne hr0 hr39 (by simp))]) hA
        have hB : ∀ j, j < 114 → ρ_40 (r 41) j = ρ (r 0) j := fun j hj => Eq.trans (by rw [hρ_40, va_up_ne _ _ (zT.ne hr41 hr39 (by simp))]) (hB j hj)
        refine x_iinc (v := 7) (lv' := [(1, .int 7), (0, .ref m)]) hE dX12_begin_41 0 rfl (by decide) (by decide) rfl ?_
        refine x_goto (tgt := 28) hE dX12_begin_44 (by decide) ?_
        refine x_iload_n hE dX12_begin_28 rfl 0 rfl ?_
        refine x_bipush (v := 8) hE dX12_begin_29 (by decide) ?_
        refine x_icmp_ge (tgt := 47) hE dX12_begin_31 (by decide) (fun c_31 => absurd c_31 (by decide)) (fun c_31 => ?_)
        refine x_aload_n hE dX12_begin_34 rfl 1 rfl ?_
        refine h_getr hE hM rfl inZX12 39 (by decide) q1433 rfl dX12_begin_35 ?_
        refine x_iload_n hE dX12_begin_38 rfl 0 rfl ?_
        refine x_iconst (v := -1) hE dX12_begin_39 (by decide) ?_
        refine h_iastL (iN := 7) hE hr39 (by decide) (by decide) (by omega) dX12_begin_40 ?_
        refine x_rho (fun ρ_40 hρ_40 => ?_)
        have hA : ρ_40 (r 0) = ρ (r 0) := Eq.trans (by rw [hρ_40, va_up_ne _ _ (zT.ne hr0 hr39 (by simp))]) hA
        have hB : ∀ j, j < 114 → ρ_40 (r 41) j = ρ (r 0) j := fun j hj => Eq.trans (by rw [hρ_40, va_up_ne _ _ (zT.ne hr41 hr39 (by simp))]) (hB j hj)
        refine x_iinc (v := 8) (lv' := [(1, .int 8), (0, .ref m)]) hE dX12_begin_41 0 rfl (by decide) (by decide) rfl ?_
        refine x_goto (tgt := 28) hE dX12_begin_44 (by decide) ?_
        refine x_iload_n hE dX12_begin_28 rfl 0 rfl ?_
        refine x_bipush (v := 8) hE dX12_begin_29 (by decide) ?_
        refine x_icmp_ge (tgt := 47) hE dX12_begin_31 (by decide) (fun c_31 => ?_) (fun c_31 => absurd (by decide) c_31)
        refine x_aload_n hE dX12_begin_47 rfl 1 rfl ?_
        refine x_aload_n hE dX12_begin_48 rfl 1 rfl ?_
        refine h_getr hE hM rfl inZX12 0 (by decide) q1394 rfl dX12_begin_49 ?_
        refine x_iconst (v := 2) hE dX12_begin_52 (by decide) ?_
        refine h_ialdL (iN := 2) hE hr0 (by decide) (by decide) (by omega) dX12_begin_53 ?_
        refine h_puti (ty := .int) (ty0 := tyX12) hE hM rfl inZX12 tyX12_ok nmX12 36 (by decide) q1430 rfl rfl (by decide +kernel) rfl rfl dX12_begin_54 ?_
        refine x_aload_n hE dX12_begin_57 rfl 1 rfl ?_
        refine x_iconst (v := 0) hE dX12_begin_58 (by decide) ?_
        refine h_puti (ty := .int) (ty0 := tyX12) hE hM rfl inZX12 tyX12_ok nmX12 40 (by decide) q1434 rfl rfl (by decide +kernel) rfl rfl dX12_begin_59 ?_
        refine x_aload_n hE dX12_begin_62 rfl 1 rfl ?_
        refine x_iconst (v := 0) hE dX12_begin_63 (by decide) ?_
        refine h_puti (ty := .boolean) (ty0 := tyX12) hE hM rfl inZX12 tyX12_ok nmX12 38 (by decide) q1432 rfl rfl (by decide +kernel) rfl rfl dX12_begin_64 ?_
        exact hret _ _ _ _ _ _ _ _ (Nat.le_of_ble_eq_true rfl) (Nat.le_of_ble_eq_true rfl) dX12_begin_67 (⟨rfl, rfl, hA, hB⟩)
  refine x_iconst (v := 0) hE dX12_begin_0 (by decide) ?_
  refine x_istore_n (lv' := [(1, .int 0), (0, .ref m)]) hE dX12_begin_1 rfl (by decide) rfl ?_
  refine x_sub (lv' := [(1, .int (nI 0)), (0, .ref m)]) (by simp [nI_0]) ?_
  exact loop 115 0 ρ (by omega) (by omega) rfl (fun j hj => absurd hj (Nat.not_lt_zero j))
-- putBack
set_option maxHeartbeats 4000000 in
set_option maxRecDepth 100000 in
theorem m_putBack (l : Launch) (D : va_G) (cy : Nat → ClassId) (L : List Nat) (σ : Nat → va_E) (φ : Nat → Nat → Nat → Int32) (ρ : Nat → Nat → Int32) {m : Nat} {r : Nat → Nat} (hm : zModel cy L σ m r) : zMV l D cy yX12_putBack cX12_putBack 2 (zrm 0 0 0) [.ref m] L σ φ ρ (zsv L σ (fun φ' ρ' => ∀ j, j < 114 → ρ' (r 0) j = ρ (r 41) j)) := by
  refine zMV.mk (by decide) (Nat.le_of_ble_eq_true rfl) (fun E hE hI hret => ?_)
  show zW E 0 0 L σ φ ρ 0 [(0, .ref m)] []
  obtain ⟨hM, hr0, hr1, hr2, hr3, hr15, hr16, hr22, hr25, hr26, hr27, hr28, hr29, hr32, hr33, hr34, hr39, hr41, hr42, hr43, hr44, hr45, hr46, hr47, hr48, hr49, hr50, hr51, hr52, hne⟩ := id hm
  have hds : (r 41) ≠ (r 0) := zT.ne hr41 hr0 (by simp)
  have loop : ∀ (f i : Nat) (ρ' : Nat → Nat → Int32), i ≤ 114 → 114 - i < f → ρ' (r 41) = ρ (r 41) → (∀ j, j < i → ρ' (r 0) j = ρ (r 41) j) → zW E 0 0 L σ φ ρ' 2 [(1, .int (nI i)), (0, .ref m)] [] := by
    intro f
    induction f with
    | zero => intro i ρ' h1 h2; omega
    | succ f ih =>
      intro i ρ' hi hf hA hB
      rcases Nat.lt_or_ge i 114 with hlt | hge
      · refine x_iload_n hE dX12_putBack_2 rfl 0 rfl ?_
        refine x_bipush (v := 114) hE dX12_putBack_3 (by decide) ?_
        refine x_icmp_ge (tgt := 26) hE dX12_putBack_5 (by decide) (fun c_5 => absurd c_5 (fun h => absurd ((nI_leI (a := 114) (by omega) (by omega)).mp h) (by omega))) (fun c_5 => ?_)
        refine x_aload_n hE dX12_putBack_8 rfl 1 rfl ?_
        refine h_getr hE hM rfl inZX12 0 (by decide) q1394 rfl dX12_putBack_9 ?_
        refine x_iload_n hE dX12_putBack_12 rfl 0 rfl ?_
        refine x_aload_n hE dX12_putBack_13 rfl 1 rfl ?_
        refine h_getr hE hM rfl inZX12 41 (by decide) q1435 rfl dX12_putBack_14 ?_
        refine x_iload_n hE dX12_putBack_17 rfl 0 rfl ?_
        refine h_ialdL (iN := i) hE hr41 (nI_clamp (by omega)) (nI_pos (by omega)) (by omega) dX12_putBack_18 ?_
        refine x_norm (y := ρ (r 41) i) (by rw [hA]) ?_
        refine h_iastL (iN := i) hE hr0 (nI_clamp (by omega)) (nI_pos (by omega)) (by omega) dX12_putBack_19 ?_
        refine x_iinc (v := nI (i + 1)) (lv' := [(1, .int (nI (i + 1))), (0, .ref m)]) hE dX12_putBack_20 0 rfl (nI_1 i) (by decide) rfl ?_
        refine x_goto (tgt := 2) hE dX12_putBack_23 (by decide) ?_
        refine x_sub (lv' := [(1, .int (nI (i + 1))), (0, .ref m)]) (by simp) ?_
        refine ih (i + 1) _ (by omega) (by omega) (by rw [va_up_ne _ _ hds]; exact hA) (fun j hj => ?_)
        rw [va_up_self]
        by_cases e : j = i
        · rw [e, pk_us]
        · rw [pk_un e]; exact hB j (by omega)
      · refine x_iload_n hE dX12_putBack_2 rfl 0 rfl ?_
        refine x_bipush (v := 114) hE dX12_putBack_3 (by decide) ?_
        refine x_icmp_ge (tgt := 26) hE dX12_putBack_5 (by decide) (fun c_5 => ?_) (fun c_5 => absurd ((nI_leI (a := 114) (by omega) (by omega)).mpr (by omega)) c_5)
        exact hret _ _ _ _ _ _ _ _ (Nat.le_of_ble_eq_true rfl) (Nat.le_of_ble_eq_true rfl) dX12_putBack_26 (⟨rfl, rfl, fun j hj => hB j (by omega)⟩)
  refine x_iconst (v := 0) hE dX12_putBack_0 (by decide) ?_
  refine x_istore_n (lv' := [(1, .int 0), (0, .ref m)]) hE dX12_putBack_1 rfl (by decide) rfl ?_
  refine x_sub (lv' := [(1, .int (nI 0)), (0, .ref m)]) (by simp [nI_0]) ?_
  exact loop 115 0 ρ (by omega) (by omega) rfl (fun j hj => absurd hj (Nat.not_lt_zero j))
set_option maxHeartbeats 4000000 in
set_option maxRecDepth 100000 in
theorem m_passOnward (l : Launch) (D : va_G) (cy : Nat → ClassId) (L : List Nat) (σ : Nat → va_E) (φ : Nat → Nat → Nat → Int32) (ρ : Nat → Nat → Int32) {m : Nat} {r : Nat → Nat} (hm : zModel cy L σ m r) (h00 : ρ (r 0) 0 = 0) (h01 : ρ (r 0) 1 = 0) : zMV l D cy yX12_passOnward cX12_passOnward 2 (zrm 2 0 0) [.ref m] L σ φ ρ (zsv L σ (fun _ ρ' => ρ' = ρ)) := by
  refine zMV.mk (by decide) (Nat.le_of_ble_eq_true rfl) (fun E hE hI hret => ?_)
  show zW E 0 0 L σ φ ρ 0 [(0, .ref m)] []
  obtain ⟨hM, hr0, hr1, hr2, hr3, hr15, hr16, hr22, hr25, hr26, hr27, hr28, hr29, hr32, hr33, hr34, hr39, hr41, hr42, hr43, hr44, hr45, hr46, hr47, hr48, hr49, hr50, hr51, hr52, hne⟩ := id hm
  refine x_aload_n hE dX12_passOnward_0 rfl 0 rfl ?_
  refine x_dup hE dX12_passOnward_1 rfl ?_
  refine h_geti hE hM rfl inZX12 40 (by decide) q1434 rfl dX12_passOnward_2 ?_
  refine x_iconst (v := 1) hE dX12_passOnward_5 (by decide) ?_
  refine x_iadd hE dX12_passOnward_6 ?_
  refine h_puti (ty := .int) (ty0 := tyX12) hE hM rfl inZX12 tyX12_ok nmX12 40 (by decide) q1434 rfl rfl (by decide +kernel) rfl rfl dX12_passOnward_7 ?_
  refine x_aload_n hE dX12_passOnward_10 rfl 0 rfl ?_
  refine c_is hE (r_V (st := []) hE (m_rainAll l D cy L σ (zup φ 12 40 m ((φ 12 40 m) + (1))) ρ hm h01) q1773 q1775 q74 q124 q1776 hM rfl ⟨by decide, by decide, pn_X12_rainAll⟩ ⟨Nat.le_of_ble_eq_true rfl, Nat.le_of_ble_eq_true rfl⟩ ⟨Nat.le_of_ble_eq_true rfl, Nat.le_of_ble_eq_true rfl⟩ rfl (Nat.le_of_ble_eq_true rfl) dX12_passOnward_11) (fun ra φa ρa ha => ?_)
  refine x_widen (k' := 0) (n' := 0) (Nat.le_of_ble_eq_true rfl) (Nat.le_of_ble_eq_true rfl) ?_
  obtain ⟨ha1, ha2⟩ := ha
  rw [ha2]
  refine x_norm (y := 0) (ha1) ?_
  refine x_istore_n (lv' := [(1, .int 0), (0, .ref m)]) hE dX12_passOnward_14 rfl (by decide) rfl ?_
  refine x_aload_n hE dX12_passOnward_15 rfl 1 rfl ?_
  refine c_vs hE (r_V (st := []) hE (m_dryAll l D cy L σ φa ρ hm h00) q1832 q1834 q86 q124 q1835 hM rfl ⟨by decide, by decide, pn_X12_dryAll⟩ ⟨Nat.le_of_ble_eq_true rfl, Nat.le_of_ble_eq_true rfl⟩ ⟨Nat.le_of_ble_eq_true rfl, Nat.le_of_ble_eq_true rfl⟩ rfl (Nat.le_of_ble_eq_true rfl) dX12_passOnward_16) (fun φb ρb hb => ?_)
  refine x_widen (k' := 0) (n' := 0) (Nat.le_of_ble_eq_true rfl) (Nat.le_of_ble_eq_true rfl) ?_
  obtain ⟨hb1, hb2⟩ := hb
  rw [hb1, hb2]
  refine x_aload_n hE dX12_passOnward_19 rfl 1 rfl ?_
  refine x_dup hE dX12_passOnward_20 rfl ?_
  refine h_geti hE hM rfl inZX12 36 (by decide) q1430 rfl dX12_passOnward_21 ?_
  refine x_iload_n hE dX12_passOnward_24 rfl 0 rfl ?_
  refine x_if_lt (tgt := 32) hE dX12_passOnward_25 (by decide) (fun c_25 => absurd c_25 (by decide)) (fun c_25 => ?_)
  refine x_iconst (v := 1) hE dX12_passOnward_28 (by decide) ?_
  refine x_goto (tgt := 33) hE dX12_passOnward_29 (by decide) ?_
  refine x_iadd hE dX12_passOnward_33 ?_
  refine h_puti (ty := .int) (ty0 := tyX12) hE hM rfl inZX12 tyX12_ok nmX12 36 (by decide) q1430 rfl rfl (by decide +kernel) rfl rfl dX12_passOnward_34 ?_
  exact hret _ _ _ _ _ _ _ _ (Nat.le_of_ble_eq_true rfl) (Nat.le_of_ble_eq_true rfl) dX12_passOnward_37 (⟨rfl, rfl, rfl⟩)
-- greatestTax(n) of a new reference
set_option maxHeartbeats 4000000 in
set_option maxRecDepth 100000 in
theorem m_greatestTax (l : Launch) (D : va_G) (cy : Nat → ClassId) (L : List Nat) (σ : Nat → va_E) (φ : Nat → Nat → Nat → Int32) (ρ : Nat → Nat → Int32) {m : Nat} {r : Nat → Nat} (n : Int32) (hm : zModel cy L σ m r) (hm0 : zMo0 φ ρ m r) : zMI l D cy yX12_greatestTax cX12_greatestTax 6 .int (zrm 3 0 0) [.ref m, .int n] L σ φ ρ (fun r _ => r = if 1 ≤ n ∧ n ≤ 30 then 10 else -1) := by
  refine zMI.mk (by decide) (Nat.le_of_ble_eq_true rfl) (fun E hE hret => ?_)
  show zW E 0 0 L σ φ ρ 0 [(0, .ref m), (1, .int n)] []
  obtain ⟨hM, hr0, hr1, hr2, hr3, hr15, hr16, hr22, hr25, hr26, hr27, hr28, hr29, hr32, hr33, hr34, hr39, hr41, hr42, hr43, hr44, hr45, hr46, hr47, hr48, hr49, hr50, hr51, hr52, hne⟩ := id hm
  obtain ⟨hp, h0, h1⟩ := id hm0
  have h00 : ρ (r 0) 0 = 0 := (h0 0 (by omega)).trans (by decide)
  have h01 : ρ (r 0) 1 = 0 := (h0 1 (by omega)).trans (by decide)
  have inner : ∀ (q t : Nat) (ρ1 : Nat → Nat → Int32), q ≤ 30 → ρ1 (r 0) 0 = 0 → ρ1 (r 0) 1 = 0 → (∀ (φ2 : Nat → Nat → Nat → Int32) (k : Nat), zW E 0 0 L σ φ2 ρ1 50 [(4, .int (nI k)), (3, .int (nI t)), (2, .int (nI (t - 1))), (1, .int (nI q)), (0, .ref m)] []) → ∀ (f i : Nat) (φ2 : Nat → Nat → Nat → Int32), i ≤ q → q - i < f → zW E 0 0 L σ φ2 ρ1 34 [(4, .int (nI i)), (3, .int (nI t)), (2, .int (nI (t - 1))), (1, .int (nI q)), (0, .ref m)] [] := by
    intro q t ρ1 hq g0 g1 hex f
    induction f with
    | zero => intro i φ2 h1 h2; omega
    | succ f ih =>
      intro i φ2 hi hf
      rcases Nat.lt_or_ge i q with hlt | hge
      · refine x_iload hE dX12_greatestTax_34 0 rfl ?_
        refine x_iload_n hE dX12_greatestTax_36 rfl 3 rfl ?_
        refine x_icmp_ge (tgt := 50) hE dX12_greatestTax_37 (by decide) (fun c_37 => absurd c_37 (fun h => absurd ((nI_leI (by omega) (by omega)).mp h) (by omega))) (fun c_37 => ?_)
        refine x_aload_n hE dX12_greatestTax_40 rfl 4 rfl ?_
        refine c_vs hE (r_V (st := []) hE (m_passOnward l D cy L σ φ2 ρ1 hm g0 g1) q1940 q1942 q99 q124 q1943 hM rfl ⟨by decide, by decide, pn_X12_passOnward⟩ ⟨Nat.le_of_ble_eq_true rfl, Nat.le_of_ble_eq_true rfl⟩ ⟨Nat.le_of_ble_eq_true rfl, Nat.le_of_ble_eq_true rfl⟩ rfl (Nat.le_of_ble_eq_true rfl) dX12_greatestTax_41) (fun φ3 ρ3 hc => ?_)
        refine x_widen (k' := 0) (n' := 0) (Nat.le_of_ble_eq_true rfl) (Nat.le_of_ble_eq_true rfl) ?_
        rw [hc]
        refine x_iinc (v := nI (i + 1)) (lv' := [(4, .int (nI (i + 1))), (3, .int (nI t)), (2, .int (nI (t - 1))), (1, .int (nI q)), (0, .ref m)]) hE dX12_greatestTax_44 0 rfl (nI_1 i) (by decide) rfl ?_
        refine x_goto (tgt := 34) hE dX12_greatestTax_47 (by decide) ?_
        refine x_sub (lv' := [(4, .int (nI (i + 1))), (3, .int (nI t)), (2, .int (nI (t - 1))), (1, .int (nI q)), (0, .ref m)]) (by simp) ?_
        exact ih (i + 1) φ3 (by omega) (by omega)
      · refine x_iload hE dX12_greatestTax_34 0 rfl ?_
        refine x_iload_n hE dX12_greatestTax_36 rfl 3 rfl ?_
        refine x_icmp_ge (tgt := 50) hE dX12_greatestTax_37 (by decide) (fun c_37 => ?_) (fun c_37 => absurd ((nI_leI (by omega) (by omega)).mpr (by omega)) c_37)
        exact hex φ2 i
  have loop : ∀ (q : Nat), q ≤ 30 → (if 1 ≤ nI q ∧ nI q ≤ 30 then (10 : Int32) else -1) = 10 → n = nI q → ∀ (f t : Nat) (φ' : Nat → Nat → Nat → Int32) (ρ' : Nat → Nat → Int32), t ≤ 11 → 11 - t < f → ρ' (r 0) 0 = 0 → ρ' (r 0) 1 = 0 → zW E 0 0 L σ φ' ρ' 16 [(3, .int (nI t)), (2, .int (nI (t - 1))), (1, .int (nI q)), (0, .ref m)] [] := by
    intro q hq hsq hnq f
    induction f with
    | zero => intro t φ' ρ' h1 h2; omega
    | succ f ih =>
      intro t φ' ρ' ht hf g0 g1
      rcases Nat.lt_or_ge t 11 with hlt | hge
      · refine x_iload_n hE dX12_greatestTax_16 rfl 0 rfl ?_
        refine x_bipush (v := 10) hE dX12_greatestTax_17 (by decide) ?_
        refine x_icmp_gt (tgt := 137) hE dX12_greatestTax_19 (by decide) (fun c_19 => absurd c_19 (fun h => absurd ((nI_ltI (a := 10) (by omega) (by omega)).mp h) (by omega))) (fun c_19 => ?_)
        refine x_aload_n hE dX12_greatestTax_22 rfl 3 rfl ?_
        refine c_vs hE (r_V (st := []) hE (m_begin l D cy L σ φ' ρ' hm) q1936 q1938 q98 q124 q1939 hM rfl ⟨by decide, by decide, pn_X12_begin⟩ ⟨Nat.le_of_ble_eq_true rfl, Nat.le_of_ble_eq_true rfl⟩ ⟨Nat.le_of_ble_eq_true rfl, Nat.le_of_ble_eq_true rfl⟩ rfl (Nat.le_of_ble_eq_true rfl) dX12_greatestTax_23) (fun φ1 ρ1 hc => ?_)
        refine x_widen (k' := 0) (n' := 0) (Nat.le_of_ble_eq_true rfl) (Nat.le_of_ble_eq_true rfl) ?_
        obtain ⟨hc1, hc2⟩ := hc
        refine x_aload_n hE dX12_greatestTax_26 rfl 3 rfl ?_
        refine x_iload_n hE dX12_greatestTax_27 rfl 0 rfl ?_
        refine h_puti (ty := .int) (ty0 := tyX12) hE hM rfl inZX12 tyX12_ok nmX12 37 (by decide) q1431 rfl rfl (by decide +kernel) rfl rfl dX12_greatestTax_28 ?_
        refine x_iconst (v := 0) hE dX12_greatestTax_31 (by decide) ?_
        refine x_istore (lv' := [(4, .int 0), (3, .int (nI t)), (2, .int (nI (t - 1))), (1, .int (nI q)), (0, .ref m)]) hE dX12_greatestTax_32 (by decide) rfl ?_
        refine x_sub (lv' := [(4, .int (nI 0)), (3, .int (nI t)), (2, .int (nI (t - 1))), (1, .int (nI q)), (0, .ref m)]) (by simp [nI_0]) ?_
        refine inner q t ρ1 hq (by rw [hc1]; exact g0) (by rw [hc1]; exact g1) (fun φ2 k => ?_) (q + 1) 0 _ (by omega) (by omega)
        -- behind the inner loop
        refine x_iconst (v := 1) hE dX12_greatestTax_50 (by decide) ?_
        refine x_istore (lv' := [(4, .int 1), (3, .int (nI t)), (2, .int (nI (t - 1))), (1, .int (nI q)), (0, .ref m)]) hE dX12_greatestTax_51 (by decide) rfl ?_
        refine x_iconst (v := 0) hE dX12_greatestTax_53 (by decide) ?_
        refine x_istore (lv' := [(5, .int 0), (4, .int 1), (3, .int (nI t)), (2, .int (nI (t - 1))), (1, .int (nI q)), (0, .ref m)]) hE dX12_greatestTax_54 (by decide) rfl ?_
        refine x_iload hE dX12_greatestTax_56 0 rfl ?_
        refine x_aload_n hE dX12_greatestTax_58 rfl 5 rfl ?_
        refine h_getr hE hM rfl inZX12 0 (by decide) q1394 rfl dX12_greatestTax_59 ?_
        refine x_iconst (v := 0) hE dX12_greatestTax_62 (by decide) ?_
        refine h_ialdL (iN := 0) hE hr0 (by decide) (by decide) (by omega) dX12_greatestTax_63 ?_
        refine x_norm (y := 0) ((by rw [hc1]; exact g0)) ?_
        refine x_icmp_ge (tgt := 120) hE dX12_greatestTax_64 (by decide) (fun c_64 => ?_) (fun c_64 => absurd (by decide) c_64)
        refine x_aload_n hE dX12_greatestTax_120 rfl 5 rfl ?_
        refine c_vs hE (r_V (st := []) hE (m_putBack l D cy L σ φ2 ρ1 hm) q1944 q1946 q100 q124 q1947 hM rfl ⟨by decide, by decide, pn_X12_putBack⟩ ⟨Nat.le_of_ble_eq_true rfl, Nat.le_of_ble_eq_true rfl⟩ ⟨Nat.le_of_ble_eq_true rfl, Nat.le_of_ble_eq_true rfl⟩ rfl (Nat.le_of_ble_eq_true rfl) dX12_greatestTax_121) (fun φ4 ρ4 hd => ?_)
        refine x_widen (k' := 0) (n' := 0) (Nat.le_of_ble_eq_true rfl) (Nat.le_of_ble_eq_true rfl) ?_
        refine x_iload hE dX12_greatestTax_124 1 rfl ?_
        refine x_if_eq (tgt := 131) hE dX12_greatestTax_126 (by decide) (fun c_126 => absurd c_126 (by decide)) (fun c_126 => ?_)
        refine x_iload_n hE dX12_greatestTax_129 rfl 2 rfl ?_
        refine x_istore_n (lv' := [(2, .int (nI t)), (5, .int 0), (4, .int 1), (3, .int (nI t)), (1, .int (nI q)), (0, .ref m)]) hE dX12_greatestTax_130 rfl (by decide) rfl ?_
        refine x_iinc (v := nI (t + 1)) (lv' := [(3, .int (nI (t + 1))), (2, .int (nI t)), (5, .int 0), (4, .int 1), (1, .int (nI q)), (0, .ref m)]) hE dX12_greatestTax_131 3 rfl (nI_1 t) (by decide) rfl ?_
        refine x_goto (tgt := 16) hE dX12_greatestTax_134 (by decide) ?_
        refine x_sub (lv' := [(3, .int (nI (t + 1))), (2, .int (nI (t + 1 - 1))), (1, .int (nI q)), (0, .ref m)]) (by simp) ?_
        exact ih (t + 1) _ _ (by omega) (by omega) (by rw [hd 0 (by omega), hc2 0 (by omega)]; exact g0) (by rw [hd 1 (by omega), hc2 1 (by omega)]; exact g1)
      · refine x_iload_n hE dX12_greatestTax_16 rfl 0 rfl ?_
        refine x_bipush (v := 10) hE dX12_greatestTax_17 (by decide) ?_
        refine x_icmp_gt (tgt := 137) hE dX12_greatestTax_19 (by decide) (fun c_19 => ?_) (fun c_19 => absurd ((nI_ltI (a := 10) (by omega) (by omega)).mpr (by omega)) c_19)
        refine x_aload_n hE dX12_greatestTax_137 rfl 3 rfl ?_
        refine x_iconst (v := -1) hE dX12_greatestTax_138 (by decide) ?_
        refine h_puti (ty := .int) (ty0 := tyX12) hE hM rfl inZX12 tyX12_ok nmX12 37 (by decide) q1431 rfl rfl (by decide +kernel) rfl rfl dX12_greatestTax_139 ?_
        refine x_iload_n hE dX12_greatestTax_142 rfl 1 rfl ?_
        exact hret _ _ _ _ _ _ _ _ (nI (t - 1)) (Nat.le_of_ble_eq_true rfl) (Nat.le_of_ble_eq_true rfl) dX12_greatestTax_143 (rfl) (by rw [hnq, hsq]; rw [show t - 1 = 10 by omega]; rfl)
  refine x_iload_n hE dX12_greatestTax_0 rfl 1 rfl ?_
  refine x_iconst (v := 1) hE dX12_greatestTax_1 (by decide) ?_
  refine x_bipush (v := 30) hE dX12_greatestTax_2 (by decide) ?_
  refine c_ip hE (r_S (st := []) hE (m_isIn l D cy L σ φ ρ (n) (1) (30)) q1558 q1559 q124 q1560 ⟨by decide, by decide, pn_X12_isIn⟩ ⟨Nat.le_of_ble_eq_true rfl, Nat.le_of_ble_eq_true rfl⟩ ⟨Nat.le_of_ble_eq_true rfl, Nat.le_of_ble_eq_true rfl⟩ rfl (Nat.le_of_ble_eq_true rfl) dX12_greatestTax_4) (fun r4 h4 => ?_)
  refine x_widen (k' := 0) (n' := 0) (Nat.le_of_ble_eq_true rfl) (Nat.le_of_ble_eq_true rfl) ?_
  refine x_if_ne (tgt := 12) hE dX12_greatestTax_7 (by decide) (fun c_7 => ?_) (fun c_7 => ?_)
  · have hn1 : 1 ≤ n ∧ n ≤ 30 := by grind [zb]
    obtain ⟨q, hq1, hq2, hnq⟩ := z_nI (a := 1) (b := 30) hn1 (by omega) (by omega)
    rw [hnq]
    refine x_iconst (v := 0) hE dX12_greatestTax_12 (by decide) ?_
    refine x_istore_n (lv' := [(2, .int 0), (0, .ref m), (1, .int (nI q))]) hE dX12_greatestTax_13 rfl (by decide) rfl ?_
    refine x_iconst (v := 0) hE dX12_greatestTax_14 (by decide) ?_
    refine x_istore_n (lv' := [(3, .int 0), (2, .int 0), (0, .ref m), (1, .int (nI q))]) hE dX12_greatestTax_15 rfl (by decide) rfl ?_
    refine x_sub (lv' := [(3, .int (nI 0)), (2, .int (nI (0 - 1))), (1, .int (nI q)), (0, .ref m)]) (by simp [nI_0]) ?_
    exact loop q hq2 (by rw [← hnq]; exact if_pos hn1) hnq 12 0 φ ρ (by omega) (by omega) h00 h01
  · refine x_iconst (v := -1) hE dX12_greatestTax_10 (by decide) ?_
    exact hret _ _ _ _ _ _ _ _ (-1) (Nat.le_of_ble_eq_true rfl) (Nat.le_of_ble_eq_true rfl) dX12_greatestTax_11 (rfl) (by grind [zb])
