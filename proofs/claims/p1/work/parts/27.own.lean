theorem dX11_back_0 : decode cX11_back 0 = .ok (.aload_n 0, 1) := by decide +kernel
theorem dX11_back_1 : decode cX11_back 1 = .ok (.getfield 10, 3) := by decide +kernel
theorem dX11_back_4 : decode cX11_back 4 = .ok (.aload_n 0, 1) := by decide +kernel
theorem dX11_back_5 : decode cX11_back 5 = .ok (.getfield 16, 3) := by decide +kernel
theorem dX11_back_8 : decode cX11_back 8 = .ok (.invokevirtual 409, 3) := by decide +kernel
theorem dX11_back_11 : decode cX11_back 11 = .ok (.aload_n 0, 1) := by decide +kernel
theorem dX11_back_12 : decode cX11_back 12 = .ok (.getfield 10, 3) := by decide +kernel
theorem dX11_back_15 : decode cX11_back 15 = .ok (.getfield 97, 3) := by decide +kernel
theorem dX11_back_18 : decode cX11_back 18 = .ok (.getfield 137, 3) := by decide +kernel
theorem dX11_back_21 : decode cX11_back 21 = .ok (.ireturn, 1) := by decide +kernel
theorem dX11_image_0 : decode cX11_image 0 = .ok (.aload_n 0, 1) := by decide +kernel
theorem dX11_image_1 : decode cX11_image 1 = .ok (.getfield 16, 3) := by decide +kernel
theorem dX11_image_4 : decode cX11_image 4 = .ok (.aload_n 0, 1) := by decide +kernel
theorem dX11_image_5 : decode cX11_image 5 = .ok (.getfield 10, 3) := by decide +kernel
theorem dX11_image_8 : decode cX11_image 8 = .ok (.invokevirtual 409, 3) := by decide +kernel
theorem dX11_image_11 : decode cX11_image 11 = .ok (.aload_n 0, 1) := by decide +kernel
theorem dX11_image_12 : decode cX11_image 12 = .ok (.getfield 10, 3) := by decide +kernel
theorem dX11_image_15 : decode cX11_image 15 = .ok (.getfield 97, 3) := by decide +kernel
theorem dX11_image_18 : decode cX11_image 18 = .ok (.getfield 137, 3) := by decide +kernel
theorem dX11_image_21 : decode cX11_image 21 = .ok (.ireturn, 1) := by decide +kernel
theorem dX4_copyFrom_0 : decode cX4_copyFrom 0 = .ok (.aload_n 0, 1) := by decide +kernel
theorem dX4_copyFrom_1 : decode cX4_copyFrom 1 = .ok (.getfield 12, 3) := by decide +kernel
theorem dX4_copyFrom_4 : decode cX4_copyFrom 4 = .ok (.aload_n 1, 1) := by decide +kernel
theorem dX4_copyFrom_5 : decode cX4_copyFrom 5 = .ok (.getfield 12, 3) := by decide +kernel
theorem dX4_copyFrom_8 : decode cX4_copyFrom 8 = .ok (.invokevirtual 104, 3) := by decide +kernel
theorem dX4_copyFrom_11 : decode cX4_copyFrom 11 = .ok (.aload_n 0, 1) := by decide +kernel
theorem dX4_copyFrom_12 : decode cX4_copyFrom 12 = .ok (.getfield 21, 3) := by decide +kernel
theorem dX4_copyFrom_15 : decode cX4_copyFrom 15 = .ok (.aload_n 1, 1) := by decide +kernel
theorem dX4_copyFrom_16 : decode cX4_copyFrom 16 = .ok (.getfield 21, 3) := by decide +kernel
theorem dX4_copyFrom_19 : decode cX4_copyFrom 19 = .ok (.invokevirtual 108, 3) := by decide +kernel
theorem dX4_copyFrom_22 : decode cX4_copyFrom 22 = .ok (.aload_n 0, 1) := by decide +kernel
theorem dX4_copyFrom_23 : decode cX4_copyFrom 23 = .ok (.getfield 28, 3) := by decide +kernel
theorem dX4_copyFrom_26 : decode cX4_copyFrom 26 = .ok (.aload_n 1, 1) := by decide +kernel
theorem dX4_copyFrom_27 : decode cX4_copyFrom 27 = .ok (.getfield 28, 3) := by decide +kernel
theorem dX4_copyFrom_30 : decode cX4_copyFrom 30 = .ok (.invokevirtual 111, 3) := by decide +kernel
theorem dX4_copyFrom_33 : decode cX4_copyFrom 33 = .ok (.aload_n 0, 1) := by decide +kernel
theorem dX4_copyFrom_34 : decode cX4_copyFrom 34 = .ok (.getfield 35, 3) := by decide +kernel
theorem dX4_copyFrom_37 : decode cX4_copyFrom 37 = .ok (.aload_n 1, 1) := by decide +kernel
theorem dX4_copyFrom_38 : decode cX4_copyFrom 38 = .ok (.getfield 35, 3) := by decide +kernel
theorem dX4_copyFrom_41 : decode cX4_copyFrom 41 = .ok (.invokevirtual 114, 3) := by decide +kernel
theorem dX4_copyFrom_44 : decode cX4_copyFrom 44 = .ok (.iconst 0, 1) := by decide +kernel
theorem dX4_copyFrom_45 : decode cX4_copyFrom 45 = .ok (.istore_n 2, 1) := by decide +kernel
theorem dX4_copyFrom_46 : decode cX4_copyFrom 46 = .ok (.iload_n 2, 1) := by decide +kernel
theorem dX4_copyFrom_47 : decode cX4_copyFrom 47 = .ok (.iconst 4, 1) := by decide +kernel
theorem dX4_copyFrom_48 : decode cX4_copyFrom 48 = .ok (.if_icmp .ge 21, 3) := by decide +kernel
theorem dX4_copyFrom_51 : decode cX4_copyFrom 51 = .ok (.aload_n 0, 1) := by decide +kernel
theorem dX4_copyFrom_52 : decode cX4_copyFrom 52 = .ok (.getfield 41, 3) := by decide +kernel
theorem dX4_copyFrom_55 : decode cX4_copyFrom 55 = .ok (.iload_n 2, 1) := by decide +kernel
theorem dX4_copyFrom_56 : decode cX4_copyFrom 56 = .ok (.aload_n 1, 1) := by decide +kernel
theorem dX4_copyFrom_57 : decode cX4_copyFrom 57 = .ok (.getfield 41, 3) := by decide +kernel
theorem dX4_copyFrom_60 : decode cX4_copyFrom 60 = .ok (.iload_n 2, 1) := by decide +kernel
theorem dX4_copyFrom_61 : decode cX4_copyFrom 61 = .ok (.aaload, 1) := by decide +kernel
theorem dX4_copyFrom_62 : decode cX4_copyFrom 62 = .ok (.aastore, 1) := by decide +kernel
theorem dX4_copyFrom_63 : decode cX4_copyFrom 63 = .ok (.iinc 2 1, 3) := by decide +kernel
theorem dX4_copyFrom_66 : decode cX4_copyFrom 66 = .ok (.goto (-20), 3) := by decide +kernel
theorem dX4_copyFrom_69 : decode cX4_copyFrom 69 = .ok (.aload_n 0, 1) := by decide +kernel
theorem dX4_copyFrom_70 : decode cX4_copyFrom 70 = .ok (.aload_n 1, 1) := by decide +kernel
theorem dX4_copyFrom_71 : decode cX4_copyFrom 71 = .ok (.getfield 49, 3) := by decide +kernel
theorem dX4_copyFrom_74 : decode cX4_copyFrom 74 = .ok (.putfield 49, 3) := by decide +kernel
theorem dX4_copyFrom_77 : decode cX4_copyFrom 77 = .ok (.aload_n 0, 1) := by decide +kernel
theorem dX4_copyFrom_78 : decode cX4_copyFrom 78 = .ok (.aload_n 1, 1) := by decide +kernel
theorem dX4_copyFrom_79 : decode cX4_copyFrom 79 = .ok (.getfield 45, 3) := by decide +kernel
theorem dX4_copyFrom_82 : decode cX4_copyFrom 82 = .ok (.putfield 45, 3) := by decide +kernel
theorem dX4_copyFrom_85 : decode cX4_copyFrom 85 = .ok (.return_, 1) := by decide +kernel
theorem dX6_addToken_0 : decode cX6_addToken 0 = .ok (.aload_n 0, 1) := by decide +kernel
theorem dX6_addToken_1 : decode cX6_addToken 1 = .ok (.getfield 28, 3) := by decide +kernel
theorem dX6_addToken_4 : decode cX6_addToken 4 = .ok (.sipush 300, 3) := by decide +kernel
theorem dX6_addToken_7 : decode cX6_addToken 7 = .ok (.if_icmp .gt 43, 3) := by decide +kernel
theorem dX6_addToken_10 : decode cX6_addToken 10 = .ok (.aload_n 0, 1) := by decide +kernel
theorem dX6_addToken_11 : decode cX6_addToken 11 = .ok (.getfield 9, 3) := by decide +kernel
theorem dX6_addToken_14 : decode cX6_addToken 14 = .ok (.aload_n 0, 1) := by decide +kernel
theorem dX6_addToken_15 : decode cX6_addToken 15 = .ok (.getfield 28, 3) := by decide +kernel
theorem dX6_addToken_18 : decode cX6_addToken 18 = .ok (.iload_n 1, 1) := by decide +kernel
theorem dX6_addToken_19 : decode cX6_addToken 19 = .ok (.iastore, 1) := by decide +kernel
theorem dX6_addToken_20 : decode cX6_addToken 20 = .ok (.aload_n 0, 1) := by decide +kernel
theorem dX6_addToken_21 : decode cX6_addToken 21 = .ok (.getfield 18, 3) := by decide +kernel
theorem dX6_addToken_24 : decode cX6_addToken 24 = .ok (.aload_n 0, 1) := by decide +kernel
theorem dX6_addToken_25 : decode cX6_addToken 25 = .ok (.getfield 28, 3) := by decide +kernel
theorem dX6_addToken_28 : decode cX6_addToken 28 = .ok (.iload_n 2, 1) := by decide +kernel
theorem dX6_addToken_29 : decode cX6_addToken 29 = .ok (.iastore, 1) := by decide +kernel
theorem dX6_addToken_30 : decode cX6_addToken 30 = .ok (.aload_n 0, 1) := by decide +kernel
theorem dX6_addToken_31 : decode cX6_addToken 31 = .ok (.getfield 15, 3) := by decide +kernel
theorem dX6_addToken_34 : decode cX6_addToken 34 = .ok (.aload_n 0, 1) := by decide +kernel
theorem dX6_addToken_35 : decode cX6_addToken 35 = .ok (.getfield 28, 3) := by decide +kernel
theorem dX6_addToken_38 : decode cX6_addToken 38 = .ok (.iconst 0, 1) := by decide +kernel
theorem dX6_addToken_39 : decode cX6_addToken 39 = .ok (.iastore, 1) := by decide +kernel
theorem dX6_addToken_40 : decode cX6_addToken 40 = .ok (.aload_n 0, 1) := by decide +kernel
theorem dX6_addToken_41 : decode cX6_addToken 41 = .ok (.dup, 1) := by decide +kernel
theorem dX6_addToken_42 : decode cX6_addToken 42 = .ok (.getfield 28, 3) := by decide +kernel
theorem dX6_addToken_45 : decode cX6_addToken 45 = .ok (.iconst 1, 1) := by decide +kernel
theorem dX6_addToken_46 : decode cX6_addToken 46 = .ok (.iadd, 1) := by decide +kernel
theorem dX6_addToken_47 : decode cX6_addToken 47 = .ok (.putfield 28, 3) := by decide +kernel
theorem dX6_addToken_50 : decode cX6_addToken 50 = .ok (.return_, 1) := by decide +kernel
theorem dX6_findTokens_0 : decode cX6_findTokens 0 = .ok (.aload_n 0, 1) := by decide +kernel
theorem dX6_findTokens_1 : decode cX6_findTokens 1 = .ok (.iconst 0, 1) := by decide +kernel
theorem dX6_findTokens_2 : decode cX6_findTokens 2 = .ok (.putfield 28, 3) := by decide +kernel
theorem dX6_findTokens_5 : decode cX6_findTokens 5 = .ok (.iconst 0, 1) := by decide +kernel
theorem dX6_findTokens_6 : decode cX6_findTokens 6 = .ok (.istore_n 1, 1) := by decide +kernel
theorem dX6_findTokens_7 : decode cX6_findTokens 7 = .ok (.iconst 0, 1) := by decide +kernel
theorem dX6_findTokens_8 : decode cX6_findTokens 8 = .ok (.istore_n 2, 1) := by decide +kernel
theorem dX6_findTokens_9 : decode cX6_findTokens 9 = .ok (.iload_n 2, 1) := by decide +kernel
theorem dX6_findTokens_10 : decode cX6_findTokens 10 = .ok (.sipush 300, 3) := by decide +kernel
theorem dX6_findTokens_13 : decode cX6_findTokens 13 = .ok (.if_icmp .ge 93, 3) := by decide +kernel
theorem dX6_findTokens_16 : decode cX6_findTokens 16 = .ok (.iload_n 1, 1) := by decide +kernel
theorem dX6_findTokens_17 : decode cX6_findTokens 17 = .ok (.aload_n 0, 1) := by decide +kernel
theorem dX6_findTokens_18 : decode cX6_findTokens 18 = .ok (.getfield 24, 3) := by decide +kernel
theorem dX6_findTokens_21 : decode cX6_findTokens 21 = .ok (.if_icmp .ge 85, 3) := by decide +kernel
theorem dX6_findTokens_106 : decode cX6_findTokens 106 = .ok (.aload_n 0, 1) := by decide +kernel
theorem dX6_findTokens_107 : decode cX6_findTokens 107 = .ok (.bipush 54, 2) := by decide +kernel
theorem dX6_findTokens_109 : decode cX6_findTokens 109 = .ok (.aload_n 0, 1) := by decide +kernel
theorem dX6_findTokens_110 : decode cX6_findTokens 110 = .ok (.getfield 24, 3) := by decide +kernel
theorem dX6_findTokens_113 : decode cX6_findTokens 113 = .ok (.invokevirtual 48, 3) := by decide +kernel
theorem dX6_findTokens_116 : decode cX6_findTokens 116 = .ok (.return_, 1) := by decide +kernel
set_option maxHeartbeats 4000000 in
set_option maxRecDepth 100000 in
theorem k_copyState (l : Launch) (D : va_G) (cy : Nat → ClassId) (L : List Nat) (σ : Nat → va_E) (φ : Nat → Nat → Nat → Int32) (ρ : Nat → Nat → Int32) {a b la wo sp li te la' wo' sp' li' te' : Nat} {g g' : Nat → Option Nat} (hs : zState cy L σ a la wo sp li te g) (hs' : zState cy L σ b la' wo' sp' li' te' g') (hz : φ 10 9 wo = 0) (hz' : φ 10 9 wo' = 0) (hg : ∀ i, i < 30 → ∀ x, g i = some x → φ 10 9 x = 0) (hg' : ∀ i, i < 30 → ∀ x, g' i = some x → φ 10 9 x = 0) : zMV l D cy yX4_copyFrom cX4_copyFrom 3 (zrm 3 0 0) [.ref a, .ref b] L σ φ ρ (zsv L σ (fun φ' _ => φ' 10 9 wo = 0 ∧ φ' 10 9 wo' = 0)) := by
  refine zMV.mk (by decide) (Nat.le_of_ble_eq_true rfl) (fun E hE hI hret => ?_)
  show zW E 0 0 L σ φ ρ 0 [(0, .ref a), (1, .ref b)] []
  obtain ⟨hn, hla, hwo, hsp, hli, hte⟩ := id hs
  obtain ⟨hn', hla', hwo', hsp', hli', hte'⟩ := id hs'
  obtain ⟨_, hlaT⟩ := hla.at
  obtain ⟨_, hwoT⟩ := hwo.at
  obtain ⟨_, hspT⟩ := hsp.at
  obtain ⟨_, hliT⟩ := hli.at
  generalize hZ : (fun x : Nat => x = wo ∨ x = wo' ∨ (∃ i, i < 30 ∧ g i = some x) ∨ ∃ i, i < 30 ∧ g' i = some x) = Z
  have z0 : ∀ x, Z x → φ 10 9 x = 0 := by
    intro x hx; rw [← hZ] at hx; rcases hx with h | h | ⟨i, h1, h2⟩ | ⟨i, h1, h2⟩
    · rw [h]; exact hz
    · rw [h]; exact hz'
    · exact hg i h1 x h2
    · exact hg' i h1 x h2
  have zw : Z wo := by rw [← hZ]; exact Or.inl rfl
  have zw' : Z wo' := by rw [← hZ]; exact Or.inr (Or.inl rfl)
  refine x_aload_n hE dX4_copyFrom_0 rfl 0 rfl ?_
  refine h_getr hE hn rfl inZX4 0 (by decide) q361 rfl dX4_copyFrom_1 ?_
  refine x_aload_n hE dX4_copyFrom_4 rfl 1 rfl ?_
  refine h_getr hE hn' rfl inZX4 0 (by decide) q361 rfl dX4_copyFrom_5 ?_
  refine c_vs hE (r_V (st := []) hE (k_copyLand l D cy L σ φ ρ hla hla') q1362 q1363 q1364 q115 q1365 hlaT rfl ⟨by decide, by decide, pn_X0_copyFrom⟩ ⟨Nat.le_of_ble_eq_true rfl, Nat.le_of_ble_eq_true rfl⟩ ⟨Nat.le_of_ble_eq_true rfl, Nat.le_of_ble_eq_true rfl⟩ rfl (Nat.le_of_ble_eq_true rfl) dX4_copyFrom_8) (fun φ1 ρ1 hc1 => ?_)
  refine x_widen (k' := 0) (n' := 0) (Nat.le_of_ble_eq_true rfl) (Nat.le_of_ble_eq_true rfl) ?_
  have z1 : ∀ x, Z x → φ1 10 9 x = 0 := fun x hx => (hc1 10 9 x (by decide)).trans (z0 x hx)
  refine x_aload_n hE dX4_copyFrom_11 rfl 0 rfl ?_
  refine h_getr hE hn rfl inZX4 1 (by decide) q366 rfl dX4_copyFrom_12 ?_
  refine x_aload_n hE dX4_copyFrom_15 rfl 1 rfl ?_
  refine h_getr hE hn' rfl inZX4 1 (by decide) q366 rfl dX4_copyFrom_16 ?_
  refine c_vs hE (r_V (st := []) hE (k_copyWorld l D cy L σ φ1 ρ1 hwo hwo') q1367 q955 q956 q116 q957 hwoT rfl ⟨by decide, by decide, pn_X10_copyFrom⟩ ⟨Nat.le_of_ble_eq_true rfl, Nat.le_of_ble_eq_true rfl⟩ ⟨Nat.le_of_ble_eq_true rfl, Nat.le_of_ble_eq_true rfl⟩ rfl (Nat.le_of_ble_eq_true rfl) dX4_copyFrom_19) (fun φ2 ρ2 hc2 => ?_)
  refine x_widen (k' := 0) (n' := 0) (Nat.le_of_ble_eq_true rfl) (Nat.le_of_ble_eq_true rfl) ?_
  obtain ⟨hc2, hd2⟩ := hc2
  have z2 : ∀ x, Z x → φ2 10 9 x = 0 := fun x hx => if e : x = wo then (by subst e; rw [hd2 9 (by omega) (by omega)]; exact z1 wo' zw') else (hc2 10 9 x (Or.inr e)).trans (z1 x hx)
  refine x_aload_n hE dX4_copyFrom_22 rfl 0 rfl ?_
  refine h_getr hE hn rfl inZX4 2 (by decide) q370 rfl dX4_copyFrom_23 ?_
  refine x_aload_n hE dX4_copyFrom_26 rfl 1 rfl ?_
  refine h_getr hE hn' rfl inZX4 2 (by decide) q370 rfl dX4_copyFrom_27 ?_
  refine c_vs hE (r_V (st := []) hE (k_copySteps l D cy L σ φ2 ρ2 Z hsp hsp' (fun i hi x hx => by rw [← hZ]; exact Or.inr (Or.inr (Or.inl ⟨i, hi, hx⟩))) (fun i hi x hx => by rw [← hZ]; exact Or.inr (Or.inr (Or.inr ⟨i, hi, hx⟩))) z2) q1368 q1369 q1370 q117 q1371 hspT rfl ⟨by decide, by decide, pn_X5_copyFrom⟩ ⟨Nat.le_of_ble_eq_true rfl, Nat.le_of_ble_eq_true rfl⟩ ⟨Nat.le_of_ble_eq_true rfl, Nat.le_of_ble_eq_true rfl⟩ rfl (Nat.le_of_ble_eq_true rfl) dX4_copyFrom_30) (fun φ3 ρ3 hc3 => ?_)
  refine x_widen (k' := 0) (n' := 0) (Nat.le_of_ble_eq_true rfl) (Nat.le_of_ble_eq_true rfl) ?_
  obtain ⟨z3, hc3⟩ := hc3
  refine x_aload_n hE dX4_copyFrom_33 rfl 0 rfl ?_
  refine h_getr hE hn rfl inZX4 3 (by decide) q372 rfl dX4_copyFrom_34 ?_
  refine x_aload_n hE dX4_copyFrom_37 rfl 1 rfl ?_
  refine h_getr hE hn' rfl inZX4 3 (by decide) q372 rfl dX4_copyFrom_38 ?_
  refine c_vs hE (r_V (st := []) hE (k_copyLists l D cy L σ φ3 ρ3 hli hli') q1372 q1373 q1374 q118 q1375 hliT rfl ⟨by decide, by decide, pn_X1_copyFrom⟩ ⟨Nat.le_of_ble_eq_true rfl, Nat.le_of_ble_eq_true rfl⟩ ⟨Nat.le_of_ble_eq_true rfl, Nat.le_of_ble_eq_true rfl⟩ rfl (Nat.le_of_ble_eq_true rfl) dX4_copyFrom_41) (fun φ4 ρ4 hc4 => ?_)
  refine x_widen (k' := 0) (n' := 0) (Nat.le_of_ble_eq_true rfl) (Nat.le_of_ble_eq_true rfl) ?_
  have z4 : ∀ x, Z x → φ4 10 9 x = 0 := fun x hx => (hc4 10 9 x (by decide)).trans (z3 x hx)
  refine x_iconst (v := 0) hE dX4_copyFrom_44 (by decide) ?_
  refine x_istore_n (lv' := [(2, .int 0), (0, .ref a), (1, .ref b)]) hE dX4_copyFrom_45 rfl (by decide) rfl ?_
  refine x_iload_n hE dX4_copyFrom_46 rfl 0 rfl ?_
  refine x_iconst (v := 4) hE dX4_copyFrom_47 (by decide) ?_
  refine x_icmp_ge (tgt := 69) hE dX4_copyFrom_48 (by decide) (fun c_48 => absurd c_48 (by decide)) (fun c_48 => ?_)
  refine x_aload_n hE dX4_copyFrom_51 rfl 1 rfl ?_
  refine h_getr hE hn rfl inZX4 4 (by decide) q374 rfl dX4_copyFrom_52 ?_
  refine x_iload_n hE dX4_copyFrom_55 rfl 0 rfl ?_
  refine x_aload_n hE dX4_copyFrom_56 rfl 2 rfl ?_
  refine h_getr hE hn' rfl inZX4 4 (by decide) q374 rfl dX4_copyFrom_57 ?_
  refine x_iload_n hE dX4_copyFrom_60 rfl 0 rfl ?_
  refine h_aaldT hE hte' (by unfold vp_in; decide) dX4_copyFrom_61 ?_
  refine h_aastN (t0 := 3) hE hte rfl (by unfold vp_in; decide) rfl dX4_copyFrom_62 ?_
  refine x_iinc (v := 1) (lv' := [(2, .int 1), (0, .ref a), (1, .ref b)]) hE dX4_copyFrom_63 0 rfl (by decide) (by decide) rfl ?_
  refine x_goto (tgt := 46) hE dX4_copyFrom_66 (by decide) ?_
  refine x_iload_n hE dX4_copyFrom_46 rfl 0 rfl ?_
  refine x_iconst (v := 4) hE dX4_copyFrom_47 (by decide) ?_
  refine x_icmp_ge (tgt := 69) hE dX4_copyFrom_48 (by decide) (fun c_48 => absurd c_48 (by decide)) (fun c_48 => ?_)
  refine x_aload_n hE dX4_copyFrom_51 rfl 1 rfl ?_
  refine h_getr hE hn rfl inZX4 4 (by decide) q374 rfl dX4_copyFrom_52 ?_
  refine x_iload_n hE dX4_copyFrom_55 rfl 0 rfl ?_
  refine x_aload_n hE dX4_copyFrom_56 rfl 2 rfl ?_
  refine h_getr hE hn' rfl inZX4 4 (by decide) q374 rfl dX4_copyFrom_57 ?_
  refine x_iload_n hE dX4_copyFrom_60 rfl 0 rfl ?_
  refine h_aaldT hE hte' (by unfold vp_in; decide) dX4_copyFrom_61 ?_
  refine h_aastN (t0 := 3) hE hte rfl (by unfold vp_in; decide) rfl dX4_copyFrom_62 ?_
  refine x_iinc (v := 2) (lv' := [(2, .int 2), (0, .ref a), (1, .ref b)]) hE dX4_copyFrom_63 0 rfl (by decide) (by decide) rfl ?_
  refine x_goto (tgt := 46) hE dX4_copyFrom_66 (by decide) ?_
  refine x_iload_n hE dX4_copyFrom_46 rfl 0 rfl ?_
  refine x_iconst (v := 4) hE dX4_copyFrom_47 (by decide) ?_
  refine x_icmp_ge (tgt := 69) hE dX4_copyFrom_48 (by decide) (fun c_48 => absurd c_48 (by decide)) (fun c_48 => ?_)
  refine x_aload_n hE dX4_copyFrom_51 rfl 1 rfl ?_
  refine h_getr hE hn rfl inZX4 4 (by decide) q374 rfl dX4_copyFrom_52 ?_
  refine x_iload_n hE dX4_copyFrom_55 rfl 0 rfl ?_
  refine x_aload_n hE dX4_copyFrom_56 rfl 2 rfl ?_
  refine h_getr hE hn' rfl inZX4 4 (by decide) q374 rfl dX4_copyFrom_57 ?_
  refine x_iload_n hE dX4_copyFrom_60 rfl 0 rfl ?_
  refine h_aaldT hE hte' (by unfold vp_in; decide) dX4_copyFrom_61 ?_
  refine h_aastN (t0 := 3) hE hte rfl (by unfold vp_in; decide) rfl dX4_copyFrom_62 ?_
  refine x_iinc (v := 3) (lv' := [(2, .int 3), (0, .ref a), (1, .ref b)]) hE dX4_copyFrom_63 0 rfl (by decide) (by decide) rfl ?_
  refine x_goto (tgt := 46) hE dX4_copyFrom_66 (by decide) ?_
  refine x_iload_n hE dX4_copyFrom_46 rfl 0 rfl ?_
  refine x_iconst (v := 4) hE dX4_copyFrom_47 (by decide) ?_
  refine x_icmp_ge (tgt := 69) hE dX4_copyFrom_48 (by decide) (fun c_48 => absurd c_48 (by decide)) (fun c_48 => ?_)
  refine x_aload_n hE dX4_copyFrom_51 rfl 1 rfl ?_
  refine h_getr hE hn rfl inZX4 4 (by decide) q374 rfl dX4_copyFrom_52 ?_
  refine x_iload_n hE dX4_copyFrom_55 rfl 0 rfl ?_
  refine x_aload_n hE dX4_copyFrom_56 rfl 2 rfl ?_
  refine h_getr hE hn' rfl inZX4 4 (by decide) q374 rfl dX4_copyFrom_57 ?_
  refine x_iload_n hE dX4_copyFrom_60 rfl 0 rfl ?_
  refine h_aaldT hE hte' (by unfold vp_in; decide) dX4_copyFrom_61 ?_
  refine h_aastN (t0 := 3) hE hte rfl (by unfold vp_in; decide) rfl dX4_copyFrom_62 ?_
  refine x_iinc (v := 4) (lv' := [(2, .int 4), (0, .ref a), (1, .ref b)]) hE dX4_copyFrom_63 0 rfl (by decide) (by decide) rfl ?_
  refine x_goto (tgt := 46) hE dX4_copyFrom_66 (by decide) ?_
  refine x_iload_n hE dX4_copyFrom_46 rfl 0 rfl ?_
  refine x_iconst (v := 4) hE dX4_copyFrom_47 (by decide) ?_
  refine x_icmp_ge (tgt := 69) hE dX4_copyFrom_48 (by decide) (fun c_48 => ?_) (fun c_48 => absurd (by decide) c_48)
  refine x_aload_n hE dX4_copyFrom_69 rfl 1 rfl ?_
  refine x_aload_n hE dX4_copyFrom_70 rfl 2 rfl ?_
  refine h_geti hE hn' rfl inZX4 5 (by decide) q376 rfl dX4_copyFrom_71 ?_
  refine h_puti (ty := .int) (ty0 := tyX4) hE hn rfl inZX4 tyX4_ok nmX4 5 (by decide) q376 rfl rfl (by decide +kernel) rfl rfl dX4_copyFrom_74 ?_
  refine x_aload_n hE dX4_copyFrom_77 rfl 1 rfl ?_
  refine x_aload_n hE dX4_copyFrom_78 rfl 2 rfl ?_
  refine h_geti hE hn' rfl inZX4 6 (by decide) q378 rfl dX4_copyFrom_79 ?_
  refine x_norm (y := φ4 4 6 b) (by simp [zup]) ?_
  refine h_puti (ty := .int) (ty0 := tyX4) hE hn rfl inZX4 tyX4_ok nmX4 6 (by decide) q378 rfl rfl (by decide +kernel) rfl rfl dX4_copyFrom_82 ?_
  exact hret _ _ _ _ _ _ _ _ (Nat.le_of_ble_eq_true rfl) (Nat.le_of_ble_eq_true rfl) dX4_copyFrom_85 (⟨rfl, rfl, by simp [zup]; exact z4 wo zw, by simp [zup]; exact z4 wo' zw'⟩)
set_option maxHeartbeats 4000000 in
set_option maxRecDepth 100000 in
theorem o_image (l : Launch) (D : va_G) (cy : Nat → ClassId) (L : List Nat) (σ : Nat → va_E) (φ : Nat → Nat → Nat → Int32) (ρ : Nat → Nat → Int32) {x : Nat} (hx : zOR cy L σ φ x) : zMI l D cy yX11_image cX11_image 1 .int (zrm 4 0 0) [.ref x] L σ φ ρ (fun r _ => r = 0) := by
  refine zMI.mk (by decide) (Nat.le_of_ble_eq_true rfl) (fun E hE hret => ?_)
  show zW E 0 0 L σ φ ρ 0 [(0, .ref x)] []
  obtain ⟨now, kept, tape, reader, weather, planner, ways, la, wo, sp, li, te, g, la', wo', sp', li', te', g', hx, hs, hs0, hk, hk0, htp, htp0, hrd, hrd0, hrd1, hwe, hwe0, hpl, hwy⟩ := hx
  obtain ⟨hn, hla, hwo, hsp, hli, hte⟩ := id hs
  obtain ⟨p45, p46, p00, p01, p10, p50, p51, pl0, pl1, pl2, pg⟩ := id hs0
  obtain ⟨f0, f1, f2, f3, f4, f5, f6, f7, hL, hL0, hL1, hL2, hL3, hL4, hL5, hL6, hL7⟩ := id hla
  obtain ⟨w0, w1, w2, w3, w4, w5, w6, w7, hW, hW0, hW1, hW2, hW3, hW4, hW5, hW6, hW7⟩ := id hwo
  obtain ⟨s0, s1, hSp, hSp0, hSp1, hSpW⟩ := id hsp
  obtain ⟨i0, i1, i2, i3, i4, i5, i6, i7, hLi, hLi0, hLi1, hLi2, hLi3, hLi4, hLi5, hLi6, hLi7⟩ := id hli
  obtain ⟨t0, t1, t2, t3, hTp, hTp0, hTp1, hTp2, hTp3, hTn1, hTn2⟩ := id htp
  obtain ⟨hkT, -, -, -, -, -⟩ := id hk
  obtain ⟨-, -, -, -, pk10, -, -, -, -, -, pkg⟩ := id hk0
  refine x_aload_n hE dX11_image_0 rfl 0 rfl ?_
  refine h_getr hE hx rfl inZX11 1 (by decide) q557 rfl dX11_image_1 ?_
  refine x_aload_n hE dX11_image_4 rfl 0 rfl ?_
  refine h_getr hE hx rfl inZX11 0 (by decide) q556 rfl dX11_image_5 ?_
  refine c_vs hE (r_V (st := []) hE (k_copyState l D cy L σ φ ρ hk hs (by simpa using pk10 9) (by simpa using p10 9) pkg pg) q1358 q1359 q1360 q114 q1361 hkT rfl ⟨by decide, by decide, pn_X4_copyFrom⟩ ⟨Nat.le_of_ble_eq_true rfl, Nat.le_of_ble_eq_true rfl⟩ ⟨Nat.le_of_ble_eq_true rfl, Nat.le_of_ble_eq_true rfl⟩ rfl (Nat.le_of_ble_eq_true rfl) dX11_image_8) (fun φ1 ρ1 hc => ?_)
  refine x_widen (k' := 0) (n' := 0) (Nat.le_of_ble_eq_true rfl) (Nat.le_of_ble_eq_true rfl) ?_
  refine x_aload_n hE dX11_image_11 rfl 0 rfl ?_
  refine h_getr hE hx rfl inZX11 0 (by decide) q556 rfl dX11_image_12 ?_
  refine h_getr hE hn rfl inZX4 1 (by decide) q369 rfl dX11_image_15 ?_
  refine h_geti hE hW rfl inZX10 9 (by decide) q249 rfl dX11_image_18 ?_
  refine x_norm (y := 0) (hc.2) ?_
  exact hret _ _ _ _ _ _ _ _ (0) (Nat.le_of_ble_eq_true rfl) (Nat.le_of_ble_eq_true rfl) dX11_image_21 (rfl) (rfl)
set_option maxHeartbeats 4000000 in
set_option maxRecDepth 100000 in
theorem o_back (l : Launch) (D : va_G) (cy : Nat → ClassId) (L : List Nat) (σ : Nat → va_E) (φ : Nat → Nat → Nat → Int32) (ρ : Nat → Nat → Int32) {x : Nat} (hx : zOR cy L σ φ x) : zMI l D cy yX11_back cX11_back 1 .int (zrm 4 0 0) [.ref x] L σ φ ρ (fun r _ => r = 0) := by
  refine zMI.mk (by decide) (Nat.le_of_ble_eq_true rfl) (fun E hE hret => ?_)
  show zW E 0 0 L σ φ ρ 0 [(0, .ref x)] []
  obtain ⟨now, kept, tape, reader, weather, planner, ways, la, wo, sp, li, te, g, la', wo', sp', li', te', g', hx, hs, hs0, hk, hk0, htp, htp0, hrd, hrd0, hrd1, hwe, hwe0, hpl, hwy⟩ := hx
  obtain ⟨hn, hla, hwo, hsp, hli, hte⟩ := id hs
  obtain ⟨p45, p46, p00, p01, p10, p50, p51, pl0, pl1, pl2, pg⟩ := id hs0
  obtain ⟨f0, f1, f2, f3, f4, f5, f6, f7, hL, hL0, hL1, hL2, hL3, hL4, hL5, hL6, hL7⟩ := id hla
  obtain ⟨w0, w1, w2, w3, w4, w5, w6, w7, hW, hW0, hW1, hW2, hW3, hW4, hW5, hW6, hW7⟩ := id hwo
  obtain ⟨s0, s1, hSp, hSp0, hSp1, hSpW⟩ := id hsp
  obtain ⟨i0, i1, i2, i3, i4, i5, i6, i7, hLi, hLi0, hLi1, hLi2, hLi3, hLi4, hLi5, hLi6, hLi7⟩ := id hli
  obtain ⟨t0, t1, t2, t3, hTp, hTp0, hTp1, hTp2, hTp3, hTn1, hTn2⟩ := id htp
  obtain ⟨hkT, -, -, -, -, -⟩ := id hk
  obtain ⟨-, -, -, -, pk10, -, -, -, -, -, pkg⟩ := id hk0
  refine x_aload_n hE dX11_back_0 rfl 0 rfl ?_
  refine h_getr hE hx rfl inZX11 0 (by decide) q556 rfl dX11_back_1 ?_
  refine x_aload_n hE dX11_back_4 rfl 0 rfl ?_
  refine h_getr hE hx rfl inZX11 1 (by decide) q557 rfl dX11_back_5 ?_
  refine c_vs hE (r_V (st := []) hE (k_copyState l D cy L σ φ ρ hs hk (by simpa using p10 9) (by simpa using pk10 9) pg pkg) q1358 q1359 q1360 q114 q1361 hn rfl ⟨by decide, by decide, pn_X4_copyFrom⟩ ⟨Nat.le_of_ble_eq_true rfl, Nat.le_of_ble_eq_true rfl⟩ ⟨Nat.le_of_ble_eq_true rfl, Nat.le_of_ble_eq_true rfl⟩ rfl (Nat.le_of_ble_eq_true rfl) dX11_back_8) (fun φ1 ρ1 hc => ?_)
  refine x_widen (k' := 0) (n' := 0) (Nat.le_of_ble_eq_true rfl) (Nat.le_of_ble_eq_true rfl) ?_
  refine x_aload_n hE dX11_back_11 rfl 0 rfl ?_
  refine h_getr hE hx rfl inZX11 0 (by decide) q556 rfl dX11_back_12 ?_
  refine h_getr hE hn rfl inZX4 1 (by decide) q369 rfl dX11_back_15 ?_
  refine h_geti hE hW rfl inZX10 9 (by decide) q249 rfl dX11_back_18 ?_
  refine x_norm (y := 0) (hc.1) ?_
  exact hret _ _ _ _ _ _ _ _ (0) (Nat.le_of_ble_eq_true rfl) (Nat.le_of_ble_eq_true rfl) dX11_back_21 (rfl) (rfl)
set_option maxHeartbeats 4000000 in
set_option maxRecDepth 100000 in
theorem k_addToken (l : Launch) (D : va_G) (cy : Nat → ClassId) (L : List Nat) (σ : Nat → va_E) (φ : Nat → Nat → Nat → Int32) (ρ : Nat → Nat → Int32) {t : Nat} (v p : Int32) (htp : zTape cy L σ t) (h1 : φ 6 1 t = 0) : zMV l D cy yX6_addToken cX6_addToken 3 (zrm 0 0 0) [.ref t, .int v, .int p] L σ φ ρ (zsv L σ (fun φ' ρ' => φ' = zup φ 6 1 t 1 ∧ ∀ t0 t1 t2 t3, zT L σ t (.inr (6, [.int 0, .int 0, .ref t0, .ref t1, .ref t2, .ref t3])) → ρ' t0 0 = v)) := by
  refine zMV.mk (by decide) (Nat.le_of_ble_eq_true rfl) (fun E hE hI hret => ?_)
  show zW E 0 0 L σ φ ρ 0 [(0, .ref t), (1, .int v), (2, .int p)] []
  obtain ⟨t0, t1, t2, t3, ht, ht0, ht1, ht2, ht3, n1, n2⟩ := id htp
  refine x_aload_n hE dX6_addToken_0 rfl 0 rfl ?_
  refine h_geti hE ht rfl inZX6 1 (by decide) q404 rfl dX6_addToken_1 ?_
  refine x_norm (y := 0) (h1) ?_
  refine x_sipush (v := 300) hE dX6_addToken_4 (by decide) ?_
  refine x_icmp_gt (tgt := 50) hE dX6_addToken_7 (by decide) (fun c_7 => absurd c_7 (by decide)) (fun c_7 => ?_)
  refine x_aload_n hE dX6_addToken_10 rfl 0 rfl ?_
  refine h_getr hE ht rfl inZX6 2 (by decide) q406 rfl dX6_addToken_11 ?_
  refine x_aload_n hE dX6_addToken_14 rfl 0 rfl ?_
  refine h_geti hE ht rfl inZX6 1 (by decide) q404 rfl dX6_addToken_15 ?_
  refine x_norm (y := 0) (h1) ?_
  refine x_iload_n hE dX6_addToken_18 rfl 1 rfl ?_
  refine h_iast hE ht0 (by unfold vp_in; decide) dX6_addToken_19 ?_
  refine x_aload_n hE dX6_addToken_20 rfl 0 rfl ?_
  refine h_getr hE ht rfl inZX6 4 (by decide) q410 rfl dX6_addToken_21 ?_
  refine x_aload_n hE dX6_addToken_24 rfl 0 rfl ?_
  refine h_geti hE ht rfl inZX6 1 (by decide) q404 rfl dX6_addToken_25 ?_
  refine x_norm (y := 0) (h1) ?_
  refine x_iload_n hE dX6_addToken_28 rfl 2 rfl ?_
  refine h_iast hE ht2 (by unfold vp_in; decide) dX6_addToken_29 ?_
  refine x_aload_n hE dX6_addToken_30 rfl 0 rfl ?_
  refine h_getr hE ht rfl inZX6 3 (by decide) q408 rfl dX6_addToken_31 ?_
  refine x_aload_n hE dX6_addToken_34 rfl 0 rfl ?_
  refine h_geti hE ht rfl inZX6 1 (by decide) q404 rfl dX6_addToken_35 ?_
  refine x_norm (y := 0) (h1) ?_
  refine x_iconst (v := 0) hE dX6_addToken_38 (by decide) ?_
  refine h_iast hE ht1 (by unfold vp_in; decide) dX6_addToken_39 ?_
  refine x_aload_n hE dX6_addToken_40 rfl 0 rfl ?_
  refine x_dup hE dX6_addToken_41 rfl ?_
  refine h_geti hE ht rfl inZX6 1 (by decide) q404 rfl dX6_addToken_42 ?_
  refine x_norm (y := 0) (h1) ?_
  refine x_iconst (v := 1) hE dX6_addToken_45 (by decide) ?_
  refine x_iadd hE dX6_addToken_46 ?_
  refine x_norm (y := 1) (by decide) ?_
  refine h_puti (ty := .int) (ty0 := tyX6) hE ht rfl inZX6 tyX6_ok nmX6 1 (by decide) q404 rfl rfl (by decide +kernel) rfl rfl dX6_addToken_47 ?_
  exact hret _ _ _ _ _ _ _ _ (Nat.le_of_ble_eq_true rfl) (Nat.le_of_ble_eq_true rfl) dX6_addToken_50 (⟨rfl, rfl, rfl, fun u0 u1 u2 u3 hu => by have e := hu.2.symm.trans ht.2; simp only [Sum.inr.injEq, Prod.mk.injEq, List.cons.injEq, Value.ref.injEq, true_and, and_true] at e; obtain ⟨rfl, rfl, rfl, rfl⟩ := e; simp [va_up, upd, n1, n2]⟩)
set_option maxHeartbeats 4000000 in
set_option maxRecDepth 100000 in
theorem k_findTokens (l : Launch) (D : va_G) (cy : Nat → ClassId) (L : List Nat) (σ : Nat → va_E) (φ : Nat → Nat → Nat → Int32) (ρ : Nat → Nat → Int32) {t : Nat} (htp : zTape cy L σ t) (h0 : φ 6 0 t = 0) : zMV l D cy yX6_findTokens cX6_findTokens 3 (zrm 1 0 0) [.ref t] L σ φ ρ (zsv L σ (fun φ' ρ' => φ' = zup (zup φ 6 1 t 0) 6 1 t 1 ∧ ∀ t0 t1 t2 t3, zT L σ t (.inr (6, [.int 0, .int 0, .ref t0, .ref t1, .ref t2, .ref t3])) → ρ' t0 0 = 54)) := by
  refine zMV.mk (by decide) (Nat.le_of_ble_eq_true rfl) (fun E hE hI hret => ?_)
  show zW E 0 0 L σ φ ρ 0 [(0, .ref t)] []
  obtain ⟨t0, t1, t2, t3, ht, ht0, ht1, ht2, ht3, n1, n2⟩ := id htp
  refine x_aload_n hE dX6_findTokens_0 rfl 0 rfl ?_
  refine x_iconst (v := 0) hE dX6_findTokens_1 (by decide) ?_
  refine h_puti (ty := .int) (ty0 := tyX6) hE ht rfl inZX6 tyX6_ok nmX6 1 (by decide) q404 rfl rfl (by decide +kernel) rfl rfl dX6_findTokens_2 ?_
  refine x_iconst (v := 0) hE dX6_findTokens_5 (by decide) ?_
  refine x_istore_n (lv' := [(1, .int 0), (0, .ref t)]) hE dX6_findTokens_6 rfl (by decide) rfl ?_
  refine x_iconst (v := 0) hE dX6_findTokens_7 (by decide) ?_
  refine x_istore_n (lv' := [(2, .int 0), (1, .int 0), (0, .ref t)]) hE dX6_findTokens_8 rfl (by decide) rfl ?_
  refine x_iload_n hE dX6_findTokens_9 rfl 0 rfl ?_
  refine x_sipush (v := 300) hE dX6_findTokens_10 (by decide) ?_
  refine x_icmp_ge (tgt := 106) hE dX6_findTokens_13 (by decide) (fun c_13 => absurd c_13 (by decide)) (fun c_13 => ?_)
  refine x_iload_n hE dX6_findTokens_16 rfl 1 rfl ?_
  refine x_aload_n hE dX6_findTokens_17 rfl 2 rfl ?_
  refine h_geti hE ht rfl inZX6 0 (by decide) q401 rfl dX6_findTokens_18 ?_
  refine x_norm (y := 0) (by simp [zup]; exact h0) ?_
  refine x_icmp_ge (tgt := 106) hE dX6_findTokens_21 (by decide) (fun c_21 => ?_) (fun c_21 => absurd (by decide) c_21)
  refine x_aload_n hE dX6_findTokens_106 rfl 2 rfl ?_
  refine x_bipush (v := 54) hE dX6_findTokens_107 (by decide) ?_
  refine x_aload_n hE dX6_findTokens_109 rfl 2 rfl ?_
  refine h_geti hE ht rfl inZX6 0 (by decide) q401 rfl dX6_findTokens_110 ?_
  refine x_norm (y := 0) (by simp [zup]; exact h0) ?_
  refine c_vs hE (r_V (st := []) hE (k_addToken l D cy L σ (zup φ 6 1 t (0)) ρ 54 0 htp (by simp [zup])) q768 q770 q2 q119 q771 ht rfl ⟨by decide, by decide, pn_X6_addToken⟩ ⟨Nat.le_of_ble_eq_true rfl, Nat.le_of_ble_eq_true rfl⟩ ⟨Nat.le_of_ble_eq_true rfl, Nat.le_of_ble_eq_true rfl⟩ rfl (Nat.le_of_ble_eq_true rfl) dX6_findTokens_113) (fun φ1 ρ1 hc => ?_)
  refine x_widen (k' := 0) (n' := 0) (Nat.le_of_ble_eq_true rfl) (Nat.le_of_ble_eq_true rfl) ?_
  exact hret _ _ _ _ _ _ _ _ (Nat.le_of_ble_eq_true rfl) (Nat.le_of_ble_eq_true rfl) dX6_findTokens_116 (⟨rfl, rfl, hc⟩)
