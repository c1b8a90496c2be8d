theorem dX11_text_0 : decode cX11_text 0 = .ok (.aload_n 0, 1) := by decide +kernel
theorem dX11_text_1 : decode cX11_text 1 = .ok (.getfield 10, 3) := by decide +kernel
theorem dX11_text_4 : decode cX11_text 4 = .ok (.getfield 114, 3) := by decide +kernel
theorem dX11_text_7 : decode cX11_text 7 = .ok (.iconst 4, 1) := by decide +kernel
theorem dX11_text_8 : decode cX11_text 8 = .ok (.if_icmp .lt 5, 3) := by decide +kernel
theorem dX11_text_13 : decode cX11_text 13 = .ok (.aload_n 0, 1) := by decide +kernel
theorem dX11_text_14 : decode cX11_text 14 = .ok (.getfield 31, 3) := by decide +kernel
theorem dX11_text_17 : decode cX11_text 17 = .ok (.invokevirtual 117, 3) := by decide +kernel
theorem dX11_text_20 : decode cX11_text 20 = .ok (.astore_n 1, 1) := by decide +kernel
theorem dX11_text_21 : decode cX11_text 21 = .ok (.aload_n 1, 1) := by decide +kernel
theorem dX11_text_22 : decode cX11_text 22 = .ok (.ifnonnull 5, 3) := by decide +kernel
theorem dX11_text_27 : decode cX11_text 27 = .ok (.aload_n 0, 1) := by decide +kernel
theorem dX11_text_28 : decode cX11_text 28 = .ok (.getfield 10, 3) := by decide +kernel
theorem dX11_text_31 : decode cX11_text 31 = .ok (.aload_n 1, 1) := by decide +kernel
theorem dX11_text_32 : decode cX11_text 32 = .ok (.invokevirtual 121, 3) := by decide +kernel
theorem dX11_text_35 : decode cX11_text 35 = .ok (.ireturn, 1) := by decide +kernel
theorem dX3_readTape_0 : decode cX3_readTape 0 = .ok (.aload_n 0, 1) := by decide +kernel
theorem dX3_readTape_1 : decode cX3_readTape 1 = .ok (.iconst 0, 1) := by decide +kernel
theorem dX3_readTape_2 : decode cX3_readTape 2 = .ok (.putfield 9, 3) := by decide +kernel
theorem dX3_readTape_5 : decode cX3_readTape 5 = .ok (.aload_n 0, 1) := by decide +kernel
theorem dX3_readTape_6 : decode cX3_readTape 6 = .ok (.iconst (-1), 1) := by decide +kernel
theorem dX3_readTape_7 : decode cX3_readTape 7 = .ok (.putfield 15, 3) := by decide +kernel
theorem dX3_readTape_10 : decode cX3_readTape 10 = .ok (.aload_n 0, 1) := by decide +kernel
theorem dX3_readTape_11 : decode cX3_readTape 11 = .ok (.new 22, 3) := by decide +kernel
theorem dX3_readTape_14 : decode cX3_readTape 14 = .ok (.dup, 1) := by decide +kernel
theorem dX3_readTape_15 : decode cX3_readTape 15 = .ok (.invokespecial 24, 3) := by decide +kernel
theorem dX3_readTape_18 : decode cX3_readTape 18 = .ok (.putfield 25, 3) := by decide +kernel
theorem dX3_readTape_21 : decode cX3_readTape 21 = .ok (.aload_n 0, 1) := by decide +kernel
theorem dX3_readTape_22 : decode cX3_readTape 22 = .ok (.getfield 18, 3) := by decide +kernel
theorem dX3_readTape_25 : decode cX3_readTape 25 = .ok (.invokevirtual 29, 3) := by decide +kernel
theorem dX3_readTape_28 : decode cX3_readTape 28 = .ok (.aload_n 0, 1) := by decide +kernel
theorem dX3_readTape_29 : decode cX3_readTape 29 = .ok (.iconst 0, 1) := by decide +kernel
theorem dX3_readTape_30 : decode cX3_readTape 30 = .ok (.putfield 34, 3) := by decide +kernel
theorem dX3_readTape_33 : decode cX3_readTape 33 = .ok (.aload_n 0, 1) := by decide +kernel
theorem dX3_readTape_34 : decode cX3_readTape 34 = .ok (.aload_n 0, 1) := by decide +kernel
theorem dX3_readTape_35 : decode cX3_readTape 35 = .ok (.getfield 18, 3) := by decide +kernel
theorem dX3_readTape_38 : decode cX3_readTape 38 = .ok (.getfield 37, 3) := by decide +kernel
theorem dX3_readTape_41 : decode cX3_readTape 41 = .ok (.iconst 0, 1) := by decide +kernel
theorem dX3_readTape_42 : decode cX3_readTape 42 = .ok (.iaload, 1) := by decide +kernel
theorem dX3_readTape_43 : decode cX3_readTape 43 = .ok (.putfield 41, 3) := by decide +kernel
theorem dX3_readTape_46 : decode cX3_readTape 46 = .ok (.iconst 0, 1) := by decide +kernel
theorem dX3_readTape_47 : decode cX3_readTape 47 = .ok (.istore_n 1, 1) := by decide +kernel
theorem dX3_readTape_48 : decode cX3_readTape 48 = .ok (.iload_n 1, 1) := by decide +kernel
theorem dX3_readTape_49 : decode cX3_readTape 49 = .ok (.bipush 24, 2) := by decide +kernel
theorem dX3_readTape_51 : decode cX3_readTape 51 = .ok (.if_icmp .gt 30, 3) := by decide +kernel
theorem dX3_readTape_54 : decode cX3_readTape 54 = .ok (.aload_n 0, 1) := by decide +kernel
theorem dX3_readTape_55 : decode cX3_readTape 55 = .ok (.getfield 9, 3) := by decide +kernel
theorem dX3_readTape_58 : decode cX3_readTape 58 = .ok (.ifCond .ne 23, 3) := by decide +kernel
theorem dX3_readTape_61 : decode cX3_readTape 61 = .ok (.aload_n 0, 1) := by decide +kernel
theorem dX3_readTape_62 : decode cX3_readTape 62 = .ok (.getfield 41, 3) := by decide +kernel
theorem dX3_readTape_65 : decode cX3_readTape 65 = .ok (.bipush 54, 2) := by decide +kernel
theorem dX3_readTape_67 : decode cX3_readTape 67 = .ok (.if_icmp .eq 14, 3) := by decide +kernel
theorem dX3_readTape_81 : decode cX3_readTape 81 = .ok (.aload_n 0, 1) := by decide +kernel
theorem dX3_readTape_82 : decode cX3_readTape 82 = .ok (.getfield 18, 3) := by decide +kernel
theorem dX3_readTape_85 : decode cX3_readTape 85 = .ok (.iconst 0, 1) := by decide +kernel
theorem dX3_readTape_86 : decode cX3_readTape 86 = .ok (.putfield 47, 3) := by decide +kernel
theorem dX3_readTape_89 : decode cX3_readTape 89 = .ok (.aload_n 0, 1) := by decide +kernel
theorem dX3_readTape_90 : decode cX3_readTape 90 = .ok (.getfield 9, 3) := by decide +kernel
theorem dX3_readTape_93 : decode cX3_readTape 93 = .ok (.ifCond .ne 10, 3) := by decide +kernel
theorem dX3_readTape_96 : decode cX3_readTape 96 = .ok (.aload_n 0, 1) := by decide +kernel
theorem dX3_readTape_97 : decode cX3_readTape 97 = .ok (.getfield 25, 3) := by decide +kernel
theorem dX3_readTape_100 : decode cX3_readTape 100 = .ok (.goto 4, 3) := by decide +kernel
theorem dX3_readTape_104 : decode cX3_readTape 104 = .ok (.areturn, 1) := by decide +kernel
theorem dX4_addText_0 : decode cX4_addText 0 = .ok (.aload_n 0, 1) := by decide +kernel
theorem dX4_addText_1 : decode cX4_addText 1 = .ok (.getfield 41, 3) := by decide +kernel
theorem dX4_addText_4 : decode cX4_addText 4 = .ok (.aload_n 0, 1) := by decide +kernel
theorem dX4_addText_5 : decode cX4_addText 5 = .ok (.getfield 49, 3) := by decide +kernel
theorem dX4_addText_8 : decode cX4_addText 8 = .ok (.aload_n 1, 1) := by decide +kernel
theorem dX4_addText_9 : decode cX4_addText 9 = .ok (.aastore, 1) := by decide +kernel
theorem dX4_addText_10 : decode cX4_addText 10 = .ok (.aload_n 0, 1) := by decide +kernel
theorem dX4_addText_11 : decode cX4_addText 11 = .ok (.dup, 1) := by decide +kernel
theorem dX4_addText_12 : decode cX4_addText 12 = .ok (.getfield 49, 3) := by decide +kernel
theorem dX4_addText_15 : decode cX4_addText 15 = .ok (.dup_x1, 1) := by decide +kernel
theorem dX4_addText_16 : decode cX4_addText 16 = .ok (.iconst 1, 1) := by decide +kernel
theorem dX4_addText_17 : decode cX4_addText 17 = .ok (.iadd, 1) := by decide +kernel
theorem dX4_addText_18 : decode cX4_addText 18 = .ok (.putfield 49, 3) := by decide +kernel
theorem dX4_addText_21 : decode cX4_addText 21 = .ok (.ireturn, 1) := by decide +kernel
theorem zText.g3 {cy : Nat → ClassId} {L L1 : List Nat} {σ σ1 : Nat → va_E} {φ φ1 : Nat → Nat → Nat → Int32} {a c : Nat} (h : zText cy L σ a) (hg : zG c L σ φ L1 σ1 φ1) (hc : 7 ≠ c := by decide) : zText cy L1 σ1 a := by
  obtain ⟨a0, a1, a2, a3, a4, a5, a6, a7, a8, a9, h, h0, h1, h2, h3, h4, h5, h6, h7, h8, h9⟩ := h
  exact ⟨a0, a1, a2, a3, a4, a5, a6, a7, a8, a9, hg.T h (z_cls hc), hg.T h0 z_arr, hg.T h1 z_arr, hg.T h2 z_arr, hg.T h3 z_arr, hg.T h4 z_arr, hg.T h5 z_arr, hg.T h6 z_arr, hg.T h7 z_arr, hg.T h8 z_arr, hg.T h9 z_arr⟩
set_option maxHeartbeats 4000000 in
set_option maxRecDepth 100000 in
theorem k_readTape (l : Launch) (D : va_G) (cy : Nat → ClassId) (L : List Nat) (σ : Nat → va_E) (φ : Nat → Nat → Nat → Int32) (ρ : Nat → Nat → Int32) {r t : Nat} (hrd : zReader L σ r t) (htp : zTape cy L σ t) (h0 : φ 6 0 t = 0) : zMR l D cy yX3_readTape cX3_readTape 2 (.object "OwnRain$Text") (zrm 3 11 1329) [.ref r] L σ φ ρ (fun q u => zText cy u.1 u.2.1 q ∧ (∀ b e, zT L σ b e → (∀ S, e ≠ .inr (3, S)) → zT u.1 u.2.1 b e) ∧ ∀ b S i, zT L σ b (.inr (4, S)) → u.2.2.1 4 i b = φ 4 i b) := by
  refine zMR.mk (by decide) (Nat.le_of_ble_eq_true rfl) (Or.inl ⟨_, rfl⟩) (fun E hE hret => ?_)
  show zW E 0 0 L σ φ ρ 0 [(0, .ref r)] []
  have hr := hrd
  refine x_aload_n hE dX3_readTape_0 rfl 0 rfl ?_
  refine x_iconst (v := 0) hE dX3_readTape_1 (by decide) ?_
  refine h_puti (ty := .int) (ty0 := tyX3) hE hr rfl inZX3 tyX3_ok nmX3 0 (by decide) q432 rfl rfl (by decide +kernel) rfl rfl dX3_readTape_2 ?_
  refine x_aload_n hE dX3_readTape_5 rfl 0 rfl ?_
  refine x_iconst (v := -1) hE dX3_readTape_6 (by decide) ?_
  refine h_puti (ty := .int) (ty0 := tyX3) hE hr rfl inZX3 tyX3_ok nmX3 1 (by decide) q434 rfl rfl (by decide +kernel) rfl rfl dX3_readTape_7 ?_
  refine x_aload_n hE dX3_readTape_10 rfl 0 rfl ?_
  refine h_new (ci := 7) (fs := [.int 0, .null, .null, .null, .null, .int 0, .null, .null, .int 0, .null, .null, .null, .null]) (ty0 := tyX7) hE rfl inZX7 tyX7_ok q637 q638 q125 (by decide +kernel) rfl (fun c i => by by_cases hc : 7 = c <;> simp [zfI, hc] <;> (rcases i with _ | _ | _ | _ | _ | _ | _ | _ | _ | _ | _ | _ | _ | _ | _ | i <;> rfl)) (Nat.le_of_ble_eq_true rfl) (Nat.le_of_ble_eq_true rfl) dX3_readTape_11 (fun q L1 σ1 φ1 ρ1 hnq hx1 hq1 hp1 => ?_)
  refine x_dup hE dX3_readTape_14 rfl ?_
  refine c_v hE (r_IN (st := [.ref q, .ref r]) hE (k_Text l D cy L1 σ1 φ1 ρ1 hq1) (by decide +kernel) q640 q125 q641 rfl ⟨by decide, by decide, pn_X7_init⟩ ⟨Nat.le_of_ble_eq_true rfl, Nat.le_of_ble_eq_true rfl⟩ ⟨Nat.le_of_ble_eq_true rfl, Nat.le_of_ble_eq_true rfl⟩ rfl (Nat.le_of_ble_eq_true rfl) dX3_readTape_15) (fun L2 σ2 φ2 ρ2 h2 => ?_)
  refine x_widen (k' := 11) (n' := 1329) (Nat.le_of_ble_eq_true rfl) (Nat.le_of_ble_eq_true rfl) ?_
  obtain ⟨hX2, hT2, hf2⟩ := h2
  dsimp only at hX2 hT2 hf2
  have hr2 := zN.T hx1 hnq hX2 hr
  refine x_putr (ty := .object "OwnRain$Text") (ty0 := tyX3) (j0 := 3) hE (Or.inr rfl) hr2 rfl inZX3 tyX3_ok nmX3 (by decide) q437 ⟨_, rfl, Or.inl rfl⟩ (by decide +kernel) rfl rfl dX3_readTape_18 (fun σ3 hx3 hr3 => ?_)
  have hr3 : zT L2 σ3 r (.inr (3, [.int 0, .int 0, .ref t, .ref q, .int 0, .int 0, .int 0])) := hr3
  have G := (zN.g (c := 3) hx1 hnq hX2).tr (hx3.g hr2)
  have htp3 := htp.g G (by decide)
  have hT3 := hT2.g3 (hx3.g hr2)
  have h60 : φ2 6 0 t = 0 := by rw [G.o htp.at (by decide)]; simp [zup]; exact h0
  have h30 : φ2 3 0 r = 0 := by rw [(zN.all hx1 hnq hX2 hr.1).2.2 3 0]; simp [zup]
  obtain ⟨t0, t1, t2, t3, ht3, ht30, -, -, -, -, -⟩ := id htp3
  refine x_aload_n hE dX3_readTape_21 rfl 0 rfl ?_
  refine h_getr hE hr3 rfl inZX3 2 (by decide) q436 rfl dX3_readTape_22 ?_
  refine c_vs hE (r_V (st := []) hE (k_findTokens l D cy L2 σ3 φ2 ρ2 htp3 h60) q703 q704 q705 q119 q706 ht3 rfl ⟨by decide, by decide, pn_X6_findTokens⟩ ⟨Nat.le_of_ble_eq_true rfl, Nat.le_of_ble_eq_true rfl⟩ ⟨Nat.le_of_ble_eq_true rfl, Nat.le_of_ble_eq_true rfl⟩ rfl (Nat.le_of_ble_eq_true rfl) dX3_readTape_25) (fun φ3 ρ3 hk => ?_)
  refine x_widen (k' := 11) (n' := 1329) (Nat.le_of_ble_eq_true rfl) (Nat.le_of_ble_eq_true rfl) ?_
  obtain ⟨hk1, hk2⟩ := hk
  subst hk1
  refine x_aload_n hE dX3_readTape_28 rfl 0 rfl ?_
  refine x_iconst (v := 0) hE dX3_readTape_29 (by decide) ?_
  refine h_puti (ty := .int) (ty0 := tyX3) hE hr3 rfl inZX3 tyX3_ok nmX3 5 (by decide) q439 rfl rfl (by decide +kernel) rfl rfl dX3_readTape_30 ?_
  refine x_aload_n hE dX3_readTape_33 rfl 0 rfl ?_
  refine x_aload_n hE dX3_readTape_34 rfl 0 rfl ?_
  refine h_getr hE hr3 rfl inZX3 2 (by decide) q436 rfl dX3_readTape_35 ?_
  refine h_getr hE ht3 rfl inZX6 2 (by decide) q407 rfl dX3_readTape_38 ?_
  refine x_iconst (v := 0) hE dX3_readTape_41 (by decide) ?_
  refine h_iald hE ht30 (by unfold vp_in; decide) dX3_readTape_42 ?_
  refine x_norm (y := 54) (hk2 t0 t1 t2 t3 ht3) ?_
  refine h_puti (ty := .int) (ty0 := tyX3) hE hr3 rfl inZX3 tyX3_ok nmX3 6 (by decide) q440 rfl rfl (by decide +kernel) rfl rfl dX3_readTape_43 ?_
  refine x_iconst (v := 0) hE dX3_readTape_46 (by decide) ?_
  refine x_istore_n (lv' := [(1, .int 0), (0, .ref r)]) hE dX3_readTape_47 rfl (by decide) rfl ?_
  refine x_iload_n hE dX3_readTape_48 rfl 0 rfl ?_
  refine x_bipush (v := 24) hE dX3_readTape_49 (by decide) ?_
  refine x_icmp_gt (tgt := 81) hE dX3_readTape_51 (by decide) (fun c_51 => absurd c_51 (by decide)) (fun c_51 => ?_)
  refine x_aload_n hE dX3_readTape_54 rfl 1 rfl ?_
  refine h_geti hE hr3 rfl inZX3 0 (by decide) q432 rfl dX3_readTape_55 ?_
  refine x_norm (y := 0) (by simp [zup]; exact h30) ?_
  refine x_if_ne (tgt := 81) hE dX3_readTape_58 (by decide) (fun c_58 => absurd c_58 (fun h => h (by decide))) (fun c_58 => ?_)
  refine x_aload_n hE dX3_readTape_61 rfl 1 rfl ?_
  refine h_geti hE hr3 rfl inZX3 6 (by decide) q440 rfl dX3_readTape_62 ?_
  refine x_norm (y := 54) (by simp [zup]) ?_
  refine x_bipush (v := 54) hE dX3_readTape_65 (by decide) ?_
  refine x_icmp_eq (tgt := 81) hE dX3_readTape_67 (by decide) (fun c_67 => ?_) (fun c_67 => absurd (by decide) c_67)
  refine x_aload_n hE dX3_readTape_81 rfl 1 rfl ?_
  refine h_getr hE hr3 rfl inZX3 2 (by decide) q436 rfl dX3_readTape_82 ?_
  refine x_iconst (v := 0) hE dX3_readTape_85 (by decide) ?_
  refine h_puti (ty := .int) (ty0 := tyX6) hE ht3 rfl inZX6 tyX6_ok nmX6 0 (by decide) q402 rfl rfl (by decide +kernel) rfl rfl dX3_readTape_86 ?_
  refine x_aload_n hE dX3_readTape_89 rfl 1 rfl ?_
  refine h_geti hE hr3 rfl inZX3 0 (by decide) q432 rfl dX3_readTape_90 ?_
  refine x_norm (y := 0) (by simp [zup]; exact h30) ?_
  refine x_if_ne (tgt := 103) hE dX3_readTape_93 (by decide) (fun c_93 => absurd c_93 (fun h => h (by decide))) (fun c_93 => ?_)
  refine x_aload_n hE dX3_readTape_96 rfl 1 rfl ?_
  refine h_getr hE hr3 rfl inZX3 3 (by decide) q437 rfl dX3_readTape_97 ?_
  refine x_goto (tgt := 104) hE dX3_readTape_100 (by decide) ?_
  exact hret _ _ _ _ _ _ _ _ (q) (Nat.le_of_ble_eq_true rfl) (Nat.le_of_ble_eq_true rfl) dX3_readTape_104 (⟨hT3, fun b e hb hn => G.T hb hn, fun b S i hb => by simp [zup]; rw [G.o ⟨S, hb⟩ (by decide)]; simp [zup]⟩)
set_option maxHeartbeats 4000000 in
set_option maxRecDepth 100000 in
theorem k_addText (l : Launch) (D : va_G) (cy : Nat → ClassId) (L : List Nat) (σ : Nat → va_E) (φ : Nat → Nat → Nat → Int32) (ρ : Nat → Nat → Int32) {a la wo sp li te q : Nat} {g : Nat → Option Nat} (ha : zT L σ a (.inr (4, [.ref la, .ref wo, .ref sp, .ref li, .ref te, .int 0, .int 0]))) (hte : zT L σ te (zRA (cy 3) 4 g)) (hq : zText cy L σ q) (h5 : φ 4 5 a = 0) : zMI l D cy yX4_addText cX4_addText 2 .int (zrm 0 0 0) [.ref a, .ref q] L σ φ ρ (fun r _ => r = 0) := by
  refine zMI.mk (by decide) (Nat.le_of_ble_eq_true rfl) (fun E hE hret => ?_)
  show zW E 0 0 L σ φ ρ 0 [(0, .ref a), (1, .ref q)] []
  refine x_aload_n hE dX4_addText_0 rfl 0 rfl ?_
  refine h_getr hE ha rfl inZX4 4 (by decide) q374 rfl dX4_addText_1 ?_
  refine x_aload_n hE dX4_addText_4 rfl 0 rfl ?_
  refine h_geti hE ha rfl inZX4 5 (by decide) q376 rfl dX4_addText_5 ?_
  refine x_norm (y := 0) (h5) ?_
  refine x_aload_n hE dX4_addText_8 rfl 1 rfl ?_
  obtain ⟨_, _, _, _, _, _, _, _, _, _, hqT, -⟩ := id hq
  refine h_aast (t0 := 3) (ci := 7) hE hte hqT rfl rfl (by unfold vp_in; decide) dX4_addText_9 ?_
  have ha2 := (zX.up (w := te) (e := zRA (cy 3) 4 (va_up g (Int32.toNatClampNeg 0) (some q))) (φ := φ) (ρ := ρ)).T ha (zT.ne ha hte (by simp [zRA]))
  refine x_aload_n hE dX4_addText_10 rfl 0 rfl ?_
  refine x_dup hE dX4_addText_11 rfl ?_
  refine h_geti hE ha2 rfl inZX4 5 (by decide) q376 rfl dX4_addText_12 ?_
  refine x_norm (y := 0) (h5) ?_
  refine x_dup_x1 hE dX4_addText_15 rfl rfl ?_
  refine x_iconst (v := 1) hE dX4_addText_16 (by decide) ?_
  refine x_iadd hE dX4_addText_17 ?_
  refine x_norm (y := 1) (by decide) ?_
  refine h_puti (ty := .int) (ty0 := tyX4) hE ha2 rfl inZX4 tyX4_ok nmX4 5 (by decide) q376 rfl rfl (by decide +kernel) rfl rfl dX4_addText_18 ?_
  exact hret _ _ _ _ _ _ _ _ (0) (Nat.le_of_ble_eq_true rfl) (Nat.le_of_ble_eq_true rfl) dX4_addText_21 (rfl) (rfl)
set_option maxHeartbeats 4000000 in
set_option maxRecDepth 100000 in
theorem o_text (l : Launch) (D : va_G) (cy : Nat → ClassId) (L : List Nat) (σ : Nat → va_E) (φ : Nat → Nat → Nat → Int32) (ρ : Nat → Nat → Int32) {x : Nat}  (hx : zOR cy L σ φ x) : zMI l D cy yX11_text cX11_text 2 .int (zrm 4 11 1329) [.ref x] L σ φ ρ (fun r _ => r = 0) := by
  refine zMI.mk (by decide) (Nat.le_of_ble_eq_true rfl) (fun E hE hret => ?_)
  show zW E 0 0 L σ φ ρ 0 [(0, .ref x)] []
  obtain ⟨now, kept, tape, reader, weather, planner, ways, la, wo, sp, li, te, g, la', wo', sp', li', te', g', hx, hs, hs0, hk, hk0, htp, htp0, hrd, hrd0, hrd1, hwe, hwe0, hpl, hwy⟩ := hx
  obtain ⟨hn, hla, hwo, hsp, hli, hte⟩ := id hs
  obtain ⟨p45, p46, p00, p01, p10, p50, p51, pl0, pl1, pl2, pg⟩ := id hs0
  obtain ⟨f0, f1, f2, f3, f4, f5, f6, f7, hL, hL0, hL1, hL2, hL3, hL4, hL5, hL6, hL7⟩ := id hla
  obtain ⟨w0, w1, w2, w3, w4, w5, w6, w7, hW, hW0, hW1, hW2, hW3, hW4, hW5, hW6, hW7⟩ := id hwo
  obtain ⟨s0, s1, hSp, hSp0, hSp1, hSpW⟩ := id hsp
  obtain ⟨i0, i1, i2, i3, i4, i5, i6, i7, hLi, hLi0, hLi1, hLi2, hLi3, hLi4, hLi5, hLi6, hLi7⟩ := id hli
  obtain ⟨t0, t1, t2, t3, hTp, hTp0, hTp1, hTp2, hTp3, hTn1, hTn2⟩ := id htp
  refine x_aload_n hE dX11_text_0 rfl 0 rfl ?_
  refine h_getr hE hx rfl inZX11 0 (by decide) q556 rfl dX11_text_1 ?_
  refine h_geti hE hn rfl inZX4 5 (by decide) q377 rfl dX11_text_4 ?_
  refine x_norm (y := 0) (p45) ?_
  refine x_iconst (v := 4) hE dX11_text_7 (by decide) ?_
  refine x_icmp_lt (tgt := 13) hE dX11_text_8 (by decide) (fun c_8 => ?_) (fun c_8 => absurd (by decide) c_8)
  refine x_aload_n hE dX11_text_13 rfl 0 rfl ?_
  refine h_getr hE hx rfl inZX11 3 (by decide) q559 rfl dX11_text_14 ?_
  refine c_r (post := fun q u => zText cy u.1 u.2.1 q ∧ (∀ b e, zT L σ b e → (∀ S, e ≠ .inr (3, S)) → zT u.1 u.2.1 b e) ∧ ∀ b S i, zT L σ b (.inr (4, S)) → u.2.2.1 4 i b = φ 4 i b) hE (r_V (st := []) hE (k_readTape l D cy L σ φ ρ hrd htp htp0) q633 q634 q635 q120 q636 hrd rfl ⟨by decide, by decide, pn_X3_readTape⟩ ⟨Nat.le_of_ble_eq_true rfl, Nat.le_of_ble_eq_true rfl⟩ ⟨Nat.le_of_ble_eq_true rfl, Nat.le_of_ble_eq_true rfl⟩ rfl (Nat.le_of_ble_eq_true rfl) dX11_text_17) (fun q L' σ' φ' ρ' hq => ?_)
  refine x_widen (k' := 11) (n' := 1329) (Nat.le_of_ble_eq_true rfl) (Nat.le_of_ble_eq_true rfl) ?_
  obtain ⟨hq1, hq2, hq3⟩ := hq
  dsimp only at hq1 hq2 hq3
  have hx2 := hq2 _ _ hx (z_cls (by decide))
  have hn2 := hq2 _ _ hn (z_cls (by decide))
  have hte2 := hq2 _ _ hte z_arr
  refine x_astore_n (lv' := [(1, .ref q), (0, .ref x)]) hE dX11_text_20 rfl (by decide) rfl ?_
  refine x_aload_n hE dX11_text_21 rfl 0 rfl ?_
  refine x_ifnonnull (tgt := 27) hE dX11_text_22 (by decide) ?_
  refine x_aload_n hE dX11_text_27 rfl 1 rfl ?_
  refine h_getr hE hx2 rfl inZX11 0 (by decide) q556 rfl dX11_text_28 ?_
  refine x_aload_n hE dX11_text_31 rfl 0 rfl ?_
  refine c_i hE (r_V (st := []) hE (k_addText l D cy L' σ' φ' ρ' hn2 hte2 hq1 ((hq3 _ _ 5 hn).trans p45)) q925 q926 q927 q114 q928 hn2 rfl ⟨by decide, by decide, pn_X4_addText⟩ ⟨Nat.le_of_ble_eq_true rfl, Nat.le_of_ble_eq_true rfl⟩ ⟨Nat.le_of_ble_eq_true rfl, Nat.le_of_ble_eq_true rfl⟩ rfl (Nat.le_of_ble_eq_true rfl) dX11_text_32) (fun r9 L9 σ9 φ9 ρ9 h9 => ?_)
  refine x_widen (k' := 11) (n' := 1329) (Nat.le_of_ble_eq_true rfl) (Nat.le_of_ble_eq_true rfl) ?_
  exact hret _ _ _ _ _ _ _ _ (r9) (Nat.le_of_ble_eq_true rfl) (Nat.le_of_ble_eq_true rfl) dX11_text_35 (rfl) (h9)
