theorem dX11_greatestTax_0 : decode cX11_greatestTax 0 = .ok (.iload_n 1, 1) := by decide +kernel
theorem dX11_greatestTax_1 : decode cX11_greatestTax 1 = .ok (.iconst 1, 1) := by decide +kernel
theorem dX11_greatestTax_2 : decode cX11_greatestTax 2 = .ok (.bipush 30, 2) := by decide +kernel
theorem dX11_greatestTax_4 : decode cX11_greatestTax 4 = .ok (.invokestatic 64, 3) := by decide +kernel
theorem dX11_greatestTax_7 : decode cX11_greatestTax 7 = .ok (.ifCond .eq 14, 3) := by decide +kernel
theorem dX11_greatestTax_10 : decode cX11_greatestTax 10 = .ok (.aload_n 0, 1) := by decide +kernel
theorem dX11_greatestTax_11 : decode cX11_greatestTax 11 = .ok (.getfield 49, 3) := by decide +kernel
theorem dX11_greatestTax_14 : decode cX11_greatestTax 14 = .ok (.iload_n 1, 1) := by decide +kernel
theorem dX11_greatestTax_15 : decode cX11_greatestTax 15 = .ok (.invokevirtual 400, 3) := by decide +kernel
theorem dX11_greatestTax_18 : decode cX11_greatestTax 18 = .ok (.goto 4, 3) := by decide +kernel
theorem dX11_greatestTax_21 : decode cX11_greatestTax 21 = .ok (.iconst (-1), 1) := by decide +kernel
theorem dX11_greatestTax_22 : decode cX11_greatestTax 22 = .ok (.ireturn, 1) := by decide +kernel
theorem dX11_hour_0 : decode cX11_hour 0 = .ok (.iload_n 1, 1) := by decide +kernel
theorem dX11_hour_1 : decode cX11_hour 1 = .ok (.iconst 1, 1) := by decide +kernel
theorem dX11_hour_2 : decode cX11_hour 2 = .ok (.bipush 30, 2) := by decide +kernel
theorem dX11_hour_4 : decode cX11_hour 4 = .ok (.invokestatic 64, 3) := by decide +kernel
theorem dX11_hour_7 : decode cX11_hour 7 = .ok (.ifCond .eq 21, 3) := by decide +kernel
theorem dX11_hour_10 : decode cX11_hour 10 = .ok (.aload_n 0, 1) := by decide +kernel
theorem dX11_hour_11 : decode cX11_hour 11 = .ok (.getfield 10, 3) := by decide +kernel
theorem dX11_hour_14 : decode cX11_hour 14 = .ok (.getfield 97, 3) := by decide +kernel
theorem dX11_hour_17 : decode cX11_hour 17 = .ok (.getfield 137, 3) := by decide +kernel
theorem dX11_hour_20 : decode cX11_hour 20 = .ok (.iload_n 1, 1) := by decide +kernel
theorem dX11_hour_21 : decode cX11_hour 21 = .ok (.iadd, 1) := by decide +kernel
theorem dX11_hour_22 : decode cX11_hour 22 = .ok (.sipush 999, 3) := by decide +kernel
theorem dX11_hour_25 : decode cX11_hour 25 = .ok (.if_icmp .le 5, 3) := by decide +kernel
theorem dX11_hour_28 : decode cX11_hour 28 = .ok (.iconst (-1), 1) := by decide +kernel
theorem dX11_hour_29 : decode cX11_hour 29 = .ok (.ireturn, 1) := by decide +kernel
theorem dX11_hour_30 : decode cX11_hour 30 = .ok (.iconst 0, 1) := by decide +kernel
theorem dX11_hour_31 : decode cX11_hour 31 = .ok (.istore_n 2, 1) := by decide +kernel
theorem dX11_hour_32 : decode cX11_hour 32 = .ok (.iconst 0, 1) := by decide +kernel
theorem dX11_hour_33 : decode cX11_hour 33 = .ok (.istore_n 3, 1) := by decide +kernel
theorem dX11_hour_34 : decode cX11_hour 34 = .ok (.iload_n 3, 1) := by decide +kernel
theorem dX11_hour_35 : decode cX11_hour 35 = .ok (.iload_n 1, 1) := by decide +kernel
theorem dX11_hour_36 : decode cX11_hour 36 = .ok (.if_icmp .ge 33, 3) := by decide +kernel
theorem dX11_hour_39 : decode cX11_hour 39 = .ok (.aload_n 0, 1) := by decide +kernel
theorem dX11_hour_40 : decode cX11_hour 40 = .ok (.getfield 10, 3) := by decide +kernel
theorem dX11_hour_43 : decode cX11_hour 43 = .ok (.invokevirtual 140, 3) := by decide +kernel
theorem dX11_hour_46 : decode cX11_hour 46 = .ok (.iload_n 2, 1) := by decide +kernel
theorem dX11_hour_47 : decode cX11_hour 47 = .ok (.aload_n 0, 1) := by decide +kernel
theorem dX11_hour_48 : decode cX11_hour 48 = .ok (.getfield 40, 3) := by decide +kernel
theorem dX11_hour_51 : decode cX11_hour 51 = .ok (.aload_n 0, 1) := by decide +kernel
theorem dX11_hour_52 : decode cX11_hour 52 = .ok (.getfield 10, 3) := by decide +kernel
theorem dX11_hour_55 : decode cX11_hour 55 = .ok (.getfield 97, 3) := by decide +kernel
theorem dX11_hour_58 : decode cX11_hour 58 = .ok (.invokevirtual 143, 3) := by decide +kernel
theorem dX11_hour_61 : decode cX11_hour 61 = .ok (.iadd, 1) := by decide +kernel
theorem dX11_hour_62 : decode cX11_hour 62 = .ok (.istore_n 2, 1) := by decide +kernel
theorem dX11_hour_63 : decode cX11_hour 63 = .ok (.iinc 3 1, 3) := by decide +kernel
theorem dX11_hour_66 : decode cX11_hour 66 = .ok (.goto (-32), 3) := by decide +kernel
theorem dX11_hour_69 : decode cX11_hour 69 = .ok (.iload_n 2, 1) := by decide +kernel
theorem dX11_hour_70 : decode cX11_hour 70 = .ok (.ireturn, 1) := by decide +kernel
theorem dX2_foretell_0 : decode cX2_foretell 0 = .ok (.aload_n 0, 1) := by decide +kernel
theorem dX2_foretell_1 : decode cX2_foretell 1 = .ok (.invokevirtual 55, 3) := by decide +kernel
theorem dX2_foretell_4 : decode cX2_foretell 4 = .ok (.astore_n 2, 1) := by decide +kernel
theorem dX2_foretell_5 : decode cX2_foretell 5 = .ok (.iconst 0, 1) := by decide +kernel
theorem dX2_foretell_6 : decode cX2_foretell 6 = .ok (.istore_n 3, 1) := by decide +kernel
theorem dX2_foretell_7 : decode cX2_foretell 7 = .ok (.iload_n 3, 1) := by decide +kernel
theorem dX2_foretell_8 : decode cX2_foretell 8 = .ok (.iload_n 1, 1) := by decide +kernel
theorem dX2_foretell_9 : decode cX2_foretell 9 = .ok (.if_icmp .ge 18, 3) := by decide +kernel
theorem dX2_foretell_12 : decode cX2_foretell 12 = .ok (.aload_n 0, 1) := by decide +kernel
theorem dX2_foretell_13 : decode cX2_foretell 13 = .ok (.getfield 40, 3) := by decide +kernel
theorem dX2_foretell_16 : decode cX2_foretell 16 = .ok (.aload_n 2, 1) := by decide +kernel
theorem dX2_foretell_17 : decode cX2_foretell 17 = .ok (.invokevirtual 59, 3) := by decide +kernel
theorem dX2_foretell_20 : decode cX2_foretell 20 = .ok (.pop, 1) := by decide +kernel
theorem dX2_foretell_21 : decode cX2_foretell 21 = .ok (.iinc 3 1, 3) := by decide +kernel
theorem dX2_foretell_24 : decode cX2_foretell 24 = .ok (.goto (-17), 3) := by decide +kernel
theorem dX2_foretell_27 : decode cX2_foretell 27 = .ok (.aload_n 2, 1) := by decide +kernel
theorem dX2_foretell_28 : decode cX2_foretell 28 = .ok (.areturn, 1) := by decide +kernel
theorem dX2_freshWorld_0 : decode cX2_freshWorld 0 = .ok (.aload_n 0, 1) := by decide +kernel
theorem dX2_freshWorld_1 : decode cX2_freshWorld 1 = .ok (.getfield 17, 3) := by decide +kernel
theorem dX2_freshWorld_4 : decode cX2_freshWorld 4 = .ok (.iconst 0, 1) := by decide +kernel
theorem dX2_freshWorld_5 : decode cX2_freshWorld 5 = .ok (.aaload, 1) := by decide +kernel
theorem dX2_freshWorld_6 : decode cX2_freshWorld 6 = .ok (.aload_n 0, 1) := by decide +kernel
theorem dX2_freshWorld_7 : decode cX2_freshWorld 7 = .ok (.getfield 36, 3) := by decide +kernel
theorem dX2_freshWorld_10 : decode cX2_freshWorld 10 = .ok (.getfield 45, 3) := by decide +kernel
theorem dX2_freshWorld_13 : decode cX2_freshWorld 13 = .ok (.invokevirtual 51, 3) := by decide +kernel
theorem dX2_freshWorld_16 : decode cX2_freshWorld 16 = .ok (.aload_n 0, 1) := by decide +kernel
theorem dX2_freshWorld_17 : decode cX2_freshWorld 17 = .ok (.getfield 17, 3) := by decide +kernel
theorem dX2_freshWorld_20 : decode cX2_freshWorld 20 = .ok (.iconst 0, 1) := by decide +kernel
theorem dX2_freshWorld_21 : decode cX2_freshWorld 21 = .ok (.aaload, 1) := by decide +kernel
theorem dX2_freshWorld_22 : decode cX2_freshWorld 22 = .ok (.areturn, 1) := by decide +kernel
theorem dX2_growsAsMuch_0 : decode cX2_growsAsMuch 0 = .ok (.iconst 0, 1) := by decide +kernel
theorem dX2_growsAsMuch_1 : decode cX2_growsAsMuch 1 = .ok (.istore_n 2, 1) := by decide +kernel
theorem dX2_growsAsMuch_2 : decode cX2_growsAsMuch 2 = .ok (.iload_n 2, 1) := by decide +kernel
theorem dX2_growsAsMuch_3 : decode cX2_growsAsMuch 3 = .ok (.aload_n 0, 1) := by decide +kernel
theorem dX2_growsAsMuch_4 : decode cX2_growsAsMuch 4 = .ok (.getfield 36, 3) := by decide +kernel
theorem dX2_growsAsMuch_7 : decode cX2_growsAsMuch 7 = .ok (.getfield 98, 3) := by decide +kernel
theorem dX2_growsAsMuch_10 : decode cX2_growsAsMuch 10 = .ok (.getfield 122, 3) := by decide +kernel
theorem dX2_growsAsMuch_13 : decode cX2_growsAsMuch 13 = .ok (.if_icmp .ge 26, 3) := by decide +kernel
theorem dX2_growsAsMuch_39 : decode cX2_growsAsMuch 39 = .ok (.iconst 1, 1) := by decide +kernel
theorem dX2_growsAsMuch_40 : decode cX2_growsAsMuch 40 = .ok (.ireturn, 1) := by decide +kernel
theorem dX2_harmlessTax_0 : decode cX2_harmlessTax 0 = .ok (.aload_n 0, 1) := by decide +kernel
theorem dX2_harmlessTax_1 : decode cX2_harmlessTax 1 = .ok (.getfield 40, 3) := by decide +kernel
theorem dX2_harmlessTax_4 : decode cX2_harmlessTax 4 = .ok (.iconst 0, 1) := by decide +kernel
theorem dX2_harmlessTax_5 : decode cX2_harmlessTax 5 = .ok (.putfield 110, 3) := by decide +kernel
theorem dX2_harmlessTax_8 : decode cX2_harmlessTax 8 = .ok (.aload_n 0, 1) := by decide +kernel
theorem dX2_harmlessTax_9 : decode cX2_harmlessTax 9 = .ok (.iload_n 1, 1) := by decide +kernel
theorem dX2_harmlessTax_10 : decode cX2_harmlessTax 10 = .ok (.invokevirtual 113, 3) := by decide +kernel
theorem dX2_harmlessTax_13 : decode cX2_harmlessTax 13 = .ok (.getfield 117, 3) := by decide +kernel
theorem dX2_harmlessTax_16 : decode cX2_harmlessTax 16 = .ok (.iconst 0, 1) := by decide +kernel
theorem dX2_harmlessTax_17 : decode cX2_harmlessTax 17 = .ok (.aload_n 0, 1) := by decide +kernel
theorem dX2_harmlessTax_18 : decode cX2_harmlessTax 18 = .ok (.getfield 24, 3) := by decide +kernel
theorem dX2_harmlessTax_21 : decode cX2_harmlessTax 21 = .ok (.iconst 0, 1) := by decide +kernel
theorem dX2_harmlessTax_22 : decode cX2_harmlessTax 22 = .ok (.bipush 6, 2) := by decide +kernel
theorem dX2_harmlessTax_24 : decode cX2_harmlessTax 24 = .ok (.invokestatic 80, 3) := by decide +kernel
theorem dX2_harmlessTax_27 : decode cX2_harmlessTax 27 = .ok (.iconst 0, 1) := by decide +kernel
theorem dX2_harmlessTax_28 : decode cX2_harmlessTax 28 = .ok (.istore_n 2, 1) := by decide +kernel
theorem dX2_harmlessTax_29 : decode cX2_harmlessTax 29 = .ok (.bipush 10, 2) := by decide +kernel
theorem dX2_harmlessTax_31 : decode cX2_harmlessTax 31 = .ok (.istore_n 3, 1) := by decide +kernel
theorem dX2_harmlessTax_32 : decode cX2_harmlessTax 32 = .ok (.iload_n 3, 1) := by decide +kernel
theorem dX2_harmlessTax_33 : decode cX2_harmlessTax 33 = .ok (.ifCond .le 39, 3) := by decide +kernel
theorem dX2_harmlessTax_36 : decode cX2_harmlessTax 36 = .ok (.iload_n 2, 1) := by decide +kernel
theorem dX2_harmlessTax_37 : decode cX2_harmlessTax 37 = .ok (.ifCond .ne 35, 3) := by decide +kernel
theorem dX2_harmlessTax_40 : decode cX2_harmlessTax 40 = .ok (.aload_n 0, 1) := by decide +kernel
theorem dX2_harmlessTax_41 : decode cX2_harmlessTax 41 = .ok (.getfield 40, 3) := by decide +kernel
theorem dX2_harmlessTax_44 : decode cX2_harmlessTax 44 = .ok (.iload_n 3, 1) := by decide +kernel
theorem dX2_harmlessTax_45 : decode cX2_harmlessTax 45 = .ok (.putfield 110, 3) := by decide +kernel
theorem dX2_harmlessTax_48 : decode cX2_harmlessTax 48 = .ok (.aload_n 0, 1) := by decide +kernel
theorem dX2_harmlessTax_49 : decode cX2_harmlessTax 49 = .ok (.aload_n 0, 1) := by decide +kernel
theorem dX2_harmlessTax_50 : decode cX2_harmlessTax 50 = .ok (.iload_n 1, 1) := by decide +kernel
theorem dX2_harmlessTax_51 : decode cX2_harmlessTax 51 = .ok (.invokevirtual 113, 3) := by decide +kernel
theorem dX2_harmlessTax_54 : decode cX2_harmlessTax 54 = .ok (.invokevirtual 118, 3) := by decide +kernel
theorem dX2_harmlessTax_57 : decode cX2_harmlessTax 57 = .ok (.ifCond .eq 7, 3) := by decide +kernel
theorem dX2_harmlessTax_60 : decode cX2_harmlessTax 60 = .ok (.iload_n 3, 1) := by decide +kernel
theorem dX2_harmlessTax_61 : decode cX2_harmlessTax 61 = .ok (.goto 4, 3) := by decide +kernel
theorem dX2_harmlessTax_65 : decode cX2_harmlessTax 65 = .ok (.istore_n 2, 1) := by decide +kernel
theorem dX2_harmlessTax_66 : decode cX2_harmlessTax 66 = .ok (.iinc 3 (-1), 3) := by decide +kernel
theorem dX2_harmlessTax_69 : decode cX2_harmlessTax 69 = .ok (.goto (-37), 3) := by decide +kernel
theorem dX2_harmlessTax_72 : decode cX2_harmlessTax 72 = .ok (.aload_n 0, 1) := by decide +kernel
theorem dX2_harmlessTax_73 : decode cX2_harmlessTax 73 = .ok (.getfield 40, 3) := by decide +kernel
theorem dX2_harmlessTax_76 : decode cX2_harmlessTax 76 = .ok (.iconst (-1), 1) := by decide +kernel
theorem dX2_harmlessTax_77 : decode cX2_harmlessTax 77 = .ok (.putfield 110, 3) := by decide +kernel
theorem dX2_harmlessTax_80 : decode cX2_harmlessTax 80 = .ok (.iload_n 2, 1) := by decide +kernel
theorem dX2_harmlessTax_81 : decode cX2_harmlessTax 81 = .ok (.ireturn, 1) := by decide +kernel
-- hour(n) of a new object
set_option maxHeartbeats 4000000 in
set_option maxRecDepth 100000 in
theorem o_hour (l : Launch) (D : va_G) (cy : Nat → ClassId) (L : List Nat) (σ : Nat → va_E) (φ : Nat → Nat → Nat → Int32) (ρ : Nat → Nat → Int32) {x : Nat} (n : Int32) (hx : zOR cy L σ φ x) : zMI l D cy yX11_hour cX11_hour 4 .int (zrm 5 0 0) [.ref x, .int n] L σ φ ρ (fun r _ => r = if 1 ≤ n ∧ n ≤ 30 then 0 else -1) := by
  refine zMI.mk (by decide) (Nat.le_of_ble_eq_true rfl) (fun E hE hret => ?_)
  show zW E 0 0 L σ φ ρ 0 [(0, .ref x), (1, .int n)] []
  obtain ⟨now, kept, tape, reader, weather, planner, ways, la, wo, sp, li, te, g, la', wo', sp', li', te', g', hx, hs, hs0, hk, hk0, htp, htp0, hrd, hrd0, hrd1, hwe, hwe0, hpl, hwy⟩ := hx
  obtain ⟨hn, hla, hwo, hsp, hli, hte⟩ := id hs
  obtain ⟨p45, p46, p00, p01, p10, p50, p51, pl0, pl1, pl2, pg⟩ := id hs0
  obtain ⟨f0, f1, f2, f3, f4, f5, f6, f7, hL, hL0, hL1, hL2, hL3, hL4, hL5, hL6, hL7⟩ := id hla
  obtain ⟨w0, w1, w2, w3, w4, w5, w6, w7, hW, hW0, hW1, hW2, hW3, hW4, hW5, hW6, hW7⟩ := id hwo
  obtain ⟨s0, s1, hSp, hSp0, hSp1, hSpW⟩ := id hsp
  obtain ⟨i0, i1, i2, i3, i4, i5, i6, i7, hLi, hLi0, hLi1, hLi2, hLi3, hLi4, hLi5, hLi6, hLi7⟩ := id hli
  obtain ⟨t0, t1, t2, t3, hTp, hTp0, hTp1, hTp2, hTp3, hTn1, hTn2⟩ := id htp
  obtain ⟨SWE, hweT⟩ := hwe.at
  have loop : ∀ (m : Nat), m ≤ 30 → (if 1 ≤ nI m ∧ nI m ≤ 30 then (0 : Int32) else -1) = 0 → n = nI m → ∀ (f i : Nat) (φ' : Nat → Nat → Nat → Int32) (ρ' : Nat → Nat → Int32), i ≤ m → m - i < f → (∀ c j b, c ≠ 10 → c ≠ 5 → c ≠ 9 → φ' c j b = φ c j b) → φ' 10 9 wo = nI i → (∃ q, q < 30 ∧ φ' 5 1 sp = nI q) → zW E 0 0 L σ φ' ρ' 34 [(3, .int (nI i)), (2, .int 0), (1, .int (nI m)), (0, .ref x)] [] := by
    intro m hm hsq hnm f
    induction f with
    | zero => intro i φ' ρ' h1 h2; omega
    | succ f ih =>
      intro i φ' ρ' hi hf hfr hho hnx
      obtain ⟨q, hq, hnx⟩ := hnx
      have q00 : φ' 0 0 la = 0 := (hfr 0 0 la (by decide) (by decide) (by decide)).trans p00
      have q01 : φ' 0 1 la = 0 := (hfr 0 1 la (by decide) (by decide) (by decide)).trans p01
      rcases Nat.lt_or_ge i m with hlt | hge
      · refine x_iload_n hE dX11_hour_34 rfl 0 rfl ?_
        refine x_iload_n hE dX11_hour_35 rfl 2 rfl ?_
        refine x_icmp_ge (tgt := 69) hE dX11_hour_36 (by decide) (fun c_36 => absurd c_36 (fun h => absurd ((nI_leI (by omega) (by omega)).mp h) (by omega))) (fun c_36 => ?_)
        refine x_aload_n hE dX11_hour_39 rfl 3 rfl ?_
        refine h_getr hE hx rfl inZX11 0 (by decide) q556 rfl dX11_hour_40 ?_
        refine c_vs hE (r_V (st := []) hE (k_keepStep l D cy L σ φ' ρ' q hn hL hsp hwo hnx hq) q946 q947 q948 q114 q949 hn rfl ⟨by decide, by decide, pn_X4_keepStep⟩ ⟨Nat.le_of_ble_eq_true rfl, Nat.le_of_ble_eq_true rfl⟩ ⟨Nat.le_of_ble_eq_true rfl, Nat.le_of_ble_eq_true rfl⟩ rfl (Nat.le_of_ble_eq_true rfl) dX11_hour_43) (fun φ1 ρ1 hc => ?_)
        refine x_widen (k' := 0) (n' := 0) (Nat.le_of_ble_eq_true rfl) (Nat.le_of_ble_eq_true rfl) ?_
        obtain ⟨hc1, hc2, hc3⟩ := hc
        refine x_iload_n hE dX11_hour_46 rfl 1 rfl ?_
        refine x_aload_n hE dX11_hour_47 rfl 3 rfl ?_
        refine h_getr hE hx rfl inZX11 4 (by decide) q560 rfl dX11_hour_48 ?_
        refine x_aload_n hE dX11_hour_51 rfl 3 rfl ?_
        refine h_getr hE hx rfl inZX11 0 (by decide) q556 rfl dX11_hour_52 ?_
        refine h_getr hE hn rfl inZX4 1 (by decide) q369 rfl dX11_hour_55 ?_
        refine c_is hE (r_V (st := [.int 0]) hE (k_pass l D cy L σ φ1 ρ1 i hwe hn hL hwo (by rw [hc1 _ _ _ (by decide) (by decide)]; exact q00) (by rw [hc1 _ _ _ (by decide) (by decide)]; exact q01) (by rw [hc2 9 (by omega) (by omega)]; exact hho) (by omega)) q962 q963 q964 q121 q965 hweT rfl ⟨by decide, by decide, pn_X9_pass⟩ ⟨Nat.le_of_ble_eq_true rfl, Nat.le_of_ble_eq_true rfl⟩ ⟨Nat.le_of_ble_eq_true rfl, Nat.le_of_ble_eq_true rfl⟩ rfl (Nat.le_of_ble_eq_true rfl) dX11_hour_58) (fun rp φ2 ρ2 hp => ?_)
        refine x_widen (k' := 0) (n' := 0) (Nat.le_of_ble_eq_true rfl) (Nat.le_of_ble_eq_true rfl) ?_
        obtain ⟨hp1, hp2⟩ := hp
        subst hp2
        refine x_norm (y := 0) (hp1) ?_
        refine x_iadd hE dX11_hour_61 ?_
        refine x_norm (y := 0) (by decide) ?_
        refine x_istore_n (lv' := [(2, .int 0), (3, .int (nI i)), (1, .int (nI m)), (0, .ref x)]) hE dX11_hour_62 rfl (by decide) rfl ?_
        refine x_iinc (v := nI (i + 1)) (lv' := [(3, .int (nI (i + 1))), (2, .int 0), (1, .int (nI m)), (0, .ref x)]) hE dX11_hour_63 1 rfl (nI_1 i) (by decide) rfl ?_
        refine x_goto (tgt := 34) hE dX11_hour_66 (by decide) ?_
        refine x_sub (lv' := [(3, .int (nI (i + 1))), (2, .int 0), (1, .int (nI m)), (0, .ref x)]) (by simp) ?_
        refine ih (i + 1) _ _ (by omega) (by omega) (fun c j b h1 h2 h3 => ?_) (by simp [zup]) ?_
        · simp [zup, h1, h3]; rw [hc1 c j b h1 h2]; exact hfr c j b h1 h2 h3
        · obtain ⟨q', hq', hn'⟩ := hc3; exact ⟨q', hq', by simp [zup]; exact hn'⟩
      · refine x_iload_n hE dX11_hour_34 rfl 0 rfl ?_
        refine x_iload_n hE dX11_hour_35 rfl 2 rfl ?_
        refine x_icmp_ge (tgt := 69) hE dX11_hour_36 (by decide) (fun c_36 => ?_) (fun c_36 => absurd ((nI_leI (by omega) (by omega)).mpr (by omega)) c_36)
        refine x_iload_n hE dX11_hour_69 rfl 1 rfl ?_
        exact hret _ _ _ _ _ _ _ _ (0) (Nat.le_of_ble_eq_true rfl) (Nat.le_of_ble_eq_true rfl) dX11_hour_70 (rfl) (by rw [hnm]; exact hsq.symm)
  refine x_iload_n hE dX11_hour_0 rfl 1 rfl ?_
  refine x_iconst (v := 1) hE dX11_hour_1 (by decide) ?_
  refine x_bipush (v := 30) hE dX11_hour_2 (by decide) ?_
  refine c_ip hE (r_S (st := []) hE (k_isWithin l D cy L σ φ ρ (n) (1) (30)) q582 q583 q113 q584 ⟨by decide, by decide, pn_X11_isWithin⟩ ⟨Nat.le_of_ble_eq_true rfl, Nat.le_of_ble_eq_true rfl⟩ ⟨Nat.le_of_ble_eq_true rfl, Nat.le_of_ble_eq_true rfl⟩ rfl (Nat.le_of_ble_eq_true rfl) dX11_hour_4) (fun r4 h4 => ?_)
  refine x_widen (k' := 0) (n' := 0) (Nat.le_of_ble_eq_true rfl) (Nat.le_of_ble_eq_true rfl) ?_
  refine x_if_eq (tgt := 28) hE dX11_hour_7 (by decide) (fun c_7 => ?_) (fun c_7 => ?_)
  · refine x_iconst (v := -1) hE dX11_hour_28 (by decide) ?_
    exact hret _ _ _ _ _ _ _ _ (-1) (Nat.le_of_ble_eq_true rfl) (Nat.le_of_ble_eq_true rfl) dX11_hour_29 (rfl) (by grind [zb])
  · have hn1 : 1 ≤ n ∧ n ≤ 30 := by grind [zb]
    obtain ⟨m, hm1, hm2, hnm⟩ := z_nI (a := 1) (b := 30) hn1 (by omega) (by omega)
    rw [hnm]
    refine x_aload_n hE dX11_hour_10 rfl 0 rfl ?_
    refine h_getr hE hx rfl inZX11 0 (by decide) q556 rfl dX11_hour_11 ?_
    refine h_getr hE hn rfl inZX4 1 (by decide) q369 rfl dX11_hour_14 ?_
    refine h_geti hE hW rfl inZX10 9 (by decide) q249 rfl dX11_hour_17 ?_
    refine x_norm (y := 0) (by simpa using p10 9) ?_
    refine x_iload_n hE dX11_hour_20 rfl 1 rfl ?_
    refine x_iadd hE dX11_hour_21 ?_
    refine x_norm (y := nI m) (Int32.zero_add _) ?_
    refine x_sipush (v := 999) hE dX11_hour_22 (by decide) ?_
    refine x_icmp_le (tgt := 30) hE dX11_hour_25 (by decide) (fun c_25 => ?_) (fun c_25 => absurd ((nI_leI (b := 999) (by omega) (by omega)).mpr (by omega)) c_25)
    refine x_iconst (v := 0) hE dX11_hour_30 (by decide) ?_
    refine x_istore_n (lv' := [(2, .int 0), (0, .ref x), (1, .int (nI m))]) hE dX11_hour_31 rfl (by decide) rfl ?_
    refine x_iconst (v := 0) hE dX11_hour_32 (by decide) ?_
    refine x_istore_n (lv' := [(3, .int 0), (2, .int 0), (0, .ref x), (1, .int (nI m))]) hE dX11_hour_33 rfl (by decide) rfl ?_
    refine x_sub (lv' := [(3, .int (nI 0)), (2, .int 0), (1, .int (nI m)), (0, .ref x)]) (by simp [nI_0]) ?_
    exact loop m hm2 (by rw [← hnm]; exact if_pos hn1) hnm (m + 1) 0 φ ρ (by omega) (by omega) (fun c j b _ _ _ => rfl) (by rw [nI_0]; simpa using p10 9) ⟨0, by omega, by rw [nI_0]; exact p51⟩
set_option maxHeartbeats 4000000 in
set_option maxRecDepth 100000 in
theorem k_freshWorld (l : Launch) (D : va_G) (cy : Nat → ClassId) (L : List Nat) (σ : Nat → va_E) (φ : Nat → Nat → Nat → Int32) (ρ : Nat → Nat → Int32) {pl s we la wo sp li te f0 f1 f2 f3 f4 f5 f6 f7 : Nat} (hpl : zPlanner cy L σ pl s we) (ha : zT L σ s (.inr (4, [.ref la, .ref wo, .ref sp, .ref li, .ref te, .int 0, .int 0]))) (hL : zT L σ la (.inr (0, [.int 0, .int 0, .ref f0, .ref f1, .ref f2, .ref f3, .ref f4, .ref f5, .ref f6, .ref f7]))) (hw : zWorld cy L σ wo) : zMR l D cy yX2_freshWorld cX2_freshWorld 1 (.object "OwnRain$World") (zrm 2 0 0) [.ref pl] L σ φ ρ (zsr L σ (fun r φ' _ => zWorld cy L σ r ∧ (∀ c i b, c ≠ 10 → φ' c i b = φ c i b) ∧ φ' 10 9 r = φ 10 9 wo ∧ φ' 10 9 wo = φ 10 9 wo)) := by
  refine zMR.mk (by decide) (Nat.le_of_ble_eq_true rfl) (Or.inl ⟨_, rfl⟩) (fun E hE hret => ?_)
  show zW E 0 0 L σ φ ρ 0 [(0, .ref pl)] []
  obtain ⟨e0, e1, e2, e3, e4, e5, e6, g, hP2, hP20, hP21, hP22, hP23, hP24, hP25, hP26, hPW⟩ := id hpl
  obtain ⟨y, hy1, hy⟩ := hPW 0 (by omega)
  obtain ⟨SY, hyT⟩ := hy.at
  refine x_aload_n hE dX2_freshWorld_0 rfl 0 rfl ?_
  refine h_getr hE hP2 rfl inZX2 4 (by decide) q511 rfl dX2_freshWorld_1 ?_
  refine x_iconst (v := 0) hE dX2_freshWorld_4 (by decide) ?_
  refine h_aald (b := y) hE hP21 (by unfold vp_in; decide) (hy1) dX2_freshWorld_5 ?_
  refine x_aload_n hE dX2_freshWorld_6 rfl 0 rfl ?_
  refine h_getr hE hP2 rfl inZX2 2 (by decide) q509 rfl dX2_freshWorld_7 ?_
  refine h_getr hE ha rfl inZX4 1 (by decide) q367 rfl dX2_freshWorld_10 ?_
  refine c_vs hE (r_V (st := []) hE (k_copyWorld l D cy L σ φ ρ hy hw) q1172 q955 q956 q116 q957 hyT rfl ⟨by decide, by decide, pn_X10_copyFrom⟩ ⟨Nat.le_of_ble_eq_true rfl, Nat.le_of_ble_eq_true rfl⟩ ⟨Nat.le_of_ble_eq_true rfl, Nat.le_of_ble_eq_true rfl⟩ rfl (Nat.le_of_ble_eq_true rfl) dX2_freshWorld_13) (fun φ1 ρ1 hc => ?_)
  refine x_widen (k' := 0) (n' := 0) (Nat.le_of_ble_eq_true rfl) (Nat.le_of_ble_eq_true rfl) ?_
  obtain ⟨hc1, hc2⟩ := hc
  refine x_aload_n hE dX2_freshWorld_16 rfl 0 rfl ?_
  refine h_getr hE hP2 rfl inZX2 4 (by decide) q511 rfl dX2_freshWorld_17 ?_
  refine x_iconst (v := 0) hE dX2_freshWorld_20 (by decide) ?_
  refine h_aald (b := y) hE hP21 (by unfold vp_in; decide) (hy1) dX2_freshWorld_21 ?_
  exact hret _ _ _ _ _ _ _ _ (y) (Nat.le_of_ble_eq_true rfl) (Nat.le_of_ble_eq_true rfl) dX2_freshWorld_22 (⟨rfl, rfl, hy, fun c i b h => hc1 c i b (Or.inl h), hc2 9 (by omega) (by omega), if e : wo = y then (by subst e; exact hc2 9 (by omega) (by omega)) else hc1 10 9 wo (Or.inr e)⟩)
-- foretell(m), nobody and no FIELD being there
set_option maxHeartbeats 4000000 in
set_option maxRecDepth 100000 in
theorem k_foretell (l : Launch) (D : va_G) (cy : Nat → ClassId) (L : List Nat) (σ : Nat → va_E) (φ : Nat → Nat → Nat → Int32) (ρ : Nat → Nat → Int32) {pl s we la wo sp li te f0 f1 f2 f3 f4 f5 f6 f7 : Nat} (m h : Nat) (hpl : zPlanner cy L σ pl s we) (hwe : zWeather cy L σ we s) (ha : zT L σ s (.inr (4, [.ref la, .ref wo, .ref sp, .ref li, .ref te, .int 0, .int 0]))) (hL : zT L σ la (.inr (0, [.int 0, .int 0, .ref f0, .ref f1, .ref f2, .ref f3, .ref f4, .ref f5, .ref f6, .ref f7]))) (hw : zWorld cy L σ wo) (h00 : φ 0 0 la = 0) (h01 : φ 0 1 la = 0) (hh : φ 10 9 wo = nI h) (hlt : h ≤ 1000) (hm : m ≤ 30) : zMR l D cy yX2_foretell cX2_foretell 4 (.object "OwnRain$World") (zrm 3 0 0) [.ref pl, .int (nI m)] L σ φ ρ (zsr L σ (fun r φ' _ => zWorld cy L σ r ∧ (∀ c j b, c ≠ 10 → c ≠ 9 → φ' c j b = φ c j b) ∧ ∃ h', h' ≤ h + m ∧ φ' 10 9 wo = nI h')) := by
  refine zMR.mk (by decide) (Nat.le_of_ble_eq_true rfl) (Or.inl ⟨_, rfl⟩) (fun E hE hret => ?_)
  show zW E 0 0 L σ φ ρ 0 [(0, .ref pl), (1, .int (nI m))] []
  obtain ⟨e0, e1, e2, e3, e4, e5, e6, g, hP2, hP20, hP21, hP22, hP23, hP24, hP25, hP26, hPW⟩ := id hpl
  obtain ⟨SWE, hweT⟩ := hwe.at
  have loop : ∀ (r : Nat), zWorld cy L σ r → ∀ (f i : Nat) (φ' : Nat → Nat → Nat → Int32) (ρ' : Nat → Nat → Int32), i ≤ m → m - i < f → (∀ c j b, c ≠ 10 → c ≠ 9 → φ' c j b = φ c j b) → φ' 10 9 r = nI (h + i) → (∃ h', h' ≤ h + i ∧ φ' 10 9 wo = nI h') → zW E 0 0 L σ φ' ρ' 7 [(3, .int (nI i)), (2, .ref r), (0, .ref pl), (1, .int (nI m))] [] := by
    intro r hr f
    induction f with
    | zero => intro i φ' ρ' h1 h2; omega
    | succ f ih =>
      intro i φ' ρ' hi hf hfr hho hwo'
      obtain ⟨h', hh', hwo'⟩ := hwo'
      have q00 : φ' 0 0 la = 0 := (hfr 0 0 la (by decide) (by decide)).trans h00
      have q01 : φ' 0 1 la = 0 := (hfr 0 1 la (by decide) (by decide)).trans h01
      rcases Nat.lt_or_ge i m with hlt2 | hge
      · refine x_iload_n hE dX2_foretell_7 rfl 0 rfl ?_
        refine x_iload_n hE dX2_foretell_8 rfl 3 rfl ?_
        refine x_icmp_ge (tgt := 27) hE dX2_foretell_9 (by decide) (fun c_9 => absurd c_9 (fun h => absurd ((nI_leI (by omega) (by omega)).mp h) (by omega))) (fun c_9 => ?_)
        refine x_aload_n hE dX2_foretell_12 rfl 2 rfl ?_
        refine h_getr hE hP2 rfl inZX2 3 (by decide) q510 rfl dX2_foretell_13 ?_
        refine x_aload_n hE dX2_foretell_16 rfl 1 rfl ?_
        refine c_is hE (r_V (st := []) hE (k_pass l D cy L σ φ' ρ' (h + i) hwe ha hL hr q00 q01 hho (by omega)) q1173 q963 q964 q121 q965 hweT rfl ⟨by decide, by decide, pn_X9_pass⟩ ⟨Nat.le_of_ble_eq_true rfl, Nat.le_of_ble_eq_true rfl⟩ ⟨Nat.le_of_ble_eq_true rfl, Nat.le_of_ble_eq_true rfl⟩ rfl (Nat.le_of_ble_eq_true rfl) dX2_foretell_17) (fun rp φ2 ρ2 hp => ?_)
        refine x_widen (k' := 0) (n' := 0) (Nat.le_of_ble_eq_true rfl) (Nat.le_of_ble_eq_true rfl) ?_
        obtain ⟨hp1, hp2⟩ := hp
        subst hp2
        refine x_pop hE dX2_foretell_20 rfl ?_
        refine x_iinc (v := nI (i + 1)) (lv' := [(3, .int (nI (i + 1))), (2, .ref r), (0, .ref pl), (1, .int (nI m))]) hE dX2_foretell_21 0 rfl (nI_1 i) (by decide) rfl ?_
        refine x_goto (tgt := 7) hE dX2_foretell_24 (by decide) ?_
        refine x_sub (lv' := [(3, .int (nI (i + 1))), (2, .ref r), (0, .ref pl), (1, .int (nI m))]) (by simp) ?_
        refine ih (i + 1) _ _ (by omega) (by omega) (fun c j b h1 h3 => ?_) (by simp [zup]; rfl) ?_
        · simp [zup, h1, h3]; exact hfr c j b h1 h3
        · by_cases e : wo = r
          · exact ⟨h + i + 1, by omega, by simp [zup, e]⟩
          · exact ⟨h', by omega, by simp [zup, e]; exact hwo'⟩
      · refine x_iload_n hE dX2_foretell_7 rfl 0 rfl ?_
        refine x_iload_n hE dX2_foretell_8 rfl 3 rfl ?_
        refine x_icmp_ge (tgt := 27) hE dX2_foretell_9 (by decide) (fun c_9 => ?_) (fun c_9 => absurd ((nI_leI (by omega) (by omega)).mpr (by omega)) c_9)
        refine x_aload_n hE dX2_foretell_27 rfl 1 rfl ?_
        exact hret _ _ _ _ _ _ _ _ (r) (Nat.le_of_ble_eq_true rfl) (Nat.le_of_ble_eq_true rfl) dX2_foretell_28 (⟨rfl, rfl, hr, hfr, h', by omega, hwo'⟩)
  refine x_aload_n hE dX2_foretell_0 rfl 0 rfl ?_
  refine c_rs hE (r_V (st := []) hE (k_freshWorld l D cy L σ φ ρ hpl ha hL hw) q1168 q1170 q29 q122 q1171 hP2 rfl ⟨by decide, by decide, pn_X2_freshWorld⟩ ⟨Nat.le_of_ble_eq_true rfl, Nat.le_of_ble_eq_true rfl⟩ ⟨Nat.le_of_ble_eq_true rfl, Nat.le_of_ble_eq_true rfl⟩ rfl (Nat.le_of_ble_eq_true rfl) dX2_foretell_1) (fun r φ1 ρ1 hc => ?_)
  refine x_widen (k' := 0) (n' := 0) (Nat.le_of_ble_eq_true rfl) (Nat.le_of_ble_eq_true rfl) ?_
  obtain ⟨hr, hc1, hc2, hc3⟩ := hc
  refine x_astore_n (lv' := [(2, .ref r), (0, .ref pl), (1, .int (nI m))]) hE dX2_foretell_4 rfl (by decide) rfl ?_
  refine x_iconst (v := 0) hE dX2_foretell_5 (by decide) ?_
  refine x_istore_n (lv' := [(3, .int 0), (2, .ref r), (0, .ref pl), (1, .int (nI m))]) hE dX2_foretell_6 rfl (by decide) rfl ?_
  refine x_sub (lv' := [(3, .int (nI 0)), (2, .ref r), (0, .ref pl), (1, .int (nI m))]) (by simp [nI_0]) ?_
  exact loop r hr (m + 1) 0 φ1 ρ1 (by omega) (by omega) (fun c j b h1 _ => hc1 c j b h1) (by rw [hc2, hh]; rfl) ⟨h, by omega, by rw [hc3, hh]⟩
set_option maxHeartbeats 4000000 in
set_option maxRecDepth 100000 in
theorem k_growsAsMuch (l : Launch) (D : va_G) (cy : Nat → ClassId) (L : List Nat) (σ : Nat → va_E) (φ : Nat → Nat → Nat → Int32) (ρ : Nat → Nat → Int32) {pl s we la wo sp li te f0 f1 f2 f3 f4 f5 f6 f7 : Nat} {r : Nat} (hpl : zPlanner cy L σ pl s we) (ha : zT L σ s (.inr (4, [.ref la, .ref wo, .ref sp, .ref li, .ref te, .int 0, .int 0]))) (hL : zT L σ la (.inr (0, [.int 0, .int 0, .ref f0, .ref f1, .ref f2, .ref f3, .ref f4, .ref f5, .ref f6, .ref f7]))) (h00 : φ 0 0 la = 0) : zMI l D cy yX2_growsAsMuch cX2_growsAsMuch 3 .boolean (zrm 1 0 0) [.ref pl, .ref r] L σ φ ρ (zpu L σ φ ρ (fun r => r = 1)) := by
  refine zMI.mk (by decide) (Nat.le_of_ble_eq_true rfl) (fun E hE hret => ?_)
  show zW E 0 0 L σ φ ρ 0 [(0, .ref pl), (1, .ref r)] []
  obtain ⟨e0, e1, e2, e3, e4, e5, e6, g, hP2, hP20, hP21, hP22, hP23, hP24, hP25, hP26, hPW⟩ := id hpl
  refine x_iconst (v := 0) hE dX2_growsAsMuch_0 (by decide) ?_
  refine x_istore_n (lv' := [(2, .int 0), (0, .ref pl), (1, .ref r)]) hE dX2_growsAsMuch_1 rfl (by decide) rfl ?_
  refine x_iload_n hE dX2_growsAsMuch_2 rfl 0 rfl ?_
  refine x_aload_n hE dX2_growsAsMuch_3 rfl 1 rfl ?_
  refine h_getr hE hP2 rfl inZX2 2 (by decide) q509 rfl dX2_growsAsMuch_4 ?_
  refine h_getr hE ha rfl inZX4 0 (by decide) q365 rfl dX2_growsAsMuch_7 ?_
  refine h_geti hE hL rfl inZX0 0 (by decide) q158 rfl dX2_growsAsMuch_10 ?_
  refine x_norm (y := 0) (h00) ?_
  refine x_icmp_ge (tgt := 39) hE dX2_growsAsMuch_13 (by decide) (fun c_13 => ?_) (fun c_13 => absurd (by decide) c_13)
  refine x_iconst (v := 1) hE dX2_growsAsMuch_39 (by decide) ?_
  exact hret _ _ _ _ _ _ _ _ (1) (Nat.le_of_ble_eq_true rfl) (Nat.le_of_ble_eq_true rfl) dX2_growsAsMuch_40 (rfl) (⟨rfl, rfl⟩)
set_option maxHeartbeats 4000000 in
set_option maxRecDepth 100000 in
theorem k_harmlessTax (l : Launch) (D : va_G) (cy : Nat → ClassId) (L : List Nat) (σ : Nat → va_E) (φ : Nat → Nat → Nat → Int32) (ρ : Nat → Nat → Int32) {pl s we la wo sp li te f0 f1 f2 f3 f4 f5 f6 f7 : Nat} (m : Nat) (hpl : zPlanner cy L σ pl s we) (hwe : zWeather cy L σ we s) (ha : zT L σ s (.inr (4, [.ref la, .ref wo, .ref sp, .ref li, .ref te, .int 0, .int 0]))) (hL : zT L σ la (.inr (0, [.int 0, .int 0, .ref f0, .ref f1, .ref f2, .ref f3, .ref f4, .ref f5, .ref f6, .ref f7]))) (hw : zWorld cy L σ wo) (h00 : φ 0 0 la = 0) (h01 : φ 0 1 la = 0) (hh : φ 10 9 wo = nI 0) (hm : m ≤ 30) : zMI l D cy yX2_harmlessTax cX2_harmlessTax 4 .int (zrm 4 0 0) [.ref pl, .int (nI m)] L σ φ ρ (fun r _ => r = 10) := by
  refine zMI.mk (by decide) (Nat.le_of_ble_eq_true rfl) (fun E hE hret => ?_)
  show zW E 0 0 L σ φ ρ 0 [(0, .ref pl), (1, .int (nI m))] []
  obtain ⟨e0, e1, e2, e3, e4, e5, e6, g, hP2, hP20, hP21, hP22, hP23, hP24, hP25, hP26, hPW⟩ := id hpl
  obtain ⟨b0, b1, b2, b3, hE9, -, -, -, -⟩ := id hwe
  refine x_aload_n hE dX2_harmlessTax_0 rfl 0 rfl ?_
  refine h_getr hE hP2 rfl inZX2 3 (by decide) q510 rfl dX2_harmlessTax_1 ?_
  refine x_iconst (v := 0) hE dX2_harmlessTax_4 (by decide) ?_
  refine h_puti (ty := .int) (ty0 := tyX9) hE hE9 rfl inZX9 tyX9_ok nmX9 0 (by decide) q463 rfl rfl (by decide +kernel) rfl rfl dX2_harmlessTax_5 ?_
  refine x_aload_n hE dX2_harmlessTax_8 rfl 0 rfl ?_
  refine x_iload_n hE dX2_harmlessTax_9 rfl 1 rfl ?_
  refine c_rs hE (r_V (st := []) hE (k_foretell l D cy L σ (zup φ 9 0 we (0)) ρ m 0 hpl hwe ha hL hw (by simp [zup]; exact h00) (by simp [zup]; exact h01) (by simp [zup]; exact hh) (by omega) hm) q1345 q1165 q1166 q122 q1167 hP2 rfl ⟨by decide, by decide, pn_X2_foretell⟩ ⟨Nat.le_of_ble_eq_true rfl, Nat.le_of_ble_eq_true rfl⟩ ⟨Nat.le_of_ble_eq_true rfl, Nat.le_of_ble_eq_true rfl⟩ rfl (Nat.le_of_ble_eq_true rfl) dX2_harmlessTax_10) (fun r1 φ1 ρ1 hc => ?_)
  refine x_widen (k' := 0) (n' := 0) (Nat.le_of_ble_eq_true rfl) (Nat.le_of_ble_eq_true rfl) ?_
  obtain ⟨hr1, hc1, h1, hh1, hw1⟩ := hc
  have g00 : φ1 0 0 la = 0 := by rw [hc1 _ _ _ (by decide) (by decide)]; simp [zup]; exact h00
  have g01 : φ1 0 1 la = 0 := by rw [hc1 _ _ _ (by decide) (by decide)]; simp [zup]; exact h01
  obtain ⟨u0, u1, u2, u3, u4, u5, u6, u7, hu, hu0, hu1, hu2, hu3, hu4, hu5, hu6, hu7⟩ := id hr1
  refine h_getr hE hu rfl inZX10 1 (by decide) q220 rfl dX2_harmlessTax_13 ?_
  refine x_iconst (v := 0) hE dX2_harmlessTax_16 (by decide) ?_
  refine x_aload_n hE dX2_harmlessTax_17 rfl 0 rfl ?_
  refine h_getr hE hP2 rfl inZX2 6 (by decide) q513 rfl dX2_harmlessTax_18 ?_
  refine x_iconst (v := 0) hE dX2_harmlessTax_21 (by decide) ?_
  refine x_bipush (v := 6) hE dX2_harmlessTax_22 (by decide) ?_
  refine h_copy hE q1197 q960 q959 q132 hu1 hP23 (by decide) (by decide) (by decide) (by decide) (by decide) (Nat.le_of_ble_eq_true rfl) (Nat.le_of_ble_eq_true rfl) dX2_harmlessTax_24 ?_
  refine x_rho (fun ρ_24 hρ_24 => ?_)
  refine x_iconst (v := 0) hE dX2_harmlessTax_27 (by decide) ?_
  refine x_istore_n (lv' := [(2, .int 0), (0, .ref pl), (1, .int (nI m))]) hE dX2_harmlessTax_28 rfl (by decide) rfl ?_
  refine x_bipush (v := 10) hE dX2_harmlessTax_29 (by decide) ?_
  refine x_istore_n (lv' := [(3, .int 10), (2, .int 0), (0, .ref pl), (1, .int (nI m))]) hE dX2_harmlessTax_31 rfl (by decide) rfl ?_
  refine x_iload_n hE dX2_harmlessTax_32 rfl 0 rfl ?_
  refine x_if_le (tgt := 72) hE dX2_harmlessTax_33 (by decide) (fun c_33 => absurd c_33 (by decide)) (fun c_33 => ?_)
  refine x_iload_n hE dX2_harmlessTax_36 rfl 1 rfl ?_
  refine x_if_ne (tgt := 72) hE dX2_harmlessTax_37 (by decide) (fun c_37 => absurd c_37 (fun h => h (by decide))) (fun c_37 => ?_)
  refine x_aload_n hE dX2_harmlessTax_40 rfl 2 rfl ?_
  refine h_getr hE hP2 rfl inZX2 3 (by decide) q510 rfl dX2_harmlessTax_41 ?_
  refine x_iload_n hE dX2_harmlessTax_44 rfl 0 rfl ?_
  refine h_puti (ty := .int) (ty0 := tyX9) hE hE9 rfl inZX9 tyX9_ok nmX9 0 (by decide) q463 rfl rfl (by decide +kernel) rfl rfl dX2_harmlessTax_45 ?_
  refine x_aload_n hE dX2_harmlessTax_48 rfl 2 rfl ?_
  refine x_aload_n hE dX2_harmlessTax_49 rfl 2 rfl ?_
  refine x_iload_n hE dX2_harmlessTax_50 rfl 3 rfl ?_
  refine c_rs hE (r_V (st := [.ref pl]) hE (k_foretell l D cy L σ (zup φ1 9 0 we (10)) ρ_24 m h1 hpl hwe ha hL hw (by simp [zup]; exact g00) (by simp [zup]; exact g01) (by simp [zup]; exact hw1) (by omega) hm) q1345 q1165 q1166 q122 q1167 hP2 rfl ⟨by decide, by decide, pn_X2_foretell⟩ ⟨Nat.le_of_ble_eq_true rfl, Nat.le_of_ble_eq_true rfl⟩ ⟨Nat.le_of_ble_eq_true rfl, Nat.le_of_ble_eq_true rfl⟩ rfl (Nat.le_of_ble_eq_true rfl) dX2_harmlessTax_51) (fun r2 φ2 ρ2 hc2 => ?_)
  refine x_widen (k' := 0) (n' := 0) (Nat.le_of_ble_eq_true rfl) (Nat.le_of_ble_eq_true rfl) ?_
  obtain ⟨hr2, hd1, h2, hh2, hw2⟩ := hc2
  have d00 : φ2 0 0 la = 0 := by rw [hd1 _ _ _ (by decide) (by decide)]; simp [zup]; exact g00
  refine c_ip hE (r_V (st := []) hE (k_growsAsMuch l D cy L σ φ2 ρ2 hpl ha hL d00) q1346 q1348 q37 q122 q1349 hP2 rfl ⟨by decide, by decide, pn_X2_growsAsMuch⟩ ⟨Nat.le_of_ble_eq_true rfl, Nat.le_of_ble_eq_true rfl⟩ ⟨Nat.le_of_ble_eq_true rfl, Nat.le_of_ble_eq_true rfl⟩ rfl (Nat.le_of_ble_eq_true rfl) dX2_harmlessTax_54) (fun rg hg => ?_)
  refine x_widen (k' := 0) (n' := 0) (Nat.le_of_ble_eq_true rfl) (Nat.le_of_ble_eq_true rfl) ?_
  refine x_norm (y := 1) (hg) ?_
  refine x_if_eq (tgt := 64) hE dX2_harmlessTax_57 (by decide) (fun c_57 => absurd c_57 (by decide)) (fun c_57 => ?_)
  refine x_iload_n hE dX2_harmlessTax_60 rfl 0 rfl ?_
  refine x_goto (tgt := 65) hE dX2_harmlessTax_61 (by decide) ?_
  refine x_istore_n (lv' := [(2, .int 10), (3, .int 10), (0, .ref pl), (1, .int (nI m))]) hE dX2_harmlessTax_65 rfl (by decide) rfl ?_
  refine x_iinc (v := 9) (lv' := [(3, .int 9), (2, .int 10), (0, .ref pl), (1, .int (nI m))]) hE dX2_harmlessTax_66 1 rfl (by decide) (by decide) rfl ?_
  refine x_goto (tgt := 32) hE dX2_harmlessTax_69 (by decide) ?_
  refine x_iload_n hE dX2_harmlessTax_32 rfl 0 rfl ?_
  refine x_if_le (tgt := 72) hE dX2_harmlessTax_33 (by decide) (fun c_33 => absurd c_33 (by decide)) (fun c_33 => ?_)
  refine x_iload_n hE dX2_harmlessTax_36 rfl 1 rfl ?_
  refine x_if_ne (tgt := 72) hE dX2_harmlessTax_37 (by decide) (fun c_37 => ?_) (fun c_37 => absurd c_37 (by decide))
  refine x_aload_n hE dX2_harmlessTax_72 rfl 2 rfl ?_
  refine h_getr hE hP2 rfl inZX2 3 (by decide) q510 rfl dX2_harmlessTax_73 ?_
  refine x_iconst (v := -1) hE dX2_harmlessTax_76 (by decide) ?_
  refine h_puti (ty := .int) (ty0 := tyX9) hE hE9 rfl inZX9 tyX9_ok nmX9 0 (by decide) q463 rfl rfl (by decide +kernel) rfl rfl dX2_harmlessTax_77 ?_
  refine x_iload_n hE dX2_harmlessTax_80 rfl 1 rfl ?_
  exact hret _ _ _ _ _ _ _ _ (10) (Nat.le_of_ble_eq_true rfl) (Nat.le_of_ble_eq_true rfl) dX2_harmlessTax_81 (rfl) (rfl)
set_option maxHeartbeats 4000000 in
set_option maxRecDepth 100000 in
theorem o_greatestTax (l : Launch) (D : va_G) (cy : Nat → ClassId) (L : List Nat) (σ : Nat → va_E) (φ : Nat → Nat → Nat → Int32) (ρ : Nat → Nat → Int32) {x : Nat} (n : Int32) (hx : zOR cy L σ φ x) : zMI l D cy yX11_greatestTax cX11_greatestTax 2 .int (zrm 5 0 0) [.ref x, .int n] L σ φ ρ (fun r _ => r = if 1 ≤ n ∧ n ≤ 30 then 10 else -1) := by
  refine zMI.mk (by decide) (Nat.le_of_ble_eq_true rfl) (fun E hE hret => ?_)
  show zW E 0 0 L σ φ ρ 0 [(0, .ref x), (1, .int n)] []
  obtain ⟨now, kept, tape, reader, weather, planner, ways, la, wo, sp, li, te, g, la', wo', sp', li', te', g', hx, hs, hs0, hk, hk0, htp, htp0, hrd, hrd0, hrd1, hwe, hwe0, hpl, hwy⟩ := hx
  obtain ⟨hn, hla, hwo, hsp, hli, hte⟩ := id hs
  obtain ⟨p45, p46, p00, p01, p10, p50, p51, pl0, pl1, pl2, pg⟩ := id hs0
  obtain ⟨f0, f1, f2, f3, f4, f5, f6, f7, hL, hL0, hL1, hL2, hL3, hL4, hL5, hL6, hL7⟩ := id hla
  obtain ⟨w0, w1, w2, w3, w4, w5, w6, w7, hW, hW0, hW1, hW2, hW3, hW4, hW5, hW6, hW7⟩ := id hwo
  obtain ⟨s0, s1, hSp, hSp0, hSp1, hSpW⟩ := id hsp
  obtain ⟨i0, i1, i2, i3, i4, i5, i6, i7, hLi, hLi0, hLi1, hLi2, hLi3, hLi4, hLi5, hLi6, hLi7⟩ := id hli
  obtain ⟨t0, t1, t2, t3, hTp, hTp0, hTp1, hTp2, hTp3, hTn1, hTn2⟩ := id htp
  obtain ⟨_, _, _, _, _, _, _, _, hplT, -⟩ := id hpl
  refine x_iload_n hE dX11_greatestTax_0 rfl 1 rfl ?_
  refine x_iconst (v := 1) hE dX11_greatestTax_1 (by decide) ?_
  refine x_bipush (v := 30) hE dX11_greatestTax_2 (by decide) ?_
  refine c_ip hE (r_S (st := []) hE (k_isWithin l D cy L σ φ ρ (n) (1) (30)) q582 q583 q113 q584 ⟨by decide, by decide, pn_X11_isWithin⟩ ⟨Nat.le_of_ble_eq_true rfl, Nat.le_of_ble_eq_true rfl⟩ ⟨Nat.le_of_ble_eq_true rfl, Nat.le_of_ble_eq_true rfl⟩ rfl (Nat.le_of_ble_eq_true rfl) dX11_greatestTax_4) (fun r4 h4 => ?_)
  refine x_widen (k' := 0) (n' := 0) (Nat.le_of_ble_eq_true rfl) (Nat.le_of_ble_eq_true rfl) ?_
  refine x_if_eq (tgt := 21) hE dX11_greatestTax_7 (by decide) (fun c_7 => ?_) (fun c_7 => ?_)
  · refine x_iconst (v := -1) hE dX11_greatestTax_21 (by decide) ?_
    exact hret _ _ _ _ _ _ _ _ (-1) (Nat.le_of_ble_eq_true rfl) (Nat.le_of_ble_eq_true rfl) dX11_greatestTax_22 (rfl) (by grind [zb])
  · have hn1 : 1 ≤ n ∧ n ≤ 30 := by grind [zb]
    obtain ⟨m, hm1, hm2, rfl⟩ := z_nI (a := 1) (b := 30) hn1 (by omega) (by omega)
    refine x_aload_n hE dX11_greatestTax_10 rfl 0 rfl ?_
    refine h_getr hE hx rfl inZX11 5 (by decide) q561 rfl dX11_greatestTax_11 ?_
    refine x_iload_n hE dX11_greatestTax_14 rfl 1 rfl ?_
    refine c_i hE (r_V (st := []) hE (k_harmlessTax l D cy L σ φ ρ m hpl hwe hn hL hwo p00 p01 (by rw [nI_0]; simpa using p10 9) hm2) q1341 q1342 q1343 q122 q1344 hplT rfl ⟨by decide, by decide, pn_X2_harmlessTax⟩ ⟨Nat.le_of_ble_eq_true rfl, Nat.le_of_ble_eq_true rfl⟩ ⟨Nat.le_of_ble_eq_true rfl, Nat.le_of_ble_eq_true rfl⟩ rfl (Nat.le_of_ble_eq_true rfl) dX11_greatestTax_15) (fun rh L' σ' φ' ρ' hh => ?_)
    refine x_widen (k' := 0) (n' := 0) (Nat.le_of_ble_eq_true rfl) (Nat.le_of_ble_eq_true rfl) ?_
    refine x_goto (tgt := 22) hE dX11_greatestTax_18 (by decide) ?_
    exact hret _ _ _ _ _ _ _ _ (rh) (Nat.le_of_ble_eq_true rfl) (Nat.le_of_ble_eq_true rfl) dX11_greatestTax_22 (rfl) (by rw [if_pos hn1]; exact hh)
