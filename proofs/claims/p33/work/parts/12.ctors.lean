theorem dX2_init_0 : decode cX2_init 0 = .ok (.aload_n 0, 1) := by decide +kernel
theorem dX2_init_1 : decode cX2_init 1 = .ok (.invokespecial 3, 3) := by decide +kernel
theorem dX2_init_4 : decode cX2_init 4 = .ok (.aload_n 0, 1) := by decide +kernel
theorem dX2_init_5 : decode cX2_init 5 = .ok (.iconst 5, 1) := by decide +kernel
theorem dX2_init_6 : decode cX2_init 6 = .ok (.newarray .int, 2) := by decide +kernel
theorem dX2_init_8 : decode cX2_init 8 = .ok (.putfield 9, 3) := by decide +kernel
theorem dX2_init_11 : decode cX2_init 11 = .ok (.aload_n 0, 1) := by decide +kernel
theorem dX2_init_12 : decode cX2_init 12 = .ok (.bipush 6, 2) := by decide +kernel
theorem dX2_init_14 : decode cX2_init 14 = .ok (.anewarray 15, 3) := by decide +kernel
theorem dX2_init_17 : decode cX2_init 17 = .ok (.putfield 17, 3) := by decide +kernel
theorem dX2_init_20 : decode cX2_init 20 = .ok (.aload_n 0, 1) := by decide +kernel
theorem dX2_init_21 : decode cX2_init 21 = .ok (.iconst 5, 1) := by decide +kernel
theorem dX2_init_22 : decode cX2_init 22 = .ok (.newarray .int, 2) := by decide +kernel
theorem dX2_init_24 : decode cX2_init 24 = .ok (.putfield 21, 3) := by decide +kernel
theorem dX2_init_27 : decode cX2_init 27 = .ok (.aload_n 0, 1) := by decide +kernel
theorem dX2_init_28 : decode cX2_init 28 = .ok (.bipush 6, 2) := by decide +kernel
theorem dX2_init_30 : decode cX2_init 30 = .ok (.newarray .int, 2) := by decide +kernel
theorem dX2_init_32 : decode cX2_init 32 = .ok (.putfield 24, 3) := by decide +kernel
theorem dX2_init_35 : decode cX2_init 35 = .ok (.aload_n 0, 1) := by decide +kernel
theorem dX2_init_36 : decode cX2_init 36 = .ok (.bipush 8, 2) := by decide +kernel
theorem dX2_init_38 : decode cX2_init 38 = .ok (.newarray .int, 2) := by decide +kernel
theorem dX2_init_40 : decode cX2_init 40 = .ok (.putfield 27, 3) := by decide +kernel
theorem dX2_init_43 : decode cX2_init 43 = .ok (.aload_n 0, 1) := by decide +kernel
theorem dX2_init_44 : decode cX2_init 44 = .ok (.bipush 48, 2) := by decide +kernel
theorem dX2_init_46 : decode cX2_init 46 = .ok (.newarray .int, 2) := by decide +kernel
theorem dX2_init_48 : decode cX2_init 48 = .ok (.putfield 30, 3) := by decide +kernel
theorem dX2_init_51 : decode cX2_init 51 = .ok (.aload_n 0, 1) := by decide +kernel
theorem dX2_init_52 : decode cX2_init 52 = .ok (.bipush 64, 2) := by decide +kernel
theorem dX2_init_54 : decode cX2_init 54 = .ok (.newarray .int, 2) := by decide +kernel
theorem dX2_init_56 : decode cX2_init 56 = .ok (.putfield 33, 3) := by decide +kernel
theorem dX2_init_59 : decode cX2_init 59 = .ok (.aload_n 0, 1) := by decide +kernel
theorem dX2_init_60 : decode cX2_init 60 = .ok (.aload_n 1, 1) := by decide +kernel
theorem dX2_init_61 : decode cX2_init 61 = .ok (.putfield 36, 3) := by decide +kernel
theorem dX2_init_64 : decode cX2_init 64 = .ok (.aload_n 0, 1) := by decide +kernel
theorem dX2_init_65 : decode cX2_init 65 = .ok (.aload_n 2, 1) := by decide +kernel
theorem dX2_init_66 : decode cX2_init 66 = .ok (.putfield 40, 3) := by decide +kernel
theorem dX2_init_69 : decode cX2_init 69 = .ok (.iconst 0, 1) := by decide +kernel
theorem dX2_init_70 : decode cX2_init 70 = .ok (.istore_n 3, 1) := by decide +kernel
theorem dX2_init_71 : decode cX2_init 71 = .ok (.iload_n 3, 1) := by decide +kernel
theorem dX2_init_72 : decode cX2_init 72 = .ok (.iconst 5, 1) := by decide +kernel
theorem dX2_init_73 : decode cX2_init 73 = .ok (.if_icmp .gt 22, 3) := by decide +kernel
theorem dX2_init_76 : decode cX2_init 76 = .ok (.aload_n 0, 1) := by decide +kernel
theorem dX2_init_77 : decode cX2_init 77 = .ok (.getfield 17, 3) := by decide +kernel
theorem dX2_init_80 : decode cX2_init 80 = .ok (.iload_n 3, 1) := by decide +kernel
theorem dX2_init_81 : decode cX2_init 81 = .ok (.new 15, 3) := by decide +kernel
theorem dX2_init_84 : decode cX2_init 84 = .ok (.dup, 1) := by decide +kernel
theorem dX2_init_85 : decode cX2_init 85 = .ok (.invokespecial 44, 3) := by decide +kernel
theorem dX2_init_88 : decode cX2_init 88 = .ok (.aastore, 1) := by decide +kernel
theorem dX2_init_89 : decode cX2_init 89 = .ok (.iinc 3 1, 3) := by decide +kernel
theorem dX2_init_92 : decode cX2_init 92 = .ok (.goto (-21), 3) := by decide +kernel
theorem dX2_init_95 : decode cX2_init 95 = .ok (.return_, 1) := by decide +kernel
theorem dX5_init_0 : decode cX5_init 0 = .ok (.aload_n 0, 1) := by decide +kernel
theorem dX5_init_1 : decode cX5_init 1 = .ok (.invokespecial 3, 3) := by decide +kernel
theorem dX5_init_4 : decode cX5_init 4 = .ok (.aload_n 0, 1) := by decide +kernel
theorem dX5_init_5 : decode cX5_init 5 = .ok (.bipush 30, 2) := by decide +kernel
theorem dX5_init_7 : decode cX5_init 7 = .ok (.anewarray 9, 3) := by decide +kernel
theorem dX5_init_10 : decode cX5_init 10 = .ok (.putfield 11, 3) := by decide +kernel
theorem dX5_init_13 : decode cX5_init 13 = .ok (.aload_n 0, 1) := by decide +kernel
theorem dX5_init_14 : decode cX5_init 14 = .ok (.bipush 30, 2) := by decide +kernel
theorem dX5_init_16 : decode cX5_init 16 = .ok (.newarray .int, 2) := by decide +kernel
theorem dX5_init_18 : decode cX5_init 18 = .ok (.putfield 17, 3) := by decide +kernel
theorem dX5_init_21 : decode cX5_init 21 = .ok (.iconst 0, 1) := by decide +kernel
theorem dX5_init_22 : decode cX5_init 22 = .ok (.istore_n 1, 1) := by decide +kernel
theorem dX5_init_23 : decode cX5_init 23 = .ok (.iload_n 1, 1) := by decide +kernel
theorem dX5_init_24 : decode cX5_init 24 = .ok (.bipush 30, 2) := by decide +kernel
theorem dX5_init_26 : decode cX5_init 26 = .ok (.if_icmp .ge 22, 3) := by decide +kernel
theorem dX5_init_29 : decode cX5_init 29 = .ok (.aload_n 0, 1) := by decide +kernel
theorem dX5_init_30 : decode cX5_init 30 = .ok (.getfield 11, 3) := by decide +kernel
theorem dX5_init_33 : decode cX5_init 33 = .ok (.iload_n 1, 1) := by decide +kernel
theorem dX5_init_34 : decode cX5_init 34 = .ok (.new 9, 3) := by decide +kernel
theorem dX5_init_37 : decode cX5_init 37 = .ok (.dup, 1) := by decide +kernel
theorem dX5_init_38 : decode cX5_init 38 = .ok (.invokespecial 21, 3) := by decide +kernel
theorem dX5_init_41 : decode cX5_init 41 = .ok (.aastore, 1) := by decide +kernel
theorem dX5_init_42 : decode cX5_init 42 = .ok (.iinc 1 1, 3) := by decide +kernel
theorem dX5_init_45 : decode cX5_init 45 = .ok (.goto (-22), 3) := by decide +kernel
theorem dX5_init_48 : decode cX5_init 48 = .ok (.return_, 1) := by decide +kernel
-- Steps()
set_option maxHeartbeats 4000000 in
set_option maxRecDepth 100000 in
theorem k_Steps (l : Launch) (D : va_G) (cy : Nat → ClassId) (L : List Nat) (σ : Nat → va_E) (φ : Nat → Nat → Nat → Int32) (ρ : Nat → Nat → Int32) {w  : Nat} (hw_0 : zT L σ w (.inr (5, [.int 0, .int 0, .null, .null]))) : zMV l D cy yX5_init cX5_init 2 (zrm 2 272 3570) [.ref w] L σ φ ρ (fun u => zX w L σ φ ρ u.1 u.2.1 u.2.2.1 u.2.2.2 ∧ (∃ g, zSteps cy u.1 u.2.1 w g ∧ zWs cy u.1 u.2.1 u.2.2.1 g 30) ∧ ∀ c i, u.2.2.1 c i w = φ c i w) := by
  refine zMV.mk (by decide) (Nat.le_of_ble_eq_true rfl) (fun E hE hI hret => ?_)
  have hI := hI rfl
  show zW E 0 0 L σ φ ρ 0 [(0, .ref w)] []
  refine x_aload_n hE dX5_init_0 rfl 0 rfl ?_
  refine x_objinit hE q293 q140 q141 dX5_init_1 (Nat.le_of_ble_eq_true rfl) (Nat.le_of_ble_eq_true rfl) ?_
  refine x_aload_n hE dX5_init_4 rfl 0 rfl ?_
  refine x_bipush (v := 30) hE dX5_init_5 (by decide) ?_
  refine x_nq (t0 := 4) (fty := .array (.object "OwnRain$World")) (ty0 := tyX5) (N0 := 30) (j0 := 2) hE hI hw_0 rfl inZX5 tyX5_ok nmX5 (by decide) q301 rfl rfl rfl (by decide +kernel) (fun _ => ⟨rfl, rfl⟩) q294 rfl (Or.inr rfl) (by decide) (by decide) (Nat.le_of_ble_eq_true rfl) (Nat.le_of_ble_eq_true rfl) (Nat.le_of_ble_eq_true rfl) dX5_init_7 dX5_init_10 (fun q_1 L_1 σ_1 φ_1 ρ_1 hn_1 hx_1 hw_1 hp_1 ha_1 => ?_)
  refine x_aload_n hE dX5_init_13 rfl 0 rfl ?_
  refine x_bipush (v := 30) hE dX5_init_14 (by decide) ?_
  refine x_np (t0 := 0) (ty := .int) (fty := (.array .int)) (ty0 := tyX5) (N0 := 30) (x := (30, .inl (fun _ => 0))) (j0 := 3) hE hI hw_1 rfl inZX5 tyX5_ok nmX5 (by decide) q302 rfl rfl rfl (by decide +kernel) (fun _ => ⟨rfl, rfl⟩) rfl (fun _ h => nomatch h) q207 rfl (fun _ => rfl) (fun _ => rfl) (fun _ => rfl) (by decide) (by decide) (Nat.le_of_ble_eq_true rfl) (Nat.le_of_ble_eq_true rfl) (Nat.le_of_ble_eq_true rfl) dX5_init_16 dX5_init_18 (fun q_2 L_2 σ_2 φ_2 ρ_2 hn_2 hx_2 hw_2 hp_2 ha_2 hr_2 => ?_)
  refine x_iconst (v := 0) hE dX5_init_21 (by decide) ?_
  refine x_istore_n (lv' := [(1, .int 0), (0, .ref w)]) hE dX5_init_22 rfl (by decide) rfl ?_
  have hX_2 := hx_2
  have hX_1 := hx_1.tr hX_2
  have hnar : q_1 ∉ L := fun h => hn_1 (h)
  have loop : ∀ (m i : Nat) (L' : List Nat) (σ' : Nat → va_E) (φ' : Nat → Nat → Nat → Int32) (ρ' : Nat → Nat → Int32) (g : Nat → Option Nat), i ≤ 30 → 30 - i < m → zX w L σ φ ρ L' σ' φ' ρ' → zT L' σ' w (.inr (5, [.int 0, .int 0, .ref q_1, .ref q_2])) → zT L' σ' q_1 (zRA (cy 4) 30 g) → zT L' σ' q_2 (zIA cy 30) → (∀ c j, φ' c j w = φ c j w) → zWs cy L' σ' φ' g i → zW E (2 + 9 * i) (60 + 117 * i) L' σ' φ' ρ' 23 [(1, .int (nI i)), (0, .ref w)] [] := by
    intro m
    induction m with
    | zero => intro i L' σ' φ' ρ' g h1 h2; omega
    | succ m ih =>
      intro i L' σ' φ' ρ' g hi hm hX hw har hb_2 hp hws
      rcases Nat.lt_or_ge i 30 with hlt | hge
      · refine x_iload_n hE dX5_init_23 rfl 0 rfl ?_
        refine x_bipush (v := 30) hE dX5_init_24 (by decide) ?_
        refine x_icmp_ge (tgt := 48) hE dX5_init_26 (by decide) (fun c_26 => absurd c_26 (fun h => Nat.not_le.mpr hlt ((nI_leI (a := 30) (by omega) (by omega)).mp h))) (fun c_26 => ?_)
        refine x_aload_n hE dX5_init_29 rfl 1 rfl ?_
        refine h_getr hE hw rfl inZX5 2 (by decide) q301 rfl dX5_init_30 ?_
        refine x_iload_n hE dX5_init_33 rfl 0 rfl ?_
        refine h_new (ci := 10) (fs := [.null, .null, .null, .null, .null, .null, .int 0, .int 0, .int 0, .int 0, .int 0, .int 0, .int 0, .null, .null]) (ty0 := tyX10) hE rfl inZX10 tyX10_ok q294 q209 q116 (by decide +kernel) rfl (fun c i => by by_cases hc : 10 = c <;> simp [zfI, hc] <;> (rcases i with _ | _ | _ | _ | _ | _ | _ | _ | _ | _ | _ | _ | _ | _ | _ | i <;> rfl)) (by simp only [zrm]; omega) (by simp only [zrm]; omega) dX5_init_34 (fun q_101 L_101 σ_101 φ_101 ρ_101 hn_101 hx_101 hw_101 hp_101 => ?_)
        refine x_dup hE dX5_init_37 rfl ?_
        refine c_v hE (r_IN (st := [.ref q_101, .int (nI i), .ref q_1]) hE (k_World l D cy L_101 σ_101 φ_101 ρ_101 hw_101) (by decide +kernel) q211 q116 q212 rfl ⟨by decide, by decide, pn_X10_init⟩ ⟨Nat.le_of_ble_eq_true rfl, Nat.le_of_ble_eq_true rfl⟩ ⟨by simp only [zrm]; omega, by simp only [zrm]; omega⟩ rfl (Nat.le_of_ble_eq_true rfl) dX5_init_38) (fun L2 σ2 φ2 ρ2 h2 => ?_)
        refine x_widen (k' := 2 + 9 * (i + 1)) (n' := 60 + 117 * (i + 1)) (by simp only [zrm]; omega) (by simp only [zrm]; omega) ?_
        obtain ⟨hX2, hW2, hp2⟩ := h2
        dsimp only at hX2 hW2 hp2
        have hne : ∀ b ∈ L', b ≠ q_101 := fun b hb h => hn_101 (h ▸ hb)
        have har2 := hX2.T (zX.all hx_101 har) (hne _ har.1)
        obtain ⟨_, _, _, _, _, _, _, _, hv2, -⟩ := id hW2
        refine h_aast (t0 := 4) (ci := 10) hE har2 hv2 rfl rfl (vp_in_nI hlt (by omega)) dX5_init_41 ?_
        rw [nI_clamp (show i < 2 ^ 31 by omega)]
        refine x_iinc (v := nI (i + 1)) (lv' := [(1, .int (nI (i + 1))), (0, .ref w)]) hE dX5_init_42 0 rfl (nI_1 i) (by decide) rfl ?_
        refine x_goto (tgt := 23) hE dX5_init_45 (by decide) ?_
        have tr : ∀ b e, zT L' σ' b e → b ≠ q_1 → zT L2 (va_up σ2 q_1 (zRA (cy 4) 30 (va_up g i (some q_101)))) b e := fun b e hb hn => (zX.up (φ := φ2) (ρ := ρ2)).T (hX2.T (zX.all hx_101 hb) (hne _ hb.1)) hn
        refine x_sub (lv' := [(1, .int (nI (i + 1))), (0, .ref w)]) (by simp) ?_
        exact ih (i + 1) L2 _ φ2 ρ2 (va_up g i (some q_101)) (by omega) (by omega) (((hX.tr (hx_101 w)).tr' (fun h => hn_101 (hX.1 _ h)) hX2).tr' hnar zX.up) (tr _ _ hw (zT.ne hw har (by simp [zRA]))) ⟨har2.1, va_up_self _ _ _⟩ (tr _ _ hb_2 (zT.ne hb_2 har (by simp [zRA]))) (fun c j => ((hX2.2 w ((hx_101 w).1 w hw.1) (hne w hw.1)).2.1 c j).trans ((((hx_101 q_101).2 w hw.1 (hne w hw.1)).2.1 c j).trans (hp c j))) (hws.next hn_101 hx_101 hw_101 hX2 hW2 (by rw [hp2, hp_101]; rfl) har2)
      · have hi30 : i = 30 := by omega
        subst hi30
        refine x_iload_n hE dX5_init_23 rfl 0 rfl ?_
        refine x_bipush (v := 30) hE dX5_init_24 (by decide) ?_
        refine x_icmp_ge (tgt := 48) hE dX5_init_26 (by decide) (fun c_26 => ?_) (fun c_26 => absurd ((nI_leI (a := 30) (b := 30) (by omega) (by omega)).mpr (Nat.le_refl _)) c_26)
        exact hret _ _ _ _ _ _ _ _ (Nat.le_of_ble_eq_true rfl) (Nat.le_of_ble_eq_true rfl) dX5_init_48 ⟨hX, ⟨g, ⟨_, _, hw, har, hb_2, fun i hi => (hws i hi).imp (fun x hx => ⟨hx.1, hx.2.1⟩)⟩, hws⟩, hp⟩
  refine x_sub (lv' := [(1, .int (nI 0)), (0, .ref w)]) (by simp [nI_0]) ?_
  exact loop 31 0 _ _ _ _ (fun _ => none) (by omega) (by omega) hX_1 hw_2 (hX_2.T ha_1 (zT.ne ha_1 hw_1 (by simp [zRA]))) ha_2 (fun c i => by rw [hp_2, hp_1]) (fun j h => absurd h (Nat.not_lt_zero j))
-- Planner(s, t)
set_option maxHeartbeats 4000000 in
set_option maxRecDepth 100000 in
theorem k_Planner (l : Launch) (D : va_G) (cy : Nat → ClassId) (L : List Nat) (σ : Nat → va_E) (φ : Nat → Nat → Nat → Int32) (ρ : Nat → Nat → Int32) {w s t : Nat} (hw_0 : zT L σ w (.inr (2, [.int 0, .null, .null, .null, .null, .null, .null, .null, .null, .null]))) : zMV l D cy yX2_init cX2_init 4 (zrm 2 61 844) [.ref w, .ref s, .ref t] L σ φ ρ (fun u => zX w L σ φ ρ u.1 u.2.1 u.2.2.1 u.2.2.2 ∧ zPlanner cy u.1 u.2.1 w s t ∧ ∀ c i, u.2.2.1 c i w = φ c i w) := by
  refine zMV.mk (by decide) (Nat.le_of_ble_eq_true rfl) (fun E hE hI hret => ?_)
  have hI := hI rfl
  show zW E 0 0 L σ φ ρ 0 [(0, .ref w), (1, .ref s), (2, .ref t)] []
  refine x_aload_n hE dX2_init_0 rfl 0 rfl ?_
  refine x_objinit hE q502 q140 q141 dX2_init_1 (Nat.le_of_ble_eq_true rfl) (Nat.le_of_ble_eq_true rfl) ?_
  refine x_aload_n hE dX2_init_4 rfl 0 rfl ?_
  refine x_iconst (v := 5) hE dX2_init_5 (by decide) ?_
  refine x_np (t0 := 0) (ty := .int) (fty := (.array .int)) (ty0 := tyX2) (N0 := 5) (x := (5, .inl (fun _ => 0))) (j0 := 1) hE hI hw_0 rfl inZX2 tyX2_ok nmX2 (by decide) q507 rfl rfl rfl (by decide +kernel) (fun _ => ⟨rfl, rfl⟩) rfl (fun _ h => nomatch h) q207 rfl (fun _ => rfl) (fun _ => rfl) (fun _ => rfl) (by decide) (by decide) (Nat.le_of_ble_eq_true rfl) (Nat.le_of_ble_eq_true rfl) (Nat.le_of_ble_eq_true rfl) dX2_init_6 dX2_init_8 (fun q_1 L_1 σ_1 φ_1 ρ_1 hn_1 hx_1 hw_1 hp_1 ha_1 hr_1 => ?_)
  refine x_aload_n hE dX2_init_11 rfl 0 rfl ?_
  refine x_bipush (v := 6) hE dX2_init_12 (by decide) ?_
  refine x_nq (t0 := 4) (fty := .array (.object "OwnRain$World")) (ty0 := tyX2) (N0 := 6) (j0 := 4) hE hI hw_1 rfl inZX2 tyX2_ok nmX2 (by decide) q511 rfl rfl rfl (by decide +kernel) (fun _ => ⟨rfl, rfl⟩) q503 rfl (Or.inr rfl) (by decide) (by decide) (Nat.le_of_ble_eq_true rfl) (Nat.le_of_ble_eq_true rfl) (Nat.le_of_ble_eq_true rfl) dX2_init_14 dX2_init_17 (fun q_2 L_2 σ_2 φ_2 ρ_2 hn_2 hx_2 hw_2 hp_2 ha_2 => ?_)
  refine x_aload_n hE dX2_init_20 rfl 0 rfl ?_
  refine x_iconst (v := 5) hE dX2_init_21 (by decide) ?_
  refine x_np (t0 := 0) (ty := .int) (fty := (.array .int)) (ty0 := tyX2) (N0 := 5) (x := (5, .inl (fun _ => 0))) (j0 := 5) hE hI hw_2 rfl inZX2 tyX2_ok nmX2 (by decide) q512 rfl rfl rfl (by decide +kernel) (fun _ => ⟨rfl, rfl⟩) rfl (fun _ h => nomatch h) q207 rfl (fun _ => rfl) (fun _ => rfl) (fun _ => rfl) (by decide) (by decide) (Nat.le_of_ble_eq_true rfl) (Nat.le_of_ble_eq_true rfl) (Nat.le_of_ble_eq_true rfl) dX2_init_22 dX2_init_24 (fun q_3 L_3 σ_3 φ_3 ρ_3 hn_3 hx_3 hw_3 hp_3 ha_3 hr_3 => ?_)
  refine x_aload_n hE dX2_init_27 rfl 0 rfl ?_
  refine x_bipush (v := 6) hE dX2_init_28 (by decide) ?_
  refine x_np (t0 := 0) (ty := .int) (fty := (.array .int)) (ty0 := tyX2) (N0 := 6) (x := (6, .inl (fun _ => 0))) (j0 := 6) hE hI hw_3 rfl inZX2 tyX2_ok nmX2 (by decide) q513 rfl rfl rfl (by decide +kernel) (fun _ => ⟨rfl, rfl⟩) rfl (fun _ h => nomatch h) q207 rfl (fun _ => rfl) (fun _ => rfl) (fun _ => rfl) (by decide) (by decide) (Nat.le_of_ble_eq_true rfl) (Nat.le_of_ble_eq_true rfl) (Nat.le_of_ble_eq_true rfl) dX2_init_30 dX2_init_32 (fun q_4 L_4 σ_4 φ_4 ρ_4 hn_4 hx_4 hw_4 hp_4 ha_4 hr_4 => ?_)
  refine x_aload_n hE dX2_init_35 rfl 0 rfl ?_
  refine x_bipush (v := 8) hE dX2_init_36 (by decide) ?_
  refine x_np (t0 := 0) (ty := .int) (fty := (.array .int)) (ty0 := tyX2) (N0 := 8) (x := (8, .inl (fun _ => 0))) (j0 := 7) hE hI hw_4 rfl inZX2 tyX2_ok nmX2 (by decide) q514 rfl rfl rfl (by decide +kernel) (fun _ => ⟨rfl, rfl⟩) rfl (fun _ h => nomatch h) q207 rfl (fun _ => rfl) (fun _ => rfl) (fun _ => rfl) (by decide) (by decide) (Nat.le_of_ble_eq_true rfl) (Nat.le_of_ble_eq_true rfl) (Nat.le_of_ble_eq_true rfl) dX2_init_38 dX2_init_40 (fun q_5 L_5 σ_5 φ_5 ρ_5 hn_5 hx_5 hw_5 hp_5 ha_5 hr_5 => ?_)
  refine x_aload_n hE dX2_init_43 rfl 0 rfl ?_
  refine x_bipush (v := 48) hE dX2_init_44 (by decide) ?_
  refine x_np (t0 := 0) (ty := .int) (fty := (.array .int)) (ty0 := tyX2) (N0 := 48) (x := (48, .inl (fun _ => 0))) (j0 := 8) hE hI hw_5 rfl inZX2 tyX2_ok nmX2 (by decide) q516 rfl rfl rfl (by decide +kernel) (fun _ => ⟨rfl, rfl⟩) rfl (fun _ h => nomatch h) q207 rfl (fun _ => rfl) (fun _ => rfl) (fun _ => rfl) (by decide) (by decide) (Nat.le_of_ble_eq_true rfl) (Nat.le_of_ble_eq_true rfl) (Nat.le_of_ble_eq_true rfl) dX2_init_46 dX2_init_48 (fun q_6 L_6 σ_6 φ_6 ρ_6 hn_6 hx_6 hw_6 hp_6 ha_6 hr_6 => ?_)
  refine x_aload_n hE dX2_init_51 rfl 0 rfl ?_
  refine x_bipush (v := 64) hE dX2_init_52 (by decide) ?_
  refine x_np (t0 := 0) (ty := .int) (fty := (.array .int)) (ty0 := tyX2) (N0 := 64) (x := (64, .inl (fun _ => 0))) (j0 := 9) hE hI hw_6 rfl inZX2 tyX2_ok nmX2 (by decide) q517 rfl rfl rfl (by decide +kernel) (fun _ => ⟨rfl, rfl⟩) rfl (fun _ h => nomatch h) q207 rfl (fun _ => rfl) (fun _ => rfl) (fun _ => rfl) (by decide) (by decide) (Nat.le_of_ble_eq_true rfl) (Nat.le_of_ble_eq_true rfl) (Nat.le_of_ble_eq_true rfl) dX2_init_54 dX2_init_56 (fun q_7 L_7 σ_7 φ_7 ρ_7 hn_7 hx_7 hw_7 hp_7 ha_7 hr_7 => ?_)
  refine x_aload_n hE dX2_init_59 rfl 0 rfl ?_
  refine x_aload_n hE dX2_init_60 rfl 1 rfl ?_
  refine x_putr (ty := .object "OwnRain$State") (ty0 := tyX2) (j0 := 2) hE (Or.inl ⟨hI, rfl, rfl⟩) hw_7 rfl inZX2 tyX2_ok nmX2 (by decide) q509 ⟨_, rfl, Or.inl rfl⟩ (by decide +kernel) rfl rfl dX2_init_61 (fun σ_8 hx_8 hw_8 => ?_)
  refine x_aload_n hE dX2_init_64 rfl 0 rfl ?_
  refine x_aload_n hE dX2_init_65 rfl 2 rfl ?_
  refine x_putr (ty := .object "OwnRain$Weather") (ty0 := tyX2) (j0 := 3) hE (Or.inl ⟨hI, rfl, rfl⟩) hw_8 rfl inZX2 tyX2_ok nmX2 (by decide) q510 ⟨_, rfl, Or.inl rfl⟩ (by decide +kernel) rfl rfl dX2_init_66 (fun σ_9 hx_9 hw_9 => ?_)
  refine x_iconst (v := 0) hE dX2_init_69 (by decide) ?_
  refine x_istore_n (lv' := [(3, .int 0), (0, .ref w), (1, .ref s), (2, .ref t)]) hE dX2_init_70 rfl (by decide) rfl ?_
  have hX_9 := hx_9
  have hX_8 := hx_8.tr hX_9
  have hX_7 := hx_7.tr hX_8
  have hX_6 := hx_6.tr hX_7
  have hX_5 := hx_5.tr hX_6
  have hX_4 := hx_4.tr hX_5
  have hX_3 := hx_3.tr hX_4
  have hX_2 := hx_2.tr hX_3
  have hX_1 := hx_1.tr hX_2
  have hnar : q_2 ∉ L := fun h => hn_2 (hx_1.1 _ h)
  have loop : ∀ (m i : Nat) (L' : List Nat) (σ' : Nat → va_E) (φ' : Nat → Nat → Nat → Int32) (ρ' : Nat → Nat → Int32) (g : Nat → Option Nat), i ≤ 6 → 6 - i < m → zX w L σ φ ρ L' σ' φ' ρ' → zT L' σ' w (.inr (2, [.int 0, .ref q_1, .ref s, .ref t, .ref q_2, .ref q_3, .ref q_4, .ref q_5, .ref q_6, .ref q_7])) → zT L' σ' q_2 (zRA (cy 4) 6 g) → zT L' σ' q_1 (zIA cy 5) → zT L' σ' q_3 (zIA cy 5) → zT L' σ' q_4 (zIA cy 6) → zT L' σ' q_5 (zIA cy 8) → zT L' σ' q_6 (zIA cy 48) → zT L' σ' q_7 (zIA cy 64) → (∀ c j, φ' c j w = φ c j w) → zWs cy L' σ' φ' g i → zW E (7 + 9 * i) (142 + 117 * i) L' σ' φ' ρ' 71 [(3, .int (nI i)), (0, .ref w), (1, .ref s), (2, .ref t)] [] := by
    intro m
    induction m with
    | zero => intro i L' σ' φ' ρ' g h1 h2; omega
    | succ m ih =>
      intro i L' σ' φ' ρ' g hi hm hX hw har hb_1 hb_3 hb_4 hb_5 hb_6 hb_7 hp hws
      rcases Nat.lt_or_ge i 6 with hlt | hge
      · refine x_iload_n hE dX2_init_71 rfl 0 rfl ?_
        refine x_iconst (v := 5) hE dX2_init_72 (by decide) ?_
        refine x_icmp_gt (tgt := 95) hE dX2_init_73 (by decide) (fun c_73 => absurd c_73 (fun h => absurd ((nI_ltI (a := 5) (by omega) (by omega)).mp h) (by omega))) (fun c_73 => ?_)
        refine x_aload_n hE dX2_init_76 rfl 1 rfl ?_
        refine h_getr hE hw rfl inZX2 4 (by decide) q511 rfl dX2_init_77 ?_
        refine x_iload_n hE dX2_init_80 rfl 0 rfl ?_
        refine h_new (ci := 10) (fs := [.null, .null, .null, .null, .null, .null, .int 0, .int 0, .int 0, .int 0, .int 0, .int 0, .int 0, .null, .null]) (ty0 := tyX10) hE rfl inZX10 tyX10_ok q503 q209 q116 (by decide +kernel) rfl (fun c i => by by_cases hc : 10 = c <;> simp [zfI, hc] <;> (rcases i with _ | _ | _ | _ | _ | _ | _ | _ | _ | _ | _ | _ | _ | _ | _ | i <;> rfl)) (by simp only [zrm]; omega) (by simp only [zrm]; omega) dX2_init_81 (fun q_101 L_101 σ_101 φ_101 ρ_101 hn_101 hx_101 hw_101 hp_101 => ?_)
        refine x_dup hE dX2_init_84 rfl ?_
        refine c_v hE (r_IN (st := [.ref q_101, .int (nI i), .ref q_2]) hE (k_World l D cy L_101 σ_101 φ_101 ρ_101 hw_101) (by decide +kernel) q211 q116 q212 rfl ⟨by decide, by decide, pn_X10_init⟩ ⟨Nat.le_of_ble_eq_true rfl, Nat.le_of_ble_eq_true rfl⟩ ⟨by simp only [zrm]; omega, by simp only [zrm]; omega⟩ rfl (Nat.le_of_ble_eq_true rfl) dX2_init_85) (fun L2 σ2 φ2 ρ2 h2 => ?_)
        refine x_widen (k' := 7 + 9 * (i + 1)) (n' := 142 + 117 * (i + 1)) (by simp only [zrm]; omega) (by simp only [zrm]; omega) ?_
        obtain ⟨hX2, hW2, hp2⟩ := h2
        dsimp only at hX2 hW2 hp2
        have hne : ∀ b ∈ L', b ≠ q_101 := fun b hb h => hn_101 (h ▸ hb)
        have har2 := hX2.T (zX.all hx_101 har) (hne _ har.1)
        obtain ⟨_, _, _, _, _, _, _, _, hv2, -⟩ := id hW2
        refine h_aast (t0 := 4) (ci := 10) hE har2 hv2 rfl rfl (vp_in_nI hlt (by omega)) dX2_init_88 ?_
        rw [nI_clamp (show i < 2 ^ 31 by omega)]
        refine x_iinc (v := nI (i + 1)) (lv' := [(3, .int (nI (i + 1))), (0, .ref w), (1, .ref s), (2, .ref t)]) hE dX2_init_89 0 rfl (nI_1 i) (by decide) rfl ?_
        refine x_goto (tgt := 71) hE dX2_init_92 (by decide) ?_
        have tr : ∀ b e, zT L' σ' b e → b ≠ q_2 → zT L2 (va_up σ2 q_2 (zRA (cy 4) 6 (va_up g i (some q_101)))) b e := fun b e hb hn => (zX.up (φ := φ2) (ρ := ρ2)).T (hX2.T (zX.all hx_101 hb) (hne _ hb.1)) hn
        refine x_sub (lv' := [(3, .int (nI (i + 1))), (0, .ref w), (1, .ref s), (2, .ref t)]) (by simp) ?_
        exact ih (i + 1) L2 _ φ2 ρ2 (va_up g i (some q_101)) (by omega) (by omega) (((hX.tr (hx_101 w)).tr' (fun h => hn_101 (hX.1 _ h)) hX2).tr' hnar zX.up) (tr _ _ hw (zT.ne hw har (by simp [zRA]))) ⟨har2.1, va_up_self _ _ _⟩ (tr _ _ hb_1 (zT.ne hb_1 har (by simp [zRA]))) (tr _ _ hb_3 (zT.ne hb_3 har (by simp [zRA]))) (tr _ _ hb_4 (zT.ne hb_4 har (by simp [zRA]))) (tr _ _ hb_5 (zT.ne hb_5 har (by simp [zRA]))) (tr _ _ hb_6 (zT.ne hb_6 har (by simp [zRA]))) (tr _ _ hb_7 (zT.ne hb_7 har (by simp [zRA]))) (fun c j => ((hX2.2 w ((hx_101 w).1 w hw.1) (hne w hw.1)).2.1 c j).trans ((((hx_101 q_101).2 w hw.1 (hne w hw.1)).2.1 c j).trans (hp c j))) (hws.next hn_101 hx_101 hw_101 hX2 hW2 (by rw [hp2, hp_101]; rfl) har2)
      · have hi30 : i = 6 := by omega
        subst hi30
        refine x_iload_n hE dX2_init_71 rfl 0 rfl ?_
        refine x_iconst (v := 5) hE dX2_init_72 (by decide) ?_
        refine x_icmp_gt (tgt := 95) hE dX2_init_73 (by decide) (fun c_73 => ?_) (fun c_73 => absurd ((nI_ltI (a := 5) (b := 6) (by omega) (by omega)).mpr (by omega)) c_73)
        exact hret _ _ _ _ _ _ _ _ (Nat.le_of_ble_eq_true rfl) (Nat.le_of_ble_eq_true rfl) dX2_init_95 ⟨hX, ⟨_, _, _, _, _, _, _, g, hw, hb_1, har, hb_3, hb_4, hb_5, hb_6, hb_7, fun i hi => (hws i hi).imp (fun x hx => ⟨hx.1, hx.2.1⟩)⟩, hp⟩
  refine x_sub (lv' := [(3, .int (nI 0)), (0, .ref w), (1, .ref s), (2, .ref t)]) (by simp [nI_0]) ?_
  exact loop 7 0 _ _ _ _ (fun _ => none) (by omega) (by omega) hX_1 hw_9 (hX_3.T ha_2 (zT.ne ha_2 hw_2 (by simp [zRA]))) (hX_2.T ha_1 (zT.ne ha_1 hw_1 (by simp))) (hX_4.T ha_3 (zT.ne ha_3 hw_3 (by simp))) (hX_5.T ha_4 (zT.ne ha_4 hw_4 (by simp))) (hX_6.T ha_5 (zT.ne ha_5 hw_5 (by simp))) (hX_7.T ha_6 (zT.ne ha_6 hw_6 (by simp))) (hX_8.T ha_7 (zT.ne ha_7 hw_7 (by simp))) (fun c i => by rw [hp_7, hp_6, hp_5, hp_4, hp_3, hp_2, hp_1]) (fun j h => absurd h (Nat.not_lt_zero j))
