theorem dX11_init_0 : decode cX11_init 0 = .ok (.aload_n 0, 1) := by decide +kernel
theorem dX11_init_1 : decode cX11_init 1 = .ok (.invokespecial 1, 3) := by decide +kernel
theorem dX11_init_4 : decode cX11_init 4 = .ok (.aload_n 0, 1) := by decide +kernel
theorem dX11_init_5 : decode cX11_init 5 = .ok (.new 7, 3) := by decide +kernel
theorem dX11_init_8 : decode cX11_init 8 = .ok (.dup, 1) := by decide +kernel
theorem dX11_init_9 : decode cX11_init 9 = .ok (.invokespecial 9, 3) := by decide +kernel
theorem dX11_init_12 : decode cX11_init 12 = .ok (.putfield 10, 3) := by decide +kernel
theorem dX11_init_15 : decode cX11_init 15 = .ok (.aload_n 0, 1) := by decide +kernel
theorem dX11_init_16 : decode cX11_init 16 = .ok (.new 7, 3) := by decide +kernel
theorem dX11_init_19 : decode cX11_init 19 = .ok (.dup, 1) := by decide +kernel
theorem dX11_init_20 : decode cX11_init 20 = .ok (.invokespecial 9, 3) := by decide +kernel
theorem dX11_init_23 : decode cX11_init 23 = .ok (.putfield 16, 3) := by decide +kernel
theorem dX11_init_26 : decode cX11_init 26 = .ok (.aload_n 0, 1) := by decide +kernel
theorem dX11_init_27 : decode cX11_init 27 = .ok (.new 19, 3) := by decide +kernel
theorem dX11_init_30 : decode cX11_init 30 = .ok (.dup, 1) := by decide +kernel
theorem dX11_init_31 : decode cX11_init 31 = .ok (.invokespecial 21, 3) := by decide +kernel
theorem dX11_init_34 : decode cX11_init 34 = .ok (.putfield 22, 3) := by decide +kernel
theorem dX11_init_37 : decode cX11_init 37 = .ok (.aload_n 0, 1) := by decide +kernel
theorem dX11_init_38 : decode cX11_init 38 = .ok (.new 26, 3) := by decide +kernel
theorem dX11_init_41 : decode cX11_init 41 = .ok (.dup, 1) := by decide +kernel
theorem dX11_init_42 : decode cX11_init 42 = .ok (.aload_n 0, 1) := by decide +kernel
theorem dX11_init_43 : decode cX11_init 43 = .ok (.getfield 22, 3) := by decide +kernel
theorem dX11_init_46 : decode cX11_init 46 = .ok (.invokespecial 28, 3) := by decide +kernel
theorem dX11_init_49 : decode cX11_init 49 = .ok (.putfield 31, 3) := by decide +kernel
theorem dX11_init_52 : decode cX11_init 52 = .ok (.aload_n 0, 1) := by decide +kernel
theorem dX11_init_53 : decode cX11_init 53 = .ok (.new 35, 3) := by decide +kernel
theorem dX11_init_56 : decode cX11_init 56 = .ok (.dup, 1) := by decide +kernel
theorem dX11_init_57 : decode cX11_init 57 = .ok (.aload_n 0, 1) := by decide +kernel
theorem dX11_init_58 : decode cX11_init 58 = .ok (.getfield 10, 3) := by decide +kernel
theorem dX11_init_61 : decode cX11_init 61 = .ok (.invokespecial 37, 3) := by decide +kernel
theorem dX11_init_64 : decode cX11_init 64 = .ok (.putfield 40, 3) := by decide +kernel
theorem dX11_init_67 : decode cX11_init 67 = .ok (.aload_n 0, 1) := by decide +kernel
theorem dX11_init_68 : decode cX11_init 68 = .ok (.new 44, 3) := by decide +kernel
theorem dX11_init_71 : decode cX11_init 71 = .ok (.dup, 1) := by decide +kernel
theorem dX11_init_72 : decode cX11_init 72 = .ok (.aload_n 0, 1) := by decide +kernel
theorem dX11_init_73 : decode cX11_init 73 = .ok (.getfield 10, 3) := by decide +kernel
theorem dX11_init_76 : decode cX11_init 76 = .ok (.aload_n 0, 1) := by decide +kernel
theorem dX11_init_77 : decode cX11_init 77 = .ok (.getfield 40, 3) := by decide +kernel
theorem dX11_init_80 : decode cX11_init 80 = .ok (.invokespecial 46, 3) := by decide +kernel
theorem dX11_init_83 : decode cX11_init 83 = .ok (.putfield 49, 3) := by decide +kernel
theorem dX11_init_86 : decode cX11_init 86 = .ok (.aload_n 0, 1) := by decide +kernel
theorem dX11_init_87 : decode cX11_init 87 = .ok (.new 53, 3) := by decide +kernel
theorem dX11_init_90 : decode cX11_init 90 = .ok (.dup, 1) := by decide +kernel
theorem dX11_init_91 : decode cX11_init 91 = .ok (.aload_n 0, 1) := by decide +kernel
theorem dX11_init_92 : decode cX11_init 92 = .ok (.getfield 10, 3) := by decide +kernel
theorem dX11_init_95 : decode cX11_init 95 = .ok (.invokespecial 55, 3) := by decide +kernel
theorem dX11_init_98 : decode cX11_init 98 = .ok (.putfield 56, 3) := by decide +kernel
theorem dX11_init_101 : decode cX11_init 101 = .ok (.return_, 1) := by decide +kernel
section ZG2
variable {cy : Nat → ClassId} {L L1 : List Nat} {σ σ1 : Nat → va_E} {φ φ1 : Nat → Nat → Nat → Int32} {a s t c : Nat}
theorem zTape.g (h : zTape cy L σ a) (hg : zG c L σ φ L1 σ1 φ1) (hc : 6 ≠ c) : zTape cy L1 σ1 a := by
  obtain ⟨a0, a1, a2, a3, h, h0, h1, h2, h3, n1, n2⟩ := h
  exact ⟨a0, a1, a2, a3, hg.T h (z_cls hc), hg.T h0 z_arr, hg.T h1 z_arr, hg.T h2 z_arr, hg.T h3 z_arr, n1, n2⟩
theorem zReader.g (h : zReader L σ a t) (hg : zG c L σ φ L1 σ1 φ1) (hc : 3 ≠ c) : zReader L1 σ1 a t := hg.T h (z_cls hc)
theorem zWeather.g (h : zWeather cy L σ a s) (hg : zG c L σ φ L1 σ1 φ1) (hc : 9 ≠ c) : zWeather cy L1 σ1 a s := by
  obtain ⟨a0, a1, a2, a3, h, h0, h1, h2, h3⟩ := h
  exact ⟨a0, a1, a2, a3, hg.T h (z_cls hc), hg.T h0 z_arr, hg.T h1 z_arr, hg.T h2 z_arr, hg.T h3 z_arr⟩
theorem zWays.g (h : zWays cy L σ a s) (hg : zG c L σ φ L1 σ1 φ1) (hc : 8 ≠ c) : zWays cy L1 σ1 a s := by
  obtain ⟨a0, a1, h, h0, h1⟩ := h
  exact ⟨a0, a1, hg.T h (z_cls hc), hg.T h0 z_arr, hg.T h1 z_arr⟩
theorem zPlanner.g (h : zPlanner cy L σ a s t) (hg : zG c L σ φ L1 σ1 φ1) (hc : 2 ≠ c) (hc2 : 10 ≠ c) : zPlanner cy L1 σ1 a s t := by
  obtain ⟨a0, a1, a2, a3, a4, a5, a6, g, h, h0, h1, h2, h3, h4, h5, h6, h7⟩ := h
  refine ⟨a0, a1, a2, a3, a4, a5, a6, g, hg.T h (z_cls hc), hg.T h0 z_arr, hg.T h1 z_arr, hg.T h2 z_arr, hg.T h3 z_arr, hg.T h4 z_arr, hg.T h5 z_arr, hg.T h6 z_arr, fun i hi => ?_⟩
  obtain ⟨x, hx, hx2⟩ := h7 i hi
  exact ⟨x, hx, hx2.g hg hc2⟩
theorem zTape.at (h : zTape cy L σ a) : ∃ S, zT L σ a (.inr (6, S)) := by
  obtain ⟨_, _, _, _, h, -⟩ := h
  exact ⟨_, h⟩
theorem zWeather.at (h : zWeather cy L σ a s) : ∃ S, zT L σ a (.inr (9, S)) := by
  obtain ⟨_, _, _, _, h, -⟩ := h
  exact ⟨_, h⟩
/-- a new OwnRain -/
def zOR (cy : Nat → ClassId) (L : List Nat) (σ : Nat → va_E) (φ : Nat → Nat → Nat → Int32) (x : Nat) : Prop := ∃ (now kept tape reader weather planner ways la wo sp li te : Nat) (g : Nat → Option Nat) (la' wo' sp' li' te' : Nat) (g' : Nat → Option Nat), zT L σ x (.inr (11, [.ref now, .ref kept, .ref tape, .ref reader, .ref weather, .ref planner, .ref ways])) ∧ zState cy L σ now la wo sp li te g ∧ zSt0 φ now la wo sp li g ∧ zState cy L σ kept la' wo' sp' li' te' g' ∧ zSt0 φ kept la' wo' sp' li' g' ∧ zTape cy L σ tape ∧ φ 6 0 tape = 0 ∧ zReader L σ reader tape ∧ φ 3 0 reader = -1 ∧ φ 3 1 reader = -1 ∧ zWeather cy L σ weather now ∧ φ 9 0 weather = -1 ∧ zPlanner cy L σ planner now weather ∧ zWays cy L σ ways now
end ZG2

-- OwnRain()
set_option maxHeartbeats 4000000 in
set_option maxRecDepth 100000 in
theorem k_OwnRain (l : Launch) (D : va_G) (cy : Nat → ClassId) (L : List Nat) (σ : Nat → va_E) (φ : Nat → Nat → Nat → Int32) (ρ : Nat → Nat → Int32) {w : Nat} (hw_0 : zT L σ w (.inr (11, [.null, .null, .null, .null, .null, .null, .null]))) : zMV l D cy yX11_init cX11_init 1 (zrm 4 680 10207) [.ref w] L σ φ ρ (fun u => zX w L σ φ ρ u.1 u.2.1 u.2.2.1 u.2.2.2 ∧ zOR cy u.1 u.2.1 u.2.2.1 w) := by
  refine zMV.mk (by decide) (Nat.le_of_ble_eq_true rfl) (fun E hE hI hret => ?_)
  have hI := hI rfl
  show zW E 0 0 L σ φ ρ 0 [(0, .ref w)] []
  refine x_aload_n hE dX11_init_0 rfl 0 rfl ?_
  refine x_objinit hE q139 q140 q141 dX11_init_1 (Nat.le_of_ble_eq_true rfl) (Nat.le_of_ble_eq_true rfl) ?_
  refine x_aload_n hE dX11_init_4 rfl 0 rfl ?_
  refine h_new (ci := 4) (fs := [.null, .null, .null, .null, .null, .int 0, .int 0]) (ty0 := tyX4) hE rfl inZX4 tyX4_ok q142 q143 q114 (by decide +kernel) rfl (fun c i => by by_cases hc : 4 = c <;> simp [zfI, hc] <;> (rcases i with _ | _ | _ | _ | _ | _ | _ | _ | _ | _ | _ | _ | _ | _ | _ | i <;> rfl)) (Nat.le_of_ble_eq_true rfl) (Nat.le_of_ble_eq_true rfl) dX11_init_5 (fun q_1 L_1 σ_1 φ_1 ρ_1 hn_1 hx_1 hw_1 hp_1 => ?_)
  have hwn_1 := zX.all hx_1 hw_0
  refine x_dup hE dX11_init_8 rfl ?_
  refine c_v hE (r_IN (st := [.ref q_1, .ref w]) hE (k_State l D cy L_1 σ_1 φ_1 ρ_1 hw_1 hp_1) (by decide +kernel) q145 q114 q146 rfl ⟨by decide, by decide, pn_X4_init⟩ ⟨Nat.le_of_ble_eq_true rfl, Nat.le_of_ble_eq_true rfl⟩ ⟨Nat.le_of_ble_eq_true rfl, Nat.le_of_ble_eq_true rfl⟩ rfl (Nat.le_of_ble_eq_true rfl) dX11_init_9) (fun L_51 σ_51 φ_51 ρ_51 h_51 => ?_)
  refine x_widen (k' := 302) (n' := 3851) (Nat.le_of_ble_eq_true rfl) (Nat.le_of_ble_eq_true rfl) ?_
  obtain ⟨hc_51, la_51, wo_51, sp_51, li_51, te_51, g_51, hs_51, hf_51⟩ := h_51
  dsimp only at hc_51 hs_51 hf_51
  have hg_201 := zN.g (c := 11) hx_1 hn_1 hc_51
  have hw_51 := zN.T hx_1 hn_1 hc_51 hw_0
  have hq_51 : q_1 ∉ L := fun h => hn_1 ((zX.rf (w := w) (L := L) (σ := σ) (φ := φ) (ρ := ρ)).1 _ h)
  have ht_51 := ((zX.rf (w := w) (L := L) (σ := σ) (φ := φ) (ρ := ρ)).tr (hx_1 w)).tr' hq_51 hc_51
  refine x_putr (ty := .object "OwnRain$State") (ty0 := tyX11) (j0 := 0) hE (Or.inl ⟨hI, rfl, rfl⟩) hw_51 rfl inZX11 tyX11_ok nmX11 (by decide) q556 ⟨_, rfl, Or.inl rfl⟩ (by decide +kernel) rfl rfl dX11_init_12 (fun σ_2 hx_2 hw_2 => ?_)
  have hg_202 := zX.g hx_2 hw_51
  have ht_2 := ht_51.tr hx_2
  refine x_aload_n hE dX11_init_15 rfl 0 rfl ?_
  refine h_new (ci := 4) (fs := [.null, .null, .null, .null, .null, .int 0, .int 0]) (ty0 := tyX4) hE rfl inZX4 tyX4_ok q142 q143 q114 (by decide +kernel) rfl (fun c i => by by_cases hc : 4 = c <;> simp [zfI, hc] <;> (rcases i with _ | _ | _ | _ | _ | _ | _ | _ | _ | _ | _ | _ | _ | _ | _ | i <;> rfl)) (Nat.le_of_ble_eq_true rfl) (Nat.le_of_ble_eq_true rfl) dX11_init_16 (fun q_3 L_3 σ_3 φ_3 ρ_3 hn_3 hx_3 hw_3 hp_3 => ?_)
  have hwn_3 := zX.all hx_3 hw_2
  refine x_dup hE dX11_init_19 rfl ?_
  refine c_v hE (r_IN (st := [.ref q_3, .ref w]) hE (k_State l D cy L_3 σ_3 φ_3 ρ_3 hw_3 hp_3) (by decide +kernel) q145 q114 q146 rfl ⟨by decide, by decide, pn_X4_init⟩ ⟨Nat.le_of_ble_eq_true rfl, Nat.le_of_ble_eq_true rfl⟩ ⟨Nat.le_of_ble_eq_true rfl, Nat.le_of_ble_eq_true rfl⟩ rfl (Nat.le_of_ble_eq_true rfl) dX11_init_20) (fun L_53 σ_53 φ_53 ρ_53 h_53 => ?_)
  refine x_widen (k' := 604) (n' := 7702) (Nat.le_of_ble_eq_true rfl) (Nat.le_of_ble_eq_true rfl) ?_
  obtain ⟨hc_53, la_53, wo_53, sp_53, li_53, te_53, g_53, hs_53, hf_53⟩ := h_53
  dsimp only at hc_53 hs_53 hf_53
  have hg_203 := zN.g (c := 11) hx_3 hn_3 hc_53
  have hw_53 := zN.T hx_3 hn_3 hc_53 hw_2
  have hq_53 : q_3 ∉ L := fun h => hn_3 (ht_2.1 _ h)
  have ht_53 := (ht_2.tr (hx_3 w)).tr' hq_53 hc_53
  refine x_putr (ty := .object "OwnRain$State") (ty0 := tyX11) (j0 := 1) hE (Or.inl ⟨hI, rfl, rfl⟩) hw_53 rfl inZX11 tyX11_ok nmX11 (by decide) q557 ⟨_, rfl, Or.inl rfl⟩ (by decide +kernel) rfl rfl dX11_init_23 (fun σ_4 hx_4 hw_4 => ?_)
  have hg_204 := zX.g hx_4 hw_53
  have ht_4 := ht_53.tr hx_4
  refine x_aload_n hE dX11_init_26 rfl 0 rfl ?_
  refine h_new (ci := 6) (fs := [.int 0, .int 0, .null, .null, .null, .null]) (ty0 := tyX6) hE rfl inZX6 tyX6_ok q395 q396 q119 (by decide +kernel) rfl (fun c i => by by_cases hc : 6 = c <;> simp [zfI, hc] <;> (rcases i with _ | _ | _ | _ | _ | _ | _ | _ | _ | _ | _ | _ | _ | _ | _ | i <;> rfl)) (Nat.le_of_ble_eq_true rfl) (Nat.le_of_ble_eq_true rfl) dX11_init_27 (fun q_5 L_5 σ_5 φ_5 ρ_5 hn_5 hx_5 hw_5 hp_5 => ?_)
  have hwn_5 := zX.all hx_5 hw_4
  refine x_dup hE dX11_init_30 rfl ?_
  refine c_v hE (r_IN (st := [.ref q_5, .ref w]) hE (k_Tape l D cy L_5 σ_5 φ_5 ρ_5 hw_5) (by decide +kernel) q398 q119 q399 rfl ⟨by decide, by decide, pn_X6_init⟩ ⟨Nat.le_of_ble_eq_true rfl, Nat.le_of_ble_eq_true rfl⟩ ⟨Nat.le_of_ble_eq_true rfl, Nat.le_of_ble_eq_true rfl⟩ rfl (Nat.le_of_ble_eq_true rfl) dX11_init_31) (fun L_55 σ_55 φ_55 ρ_55 h_55 => ?_)
  refine x_widen (k' := 609) (n' := 8911) (Nat.le_of_ble_eq_true rfl) (Nat.le_of_ble_eq_true rfl) ?_
  obtain ⟨hc_55, hs_55, hf_55⟩ := h_55
  dsimp only at hc_55 hs_55 hf_55
  have hg_205 := zN.g (c := 11) hx_5 hn_5 hc_55
  have hw_55 := zN.T hx_5 hn_5 hc_55 hw_4
  have hq_55 : q_5 ∉ L := fun h => hn_5 (ht_4.1 _ h)
  have ht_55 := (ht_4.tr (hx_5 w)).tr' hq_55 hc_55
  refine x_putr (ty := .object "OwnRain$Tape") (ty0 := tyX11) (j0 := 2) hE (Or.inl ⟨hI, rfl, rfl⟩) hw_55 rfl inZX11 tyX11_ok nmX11 (by decide) q558 ⟨_, rfl, Or.inl rfl⟩ (by decide +kernel) rfl rfl dX11_init_34 (fun σ_6 hx_6 hw_6 => ?_)
  have hg_206 := zX.g hx_6 hw_55
  have ht_6 := ht_55.tr hx_6
  refine x_aload_n hE dX11_init_37 rfl 0 rfl ?_
  refine h_new (ci := 3) (fs := [.int 0, .int 0, .null, .null, .int 0, .int 0, .int 0]) (ty0 := tyX3) hE rfl inZX3 tyX3_ok q426 q427 q120 (by decide +kernel) rfl (fun c i => by by_cases hc : 3 = c <;> simp [zfI, hc] <;> (rcases i with _ | _ | _ | _ | _ | _ | _ | _ | _ | _ | _ | _ | _ | _ | _ | i <;> rfl)) (Nat.le_of_ble_eq_true rfl) (Nat.le_of_ble_eq_true rfl) dX11_init_38 (fun q_7 L_7 σ_7 φ_7 ρ_7 hn_7 hx_7 hw_7 hp_7 => ?_)
  have hwn_7 := zX.all hx_7 hw_6
  refine x_dup hE dX11_init_41 rfl ?_
  refine x_aload_n hE dX11_init_42 rfl 0 rfl ?_
  refine h_getr hE hwn_7 rfl inZX11 2 (by decide) q558 rfl dX11_init_43 ?_
  refine c_v hE (r_I (st := [.ref q_7, .ref w]) hE (k_Reader l D cy L_7 σ_7 φ_7 ρ_7 hw_7) q428 q429 q120 q430 rfl ⟨by decide, by decide, pn_X3_init⟩ ⟨Nat.le_of_ble_eq_true rfl, Nat.le_of_ble_eq_true rfl⟩ ⟨Nat.le_of_ble_eq_true rfl, Nat.le_of_ble_eq_true rfl⟩ rfl (Nat.le_of_ble_eq_true rfl) dX11_init_46) (fun L_57 σ_57 φ_57 ρ_57 h_57 => ?_)
  refine x_widen (k' := 610) (n' := 8918) (Nat.le_of_ble_eq_true rfl) (Nat.le_of_ble_eq_true rfl) ?_
  obtain ⟨hc_57, hs_57, hf_57⟩ := h_57
  dsimp only at hc_57 hs_57 hf_57
  have hg_207 := zN.g (c := 11) hx_7 hn_7 hc_57
  have hw_57 := zN.T hx_7 hn_7 hc_57 hw_6
  have hq_57 : q_7 ∉ L := fun h => hn_7 (ht_6.1 _ h)
  have ht_57 := (ht_6.tr (hx_7 w)).tr' hq_57 hc_57
  refine x_putr (ty := .object "OwnRain$Reader") (ty0 := tyX11) (j0 := 3) hE (Or.inl ⟨hI, rfl, rfl⟩) hw_57 rfl inZX11 tyX11_ok nmX11 (by decide) q559 ⟨_, rfl, Or.inl rfl⟩ (by decide +kernel) rfl rfl dX11_init_49 (fun σ_8 hx_8 hw_8 => ?_)
  have hg_208 := zX.g hx_8 hw_57
  have ht_8 := ht_57.tr hx_8
  refine x_aload_n hE dX11_init_52 rfl 0 rfl ?_
  refine h_new (ci := 9) (fs := [.int 0, .null, .null, .int 0, .null, .null, .null, .null, .int 0, .int 0]) (ty0 := tyX9) hE rfl inZX9 tyX9_ok q456 q457 q121 (by decide +kernel) rfl (fun c i => by by_cases hc : 9 = c <;> simp [zfI, hc] <;> (rcases i with _ | _ | _ | _ | _ | _ | _ | _ | _ | _ | _ | _ | _ | _ | _ | i <;> rfl)) (Nat.le_of_ble_eq_true rfl) (Nat.le_of_ble_eq_true rfl) dX11_init_53 (fun q_9 L_9 σ_9 φ_9 ρ_9 hn_9 hx_9 hw_9 hp_9 => ?_)
  have hwn_9 := zX.all hx_9 hw_8
  refine x_dup hE dX11_init_56 rfl ?_
  refine x_aload_n hE dX11_init_57 rfl 0 rfl ?_
  refine h_getr hE hwn_9 rfl inZX11 0 (by decide) q556 rfl dX11_init_58 ?_
  refine c_v hE (r_I (st := [.ref q_9, .ref w]) hE (k_Weather l D cy L_9 σ_9 φ_9 ρ_9 hw_9) q458 q459 q121 q460 rfl ⟨by decide, by decide, pn_X9_init⟩ ⟨Nat.le_of_ble_eq_true rfl, Nat.le_of_ble_eq_true rfl⟩ ⟨Nat.le_of_ble_eq_true rfl, Nat.le_of_ble_eq_true rfl⟩ rfl (Nat.le_of_ble_eq_true rfl) dX11_init_61) (fun L_59 σ_59 φ_59 ρ_59 h_59 => ?_)
  refine x_widen (k' := 615) (n' := 9338) (Nat.le_of_ble_eq_true rfl) (Nat.le_of_ble_eq_true rfl) ?_
  obtain ⟨hc_59, hs_59, hf_59⟩ := h_59
  dsimp only at hc_59 hs_59 hf_59
  have hg_209 := zN.g (c := 11) hx_9 hn_9 hc_59
  have hw_59 := zN.T hx_9 hn_9 hc_59 hw_8
  have hq_59 : q_9 ∉ L := fun h => hn_9 (ht_8.1 _ h)
  have ht_59 := (ht_8.tr (hx_9 w)).tr' hq_59 hc_59
  refine x_putr (ty := .object "OwnRain$Weather") (ty0 := tyX11) (j0 := 4) hE (Or.inl ⟨hI, rfl, rfl⟩) hw_59 rfl inZX11 tyX11_ok nmX11 (by decide) q560 ⟨_, rfl, Or.inl rfl⟩ (by decide +kernel) rfl rfl dX11_init_64 (fun σ_10 hx_10 hw_10 => ?_)
  have hg_210 := zX.g hx_10 hw_59
  have ht_10 := ht_59.tr hx_10
  refine x_aload_n hE dX11_init_67 rfl 0 rfl ?_
  refine h_new (ci := 2) (fs := [.int 0, .null, .null, .null, .null, .null, .null, .null, .null, .null]) (ty0 := tyX2) hE rfl inZX2 tyX2_ok q497 q498 q122 (by decide +kernel) rfl (fun c i => by by_cases hc : 2 = c <;> simp [zfI, hc] <;> (rcases i with _ | _ | _ | _ | _ | _ | _ | _ | _ | _ | _ | _ | _ | _ | _ | i <;> rfl)) (Nat.le_of_ble_eq_true rfl) (Nat.le_of_ble_eq_true rfl) dX11_init_68 (fun q_11 L_11 σ_11 φ_11 ρ_11 hn_11 hx_11 hw_11 hp_11 => ?_)
  have hwn_11 := zX.all hx_11 hw_10
  refine x_dup hE dX11_init_71 rfl ?_
  refine x_aload_n hE dX11_init_72 rfl 0 rfl ?_
  refine h_getr hE hwn_11 rfl inZX11 0 (by decide) q556 rfl dX11_init_73 ?_
  refine x_aload_n hE dX11_init_76 rfl 0 rfl ?_
  refine h_getr hE hwn_11 rfl inZX11 4 (by decide) q560 rfl dX11_init_77 ?_
  refine c_v hE (r_I (st := [.ref q_11, .ref w]) hE (k_Planner l D cy L_11 σ_11 φ_11 ρ_11 hw_11) q499 q500 q122 q501 rfl ⟨by decide, by decide, pn_X2_init⟩ ⟨Nat.le_of_ble_eq_true rfl, Nat.le_of_ble_eq_true rfl⟩ ⟨Nat.le_of_ble_eq_true rfl, Nat.le_of_ble_eq_true rfl⟩ rfl (Nat.le_of_ble_eq_true rfl) dX11_init_80) (fun L_61 σ_61 φ_61 ρ_61 h_61 => ?_)
  refine x_widen (k' := 677) (n' := 10192) (Nat.le_of_ble_eq_true rfl) (Nat.le_of_ble_eq_true rfl) ?_
  obtain ⟨hc_61, hs_61, hf_61⟩ := h_61
  dsimp only at hc_61 hs_61 hf_61
  have hg_211 := zN.g (c := 11) hx_11 hn_11 hc_61
  have hw_61 := zN.T hx_11 hn_11 hc_61 hw_10
  have hq_61 : q_11 ∉ L := fun h => hn_11 (ht_10.1 _ h)
  have ht_61 := (ht_10.tr (hx_11 w)).tr' hq_61 hc_61
  refine x_putr (ty := .object "OwnRain$Planner") (ty0 := tyX11) (j0 := 5) hE (Or.inl ⟨hI, rfl, rfl⟩) hw_61 rfl inZX11 tyX11_ok nmX11 (by decide) q561 ⟨_, rfl, Or.inl rfl⟩ (by decide +kernel) rfl rfl dX11_init_83 (fun σ_12 hx_12 hw_12 => ?_)
  have hg_212 := zX.g hx_12 hw_61
  have ht_12 := ht_61.tr hx_12
  refine x_aload_n hE dX11_init_86 rfl 0 rfl ?_
  refine h_new (ci := 8) (fs := [.null, .null, .null]) (ty0 := tyX8) hE rfl inZX8 tyX8_ok q539 q540 q123 (by decide +kernel) rfl (fun c i => by by_cases hc : 8 = c <;> simp [zfI, hc] <;> (rcases i with _ | _ | _ | _ | _ | _ | _ | _ | _ | _ | _ | _ | _ | _ | _ | i <;> rfl)) (Nat.le_of_ble_eq_true rfl) (Nat.le_of_ble_eq_true rfl) dX11_init_87 (fun q_13 L_13 σ_13 φ_13 ρ_13 hn_13 hx_13 hw_13 hp_13 => ?_)
  have hwn_13 := zX.all hx_13 hw_12
  refine x_dup hE dX11_init_90 rfl ?_
  refine x_aload_n hE dX11_init_91 rfl 0 rfl ?_
  refine h_getr hE hwn_13 rfl inZX11 0 (by decide) q556 rfl dX11_init_92 ?_
  refine c_v hE (r_I (st := [.ref q_13, .ref w]) hE (k_Ways l D cy L_13 σ_13 φ_13 ρ_13 hw_13) q541 q542 q123 q543 rfl ⟨by decide, by decide, pn_X8_init⟩ ⟨Nat.le_of_ble_eq_true rfl, Nat.le_of_ble_eq_true rfl⟩ ⟨Nat.le_of_ble_eq_true rfl, Nat.le_of_ble_eq_true rfl⟩ rfl (Nat.le_of_ble_eq_true rfl) dX11_init_95) (fun L_63 σ_63 φ_63 ρ_63 h_63 => ?_)
  refine x_widen (k' := 680) (n' := 10207) (Nat.le_of_ble_eq_true rfl) (Nat.le_of_ble_eq_true rfl) ?_
  obtain ⟨hc_63, hs_63, hf_63⟩ := h_63
  dsimp only at hc_63 hs_63 hf_63
  have hg_213 := zN.g (c := 11) hx_13 hn_13 hc_63
  have hw_63 := zN.T hx_13 hn_13 hc_63 hw_12
  have hq_63 : q_13 ∉ L := fun h => hn_13 (ht_12.1 _ h)
  have ht_63 := (ht_12.tr (hx_13 w)).tr' hq_63 hc_63
  refine x_putr (ty := .object "OwnRain$Ways") (ty0 := tyX11) (j0 := 6) hE (Or.inl ⟨hI, rfl, rfl⟩) hw_63 rfl inZX11 tyX11_ok nmX11 (by decide) q562 ⟨_, rfl, Or.inl rfl⟩ (by decide +kernel) rfl rfl dX11_init_98 (fun σ_14 hx_14 hw_14 => ?_)
  have hg_214 := zX.g hx_14 hw_63
  have ht_14 := ht_63.tr hx_14
  have hT_214 := zG.rf (c := 11) (L := L_63) (σ := σ_14) (φ := φ_63)
  have hT_213 := hg_214.tr hT_214
  have hT_212 := hg_213.tr hT_213
  have hT_211 := hg_212.tr hT_212
  have hT_210 := hg_211.tr hT_211
  have hT_209 := hg_210.tr hT_210
  have hT_208 := hg_209.tr hT_209
  have hT_207 := hg_208.tr hT_208
  have hT_206 := hg_207.tr hT_207
  have hT_205 := hg_206.tr hT_206
  have hT_204 := hg_205.tr hT_205
  have hT_203 := hg_204.tr hT_204
  have hT_202 := hg_203.tr hT_203
  have hT_201 := hg_202.tr hT_202
  exact hret _ _ _ _ _ _ _ _ (Nat.le_of_ble_eq_true rfl) (Nat.le_of_ble_eq_true rfl) dX11_init_101 ⟨ht_14, q_1, q_3, q_5, q_7, q_9, q_11, q_13, la_51, wo_51, sp_51, li_51, te_51, g_51, la_53, wo_53, sp_53, li_53, te_53, g_53, hw_14, (hs_51.g hT_201 (by decide) (by decide) (by decide) (by decide) (by decide)), (hf_51.g hs_51 hT_201 (by decide) (by decide) (by decide) (by decide) (by decide)), (hs_53.g hT_203 (by decide) (by decide) (by decide) (by decide) (by decide)), (hf_53.g hs_53 hT_203 (by decide) (by decide) (by decide) (by decide) (by decide)), (hs_55.g hT_205 (by decide)), (by show φ_63 6 0 _ = _; rw [hT_205.o hs_55.at (by decide), hf_55, hp_5]), (hs_57.g hT_207 (by decide)), (by show φ_63 3 0 _ = _; rw [hT_207.o ⟨_, hs_57⟩ (by decide), hf_57]; simp), (by show φ_63 3 1 _ = _; rw [hT_207.o ⟨_, hs_57⟩ (by decide), hf_57]; simp), (hs_59.g hT_209 (by decide)), (by show φ_63 9 0 _ = _; rw [hT_209.o hs_59.at (by decide), hf_59]; simp), (hs_61.g hT_211 (by decide) (by decide)), (hs_63.g hT_213 (by decide))⟩
