theorem dX4_init_0 : decode cX4_init 0 = .ok (.aload_n 0, 1) := by decide +kernel
theorem dX4_init_1 : decode cX4_init 1 = .ok (.invokespecial 3, 3) := by decide +kernel
theorem dX4_init_4 : decode cX4_init 4 = .ok (.aload_n 0, 1) := by decide +kernel
theorem dX4_init_5 : decode cX4_init 5 = .ok (.new 9, 3) := by decide +kernel
theorem dX4_init_8 : decode cX4_init 8 = .ok (.dup, 1) := by decide +kernel
theorem dX4_init_9 : decode cX4_init 9 = .ok (.invokespecial 11, 3) := by decide +kernel
theorem dX4_init_12 : decode cX4_init 12 = .ok (.putfield 12, 3) := by decide +kernel
theorem dX4_init_15 : decode cX4_init 15 = .ok (.aload_n 0, 1) := by decide +kernel
theorem dX4_init_16 : decode cX4_init 16 = .ok (.new 18, 3) := by decide +kernel
theorem dX4_init_19 : decode cX4_init 19 = .ok (.dup, 1) := by decide +kernel
theorem dX4_init_20 : decode cX4_init 20 = .ok (.invokespecial 20, 3) := by decide +kernel
theorem dX4_init_23 : decode cX4_init 23 = .ok (.putfield 21, 3) := by decide +kernel
theorem dX4_init_26 : decode cX4_init 26 = .ok (.aload_n 0, 1) := by decide +kernel
theorem dX4_init_27 : decode cX4_init 27 = .ok (.new 25, 3) := by decide +kernel
theorem dX4_init_30 : decode cX4_init 30 = .ok (.dup, 1) := by decide +kernel
theorem dX4_init_31 : decode cX4_init 31 = .ok (.invokespecial 27, 3) := by decide +kernel
theorem dX4_init_34 : decode cX4_init 34 = .ok (.putfield 28, 3) := by decide +kernel
theorem dX4_init_37 : decode cX4_init 37 = .ok (.aload_n 0, 1) := by decide +kernel
theorem dX4_init_38 : decode cX4_init 38 = .ok (.new 32, 3) := by decide +kernel
theorem dX4_init_41 : decode cX4_init 41 = .ok (.dup, 1) := by decide +kernel
theorem dX4_init_42 : decode cX4_init 42 = .ok (.invokespecial 34, 3) := by decide +kernel
theorem dX4_init_45 : decode cX4_init 45 = .ok (.putfield 35, 3) := by decide +kernel
theorem dX4_init_48 : decode cX4_init 48 = .ok (.aload_n 0, 1) := by decide +kernel
theorem dX4_init_49 : decode cX4_init 49 = .ok (.iconst 4, 1) := by decide +kernel
theorem dX4_init_50 : decode cX4_init 50 = .ok (.anewarray 39, 3) := by decide +kernel
theorem dX4_init_53 : decode cX4_init 53 = .ok (.putfield 41, 3) := by decide +kernel
theorem dX4_init_56 : decode cX4_init 56 = .ok (.aload_n 0, 1) := by decide +kernel
theorem dX4_init_57 : decode cX4_init 57 = .ok (.iconst (-1), 1) := by decide +kernel
theorem dX4_init_58 : decode cX4_init 58 = .ok (.putfield 45, 3) := by decide +kernel
theorem dX4_init_61 : decode cX4_init 61 = .ok (.return_, 1) := by decide +kernel
-- State()
set_option maxHeartbeats 4000000 in
set_option maxRecDepth 100000 in
theorem k_State (l : Launch) (D : va_G) (cy : Nat → ClassId) (L : List Nat) (σ : Nat → va_E) (φ : Nat → Nat → Nat → Int32) (ρ : Nat → Nat → Int32) {w : Nat} (hw_0 : zT L σ w (.inr (4, [.null, .null, .null, .null, .null, .int 0, .int 0]))) (h0 : ∀ c i, φ c i w = 0) : zMV l D cy yX4_init cX4_init 1 (zrm 3 301 3844) [.ref w] L σ φ ρ (fun u => zX w L σ φ ρ u.1 u.2.1 u.2.2.1 u.2.2.2 ∧ ∃ (land world steps lists texts : Nat) (g : Nat → Option Nat), zState cy u.1 u.2.1 w land world steps lists texts g ∧ zSt0 u.2.2.1 w land world steps lists g) := by
  refine zMV.mk (by decide) (Nat.le_of_ble_eq_true rfl) (fun E hE hI hret => ?_)
  have hI := hI rfl
  show zW E 0 0 L σ φ ρ 0 [(0, .ref w)] []
  refine x_aload_n hE dX4_init_0 rfl 0 rfl ?_
  refine x_objinit hE q147 q140 q141 dX4_init_1 (Nat.le_of_ble_eq_true rfl) (Nat.le_of_ble_eq_true rfl) ?_
  refine x_aload_n hE dX4_init_4 rfl 0 rfl ?_
  refine h_new (ci := 0) (fs := [.int 0, .int 0, .null, .null, .null, .null, .null, .null, .null, .null]) (ty0 := tyX0) hE rfl inZX0 tyX0_ok q148 q149 q115 (by decide +kernel) rfl (fun c i => by by_cases hc : 0 = c <;> simp [zfI, hc] <;> (rcases i with _ | _ | _ | _ | _ | _ | _ | _ | _ | _ | _ | _ | _ | _ | _ | i <;> rfl)) (Nat.le_of_ble_eq_true rfl) (Nat.le_of_ble_eq_true rfl) dX4_init_5 (fun q_1 L_1 σ_1 φ_1 ρ_1 hn_1 hx_1 hw_1 hp_1 => ?_)
  refine x_dup hE dX4_init_8 rfl ?_
  refine c_v hE (r_IN (st := [.ref q_1, .ref w]) hE (k_Land l D cy L_1 σ_1 φ_1 ρ_1 hw_1) (by decide +kernel) q151 q115 q152 rfl ⟨by decide, by decide, pn_X0_init⟩ ⟨Nat.le_of_ble_eq_true rfl, Nat.le_of_ble_eq_true rfl⟩ ⟨Nat.le_of_ble_eq_true rfl, Nat.le_of_ble_eq_true rfl⟩ rfl (Nat.le_of_ble_eq_true rfl) dX4_init_9) (fun L_51 σ_51 φ_51 ρ_51 h_51 => ?_)
  refine x_widen (k' := 9) (n' := 66) (Nat.le_of_ble_eq_true rfl) (Nat.le_of_ble_eq_true rfl) ?_
  obtain ⟨hc_51, hs_51, hf_51⟩ := h_51
  dsimp only at hc_51 hs_51 hf_51
  have hg_201 := zN.g (c := 4) hx_1 hn_1 hc_51
  have hw_51 := zN.T hx_1 hn_1 hc_51 hw_0
  have hq_51 : q_1 ∉ L := fun h => hn_1 ((zX.rf (w := w) (L := L) (σ := σ) (φ := φ) (ρ := ρ)).1 _ h)
  have ht_51 := ((zX.rf (w := w) (L := L) (σ := σ) (φ := φ) (ρ := ρ)).tr (hx_1 w)).tr' hq_51 hc_51
  have hz_51 := fun c i => ((zN.all hx_1 hn_1 hc_51 hw_0.1).2.2 c i).trans (h0 c i)
  refine x_putr (ty := .object "OwnRain$Land") (ty0 := tyX4) (j0 := 0) hE (Or.inl ⟨hI, rfl, rfl⟩) hw_51 rfl inZX4 tyX4_ok nmX4 (by decide) q361 ⟨_, rfl, Or.inl rfl⟩ (by decide +kernel) rfl rfl dX4_init_12 (fun σ_2 hx_2 hw_2 => ?_)
  have hg_202 := zX.g hx_2 hw_51
  have ht_2 := ht_51.tr hx_2
  refine x_aload_n hE dX4_init_15 rfl 0 rfl ?_
  refine h_new (ci := 10) (fs := [.null, .null, .null, .null, .null, .null, .int 0, .int 0, .int 0, .int 0, .int 0, .int 0, .int 0, .null, .null]) (ty0 := tyX10) hE rfl inZX10 tyX10_ok q208 q209 q116 (by decide +kernel) rfl (fun c i => by by_cases hc : 10 = c <;> simp [zfI, hc] <;> (rcases i with _ | _ | _ | _ | _ | _ | _ | _ | _ | _ | _ | _ | _ | _ | _ | i <;> rfl)) (Nat.le_of_ble_eq_true rfl) (Nat.le_of_ble_eq_true rfl) dX4_init_16 (fun q_3 L_3 σ_3 φ_3 ρ_3 hn_3 hx_3 hw_3 hp_3 => ?_)
  refine x_dup hE dX4_init_19 rfl ?_
  refine c_v hE (r_IN (st := [.ref q_3, .ref w]) hE (k_World l D cy L_3 σ_3 φ_3 ρ_3 hw_3) (by decide +kernel) q211 q116 q212 rfl ⟨by decide, by decide, pn_X10_init⟩ ⟨Nat.le_of_ble_eq_true rfl, Nat.le_of_ble_eq_true rfl⟩ ⟨Nat.le_of_ble_eq_true rfl, Nat.le_of_ble_eq_true rfl⟩ rfl (Nat.le_of_ble_eq_true rfl) dX4_init_20) (fun L_53 σ_53 φ_53 ρ_53 h_53 => ?_)
  refine x_widen (k' := 18) (n' := 183) (Nat.le_of_ble_eq_true rfl) (Nat.le_of_ble_eq_true rfl) ?_
  obtain ⟨hc_53, hs_53, hf_53⟩ := h_53
  dsimp only at hc_53 hs_53 hf_53
  have hg_203 := zN.g (c := 4) hx_3 hn_3 hc_53
  have hw_53 := zN.T hx_3 hn_3 hc_53 hw_2
  have hq_53 : q_3 ∉ L := fun h => hn_3 (ht_2.1 _ h)
  have ht_53 := (ht_2.tr (hx_3 w)).tr' hq_53 hc_53
  have hz_53 := fun c i => ((zN.all hx_3 hn_3 hc_53 hw_2.1).2.2 c i).trans (hz_51 c i)
  refine x_putr (ty := .object "OwnRain$World") (ty0 := tyX4) (j0 := 1) hE (Or.inl ⟨hI, rfl, rfl⟩) hw_53 rfl inZX4 tyX4_ok nmX4 (by decide) q366 ⟨_, rfl, Or.inl rfl⟩ (by decide +kernel) rfl rfl dX4_init_23 (fun σ_4 hx_4 hw_4 => ?_)
  have hg_204 := zX.g hx_4 hw_53
  have ht_4 := ht_53.tr hx_4
  refine x_aload_n hE dX4_init_26 rfl 0 rfl ?_
  refine h_new (ci := 5) (fs := [.int 0, .int 0, .null, .null]) (ty0 := tyX5) hE rfl inZX5 tyX5_ok q288 q289 q117 (by decide +kernel) rfl (fun c i => by by_cases hc : 5 = c <;> simp [zfI, hc] <;> (rcases i with _ | _ | _ | _ | _ | _ | _ | _ | _ | _ | _ | _ | _ | _ | _ | i <;> rfl)) (Nat.le_of_ble_eq_true rfl) (Nat.le_of_ble_eq_true rfl) dX4_init_27 (fun q_5 L_5 σ_5 φ_5 ρ_5 hn_5 hx_5 hw_5 hp_5 => ?_)
  refine x_dup hE dX4_init_30 rfl ?_
  refine c_v hE (r_I (st := [.ref q_5, .ref w]) hE (k_Steps l D cy L_5 σ_5 φ_5 ρ_5 hw_5) q290 q291 q117 q292 rfl ⟨by decide, by decide, pn_X5_init⟩ ⟨Nat.le_of_ble_eq_true rfl, Nat.le_of_ble_eq_true rfl⟩ ⟨Nat.le_of_ble_eq_true rfl, Nat.le_of_ble_eq_true rfl⟩ rfl (Nat.le_of_ble_eq_true rfl) dX4_init_31) (fun L_55 σ_55 φ_55 ρ_55 h_55 => ?_)
  refine x_widen (k' := 291) (n' := 3757) (Nat.le_of_ble_eq_true rfl) (Nat.le_of_ble_eq_true rfl) ?_
  obtain ⟨hc_55, hs_55, hf_55⟩ := h_55
  dsimp only at hc_55 hs_55 hf_55
  have hg_205 := zN.g (c := 4) hx_5 hn_5 hc_55
  have hw_55 := zN.T hx_5 hn_5 hc_55 hw_4
  have hq_55 : q_5 ∉ L := fun h => hn_5 (ht_4.1 _ h)
  have ht_55 := (ht_4.tr (hx_5 w)).tr' hq_55 hc_55
  have hz_55 := fun c i => ((zN.all hx_5 hn_5 hc_55 hw_4.1).2.2 c i).trans (hz_53 c i)
  refine x_putr (ty := .object "OwnRain$Steps") (ty0 := tyX4) (j0 := 2) hE (Or.inl ⟨hI, rfl, rfl⟩) hw_55 rfl inZX4 tyX4_ok nmX4 (by decide) q370 ⟨_, rfl, Or.inl rfl⟩ (by decide +kernel) rfl rfl dX4_init_34 (fun σ_6 hx_6 hw_6 => ?_)
  have hg_206 := zX.g hx_6 hw_55
  have ht_6 := ht_55.tr hx_6
  refine x_aload_n hE dX4_init_37 rfl 0 rfl ?_
  refine h_new (ci := 1) (fs := [.int 0, .int 0, .int 0, .null, .null, .null, .null, .null, .null, .null, .null]) (ty0 := tyX1) hE rfl inZX1 tyX1_ok q312 q313 q118 (by decide +kernel) rfl (fun c i => by by_cases hc : 1 = c <;> simp [zfI, hc] <;> (rcases i with _ | _ | _ | _ | _ | _ | _ | _ | _ | _ | _ | _ | _ | _ | _ | i <;> rfl)) (Nat.le_of_ble_eq_true rfl) (Nat.le_of_ble_eq_true rfl) dX4_init_38 (fun q_7 L_7 σ_7 φ_7 ρ_7 hn_7 hx_7 hw_7 hp_7 => ?_)
  refine x_dup hE dX4_init_41 rfl ?_
  refine c_v hE (r_IN (st := [.ref q_7, .ref w]) hE (k_Lists l D cy L_7 σ_7 φ_7 ρ_7 hw_7) (by decide +kernel) q315 q118 q316 rfl ⟨by decide, by decide, pn_X1_init⟩ ⟨Nat.le_of_ble_eq_true rfl, Nat.le_of_ble_eq_true rfl⟩ ⟨Nat.le_of_ble_eq_true rfl, Nat.le_of_ble_eq_true rfl⟩ rfl (Nat.le_of_ble_eq_true rfl) dX4_init_42) (fun L_57 σ_57 φ_57 ρ_57 h_57 => ?_)
  refine x_widen (k' := 300) (n' := 3840) (Nat.le_of_ble_eq_true rfl) (Nat.le_of_ble_eq_true rfl) ?_
  obtain ⟨hc_57, hs_57, hf_57⟩ := h_57
  dsimp only at hc_57 hs_57 hf_57
  have hg_207 := zN.g (c := 4) hx_7 hn_7 hc_57
  have hw_57 := zN.T hx_7 hn_7 hc_57 hw_6
  have hq_57 : q_7 ∉ L := fun h => hn_7 (ht_6.1 _ h)
  have ht_57 := (ht_6.tr (hx_7 w)).tr' hq_57 hc_57
  have hz_57 := fun c i => ((zN.all hx_7 hn_7 hc_57 hw_6.1).2.2 c i).trans (hz_55 c i)
  refine x_putr (ty := .object "OwnRain$Lists") (ty0 := tyX4) (j0 := 3) hE (Or.inl ⟨hI, rfl, rfl⟩) hw_57 rfl inZX4 tyX4_ok nmX4 (by decide) q372 ⟨_, rfl, Or.inl rfl⟩ (by decide +kernel) rfl rfl dX4_init_45 (fun σ_8 hx_8 hw_8 => ?_)
  have hg_208 := zX.g hx_8 hw_57
  have ht_8 := ht_57.tr hx_8
  refine x_aload_n hE dX4_init_48 rfl 0 rfl ?_
  refine x_iconst (v := 4) hE dX4_init_49 (by decide) ?_
  refine x_nq (t0 := 3) (fty := .array (.object "OwnRain$Text")) (ty0 := tyX4) (N0 := 4) (j0 := 4) hE hI hw_8 rfl inZX4 tyX4_ok nmX4 (by decide) q374 rfl rfl rfl (by decide +kernel) (fun _ => ⟨rfl, rfl⟩) q359 rfl (Or.inl rfl) (by decide) (by decide) (Nat.le_of_ble_eq_true rfl) (Nat.le_of_ble_eq_true rfl) (Nat.le_of_ble_eq_true rfl) dX4_init_50 dX4_init_53 (fun q_9 L_9 σ_9 φ_9 ρ_9 hn_9 hx_9 hw_9 hp_9 ha_9 => ?_)
  have hg_209 := zX.g hx_9 hw_8
  have ht_9 := ht_8.tr hx_9
  have hz_9 := fun c i => (hp_9 c i).trans (hz_57 c i)
  refine x_aload_n hE dX4_init_56 rfl 0 rfl ?_
  refine x_iconst (v := -1) hE dX4_init_57 (by decide) ?_
  refine x_puti (ty := .int) (ty0 := tyX4) (j0 := 6) (v := -1) hE hw_9 rfl inZX4 tyX4_ok nmX4 (by decide) q378 rfl rfl (by decide +kernel) rfl rfl dX4_init_58 (fun φ_10 hx_10 hp_10 => ?_)
  have hg_210 := zX.g hx_10 hw_9
  have ht_10 := ht_9.tr hx_10
  have hz_10 : ∀ c i, φ_10 c i w = if c = 4 ∧ i = 6 then -1 else 0 := fun c i => by rw [hp_10, hz_9]
  have hT_210 := zG.rf (c := 4) (L := L_9) (σ := σ_9) (φ := φ_10)
  have hT_209 := hg_210.tr hT_210
  have hT_208 := hg_209.tr hT_209
  have hT_207 := hg_208.tr hT_208
  have hT_206 := hg_207.tr hT_207
  have hT_205 := hg_206.tr hT_206
  have hT_204 := hg_205.tr hT_205
  have hT_203 := hg_204.tr hT_204
  have hT_202 := hg_203.tr hT_203
  have hT_201 := hg_202.tr hT_202
  obtain ⟨g, hs1, hs2⟩ := hs_55
  have f1 := hs_51.g hT_201 (by decide)
  have f2 := hs_53.g hT_203 (by decide)
  have f3 := hs1.g hT_205 (by decide) (by decide)
  have f4 := hs_57.g hT_207 (by decide)
  have f5 := hT_209.T ha_9 z_arr
  have f6 := hs2.g hT_205 (by decide)
  refine hret _ _ _ _ _ _ _ _ (Nat.le_of_ble_eq_true rfl) (Nat.le_of_ble_eq_true rfl) dX4_init_61 ⟨ht_10, q_1, q_3, q_5, q_7, q_9, g, ⟨hw_9, f1, f2, f3, f4, f5⟩, (hz_10 4 5).trans (by simp), (hz_10 4 6).trans (by simp), ?_, ?_, fun i => ?_, ?_, ?_, ?_, ?_, ?_, fun i hi x hx => ?_⟩
  · show φ_10 0 0 q_1 = _
    rw [hT_201.o hs_51.at (by decide), hf_51, hp_1]
  · show φ_10 0 1 q_1 = _
    rw [hT_201.o hs_51.at (by decide), hf_51, hp_1]
  · show φ_10 10 i q_3 = _
    rw [hT_203.o hs_53.at (by decide), hf_53, hp_3]
    simp
  · show φ_10 5 0 q_5 = _
    rw [hT_205.o hs1.at (by decide), hf_55, hp_5]
  · show φ_10 5 1 q_5 = _
    rw [hT_205.o hs1.at (by decide), hf_55, hp_5]
  · show φ_10 1 0 q_7 = _
    rw [hT_207.o hs_57.at (by decide), hf_57, hp_7]
  · show φ_10 1 1 q_7 = _
    rw [hT_207.o hs_57.at (by decide), hf_57, hp_7]
  · show φ_10 1 2 q_7 = _
    rw [hT_207.o hs_57.at (by decide), hf_57, hp_7]
  · obtain ⟨y, y1, y2, y3⟩ := f6 i hi
    rw [Option.some.inj (hx.symm.trans y1)]
    exact y3
