/-! Image and back, on both sides. -/
abbrev Q_scopy : MT := (yX4_copyFrom, cX4_copyFrom, 3, none)
theorem qm_scopy : mt 246 = Q_scopy := rfl
theorem hc_scq {X0 : zC0} (H : ∀ j, j < 427 → CMj X0 j) {K : Nat → Nat} {B : Int} {L : List Nat} {f : Nat → va_E} (hh : hok X0.2.2.1 K B L f) {a b c o : Nat} {v h bu pr dr : Nat → Int} (ha : a ∈ L ∧ K a = 40) (hb : b ∈ L ∧ K b = 80) (hF : LF K L f 102 c v h) (hO : LO K L f 102 o bu pr dr) (hf : okF c v h) (ho : okO o bu pr dr) : HC X0 Q_scopy 3 3 c48.2.1 [.ref a, .ref b] K B L f (fun K' _ L' f' _ => LF K' L' f' 62 c v h ∧ LO K' L' f' 62 o bu pr dr) := by
  refine eM.mk rfl pnX4 (Nat.le_of_ble_eq_true rfl) (fun E hE _ hret => ?_)
  obtain ⟨l0, D0, cy0, ax0⟩ := X0
  refine s_sq0 H hE hh ha hb (fun K2 B2 L2 f2 v0_2 v1_2 v2_2 v3_2 v4_2 v5_2 v6_2 v7_2 v8_2 v9_2 v10_2 r2_2 r3_2 h2 e2 u2_0 u2_1 u2_2 u2_3 u2_4 u2_5 u2_6 u2_7 u2_8 u2_9 u2_10 u2_11 u2_12 u2_13 u2_14 u2_15 u2_16 u2_17 u2_18 u2_19 u2_20 u2_21 u2_22 u2_23 u2_24 u2_25 u2_26 u2_27 u2_28 u2_29 u2_30 u2_31 u2_32 u2_33 u2_34 u2_35 u2_36 => ?_)
  have F2 := hF.ext e2 (Or.inr rfl) (by decide) (by decide) (by decide)
  have O2 := hO.ext e2 (Or.inr rfl) (by decide) (by decide) (by decide) (by decide)
  refine w_callV hE (hc_lcq H h2 u2_14 u2_13 F2 O2 hf ho) lX4_ok (by decide : (114, 0, 207, 1, 2) ∈ lX4) qm_lcopy h2 u2_14.1 u2_14.2 (by decide) (by decide) (by decide) rfl rfl (by simp) (by decide +kernel) (fun r3 L3 f3 ht3 hp3 => ?_)
  obtain rfl : r3 = none := ht3
  obtain ⟨K3, B3, h3, e3, g3, k3⟩ := hp3
  dsimp only at h3 e3 g3 k3
  refine s_sq44 H hE h3 (exin e3 u2_11) (exin e3 u2_12) (fun K4 B4 L4 f4 v0_4 v1_4 v2_4 h4 e4 u4_0 u4_1 u4_2 u4_3 u4_4 u4_5 u4_6 u4_7 u4_8 => ?_)
  exact hret 0 0 L4 f4 85 _ (Nat.le_refl _) (Nat.le_refl _) (by decide +kernel) ⟨K4, B4, h4, extC_tr (extC_tr (extC_mono e2 (by decide)) (extC_mono e3 (by decide))) (extC_mono e4 (by decide)), g3.ext e4 (Or.inl rfl) (by decide) (by decide) (by decide), k3.ext e4 (Or.inl rfl) (by decide) (by decide) (by decide) (by decide)⟩
theorem hc_scr {X0 : zC0} (H : ∀ j, j < 427 → CMj X0 j) {K : Nat → Nat} {B : Int} {L : List Nat} {f : Nat → va_E} (hh : hok X0.2.2.1 K B L f) {a b c o : Nat} {v h bu pr dr : Nat → Int} (ha : a ∈ L ∧ K a = 80) (hb : b ∈ L ∧ K b = 40) (hF : LF K L f 62 c v h) (hO : LO K L f 62 o bu pr dr) (hf : okF c v h) (ho : okO o bu pr dr) : HC X0 Q_scopy 3 3 c118.2.1 [.ref a, .ref b] K B L f (fun K' _ L' f' _ => LF K' L' f' 102 c v h ∧ LO K' L' f' 102 o bu pr dr) := by
  refine eM.mk rfl pnX4 (Nat.le_of_ble_eq_true rfl) (fun E hE _ hret => ?_)
  obtain ⟨l0, D0, cy0, ax0⟩ := X0
  refine s_sr0 H hE hh ha hb (fun K2 B2 L2 f2 v0_2 v1_2 v2_2 v3_2 v4_2 v5_2 v6_2 v7_2 v8_2 v9_2 v10_2 r2_2 r3_2 h2 e2 u2_0 u2_1 u2_2 u2_3 u2_4 u2_5 u2_6 u2_7 u2_8 u2_9 u2_10 u2_11 u2_12 u2_13 u2_14 u2_15 u2_16 u2_17 u2_18 u2_19 u2_20 u2_21 u2_22 u2_23 u2_24 u2_25 u2_26 u2_27 u2_28 u2_29 u2_30 u2_31 u2_32 u2_33 u2_34 u2_35 u2_36 => ?_)
  have F2 := hF.ext e2 (Or.inl rfl) (by decide) (by decide) (by decide)
  have O2 := hO.ext e2 (Or.inl rfl) (by decide) (by decide) (by decide) (by decide)
  refine w_callV hE (hc_lcr H h2 u2_14 u2_13 F2 O2 hf ho) lX4_ok (by decide : (114, 0, 207, 1, 2) ∈ lX4) qm_lcopy h2 u2_14.1 u2_14.2 (by decide) (by decide) (by decide) rfl rfl (by simp) (by decide +kernel) (fun r3 L3 f3 ht3 hp3 => ?_)
  obtain rfl : r3 = none := ht3
  obtain ⟨K3, B3, h3, e3, g3, k3⟩ := hp3
  dsimp only at h3 e3 g3 k3
  refine s_sr44 H hE h3 (exin e3 u2_11) (exin e3 u2_12) (fun K4 B4 L4 f4 v0_4 v1_4 v2_4 h4 e4 u4_0 u4_1 u4_2 u4_3 u4_4 u4_5 u4_6 u4_7 u4_8 => ?_)
  exact hret 0 0 L4 f4 85 _ (Nat.le_refl _) (Nat.le_refl _) (by decide +kernel) ⟨K4, B4, h4, extC_tr (extC_tr (extC_mono e2 (by decide)) (extC_mono e3 (by decide))) (extC_mono e4 (by decide)), g3.ext e4 (Or.inr rfl) (by decide) (by decide) (by decide), k3.ext e4 (Or.inr rfl) (by decide) (by decide) (by decide) (by decide)⟩
abbrev Q_image11 : MT := (yX11_image, cX11_image, 1, (some .int))
theorem qm_image11 : mt 43 = Q_image11 := rfl
theorem hc_image11 {X0 : zC0} (H : ∀ j, j < 427 → CMj X0 j) {K : Nat → Nat} {B : Int} {L : List Nat} {f : Nat → va_E} (hh : hok X0.2.2.1 K B L f) {x c o : Nat} {v h bu pr dr : Nat → Int} (hx : x ∈ L ∧ K x = 197) (hF : LF K L f 62 c v h) (hO : LO K L f 62 o bu pr dr) (hf : okF c v h) (ho : okO o bu pr dr) : HC X0 Q_image11 4 0 c119.2.1 [.ref x] K B L f (fun K' _ L' f' _ => LF K' L' f' 102 c v h ∧ LO K' L' f' 102 o bu pr dr) := by
  refine eM.mk ⟨_, rfl⟩ pnX11 (Nat.le_of_ble_eq_true rfl) (fun E hE _ hret => ?_)
  obtain ⟨l0, D0, cy0, ax0⟩ := X0
  refine s_im0 H hE hh hx (fun K2 B2 L2 f2 r1_2 r2_2 h2 e2 u2_0 u2_1 u2_2 => ?_)
  refine w_callV hE (hc_scr H h2 u2_2 u2_1 (hF.e0 e2 (Or.inl rfl)) (hO.e0 e2 (Or.inl rfl)) hf ho) lX11_ok (by decide : (409, 0, 246, 4, 2) ∈ lX11) qm_scopy h2 u2_2.1 u2_2.2 (by decide) (by decide) (by decide) rfl rfl (by simp) (by decide +kernel) (fun r3 L3 f3 ht3 hp3 => ?_)
  obtain rfl : r3 = none := ht3
  obtain ⟨K3, B3, h3, e3, g3, k3⟩ := hp3
  dsimp only at h3 e3 g3 k3
  refine s_im11 H hE h3 (exin e3 u2_0) (fun K4 B4 L4 f4 v0_4 h4 e4 u4_0 u4_1 u4_2 => ?_)
  exact hret 0 0 L4 f4 21 _ _ (Nat.le_refl _) (Nat.le_refl _) (by decide +kernel) (fun ft hft => by cases hft; rfl) ⟨K4, B4, h4, extC_tr (extC_tr (extC_mono e2 (by simp)) (extC_mono e3 (by decide))) (extC_mono e4 (by simp)), g3.e0 e4 (Or.inr rfl), k3.e0 e4 (Or.inr rfl)⟩
abbrev Q_back11 : MT := (yX11_back, cX11_back, 1, (some .int))
theorem qm_back11 : mt 22 = Q_back11 := rfl
theorem hc_back11 {X0 : zC0} (H : ∀ j, j < 427 → CMj X0 j) {K : Nat → Nat} {B : Int} {L : List Nat} {f : Nat → va_E} (hh : hok X0.2.2.1 K B L f) {x c o : Nat} {v h bu pr dr : Nat → Int} (hx : x ∈ L ∧ K x = 197) (hF : LF K L f 102 c v h) (hO : LO K L f 102 o bu pr dr) (hf : okF c v h) (ho : okO o bu pr dr) : HC X0 Q_back11 4 0 c49.2.1 [.ref x] K B L f (fun K' _ L' f' _ => LF K' L' f' 62 c v h ∧ LO K' L' f' 62 o bu pr dr) := by
  refine eM.mk ⟨_, rfl⟩ pnX11 (Nat.le_of_ble_eq_true rfl) (fun E hE _ hret => ?_)
  obtain ⟨l0, D0, cy0, ax0⟩ := X0
  refine s_bk0 H hE hh hx (fun K2 B2 L2 f2 r1_2 r2_2 h2 e2 u2_0 u2_1 u2_2 => ?_)
  refine w_callV hE (hc_scq H h2 u2_2 u2_1 (hF.e0 e2 (Or.inr rfl)) (hO.e0 e2 (Or.inr rfl)) hf ho) lX11_ok (by decide : (409, 0, 246, 4, 2) ∈ lX11) qm_scopy h2 u2_2.1 u2_2.2 (by decide) (by decide) (by decide) rfl rfl (by simp) (by decide +kernel) (fun r3 L3 f3 ht3 hp3 => ?_)
  obtain rfl : r3 = none := ht3
  obtain ⟨K3, B3, h3, e3, g3, k3⟩ := hp3
  dsimp only at h3 e3 g3 k3
  refine s_bk11 H hE h3 (exin e3 u2_0) (fun K4 B4 L4 f4 v0_4 h4 e4 u4_0 u4_1 u4_2 => ?_)
  exact hret 0 0 L4 f4 21 _ _ (Nat.le_refl _) (Nat.le_refl _) (by decide +kernel) (fun ft hft => by cases hft; rfl) ⟨K4, B4, h4, extC_tr (extC_tr (extC_mono e2 (by simp)) (extC_mono e3 (by decide))) (extC_mono e4 (by simp)), g3.e0 e4 (Or.inl rfl), k3.e0 e4 (Or.inl rfl)⟩
abbrev Q_rcopy : MT := (yX12_copy, cX12_copy, 3, none)
theorem qm_rcopy : mt 93 = Q_rcopy := rfl
theorem MF_cp {cy : Nat → ClassId} {K : Nat → Nat} {B : Int} {L : List Nat} {f f' : Nat → va_E} (hh : hok cy K B L f) {r t kr kt : Nat} (hr : r ∈ L ∧ K r = kr) (ht : t ∈ L ∧ K t = kt) (h40 : 40 ≤ kt) (hg : ∀ j, j < 17938 → gi (f' t) j = gi (f r) j) {c : Nat} {v h : Nat → Int} (hc : c ≤ 12) (hF : MF K L f kr c v h) : MF K L f' kt c v h := by
  have cp : ∀ (j : Nat) (x : Int), j < 17938 → cg K L f kr j x → cg K L f' kt j x := fun j x hj hc y hy hky => by
    rw [sol hh ⟨hy, hky⟩ ht h40, hg j hj]
    exact hc r hr.1 hr.2
  exact ⟨cp _ _ (by decide) hF.1, fun k hk => ⟨cp _ _ (by omega) (hF.2 k hk).1, cp _ _ (by omega) (hF.2 k hk).2⟩⟩
theorem MO_cp {cy : Nat → ClassId} {K : Nat → Nat} {B : Int} {L : List Nat} {f f' : Nat → va_E} (hh : hok cy K B L f) {r t kr kt : Nat} (hr : r ∈ L ∧ K r = kr) (ht : t ∈ L ∧ K t = kt) (h40 : 40 ≤ kt) (hg : ∀ j, j < 17938 → gi (f' t) j = gi (f r) j) {c : Nat} {b p d : Nat → Int} (hc : c ≤ 10) (hF : MO K L f kr c b p d) : MO K L f' kt c b p d := by
  have cp : ∀ (j : Nat) (x : Int), j < 17938 → cg K L f kr j x → cg K L f' kt j x := fun j x hj hc y hy hky => by
    rw [sol hh ⟨hy, hky⟩ ht h40, hg j hj]
    exact hc r hr.1 hr.2
  exact ⟨cp _ _ (by decide) hF.1, fun k hk => ⟨cp _ _ (by omega) (hF.2 k hk).1, cp _ _ (by omega) (hF.2 k hk).2.1, cp _ _ (by omega) (hF.2 k hk).2.2⟩⟩
theorem hc_rcp {X0 : zC0} (H : ∀ j, j < 427 → CMj X0 j) {K : Nat → Nat} {B : Int} {L : List Nat} {f : Nat → va_E} (hh : hok X0.2.2.1 K B L f) {r t c o : Nat} {v h bu pr dr : Nat → Int} (hr : r ∈ L ∧ K r = 201) (ht : t ∈ L ∧ K t = 202) (hF : MF K L f 201 c v h) (hO : MO K L f 201 o bu pr dr) (hf : okF c v h) (ho : okO o bu pr dr) : HC X0 Q_rcopy 1 3 c340.2.1 [.ref r, .ref t] K B L f (fun K' _ L' f' _ => MF K' L' f' 202 c v h ∧ MO K' L' f' 202 o bu pr dr) := by
  have hrt : r ≠ t := fun e => by rw [e, ht.2] at hr; exact absurd hr.2 (by decide)
  have cr := hh.1 r hr.1
  rw [hr.2] at cr
  have cr2 : ∃ g, f r = zIA X0.2.2.1 17938 g ∧ ∀ i, i < 17938 → bok B (kbd 201 i) (g i).toInt := cr
  obtain ⟨gf, hfr, hbd⟩ := cr2
  have ct := hh.1 t ht.1
  rw [ht.2] at ct
  have ct2 : ∃ g, f t = zIA X0.2.2.1 17938 g ∧ ∀ i, i < 17938 → bok B (kbd 202 i) (g i).toInt := ct
  obtain ⟨gt, hft, -⟩ := ct2
  refine eM.mk rfl pnX12 (Nat.le_of_ble_eq_true rfl) (fun E hE _ hret => ?_)
  refine rowcopy hE hr.1 ht.1 hrt hfr hft (fun g' hg' lv => ?_)
  have h2 := hok_cp hh hr ht (by decide) hfr hg'
  have hg : ∀ j, j < 17938 → gi ((va_up f t (zIA X0.2.2.1 17938 g')) t) j = gi (f r) j := fun j hj => by
    rw [va_up_self, hfr]
    show (g' j).toInt = (gf j).toInt
    rw [hg' j hj]
  exact hret 0 0 L _ 21 lv (Nat.le_refl _) (Nat.le_refl _) (by decide +kernel) ⟨K, B, h2, extC_up (fun i hi => by
    exfalso
    rw [ht.2] at hi
    exact hi (all202 i)), MF_cp hh hr ht (by decide) hg hf.1 hF, MO_cp hh hr ht (by decide) hg ho.1 hO⟩
theorem hc_rcq {X0 : zC0} (H : ∀ j, j < 427 → CMj X0 j) {K : Nat → Nat} {B : Int} {L : List Nat} {f : Nat → va_E} (hh : hok X0.2.2.1 K B L f) {r t c o : Nat} {v h bu pr dr : Nat → Int} (hr : r ∈ L ∧ K r = 202) (ht : t ∈ L ∧ K t = 201) (hF : MF K L f 202 c v h) (hO : MO K L f 202 o bu pr dr) (hf : okF c v h) (ho : okO o bu pr dr) : HC X0 Q_rcopy 1 3 c322.2.1 [.ref r, .ref t] K B L f (fun K' _ L' f' _ => MF K' L' f' 201 c v h ∧ MO K' L' f' 201 o bu pr dr) := by
  have hrt : r ≠ t := fun e => by rw [e, ht.2] at hr; exact absurd hr.2 (by decide)
  have cr := hh.1 r hr.1
  rw [hr.2] at cr
  have cr2 : ∃ g, f r = zIA X0.2.2.1 17938 g ∧ ∀ i, i < 17938 → bok B (kbd 202 i) (g i).toInt := cr
  obtain ⟨gf, hfr, hbd⟩ := cr2
  have ct := hh.1 t ht.1
  rw [ht.2] at ct
  have ct2 : ∃ g, f t = zIA X0.2.2.1 17938 g ∧ ∀ i, i < 17938 → bok B (kbd 201 i) (g i).toInt := ct
  obtain ⟨gt, hft, -⟩ := ct2
  refine eM.mk rfl pnX12 (Nat.le_of_ble_eq_true rfl) (fun E hE _ hret => ?_)
  refine rowcopy hE hr.1 ht.1 hrt hfr hft (fun g' hg' lv => ?_)
  have h2 := hok_cp hh hr ht (by decide) hfr hg'
  have hg : ∀ j, j < 17938 → gi ((va_up f t (zIA X0.2.2.1 17938 g')) t) j = gi (f r) j := fun j hj => by
    rw [va_up_self, hfr]
    show (g' j).toInt = (gf j).toInt
    rw [hg' j hj]
  exact hret 0 0 L _ 21 lv (Nat.le_refl _) (Nat.le_refl _) (by decide +kernel) ⟨K, B, h2, extC_up (fun i hi => by
    exfalso
    rw [ht.2] at hi
    exact hi (all201 i)), MF_cp hh hr ht (by decide) hg hf.1 hF, MO_cp hh hr ht (by decide) hg ho.1 hO⟩
abbrev Q_image12 : MT := (yX12_image, cX12_image, 1, (some .int))
theorem qm_image12 : mt 120 = Q_image12 := rfl
theorem hc_image12 {X0 : zC0} (H : ∀ j, j < 427 → CMj X0 j) {K : Nat → Nat} {B : Int} {L : List Nat} {f : Nat → va_E} (hh : hok X0.2.2.1 K B L f) {m c o : Nat} {v h bu pr dr : Nat → Int} (hm : m ∈ L ∧ K m = 200) (hF : MF K L f 201 c v h) (hO : MO K L f 201 o bu pr dr) (hf : okF c v h) (ho : okO o bu pr dr) : HC X0 Q_image12 2 0 c370.2.1 [.ref m] K B L f (fun K' _ L' f' _ => MF K' L' f' 202 c v h ∧ MO K' L' f' 202 o bu pr dr) := by
  refine eM.mk ⟨_, rfl⟩ pnX12 (Nat.le_of_ble_eq_true rfl) (fun E hE _ hret => ?_)
  obtain ⟨l0, D0, cy0, ax0⟩ := X0
  refine s_jm0 H hE hh hm (fun K2 B2 L2 f2 r1_2 r2_2 h2 e2 u2_0 u2_1 u2_2 => ?_)
  refine w_callS hE (hc_rcp H h2 u2_2 u2_1 (hF.e0 hf.1 e2 (Or.inl rfl)) (hO.e0 ho.1 e2 (Or.inl rfl)) hf ho) lX12_ok (by decide : (109, 1, 93, 0, 2) ∈ lX12) qm_rcopy (by decide) rfl rfl (by simp) (by decide +kernel) (fun r3 L3 f3 ht3 hp3 => ?_)
  obtain rfl : r3 = none := ht3
  obtain ⟨K3, B3, h3, e3, g3, k3⟩ := hp3
  dsimp only at h3 e3 g3 k3
  refine s_jm11 H hE h3 (exin e3 u2_0) (fun K4 B4 L4 f4 v0_4 h4 e4 u4_0 u4_1 u4_2 => ?_)
  exact hret 0 0 L4 f4 17 _ _ (Nat.le_refl _) (Nat.le_refl _) (by decide +kernel) (fun ft hft => by cases hft; rfl) ⟨K4, B4, h4, extC_tr (extC_tr (extC_mono e2 (by simp)) (extC_mono e3 (by decide))) (extC_mono e4 (by simp)), g3.e0 hf.1 e4 (Or.inr rfl), k3.e0 ho.1 e4 (Or.inr rfl)⟩
abbrev Q_back12 : MT := (yX12_back, cX12_back, 1, (some .int))
theorem qm_back12 : mt 75 = Q_back12 := rfl
theorem hc_back12 {X0 : zC0} (H : ∀ j, j < 427 → CMj X0 j) {K : Nat → Nat} {B : Int} {L : List Nat} {f : Nat → va_E} (hh : hok X0.2.2.1 K B L f) {m c o : Nat} {v h bu pr dr : Nat → Int} (hm : m ∈ L ∧ K m = 200) (hF : MF K L f 202 c v h) (hO : MO K L f 202 o bu pr dr) (hf : okF c v h) (ho : okO o bu pr dr) : HC X0 Q_back12 2 0 c323.2.1 [.ref m] K B L f (fun K' _ L' f' _ => MF K' L' f' 201 c v h ∧ MO K' L' f' 201 o bu pr dr) := by
  refine eM.mk ⟨_, rfl⟩ pnX12 (Nat.le_of_ble_eq_true rfl) (fun E hE _ hret => ?_)
  obtain ⟨l0, D0, cy0, ax0⟩ := X0
  refine s_jb0 H hE hh hm (fun K2 B2 L2 f2 r1_2 r2_2 h2 e2 u2_0 u2_1 u2_2 => ?_)
  refine w_callS hE (hc_rcq H h2 u2_2 u2_1 (hF.e0 hf.1 e2 (Or.inr rfl)) (hO.e0 ho.1 e2 (Or.inr rfl)) hf ho) lX12_ok (by decide : (109, 1, 93, 0, 2) ∈ lX12) qm_rcopy (by decide) rfl rfl (by simp) (by decide +kernel) (fun r3 L3 f3 ht3 hp3 => ?_)
  obtain rfl : r3 = none := ht3
  obtain ⟨K3, B3, h3, e3, g3, k3⟩ := hp3
  dsimp only at h3 e3 g3 k3
  refine s_jb11 H hE h3 (exin e3 u2_0) (fun K4 B4 L4 f4 v0_4 h4 e4 u4_0 u4_1 u4_2 => ?_)
  exact hret 0 0 L4 f4 17 _ _ (Nat.le_refl _) (Nat.le_refl _) (by decide +kernel) (fun ft hft => by cases hft; rfl) ⟨K4, B4, h4, extC_tr (extC_tr (extC_mono e2 (by simp)) (extC_mono e3 (by decide))) (extC_mono e4 (by simp)), g3.e0 hf.1 e4 (Or.inl rfl), k3.e0 ho.1 e4 (Or.inl rfl)⟩
