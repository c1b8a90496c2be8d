/-! Errors and the bound, on both sides. -/
def errN (b : Int) (v h : Nat → Int) (t : Int) (k : Nat) : Int := if b = 1 then misN v h t k else falN v h t k
def errA (b : Int) (v h : Nat → Int) (t : Int) (c : Nat) : Int := if 0 ≤ t ∧ t ≤ 10 then errN b v h t c else -1
theorem errN_bd (b : Int) (v h : Nat → Int) (t : Int) (k : Nat) : 0 ≤ errN b v h t k ∧ errN b v h t k ≤ k := by
  unfold errN
  split
  · exact misN_bd v h t k
  · exact falN_bd v h t k
abbrev Q_errorsOf : MT := (yX12_errorsOf, cX12_errorsOf, 7, (some .int))
theorem qm_errorsOf : mt 100 = Q_errorsOf := rfl
theorem hc_errorsOf {X0 : zC0} (H : ∀ j, j < 427 → CMj X0 j) {K : Nat → Nat} {B : Int} {L : List Nat} {f : Nat → va_E} (hh : hok X0.2.2.1 K B L f) {m c : Nat} {t b : Int} {v h : Nat → Int} (hm : m ∈ L ∧ K m = 200) (ht : (-2147483648) ≤ t ∧ t ≤ 2147483647) (hb : b = 0 ∨ b = 1) (hF : MF K L f 201 c v h) (ho : okF c v h) : HC X0 Q_errorsOf 1 0 [] [.ref m, .int (Int32.ofInt t), .int (Int32.ofInt b)] K B L f (fun _ _ _ _ r => r = some (.int (Int32.ofInt (errN b v h t c)))) := by
  refine eM.mk ⟨_, rfl⟩ pnX12 (Nat.le_of_ble_eq_true rfl) (fun E hE _ hret => ?_)
  obtain ⟨l0, D0, cy0, ax0⟩ := X0
  have hc12 := ho.1
  have hbb : 0 ≤ b ∧ b ≤ 1 := by omega
  have go : ∀ (N k : Nat) (K1 : Nat → Nat) (B1 : Int) (L1 : List Nat) (f1 : Nat → va_E), k + N = c → hok cy0 K1 B1 L1 f1 → extC [] K B L f K1 B1 L1 f1 → eW E 0 0 L1 f1 5 [(0, .ref m), (1, .int (Int32.ofInt t)), (2, .int (Int32.ofInt b)), (3, .int (Int32.ofInt (errN b v h t k))), (4, .int (Int32.ofInt (k : Int)))] [] := by
    intro N
    induction N with
    | zero =>
      intro k K1 B1 L1 f1 hk h1 e1
      have hkc : k = c := by omega
      subst hkc
      have hm1 := exin e1 hm
      have F1 := hF.e0 hc12 e1 (Or.inl rfl)
      have hbd := errN_bd b v h t k
      refine s_eo5 H hE h1 ht hbb (by omega) (by omega) hm1 (fun K2 B2 L2 f2 v4_2 h2 e2 u2_0 u2_1 u2_2 u2_3 u2_4 u2_5 u2_6 u2_7 => ?_) (fun K3 B3 L3 f3 v4_3 h3 e3 u3_0 u3_1 u3_2 u3_3 u3_4 u3_5 u3_6 u3_7 => ?_)
      · obtain ⟨a, ha, hka, -⟩ := one_ad h2 201 (by decide) (by decide)
        have hc := (u2_7 a ha hka).2
        have hc' := (F1.e0 hc12 e2 (Or.inl rfl)).1 a ha hka
        have hc2 : gi (f2 a) 11 = v4_2 := hc
        omega
      · refine s_eo113 H hE h3 ht hbb (by omega) (by omega) u3_6 (fun K4 B4 L4 f4 h4 e4 u4_0 u4_1 u4_2 u4_3 u4_4 => ?_)
        exact hret 0 0 L4 f4 114 _ _ (Nat.le_refl _) (Nat.le_refl _) (by decide +kernel) (fun ft hft => by cases hft; rfl) ⟨K4, B4, h4, extC_tr (extC_tr e1 e3) e4, rfl⟩
    | succ N ih =>
      intro k K1 B1 L1 f1 hk h1 e1
      have hm1 := exin e1 hm
      have F1 := hF.e0 hc12 e1 (Or.inl rfl)
      have hbd := errN_bd b v h t k
      have hkc : k < c := by omega
      obtain ⟨hv9, h01⟩ := ho.2 k hkc
      have ek : 1 + (k : Int) = ((k + 1 : Nat) : Int) := by omega
      refine s_eo5 H hE h1 ht hbb (by omega) (by omega) hm1 (fun K2 B2 L2 f2 v4_2 h2 e2 u2_0 u2_1 u2_2 u2_3 u2_4 u2_5 u2_6 u2_7 => ?_) (fun K3 B3 L3 f3 v4_3 h3 e3 u3_0 u3_1 u3_2 u3_3 u3_4 u3_5 u3_6 u3_7 => ?_)
      · have F2 := F1.e0 hc12 e2 (Or.inl rfl)
        have e02 := extC_tr e1 e2
        have i1 : (132 + (2 * (k : Int))).toNat = 132 + 2 * k := by omega
        have i2 : (133 + (2 * (k : Int))).toNat = 133 + 2 * k := by omega
        have m1 : ∀ y ∈ L2, K2 y = 201 → (0 : Int) ≤ (132 + (2 * (k : Int))) ∧ gi (f2 y) (((132 + (2 * (k : Int))) : Int)).toNat = v k := fun y hy hky => ⟨by omega, by rw [i1]; exact (F2.2 k hkc).1 y hy hky⟩
        have m2 : ∀ y ∈ L2, K2 y = 201 → (0 : Int) ≤ (133 + (2 * (k : Int))) ∧ gi (f2 y) (((133 + (2 * (k : Int))) : Int)).toNat = h k := fun y hy hky => ⟨by omega, by rw [i2]; exact (F2.2 k hkc).2 y hy hky⟩
        have fin : ∀ (w : Int) (K5 : Nat → Nat) (B5 : Int) (L5 : List Nat) (f5 : Nat → va_E) (x5 x6 : Value), w = errN b v h t (k + 1) → hok cy0 K5 B5 L5 f5 → extC [] K2 B2 L2 f2 K5 B5 L5 f5 → eW E 0 0 L5 f5 5 [(0, .ref m), (1, .int (Int32.ofInt t)), (2, .int (Int32.ofInt b)), (3, .int (Int32.ofInt w)), (4, .int (Int32.ofInt (1 + (k : Int)))), (5, x5), (6, x6)] [] := by
          intro w K5 B5 L5 f5 x5 x6 hw h5 e5
          rw [hw, ek]
          refine x_sub (lv' := [(0, .ref m), (1, .int (Int32.ofInt t)), (2, .int (Int32.ofInt b)), (3, .int (Int32.ofInt (errN b v h t (k + 1)))), (4, .int (Int32.ofInt ((k + 1 : Nat) : Int)))]) (fun q hq => by
            simp only [List.mem_cons, List.not_mem_nil, or_false] at hq
            rcases hq with h | h | h | h | h <;> simp [h]) ?_
          exact ih (k + 1) K5 B5 L5 f5 (by omega) h5 (extC_tr e02 e5)
        rcases hb with rfl | rfl
        · rcases h01 with h0 | h0
          · rw [h0] at m2
            rcases Int.lt_or_le (v k) t with hlt | hge
            · refine s_eo1700a H hE h2 ht (by omega) (by omega) (by omega) (by omega) u2_6 m1 m2 (fun K5 B5 L5 f5 h5 e5 u5_0 u5_1 u5_2 u5_3 u5_4 u5_5 u5_6 u5_7 => ?_)
              exact fin _ K5 B5 L5 f5 _ _ (falN_0 (Or.inr hlt)).symm h5 e5
            · refine s_eo1700b H hE h2 ht (by omega) (by omega) (by omega) (by omega) u2_6 m1 m2 (fun K5 B5 L5 f5 h5 e5 u5_0 u5_1 u5_2 u5_3 u5_4 u5_5 u5_6 u5_7 => ?_)
              exact fin _ K5 B5 L5 f5 _ _ (falN_1 h0 hge).symm h5 e5
          · rw [h0] at m2
            rcases Int.lt_or_le (v k) t with hlt | hge
            · refine s_eo1701a H hE h2 ht (by omega) (by omega) (by omega) (by omega) u2_6 m1 m2 (fun K5 B5 L5 f5 h5 e5 u5_0 u5_1 u5_2 u5_3 u5_4 u5_5 u5_6 u5_7 => ?_)
              exact fin _ K5 B5 L5 f5 _ _ (falN_0 (Or.inl h0)).symm h5 e5
            · refine s_eo1701b H hE h2 ht (by omega) (by omega) (by omega) (by omega) u2_6 m1 m2 (fun K5 B5 L5 f5 h5 e5 u5_0 u5_1 u5_2 u5_3 u5_4 u5_5 u5_6 u5_7 => ?_)
              exact fin _ K5 B5 L5 f5 _ _ (falN_0 (Or.inl h0)).symm h5 e5
        · rcases h01 with h0 | h0
          · rw [h0] at m2
            rcases Int.lt_or_le (v k) t with hlt | hge
            · refine s_eo1710a H hE h2 ht (by omega) (by omega) (by omega) (by omega) u2_6 m1 m2 (fun K5 B5 L5 f5 h5 e5 u5_0 u5_1 u5_2 u5_3 u5_4 u5_5 u5_6 u5_7 => ?_)
              exact fin _ K5 B5 L5 f5 _ _ (misN_0 (Or.inl h0)).symm h5 e5
            · refine s_eo1710b H hE h2 ht (by omega) (by omega) (by omega) (by omega) u2_6 m1 m2 (fun K5 B5 L5 f5 h5 e5 u5_0 u5_1 u5_2 u5_3 u5_4 u5_5 u5_6 u5_7 => ?_)
              exact fin _ K5 B5 L5 f5 _ _ (misN_0 (Or.inl h0)).symm h5 e5
          · rw [h0] at m2
            rcases Int.lt_or_le (v k) t with hlt | hge
            · refine s_eo1711a H hE h2 ht (by omega) (by omega) (by omega) (by omega) u2_6 m1 m2 (fun K5 B5 L5 f5 h5 e5 u5_0 u5_1 u5_2 u5_3 u5_4 u5_5 u5_6 u5_7 => ?_)
              exact fin _ K5 B5 L5 f5 _ _ (misN_1 h0 hlt).symm h5 e5
            · refine s_eo1711b H hE h2 ht (by omega) (by omega) (by omega) (by omega) u2_6 m1 m2 (fun K5 B5 L5 f5 h5 e5 u5_0 u5_1 u5_2 u5_3 u5_4 u5_5 u5_6 u5_7 => ?_)
              exact fin _ K5 B5 L5 f5 _ _ (misN_0 (Or.inr hge)).symm h5 e5
      · obtain ⟨a, ha, hka, -⟩ := one_ad h3 201 (by decide) (by decide)
        have hc := (u3_7 a ha hka).2
        have hc' := (F1.e0 hc12 e3 (Or.inl rfl)).1 a ha hka
        have hc2 : gi (f3 a) 11 = v4_3 := hc
        omega
  refine s_eo0 H hE hh ht hbb hm (fun K9 B9 L9 f9 h9 e9 u9_0 u9_1 u9_2 => ?_)
  have e0 : errN b v h t 0 = 0 := by
    unfold errN
    split <;> rfl
  have hgo := go c 0 K9 B9 L9 f9 (by omega) h9 e9
  rw [e0] at hgo
  exact hgo
abbrev Q_err11 : MT := (yX11_errors, cX11_errors, 3, (some .int))
theorem qm_err11 : mt 31 = Q_err11 := rfl
abbrev Q_err12 : MT := (yX12_errors, cX12_errors, 3, (some .int))
theorem qm_err12 : mt 99 = Q_err12 := rfl
theorem errA_out {b t : Int} {v h : Nat → Int} {c : Nat} (ht : t < 0 ∨ 10 < t) : errA b v h t c = -1 := if_neg (by omega)
theorem errA_in {b t : Int} {v h : Nat → Int} {c : Nat} (ht : 0 ≤ t ∧ t ≤ 10) : errA b v h t c = errN b v h t c := if_pos ht
theorem hc_err11 {X0 : zC0} (H : ∀ j, j < 427 → CMj X0 j) {K : Nat → Nat} {B : Int} {L : List Nat} {f : Nat → va_E} (hh : hok X0.2.2.1 K B L f) {x c : Nat} {t b : Int} {v h : Nat → Int} (hx : x ∈ L ∧ K x = 197) (ht : (-2147483648) ≤ t ∧ t ≤ 2147483647) (hb : b = 0 ∨ b = 1) (hF : LF K L f 62 c v h) (ho : okF c v h) : HC X0 Q_err11 2 0 [] [.ref x, .int (Int32.ofInt t), .int (Int32.ofInt b)] K B L f (fun _ _ _ _ r => r = some (.int (Int32.ofInt (errA b v h t c)))) := by
  refine eM.mk ⟨_, rfl⟩ pnX11 (Nat.le_of_ble_eq_true rfl) (fun E hE _ hret => ?_)
  obtain ⟨l0, D0, cy0, ax0⟩ := X0
  have hbb : 0 ≤ b ∧ b ≤ 1 := by omega
  rcases (show t < 0 ∨ 10 < t ∨ (0 ≤ t ∧ t ≤ 10) by omega) with hc | hc | hc
  · refine s_erA H hE hh ⟨ht.1, by omega⟩ hbb hx (fun K2 B2 L2 f2 h2 e2 u2_0 u2_1 u2_2 => ?_)
    exact hret 0 0 L2 f2 11 _ _ (Nat.le_refl _) (Nat.le_refl _) (by decide +kernel) (fun ft hft => by cases hft; rfl) ⟨K2, B2, h2, e2, by rw [errA_out (Or.inl hc)]⟩
  · refine s_erB H hE hh ⟨by omega, ht.2⟩ hbb hx (fun K2 B2 L2 f2 h2 e2 u2_0 u2_1 u2_2 => ?_)
    exact hret 0 0 L2 f2 11 _ _ (Nat.le_refl _) (Nat.le_refl _) (by decide +kernel) (fun ft hft => by cases hft; rfl) ⟨K2, B2, h2, e2, by rw [errA_out (Or.inr hc)]⟩
  · have bd1 := misN_bd v h t c
    have bd0 := falN_bd v h t c
    have hc12 := ho.1
    rcases hb with rfl | rfl
    · refine s_erD H hE hh hc hx (fun K2 B2 L2 f2 r1_2 h2 e2 u2_0 u2_1 u2_2 => ?_)
      refine w_callV hE (hc_alarms H h2 u2_2 ht (hF.e0 e2 (Or.inl rfl)) ho) lX11_ok (by decide : (387, 0, 208, 1, 2) ∈ lX11) qm_alarms h2 u2_2.1 u2_2.2 (by decide) (by decide) (by decide) rfl rfl (by simp [Value.category]) (by decide +kernel) (fun r3 L3 f3 _ hp3 => ?_)
      obtain ⟨K3, B3, h3, e3, hr3⟩ := hp3
      dsimp only at h3 e3 hr3
      subst hr3
      exact hret 0 0 L3 f3 41 _ _ (Nat.le_refl _) (Nat.le_refl _) (by decide +kernel) (fun ft hft => by cases hft; rfl) ⟨K3, B3, h3, extC_tr e2 e3, by rw [errA_in hc]; rfl⟩
    · refine s_erC H hE hh hc hx (fun K2 B2 L2 f2 r1_2 h2 e2 u2_0 u2_1 u2_2 => ?_)
      refine w_callV hE (hc_misses H h2 u2_2 ht (hF.e0 e2 (Or.inl rfl)) ho) lX11_ok (by decide : (384, 0, 209, 1, 2) ∈ lX11) qm_misses h2 u2_2.1 u2_2.2 (by decide) (by decide) (by decide) rfl rfl (by simp [Value.category]) (by decide +kernel) (fun r3 L3 f3 _ hp3 => ?_)
      obtain ⟨K3, B3, h3, e3, hr3⟩ := hp3
      dsimp only at h3 e3 hr3
      subst hr3
      refine s_er27 H hE h3 hc (by decide) (by omega) (exin e3 u2_1) (fun K4 B4 L4 f4 h4 e4 u4_0 u4_1 u4_2 u4_3 => ?_)
      exact hret 0 0 L4 f4 41 _ _ (Nat.le_refl _) (Nat.le_refl _) (by decide +kernel) (fun ft hft => by cases hft; rfl) ⟨K4, B4, h4, extC_tr (extC_tr e2 e3) e4, by rw [errA_in hc]; rfl⟩
theorem hc_err12 {X0 : zC0} (H : ∀ j, j < 427 → CMj X0 j) {K : Nat → Nat} {B : Int} {L : List Nat} {f : Nat → va_E} (hh : hok X0.2.2.1 K B L f) {m c : Nat} {t b : Int} {v h : Nat → Int} (hx : m ∈ L ∧ K m = 200) (ht : (-2147483648) ≤ t ∧ t ≤ 2147483647) (hb : b = 0 ∨ b = 1) (hF : MF K L f 201 c v h) (ho : okF c v h) : HC X0 Q_err12 2 0 [] [.ref m, .int (Int32.ofInt t), .int (Int32.ofInt b)] K B L f (fun _ _ _ _ r => r = some (.int (Int32.ofInt (errA b v h t c)))) := by
  refine eM.mk ⟨_, rfl⟩ pnX12 (Nat.le_of_ble_eq_true rfl) (fun E hE _ hret => ?_)
  obtain ⟨l0, D0, cy0, ax0⟩ := X0
  have hbb : 0 ≤ b ∧ b ≤ 1 := by omega
  rcases (show t < 0 ∨ 10 < t ∨ (0 ≤ t ∧ t ≤ 10) by omega) with hc | hc | hc
  · refine s_esA H hE hh ⟨ht.1, by omega⟩ hbb hx (fun K2 B2 L2 f2 h2 e2 u2_0 u2_1 u2_2 => ?_)
    exact hret 0 0 L2 f2 20 _ _ (Nat.le_refl _) (Nat.le_refl _) (by decide +kernel) (fun ft hft => by cases hft; rfl) ⟨K2, B2, h2, e2, by rw [errA_out (Or.inl hc)]⟩
  · refine s_esB H hE hh ⟨by omega, ht.2⟩ hbb hx (fun K2 B2 L2 f2 h2 e2 u2_0 u2_1 u2_2 => ?_)
    exact hret 0 0 L2 f2 20 _ _ (Nat.le_refl _) (Nat.le_refl _) (by decide +kernel) (fun ft hft => by cases hft; rfl) ⟨K2, B2, h2, e2, by rw [errA_out (Or.inr hc)]⟩
  · have bd1 := errN_bd b v h t c
    have hc12 := ho.1
    refine s_esC H hE hh hc hbb hx (fun K2 B2 L2 f2 h2 e2 u2_0 u2_1 u2_2 => ?_)
    refine w_callV hE (hc_errorsOf H h2 u2_2 ht hb (hF.e0 hc12 e2 (Or.inl rfl)) ho) lX12_ok (by decide : (507, 0, 100, 12, 3) ∈ lX12) qm_errorsOf h2 u2_2.1 u2_2.2 (by decide) (by decide) (by decide) rfl rfl (by simp [Value.category]) (by decide +kernel) (fun r3 L3 f3 _ hp3 => ?_)
    obtain ⟨K3, B3, h3, e3, hr3⟩ := hp3
    dsimp only at h3 e3 hr3
    subst hr3
    refine s_es16 H hE h3 hc hbb (by omega) (exin e3 u2_2) (fun K4 B4 L4 f4 h4 e4 u4_0 u4_1 u4_2 u4_3 => ?_)
    exact hret 0 0 L4 f4 20 _ _ (Nat.le_refl _) (Nat.le_refl _) (by decide +kernel) (fun ft hft => by cases hft; rfl) ⟨K4, B4, h4, extC_tr (extC_tr e2 e3) e4, by rw [errA_in hc]⟩
/-! The bound. -/
def bndN (e : Int → Int) : Nat → Int
  | 0 => 0
  | k + 1 => if e ((k : Int) + 1) < e (bndN e k) then (k : Int) + 1 else bndN e k
theorem bndN_bd (e : Int → Int) : ∀ k : Nat, 0 ≤ bndN e k ∧ bndN e k ≤ k := by
  intro k
  induction k with
  | zero => exact ⟨Int.le_refl _, Int.le_refl _⟩
  | succ k ih =>
    unfold bndN
    split <;> omega
theorem bndN_1 {e : Int → Int} {k : Nat} (h : e ((k : Int) + 1) < e (bndN e k)) : bndN e (k + 1) = (k : Int) + 1 := if_pos h
theorem bndN_0 {e : Int → Int} {k : Nat} (h : ¬ e ((k : Int) + 1) < e (bndN e k)) : bndN e (k + 1) = bndN e k := if_neg h
def sumE (v h : Nat → Int) (c : Nat) (t : Int) : Int := falN v h t c + misN v h t c
def sumR (v h : Nat → Int) (c : Nat) (t : Int) : Int := misN v h t c + falN v h t c
theorem sumR_E (v h : Nat → Int) (c : Nat) : sumR v h c = sumE v h c := funext (fun t => Int.add_comm _ _)
abbrev Q_bound11 : MT := (yX11_bound, cX11_bound, 4, (some .int))
theorem qm_bound11 : mt 23 = Q_bound11 := rfl
abbrev Q_bound12 : MT := (yX12_bound, cX12_bound, 3, (some .int))
theorem qm_bound12 : mt 82 = Q_bound12 := rfl
theorem hc_bound11 {X0 : zC0} (H : ∀ j, j < 427 → CMj X0 j) {K : Nat → Nat} {B : Int} {L : List Nat} {f : Nat → va_E} (hh : hok X0.2.2.1 K B L f) {x c : Nat} {v h : Nat → Int} (hx : x ∈ L ∧ K x = 197) (hF : LF K L f 62 c v h) (ho : okF c v h) : HC X0 Q_bound11 2 0 [] [.ref x] K B L f (fun _ _ _ _ r => r = some (.int (Int32.ofInt (bndN (sumE v h c) 10)))) := by
  refine eM.mk ⟨_, rfl⟩ pnX11 (Nat.le_of_ble_eq_true rfl) (fun E hE _ hret => ?_)
  obtain ⟨l0, D0, cy0, ax0⟩ := X0
  have hc12 := ho.1
  have go : ∀ (N k : Nat) (K1 : Nat → Nat) (B1 : Int) (L1 : List Nat) (f1 : Nat → va_E) (li : Nat), k + N = 10 → hok cy0 K1 B1 L1 f1 → extC [] K B L f K1 B1 L1 f1 → (li ∈ L1 ∧ K1 li = 62) → eW E 0 0 L1 f1 12 [(0, .ref x), (1, .ref li), (2, .int (Int32.ofInt (bndN (sumE v h c) k))), (3, .int (Int32.ofInt ((k : Int) + 1)))] [] := by
    intro N
    induction N with
    | zero =>
      intro k K1 B1 L1 f1 li hk h1 e1 hl
      have hbd := bndN_bd (sumE v h c) k
      have hk10 : k = 10 := by omega
      subst hk10
      refine s_bn12 H hE h1 (by omega) (by omega) (exin e1 hx) hl (fun K2 B2 L2 f2 h2 e2 u2_0 u2_1 u2_2 u2_3 => ?_) (fun K3 B3 L3 f3 h3 e3 u3_0 u3_1 u3_2 u3_3 => ?_)
      · omega
      · refine s_bn51 H hE h3 (by omega) (by omega) u3_2 u3_3 (fun K4 B4 L4 f4 h4 e4 u4_0 u4_1 u4_2 u4_3 => ?_)
        exact hret 0 0 L4 f4 52 _ _ (Nat.le_refl _) (Nat.le_refl _) (by decide +kernel) (fun ft hft => by cases hft; rfl) ⟨K4, B4, h4, extC_tr (extC_tr e1 e3) e4, rfl⟩
    | succ N ih =>
      intro k K1 B1 L1 f1 li hk h1 e1 hl
      have hbd := bndN_bd (sumE v h c) k
      generalize hbe : bndN (sumE v h c) k = be at hbd ⊢
      refine s_bn12 H hE h1 (by omega) (by omega) (exin e1 hx) hl (fun K2 B2 L2 f2 h2 e2 u2_0 u2_1 u2_2 u2_3 => ?_) (fun K3 B3 L3 f3 h3 e3 u3_0 u3_1 u3_2 u3_3 => ?_)
      · have F2 := (hF.e0 e1 (Or.inl rfl)).e0 e2 (Or.inl rfl)
        have bt1 := misN_bd v h ((k : Int) + 1) c
        have bt0 := falN_bd v h ((k : Int) + 1) c
        have bb1 := misN_bd v h be c
        have bb0 := falN_bd v h be c
        refine w_callV hE (hc_misses H h2 u2_3 (t := (k : Int) + 1) (by omega) F2 ho) lX11_ok (by decide : (384, 0, 209, 1, 2) ∈ lX11) qm_misses h2 u2_3.1 u2_3.2 (by decide) (by decide) (by decide) rfl rfl (by simp [Value.category]) (by decide +kernel) (fun r4 L4 f4 _ hp4 => ?_)
        obtain ⟨K4, B4, h4, e4, hr4⟩ := hp4
        dsimp only at h4 e4 hr4
        subst hr4
        have F4 := F2.e0 e4 (Or.inl rfl)
        refine s_bn23 H hE h4 (by omega) (by omega) (by omega) (exin e4 u2_2) (exin e4 u2_3) (fun K5 B5 L5 f5 h5 e5 u5_0 u5_1 u5_2 u5_3 u5_4 => ?_)
        refine w_callV hE (hc_alarms H h5 u5_4 (t := (k : Int) + 1) (by omega) (F4.e0 e5 (Or.inl rfl)) ho) lX11_ok (by decide : (387, 0, 208, 1, 2) ∈ lX11) qm_alarms h5 u5_4.1 u5_4.2 (by decide) (by decide) (by decide) rfl rfl (by simp [Value.category]) (by decide +kernel) (fun r6 L6 f6 _ hp6 => ?_)
        obtain ⟨K6, B6, h6, e6, hr6⟩ := hp6
        dsimp only at h6 e6 hr6
        subst hr6
        have F6 := (F4.e0 e5 (Or.inl rfl)).e0 e6 (Or.inl rfl)
        refine s_bn28 H hE h6 (by omega) (by omega) (by omega) (by omega) (exin e6 u5_3) (exin e6 u5_4) (fun K7 B7 L7 f7 h7 e7 u7_0 u7_1 u7_2 u7_3 u7_4 u7_5 => ?_)
        refine w_callV hE (hc_misses H h7 u7_5 (t := be) (by omega) (F6.e0 e7 (Or.inl rfl)) ho) lX11_ok (by decide : (384, 0, 209, 1, 2) ∈ lX11) qm_misses h7 u7_5.1 u7_5.2 (by decide) (by decide) (by decide) rfl rfl (by simp [Value.category]) (by decide +kernel) (fun r8 L8 f8 _ hp8 => ?_)
        obtain ⟨K8, B8, h8, e8, hr8⟩ := hp8
        dsimp only at h8 e8 hr8
        subst hr8
        have F8 := (F6.e0 e7 (Or.inl rfl)).e0 e8 (Or.inl rfl)
        refine s_bn34 H hE h8 (by omega) (by omega) (by omega) (by omega) (exin e8 u7_4) (exin e8 u7_5) (fun K9 B9 L9 f9 h9 e9 u9_0 u9_1 u9_2 u9_3 u9_4 u9_5 => ?_)
        refine w_callV hE (hc_alarms H h9 u9_5 (t := be) (by omega) (F8.e0 e9 (Or.inl rfl)) ho) lX11_ok (by decide : (387, 0, 208, 1, 2) ∈ lX11) qm_alarms h9 u9_5.1 u9_5.2 (by decide) (by decide) (by decide) rfl rfl (by simp [Value.category]) (by decide +kernel) (fun r10 L10 f10 _ hp10 => ?_)
        obtain ⟨K10, B10, h10, e10, hr10⟩ := hp10
        dsimp only at h10 e10 hr10
        subst hr10
        have e010 := extC_tr (extC_tr (extC_tr (extC_tr (extC_tr (extC_tr (extC_tr (extC_tr e1 e2) e4) e5) e6) e7) e8) e9) e10
        have ek : 1 + ((k : Int) + 1) = ((k + 1 : Nat) : Int) + 1 := by omega
        by_cases hlt : sumE v h c ((k : Int) + 1) < sumE v h c be
        · have hlt2 : falN v h ((k : Int) + 1) c + misN v h ((k : Int) + 1) c < falN v h be c + misN v h be c := hlt
          refine s_bn39a H hE h10 (by omega) (by omega) (by omega) (by omega) (by omega) (by omega) (exin e10 u9_4) (exin e10 u9_5) (fun K11 B11 L11 f11 h11 e11 u11_0 u11_1 u11_2 u11_3 u11_4 u11_5 u11_6 u11_7 => ?_)
          have hb1 : bndN (sumE v h c) (k + 1) = (k : Int) + 1 := bndN_1 (by rw [hbe]; exact hlt)
          have := ih (k + 1) K11 B11 L11 f11 li (by omega) h11 (extC_tr e010 e11) u11_7
          rw [hb1, ← ek] at this
          exact this
        · have hlt2 : ¬ falN v h ((k : Int) + 1) c + misN v h ((k : Int) + 1) c < falN v h be c + misN v h be c := hlt
          refine s_bn39b H hE h10 (by omega) (by omega) (by omega) (by omega) (by omega) (by omega) (exin e10 u9_4) (exin e10 u9_5) (fun K11 B11 L11 f11 h11 e11 u11_0 u11_1 u11_2 u11_3 u11_4 u11_5 u11_6 u11_7 u11_8 u11_9 => ?_)
          have hb1 : bndN (sumE v h c) (k + 1) = be := (bndN_0 (by rw [hbe]; exact hlt)).trans hbe
          have := ih (k + 1) K11 B11 L11 f11 li (by omega) h11 (extC_tr e010 e11) u11_9
          rw [hb1, ← ek] at this
          exact this
      · omega
  refine s_bn0 H hE hh hx (fun K2 B2 L2 f2 r1_2 h2 e2 u2_0 u2_1 => ?_)
  exact go 10 0 K2 B2 L2 f2 r1_2 rfl h2 e2 u2_1
theorem hc_bound12 {X0 : zC0} (H : ∀ j, j < 427 → CMj X0 j) {K : Nat → Nat} {B : Int} {L : List Nat} {f : Nat → va_E} (hh : hok X0.2.2.1 K B L f) {m c : Nat} {v h : Nat → Int} (hm : m ∈ L ∧ K m = 200) (hF : MF K L f 201 c v h) (ho : okF c v h) : HC X0 Q_bound12 2 0 [] [.ref m] K B L f (fun _ _ _ _ r => r = some (.int (Int32.ofInt (bndN (sumE v h c) 10)))) := by
  rw [← sumR_E]
  refine eM.mk ⟨_, rfl⟩ pnX12 (Nat.le_of_ble_eq_true rfl) (fun E hE _ hret => ?_)
  obtain ⟨l0, D0, cy0, ax0⟩ := X0
  have hc12 := ho.1
  have go : ∀ (N k : Nat) (K1 : Nat → Nat) (B1 : Int) (L1 : List Nat) (f1 : Nat → va_E), k + N = 10 → hok cy0 K1 B1 L1 f1 → extC [] K B L f K1 B1 L1 f1 → eW E 0 0 L1 f1 4 [(0, .ref m), (1, .int (Int32.ofInt (bndN (sumR v h c) k))), (2, .int (Int32.ofInt ((k : Int) + 1)))] [] := by
    intro N
    induction N with
    | zero =>
      intro k K1 B1 L1 f1 hk h1 e1
      have hbd := bndN_bd (sumR v h c) k
      have hk10 : k = 10 := by omega
      subst hk10
      refine s_bm4 H hE h1 (by omega) (by omega) (exin e1 hm) (fun K2 B2 L2 f2 h2 e2 u2_0 u2_1 u2_2 => ?_) (fun K3 B3 L3 f3 h3 e3 u3_0 u3_1 u3_2 => ?_)
      · omega
      · refine s_bm47 H hE h3 (by omega) (by omega) u3_2 (fun K4 B4 L4 f4 h4 e4 u4_0 u4_1 u4_2 => ?_)
        exact hret 0 0 L4 f4 48 _ _ (Nat.le_refl _) (Nat.le_refl _) (by decide +kernel) (fun ft hft => by cases hft; rfl) ⟨K4, B4, h4, extC_tr (extC_tr e1 e3) e4, rfl⟩
    | succ N ih =>
      intro k K1 B1 L1 f1 hk h1 e1
      have hbd := bndN_bd (sumR v h c) k
      generalize hbe : bndN (sumR v h c) k = be at hbd ⊢
      refine s_bm4 H hE h1 (by omega) (by omega) (exin e1 hm) (fun K2 B2 L2 f2 h2 e2 u2_0 u2_1 u2_2 => ?_) (fun K3 B3 L3 f3 h3 e3 u3_0 u3_1 u3_2 => ?_)
      · have F2 := (hF.e0 hc12 e1 (Or.inl rfl)).e0 hc12 e2 (Or.inl rfl)
        have bt1 : 0 ≤ errN 1 v h ((k : Int) + 1) c ∧ errN 1 v h ((k : Int) + 1) c ≤ c := errN_bd 1 v h ((k : Int) + 1) c
        have bt0 : 0 ≤ errN 0 v h ((k : Int) + 1) c ∧ errN 0 v h ((k : Int) + 1) c ≤ c := errN_bd 0 v h ((k : Int) + 1) c
        have bb1 : 0 ≤ errN 1 v h be c ∧ errN 1 v h be c ≤ c := errN_bd 1 v h be c
        have bb0 : 0 ≤ errN 0 v h be c ∧ errN 0 v h be c ≤ c := errN_bd 0 v h be c
        refine w_callV hE (hc_errorsOf H h2 u2_2 (t := (k : Int) + 1) (b := 0) (by omega) (Or.inl rfl) F2 ho) lX12_ok (by decide : (507, 0, 100, 12, 3) ∈ lX12) qm_errorsOf h2 u2_2.1 u2_2.2 (by decide) (by decide) (by decide) rfl rfl (by simp [Value.category]) (by decide +kernel) (fun r4 L4 f4 _ hp4 => ?_)
        obtain ⟨K4, B4, h4, e4, hr4⟩ := hp4
        dsimp only at h4 e4 hr4
        subst hr4
        have F4 := F2.e0 hc12 e4 (Or.inl rfl)
        refine s_bm16 H hE h4 (by omega) (by omega) (by omega) (exin e4 u2_2) (fun K5 B5 L5 f5 h5 e5 u5_0 u5_1 u5_2 u5_3 => ?_)
        refine w_callV hE (hc_errorsOf H h5 u5_3 (t := (k : Int) + 1) (b := 1) (by omega) (Or.inr rfl) (F4.e0 hc12 e5 (Or.inl rfl)) ho) lX12_ok (by decide : (507, 0, 100, 12, 3) ∈ lX12) qm_errorsOf h5 u5_3.1 u5_3.2 (by decide) (by decide) (by decide) rfl rfl (by simp [Value.category]) (by decide +kernel) (fun r6 L6 f6 _ hp6 => ?_)
        obtain ⟨K6, B6, h6, e6, hr6⟩ := hp6
        dsimp only at h6 e6 hr6
        subst hr6
        have F6 := (F4.e0 hc12 e5 (Or.inl rfl)).e0 hc12 e6 (Or.inl rfl)
        refine s_bm22 H hE h6 (by omega) (by omega) (by omega) (by omega) (exin e6 u5_3) (fun K7 B7 L7 f7 h7 e7 u7_0 u7_1 u7_2 u7_3 u7_4 => ?_)
        refine w_callV hE (hc_errorsOf H h7 u7_4 (t := be) (b := 0) (by omega) (Or.inl rfl) (F6.e0 hc12 e7 (Or.inl rfl)) ho) lX12_ok (by decide : (507, 0, 100, 12, 3) ∈ lX12) qm_errorsOf h7 u7_4.1 u7_4.2 (by decide) (by decide) (by decide) rfl rfl (by simp [Value.category]) (by decide +kernel) (fun r8 L8 f8 _ hp8 => ?_)
        obtain ⟨K8, B8, h8, e8, hr8⟩ := hp8
        dsimp only at h8 e8 hr8
        subst hr8
        have F8 := (F6.e0 hc12 e7 (Or.inl rfl)).e0 hc12 e8 (Or.inl rfl)
        refine s_bm29 H hE h8 (by omega) (by omega) (by omega) (by omega) (exin e8 u7_4) (fun K9 B9 L9 f9 h9 e9 u9_0 u9_1 u9_2 u9_3 u9_4 => ?_)
        refine w_callV hE (hc_errorsOf H h9 u9_4 (t := be) (b := 1) (by omega) (Or.inr rfl) (F8.e0 hc12 e9 (Or.inl rfl)) ho) lX12_ok (by decide : (507, 0, 100, 12, 3) ∈ lX12) qm_errorsOf h9 u9_4.1 u9_4.2 (by decide) (by decide) (by decide) rfl rfl (by simp [Value.category]) (by decide +kernel) (fun r10 L10 f10 _ hp10 => ?_)
        obtain ⟨K10, B10, h10, e10, hr10⟩ := hp10
        dsimp only at h10 e10 hr10
        subst hr10
        have e010 := extC_tr (extC_tr (extC_tr (extC_tr (extC_tr (extC_tr (extC_tr (extC_tr e1 e2) e4) e5) e6) e7) e8) e9) e10
        have ek : 1 + ((k : Int) + 1) = ((k + 1 : Nat) : Int) + 1 := by omega
        by_cases hlt : sumR v h c ((k : Int) + 1) < sumR v h c be
        · have hlt2 : errN 1 v h ((k : Int) + 1) c + errN 0 v h ((k : Int) + 1) c < errN 1 v h be c + errN 0 v h be c := hlt
          refine s_bm35a H hE h10 (by omega) (by omega) (by omega) (by omega) (by omega) (by omega) (exin e10 u9_4) (fun K11 B11 L11 f11 h11 e11 u11_0 u11_1 u11_2 u11_3 u11_4 u11_5 u11_6 => ?_)
          have hb1 : bndN (sumR v h c) (k + 1) = (k : Int) + 1 := bndN_1 (by rw [hbe]; exact hlt)
          have := ih (k + 1) K11 B11 L11 f11 (by omega) h11 (extC_tr e010 e11)
          rw [hb1, ← ek] at this
          exact this
        · have hlt2 : ¬ errN 1 v h ((k : Int) + 1) c + errN 0 v h ((k : Int) + 1) c < errN 1 v h be c + errN 0 v h be c := hlt
          refine s_bm35b H hE h10 (by omega) (by omega) (by omega) (by omega) (by omega) (by omega) (exin e10 u9_4) (fun K11 B11 L11 f11 h11 e11 u11_0 u11_1 u11_2 u11_3 u11_4 u11_5 u11_6 u11_7 u11_8 => ?_)
          have hb1 : bndN (sumR v h c) (k + 1) = be := (bndN_0 (by rw [hbe]; exact hlt)).trans hbe
          have := ih (k + 1) K11 B11 L11 f11 (by omega) h11 (extC_tr e010 e11)
          rw [hb1, ← ek] at this
          exact this
      · omega
  refine s_bm0 H hE hh hm (fun K2 B2 L2 f2 h2 e2 u2_0 => ?_)
  exact go 10 0 K2 B2 L2 f2 rfl h2 e2
