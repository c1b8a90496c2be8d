/-! Copies. -/
abbrev Q_lcopy : MT := (yX1_copyFrom, cX1_copyFrom, 3, none)
theorem qm_lcopy : mt 207 = Q_lcopy := rfl
theorem hc_lcq {X0 : zC0} (H : ∀ j, j < 427 → CMj X0 j) {K : Nat → Nat} {B : Int} {L : List Nat} {f : Nat → va_E} (hh : hok X0.2.2.1 K B L f) {a b c o : Nat} {v h bu pr dr : Nat → Int} (ha : a ∈ L ∧ K a = 62) (hb : b ∈ L ∧ K b = 102) (hF : LF K L f 102 c v h) (hO : LO K L f 102 o bu pr dr) (hf : okF c v h) (ho : okO o bu pr dr) : HC X0 Q_lcopy 1 3 c47.2.1 [.ref a, .ref b] K B L f (fun K' _ L' f' _ => LF K' L' f' 62 c v h ∧ LO K' L' f' 62 o bu pr dr) := by
  refine eM.mk rfl pnX1 (Nat.le_of_ble_eq_true rfl) (fun E hE _ hret => ?_)
  obtain ⟨l0, D0, cy0, ax0⟩ := X0
  have hc12 := hf.1
  have ho10 := ho.1
  have hS : ∀ {K1 : Nat → Nat} {B1 : Int} {L1 : List Nat} {f1 : Nat → va_E}, extC c47.2.1 K B L f K1 B1 L1 f1 → LF K1 L1 f1 102 c v h ∧ LO K1 L1 f1 102 o bu pr dr := fun e => ⟨hF.ext e (Or.inr rfl) (by decide) (by decide) (by decide), hO.ext e (Or.inr rfl) (by decide) (by decide) (by decide) (by decide)⟩
  refine s_lq0 H hE hh (v0 := (c : Int)) (by omega) (v1 := (o : Int)) (by omega) ha hb (fun y hy hky => hF.1 y hy hky) (fun y hy hky => hO.1 y hy hky) (fun K2 B2 L2 f2 v2_2 r2_2 r3_2 h2 e2 u2_0 u2_1 u2_2 u2_3 u2_4 u2_5 u2_6 u2_7 u2_8 u2_9 u2_10 u2_11 u2_12 => ?_)
  have E2 : extC c47.2.1 K B L f K2 B2 L2 f2 := extC_mono e2 (by decide)
  have t1 : cg K2 L2 f2 62 1 c := fun y hy hky => u2_8 y hy hky
  have t2 : cg K2 L2 f2 62 2 o := fun y hy hky => u2_7 y hy hky
  refine w_cpy (N := 12) hE h2 u2_6 u2_5 (by decide) (by decide) rfl rfl (by decide) (fun i => rfl) (fun j => rfl) rfl ((lX1_ok (53, 9, 0, 0, 0) (by decide)).2.1 rfl) (Nat.le_refl _) (by decide) (by decide +kernel) (fun f3 a1 a2 h3 a5 => ?_)
  have E3 : extC c47.2.1 K B L f K2 B2 L2 f3 := extC_tr E2 (extC_mono a5 (by decide))
  have t13 : cg K2 L2 f3 62 1 c := cg_wo u2_5.2 a1 (by decide) t1
  have t23 : cg K2 L2 f3 62 2 o := cg_wo u2_5.2 a1 (by decide) t2
  have v3 : ∀ k, k < c → cg K2 L2 f3 66 k (v k) := fun k hk y hy hky => by
    rw [sol h2 ⟨hy, hky⟩ u2_5 (by decide), a2 k (by omega)]
    exact ((hS E2).1.2 k hk).1 _ u2_6.1 u2_6.2
  refine s_lq84 H hE h3 u2_3 u2_4 (fun K4 B4 L4 f4 h4 e4 u4_0 u4_1 => ?_)
  have go1 : ∀ (N i : Nat) (K1 : Nat → Nat) (B1 : Int) (L1 : List Nat) (f1 : Nat → va_E), i + N = 12 → hok cy0 K1 B1 L1 f1 → extC c47.2.1 K B L f K1 B1 L1 f1 → cg K1 L1 f1 62 1 c → cg K1 L1 f1 62 2 o → (∀ k, k < c → cg K1 L1 f1 66 k (v k)) → (∀ k, k < i → k < c → cg K1 L1 f1 67 k (h k)) → (∀ (K9 : Nat → Nat) (B9 : Int) (L9 : List Nat) (f9 : Nat → va_E) (lv : List (Nat × Value)), lv = [(0, .ref a), (1, .ref b), (2, .int (Int32.ofInt 12))] → hok cy0 K9 B9 L9 f9 → extC c47.2.1 K B L f K9 B9 L9 f9 → cg K9 L9 f9 62 1 c → cg K9 L9 f9 62 2 o → (∀ k, k < c → cg K9 L9 f9 66 k (v k) ∧ cg K9 L9 f9 67 k (h k)) → eW E 0 0 L9 f9 110 lv []) → eW E 0 0 L1 f1 86 [(0, .ref a), (1, .ref b), (2, .int (Int32.ofInt (i : Int)))] [] := by
    intro N
    induction N with
    | zero =>
      intro i K1 B1 L1 f1 hi h1 e1 q1 q2 q3 q4 kk
      have hi12 : i = 12 := by omega
      subst hi12
      refine s_lq86 H hE h1 (by omega) (exin e1 ha) (exin e1 hb) (fun K5 B5 L5 f5 r2_5 r3_5 h5 e5 u5_0 u5_1 u5_2 u5_3 u5_4 => ?_) (fun K6 B6 L6 f6 h6 e6 u6_0 u6_1 u6_2 => ?_)
      · omega
      · refine kk K6 B6 L6 f6 _ rfl h6 (extC_tr e1 (extC_mono e6 (by simp))) (cg_ext e6 (by decide) (by simp) q1) (cg_ext e6 (by decide) (by simp) q2) (fun k hk => ⟨cg_ext e6 (by decide) (by simp) (q3 k hk), cg_ext e6 (by decide) (by simp) (q4 k (by omega) hk)⟩)
    | succ N ih =>
      intro i K1 B1 L1 f1 hi h1 e1 q1 q2 q3 q4 kk
      have ei : 1 + (i : Int) = ((i + 1 : Nat) : Int) := by omega
      refine s_lq86 H hE h1 (by omega) (exin e1 ha) (exin e1 hb) (fun K5 B5 L5 f5 r2_5 r3_5 h5 e5 u5_0 u5_1 u5_2 u5_3 u5_4 => ?_) (fun K6 B6 L6 f6 h6 e6 u6_0 u6_1 u6_2 => ?_)
      · have e15 := extC_tr e1 (extC_mono e5 (by simp))
        refine w_zld hE h5 u5_3 (by decide) (by decide) (by omega) (by show (i : Int) < 12; omega) (by decide +kernel) ?_
        rw [Int.toNat_natCast]
        have hv : ∀ k, k = i → k < c → gi (f5 r2_5) k = h k := fun k _ hk => ((hS e15).1.2 k hk).2 _ u5_3.1 u5_3.2
        generalize hg : gi (f5 r2_5) i = gv
        refine w_zst hE h5 u5_4 (by decide) (by decide) (fun j => rfl) (by omega) (by show (i : Int) < 12; omega) (by decide +kernel) (fun f7 z hz d1 d2 h7 d5 => ?_)
        rw [Int.toNat_natCast] at d2
        have e17 := extC_tr e15 (extC_mono d5 (by decide))
        refine s_lq104 H hE h7 (by omega) u5_1 u5_2 (fun K8 B8 L8 f8 h8 e8 u8_0 u8_1 u8_2 => ?_)
        rw [ei]
        refine ih (i + 1) K8 B8 L8 f8 (by omega) h8 (extC_tr e17 (extC_mono e8 (by simp))) (cg_ext e8 (by decide) (by simp) (cg_wo u5_4.2 d1 (by decide) (cg_ext e5 (by decide) (by simp) q1))) (cg_ext e8 (by decide) (by simp) (cg_wo u5_4.2 d1 (by decide) (cg_ext e5 (by decide) (by simp) q2))) (fun k hk => cg_ext e8 (by decide) (by simp) (cg_wo u5_4.2 d1 (by decide) (cg_ext e5 (by decide) (by simp) (q3 k hk)))) (fun k hk hkc => cg_ext e8 (by decide) (by simp) ?_) kk
        by_cases ek : k = i
        · have h01 := (hf.2 k hkc).2
          have hgk : gv = h k := by rw [← hg, ← ek]; exact hv k ek hkc
          have hzk : z = h k := (hz (by rw [hgk]; exact h01)).trans hgk
          rw [ek]
          rw [hzk, ek] at d2
          exact cg_wr h5 u5_4 (by decide) d2
        · exact cg_ws h5 u5_4 (by decide) d2 ek (cg_ext e5 (by decide) (by simp) (q4 k (by omega) hkc))
      · omega
  refine go1 12 0 K4 B4 L4 f4 rfl h4 (extC_tr E3 (extC_mono e4 (by simp))) (cg_ext e4 (by decide) (by simp) t13) (cg_ext e4 (by decide) (by simp) t23) (fun k hk => cg_ext e4 (by decide) (by simp) (v3 k hk)) (fun k hk => absurd hk (Nat.not_lt_zero k)) (fun K9 B9 L9 f9 lv9 hlv h9 e9 q1 q2 q3 => ?_)
  rw [hlv]
  refine x_sub (lv' := [(0, .ref a), (1, .ref b)]) (fun q hq => by
    simp only [List.mem_cons, List.not_mem_nil, or_false] at hq
    rcases hq with h | h <;> simp [h]) ?_
  refine s_lq110 H hE h9 (exin e9 ha) (exin e9 hb) (fun K10 B10 L10 f10 h10 e10 u10_0 u10_1 => ?_)
  have go2 : ∀ (N i : Nat) (K1 : Nat → Nat) (B1 : Int) (L1 : List Nat) (f1 : Nat → va_E), i + N = 10 → hok cy0 K1 B1 L1 f1 → extC c47.2.1 K B L f K1 B1 L1 f1 → LF K1 L1 f1 62 c v h → cg K1 L1 f1 62 2 o → (∀ k, k < i → k < o → cg K1 L1 f1 68 k (bu k)) → (∀ (K9 : Nat → Nat) (B9 : Int) (L9 : List Nat) (f9 : Nat → va_E) (lv : List (Nat × Value)), lv = [(0, .ref a), (1, .ref b), (2, .int (Int32.ofInt 10))] → hok cy0 K9 B9 L9 f9 → extC c47.2.1 K B L f K9 B9 L9 f9 → LF K9 L9 f9 62 c v h → cg K9 L9 f9 62 2 o → (∀ k, k < o → cg K9 L9 f9 68 k (bu k)) → eW E 0 0 L9 f9 136 lv []) → eW E 0 0 L1 f1 112 [(0, .ref a), (1, .ref b), (2, .int (Int32.ofInt (i : Int)))] [] := by
    intro N
    induction N with
    | zero =>
      intro i K1 B1 L1 f1 hi h1 e1 q1 q2 q4 kk
      have hi12 : i = 10 := by omega
      subst hi12
      refine s_lq112 H hE h1 (by omega) (exin e1 ha) (exin e1 hb) (fun K5 B5 L5 f5 r2_5 r3_5 h5 e5 u5_0 u5_1 u5_2 u5_3 u5_4 => ?_) (fun K6 B6 L6 f6 h6 e6 u6_0 u6_1 u6_2 => ?_)
      · omega
      · exact kk K6 B6 L6 f6 _ rfl h6 (extC_tr e1 (extC_mono e6 (by simp))) (q1.e0 e6 (Or.inl rfl)) (cg_ext e6 (by decide) (by simp) q2) (fun k hk => cg_ext e6 (by decide) (by simp) (q4 k (by omega) hk))
    | succ N ih =>
      intro i K1 B1 L1 f1 hi h1 e1 q1 q2 q4 kk
      have ei : 1 + (i : Int) = ((i + 1 : Nat) : Int) := by omega
      refine s_lq112 H hE h1 (by omega) (exin e1 ha) (exin e1 hb) (fun K5 B5 L5 f5 r2_5 r3_5 h5 e5 u5_0 u5_1 u5_2 u5_3 u5_4 => ?_) (fun K6 B6 L6 f6 h6 e6 u6_0 u6_1 u6_2 => ?_)
      · have e15 := extC_tr e1 (extC_mono e5 (by simp))
        refine w_zld hE h5 u5_3 (by decide) (by decide) (by omega) (by show (i : Int) < 10; omega) (by decide +kernel) ?_
        rw [Int.toNat_natCast]
        have hv : ∀ k, k = i → k < o → gi (f5 r2_5) k = bu k := fun k _ hk => ((hS e15).2.2 k hk).1 _ u5_3.1 u5_3.2
        generalize hg : gi (f5 r2_5) i = gv
        refine w_zst hE h5 u5_4 (by decide) (by decide) (fun j => rfl) (by omega) (by show (i : Int) < 10; omega) (by decide +kernel) (fun f7 z hz d1 d2 h7 d5 => ?_)
        rw [Int.toNat_natCast] at d2
        have e17 := extC_tr e15 (extC_mono d5 (by decide))
        refine s_lq130 H hE h7 (by omega) u5_1 u5_2 (fun K8 B8 L8 f8 h8 e8 u8_0 u8_1 u8_2 => ?_)
        rw [ei]
        refine ih (i + 1) K8 B8 L8 f8 (by omega) h8 (extC_tr e17 (extC_mono e8 (by simp))) (((q1.e0 e5 (Or.inl rfl)).ext d5 (Or.inl rfl) (by decide) (by decide) (by decide)).e0 e8 (Or.inl rfl)) (cg_ext e8 (by decide) (by simp) (cg_wo u5_4.2 d1 (by decide) (cg_ext e5 (by decide) (by simp) q2))) (fun k hk hkc => cg_ext e8 (by decide) (by simp) ?_) kk
        by_cases ek : k = i
        · have h01 := (ho.2 k hkc).1
          have hgk : gv = bu k := by rw [← hg, ← ek]; exact hv k ek hkc
          have hzk : z = bu k := (hz (by rw [hgk]; exact h01)).trans hgk
          rw [ek]
          rw [hzk, ek] at d2
          exact cg_wr h5 u5_4 (by decide) d2
        · exact cg_ws h5 u5_4 (by decide) d2 ek (cg_ext e5 (by decide) (by simp) (q4 k (by omega) hkc))
      · omega
  have L9F : LF K9 L9 f9 62 c v h := ⟨q1, q3⟩
  refine go2 10 0 K10 B10 L10 f10 rfl h10 (extC_tr e9 (extC_mono e10 (by simp))) (L9F.e0 e10 (Or.inl rfl)) (cg_ext e10 (by decide) (by simp) q2) (fun k hk => absurd hk (Nat.not_lt_zero k)) (fun K11 B11 L11 f11 lv11 hlv2 h11 e11 w1 w2 w3 => ?_)
  rw [hlv2]
  refine x_sub (lv' := [(0, .ref a), (1, .ref b)]) (fun q hq => by
    simp only [List.mem_cons, List.not_mem_nil, or_false] at hq
    rcases hq with h | h <;> simp [h]) ?_
  refine s_lq136 H hE h11 (exin e11 ha) (exin e11 hb) (fun K12 B12 L12 f12 r2_12 r3_12 h12 e12 u12_0 u12_1 u12_2 u12_3 => ?_)
  have E12 := extC_tr e11 (extC_mono e12 (by simp : ∀ q ∈ ([] : List (Nat × Nat)), q ∈ c47.2.1))
  refine w_cpy (N := 10) hE h12 u12_3 u12_2 (by decide) (by decide) rfl rfl (by decide) (fun i => rfl) (fun j => rfl) rfl ((lX1_ok (53, 9, 0, 0, 0) (by decide)).2.1 rfl) (Nat.le_refl _) (by decide) (by decide +kernel) (fun f13 a1 a2 h13 a5 => ?_)
  have E13 : extC c47.2.1 K B L f K12 B12 L12 f13 := extC_tr E12 (extC_mono a5 (by decide))
  have F13 : LF K12 L12 f13 62 c v h := (w1.e0 e12 (Or.inl rfl)).ext a5 (Or.inl rfl) (by decide) (by decide) (by decide)
  have o13 : cg K12 L12 f13 62 2 o := cg_wo u12_2.2 a1 (by decide) (cg_ext e12 (by decide) (by simp) w2)
  have b13 : ∀ k, k < o → cg K12 L12 f13 68 k (bu k) := fun k hk => cg_wo u12_2.2 a1 (by decide) (cg_ext e12 (by decide) (by simp) (w3 k hk))
  have p13 : ∀ k, k < o → cg K12 L12 f13 69 k (pr k) := fun k hk y hy hky => by
    rw [sol h12 ⟨hy, hky⟩ u12_2 (by decide), a2 k (by omega)]
    exact ((hS E12).2.2 k hk).2.1 _ u12_3.1 u12_3.2
  refine s_lq151 H hE h13 u12_0 u12_1 (fun K14 B14 L14 f14 r2_14 r3_14 h14 e14 u14_0 u14_1 u14_2 u14_3 => ?_)
  have E14 := extC_tr E13 (extC_mono e14 (by simp : ∀ q ∈ ([] : List (Nat × Nat)), q ∈ c47.2.1))
  refine w_cpy (N := 10) hE h14 u14_3 u14_2 (by decide) (by decide) rfl rfl (by decide) (fun i => rfl) (fun j => rfl) rfl ((lX1_ok (53, 9, 0, 0, 0) (by decide)).2.1 rfl) (Nat.le_refl _) (by decide) (by decide +kernel) (fun f15 d1 d2 h15 d5 => ?_)
  have E15 : extC c47.2.1 K B L f K14 B14 L14 f15 := extC_tr E14 (extC_mono d5 (by decide))
  have F15 : LF K14 L14 f15 62 c v h := (F13.e0 e14 (Or.inl rfl)).ext d5 (Or.inl rfl) (by decide) (by decide) (by decide)
  refine hret 0 0 L14 f15 166 _ (Nat.le_refl _) (Nat.le_refl _) (by decide +kernel) ⟨K14, B14, h15, E15, F15, cg_wo u14_2.2 d1 (by decide) (cg_ext e14 (by decide) (by simp) o13), fun k hk => ⟨cg_wo u14_2.2 d1 (by decide) (cg_ext e14 (by decide) (by simp) (b13 k hk)), cg_wo u14_2.2 d1 (by decide) (cg_ext e14 (by decide) (by simp) (p13 k hk)), fun y hy hky => ?_⟩⟩
  rw [sol h14 ⟨hy, hky⟩ u14_2 (by decide), d2 k (by omega)]
  exact ((hS E14).2.2 k hk).2.2 _ u14_3.1 u14_3.2
theorem hc_lcr {X0 : zC0} (H : ∀ j, j < 427 → CMj X0 j) {K : Nat → Nat} {B : Int} {L : List Nat} {f : Nat → va_E} (hh : hok X0.2.2.1 K B L f) {a b c o : Nat} {v h bu pr dr : Nat → Int} (ha : a ∈ L ∧ K a = 102) (hb : b ∈ L ∧ K b = 62) (hF : LF K L f 62 c v h) (hO : LO K L f 62 o bu pr dr) (hf : okF c v h) (ho : okO o bu pr dr) : HC X0 Q_lcopy 1 3 c117.2.1 [.ref a, .ref b] K B L f (fun K' _ L' f' _ => LF K' L' f' 102 c v h ∧ LO K' L' f' 102 o bu pr dr) := by
  refine eM.mk rfl pnX1 (Nat.le_of_ble_eq_true rfl) (fun E hE _ hret => ?_)
  obtain ⟨l0, D0, cy0, ax0⟩ := X0
  have hc12 := hf.1
  have ho10 := ho.1
  have hS : ∀ {K1 : Nat → Nat} {B1 : Int} {L1 : List Nat} {f1 : Nat → va_E}, extC c117.2.1 K B L f K1 B1 L1 f1 → LF K1 L1 f1 62 c v h ∧ LO K1 L1 f1 62 o bu pr dr := fun e => ⟨hF.ext e (Or.inl rfl) (by decide) (by decide) (by decide), hO.ext e (Or.inl rfl) (by decide) (by decide) (by decide) (by decide)⟩
  refine s_lr0 H hE hh (v0 := (c : Int)) (by omega) (v1 := (o : Int)) (by omega) ha hb (fun y hy hky => hF.1 y hy hky) (fun y hy hky => hO.1 y hy hky) (fun K2 B2 L2 f2 v2_2 r2_2 r3_2 h2 e2 u2_0 u2_1 u2_2 u2_3 u2_4 u2_5 u2_6 u2_7 u2_8 u2_9 u2_10 u2_11 u2_12 => ?_)
  have E2 : extC c117.2.1 K B L f K2 B2 L2 f2 := extC_mono e2 (by decide)
  have t1 : cg K2 L2 f2 102 1 c := fun y hy hky => u2_8 y hy hky
  have t2 : cg K2 L2 f2 102 2 o := fun y hy hky => u2_7 y hy hky
  refine w_cpy (N := 12) hE h2 u2_6 u2_5 (by decide) (by decide) rfl rfl (by decide) (fun i => rfl) (fun j => rfl) rfl ((lX1_ok (53, 9, 0, 0, 0) (by decide)).2.1 rfl) (Nat.le_refl _) (by decide) (by decide +kernel) (fun f3 a1 a2 h3 a5 => ?_)
  have E3 : extC c117.2.1 K B L f K2 B2 L2 f3 := extC_tr E2 (extC_mono a5 (by decide))
  have t13 : cg K2 L2 f3 102 1 c := cg_wo u2_5.2 a1 (by decide) t1
  have t23 : cg K2 L2 f3 102 2 o := cg_wo u2_5.2 a1 (by decide) t2
  have v3 : ∀ k, k < c → cg K2 L2 f3 106 k (v k) := fun k hk y hy hky => by
    rw [sol h2 ⟨hy, hky⟩ u2_5 (by decide), a2 k (by omega)]
    exact ((hS E2).1.2 k hk).1 _ u2_6.1 u2_6.2
  refine s_lr84 H hE h3 u2_3 u2_4 (fun K4 B4 L4 f4 h4 e4 u4_0 u4_1 => ?_)
  have go1 : ∀ (N i : Nat) (K1 : Nat → Nat) (B1 : Int) (L1 : List Nat) (f1 : Nat → va_E), i + N = 12 → hok cy0 K1 B1 L1 f1 → extC c117.2.1 K B L f K1 B1 L1 f1 → cg K1 L1 f1 102 1 c → cg K1 L1 f1 102 2 o → (∀ k, k < c → cg K1 L1 f1 106 k (v k)) → (∀ k, k < i → k < c → cg K1 L1 f1 107 k (h k)) → (∀ (K9 : Nat → Nat) (B9 : Int) (L9 : List Nat) (f9 : Nat → va_E) (lv : List (Nat × Value)), lv = [(0, .ref a), (1, .ref b), (2, .int (Int32.ofInt 12))] → hok cy0 K9 B9 L9 f9 → extC c117.2.1 K B L f K9 B9 L9 f9 → cg K9 L9 f9 102 1 c → cg K9 L9 f9 102 2 o → (∀ k, k < c → cg K9 L9 f9 106 k (v k) ∧ cg K9 L9 f9 107 k (h k)) → eW E 0 0 L9 f9 110 lv []) → eW E 0 0 L1 f1 86 [(0, .ref a), (1, .ref b), (2, .int (Int32.ofInt (i : Int)))] [] := by
    intro N
    induction N with
    | zero =>
      intro i K1 B1 L1 f1 hi h1 e1 q1 q2 q3 q4 kk
      have hi12 : i = 12 := by omega
      subst hi12
      refine s_lr86 H hE h1 (by omega) (exin e1 ha) (exin e1 hb) (fun K5 B5 L5 f5 r2_5 r3_5 h5 e5 u5_0 u5_1 u5_2 u5_3 u5_4 => ?_) (fun K6 B6 L6 f6 h6 e6 u6_0 u6_1 u6_2 => ?_)
      · omega
      · refine kk K6 B6 L6 f6 _ rfl h6 (extC_tr e1 (extC_mono e6 (by simp))) (cg_ext e6 (by decide) (by simp) q1) (cg_ext e6 (by decide) (by simp) q2) (fun k hk => ⟨cg_ext e6 (by decide) (by simp) (q3 k hk), cg_ext e6 (by decide) (by simp) (q4 k (by omega) hk)⟩)
    | succ N ih =>
      intro i K1 B1 L1 f1 hi h1 e1 q1 q2 q3 q4 kk
      have ei : 1 + (i : Int) = ((i + 1 : Nat) : Int) := by omega
      refine s_lr86 H hE h1 (by omega) (exin e1 ha) (exin e1 hb) (fun K5 B5 L5 f5 r2_5 r3_5 h5 e5 u5_0 u5_1 u5_2 u5_3 u5_4 => ?_) (fun K6 B6 L6 f6 h6 e6 u6_0 u6_1 u6_2 => ?_)
      · have e15 := extC_tr e1 (extC_mono e5 (by simp))
        refine w_zld hE h5 u5_3 (by decide) (by decide) (by omega) (by show (i : Int) < 12; omega) (by decide +kernel) ?_
        rw [Int.toNat_natCast]
        have hv : ∀ k, k = i → k < c → gi (f5 r2_5) k = h k := fun k _ hk => ((hS e15).1.2 k hk).2 _ u5_3.1 u5_3.2
        generalize hg : gi (f5 r2_5) i = gv
        refine w_zst hE h5 u5_4 (by decide) (by decide) (fun j => rfl) (by omega) (by show (i : Int) < 12; omega) (by decide +kernel) (fun f7 z hz d1 d2 h7 d5 => ?_)
        rw [Int.toNat_natCast] at d2
        have e17 := extC_tr e15 (extC_mono d5 (by decide))
        refine s_lr104 H hE h7 (by omega) u5_1 u5_2 (fun K8 B8 L8 f8 h8 e8 u8_0 u8_1 u8_2 => ?_)
        rw [ei]
        refine ih (i + 1) K8 B8 L8 f8 (by omega) h8 (extC_tr e17 (extC_mono e8 (by simp))) (cg_ext e8 (by decide) (by simp) (cg_wo u5_4.2 d1 (by decide) (cg_ext e5 (by decide) (by simp) q1))) (cg_ext e8 (by decide) (by simp) (cg_wo u5_4.2 d1 (by decide) (cg_ext e5 (by decide) (by simp) q2))) (fun k hk => cg_ext e8 (by decide) (by simp) (cg_wo u5_4.2 d1 (by decide) (cg_ext e5 (by decide) (by simp) (q3 k hk)))) (fun k hk hkc => cg_ext e8 (by decide) (by simp) ?_) kk
        by_cases ek : k = i
        · have h01 := (hf.2 k hkc).2
          have hgk : gv = h k := by rw [← hg, ← ek]; exact hv k ek hkc
          have hzk : z = h k := (hz (by rw [hgk]; exact h01)).trans hgk
          rw [ek]
          rw [hzk, ek] at d2
          exact cg_wr h5 u5_4 (by decide) d2
        · exact cg_ws h5 u5_4 (by decide) d2 ek (cg_ext e5 (by decide) (by simp) (q4 k (by omega) hkc))
      · omega
  refine go1 12 0 K4 B4 L4 f4 rfl h4 (extC_tr E3 (extC_mono e4 (by simp))) (cg_ext e4 (by decide) (by simp) t13) (cg_ext e4 (by decide) (by simp) t23) (fun k hk => cg_ext e4 (by decide) (by simp) (v3 k hk)) (fun k hk => absurd hk (Nat.not_lt_zero k)) (fun K9 B9 L9 f9 lv9 hlv h9 e9 q1 q2 q3 => ?_)
  rw [hlv]
  refine x_sub (lv' := [(0, .ref a), (1, .ref b)]) (fun q hq => by
    simp only [List.mem_cons, List.not_mem_nil, or_false] at hq
    rcases hq with h | h <;> simp [h]) ?_
  refine s_lr110 H hE h9 (exin e9 ha) (exin e9 hb) (fun K10 B10 L10 f10 h10 e10 u10_0 u10_1 => ?_)
  have go2 : ∀ (N i : Nat) (K1 : Nat → Nat) (B1 : Int) (L1 : List Nat) (f1 : Nat → va_E), i + N = 10 → hok cy0 K1 B1 L1 f1 → extC c117.2.1 K B L f K1 B1 L1 f1 → LF K1 L1 f1 102 c v h → cg K1 L1 f1 102 2 o → (∀ k, k < i → k < o → cg K1 L1 f1 108 k (bu k)) → (∀ (K9 : Nat → Nat) (B9 : Int) (L9 : List Nat) (f9 : Nat → va_E) (lv : List (Nat × Value)), lv = [(0, .ref a), (1, .ref b), (2, .int (Int32.ofInt 10))] → hok cy0 K9 B9 L9 f9 → extC c117.2.1 K B L f K9 B9 L9 f9 → LF K9 L9 f9 102 c v h → cg K9 L9 f9 102 2 o → (∀ k, k < o → cg K9 L9 f9 108 k (bu k)) → eW E 0 0 L9 f9 136 lv []) → eW E 0 0 L1 f1 112 [(0, .ref a), (1, .ref b), (2, .int (Int32.ofInt (i : Int)))] [] := by
    intro N
    induction N with
    | zero =>
      intro i K1 B1 L1 f1 hi h1 e1 q1 q2 q4 kk
      have hi12 : i = 10 := by omega
      subst hi12
      refine s_lr112 H hE h1 (by omega) (exin e1 ha) (exin e1 hb) (fun K5 B5 L5 f5 r2_5 r3_5 h5 e5 u5_0 u5_1 u5_2 u5_3 u5_4 => ?_) (fun K6 B6 L6 f6 h6 e6 u6_0 u6_1 u6_2 => ?_)
      · omega
      · exact kk K6 B6 L6 f6 _ rfl h6 (extC_tr e1 (extC_mono e6 (by simp))) (q1.e0 e6 (Or.inr rfl)) (cg_ext e6 (by decide) (by simp) q2) (fun k hk => cg_ext e6 (by decide) (by simp) (q4 k (by omega) hk))
    | succ N ih =>
      intro i K1 B1 L1 f1 hi h1 e1 q1 q2 q4 kk
      have ei : 1 + (i : Int) = ((i + 1 : Nat) : Int) := by omega
      refine s_lr112 H hE h1 (by omega) (exin e1 ha) (exin e1 hb) (fun K5 B5 L5 f5 r2_5 r3_5 h5 e5 u5_0 u5_1 u5_2 u5_3 u5_4 => ?_) (fun K6 B6 L6 f6 h6 e6 u6_0 u6_1 u6_2 => ?_)
      · have e15 := extC_tr e1 (extC_mono e5 (by simp))
        refine w_zld hE h5 u5_3 (by decide) (by decide) (by omega) (by show (i : Int) < 10; omega) (by decide +kernel) ?_
        rw [Int.toNat_natCast]
        have hv : ∀ k, k = i → k < o → gi (f5 r2_5) k = bu k := fun k _ hk => ((hS e15).2.2 k hk).1 _ u5_3.1 u5_3.2
        generalize hg : gi (f5 r2_5) i = gv
        refine w_zst hE h5 u5_4 (by decide) (by decide) (fun j => rfl) (by omega) (by show (i : Int) < 10; omega) (by decide +kernel) (fun f7 z hz d1 d2 h7 d5 => ?_)
        rw [Int.toNat_natCast] at d2
        have e17 := extC_tr e15 (extC_mono d5 (by decide))
        refine s_lr130 H hE h7 (by omega) u5_1 u5_2 (fun K8 B8 L8 f8 h8 e8 u8_0 u8_1 u8_2 => ?_)
        rw [ei]
        refine ih (i + 1) K8 B8 L8 f8 (by omega) h8 (extC_tr e17 (extC_mono e8 (by simp))) (((q1.e0 e5 (Or.inr rfl)).ext d5 (Or.inr rfl) (by decide) (by decide) (by decide)).e0 e8 (Or.inr rfl)) (cg_ext e8 (by decide) (by simp) (cg_wo u5_4.2 d1 (by decide) (cg_ext e5 (by decide) (by simp) q2))) (fun k hk hkc => cg_ext e8 (by decide) (by simp) ?_) kk
        by_cases ek : k = i
        · have h01 := (ho.2 k hkc).1
          have hgk : gv = bu k := by rw [← hg, ← ek]; exact hv k ek hkc
          have hzk : z = bu k := (hz (by rw [hgk]; exact h01)).trans hgk
          rw [ek]
          rw [hzk, ek] at d2
          exact cg_wr h5 u5_4 (by decide) d2
        · exact cg_ws h5 u5_4 (by decide) d2 ek (cg_ext e5 (by decide) (by simp) (q4 k (by omega) hkc))
      · omega
  have L9F : LF K9 L9 f9 102 c v h := ⟨q1, q3⟩
  refine go2 10 0 K10 B10 L10 f10 rfl h10 (extC_tr e9 (extC_mono e10 (by simp))) (L9F.e0 e10 (Or.inr rfl)) (cg_ext e10 (by decide) (by simp) q2) (fun k hk => absurd hk (Nat.not_lt_zero k)) (fun K11 B11 L11 f11 lv11 hlv2 h11 e11 w1 w2 w3 => ?_)
  rw [hlv2]
  refine x_sub (lv' := [(0, .ref a), (1, .ref b)]) (fun q hq => by
    simp only [List.mem_cons, List.not_mem_nil, or_false] at hq
    rcases hq with h | h <;> simp [h]) ?_
  refine s_lr136 H hE h11 (exin e11 ha) (exin e11 hb) (fun K12 B12 L12 f12 r2_12 r3_12 h12 e12 u12_0 u12_1 u12_2 u12_3 => ?_)
  have E12 := extC_tr e11 (extC_mono e12 (by simp : ∀ q ∈ ([] : List (Nat × Nat)), q ∈ c117.2.1))
  refine w_cpy (N := 10) hE h12 u12_3 u12_2 (by decide) (by decide) rfl rfl (by decide) (fun i => rfl) (fun j => rfl) rfl ((lX1_ok (53, 9, 0, 0, 0) (by decide)).2.1 rfl) (Nat.le_refl _) (by decide) (by decide +kernel) (fun f13 a1 a2 h13 a5 => ?_)
  have E13 : extC c117.2.1 K B L f K12 B12 L12 f13 := extC_tr E12 (extC_mono a5 (by decide))
  have F13 : LF K12 L12 f13 102 c v h := (w1.e0 e12 (Or.inr rfl)).ext a5 (Or.inr rfl) (by decide) (by decide) (by decide)
  have o13 : cg K12 L12 f13 102 2 o := cg_wo u12_2.2 a1 (by decide) (cg_ext e12 (by decide) (by simp) w2)
  have b13 : ∀ k, k < o → cg K12 L12 f13 108 k (bu k) := fun k hk => cg_wo u12_2.2 a1 (by decide) (cg_ext e12 (by decide) (by simp) (w3 k hk))
  have p13 : ∀ k, k < o → cg K12 L12 f13 109 k (pr k) := fun k hk y hy hky => by
    rw [sol h12 ⟨hy, hky⟩ u12_2 (by decide), a2 k (by omega)]
    exact ((hS E12).2.2 k hk).2.1 _ u12_3.1 u12_3.2
  refine s_lr151 H hE h13 u12_0 u12_1 (fun K14 B14 L14 f14 r2_14 r3_14 h14 e14 u14_0 u14_1 u14_2 u14_3 => ?_)
  have E14 := extC_tr E13 (extC_mono e14 (by simp : ∀ q ∈ ([] : List (Nat × Nat)), q ∈ c117.2.1))
  refine w_cpy (N := 10) hE h14 u14_3 u14_2 (by decide) (by decide) rfl rfl (by decide) (fun i => rfl) (fun j => rfl) rfl ((lX1_ok (53, 9, 0, 0, 0) (by decide)).2.1 rfl) (Nat.le_refl _) (by decide) (by decide +kernel) (fun f15 d1 d2 h15 d5 => ?_)
  have E15 : extC c117.2.1 K B L f K14 B14 L14 f15 := extC_tr E14 (extC_mono d5 (by decide))
  have F15 : LF K14 L14 f15 102 c v h := (F13.e0 e14 (Or.inr rfl)).ext d5 (Or.inr rfl) (by decide) (by decide) (by decide)
  refine hret 0 0 L14 f15 166 _ (Nat.le_refl _) (Nat.le_refl _) (by decide +kernel) ⟨K14, B14, h15, E15, F15, cg_wo u14_2.2 d1 (by decide) (cg_ext e14 (by decide) (by simp) o13), fun k hk => ⟨cg_wo u14_2.2 d1 (by decide) (cg_ext e14 (by decide) (by simp) (b13 k hk)), cg_wo u14_2.2 d1 (by decide) (cg_ext e14 (by decide) (by simp) (p13 k hk)), fun y hy hky => ?_⟩⟩
  rw [sol h14 ⟨hy, hky⟩ u14_2 (by decide), d2 k (by omega)]
  exact ((hS E14).2.2 k hk).2.2 _ u14_3.1 u14_3.2
