/-! A clause. -/
abbrev modR : List (Nat × Nat) := [(203, 0), (200, 7), (200, 8), (200, 9), (200, 10), (200, 11), (200, 13), (200, 14), (200, 17), (200, 18), (200, 19), (200, 20), (200, 21), (205, 0), (206, 0)]
theorem arr_bd {cy : Nat → ClassId} {K : Nat → Nat} {B : Int} {L : List Nat} {f : Nat → va_E} (hh : hok cy K B L f) {b k j : Nat} (hb : b ∈ L ∧ K b = k) (hz : (zkd k).1 = 2) (hj : j < (zkd k).2.1) : bok B (kbd k j) (gi (f b) j) := by
  have h1 := hh.1 b hb.1
  rw [hb.2] at h1
  unfold cok at h1
  rw [hz] at h1
  obtain ⟨g, hf, hbd⟩ := h1
  have e : gi (f b) j = (g j).toInt := by rw [hf]; rfl
  rw [e]
  exact hbd j hj
theorem hc_clause {X0 : zC0} (H : ∀ j, j < 412 → CMj X0 j) {K : Nat → Nat} {B : Int} {L : List Nat} {f : Nat → va_E} (hh : hok X0.2.2.1 K B L f) {m tx p b T w : Nat} (hA : PA K L m tx p b) (h12 : gi (f m) 12 = T) (hs : ∃ s, s < 4 ∧ T = 705 * s) (h13 : gi (f m) 13 = w) (hw8 : (w : Int) ≤ gi (f m) 8) (hT : TI (gi (f m))) : HC X0 M_clause 12 0 modR [.ref m] K B L f (fun _ _ _ f' r => ∃ c : Int, r = some (.int (Int32.ofInt c)) ∧ 0 ≤ c ∧ c ≤ 6 ∧ (c = 0 → gi (f' m) 12 = T ∧ TI (gi (f' m)) ∧ gi (f m) 8 + 1 ≤ gi (f' m) 8 ∧ ∃ w' : Nat, gi (f' m) 13 = w' ∧ (w' : Int) ≤ gi (f' m) 8)) := by
  refine eM.mk ⟨_, rfl⟩ pnX12 (Nat.le_of_ble_eq_true rfl) (fun E hE _ hret => ?_)
  have hT5 : T ≤ 2115 := by obtain ⟨s, hs, he⟩ := hs; omega
  have hTm : T % 705 = 0 := by obtain ⟨s, hs, he⟩ := hs; omega
  have hb24 : 0 ≤ gi (f tx) T ∧ gi (f tx) T ≤ 24 := by
    have := arr_bd hh hA.2.1 (j := T) (by decide) (by show T < 2820; omega)
    rw [kbd203' hTm] at this
    exact ⟨this.1, this.2.1⟩
  obtain ⟨n, hn⟩ : ∃ n : Nat, gi (f tx) T = n := ⟨(gi (f tx) T).toNat, by omega⟩
  rw [hn] at hb24
  obtain ⟨l0, D0, cy0, ax0⟩ := X0
  have bad : ∀ (pc : Nat) (hpc : decode cX12_clause pc = .ok (.ireturn, 1)) (c : Int) (hc : 1 ≤ c ∧ c ≤ 6) (K1 : Nat → Nat) (B1 : Int) (L1 : List Nat) (f1 : Nat → va_E) (lv : List (Nat × Value)), hok cy0 K1 B1 L1 f1 → extC modR K B L f K1 B1 L1 f1 → eW E 0 0 L1 f1 pc lv [.int (Int32.ofInt c)] := fun pc hpc c hc K1 B1 L1 f1 lv h1 e1 => hret 0 0 L1 f1 pc lv _ (Nat.le_refl _) (Nat.le_refl _) hpc (fun ft hft => by cases hft; rfl) ⟨K1, B1, h1, e1, c, rfl, by omega, hc.2, fun h => by omega⟩
  by_cases h24 : n = 24
  · refine s_cl0b H hE hh (v0 := (T : Int)) (by omega) hA.1 (fun y hy hky => by rw [sol hh ⟨hy, hky⟩ hA.1 (by decide), h12]) (fun y hy hky => by rw [sol hh ⟨hy, hky⟩ hA.2.1 (by decide), Int.toNat_natCast, hn, h24]; exact ⟨by omega, rfl⟩) (fun K1 B1 L1 f1 h1 e1 _ _ _ _ => bad 10 (by decide +kernel) 1 (by decide) K1 B1 L1 f1 _ h1 (extC_mono e1 (by decide))) (fun K1 B1 L1 f1 v1 v2 v3 h1 e1 _ _ _ _ _ _ _ _ _ => bad 28 (by decide +kernel) 4 (by decide) K1 B1 L1 f1 _ h1 (extC_mono e1 (by decide))) (fun K1 B1 L1 f1 v1 v2 h1 e1 _ _ _ _ _ _ _ => bad 47 (by decide +kernel) 6 (by decide) K1 B1 L1 f1 _ h1 (extC_mono e1 (by decide)))
  · have hn23 : n ≤ 23 := by omega
    refine s_cl0a H hE hh (v0 := (T : Int)) (v1 := (n : Int)) (by omega) (by omega) hA.1 (fun y hy hky => by rw [sol hh ⟨hy, hky⟩ hA.1 (by decide), h12]) (fun y hy hky => by rw [sol hh ⟨hy, hky⟩ hA.2.1 (by decide), Int.toNat_natCast, hn]; exact ⟨by omega, rfl⟩) (fun K1 B1 L1 f1 h1 e1 _ _ _ _ _ => bad 10 (by decide +kernel) 1 (by decide) K1 B1 L1 f1 _ h1 (extC_mono e1 (by decide))) (fun K1 B1 L1 f1 v2 v3 v4 h1 e1 _ _ _ _ _ _ _ _ _ _ => bad 28 (by decide +kernel) 4 (by decide) K1 B1 L1 f1 _ h1 (extC_mono e1 (by decide))) (fun K1 B1 L1 f1 sort v3 h1 e1 _ _ bs b3 hm1 _ c9 _ _ => ?_)
    have hA1 := hA.ext e1
    have gm1 : ∀ i, i ≠ 14 → i ≠ 21 → gi (f1 m) i = gi (f m) i := fun i hi hj => xg e1 hA.1 (by simp; exact ⟨hi, hj⟩)
    have gt1 : gi (f1 tx) = gi (f tx) := xa e1 hA.2.1 reg203 (by decide)
    have q9 := c9 m hm1.1 hm1.2
    rw [gm1 9 (by decide) (by decide)] at q9
    refine w_next H hE h1 hm1 (by decide) (by decide) (by decide +kernel) (fun K2 B2 L2 f2 h2 e2 n1 n2 => ?_)
    have hA2 := hA1.ext e2
    have hat : gi (f m) 8 + 1 ≤ gi (f2 m) 8 := by
      have := hT (by omega)
      rw [gm1 7 (by decide) (by decide)] at n1
      omega
    have gm2 : ∀ i, i ≠ 14 → i ≠ 21 → (200, i) ∉ modN → gi (f2 m) i = gi (f m) i := fun i hi hj hk => by rw [xg e2 hA1.1 hk, gm1 i hi hj]
    have gt2 : gi (f2 tx) = gi (f tx) := by rw [xa e2 hA1.2.1 reg203 (by decide), gt1]
    refine s_cl74 H hE h2 (v0 := sort) (v1 := (n : Int)) bs (by omega) hA2.1 (fun K3 B3 L3 f3 v2 r3 h3 e3 _ _ b2 hm3 hr3 c12 => ?_)
    have hA3 := hA2.ext e3
    obtain rfl := sol h3 hr3 hA3.2.1 (by decide)
    have g3 : ∀ y, y ∈ L2 → gi (f3 y) = gi (f2 y) := fun y hy => ext0 e3 hy
    have q2 : v2 = T := by rw [← c12 m hm3.1 hm3.2, g3 m hA2.1.1, gm2 12 (by decide) (by decide) (by decide), h12]
    subst q2
    have i3 : (1 + ((T : Int) + (4 * (n : Int)))).toNat = T + 1 + 4 * n := by omega
    have m12 : gi (f3 m) 12 = T := by rw [g3 m hA2.1.1, gm2 12 (by decide) (by decide) (by decide), h12]
    have m13 : gi (f3 m) 13 = w := by rw [g3 m hA2.1.1, gm2 13 (by decide) (by decide) (by decide), h13]
    have t3 : gi (f3 r3) = gi (f r3) := by rw [g3 r3 hA2.2.1.1, gt2]
    refine w_ist hE h3 hr3.1 hr3.2 (by decide) (by decide) (by omega) (by show 1 + ((T : Int) + (4 * (n : Int))) < 2820; omega) (by omega) (by rw [i3, kbd203 (by omega)]; exact ⟨(by show (-2147483648 : Int) ≤ sort; omega), (by show sort ≤ (2147483647 : Int); omega), fun h => by cases h⟩) (by decide +kernel) (fun f4 d1 d2 d3 d4 d5 => ?_)
    have h4 := d4 (cl_Psi0 h3 hm3 hr3 m12 hs m13 (n := n) (by rw [t3, hn]) (by omega) d1 (j := (1 + ((T : Int) + (4 * (n : Int)))).toNat) (by omega) (fun i hi => by rw [d2, if_neg hi]))
    have gm4 : f4 m = f3 m := d1 m (fun e => by rw [e, hr3.2] at hm3; exact absurd hm3.2 (by decide))
    have gt4 : ∀ j, gi (f4 r3) j = if j = T + 1 + 4 * n then sort else gi (f r3) j := fun j => by rw [d2, i3, t3]
    have hA4 : PA K3 L3 m r3 p b := hA3
    refine s_cl92 H hE h4 (v0 := sort) (v1 := (n : Int)) (v2 := 1 + ((T : Int) + (4 * (n : Int)))) bs (by omega) (by omega) hm3 (fun K5 B5 L5 f5 h5 e5 _ _ _ hm5 => ?_)
    have hA5 := hA4.ext e5
    have g5 : ∀ y, y ∈ L3 → gi (f5 y) = gi (f4 y) := fun y hy => ext0 e5 hy
    have gm5 : gi (f5 m) = gi (f2 m) := by rw [g5 m hm3.1, gm4, g3 m hA2.1.1]
    have gt5 : gi (f5 r3) = gi (f4 r3) := g5 r3 hr3.1
    have hC5 : CS K5 L5 f5 m r3 T w n := ⟨hA5.1, hA5.2.1, by rw [gm5, gm2 12 (by decide) (by decide) (by decide), h12], hs, by rw [gm5, gm2 13 (by decide) (by decide) (by decide), h13], by rw [gm5]; exact n2, by rw [gt5, gt4, if_neg (by omega), hn], by omega⟩
    refine w_callV hE (hc_body H h5 hA5 hC5 (by rw [gm5]; omega) bs (x := 1 + ((T : Int) + (4 * (n : Int)))) (by omega)) lX12_ok le_299 mt_body h5 hm5.1 hm5.2 (by decide) (by decide) (by decide) rfl rfl (by decide) (by decide +kernel) (fun r L6 f6 _ hp => ?_)
    obtain ⟨K6, B6, h6, e6, c, rfl, c0, c6, hc⟩ := hp
    dsimp only at h6 e6 hc
    have hA6 := hA5.ext e6
    have e06 : extC modR K B L f K6 B6 L6 f6 := extC_tr (extC_mono e1 (by decide)) (extC_tr (extC_mono e2 (by decide)) (extC_tr (extC_mono e3 (by decide)) (extC_tr (extC_mono d5 (fun q hq => by rw [List.mem_singleton.mp hq, reg203]; decide)) (extC_tr (extC_mono e5 (by decide)) (extC_mono e6 (by decide))))))
    by_cases hc0 : c = 0
    · subst hc0
      obtain ⟨x1, x2, x3, x4, w', x5, x6, x7⟩ := hc rfl
      rw [gm5, gm2 12 (by decide) (by decide) (by decide), h12] at x1
      rw [gm5] at x3
      have t6 : gi (f6 r3) T = n := by rw [x4 T (by omega), gt5, gt4, if_neg (by omega), hn]
      have s6 : gi (f6 r3) (T + 1 + 4 * n) = sort := by rw [x4 _ (by omega), gt5, gt4, if_pos rfl]
      refine s_cl98b H hE h6 (v0 := sort) (v1 := (n : Int)) (v2 := 1 + ((T : Int) + (4 * (n : Int)))) (v3 := (T : Int)) (v4 := (n : Int)) bs (by omega) (by omega) (by omega) (by omega) hA6.1 (fun y hy hky => by rw [sol h6 ⟨hy, hky⟩ hA6.1 (by decide), x1]) (fun y hy hky => by rw [sol h6 ⟨hy, hky⟩ hA6.2.1 (by decide), Int.toNat_natCast, t6]; exact ⟨by omega, rfl⟩) (fun K7 B7 L7 f7 r7 h7 e7 _ _ _ _ _ hm7 hr7 _ _ => ?_)
      have hA7 := hA6.ext e7
      obtain rfl := sol h7 hr7 hA7.2.1 (by decide)
      have g7 : ∀ y, y ∈ L6 → gi (f7 y) = gi (f6 y) := fun y hy => ext0 e7 hy
      have hw304 := (hok_fld h6 hA6.1 (j := 13) (lo := 0) (hi := 304) rfl).2
      have hP := hok_Psi h7 hm7 hr7
      rw [g7 m hA6.1.1, x1, x5] at hP
      have iT : ((T : Nat) : Int).toNat = T := Int.toNat_natCast T
      refine w_ist hE h7 hr7.1 hr7.2 (by decide) (by decide) (by omega) (by show (T : Int) < 2820; omega) (by omega) (by rw [iT, kbd203' hTm]; exact ⟨(by show (0 : Int) ≤ 1 + n; omega), (by show 1 + (n : Int) ≤ 24; omega), fun h => by cases h⟩) (by decide +kernel) (fun f8 a1 a2 a3 a4 a5 => ?_)
      have h8 := a4 (XP_tx h7 hr7 a1 (fun m' hm' => by
        rw [sol h7 hm' hm7 (by decide), g7 m hA6.1.1, x1, x5]
        refine Psi_cnt hP hs (n := n) (by rw [g7 r7 hA6.2.1.1, t6]) (by omega) (fun i hi => by rw [a2, if_neg (by rw [iT]; exact hi)]) (by rw [a2, if_pos iT.symm]; omega) (fun y1 y2 => ?_)
        rw [g7 r7 hA6.2.1.1] at y1 y2 ⊢
        rw [s6] at y1 y2
        obtain ⟨w0, z1, z2, z3, z4⟩ := x7 y2
        exact ⟨w0, w', z1, z2, z3, by omega, Nat.le_refl _, z4⟩))
      have gm8 : f8 m = f7 m := a1 m (fun e => by rw [e, hr7.2] at hm7; exact absurd hm7.2 (by decide))
      have e08 : extC modR K B L f K7 B7 L7 f8 := extC_tr e06 (extC_tr (extC_mono e7 (by decide)) (extC_mono a5 (fun q hq => by rw [List.mem_singleton.mp hq, reg203]; decide)))
      refine s_cl121 H hE h8 (v0 := sort) (v1 := (n : Int)) (v2 := 1 + ((T : Int) + (4 * (n : Int)))) bs (by omega) (by omega) hm7 (fun K9 B9 L9 f9 v9 h9 e9 _ _ _ _ _ _ => bad 131 (by decide +kernel) 1 (by decide) K9 B9 L9 f9 _ h9 (extC_tr e08 (extC_mono e9 (by decide)))) (fun K9 B9 L9 f9 v9 h9 e9 _ _ _ b9 hm9 c9 => ?_)
      have g9 : ∀ y, y ∈ L7 → gi (f9 y) = gi (f8 y) := fun y hy => ext0 e9 hy
      have gm9 : gi (f9 m) = gi (f6 m) := by rw [g9 m hm7.1, gm8, g7 m hA6.1.1]
      have q9' := c9 m hm9.1 hm9.2
      rw [gm9] at q9'
      refine w_next H hE h9 hm9 (by decide) (by decide) (by decide +kernel) (fun K10 B10 L10 f10 h10 e10 m1 m2 => ?_)
      have hm10 := exin e10 hm9
      have hat2 : gi (f6 m) 8 + 1 ≤ gi (f10 m) 8 := by
        have := x2 (by omega)
        rw [gm9] at m1
        omega
      refine s_cl136 H hE h10 (v0 := sort) (v1 := (n : Int)) (v2 := 1 + ((T : Int) + (4 * (n : Int)))) bs (by omega) (by omega) hm10 (fun K11 B11 L11 f11 h11 e11 _ _ _ hm11 => ?_)
      have g11 : gi (f11 m) = gi (f10 m) := ext0 e11 hm10.1
      refine hret 0 0 L11 f11 137 _ _ (Nat.le_refl _) (Nat.le_refl _) (by decide +kernel) (fun ft hft => by cases hft; rfl) ⟨K11, B11, h11, extC_tr e08 (extC_tr (extC_mono e9 (by decide)) (extC_tr (extC_mono e10 (by decide)) (extC_mono e11 (by decide)))), 0, rfl, by decide, by decide, fun _ => ⟨?_, ?_, ?_, w', ?_, ?_⟩⟩
      · rw [g11, xg e10 hm9 (by decide), gm9, x1]
      · rw [g11]; exact m2
      · rw [g11]; omega
      · rw [g11, xg e10 hm9 (by decide), gm9, x5]
      · rw [g11]; omega
    · exact s_cl98a H hE h6 (v0 := sort) (v1 := (n : Int)) (v2 := 1 + ((T : Int) + (4 * (n : Int)))) bs (by omega) (by omega) (by omega) hA6.1 (fun K7 B7 L7 f7 h7 e7 _ _ _ _ _ => bad 107 (by decide +kernel) c (by omega) K7 B7 L7 f7 _ h7 (extC_tr e06 (extC_mono e7 (by decide))))
