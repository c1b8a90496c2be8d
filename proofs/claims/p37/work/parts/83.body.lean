/-! A law; the body of a clause. -/
theorem cl_Psi0 {cy : Nat → ClassId} {K : Nat → Nat} {B : Int} {L : List Nat} {f f' : Nat → va_E} (hh : hok cy K B L f) {m tx T w n j : Nat} (a1 : m ∈ L ∧ K m = 200) (a2 : tx ∈ L ∧ K tx = 203) (a3 : gi (f m) 12 = T) (a4 : ∃ s, s < 4 ∧ T = 705 * s) (a5 : gi (f m) 13 = w) (a7 : gi (f tx) T = n) (a8 : n < 24) (h1 : ∀ b', b' ≠ tx → f' b' = f b') (hj : T + 1 + 4 * n ≤ j ∧ j ≤ T + 4 + 4 * n) (hg : ∀ i, i ≠ j → gi (f' tx) i = gi (f tx) i) : XP K L f' := by
  refine XP_tx hh a2 h1 (fun m' hm' => ?_)
  rw [sol hh hm' a1 (by decide), a3, a5]
  have hP := hok_Psi hh a1 a2
  rw [a3, a5] at hP
  exact Psi_cl hP a4 a7 hj a8 hg
def LW (g : Nat → Int) (T n w w' : Nat) : Prop := g (T + 1 + 4 * n + 1) = w ∧ g (T + 1 + 4 * n + 2) = w' ∧ w ≤ w' ∧ wsc (oO g T) (vV g T) (w' - w) w 0 0 []
/-- behind the body of a clause -/
def BQ (M M' g g' : Nat → Int) (T n : Nat) (sort : Int) : Prop := M' 12 = M 12 ∧ TI M' ∧ M 8 ≤ M' 8 ∧ (∀ j, j ≤ T + 1 + 4 * n → g' j = g j) ∧ ∃ w' : Nat, M' 13 = w' ∧ (w' : Int) ≤ M' 8 ∧ (sort ≤ 4 → ∃ w, LW g' T n w w')
theorem hc_lawClause {X0 : zC0} (H : ∀ j, j < 412 → CMj X0 j) {K : Nat → Nat} {B : Int} {L : List Nat} {f : Nat → va_E} (hh : hok X0.2.2.1 K B L f) {m tx p b T w n : Nat} (hA : PA K L m tx p b) (hC : CS K L f m tx T w n) (hw8 : (w : Int) ≤ gi (f m) 8) {x sort : Int} (hx : x = (T : Int) + 1 + 4 * n) : HC X0 M_lawClause 10 0 modP [.ref m, .int (Int32.ofInt x)] K B L f (fun _ _ _ f' r => ∃ c : Int, r = some (.int (Int32.ofInt c)) ∧ 0 ≤ c ∧ c ≤ 6 ∧ (c = 0 → BQ (gi (f m)) (gi (f' m)) (gi (f tx)) (gi (f' tx)) T n sort)) := by
  refine eM.mk ⟨_, rfl⟩ pnX12 (Nat.le_of_ble_eq_true rfl) (fun E hE _ hret => ?_)
  obtain ⟨a1, a2, a3, a4, a5, a6, a7, a8⟩ := id hC
  have hT : T ≤ 2115 := by obtain ⟨s, hs, he⟩ := a4; omega
  have hx0 : 0 ≤ x ∧ x ≤ 2800 := by omega
  obtain ⟨l0, D0, cy0, ax0⟩ := X0
  refine s_lc0 H hE hh hx0 a1 (fun K1 B1 L1 f1 v1 r1 h1 e1 _ b1 hm1 hr1 c1 => ?_)
  have hA1 := hA.ext e1
  have hC1 := hC.ext e1
  obtain rfl := sol h1 hr1 hA1.2.1 (by decide)
  have g1 : ∀ y, y ∈ L → gi (f1 y) = gi (f y) := fun y hy => ext0 e1 hy
  have q1 : v1 = w := by rw [← c1 m hm1.1 hm1.2, g1 m a1.1, a5]
  subst q1
  have i1 : (1 + x).toNat = T + 1 + 4 * n + 1 := by omega
  refine w_ist hE h1 hr1.1 hr1.2 (by decide) (by decide) (by omega) (by show 1 + x < 2820; omega) (by omega) (by rw [i1, kbd203 (by obtain ⟨s, hs, he⟩ := a4; omega)]; exact ⟨(by show (-2147483648 : Int) ≤ w; omega), (by show (w : Int) ≤ 2147483647; omega), fun h => by cases h⟩) (by decide +kernel) (fun f2 d1 d2 d3 d4 d5 => ?_)
  have h2 := d4 (cl_Psi h1 hC1 d1 (j := (1 + x).toNat) (by omega) (fun i hi => by rw [d2, if_neg hi]))
  have gm2 : f2 m = f1 m := d1 m (fun e => by rw [e, hr1.2] at hm1; exact absurd hm1.2 (by decide))
  have hA2 : PA K1 L1 m r1 p b := hA1
  refine s_lc12 H hE h2 hx0 hm1 (fun K3 B3 L3 f3 h3 e3 _ hm3 => ?_)
  have hA3 := hA2.ext e3
  have g3 : ∀ y, y ∈ L1 → gi (f3 y) = gi (f2 y) := fun y hy => ext0 e3 hy
  have gm3 : gi (f3 m) = gi (f m) := by rw [g3 m hm1.1, gm2, g1 m a1.1]
  refine w_callV hE (hc_summed H h3 hA3 (T := T) (w := w) (by rw [gm3, a3]) a4 (by rw [gm3, a5]) (by rw [gm3]; exact hw8) (by rw [gm3]; exact a6)) lX12_ok le_266 mt_summed h3 hm3.1 hm3.2 (by decide) (by decide) (by decide) rfl rfl (by decide) (by decide +kernel) (fun r L4 f4 _ hp => ?_)
  obtain ⟨K4, B4, h4, e4, c, rfl, c0, c6, hc, hg4⟩ := hp
  dsimp only at h4 e4 hc hg4
  have hA4 := hA3.ext e4
  have gt4 : ∀ j, j < T + 97 → gi (f4 r1) j = if j = T + 1 + 4 * n + 1 then (w : Int) else gi (f r1) j := fun j hj => by rw [hg4 j hj, g3 r1 hA2.2.1.1, d2, i1, g1 r1 a2.1]
  refine s_lc16 H hE h4 hx0 ⟨c0, c6⟩ hA4.1 (fun K5 B5 L5 f5 v5 r5 h5 e5 _ _ b5 hm5 hr5 c5 => ?_)
  have hA5 := hA4.ext e5
  obtain rfl := sol h5 hr5 hA5.2.1 (by decide)
  have g5 : ∀ y, y ∈ L4 → gi (f5 y) = gi (f4 y) := fun y hy => ext0 e5 hy
  have q5 : gi (f4 m) 13 = v5 := by rw [← c5 m hm5.1 hm5.2, g5 m hA4.1.1]
  obtain ⟨w', hw'⟩ : ∃ w' : Nat, v5 = w' := ⟨v5.toNat, by omega⟩
  subst hw'
  have i2 : (2 + x).toNat = T + 1 + 4 * n + 2 := by omega
  have m12 : gi (f4 m) 12 = T := by rw [xg e4 hm3 (by decide), gm3, a3]
  refine w_ist hE h5 hr5.1 hr5.2 (by decide) (by decide) (by omega) (by show 2 + x < 2820; omega) (by omega) (by rw [i2, kbd203 (by obtain ⟨s, hs, he⟩ := a4; omega)]; exact ⟨(by show (-2147483648 : Int) ≤ w'; omega), (by show (w' : Int) ≤ 2147483647; omega), fun h => by cases h⟩) (by decide +kernel) (fun f6 d1' d2' d3' d4' d5' => ?_)
  have h6 := d4' (cl_Psi0 h5 hm5 hr5 (by rw [g5 m hA4.1.1, m12]) a4 (by rw [g5 m hA4.1.1, q5]) (T := T) (w := w') (n := n) (by rw [g5 r5 hA4.2.1.1, gt4 T (by omega), if_neg (by omega), a7]) a8 d1' (j := (2 + x).toNat) (by omega) (fun i hi => by rw [d2', if_neg hi]))
  have gm6 : f6 m = f5 m := d1' m (fun e => by rw [e, hr5.2] at hm5; exact absurd hm5.2 (by decide))
  refine s_lc29 H hE h6 hx0 ⟨c0, c6⟩ hm5 (fun K7 B7 L7 f7 h7 e7 _ _ hm7 => ?_)
  have g7m : gi (f7 m) = gi (f4 m) := by rw [ext0 e7 hm5.1, gm6, g5 m hA4.1.1]
  have g7t : ∀ j, gi (f7 r5) j = if j = T + 1 + 4 * n + 2 then (w' : Int) else gi (f4 r5) j := fun j => by rw [ext0 e7 hr5.1, d2', i2, g5 r5 hA4.2.1.1]
  refine hret 0 0 L7 f7 30 _ _ (Nat.le_refl _) (Nat.le_refl _) (by decide +kernel) (fun ft hft => by cases hft; rfl) ⟨K7, B7, h7, extC_tr (extC_mono e1 (by decide)) (extC_tr (extC_mono d5 (fun q hq => by rw [List.mem_singleton.mp hq, reg203]; decide)) (extC_tr (extC_mono e3 (by decide)) (extC_tr e4 (extC_tr (extC_mono e5 (by decide)) (extC_tr (extC_mono d5' (fun q hq => by rw [List.mem_singleton.mp hq, reg203]; decide)) (extC_mono e7 (by decide))))))), c, rfl, c0, c6, fun h => ?_⟩
  obtain ⟨⟨w2, x1, x2, x3, x4⟩, x5, x6⟩ := hc h
  have hw2 : w2 = w' := by omega
  subst hw2
  rw [gm3] at x6
  refine ⟨by rw [g7m, m12, a3], by rw [g7m]; exact x5, by rw [g7m]; exact x6, fun j hj => by rw [g7t, if_neg (by omega), gt4 j (by omega), if_neg (by omega)], w2, by rw [g7m, x1], by rw [g7m]; exact x3, fun _ => ⟨w, ?_, ?_, x2, ?_⟩⟩
  · rw [g7t, if_neg (by omega), gt4 _ (by omega), if_pos rfl]
  · rw [g7t, if_pos rfl]
  · refine wsc_congr _ _ _ _ _ (fun j _ _ => ?_) x4
    exact ⟨(g7t (T + 97 + 2 * j)).trans (if_neg (by omega)), (g7t (T + 97 + 2 * j + 1)).trans (if_neg (by omega))⟩
theorem BQ_of {M M' g g' : Nat → Int} {T n w : Nat} {sort : Int} (h : CQ M M' g g' T n) (hw : M 13 = w) (hw8 : (w : Int) ≤ M 8) (hs : ¬ sort ≤ 4) : BQ M M' g g' T n sort := ⟨h.1, h.2.2.1, h.2.2.2.1, h.2.2.2.2, w, h.2.1.trans hw, Int.le_trans hw8 h.2.2.2.1, fun h4 => absurd h4 hs⟩
theorem hc_body {X0 : zC0} (H : ∀ j, j < 412 → CMj X0 j) {K : Nat → Nat} {B : Int} {L : List Nat} {f : Nat → va_E} (hh : hok X0.2.2.1 K B L f) {m tx p b T w n : Nat} (hA : PA K L m tx p b) (hC : CS K L f m tx T w n) (hw8 : (w : Int) ≤ gi (f m) 8) {x sort : Int} (hsort : 0 ≤ sort ∧ sort ≤ 13) (hx : x = (T : Int) + 1 + 4 * n) : HC X0 M_body 11 0 modP [.ref m, .int (Int32.ofInt sort), .int (Int32.ofInt x)] K B L f (fun _ _ _ f' r => ∃ c : Int, r = some (.int (Int32.ofInt c)) ∧ 0 ≤ c ∧ c ≤ 6 ∧ (c = 0 → BQ (gi (f m)) (gi (f' m)) (gi (f tx)) (gi (f' tx)) T n sort)) := by
  refine eM.mk ⟨_, rfl⟩ pnX12 (Nat.le_of_ble_eq_true rfl) (fun E hE _ hret => ?_)
  obtain ⟨a1, a2, a3, a4, a5, a6, a7, a8⟩ := id hC
  have hT : T ≤ 2115 := by obtain ⟨s, hs, he⟩ := a4; omega
  have hx0 : 0 ≤ x ∧ x ≤ 2800 := by omega
  obtain ⟨l0, D0, cy0, ax0⟩ := X0
  have ret : ∀ (pc : Nat) (hpc : decode cX12_body pc = .ok (.ireturn, 1)) (hs : ¬ sort ≤ 4) (K1 : Nat → Nat) (B1 : Int) (L1 : List Nat) (f1 : Nat → va_E) (r : Option Value) (K2 : Nat → Nat) (B2 : Int) (L2 : List Nat) (f2 : Nat → va_E) (lv : List (Nat × Value)), extC [] K B L f K1 B1 L1 f1 → hok cy0 K2 B2 L2 f2 → extC modC K1 B1 L1 f1 K2 B2 L2 f2 → RQ f1 m tx T n K2 B2 L2 f2 r → eW E 0 0 L2 f2 pc lv (ePush r []) := fun pc hpc hs K1 B1 L1 f1 r K2 B2 L2 f2 lv e1 h2 e2 hq => by
    obtain ⟨c, rfl, c0, c6, hc⟩ := hq
    rw [ext0 e1 a1.1, ext0 e1 a2.1] at hc
    exact hret 0 0 L2 f2 pc lv _ (Nat.le_refl _) (Nat.le_refl _) hpc (fun ft hft => by cases hft; rfl) ⟨K2, B2, h2, extC_tr (extC_mono e1 (by decide)) (extC_mono e2 (by decide)), c, rfl, c0, c6, fun h => BQ_of (hc h) a5 hw8 hs⟩
  refine s_bd0 H hE hh hsort hx0 a1 (fun K1 B1 L1 f1 h1 e1 bs _ hm1 => ?_) (fun K1 B1 L1 f1 v2 h1 e1 bs _ b2 hm1 => ?_) (fun K1 B1 L1 f1 h1 e1 bs _ hm1 => ?_) (fun K1 B1 L1 f1 v2 h1 e1 bs _ b2 hm1 => ?_) (fun K1 B1 L1 f1 v2 h1 e1 bs _ b2 hm1 => ?_) (fun K1 B1 L1 f1 v2 h1 e1 bs _ b2 hm1 => ?_) (fun K1 B1 L1 f1 h1 e1 bs _ hm1 => ?_) (fun K1 B1 L1 f1 v2 h1 e1 bs _ b2 hm1 => ?_) (fun K1 B1 L1 f1 h1 e1 bs _ hm1 => ?_) (fun K1 B1 L1 f1 h1 e1 bs _ hm1 => ?_)
  all_goals have hC1 := hC.ext e1
  · refine w_callV hE (hc_fieldClause H h1 hC1 hx) lX12_ok le_277 mt_fieldClause h1 hm1.1 hm1.2 (by decide) (by decide) (by decide) rfl rfl (by decide) (by decide +kernel) (fun r L2 f2 _ hp => ?_)
    obtain ⟨K2, B2, h2, e2, hq⟩ := hp
    exact ret 57 (by decide +kernel) (by omega) K1 B1 L1 f1 r K2 B2 L2 f2 _ e1 h2 e2 hq
  · refine w_callV hE (hc_pair H h1 hC1 (x := x) (lo := 0) (hi := 5) (z := v2) (top := 5) hx (by decide) (by decide) b2 (by decide)) lX12_ok le_280 mt_pair h1 hm1.1 hm1.2 (by decide) (by decide) (by decide) rfl rfl (by decide) (by decide +kernel) (fun r L2 f2 _ hp => ?_)
    obtain ⟨K2, B2, h2, e2, hq⟩ := hp
    exact ret 73 (by decide +kernel) (by omega) K1 B1 L1 f1 r K2 B2 L2 f2 _ e1 h2 e2 hq
  · refine w_callV hE (hc_oneClause H h1 hC1 hx) lX12_ok le_284 mt_oneClause h1 hm1.1 hm1.2 (by decide) (by decide) (by decide) rfl rfl (by decide) (by decide +kernel) (fun r L2 f2 _ hp => ?_)
    obtain ⟨K2, B2, h2, e2, hq⟩ := hp
    exact ret 79 (by decide +kernel) (by omega) K1 B1 L1 f1 r K2 B2 L2 f2 _ e1 h2 e2 hq
  · refine w_callV hE (hc_pair H h1 hC1 (x := x) (lo := 0) (hi := 7) (z := v2) (top := 9) hx (by decide) (by decide) b2 (by decide)) lX12_ok le_280 mt_pair h1 hm1.1 hm1.2 (by decide) (by decide) (by decide) rfl rfl (by decide) (by decide +kernel) (fun r L2 f2 _ hp => ?_)
    obtain ⟨K2, B2, h2, e2, hq⟩ := hp
    exact ret 97 (by decide +kernel) (by omega) K1 B1 L1 f1 r K2 B2 L2 f2 _ e1 h2 e2 hq
  · refine w_callV hE (hc_pair H h1 hC1 (x := x) (lo := 0) (hi := 7) (z := v2) (top := 5) hx (by decide) (by decide) b2 (by decide)) lX12_ok le_280 mt_pair h1 hm1.1 hm1.2 (by decide) (by decide) (by decide) rfl rfl (by decide) (by decide +kernel) (fun r L2 f2 _ hp => ?_)
    obtain ⟨K2, B2, h2, e2, hq⟩ := hp
    exact ret 114 (by decide +kernel) (by omega) K1 B1 L1 f1 r K2 B2 L2 f2 _ e1 h2 e2 hq
  · refine w_callV hE (hc_pair H h1 hC1 (x := x) (lo := 0) (hi := 7) (z := v2) (top := 7) hx (by decide) (by decide) b2 (by decide)) lX12_ok le_280 mt_pair h1 hm1.1 hm1.2 (by decide) (by decide) (by decide) rfl rfl (by decide) (by decide +kernel) (fun r L2 f2 _ hp => ?_)
    obtain ⟨K2, B2, h2, e2, hq⟩ := hp
    exact ret 132 (by decide +kernel) (by omega) K1 B1 L1 f1 r K2 B2 L2 f2 _ e1 h2 e2 hq
  · refine w_callV hE (hc_stealClause H h1 hC1 hx) lX12_ok le_287 mt_stealClause h1 hm1.1 hm1.2 (by decide) (by decide) (by decide) rfl rfl (by decide) (by decide +kernel) (fun r L2 f2 _ hp => ?_)
    obtain ⟨K2, B2, h2, e2, hq⟩ := hp
    exact ret 138 (by decide +kernel) (by omega) K1 B1 L1 f1 r K2 B2 L2 f2 _ e1 h2 e2 hq
  · refine w_callV hE (hc_pair H h1 hC1 (x := x) (lo := 1) (hi := 999) (z := v2) (top := 5) hx (by decide) (by decide) b2 (by decide)) lX12_ok le_280 mt_pair h1 hm1.1 hm1.2 (by decide) (by decide) (by decide) rfl rfl (by decide) (by decide +kernel) (fun r L2 f2 _ hp => ?_)
    obtain ⟨K2, B2, h2, e2, hq⟩ := hp
    exact ret 156 (by decide +kernel) (by omega) K1 B1 L1 f1 r K2 B2 L2 f2 _ e1 h2 e2 hq
  · refine w_callV hE (hc_figure H h1 hC1 (x := 1 + x) (lo := 1) (hi := 30) (by omega) (by decide) (by decide)) lX12_ok le_262 mt_figure h1 hm1.1 hm1.2 (by decide) (by decide) (by decide) rfl rfl (by decide) (by decide +kernel) (fun r L2 f2 _ hp => ?_)
    obtain ⟨K2, B2, h2, e2, hq⟩ := hp
    exact ret 167 (by decide +kernel) (by omega) K1 B1 L1 f1 r K2 B2 L2 f2 _ e1 h2 e2 hq
  · have g1 : ∀ y, y ∈ L → gi (f1 y) = gi (f y) := fun y hy => ext0 e1 hy
    refine w_callV hE (hc_lawClause H h1 (hA.ext e1) hC1 (sort := sort) (by rw [g1 m a1.1]; exact hw8) hx) lX12_ok le_290 mt_lawClause h1 hm1.1 hm1.2 (by decide) (by decide) (by decide) rfl rfl (by decide) (by decide +kernel) (fun r L2 f2 _ hp => ?_)
    obtain ⟨K2, B2, h2, e2, c, rfl, c0, c6, hc⟩ := hp
    dsimp only at h2 e2 hc
    rw [g1 m a1.1, g1 tx a2.1] at hc
    exact hret 0 0 L2 f2 173 _ _ (Nat.le_refl _) (Nat.le_refl _) (by decide +kernel) (fun ft hft => by cases hft; rfl) ⟨K2, B2, h2, extC_tr (extC_mono e1 (by decide)) e2, c, rfl, c0, c6, hc⟩
