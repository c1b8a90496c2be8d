/-! A number of a clause; two; three. -/
abbrev modC : List (Nat × Nat) := [(203, 0), (200, 7), (200, 8), (200, 9), (200, 10), (200, 11)]
def CQ (M M' g g' : Nat → Int) (T n : Nat) : Prop := M' 12 = M 12 ∧ M' 13 = M 13 ∧ TI M' ∧ M 8 ≤ M' 8 ∧ ∀ j, j ≤ T + 1 + 4 * n → g' j = g j
theorem CQ.tr {M M1 M2 g g1 g2 : Nat → Int} {T n : Nat} (h1 : CQ M M1 g g1 T n) (h2 : CQ M1 M2 g1 g2 T n) : CQ M M2 g g2 T n := ⟨h2.1.trans h1.1, h2.2.1.trans h1.2.1, h2.2.2.1, Int.le_trans h1.2.2.2.1 h2.2.2.2.1, fun j hj => (h2.2.2.2.2 j hj).trans (h1.2.2.2.2 j hj)⟩
def CS (K : Nat → Nat) (L : List Nat) (f : Nat → va_E) (m tx T w n : Nat) : Prop := (m ∈ L ∧ K m = 200) ∧ (tx ∈ L ∧ K tx = 203) ∧ gi (f m) 12 = T ∧ (∃ s, s < 4 ∧ T = 705 * s) ∧ gi (f m) 13 = w ∧ TI (gi (f m)) ∧ gi (f tx) T = n ∧ n < 24
theorem CS.ext {K K' : Nat → Nat} {B B' : Int} {L L' : List Nat} {f f' : Nat → va_E} {m tx T w n : Nat} (h : CS K L f m tx T w n) (e : extC [] K B L f K' B' L' f') : CS K' L' f' m tx T w n := by
  obtain ⟨a1, a2, a3, a4, a5, a6, a7, a8⟩ := h
  refine ⟨exin e a1, exin e a2, ?_, a4, ?_, ?_, ?_, a8⟩
  · rw [ext0 e a1.1]; exact a3
  · rw [ext0 e a1.1]; exact a5
  · rw [ext0 e a1.1]; exact a6
  · rw [ext0 e a2.1]; exact a7
theorem CS.cq {mods : List (Nat × Nat)} {K K' : Nat → Nat} {B B' : Int} {L L' : List Nat} {f f' : Nat → va_E} {m tx T w n : Nat} (h : CS K L f m tx T w n) (e : extC mods K B L f K' B' L' f') (q : CQ (gi (f m)) (gi (f' m)) (gi (f tx)) (gi (f' tx)) T n) : CS K' L' f' m tx T w n := by
  obtain ⟨a1, a2, a3, a4, a5, a6, a7, a8⟩ := h
  exact ⟨exin e a1, exin e a2, q.1.trans a3, a4, q.2.1.trans a5, q.2.2.1, (q.2.2.2.2 T (by omega)).trans a7, a8⟩
def RQ (f : Nat → va_E) (m tx T n : Nat) : (Nat → Nat) → Int → List Nat → (Nat → va_E) → Option Value → Prop := fun _ _ _ f' r => ∃ c : Int, r = some (.int (Int32.ofInt c)) ∧ 0 ≤ c ∧ c ≤ 6 ∧ (c = 0 → CQ (gi (f m)) (gi (f' m)) (gi (f tx)) (gi (f' tx)) T n)
/-- what the texts keep when a clause's row is written that doesn't count yet -/
theorem cl_Psi {cy : Nat → ClassId} {K : Nat → Nat} {B : Int} {L : List Nat} {f f' : Nat → va_E} (hh : hok cy K B L f) {m tx T w n j : Nat} (hC : CS K L f m tx T w n) (h1 : ∀ b', b' ≠ tx → f' b' = f b') (hj : T + 1 + 4 * n ≤ j ∧ j ≤ T + 4 + 4 * n) (hg : ∀ i, i ≠ j → gi (f' tx) i = gi (f tx) i) : XP K L f' := by
  obtain ⟨a1, a2, a3, a4, a5, a6, a7, a8⟩ := hC
  refine XP_tx hh a2 h1 (fun m' hm' => ?_)
  rw [sol hh hm' a1 (by decide), a3, a5]
  have hP := hok_Psi hh a1 a2
  rw [a3, a5] at hP
  exact Psi_cl hP a4 a7 hj a8 hg
theorem hc_figure {X0 : zC0} (H : ∀ j, j < 412 → CMj X0 j) {K : Nat → Nat} {B : Int} {L : List Nat} {f : Nat → va_E} (hh : hok X0.2.2.1 K B L f) {m tx T w n : Nat} (hC : CS K L f m tx T w n) {x lo hi : Int} (hx : (T : Int) + 2 + 4 * n ≤ x ∧ x ≤ (T : Int) + 4 + 4 * n) (hlo : (-2147483648) ≤ lo ∧ lo ≤ 2147483647) (hhi : (-2147483648) ≤ hi ∧ hi ≤ 2147483647) : HC X0 M_figure 6 0 modC [.ref m, .int (Int32.ofInt x), .int (Int32.ofInt lo), .int (Int32.ofInt hi)] K B L f (RQ f m tx T n) := by
  refine eM.mk ⟨_, rfl⟩ pnX12 (Nat.le_of_ble_eq_true rfl) (fun E hE _ hret => ?_)
  obtain ⟨a1, a2, a3, a4, a5, a6, a7, a8⟩ := id hC
  have hT : T ≤ 2115 := by obtain ⟨s, hs, he⟩ := a4; omega
  have hx0 : 0 ≤ x ∧ x ≤ 2819 := by omega
  have bad : ∀ (pc : Nat) (hpc : decode cX12_figure pc = .ok (.ireturn, 1)) (c : Int) (hc : 1 ≤ c ∧ c ≤ 6) (K1 : Nat → Nat) (B1 : Int) (L1 : List Nat) (f1 : Nat → va_E) (lv : List (Nat × Value)), hok X0.2.2.1 K1 B1 L1 f1 → extC modC K B L f K1 B1 L1 f1 → eW E 0 0 L1 f1 pc lv [.int (Int32.ofInt c)] := fun pc hpc c hc K1 B1 L1 f1 lv h1 e1 => hret 0 0 L1 f1 pc lv _ (Nat.le_refl _) (Nat.le_refl _) hpc (fun ft hft => by cases hft; rfl) ⟨K1, B1, h1, e1, c, rfl, by omega, hc.2, fun h => by omega⟩
  refine s_fg0 H hE hh hx0 hlo hhi a1 (fun K1 B1 L1 f1 v3 h1 e1 _ _ _ _ _ _ => bad 9 (by decide +kernel) 1 (by decide) K1 B1 L1 f1 _ h1 (extC_mono e1 (by decide))) (fun K1 B1 L1 f1 v3 v4 h1 e1 _ _ _ _ _ _ _ _ => bad 23 (by decide +kernel) 2 (by decide) K1 B1 L1 f1 _ h1 (extC_mono e1 (by decide))) (fun K1 B1 L1 f1 v3 v4 r1 h1 e1 _ _ _ b3 b4 _ _ _ hm1 hr1 c10 c9 => ?_)
  have hC1 := hC.ext e1
  obtain rfl := sol h1 hr1 (exin e1 a2) (by decide)
  have g1 : ∀ y, y ∈ L → gi (f1 y) = gi (f y) := fun y hy => ext0 e1 hy
  have q9 : gi (f m) 9 = v4 := by rw [← c9 m hm1.1 hm1.2, g1 m a1.1]
  obtain ⟨l0, D0, cy0, ax0⟩ := X0
  have hmod : x.toNat % 705 ≠ 0 := by obtain ⟨s, hs, he⟩ := a4; omega
  refine w_ist hE h1 hr1.1 hr1.2 (by decide) (by decide) (by omega) (by show x < 2820; omega) b3 (by rw [kbd203 hmod]; exact ⟨b3.1, b3.2, fun h => by cases h⟩) (by decide +kernel) (fun f2 d1 d2 d3 d4 d5 => ?_)
  have h2 := d4 (cl_Psi h1 hC1 d1 (j := x.toNat) (by omega) (fun i hi => by rw [d2, if_neg hi]))
  have gm2 : f2 m = f1 m := d1 m (fun e => by rw [e, hr1.2] at hm1; exact absurd hm1.2 (by decide))
  refine s_fg34 H hE h2 hx0 hlo hhi hm1 (fun K3 B3 L3 f3 h3 e3 _ _ _ hm3 => ?_)
  have g3 : ∀ y, y ∈ L1 → gi (f3 y) = gi (f2 y) := fun y hy => ext0 e3 hy
  refine w_next H hE h3 hm3 (by decide) (by decide) (by decide +kernel) (fun K4 B4 L4 f4 h4 e4 n1 n2 => ?_)
  have hm4 := exin e4 hm3
  refine s_fg38 H hE h4 hx0 hlo hhi hm4 (fun K5 B5 L5 f5 h5 e5 _ _ _ hm5 => ?_)
  have g54 : gi (f5 m) = gi (f4 m) := ext0 e5 hm4.1
  have gm : ∀ i, (200, i) ∉ modN → gi (f5 m) i = gi (f m) i := fun i hi => by rw [g54, xg e4 hm3 hi, g3 m hm1.1, gm2, g1 m a1.1]
  have ht3 := exin e3 hr1
  have gt : gi (f5 r1) = gi (f2 r1) := by rw [ext0 e5 (exin e4 ht3).1, xa e4 ht3 reg203 (by decide), g3 r1 hr1.1]
  refine hret 0 0 L5 f5 39 _ _ (Nat.le_refl _) (Nat.le_refl _) (by decide +kernel) (fun ft hft => by cases hft; rfl) ⟨K5, B5, h5, extC_tr (extC_mono e1 (by decide)) (extC_tr (extC_mono d5 (fun q hq => by rw [List.mem_singleton.mp hq, reg203]; decide)) (extC_tr (extC_mono e3 (by decide)) (extC_tr (extC_mono e4 (by decide)) (extC_mono e5 (by decide))))), 0, rfl, by decide, by decide, fun _ => ⟨gm 12 (by decide), gm 13 (by decide), ?_, ?_, fun j hj => ?_⟩⟩
  · rw [g54]; exact n2
  · rw [g3 m hm1.1, gm2, g1 m a1.1] at n1
    have := a6 (by omega)
    rw [g54]
    omega
  · rw [gt, d2, if_neg (by omega), g1 r1 a2.1]
theorem hc_worded {X0 : zC0} (H : ∀ j, j < 412 → CMj X0 j) {K : Nat → Nat} {B : Int} {L : List Nat} {f : Nat → va_E} (hh : hok X0.2.2.1 K B L f) {m tx T w n : Nat} (hC : CS K L f m tx T w n) {z x lo hi : Int} (hz : (-9223372036854775808) ≤ z ∧ z ≤ 9223372036854775807) (hx : (T : Int) + 2 + 4 * n ≤ x ∧ x ≤ (T : Int) + 4 + 4 * n) (hlo : (-2147483648) ≤ lo ∧ lo ≤ 2147483647) (hhi : (-2147483648) ≤ hi ∧ hi ≤ 2147483647) : HC X0 M_worded 7 0 modC [.ref m, .long (Int64.ofInt z), .int (Int32.ofInt x), .int (Int32.ofInt lo), .int (Int32.ofInt hi)] K B L f (RQ f m tx T n) := by
  refine eM.mk ⟨_, rfl⟩ pnX12 (Nat.le_of_ble_eq_true rfl) (fun E hE _ hret => ?_)
  obtain ⟨a1, a2, a3, a4, a5, a6, a7, a8⟩ := id hC
  have hT : T ≤ 2115 := by obtain ⟨s, hs, he⟩ := a4; omega
  have hx0 : 0 ≤ x ∧ x ≤ 2819 := by omega
  obtain ⟨l0, D0, cy0, ax0⟩ := X0
  refine s_wd0 H hE hh hz hx0 hlo hhi a1 (fun K1 B1 L1 f1 h1 e1 _ _ _ _ _ => hret 0 0 L1 f1 9 _ _ (Nat.le_refl _) (Nat.le_refl _) (by decide +kernel) (fun ft hft => by cases hft; rfl) ⟨K1, B1, h1, extC_mono e1 (by decide), 1, rfl, by decide, by decide, fun h => by cases h⟩) (fun K1 B1 L1 f1 v4 h1 e1 _ _ _ _ b4 hm1 c9 => ?_)
  have hC1 := hC.ext e1
  have g1 : ∀ y, y ∈ L → gi (f1 y) = gi (f y) := fun y hy => ext0 e1 hy
  have q9 : gi (f m) 9 = v4 := by rw [← c9 m hm1.1 hm1.2, g1 m a1.1]
  refine w_next H hE h1 hm1 (by decide) (by decide) (by decide +kernel) (fun K2 B2 L2 f2 h2 e2 n1 n2 => ?_)
  have hm2 := exin e2 hm1
  have q1 : CQ (gi (f m)) (gi (f2 m)) (gi (f tx)) (gi (f2 tx)) T n := by
    refine ⟨by rw [xg e2 hm1 (by decide), g1 m a1.1], by rw [xg e2 hm1 (by decide), g1 m a1.1], n2, ?_, fun j _ => by rw [xa e2 hC1.2.1 reg203 (by decide), g1 tx a2.1]⟩
    rw [g1 m a1.1] at n1
    have := a6 (by omega)
    omega
  have e02 : extC modC K B L f K2 B2 L2 f2 := extC_tr (extC_mono e1 (by decide)) (extC_mono e2 (by decide))
  have hC2 := hC.cq e02 q1
  refine s_wd14 H hE h2 hz hx0 hlo hhi hm2 (fun K3 B3 L3 f3 h3 e3 _ _ _ _ hm3 => ?_)
  have hC3 := hC2.ext e3
  have g3 : ∀ y, y ∈ L2 → gi (f3 y) = gi (f2 y) := fun y hy => ext0 e3 hy
  refine w_callV hE (hc_figure H h3 hC3 hx hlo hhi) lX12_ok le_262 mt_figure h3 hm3.1 hm3.2 (by decide) (by decide) (by decide) rfl rfl (by decide) (by decide +kernel) (fun r L4 f4 _ hp => ?_)
  obtain ⟨K4, B4, h4, e4, c, rfl, c0, c6, hc⟩ := hp
  dsimp only at h4 e4 hc
  refine hret 0 0 L4 f4 23 _ _ (Nat.le_refl _) (Nat.le_refl _) (by decide +kernel) (fun ft hft => by cases hft; rfl) ⟨K4, B4, h4, extC_tr e02 (extC_tr (extC_mono e3 (by decide)) e4), c, rfl, c0, c6, fun h => ?_⟩
  have q2 := hc h
  rw [g3 m hm2.1, g3 tx hC2.2.1.1] at q2
  exact q1.tr q2
theorem hc_fieldClause {X0 : zC0} (H : ∀ j, j < 412 → CMj X0 j) {K : Nat → Nat} {B : Int} {L : List Nat} {f : Nat → va_E} (hh : hok X0.2.2.1 K B L f) {m tx T w n : Nat} (hC : CS K L f m tx T w n) {x : Int} (hx : x = (T : Int) + 1 + 4 * n) : HC X0 M_fieldClause 8 0 modC [.ref m, .int (Int32.ofInt x)] K B L f (RQ f m tx T n) := by
  refine eM.mk ⟨_, rfl⟩ pnX12 (Nat.le_of_ble_eq_true rfl) (fun E hE _ hret => ?_)
  obtain ⟨a1, a2, a3, a4, a5, a6, a7, a8⟩ := id hC
  have hT : T ≤ 2115 := by obtain ⟨s, hs, he⟩ := a4; omega
  have hx0 : 0 ≤ x ∧ x ≤ 2800 := by omega
  obtain ⟨l0, D0, cy0, ax0⟩ := X0
  have ret : ∀ (c : Int) (K1 : Nat → Nat) (B1 : Int) (L1 : List Nat) (f1 : Nat → va_E) (lv : List (Nat × Value)), 0 ≤ c → c ≤ 6 → hok cy0 K1 B1 L1 f1 → extC modC K B L f K1 B1 L1 f1 → (c = 0 → CQ (gi (f m)) (gi (f1 m)) (gi (f tx)) (gi (f1 tx)) T n) → eW E 0 0 L1 f1 74 lv [.int (Int32.ofInt c)] := fun c K1 B1 L1 f1 lv c0 c6 h1 e1 hc => hret 0 0 L1 f1 74 lv _ (Nat.le_refl _) (Nat.le_refl _) (by decide +kernel) (fun ft hft => by cases hft; rfl) ⟨K1, B1, h1, e1, c, rfl, c0, c6, hc⟩
  refine s_fc0 H hE hh hx0 a1 (fun K1 B1 L1 f1 h1 e1 _ hm1 => ?_)
  have hC1 := hC.ext e1
  have g1 : ∀ y, y ∈ L → gi (f1 y) = gi (f y) := fun y hy => ext0 e1 hy
  refine w_callV hE (hc_figure H h1 hC1 (x := 1 + x) (lo := 0) (hi := 9) (by omega) (by decide) (by decide)) lX12_ok le_262 mt_figure h1 hm1.1 hm1.2 (by decide) (by decide) (by decide) rfl rfl (by decide) (by decide +kernel) (fun r L2 f2 _ hp => ?_)
  obtain ⟨K2, B2, h2, e2, c, rfl, c0, c6, hc⟩ := hp
  dsimp only at h2 e2 hc
  rw [g1 m a1.1, g1 tx a2.1] at hc
  have e02 : extC modC K B L f K2 B2 L2 f2 := extC_tr (extC_mono e1 (by decide)) e2
  have hm2 := exin e2 hm1
  have ht2 := exin e2 hC1.2.1
  refine s_fc10 H hE h2 hx0 ⟨c0, c6⟩ hm2 (fun K3 B3 L3 f3 v2 h3 e3 _ bc b2 hm3 => ?_) (fun K3 B3 L3 f3 h3 e3 _ bc hm3 => ret c K3 B3 L3 f3 _ c0 c6 h3 (extC_tr e02 (extC_mono e3 (by decide))) (fun h => by omega))
  have q2 := hc (by omega)
  have hC2 := hC.cq e02 q2
  have hC3 := hC2.ext e3
  have g3 : ∀ y, y ∈ L2 → gi (f3 y) = gi (f2 y) := fun y hy => ext0 e3 hy
  refine w_callV hE (hc_worded H h3 hC3 (z := v2) (x := 2 + x) (lo := 0) (hi := 999) b2 (by omega) (by decide) (by decide)) lX12_ok le_269 mt_worded h3 hm3.1 hm3.2 (by decide) (by decide) (by decide) rfl rfl (by decide) (by decide +kernel) (fun r L4 f4 _ hp => ?_)
  obtain ⟨K4, B4, h4, e4, c', rfl, c0', c6', hc'⟩ := hp
  dsimp only at h4 e4 hc'
  rw [g3 m hm2.1, g3 tx ht2.1] at hc'
  have e04 : extC modC K B L f K4 B4 L4 f4 := extC_tr e02 (extC_tr (extC_mono e3 (by decide)) e4)
  have hm4 := exin e4 hm3
  have ht4 := exin e4 hC3.2.1
  refine x_sub (lv' := [(0, .ref m), (1, .int (Int32.ofInt x))]) (fun q hq => by rcases List.mem_cons.mp hq with h | hq; · rw [h]; simp
                                                                                 · rw [List.mem_singleton.mp hq]; simp) ?_
  refine s_fc39 H hE h4 hx0 ⟨c0', c6'⟩ hm4 (fun K5 B5 L5 f5 v5 h5 e5 _ bc' b5 hm5 => ?_) (fun K5 B5 L5 f5 h5 e5 _ bc' hm5 => ret c' K5 B5 L5 f5 _ c0' c6' h5 (extC_tr e04 (extC_mono e5 (by decide))) (fun h => by omega))
  have q4 := q2.tr (hc' (by omega))
  have hC4 := hC.cq e04 q4
  have hC5 := hC4.ext e5
  have g5 : ∀ y, y ∈ L4 → gi (f5 y) = gi (f4 y) := fun y hy => ext0 e5 hy
  refine w_callV hE (hc_worded H h5 hC5 (z := v5) (x := 3 + x) (lo := 1) (hi := 999) b5 (by omega) (by decide) (by decide)) lX12_ok le_269 mt_worded h5 hm5.1 hm5.2 (by decide) (by decide) (by decide) rfl rfl (by decide) (by decide +kernel) (fun r L6 f6 _ hp => ?_)
  obtain ⟨K6, B6, h6, e6, c'', rfl, c0'', c6'', hc''⟩ := hp
  dsimp only at h6 e6 hc''
  rw [g5 m hm4.1, g5 tx ht4.1] at hc''
  exact ret c'' K6 B6 L6 f6 _ c0'' c6'' h6 (extC_tr e04 (extC_tr (extC_mono e5 (by decide)) e6)) (fun h => q4.tr (hc'' h))
theorem hc_oneClause {X0 : zC0} (H : ∀ j, j < 412 → CMj X0 j) {K : Nat → Nat} {B : Int} {L : List Nat} {f : Nat → va_E} (hh : hok X0.2.2.1 K B L f) {m tx T w n : Nat} (hC : CS K L f m tx T w n) {x : Int} (hx : x = (T : Int) + 1 + 4 * n) : HC X0 M_oneClause 8 0 modC [.ref m, .int (Int32.ofInt x)] K B L f (RQ f m tx T n) := by
  refine eM.mk ⟨_, rfl⟩ pnX12 (Nat.le_of_ble_eq_true rfl) (fun E hE _ hret => ?_)
  obtain ⟨a1, a2, a3, a4, a5, a6, a7, a8⟩ := id hC
  have hT : T ≤ 2115 := by obtain ⟨s, hs, he⟩ := a4; omega
  have hx0 : 0 ≤ x ∧ x ≤ 2800 := by omega
  obtain ⟨l0, D0, cy0, ax0⟩ := X0
  have ret : ∀ (c : Int) (K1 : Nat → Nat) (B1 : Int) (L1 : List Nat) (f1 : Nat → va_E) (lv : List (Nat × Value)), 0 ≤ c → c ≤ 6 → hok cy0 K1 B1 L1 f1 → extC modC K B L f K1 B1 L1 f1 → (c = 0 → CQ (gi (f m)) (gi (f1 m)) (gi (f tx)) (gi (f1 tx)) T n) → eW E 0 0 L1 f1 59 lv [.int (Int32.ofInt c)] := fun c K1 B1 L1 f1 lv c0 c6 h1 e1 hc => hret 0 0 L1 f1 59 lv _ (Nat.le_refl _) (Nat.le_refl _) (by decide +kernel) (fun ft hft => by cases hft; rfl) ⟨K1, B1, h1, e1, c, rfl, c0, c6, hc⟩
  refine s_oc0 H hE hh hx0 a1 (fun K1 B1 L1 f1 h1 e1 _ hm1 => ?_)
  have hC1 := hC.ext e1
  have g1 : ∀ y, y ∈ L → gi (f1 y) = gi (f y) := fun y hy => ext0 e1 hy
  refine w_callV hE (hc_figure H h1 hC1 (x := 1 + x) (lo := 1) (hi := 99) (by omega) (by decide) (by decide)) lX12_ok le_262 mt_figure h1 hm1.1 hm1.2 (by decide) (by decide) (by decide) rfl rfl (by decide) (by decide +kernel) (fun r L2 f2 _ hp => ?_)
  obtain ⟨K2, B2, h2, e2, c, rfl, c0, c6, hc⟩ := hp
  dsimp only at h2 e2 hc
  rw [g1 m a1.1, g1 tx a2.1] at hc
  have e02 : extC modC K B L f K2 B2 L2 f2 := extC_tr (extC_mono e1 (by decide)) e2
  have hm2 := exin e2 hm1
  have ht2 := exin e2 hC1.2.1
  refine s_oc10 H hE h2 hx0 ⟨c0, c6⟩ hm2 (fun K3 B3 L3 f3 v2 h3 e3 _ bc b2 hm3 => ?_) (fun K3 B3 L3 f3 h3 e3 _ bc hm3 => ret c K3 B3 L3 f3 _ c0 c6 h3 (extC_tr e02 (extC_mono e3 (by decide))) (fun h => by omega))
  have q2 := hc (by omega)
  have hC2 := hC.cq e02 q2
  have hC3 := hC2.ext e3
  have g3 : ∀ y, y ∈ L2 → gi (f3 y) = gi (f2 y) := fun y hy => ext0 e3 hy
  refine w_callV hE (hc_worded H h3 hC3 (z := v2) (x := 2 + x) (lo := 0) (hi := 99) b2 (by omega) (by decide) (by decide)) lX12_ok le_269 mt_worded h3 hm3.1 hm3.2 (by decide) (by decide) (by decide) rfl rfl (by decide) (by decide +kernel) (fun r L4 f4 _ hp => ?_)
  obtain ⟨K4, B4, h4, e4, c', rfl, c0', c6', hc'⟩ := hp
  dsimp only at h4 e4 hc'
  rw [g3 m hm2.1, g3 tx ht2.1] at hc'
  have e04 : extC modC K B L f K4 B4 L4 f4 := extC_tr e02 (extC_tr (extC_mono e3 (by decide)) e4)
  have hm4 := exin e4 hm3
  have ht4 := exin e4 hC3.2.1
  refine x_sub (lv' := [(0, .ref m), (1, .int (Int32.ofInt x))]) (fun q hq => by rcases List.mem_cons.mp hq with h | hq; · rw [h]; simp
                                                                                 · rw [List.mem_singleton.mp hq]; simp) ?_
  refine s_oc39 H hE h4 hx0 ⟨c0', c6'⟩ hm4 (fun K5 B5 L5 f5 v5 h5 e5 _ bc' b5 hm5 => ?_) (fun K5 B5 L5 f5 h5 e5 _ bc' hm5 => ret c' K5 B5 L5 f5 _ c0' c6' h5 (extC_tr e04 (extC_mono e5 (by decide))) (fun h => by omega))
  have q4 := q2.tr (hc' (by omega))
  have hC4 := hC.cq e04 q4
  have hC5 := hC4.ext e5
  have g5 : ∀ y, y ∈ L4 → gi (f5 y) = gi (f4 y) := fun y hy => ext0 e5 hy
  refine w_callV hE (hc_worded H h5 hC5 (z := v5) (x := 3 + x) (lo := 0) (hi := 5) b5 (by omega) (by decide) (by decide)) lX12_ok le_269 mt_worded h5 hm5.1 hm5.2 (by decide) (by decide) (by decide) rfl rfl (by decide) (by decide +kernel) (fun r L6 f6 _ hp => ?_)
  obtain ⟨K6, B6, h6, e6, c'', rfl, c0'', c6'', hc''⟩ := hp
  dsimp only at h6 e6 hc''
  rw [g5 m hm4.1, g5 tx ht4.1] at hc''
  exact ret c'' K6 B6 L6 f6 _ c0'' c6'' h6 (extC_tr e04 (extC_tr (extC_mono e5 (by decide)) e6)) (fun h => q4.tr (hc'' h))
theorem hc_stealClause {X0 : zC0} (H : ∀ j, j < 412 → CMj X0 j) {K : Nat → Nat} {B : Int} {L : List Nat} {f : Nat → va_E} (hh : hok X0.2.2.1 K B L f) {m tx T w n : Nat} (hC : CS K L f m tx T w n) {x : Int} (hx : x = (T : Int) + 1 + 4 * n) : HC X0 M_stealClause 8 0 modC [.ref m, .int (Int32.ofInt x)] K B L f (RQ f m tx T n) := by
  refine eM.mk ⟨_, rfl⟩ pnX12 (Nat.le_of_ble_eq_true rfl) (fun E hE _ hret => ?_)
  obtain ⟨a1, a2, a3, a4, a5, a6, a7, a8⟩ := id hC
  have hT : T ≤ 2115 := by obtain ⟨s, hs, he⟩ := a4; omega
  have hx0 : 0 ≤ x ∧ x ≤ 2800 := by omega
  obtain ⟨l0, D0, cy0, ax0⟩ := X0
  have ret : ∀ (c : Int) (K1 : Nat → Nat) (B1 : Int) (L1 : List Nat) (f1 : Nat → va_E) (lv : List (Nat × Value)), 0 ≤ c → c ≤ 6 → hok cy0 K1 B1 L1 f1 → extC modC K B L f K1 B1 L1 f1 → (c = 0 → CQ (gi (f m)) (gi (f1 m)) (gi (f tx)) (gi (f1 tx)) T n) → eW E 0 0 L1 f1 62 lv [.int (Int32.ofInt c)] := fun c K1 B1 L1 f1 lv c0 c6 h1 e1 hc => hret 0 0 L1 f1 62 lv _ (Nat.le_refl _) (Nat.le_refl _) (by decide +kernel) (fun ft hft => by cases hft; rfl) ⟨K1, B1, h1, e1, c, rfl, c0, c6, hc⟩
  refine s_sc0 H hE hh hx0 a1 (fun K1 B1 L1 f1 h1 e1 _ hm1 => ?_)
  have hC1 := hC.ext e1
  have g1 : ∀ y, y ∈ L → gi (f1 y) = gi (f y) := fun y hy => ext0 e1 hy
  refine w_callV hE (hc_figure H h1 hC1 (x := 1 + x) (lo := 0) (hi := 7) (by omega) (by decide) (by decide)) lX12_ok le_262 mt_figure h1 hm1.1 hm1.2 (by decide) (by decide) (by decide) rfl rfl (by decide) (by decide +kernel) (fun r L2 f2 _ hp => ?_)
  obtain ⟨K2, B2, h2, e2, c, rfl, c0, c6, hc⟩ := hp
  dsimp only at h2 e2 hc
  rw [g1 m a1.1, g1 tx a2.1] at hc
  have e02 : extC modC K B L f K2 B2 L2 f2 := extC_tr (extC_mono e1 (by decide)) e2
  have hm2 := exin e2 hm1
  have ht2 := exin e2 hC1.2.1
  refine s_sc10 H hE h2 hx0 ⟨c0, c6⟩ hm2 (fun K3 B3 L3 f3 v2 h3 e3 _ bc b2 hm3 => ?_) (fun K3 B3 L3 f3 h3 e3 _ bc hm3 => ret c K3 B3 L3 f3 _ c0 c6 h3 (extC_tr e02 (extC_mono e3 (by decide))) (fun h => by omega))
  have q2 := hc (by omega)
  have hC2 := hC.cq e02 q2
  have hC3 := hC2.ext e3
  have g3 : ∀ y, y ∈ L2 → gi (f3 y) = gi (f2 y) := fun y hy => ext0 e3 hy
  refine w_callV hE (hc_worded H h3 hC3 (z := v2) (x := 2 + x) (lo := 0) (hi := 7) b2 (by omega) (by decide) (by decide)) lX12_ok le_269 mt_worded h3 hm3.1 hm3.2 (by decide) (by decide) (by decide) rfl rfl (by decide) (by decide +kernel) (fun r L4 f4 _ hp => ?_)
  obtain ⟨K4, B4, h4, e4, c', rfl, c0', c6', hc'⟩ := hp
  dsimp only at h4 e4 hc'
  rw [g3 m hm2.1, g3 tx ht2.1] at hc'
  have e04 : extC modC K B L f K4 B4 L4 f4 := extC_tr e02 (extC_tr (extC_mono e3 (by decide)) e4)
  have hm4 := exin e4 hm3
  have ht4 := exin e4 hC3.2.1
  refine x_sub (lv' := [(0, .ref m), (1, .int (Int32.ofInt x))]) (fun q hq => by rcases List.mem_cons.mp hq with h | hq; · rw [h]; simp
                                                                                 · rw [List.mem_singleton.mp hq]; simp) ?_
  refine s_sc39 H hE h4 hx0 ⟨c0', c6'⟩ hm4 (fun K5 B5 L5 f5 v5 h5 e5 _ bc' b5 hm5 => ?_) (fun K5 B5 L5 f5 h5 e5 _ bc' hm5 => ret c' K5 B5 L5 f5 _ c0' c6' h5 (extC_tr e04 (extC_mono e5 (by decide))) (fun h => by omega))
  have q4 := q2.tr (hc' (by omega))
  have hC4 := hC.cq e04 q4
  have hC5 := hC4.ext e5
  have g5 : ∀ y, y ∈ L4 → gi (f5 y) = gi (f4 y) := fun y hy => ext0 e5 hy
  refine w_callV hE (hc_worded H h5 hC5 (z := v5) (x := 3 + x) (lo := 1) (hi := 99) b5 (by omega) (by decide) (by decide)) lX12_ok le_269 mt_worded h5 hm5.1 hm5.2 (by decide) (by decide) (by decide) rfl rfl (by decide) (by decide +kernel) (fun r L6 f6 _ hp => ?_)
  obtain ⟨K6, B6, h6, e6, c'', rfl, c0'', c6'', hc''⟩ := hp
  dsimp only at h6 e6 hc''
  rw [g5 m hm4.1, g5 tx ht4.1] at hc''
  exact ret c'' K6 B6 L6 f6 _ c0'' c6'' h6 (extC_tr e04 (extC_tr (extC_mono e5 (by decide)) e6)) (fun h => q4.tr (hc'' h))
theorem hc_pair {X0 : zC0} (H : ∀ j, j < 412 → CMj X0 j) {K : Nat → Nat} {B : Int} {L : List Nat} {f : Nat → va_E} (hh : hok X0.2.2.1 K B L f) {m tx T w n : Nat} (hC : CS K L f m tx T w n) {x lo hi z top : Int} (hx : x = (T : Int) + 1 + 4 * n) (hlo : (-2147483648) ≤ lo ∧ lo ≤ 2147483647) (hhi : (-2147483648) ≤ hi ∧ hi ≤ 2147483647) (hz : (-9223372036854775808) ≤ z ∧ z ≤ 9223372036854775807) (htp : (-2147483648) ≤ top ∧ top ≤ 2147483647) : HC X0 M_pair 8 0 modC [.ref m, .int (Int32.ofInt x), .int (Int32.ofInt lo), .int (Int32.ofInt hi), .long (Int64.ofInt z), .int (Int32.ofInt top)] K B L f (RQ f m tx T n) := by
  refine eM.mk ⟨_, rfl⟩ pnX12 (Nat.le_of_ble_eq_true rfl) (fun E hE _ hret => ?_)
  obtain ⟨a1, a2, a3, a4, a5, a6, a7, a8⟩ := id hC
  have hT : T ≤ 2115 := by obtain ⟨s, hs, he⟩ := a4; omega
  have hx0 : 0 ≤ x ∧ x ≤ 2800 := by omega
  obtain ⟨l0, D0, cy0, ax0⟩ := X0
  have ret : ∀ (c : Int) (K1 : Nat → Nat) (B1 : Int) (L1 : List Nat) (f1 : Nat → va_E) (lv : List (Nat × Value)), 0 ≤ c → c ≤ 6 → hok cy0 K1 B1 L1 f1 → extC modC K B L f K1 B1 L1 f1 → (c = 0 → CQ (gi (f m)) (gi (f1 m)) (gi (f tx)) (gi (f1 tx)) T n) → eW E 0 0 L1 f1 33 lv [.int (Int32.ofInt c)] := fun c K1 B1 L1 f1 lv c0 c6 h1 e1 hc => hret 0 0 L1 f1 33 lv _ (Nat.le_refl _) (Nat.le_refl _) (by decide +kernel) (fun ft hft => by cases hft; rfl) ⟨K1, B1, h1, e1, c, rfl, c0, c6, hc⟩
  refine s_pr0 H hE hh hx0 hlo hhi hz htp a1 (fun K1 B1 L1 f1 h1 e1 _ _ _ _ _ hm1 => ?_)
  have hC1 := hC.ext e1
  have g1 : ∀ y, y ∈ L → gi (f1 y) = gi (f y) := fun y hy => ext0 e1 hy
  refine w_callV hE (hc_figure H h1 hC1 (x := 1 + x) (by omega) hlo hhi) lX12_ok le_262 mt_figure h1 hm1.1 hm1.2 (by decide) (by decide) (by decide) rfl rfl (by decide) (by decide +kernel) (fun r L2 f2 _ hp => ?_)
  obtain ⟨K2, B2, h2, e2, c, rfl, c0, c6, hc⟩ := hp
  dsimp only at h2 e2 hc
  rw [g1 m a1.1, g1 tx a2.1] at hc
  have e02 : extC modC K B L f K2 B2 L2 f2 := extC_tr (extC_mono e1 (by decide)) e2
  have hm2 := exin e2 hm1
  have ht2 := exin e2 hC1.2.1
  refine s_pr9 H hE h2 hx0 hlo hhi hz htp ⟨c0, c6⟩ hm2 (fun K3 B3 L3 f3 h3 e3 _ _ _ _ _ bc hm3 => ?_) (fun K3 B3 L3 f3 h3 e3 _ _ _ _ _ bc hm3 => ret c K3 B3 L3 f3 _ c0 c6 h3 (extC_tr e02 (extC_mono e3 (by decide))) (fun h => by omega))
  have q2 := hc (by omega)
  have hC2 := hC.cq e02 q2
  have hC3 := hC2.ext e3
  have g3 : ∀ y, y ∈ L2 → gi (f3 y) = gi (f2 y) := fun y hy => ext0 e3 hy
  refine w_callV hE (hc_worded H h3 hC3 (x := 2 + x) (lo := 0) hz (by omega) (by decide) htp) lX12_ok le_269 mt_worded h3 hm3.1 hm3.2 (by decide) (by decide) (by decide) rfl rfl (by decide) (by decide +kernel) (fun r L4 f4 _ hp => ?_)
  obtain ⟨K4, B4, h4, e4, c', rfl, c0', c6', hc'⟩ := hp
  dsimp only at h4 e4 hc'
  rw [g3 m hm2.1, g3 tx ht2.1] at hc'
  exact ret c' K4 B4 L4 f4 _ c0' c6' h4 (extC_tr e02 (extC_tr (extC_mono e3 (by decide)) e4)) (fun h => q2.tr (hc' h))
