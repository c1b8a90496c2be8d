/-! What is offered. -/
abbrev fok2 (p d : Int) (o : Nat) : Prop := (0 ≤ p ∧ p ≤ 99) ∧ (1 ≤ d ∧ d ≤ 99) ∧ o < 10
def oC (p d : Int) (o : Nat) : Nat := if d = 0 then 0 else if fok2 p d o then o + 1 else o
def oV (p d : Int) (o : Nat) (w : Int) (v : Nat → Int) : Nat → Int := if fok2 p d o then up1 v o w else v
def oR (p d : Int) (o : Nat) : Int := if d = 0 then 0 else if fok2 p d o then (o : Int) + 1 else -1
theorem okO_step {o : Nat} {b p d : Nat → Int} (ho : okO o b p d) (x y : Int) {t : Int} (ht : t = 0 ∨ t = 1) : okO (oC x y o) (oV x y o t b) (oV x y o x p) (oV x y o y d) := by
  unfold oC oV
  by_cases hy : y = 0
  · rw [if_pos hy]
    exact ⟨by decide, fun k hk => absurd hk (by omega)⟩
  · rw [if_neg hy]
    by_cases hf : fok2 x y o
    · rw [if_pos hf, if_pos hf, if_pos hf, if_pos hf]
      have hf' : (0 ≤ x ∧ x ≤ 99) ∧ (1 ≤ y ∧ y ≤ 99) ∧ o < 10 := hf
      refine ⟨by omega, fun k hk => ?_⟩
      by_cases e : k = o
      · rw [e, up1_s, up1_s, up1_s]
        exact ⟨ht, hf'.1, hf'.2.1⟩
      · rw [up1_o e, up1_o e, up1_o e]
        exact ho.2 k (by omega)
    · rw [if_neg hf, if_neg hf, if_neg hf, if_neg hf]
      exact ho
theorem oE {o : Nat} {p d : Int} (hf : fok2 p d o) (w : Int) (v : Nat → Int) : oC p d o = o + 1 ∧ oV p d o w v = up1 v o w ∧ oR p d o = (o : Int) + 1 := by
  have hf' : (0 ≤ p ∧ p ≤ 99) ∧ (1 ≤ d ∧ d ≤ 99) ∧ o < 10 := hf
  have hd : ¬ d = 0 := by omega
  unfold oC oV oR
  rw [if_neg hd, if_pos hf, if_pos hf, if_neg hd, if_pos hf]
  exact ⟨rfl, rfl, rfl⟩
theorem oN {o : Nat} {p d : Int} (hd : ¬ d = 0) (hf : ¬ fok2 p d o) (w : Int) (v : Nat → Int) : oC p d o = o ∧ oV p d o w v = v ∧ oR p d o = -1 := by
  unfold oC oV oR
  rw [if_neg hd, if_neg hf, if_neg hf, if_neg hd, if_neg hf]
  exact ⟨rfl, rfl, rfl⟩
theorem oZ {o : Nat} {p : Int} (w : Int) (v : Nat → Int) : oC p 0 o = 0 ∧ oV p 0 o w v = v ∧ oR p 0 o = 0 := by
  have hf : ¬ fok2 p 0 o := fun h => absurd h.2.1.1 (by decide)
  unfold oC oV oR
  rw [if_pos rfl, if_neg hf, if_pos rfl]
  exact ⟨rfl, rfl, rfl⟩
abbrev Q_addO : MT := (yX1_addOffer, cX1_addOffer, 4, (some .int))
theorem qm_addO : mt 206 = Q_addO := rfl
abbrev Q_offer11 : MT := (yX11_offer, cX11_offer, 5, (some .int))
theorem qm_offer11 : mt 54 = Q_offer11 := rfl
abbrev Q_offer12 : MT := (yX12_offer, cX12_offer, 5, (some .int))
theorem qm_offer12 : mt 149 = Q_offer12 := rfl
theorem hc_addO {X0 : zC0} (H : ∀ j, j < 427 → CMj X0 j) {K : Nat → Nat} {B : Int} {L : List Nat} {f : Nat → va_E} (hh : hok X0.2.2.1 K B L f) {li o : Nat} {t p d : Int} {bu pr dr : Nat → Int} (hli : li ∈ L ∧ K li = 62) (hb : t = 0 ∨ t = 1) (hp : 0 ≤ p ∧ p ≤ 99) (hd : 1 ≤ d ∧ d ≤ 99) (hO : LO K L f 62 o bu pr dr) (ho : o < 10) : HC X0 Q_addO 1 0 [(62, 2), (68, 0), (69, 0), (70, 0)] [.ref li, .int (Int32.ofInt t), .int (Int32.ofInt p), .int (Int32.ofInt d)] K B L f (fun K' _ L' f' r => r = some (.int (Int32.ofInt ((o : Int) + 1))) ∧ LO K' L' f' 62 (o + 1) (up1 bu o t) (up1 pr o p) (up1 dr o d)) := by
  refine eM.mk ⟨_, rfl⟩ pnX1 (Nat.le_of_ble_eq_true rfl) (fun E hE _ hret => ?_)
  obtain ⟨l0, D0, cy0, ax0⟩ := X0
  have hbb : 0 ≤ t ∧ t ≤ 1 := by omega
  refine s_ao0 H hE hh hbb hp hd (v3 := (o : Int)) (by omega) hli (fun y hy hky => hO.1 y hy hky) (fun K2 B2 L2 f2 r1_2 h2 e2 u2_0 u2_1 u2_2 u2_3 u2_4 u2_5 u2_6 => ?_)
  have F2 := hO.e0 e2 (Or.inl rfl)
  refine w_zst hE h2 u2_5 (by decide) (by decide) (fun j => rfl) (by omega) (by show (o : Int) < 10; omega) (by decide +kernel) (fun f3 z hz d1 d2 h3 d5 => ?_)
  rw [Int.toNat_natCast, hz hb] at d2
  have c3 : cg K2 L2 f3 62 2 o := cg_wo u2_5.2 d1 (by decide) F2.1
  have x3 : ∀ k, k < o + 1 → cg K2 L2 f3 68 k (up1 bu o t k) := fun k hk => by
    by_cases e : k = o
    · rw [e, up1_s]
      exact cg_wr h2 u2_5 (by decide) d2
    · rw [up1_o e]
      exact cg_ws h2 u2_5 (by decide) d2 e (F2.2 k (by omega)).1
  have y3 : ∀ k, k < o → cg K2 L2 f3 69 k (pr k) := fun k hk => cg_wo u2_5.2 d1 (by decide) (F2.2 k hk).2.1
  have z3 : ∀ k, k < o → cg K2 L2 f3 70 k (dr k) := fun k hk => cg_wo u2_5.2 d1 (by decide) (F2.2 k hk).2.2
  refine s_ao10 H hE h3 hbb hp hd (v3 := (o : Int)) (by omega) u2_4 (fun y hy hky => c3 y hy hky) (fun K4 B4 L4 f4 r1_4 h4 e4 u4_0 u4_1 u4_2 u4_3 u4_4 u4_5 u4_6 => ?_)
  refine w_ist hE h4 u4_5.1 u4_5.2 (by decide) (by decide) (by omega) (by show (o : Int) < 10; omega) (by omega) ⟨by show (-2147483648 : Int) ≤ p; omega, by show p ≤ (2147483647 : Int); omega, fun h => by cases h⟩ (by decide +kernel) (fun f5 a5 b5 g5 i5 j5 => ?_)
  have h5 := i5 (XP_oth h4 u4_5.2 a5 (fun i hi => by cases hi))
  rw [Int.toNat_natCast] at b5
  rw [reg2 (by decide) (by decide)] at j5
  have c5 : cg K4 L4 f5 62 2 o := cg_wo u4_5.2 a5 (by decide) (cg_ext e4 (by decide) (by simp) c3)
  have x5 : ∀ k, k < o + 1 → cg K4 L4 f5 68 k (up1 bu o t k) := fun k hk => cg_wo u4_5.2 a5 (by decide) (cg_ext e4 (by decide) (by simp) (x3 k hk))
  have y5 : ∀ k, k < o + 1 → cg K4 L4 f5 69 k (up1 pr o p k) := fun k hk => by
    by_cases e : k = o
    · rw [e, up1_s]
      exact cg_wr h4 u4_5 (by decide) b5
    · rw [up1_o e]
      exact cg_ws h4 u4_5 (by decide) b5 e (cg_ext e4 (by decide) (by simp) (y3 k (by omega)))
  have z5 : ∀ k, k < o → cg K4 L4 f5 70 k (dr k) := fun k hk => cg_wo u4_5.2 a5 (by decide) (cg_ext e4 (by decide) (by simp) (z3 k hk))
  refine s_ao20 H hE h5 hbb hp hd (v3 := (o : Int)) (by omega) u4_4 (fun y hy hky => c5 y hy hky) (fun K6 B6 L6 f6 r1_6 h6 e6 u6_0 u6_1 u6_2 u6_3 u6_4 u6_5 u6_6 => ?_)
  refine w_ist hE h6 u6_5.1 u6_5.2 (by decide) (by decide) (by omega) (by show (o : Int) < 10; omega) (by omega) ⟨by show (-2147483648 : Int) ≤ d; omega, by show d ≤ (2147483647 : Int); omega, fun h => by cases h⟩ (by decide +kernel) (fun f7 a7 b7 g7 i7 j7 => ?_)
  have h7 := i7 (XP_oth h6 u6_5.2 a7 (fun i hi => by cases hi))
  rw [Int.toNat_natCast] at b7
  rw [reg2 (by decide) (by decide)] at j7
  have c7 : cg K6 L6 f7 62 2 o := cg_wo u6_5.2 a7 (by decide) (cg_ext e6 (by decide) (by simp) c5)
  have x7 : ∀ k, k < o + 1 → cg K6 L6 f7 68 k (up1 bu o t k) := fun k hk => cg_wo u6_5.2 a7 (by decide) (cg_ext e6 (by decide) (by simp) (x5 k hk))
  have y7 : ∀ k, k < o + 1 → cg K6 L6 f7 69 k (up1 pr o p k) := fun k hk => cg_wo u6_5.2 a7 (by decide) (cg_ext e6 (by decide) (by simp) (y5 k hk))
  have z7 : ∀ k, k < o + 1 → cg K6 L6 f7 70 k (up1 dr o d k) := fun k hk => by
    by_cases e : k = o
    · rw [e, up1_s]
      exact cg_wr h6 u6_5 (by decide) b7
    · rw [up1_o e]
      exact cg_ws h6 u6_5 (by decide) b7 e (cg_ext e6 (by decide) (by simp) (z5 k (by omega)))
  refine s_ao30 H hE h7 hbb hp hd (v3 := (o : Int)) (by omega) u6_4 (fun y hy hky => c7 y hy hky) (fun K8 B8 L8 f8 h8 e8 u8_0 u8_1 u8_2 u8_3 u8_4 u8_5 => ?_)
  have ec : (1 + (o : Int)) = (o : Int) + 1 := Int.add_comm _ _
  refine hret 0 0 L8 f8 41 _ _ (Nat.le_refl _) (Nat.le_refl _) (by decide +kernel) (fun ft hft => by cases hft; rfl) ⟨K8, B8, h8, ?_, by rw [ec], ?_, fun k hk => ⟨?_, ?_, ?_⟩⟩
  · exact extC_tr (extC_tr (extC_tr (extC_tr (extC_tr (extC_tr (extC_mono e2 (by simp)) (extC_mono d5 (by simp))) (extC_mono e4 (by simp))) (extC_mono j5 (by decide))) (extC_mono e6 (by simp))) (extC_mono j7 (by decide))) (extC_mono e8 (by decide))
  · intro y hy hky
    rw [u8_5 y hy hky, ec]
    rfl
  · exact cg_ext e8 (by decide) (by simp) (x7 k hk)
  · exact cg_ext e8 (by decide) (by simp) (y7 k hk)
  · exact cg_ext e8 (by decide) (by simp) (z7 k hk)
theorem hc_offer11 {X0 : zC0} (H : ∀ j, j < 427 → CMj X0 j) {K : Nat → Nat} {B : Int} {L : List Nat} {f : Nat → va_E} (hh : hok X0.2.2.1 K B L f) {x o : Nat} {t p d : Int} {bu pr dr : Nat → Int} (hx : x ∈ L ∧ K x = 197) (hb : t = 0 ∨ t = 1) (hp : (-2147483648) ≤ p ∧ p ≤ 2147483647) (hd : (-2147483648) ≤ d ∧ d ≤ 2147483647) (hO : LO K L f 62 o bu pr dr) (ho : okO o bu pr dr) : HC X0 Q_offer11 2 0 [(62, 2), (68, 0), (69, 0), (70, 0)] [.ref x, .int (Int32.ofInt t), .int (Int32.ofInt p), .int (Int32.ofInt d)] K B L f (fun K' _ L' f' r => r = some (.int (Int32.ofInt (oR p d o))) ∧ LO K' L' f' 62 (oC p d o) (oV p d o t bu) (oV p d o p pr) (oV p d o d dr)) := by
  refine eM.mk ⟨_, rfl⟩ pnX11 (Nat.le_of_ble_eq_true rfl) (fun E hE _ hret => ?_)
  obtain ⟨l0, D0, cy0, ax0⟩ := X0
  have hbb : 0 ≤ t ∧ t ≤ 1 := by omega
  have ho10 := ho.1
  rcases (show d = 0 ∨ (¬ d = 0 ∧ ¬ fok2 p d o ∧ (d ≤ -1 ∨ 100 ≤ d ∨ ((1 ≤ d ∧ d ≤ 99) ∧ p ≤ -1) ∨ ((1 ≤ d ∧ d ≤ 99) ∧ 100 ≤ p) ∨ ((1 ≤ d ∧ d ≤ 99) ∧ (0 ≤ p ∧ p ≤ 99) ∧ o = 10))) ∨ fok2 p d o by
    unfold fok2
    omega) with rfl | ⟨hn, hf, hcs⟩ | hf
  · obtain ⟨q1, q2, q3⟩ := oZ (o := o) (p := p) t bu
    obtain ⟨-, q4, -⟩ := oZ (o := o) (p := p) p pr
    obtain ⟨-, q5, -⟩ := oZ (o := o) (p := p) 0 dr
    refine s_ofA H hE hh hbb hp hx (fun K2 B2 L2 f2 r1_2 h2 e2 u2_0 u2_1 u2_2 u2_3 u2_4 => ?_)
    refine hret 0 0 L2 f2 20 _ _ (Nat.le_refl _) (Nat.le_refl _) (by decide +kernel) (fun ft hft => by cases hft; rfl) ⟨K2, B2, h2, extC_mono e2 (by decide), by rw [q3], ?_⟩
    rw [q1, q2, q4, q5]
    exact ⟨fun y hy hky => (u2_4 y hy hky).trans rfl, fun k hk => absurd hk (Nat.not_lt_zero k)⟩
  · obtain ⟨q1, q2, q3⟩ := oN hn hf t bu
    obtain ⟨-, q4, -⟩ := oN hn hf p pr
    obtain ⟨-, q5, -⟩ := oN hn hf d dr
    have fin : ∀ (K2 : Nat → Nat) (B2 : Int) (L2 : List Nat) (f2 : Nat → va_E) (lv : List (Nat × Value)), hok cy0 K2 B2 L2 f2 → extC [] K B L f K2 B2 L2 f2 → eW E 0 0 L2 f2 52 lv [.int (Int32.ofInt (-1))] := by
      intro K2 B2 L2 f2 lv h2 e2
      refine hret 0 0 L2 f2 52 _ _ (Nat.le_refl _) (Nat.le_refl _) (by decide +kernel) (fun ft hft => by cases hft; rfl) ⟨K2, B2, h2, extC_mono e2 (by simp), by rw [q3], ?_⟩
      rw [q1, q2, q4, q5]
      exact hO.e0 e2 (Or.inl rfl)
    rcases hcs with hc | hc | hc | hc | hc
    · refine s_ofB H hE hh hbb hp ⟨hd.1, hc⟩ hx (fun K2 B2 L2 f2 r1_2 h2 e2 u2_0 u2_1 u2_2 u2_3 u2_4 => ?_)
      exact fin K2 B2 L2 f2 _ h2 e2
    · refine s_ofC H hE hh hbb hp ⟨hc, hd.2⟩ hx (fun K2 B2 L2 f2 r1_2 h2 e2 u2_0 u2_1 u2_2 u2_3 u2_4 => ?_)
      exact fin K2 B2 L2 f2 _ h2 e2
    · refine s_ofD H hE hh hbb ⟨hp.1, hc.2⟩ hc.1 hx (fun K2 B2 L2 f2 r1_2 h2 e2 u2_0 u2_1 u2_2 u2_3 u2_4 => ?_)
      exact fin K2 B2 L2 f2 _ h2 e2
    · refine s_ofE H hE hh hbb ⟨hc.2, hp.2⟩ hc.1 hx (fun K2 B2 L2 f2 r1_2 h2 e2 u2_0 u2_1 u2_2 u2_3 u2_4 => ?_)
      exact fin K2 B2 L2 f2 _ h2 e2
    · refine s_ofG H hE hh hbb hc.2.1 hc.1 hx (fun y hy hky => (hO.1 y hy hky).trans (by rw [hc.2.2]; rfl)) (fun K2 B2 L2 f2 r1_2 h2 e2 u2_0 u2_1 u2_2 u2_3 u2_4 u2_5 => ?_)
      exact fin K2 B2 L2 f2 _ h2 e2
  · obtain ⟨q1, q2, q3⟩ := oE hf t bu
    obtain ⟨-, q4, -⟩ := oE hf p pr
    obtain ⟨-, q5, -⟩ := oE hf d dr
    have hf' : (0 ≤ p ∧ p ≤ 99) ∧ (1 ≤ d ∧ d ≤ 99) ∧ o < 10 := hf
    refine s_ofH H hE hh hbb hf'.1 hf'.2.1 (v3 := (o : Int)) (by omega) hx (fun y hy hky => hO.1 y hy hky) (fun K2 B2 L2 f2 r1_2 h2 e2 u2_0 u2_1 u2_2 u2_3 u2_4 u2_5 u2_6 => ?_)
    refine w_callV hE (hc_addO H h2 u2_5 hb hf'.1 hf'.2.1 (hO.e0 e2 (Or.inl rfl)) hf'.2.2) lX11_ok (by decide : (393, 0, 206, 1, 4) ∈ lX11) qm_addO h2 u2_5.1 u2_5.2 (by decide) (by decide) (by decide) rfl rfl (by simp [Value.category]) (by decide +kernel) (fun r3 L3 f3 _ hp3 => ?_)
    obtain ⟨K3, B3, h3, e3, hr3, g3⟩ := hp3
    dsimp only at h3 e3 hr3 g3
    subst hr3
    refine hret 0 0 L3 f3 61 _ _ (Nat.le_refl _) (Nat.le_refl _) (by decide +kernel) (fun ft hft => by cases hft; rfl) ⟨K3, B3, h3, extC_tr (extC_mono e2 (by simp)) e3, by rw [q3], ?_⟩
    rw [q1, q2, q4, q5]
    exact g3
theorem hc_offer12 {X0 : zC0} (H : ∀ j, j < 427 → CMj X0 j) {K : Nat → Nat} {B : Int} {L : List Nat} {f : Nat → va_E} (hh : hok X0.2.2.1 K B L f) {m o : Nat} {t p d : Int} {bu pr dr : Nat → Int} (hx : m ∈ L ∧ K m = 200) (hb : t = 0 ∨ t = 1) (hp : (-2147483648) ≤ p ∧ p ≤ 2147483647) (hd : (-2147483648) ≤ d ∧ d ≤ 2147483647) (hO : MO K L f 201 o bu pr dr) (ho : okO o bu pr dr) : HC X0 Q_offer12 2 0 [(201, 12), (201, 20)] [.ref m, .int (Int32.ofInt t), .int (Int32.ofInt p), .int (Int32.ofInt d)] K B L f (fun K' _ L' f' r => r = some (.int (Int32.ofInt (oR p d o))) ∧ MO K' L' f' 201 (oC p d o) (oV p d o t bu) (oV p d o p pr) (oV p d o d dr)) := by
  refine eM.mk ⟨_, rfl⟩ pnX12 (Nat.le_of_ble_eq_true rfl) (fun E hE _ hret => ?_)
  obtain ⟨l0, D0, cy0, ax0⟩ := X0
  have hbb : 0 ≤ t ∧ t ≤ 1 := by omega
  have ho10 := ho.1
  rcases (show d = 0 ∨ (¬ d = 0 ∧ ¬ fok2 p d o ∧ (d ≤ -1 ∨ 100 ≤ d ∨ ((1 ≤ d ∧ d ≤ 99) ∧ p ≤ -1) ∨ ((1 ≤ d ∧ d ≤ 99) ∧ 100 ≤ p) ∨ ((1 ≤ d ∧ d ≤ 99) ∧ (0 ≤ p ∧ p ≤ 99) ∧ o = 10))) ∨ fok2 p d o by
    unfold fok2
    omega) with rfl | ⟨hn, hf, hcs⟩ | hf
  · obtain ⟨q1, q2, q3⟩ := oZ (o := o) (p := p) t bu
    obtain ⟨-, q4, -⟩ := oZ (o := o) (p := p) p pr
    obtain ⟨-, q5, -⟩ := oZ (o := o) (p := p) 0 dr
    refine s_ogA H hE hh hbb hp hx (fun K2 B2 L2 f2 h2 e2 u2_0 u2_1 u2_2 u2_3 => ?_)
    refine hret 0 0 L2 f2 13 _ _ (Nat.le_refl _) (Nat.le_refl _) (by decide +kernel) (fun ft hft => by cases hft; rfl) ⟨K2, B2, h2, extC_mono e2 (by decide), by rw [q3], ?_⟩
    rw [q1, q2, q4, q5]
    exact ⟨fun y hy hky => (u2_3 y hy hky).2, fun k hk => absurd hk (Nat.not_lt_zero k)⟩
  · obtain ⟨q1, q2, q3⟩ := oN hn hf t bu
    obtain ⟨-, q4, -⟩ := oN hn hf p pr
    obtain ⟨-, q5, -⟩ := oN hn hf d dr
    have fin : ∀ (K2 : Nat → Nat) (B2 : Int) (L2 : List Nat) (f2 : Nat → va_E) (lv : List (Nat × Value)), hok cy0 K2 B2 L2 f2 → extC [] K B L f K2 B2 L2 f2 → eW E 0 0 L2 f2 47 lv [.int (Int32.ofInt (-1))] := by
      intro K2 B2 L2 f2 lv h2 e2
      refine hret 0 0 L2 f2 47 _ _ (Nat.le_refl _) (Nat.le_refl _) (by decide +kernel) (fun ft hft => by cases hft; rfl) ⟨K2, B2, h2, extC_mono e2 (by simp), by rw [q3], ?_⟩
      rw [q1, q2, q4, q5]
      exact hO.e0 ho10 e2 (Or.inl rfl)
    rcases hcs with hc | hc | hc | hc | hc
    · refine s_ogB H hE hh hbb hp ⟨hd.1, hc⟩ hx (fun K2 B2 L2 f2 h2 e2 u2_0 u2_1 u2_2 u2_3 => ?_)
      exact fin K2 B2 L2 f2 _ h2 e2
    · refine s_ogC H hE hh hbb hp ⟨hc, hd.2⟩ hx (fun K2 B2 L2 f2 h2 e2 u2_0 u2_1 u2_2 u2_3 => ?_)
      exact fin K2 B2 L2 f2 _ h2 e2
    · refine s_ogD H hE hh hbb ⟨hp.1, hc.2⟩ hc.1 hx (fun K2 B2 L2 f2 h2 e2 u2_0 u2_1 u2_2 u2_3 => ?_)
      exact fin K2 B2 L2 f2 _ h2 e2
    · refine s_ogE H hE hh hbb ⟨hc.2, hp.2⟩ hc.1 hx (fun K2 B2 L2 f2 h2 e2 u2_0 u2_1 u2_2 u2_3 => ?_)
      exact fin K2 B2 L2 f2 _ h2 e2
    · refine s_ogG H hE hh hbb hc.2.1 hc.1 hx (fun y hy hky => ⟨by decide, (hO.1 y hy hky).trans (by rw [hc.2.2]; rfl)⟩) (fun K2 B2 L2 f2 h2 e2 u2_0 u2_1 u2_2 u2_3 u2_4 => ?_)
      exact fin K2 B2 L2 f2 _ h2 e2
  · obtain ⟨q1, q2, q3⟩ := oE hf t bu
    obtain ⟨-, q4, -⟩ := oE hf p pr
    obtain ⟨-, q5, -⟩ := oE hf d dr
    have hf' : (0 ≤ p ∧ p ≤ 99) ∧ (1 ≤ d ∧ d ≤ 99) ∧ o < 10 := hf
    have j0 : (156 + (3 * (o : Int))).toNat = 156 + 3 * o := by omega
    have j1 : (1 + (156 + (3 * (o : Int)))).toNat = 157 + 3 * o := by omega
    have j2 : (2 + (156 + (3 * (o : Int)))).toNat = 158 + 3 * o := by omega
    have s0 : ∀ kk9 : (∀ (K2 : Nat → Nat) (B2 : Int) (L2 : List Nat) (f2 : Nat → va_E) (r1 : Nat), hok cy0 K2 B2 L2 f2 → extC [] K B L f K2 B2 L2 f2 → (m ∈ L2 ∧ K2 m = 200) → (r1 ∈ L2 ∧ K2 r1 = 201) → eW E 0 0 L2 f2 78 [(0, .ref m), (1, .int (Int32.ofInt t)), (2, .int (Int32.ofInt p)), (3, .int (Int32.ofInt d)), (4, .int (Int32.ofInt (156 + (3 * (o : Int)))))] [.int (Int32.ofInt t), .int (Int32.ofInt (156 + (3 * (o : Int)))), .ref r1]), eW E 0 0 L f 0 [(0, .ref m), (1, .int (Int32.ofInt t)), (2, .int (Int32.ofInt p)), (3, .int (Int32.ofInt d))] [] := by
      intro kk9
      rcases hb with rfl | rfl
      · refine s_ogH0 H hE hh hf'.1 hf'.2.1 (v2 := (o : Int)) (by omega) hx (fun y hy hky => ⟨by decide, hO.1 y hy hky⟩) (fun K2 B2 L2 f2 r1_2 h2 e2 u2_0 u2_1 u2_2 u2_3 u2_4 u2_5 => ?_)
        exact kk9 K2 B2 L2 f2 _ h2 e2 u2_3 u2_4
      · refine s_ogH1 H hE hh hf'.1 hf'.2.1 (v2 := (o : Int)) (by omega) hx (fun y hy hky => ⟨by decide, hO.1 y hy hky⟩) (fun K2 B2 L2 f2 r1_2 h2 e2 u2_0 u2_1 u2_2 u2_3 u2_4 u2_5 => ?_)
        exact kk9 K2 B2 L2 f2 _ h2 e2 u2_3 u2_4
    refine s0 (fun K2 B2 L2 f2 r2 h2 e2 m2 ra2 => ?_)
    have F2 := hO.e0 ho10 e2 (Or.inl rfl)
    refine w_ist hE h2 ra2.1 ra2.2 (by decide) (by decide) (by omega) (by show ((156 + (3 * (o : Int))) : Int) < 17938; omega) (by omega) (bdFO (by omega) (by omega) (by omega)) (by decide +kernel) (fun f3 a3 b3 g3 i3 j3 => ?_)
    have h3 := i3 (XP_oth h2 ra2.2 a3 (fun i hi => by
      rw [rel201] at hi
      have hi' : i ≤ 1 := Nat.le_of_ble_eq_true hi
      exact g3 i (by omega)))
    rw [j0] at b3 j3
    rw [regA_O (by omega) (Or.inl rfl)] at j3
    have c3 : cg K2 L2 f3 201 12 o := cg_ws h2 ra2 (by decide) b3 (by omega) (F2.1)
    have x3 : ∀ k, k < o + 1 → cg K2 L2 f3 201 (156 + 3 * k) (up1 bu o t k) := fun k hk => by
      by_cases e : k = o
      · rw [e, up1_s]
        exact cg_wr h2 ra2 (by decide) b3
      · rw [up1_o e]
        exact cg_ws h2 ra2 (by decide) b3 (by omega) ((F2.2 k (by omega)).1)
    have y3 : ∀ k, k < o → cg K2 L2 f3 201 (157 + 3 * k) (pr k) := fun k hk => cg_ws h2 ra2 (by decide) b3 (by omega) ((F2.2 k (by omega)).2.1)
    have z3 : ∀ k, k < o → cg K2 L2 f3 201 (158 + 3 * k) (dr k) := fun k hk => cg_ws h2 ra2 (by decide) b3 (by omega) ((F2.2 k (by omega)).2.2)
    refine s_og79 H hE h3 hbb hf'.1 hf'.2.1 (v3 := 156 + (3 * (o : Int))) (by omega) m2 (fun K4 B4 L4 f4 r1_4 h4 e4 u4_0 u4_1 u4_2 u4_3 u4_4 u4_5 => ?_)
    refine w_ist hE h4 u4_5.1 u4_5.2 (by decide) (by decide) (by omega) (by show (1 + (156 + (3 * (o : Int))) : Int) < 17938; omega) (by omega) (bdFO (by omega) (by omega) (by omega)) (by decide +kernel) (fun f5 a5 b5 g5 i5 j5 => ?_)
    have h5 := i5 (XP_oth h4 u4_5.2 a5 (fun i hi => by
      rw [rel201] at hi
      have hi' : i ≤ 1 := Nat.le_of_ble_eq_true hi
      exact g5 i (by omega)))
    rw [j1] at b5 j5
    rw [regA_O (by omega) (Or.inl rfl)] at j5
    have c5 : cg K4 L4 f5 201 12 o := cg_ws h4 u4_5 (by decide) b5 (by omega) (cg_ext e4 (by decide) (by simp) c3)
    have x5 : ∀ k, k < o + 1 → cg K4 L4 f5 201 (156 + 3 * k) (up1 bu o t k) := fun k hk => cg_ws h4 u4_5 (by decide) b5 (by omega) (cg_ext e4 (by decide) (by simp) (x3 k (by omega)))
    have y5 : ∀ k, k < o + 1 → cg K4 L4 f5 201 (157 + 3 * k) (up1 pr o p k) := fun k hk => by
      by_cases e : k = o
      · rw [e, up1_s]
        exact cg_wr h4 u4_5 (by decide) b5
      · rw [up1_o e]
        exact cg_ws h4 u4_5 (by decide) b5 (by omega) (cg_ext e4 (by decide) (by simp) (y3 k (by omega)))
    have z5 : ∀ k, k < o → cg K4 L4 f5 201 (158 + 3 * k) (dr k) := fun k hk => cg_ws h4 u4_5 (by decide) b5 (by omega) (cg_ext e4 (by decide) (by simp) (z3 k (by omega)))
    refine s_og89 H hE h5 hbb hf'.1 hf'.2.1 (v3 := 156 + (3 * (o : Int))) (by omega) u4_4 (fun K6 B6 L6 f6 r1_6 h6 e6 u6_0 u6_1 u6_2 u6_3 u6_4 u6_5 => ?_)
    refine w_ist hE h6 u6_5.1 u6_5.2 (by decide) (by decide) (by omega) (by show (2 + (156 + (3 * (o : Int))) : Int) < 17938; omega) (by omega) (bdFO (by omega) (by omega) (by omega)) (by decide +kernel) (fun f7 a7 b7 g7 i7 j7 => ?_)
    have h7 := i7 (XP_oth h6 u6_5.2 a7 (fun i hi => by
      rw [rel201] at hi
      have hi' : i ≤ 1 := Nat.le_of_ble_eq_true hi
      exact g7 i (by omega)))
    rw [j2] at b7 j7
    rw [regA_O (by omega) (Or.inl rfl)] at j7
    have c7 : cg K6 L6 f7 201 12 o := cg_ws h6 u6_5 (by decide) b7 (by omega) (cg_ext e6 (by decide) (by simp) c5)
    have x7 : ∀ k, k < o + 1 → cg K6 L6 f7 201 (156 + 3 * k) (up1 bu o t k) := fun k hk => cg_ws h6 u6_5 (by decide) b7 (by omega) (cg_ext e6 (by decide) (by simp) (x5 k (by omega)))
    have y7 : ∀ k, k < o + 1 → cg K6 L6 f7 201 (157 + 3 * k) (up1 pr o p k) := fun k hk => cg_ws h6 u6_5 (by decide) b7 (by omega) (cg_ext e6 (by decide) (by simp) (y5 k (by omega)))
    have z7 : ∀ k, k < o + 1 → cg K6 L6 f7 201 (158 + 3 * k) (up1 dr o d k) := fun k hk => by
      by_cases e : k = o
      · rw [e, up1_s]
        exact cg_wr h6 u6_5 (by decide) b7
      · rw [up1_o e]
        exact cg_ws h6 u6_5 (by decide) b7 (by omega) (cg_ext e6 (by decide) (by simp) (z5 k (by omega)))
    refine s_og99 H hE h7 hbb hf'.1 hf'.2.1 (v3 := 156 + (3 * (o : Int))) (by omega) (v4 := (o : Int)) (by omega) u6_4 (fun y hy hky => ⟨by decide, c7 y hy hky⟩) (fun K8 B8 L8 f8 h8 e8 u8_0 u8_1 u8_2 u8_3 u8_4 u8_5 u8_6 => ?_)
    have ec : (1 + (o : Int)) = (o : Int) + 1 := Int.add_comm _ _
    refine hret 0 0 L8 f8 117 _ _ (Nat.le_refl _) (Nat.le_refl _) (by decide +kernel) (fun ft hft => by cases hft; rfl) ⟨K8, B8, h8, ?_, by rw [q3, ← ec], ?_⟩
    · exact extC_tr (extC_tr (extC_tr (extC_tr (extC_tr (extC_tr (extC_mono e2 (by simp)) (extC_mono j3 (by simp))) (extC_mono e4 (by simp))) (extC_mono j5 (by simp))) (extC_mono e6 (by simp))) (extC_mono j7 (by simp))) (extC_mono e8 (by decide))
    rw [q1, q2, q4, q5]
    refine ⟨fun y hy hky => ?_, fun k hk => ⟨?_, ?_, ?_⟩⟩
    · exact (u8_6 y hy hky).2.trans ec
    · exact cg_ext e8 (by decide) (by rw [regA_O (by omega) (Or.inl rfl)]; decide) (x7 k hk)
    · exact cg_ext e8 (by decide) (by rw [regA_O (by omega) (Or.inl rfl)]; decide) (y7 k hk)
    · exact cg_ext e8 (by decide) (by rw [regA_O (by omega) (Or.inl rfl)]; decide) (z7 k hk)
