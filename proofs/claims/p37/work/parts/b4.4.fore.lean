/-! What is added to a list. -/
def up1 (v : Nat → Int) (c : Nat) (x : Int) : Nat → Int := fun k => if k = c then x else v k
theorem up1_s (v : Nat → Int) (c : Nat) (x : Int) : up1 v c x c = x := if_pos rfl
theorem up1_o {v : Nat → Int} {c k : Nat} {x : Int} (h : k ≠ c) : up1 v c x k = v k := if_neg h
section CW
variable {cy : Nat → ClassId} {K : Nat → Nat} {B : Int} {L : List Nat} {f f' : Nat → va_E} {b kd i : Nat} {x : Int}
theorem cg_wr (hh : hok cy K B L f) (hb : b ∈ L ∧ K b = kd) (h40 : 40 ≤ kd) (a2 : ∀ j, gi (f' b) j = if j = i then x else gi (f b) j) : cg K L f' kd i x := fun y hy hky => by rw [sol hh ⟨hy, hky⟩ hb h40, a2, if_pos rfl]
theorem cg_ws (hh : hok cy K B L f) (hb : b ∈ L ∧ K b = kd) (h40 : 40 ≤ kd) (a2 : ∀ j, gi (f' b) j = if j = i then x else gi (f b) j) {j : Nat} {v : Int} (hj : j ≠ i) (hc : cg K L f kd j v) : cg K L f' kd j v := fun y hy hky => by rw [sol hh ⟨hy, hky⟩ hb h40, a2, if_neg hj]; exact hc b hb.1 hb.2
theorem cg_wo (hb : K b = kd) (a1 : ∀ b', b' ≠ b → f' b' = f b') {k j : Nat} {v : Int} (hk : k ≠ kd) (hc : cg K L f k j v) : cg K L f' k j v := fun y hy hky => by rw [a1 y (fun e => hk (by rw [← hky, e, hb]))]; exact hc y hy hky
end CW
abbrev fok1 (t : Int) (c : Nat) : Prop := (0 ≤ t ∧ t ≤ 9) ∧ c < 12
def fC (t : Int) (c : Nat) : Nat := if t = -1 then 0 else if fok1 t c then c + 1 else c
def fV (t : Int) (c : Nat) (w : Int) (v : Nat → Int) : Nat → Int := if fok1 t c then up1 v c w else v
def fR (t : Int) (c : Nat) : Int := if t = -1 then 0 else if fok1 t c then (c : Int) + 1 else -2
theorem okF_step {c : Nat} {v h : Nat → Int} (ho : okF c v h) (t : Int) {b : Int} (hb : b = 0 ∨ b = 1) : okF (fC t c) (fV t c t v) (fV t c b h) := by
  unfold fC fV
  by_cases ht : t = -1
  · rw [if_pos ht]
    exact ⟨by decide, fun k hk => absurd hk (by omega)⟩
  · rw [if_neg ht]
    by_cases hf : fok1 t c
    · rw [if_pos hf, if_pos hf, if_pos hf]
      have hf' : (0 ≤ t ∧ t ≤ 9) ∧ c < 12 := hf
      refine ⟨by omega, fun k hk => ?_⟩
      by_cases e : k = c
      · rw [e, up1_s, up1_s]
        exact ⟨hf'.1, hb⟩
      · rw [up1_o e, up1_o e]
        exact ho.2 k (by omega)
    · rw [if_neg hf, if_neg hf, if_neg hf]
      exact ho
theorem fE {c : Nat} {t : Int} (hf : fok1 t c) (w : Int) (v : Nat → Int) : fC t c = c + 1 ∧ fV t c w v = up1 v c w ∧ fR t c = (c : Int) + 1 := by
  have hf' : (0 ≤ t ∧ t ≤ 9) ∧ c < 12 := hf
  have ht : ¬ t = -1 := by omega
  unfold fC fV fR
  rw [if_neg ht, if_pos hf, if_pos hf, if_neg ht, if_pos hf]
  exact ⟨rfl, rfl, rfl⟩
theorem fN {c : Nat} {t : Int} (ht : ¬ t = -1) (hf : ¬ fok1 t c) (w : Int) (v : Nat → Int) : fC t c = c ∧ fV t c w v = v ∧ fR t c = -2 := by
  unfold fC fV fR
  rw [if_neg ht, if_neg hf, if_neg hf, if_neg ht, if_neg hf]
  exact ⟨rfl, rfl, rfl⟩
theorem bdFO {B : Int} {i : Nat} {x : Int} (h1 : 132 ≤ i) (h2 : i < 186) (h3 : -2147483648 ≤ x ∧ x ≤ 2147483647) : bok B (kbd 201 i) x := by
  have e : kbd 201 i = (-2147483648, 2147483647, false) := by
    show mbd i = _
    unfold mbd
    rw [if_neg (by omega), if_neg (by omega), if_neg (by omega), if_neg (by omega), if_pos (by simp; omega)]
  rw [e]
  exact ⟨h3.1, h3.2, fun h => by cases h⟩
abbrev Q_addF : MT := (yX1_addForecast, cX1_addForecast, 3, (some .int))
theorem qm_addF : mt 204 = Q_addF := rfl
abbrev Q_fore11 : MT := (yX11_forecast, cX11_forecast, 4, (some .int))
theorem qm_fore11 : mt 36 = Q_fore11 := rfl
abbrev Q_fore12 : MT := (yX12_forecast, cX12_forecast, 3, (some .int))
theorem qm_fore12 : mt 110 = Q_fore12 := rfl
theorem hc_addF {X0 : zC0} (H : ∀ j, j < 427 → CMj X0 j) {K : Nat → Nat} {B : Int} {L : List Nat} {f : Nat → va_E} (hh : hok X0.2.2.1 K B L f) {li c : Nat} {t b : Int} {v h : Nat → Int} (hli : li ∈ L ∧ K li = 62) (ht : 0 ≤ t ∧ t ≤ 9) (hb : b = 0 ∨ b = 1) (hF : LF K L f 62 c v h) (hc : c < 12) : HC X0 Q_addF 1 0 [(62, 1), (66, 0), (67, 0)] [.ref li, .int (Int32.ofInt t), .int (Int32.ofInt b)] K B L f (fun K' _ L' f' r => r = some (.int (Int32.ofInt ((c : Int) + 1))) ∧ LF K' L' f' 62 (c + 1) (up1 v c t) (up1 h c b)) := by
  refine eM.mk ⟨_, rfl⟩ pnX1 (Nat.le_of_ble_eq_true rfl) (fun E hE _ hret => ?_)
  obtain ⟨l0, D0, cy0, ax0⟩ := X0
  have hbb : 0 ≤ b ∧ b ≤ 1 := by omega
  refine s_af0 H hE hh ht hbb (v2 := (c : Int)) (by omega) hli (fun y hy hky => hF.1 y hy hky) (fun K2 B2 L2 f2 r1_2 h2 e2 u2_0 u2_1 u2_2 u2_3 u2_4 u2_5 => ?_)
  have F2 := hF.e0 e2 (Or.inl rfl)
  refine w_ist hE h2 u2_4.1 u2_4.2 (by decide) (by decide) (by omega) (by show (c : Int) < 12; omega) (by omega) ⟨by show (-2147483648 : Int) ≤ t; omega, by show t ≤ (2147483647 : Int); omega, fun h => by cases h⟩ (by decide +kernel) (fun f3 a1 a2 a3 a4 a5 => ?_)
  have h3 := a4 (XP_oth h2 u2_4.2 a1 (fun i hi => by cases hi))
  rw [Int.toNat_natCast] at a2
  rw [reg2 (by decide) (by decide)] at a5
  have c3 : cg K2 L2 f3 62 1 c := cg_wo u2_4.2 a1 (by decide) F2.1
  have v3 : ∀ k, k < c + 1 → cg K2 L2 f3 66 k (up1 v c t k) := fun k hk => by
    by_cases e : k = c
    · rw [e, up1_s]
      exact cg_wr h2 u2_4 (by decide) a2
    · rw [up1_o e]
      exact cg_ws h2 u2_4 (by decide) a2 e (F2.2 k (by omega)).1
  have w3 : ∀ k, k < c → cg K2 L2 f3 67 k (h k) := fun k hk => cg_wo u2_4.2 a1 (by decide) (F2.2 k hk).2
  refine s_af10 H hE h3 ht hbb (v2 := (c : Int)) (by omega) u2_3 (fun y hy hky => c3 y hy hky) (fun K4 B4 L4 f4 r1_4 h4 e4 u4_0 u4_1 u4_2 u4_3 u4_4 u4_5 => ?_)
  have w4 : ∀ k, k < c → cg K4 L4 f4 67 k (h k) := fun k hk => cg_ext e4 (by decide) (by simp) (w3 k hk)
  refine w_zst hE h4 u4_4 (by decide) (by decide) (fun j => rfl) (by omega) (by show (c : Int) < 12; omega) (by decide +kernel) (fun f5 z hz d1 d2 h5 d5 => ?_)
  rw [Int.toNat_natCast] at d2
  have hz' : z = b := hz hb
  rw [hz'] at d2
  have c5 : cg K4 L4 f5 62 1 c := cg_wo u4_4.2 d1 (by decide) (cg_ext e4 (by decide) (by simp) c3)
  have v5 : ∀ k, k < c + 1 → cg K4 L4 f5 66 k (up1 v c t k) := fun k hk => cg_wo u4_4.2 d1 (by decide) (cg_ext e4 (by decide) (by simp) (v3 k hk))
  have w5 : ∀ k, k < c + 1 → cg K4 L4 f5 67 k (up1 h c b k) := fun k hk => by
    by_cases e : k = c
    · rw [e, up1_s]
      exact cg_wr h4 u4_4 (by decide) d2
    · rw [up1_o e]
      exact cg_ws h4 u4_4 (by decide) d2 e (w4 k (by omega))
  refine s_af20 H hE h5 ht hbb (v2 := (c : Int)) (by omega) u4_3 (fun y hy hky => c5 y hy hky) (fun K6 B6 L6 f6 h6 e6 u6_0 u6_1 u6_2 u6_3 u6_4 => ?_)
  have ec : (1 + (c : Int)) = (c : Int) + 1 := Int.add_comm _ _
  refine hret 0 0 L6 f6 31 _ _ (Nat.le_refl _) (Nat.le_refl _) (by decide +kernel) (fun ft hft => by cases hft; rfl) ⟨K6, B6, h6, ?_, by rw [ec], ?_, fun k hk => ⟨?_, ?_⟩⟩
  · exact extC_tr (extC_tr (extC_tr (extC_tr (extC_mono e2 (by decide)) (extC_mono a5 (by decide))) (extC_mono e4 (by decide))) (extC_mono d5 (by decide))) (extC_mono e6 (by decide))
  · intro y hy hky
    rw [u6_4 y hy hky, ec]
    rfl
  · exact cg_ext e6 (by decide) (by simp) (v5 k hk)
  · exact cg_ext e6 (by decide) (by simp) (w5 k hk)
theorem hc_fore11 {X0 : zC0} (H : ∀ j, j < 427 → CMj X0 j) {K : Nat → Nat} {B : Int} {L : List Nat} {f : Nat → va_E} (hh : hok X0.2.2.1 K B L f) {x c : Nat} {t b : Int} {v h : Nat → Int} (hx : x ∈ L ∧ K x = 197) (ht : (-2147483648) ≤ t ∧ t ≤ 2147483647) (hb : b = 0 ∨ b = 1) (hF : LF K L f 62 c v h) (ho : okF c v h) : HC X0 Q_fore11 2 0 [(62, 1), (66, 0), (67, 0)] [.ref x, .int (Int32.ofInt t), .int (Int32.ofInt b)] K B L f (fun K' _ L' f' r => r = some (.int (Int32.ofInt (fR t c))) ∧ LF K' L' f' 62 (fC t c) (fV t c t v) (fV t c b h)) := by
  refine eM.mk ⟨_, rfl⟩ pnX11 (Nat.le_of_ble_eq_true rfl) (fun E hE _ hret => ?_)
  obtain ⟨l0, D0, cy0, ax0⟩ := X0
  have hbb : 0 ≤ b ∧ b ≤ 1 := by omega
  have hc12 := ho.1
  rcases (show t = -1 ∨ (¬ t = -1 ∧ ¬ fok1 t c ∧ (t ≤ -2 ∨ 10 ≤ t ∨ ((0 ≤ t ∧ t ≤ 9) ∧ c = 12))) ∨ fok1 t c by
    unfold fok1
    omega) with rfl | ⟨hn, hf, hcs⟩ | hf
  · refine s_fcA H hE hh hbb hx (fun K2 B2 L2 f2 r1_2 h2 e2 u2_0 u2_1 u2_2 u2_3 => ?_)
    refine hret 0 0 L2 f2 19 _ _ (Nat.le_refl _) (Nat.le_refl _) (by decide +kernel) (fun ft hft => by cases hft; rfl) ⟨K2, B2, h2, extC_mono e2 (by decide), rfl, ?_⟩
    exact ⟨fun y hy hky => (u2_3 y hy hky).trans rfl, fun k hk => absurd hk (Nat.not_lt_zero k)⟩
  · obtain ⟨q1, q2, q3⟩ := fN hn hf t v
    obtain ⟨-, q4, -⟩ := fN hn hf b h
    have fin : ∀ (K2 : Nat → Nat) (B2 : Int) (L2 : List Nat) (f2 : Nat → va_E) (lv : List (Nat × Value)), hok cy0 K2 B2 L2 f2 → extC [] K B L f K2 B2 L2 f2 → eW E 0 0 L2 f2 41 lv [.int (Int32.ofInt (-2))] := by
      intro K2 B2 L2 f2 lv h2 e2
      refine hret 0 0 L2 f2 41 _ _ (Nat.le_refl _) (Nat.le_refl _) (by decide +kernel) (fun ft hft => by cases hft; rfl) ⟨K2, B2, h2, extC_mono e2 (by simp), by rw [q3], ?_⟩
      rw [q1, q2, q4]
      exact hF.e0 e2 (Or.inl rfl)
    rcases hcs with hc | hc | hc
    · refine s_fcB H hE hh ⟨ht.1, hc⟩ hbb hx (fun K2 B2 L2 f2 r1_2 h2 e2 u2_0 u2_1 u2_2 u2_3 => ?_)
      exact fin K2 B2 L2 f2 _ h2 e2
    · refine s_fcC H hE hh ⟨hc, ht.2⟩ hbb hx (fun K2 B2 L2 f2 r1_2 h2 e2 u2_0 u2_1 u2_2 u2_3 => ?_)
      exact fin K2 B2 L2 f2 _ h2 e2
    · refine s_fcD H hE hh hc.1 hbb hx (fun y hy hky => by rw [hF.1 y hy hky, hc.2]; rfl) (fun K2 B2 L2 f2 r1_2 h2 e2 u2_0 u2_1 u2_2 u2_3 u2_4 => ?_)
      exact fin K2 B2 L2 f2 _ h2 e2
  · obtain ⟨q1, q2, q3⟩ := fE hf t v
    obtain ⟨-, q4, -⟩ := fE hf b h
    have hf' : (0 ≤ t ∧ t ≤ 9) ∧ c < 12 := hf
    refine s_fcE H hE hh hf'.1 hbb (v2 := (c : Int)) (by omega) hx (fun y hy hky => hF.1 y hy hky) (fun K2 B2 L2 f2 r1_2 h2 e2 u2_0 u2_1 u2_2 u2_3 u2_4 u2_5 => ?_)
    refine w_callV hE (hc_addF H h2 u2_4 hf'.1 hb (hF.e0 e2 (Or.inl rfl)) hf'.2) lX11_ok (by decide : (380, 0, 204, 1, 3) ∈ lX11) qm_addF h2 u2_4.1 u2_4.2 (by decide) (by decide) (by decide) rfl rfl (by simp [Value.category]) (by decide +kernel) (fun r3 L3 f3 _ hp3 => ?_)
    obtain ⟨K3, B3, h3, e3, hr3, g3⟩ := hp3
    dsimp only at h3 e3 hr3 g3
    subst hr3
    refine hret 0 0 L3 f3 48 _ _ (Nat.le_refl _) (Nat.le_refl _) (by decide +kernel) (fun ft hft => by cases hft; rfl) ⟨K3, B3, h3, extC_tr (extC_mono e2 (by simp)) e3, by rw [q3], ?_⟩
    rw [q1, q2, q4]
    exact g3
theorem hc_fore12 {X0 : zC0} (H : ∀ j, j < 427 → CMj X0 j) {K : Nat → Nat} {B : Int} {L : List Nat} {f : Nat → va_E} (hh : hok X0.2.2.1 K B L f) {m c : Nat} {t b : Int} {v h : Nat → Int} (hm : m ∈ L ∧ K m = 200) (ht : (-2147483648) ≤ t ∧ t ≤ 2147483647) (hb : b = 0 ∨ b = 1) (hF : MF K L f 201 c v h) (ho : okF c v h) : HC X0 Q_fore12 2 0 [(201, 11), (201, 19)] [.ref m, .int (Int32.ofInt t), .int (Int32.ofInt b)] K B L f (fun K' _ L' f' r => r = some (.int (Int32.ofInt (fR t c))) ∧ MF K' L' f' 201 (fC t c) (fV t c t v) (fV t c b h)) := by
  refine eM.mk ⟨_, rfl⟩ pnX12 (Nat.le_of_ble_eq_true rfl) (fun E hE _ hret => ?_)
  obtain ⟨l0, D0, cy0, ax0⟩ := X0
  have hbb : 0 ≤ b ∧ b ≤ 1 := by omega
  have hc12 := ho.1
  rcases (show t = -1 ∨ (¬ t = -1 ∧ ¬ fok1 t c ∧ (t ≤ -2 ∨ 10 ≤ t ∨ ((0 ≤ t ∧ t ≤ 9) ∧ c = 12))) ∨ fok1 t c by
    unfold fok1
    omega) with rfl | ⟨hn, hf, hcs⟩ | hf
  · refine s_fkA H hE hh hbb hm (fun K2 B2 L2 f2 h2 e2 u2_0 u2_1 u2_2 => ?_)
    refine hret 0 0 L2 f2 14 _ _ (Nat.le_refl _) (Nat.le_refl _) (by decide +kernel) (fun ft hft => by cases hft; rfl) ⟨K2, B2, h2, extC_mono e2 (by decide), rfl, ?_⟩
    exact ⟨fun y hy hky => (u2_2 y hy hky).2, fun k hk => absurd hk (Nat.not_lt_zero k)⟩
  · obtain ⟨q1, q2, q3⟩ := fN hn hf t v
    obtain ⟨-, q4, -⟩ := fN hn hf b h
    have fin : ∀ (K2 : Nat → Nat) (B2 : Int) (L2 : List Nat) (f2 : Nat → va_E) (lv : List (Nat × Value)), hok cy0 K2 B2 L2 f2 → extC [] K B L f K2 B2 L2 f2 → eW E 0 0 L2 f2 39 lv [.int (Int32.ofInt (-2))] := by
      intro K2 B2 L2 f2 lv h2 e2
      refine hret 0 0 L2 f2 39 _ _ (Nat.le_refl _) (Nat.le_refl _) (by decide +kernel) (fun ft hft => by cases hft; rfl) ⟨K2, B2, h2, extC_mono e2 (by simp), by rw [q3], ?_⟩
      rw [q1, q2, q4]
      exact hF.e0 hc12 e2 (Or.inl rfl)
    rcases hcs with hc | hc | hc
    · refine s_fkB H hE hh ⟨ht.1, hc⟩ hbb hm (fun K2 B2 L2 f2 h2 e2 u2_0 u2_1 u2_2 => ?_)
      exact fin K2 B2 L2 f2 _ h2 e2
    · refine s_fkC H hE hh ⟨hc, ht.2⟩ hbb hm (fun K2 B2 L2 f2 h2 e2 u2_0 u2_1 u2_2 => ?_)
      exact fin K2 B2 L2 f2 _ h2 e2
    · refine s_fkD H hE hh hc.1 hbb hm (fun y hy hky => ⟨by decide, (hF.1 y hy hky).trans (by rw [hc.2]; rfl)⟩) (fun K2 B2 L2 f2 h2 e2 u2_0 u2_1 u2_2 u2_3 => ?_)
      exact fin K2 B2 L2 f2 _ h2 e2
  · obtain ⟨q1, q2, q3⟩ := fE hf t v
    obtain ⟨-, q4, -⟩ := fE hf b h
    have hf' : (0 ≤ t ∧ t ≤ 9) ∧ c < 12 := hf
    have j1 : (132 + (2 * (c : Int))).toNat = 132 + 2 * c := by omega
    have j2 : (133 + (2 * (c : Int))).toNat = 133 + 2 * c := by omega
    refine s_fkE H hE hh hf'.1 hbb (v2 := (c : Int)) (by omega) hm (fun y hy hky => ⟨by decide, hF.1 y hy hky⟩) (fun K2 B2 L2 f2 r1_2 h2 e2 u2_0 u2_1 u2_2 u2_3 u2_4 u2_5 => ?_)
    have F2 := hF.e0 hc12 e2 (Or.inl rfl)
    refine w_ist hE h2 u2_4.1 u2_4.2 (by decide) (by decide) (by omega) (by show (132 + (2 * (c : Int))) < 17938; omega) (by omega) (bdFO (by omega) (by omega) (by omega)) (by decide +kernel) (fun f3 a1 a2 a3 a4 a5 => ?_)
    have h3 := a4 (XP_oth h2 u2_4.2 a1 (fun i hi => by
      rw [rel201] at hi
      have hi' : i ≤ 1 := Nat.le_of_ble_eq_true hi
      exact a3 i (by omega)))
    rw [j1] at a2 a5
    rw [regA_F (by omega) (Or.inl rfl)] at a5
    have c3 : cg K2 L2 f3 201 11 c := cg_ws h2 u2_4 (by decide) a2 (by omega) F2.1
    have v3 : ∀ k, k < c + 1 → cg K2 L2 f3 201 (132 + 2 * k) (up1 v c t k) := fun k hk => by
      by_cases e : k = c
      · rw [e, up1_s]
        exact cg_wr h2 u2_4 (by decide) a2
      · rw [up1_o e]
        exact cg_ws h2 u2_4 (by decide) a2 (by omega) (F2.2 k (by omega)).1
    have w3 : ∀ k, k < c → cg K2 L2 f3 201 (133 + 2 * k) (h k) := fun k hk => cg_ws h2 u2_4 (by decide) a2 (by omega) (F2.2 k hk).2
    have s59 : ∀ kk9 : (∀ (K4 : Nat → Nat) (B4 : Int) (L4 : List Nat) (f4 : Nat → va_E) (r1 : Nat), hok cy0 K4 B4 L4 f4 → extC [] K2 B2 L2 f3 K4 B4 L4 f4 → (m ∈ L4 ∧ K4 m = 200) → (r1 ∈ L4 ∧ K4 r1 = 201) → eW E 0 0 L4 f4 87 [(0, .ref m), (1, .int (Int32.ofInt t)), (2, .int (Int32.ofInt b))] [.int (Int32.ofInt b), .int (Int32.ofInt (133 + (2 * (c : Int)))), .ref r1]), eW E 0 0 L2 f3 59 [(0, .ref m), (1, .int (Int32.ofInt t)), (2, .int (Int32.ofInt b))] [] := by
      intro kk9
      rcases hb with rfl | rfl
      · refine s_fk590 H hE h3 hf'.1 (v1 := (c : Int)) (by omega) u2_3 (fun y hy hky => ⟨by decide, c3 y hy hky⟩) (fun K4 B4 L4 f4 r1_4 h4 e4 u4_0 u4_1 u4_2 u4_3 u4_4 => ?_)
        exact kk9 K4 B4 L4 f4 _ h4 e4 u4_2 u4_3
      · refine s_fk591 H hE h3 hf'.1 (v1 := (c : Int)) (by omega) u2_3 (fun y hy hky => ⟨by decide, c3 y hy hky⟩) (fun K4 B4 L4 f4 r1_4 h4 e4 u4_0 u4_1 u4_2 u4_3 u4_4 => ?_)
        exact kk9 K4 B4 L4 f4 _ h4 e4 u4_2 u4_3
    refine s59 (fun K4 B4 L4 f4 r4 h4 e4 m4 ra4 => ?_)
    refine w_ist hE h4 ra4.1 ra4.2 (by decide) (by decide) (by omega) (by show (133 + (2 * (c : Int))) < 17938; omega) (by omega) (bdFO (by omega) (by omega) (by omega)) (by decide +kernel) (fun f5 d1 d2 d3 d4 d5 => ?_)
    have h5 := d4 (XP_oth h4 ra4.2 d1 (fun i hi => by
      rw [rel201] at hi
      have hi' : i ≤ 1 := Nat.le_of_ble_eq_true hi
      exact d3 i (by omega)))
    rw [j2] at d2 d5
    rw [regA_F (by omega) (Or.inl rfl)] at d5
    have c5 : cg K4 L4 f5 201 11 c := cg_ws h4 ra4 (by decide) d2 (by omega) (cg_ext e4 (by decide) (by simp) c3)
    have v5 : ∀ k, k < c + 1 → cg K4 L4 f5 201 (132 + 2 * k) (up1 v c t k) := fun k hk => cg_ws h4 ra4 (by decide) d2 (by omega) (cg_ext e4 (by decide) (by simp) (v3 k hk))
    have w5 : ∀ k, k < c + 1 → cg K4 L4 f5 201 (133 + 2 * k) (up1 h c b k) := fun k hk => by
      by_cases e : k = c
      · rw [e, up1_s]
        exact cg_wr h4 ra4 (by decide) d2
      · rw [up1_o e]
        exact cg_ws h4 ra4 (by decide) d2 (by omega) (cg_ext e4 (by decide) (by simp) (w3 k (by omega)))
    refine s_fk88 H hE h5 hf'.1 hbb (v2 := (c : Int)) (by omega) m4 (fun y hy hky => ⟨by decide, c5 y hy hky⟩) (fun K6 B6 L6 f6 h6 e6 u6_0 u6_1 u6_2 u6_3 u6_4 => ?_)
    have ec : (1 + (c : Int)) = (c : Int) + 1 := Int.add_comm _ _
    refine hret 0 0 L6 f6 106 _ _ (Nat.le_refl _) (Nat.le_refl _) (by decide +kernel) (fun ft hft => by cases hft; rfl) ⟨K6, B6, h6, ?_, by rw [q3, ← ec], ?_⟩
    · exact extC_tr (extC_tr (extC_tr (extC_tr (extC_mono e2 (by simp)) (extC_mono a5 (by simp))) (extC_mono e4 (by simp))) (extC_mono d5 (by simp))) (extC_mono e6 (by decide))
    rw [q1, q2, q4]
    refine ⟨fun y hy hky => ?_, fun k hk => ⟨?_, ?_⟩⟩
    · exact (u6_4 y hy hky).2.trans ec
    · exact cg_ext e6 (by decide) (by rw [regA_F (by omega) (Or.inl rfl)]; decide) (v5 k hk)
    · exact cg_ext e6 (by decide) (by rw [regA_F (by omega) (Or.inl rfl)]; decide) (w5 k hk)
