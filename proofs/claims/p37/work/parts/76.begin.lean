/-! What begins one. -/
theorem hc_isAskAhead {X0 : zC0} (H : ∀ j, j < 412 → CMj X0 j) {K : Nat → Nat} {B : Int} {L : List Nat} {f : Nat → va_E} (hh : hok X0.2.2.1 K B L f) {m p : Nat} (hm : m ∈ L ∧ K m = 200) (hp : p ∈ L ∧ K p = 205) {l : List Int} (hw : wf l) (h17 : gi (f m) 17 = l.length) (hpl : plist (gi (f p)) l.length = l) : HC X0 M_isAskAhead 4 0 [] [.ref m] K B L f (fun _ _ _ _ r => ∃ c : Int, r = some (.int (Int32.ofInt c)) ∧ 0 ≤ c ∧ c ≤ 1 ∧ (c = 1 → ahd l)) := by
  refine eM.mk ⟨_, rfl⟩ pnX12 (Nat.le_of_ble_eq_true rfl) (fun E hE _ hret => ?_)
  have fin0 : ∀ (K1 : Nat → Nat) (B1 : Int) (L1 : List Nat) (f1 : Nat → va_E) (lv : List (Nat × Value)), hok X0.2.2.1 K1 B1 L1 f1 → extC [] K B L f K1 B1 L1 f1 → eW E 0 0 L1 f1 52 lv [.int (Int32.ofInt 0)] := fun K1 B1 L1 f1 lv h1 e1 => hret 0 0 L1 f1 52 lv _ (Nat.le_refl _) (Nat.le_refl _) (by decide +kernel) (fun ft hft => by cases hft; rfl) ⟨K1, B1, h1, e1, 0, rfl, by decide, by decide, fun h => by cases h⟩
  have fin1 : ∀ (K1 : Nat → Nat) (B1 : Int) (L1 : List Nat) (f1 : Nat → va_E) (lv : List (Nat × Value)), hok X0.2.2.1 K1 B1 L1 f1 → extC [] K B L f K1 B1 L1 f1 → ahd l → eW E 0 0 L1 f1 52 lv [.int (Int32.ofInt 1)] := fun K1 B1 L1 f1 lv h1 e1 ha => hret 0 0 L1 f1 52 lv _ (Nat.le_refl _) (Nat.le_refl _) (by decide +kernel) (fun ft hft => by cases hft; rfl) ⟨K1, B1, h1, e1, 1, rfl, by decide, by decide, fun _ => ha⟩
  have h160 := (hok_fld hh hm (j := 17) (lo := 0) (hi := 160) rfl).2
  obtain ⟨l0, D0, cy0, ax0⟩ := X0
  refine s_ia0 H hE hh hm (fun K1 B1 L1 f1 h1 e1 hm1 => ?_)
  have g1 : ∀ x, x ∈ L → gi (f1 x) = gi (f x) := fun x hx => ext0 e1 hx
  refine w_callV hE (hc_openNow H h1 hm1 (exin e1 hp) (l := l) (by rw [g1 m hm.1]; exact h17) (by rw [g1 p hp.1]; exact hpl)) lX12_ok le_213 mt_openNow h1 hm1.1 hm1.2 (by decide) (by decide) (by decide) rfl rfl (by decide) (by decide +kernel) (fun r L2 f2 _ hpo => ?_)
  obtain ⟨K2, B2, h2, e2, rfl⟩ := hpo
  have e02 := extC_tr e1 e2
  have hm2 := exin e2 hm1
  have hon := onl_cases hw
  refine s_ia4 H hE h2 ⟨by omega, by omega⟩ hm2 (fun K3 B3 L3 f3 h3 e3 h42 hm3 => ?_) (fun K3 B3 L3 f3 h3 e3 _ hm3 => ?_)
  · have e03 := extC_tr e02 e3
    cases l with
    | nil => simp [onl] at h42
    | cons o l =>
      obtain ⟨q1, q2⟩ := pl_cons hpl
      have hlen : gi (f m) 17 = (l.length : Int) + 1 := by rw [h17]; rfl
      have hg := hw.2.1
      have hp3 := exin e03 hp
      refine s_ia9 H hE h3 (v0 := (l.length : Int) + 1) ⟨by omega, by omega⟩ hm3 (fun x hx hkx => by rw [sol h3 ⟨hx, hkx⟩ hm3 (by decide), ext0 e03 hm.1, hlen]) (fun K4 B4 L4 f4 v1 h4 e4 _ _ hm4 c1 _ => ?_) (fun K4 B4 L4 f4 v1 h4 e4 _ hv hm4 c1 _ => ?_)
      · have e04 := extC_tr e03 e4
        have hp4 := exin e04 hp
        have q3 := (c1 p hp4.1 hp4.2).2
        have ei : (-1 + ((l.length : Int) + 1)).toNat = l.length := by omega
        rw [ext0 e04 hp.1, ei, q1] at q3
        subst q3
        refine w_callS hE (hc_rank H h4 hg) lX12_ok le_203 mt_rank (by decide) rfl rfl (by decide) (by decide +kernel) (fun r L5 f5 _ hpo => ?_)
        obtain ⟨K5, B5, h5, e5, rfl⟩ := hpo
        have e05 := extC_tr e04 e5
        refine s_ia39 H hE h5 rk_bd (exin e5 hm4) (fun K6 B6 L6 f6 h6 e6 hr hm6 => ?_) (fun K6 B6 L6 f6 h6 e6 _ hm6 => ?_)
        · have e06 := extC_tr e05 e6
          refine s_ia47 H hE h6 hm6 (fun K7 B7 L7 f7 h7 e7 _ => fin1 K7 B7 L7 f7 _ h7 (extC_tr e06 e7) ?_)
          have := rk_13 hg hr
          show o = 20 ∨ o = 21 ∨ o = 22 ∨ o = 42
          omega
        · exact s_ia51 H hE h6 hm6 (fun K7 B7 L7 f7 h7 e7 _ => fin0 K7 B7 L7 f7 _ h7 (extC_tr e05 (extC_tr e6 e7)))
      · have e04 := extC_tr e03 e4
        have hp4 := exin e04 hp
        have q3 := (c1 p hp4.1 hp4.2).2
        have ei : (-1 + ((l.length : Int) + 1)).toNat = l.length := by omega
        rw [ext0 e04 hp.1, ei, q1] at q3
        refine s_ia47 H hE h4 hm4 (fun K7 B7 L7 f7 h7 e7 _ => fin1 K7 B7 L7 f7 _ h7 (extC_tr e04 e7) ?_)
        show o = 20 ∨ o = 21 ∨ o = 22 ∨ o = 42
        omega
  · exact s_ia51 H hE h3 hm3 (fun K7 B7 L7 f7 h7 e7 _ => fin0 K7 B7 L7 f7 _ h7 (extC_tr e02 (extC_tr e3 e7)))
theorem hc_compareOf {X0 : zC0} (H : ∀ j, j < 412 → CMj X0 j) {K : Nat → Nat} {B : Int} {L : List Nat} {f : Nat → va_E} (hh : hok X0.2.2.1 K B L f) {m : Nat} (hm : m ∈ L ∧ K m = 200) : HC X0 M_compareOf 1 0 [] [.ref m] K B L f (fun _ _ _ _ r => ∃ c : Int, r = some (.int (Int32.ofInt c)) ∧ (c = -1 ∨ (10 ≤ c ∧ c ≤ 15 ∧ gi (f m) 9 ≠ 0))) := by
  refine eM.mk ⟨_, rfl⟩ pnX12 (Nat.le_of_ble_eq_true rfl) (fun E hE _ hret => ?_)
  have fin : ∀ (K1 : Nat → Nat) (B1 : Int) (L1 : List Nat) (f1 : Nat → va_E) (c : Int) (lv : List (Nat × Value)), hok X0.2.2.1 K1 B1 L1 f1 → extC [] K B L f K1 B1 L1 f1 → (c = -1 ∨ (10 ≤ c ∧ c ≤ 15 ∧ gi (f m) 9 ≠ 0)) → eW E 0 0 L1 f1 83 lv [.int (Int32.ofInt c)] := fun K1 B1 L1 f1 c lv h1 e1 hc => hret 0 0 L1 f1 83 lv _ (Nat.le_refl _) (Nat.le_refl _) (by decide +kernel) (fun ft hft => by cases hft; rfl) ⟨K1, B1, h1, e1, c, rfl, hc⟩
  refine s_cp0 H hE hh hm (fun K1 B1 L1 f1 v h1 e1 b1 hm1 c1 => ?_) (fun K1 B1 L1 f1 v h1 e1 b1 hm1 c1 => ?_) (fun K1 B1 L1 f1 v h1 e1 b1 hm1 c1 => ?_) (fun K1 B1 L1 f1 v h1 e1 b1 hm1 c1 => ?_) (fun K1 B1 L1 f1 v h1 e1 b1 hm1 c1 => ?_) (fun K1 B1 L1 f1 v h1 e1 b1 hm1 c1 => ?_) (fun K1 B1 L1 f1 v h1 e1 b1 hm1 c1 => ?_)
  all_goals have c2 := c1 m hm1.1 hm1.2
  all_goals rw [ext0 e1 hm.1] at c2
  · exact s_cp9 H hE h1 hm1 (fun K2 B2 L2 f2 h2 e2 _ => fin K2 B2 L2 f2 _ _ h2 (extC_tr e1 e2) (by omega))
  · exact s_cp22 H hE h1 hm1 (fun K2 B2 L2 f2 h2 e2 _ => fin K2 B2 L2 f2 _ _ h2 (extC_tr e1 e2) (by omega))
  · exact s_cp36 H hE h1 hm1 (fun K2 B2 L2 f2 h2 e2 _ => fin K2 B2 L2 f2 _ _ h2 (extC_tr e1 e2) (by omega))
  · exact s_cp49 H hE h1 hm1 (fun K2 B2 L2 f2 h2 e2 _ => fin K2 B2 L2 f2 _ _ h2 (extC_tr e1 e2) (by omega))
  · exact s_cp63 H hE h1 hm1 (fun K2 B2 L2 f2 h2 e2 _ => fin K2 B2 L2 f2 _ _ h2 (extC_tr e1 e2) (by omega))
  · exact s_cp77 H hE h1 hm1 (fun K2 B2 L2 f2 h2 e2 _ => fin K2 B2 L2 f2 _ _ h2 (extC_tr e1 e2) (by omega))
  · exact s_cp82 H hE h1 hm1 (fun K2 B2 L2 f2 h2 e2 _ => fin K2 B2 L2 f2 _ _ h2 (extC_tr e1 e2) (by omega))
theorem hc_betweenOf {X0 : zC0} (H : ∀ j, j < 412 → CMj X0 j) {K : Nat → Nat} {B : Int} {L : List Nat} {f : Nat → va_E} (hh : hok X0.2.2.1 K B L f) {m p : Nat} (hm : m ∈ L ∧ K m = 200) (hp : p ∈ L ∧ K p = 205) {l : List Int} (hw : wf l) (h17 : gi (f m) 17 = l.length) (hpl : plist (gi (f p)) l.length = l) : HC X0 M_betweenOf 6 0 [] [.ref m] K B L f (fun _ _ _ _ r => ∃ c : Int, r = some (.int (Int32.ofInt c)) ∧ (c = -1 ∨ (gi (f m) 9 ≠ 0 ∧ ((3 ≤ c ∧ c ≤ 6) ∨ (10 ≤ c ∧ c ≤ 15 ∧ onl l = 42 ∧ cmd l = false) ∨ (21 ≤ c ∧ c ≤ 22 ∧ onl l = 42 ∧ cmd l = true))))) := by
  refine eM.mk ⟨_, rfl⟩ pnX12 (Nat.le_of_ble_eq_true rfl) (fun E hE _ hret => ?_)
  have fin : ∀ (pc : Nat) (hpc : decode cX12_betweenOf pc = .ok (.ireturn, 1)) (K1 : Nat → Nat) (B1 : Int) (L1 : List Nat) (f1 : Nat → va_E) (c : Int) (lv : List (Nat × Value)), hok X0.2.2.1 K1 B1 L1 f1 → extC [] K B L f K1 B1 L1 f1 → (c = -1 ∨ (gi (f m) 9 ≠ 0 ∧ ((3 ≤ c ∧ c ≤ 6) ∨ (10 ≤ c ∧ c ≤ 15 ∧ onl l = 42 ∧ cmd l = false) ∨ (21 ≤ c ∧ c ≤ 22 ∧ onl l = 42 ∧ cmd l = true)))) → eW E 0 0 L1 f1 pc lv [.int (Int32.ofInt c)] := fun pc hpc K1 B1 L1 f1 c lv h1 e1 hc => hret 0 0 L1 f1 pc lv _ (Nat.le_refl _) (Nat.le_refl _) hpc (fun ft hft => by cases hft; rfl) ⟨K1, B1, h1, e1, c, rfl, hc⟩
  refine s_bt0 H hE hh hm (fun K1 B1 L1 f1 v h1 e1 b1 hm1 c1 => ?_) (fun K1 B1 L1 f1 v h1 e1 b1 hm1 c1 => ?_) (fun K1 B1 L1 f1 v h1 e1 b1 hm1 c1 => ?_) (fun K1 B1 L1 f1 v h1 e1 b1 hm1 c1 => ?_) (fun K1 B1 L1 f1 v h1 e1 b1 hm1 c1 => ?_)
  all_goals have c2 := c1 m hm1.1 hm1.2
  all_goals rw [ext0 e1 hm.1] at c2
  · exact fin 10 (by decide +kernel) K1 B1 L1 f1 3 _ h1 e1 (by omega)
  · exact fin 21 (by decide +kernel) K1 B1 L1 f1 4 _ h1 e1 (by omega)
  · exact fin 32 (by decide +kernel) K1 B1 L1 f1 5 _ h1 e1 (by omega)
  · exact fin 44 (by decide +kernel) K1 B1 L1 f1 6 _ h1 e1 (by omega)
  · obtain ⟨l0, D0, cy0, ax0⟩ := X0
    have g1 : ∀ x, x ∈ L → gi (f1 x) = gi (f x) := fun x hx => ext0 e1 hx
    refine w_callV hE (hc_openNow H h1 hm1 (exin e1 hp) (l := l) (by rw [g1 m hm.1]; exact h17) (by rw [g1 p hp.1]; exact hpl)) lX12_ok le_213 mt_openNow h1 hm1.1 hm1.2 (by decide) (by decide) (by decide) rfl rfl (by decide) (by decide +kernel) (fun r L2 f2 _ hpo => ?_)
    obtain ⟨K2, B2, h2, e2, rfl⟩ := hpo
    have e02 := extC_tr e1 e2
    have hm2 := exin e2 hm1
    have hon := onl_cases hw
    refine s_bt49 H hE h2 ⟨by omega, by omega⟩ hm2 (fun K3 B3 L3 f3 h3 e3 _ hm3 => fin 55 (by decide +kernel) K3 B3 L3 f3 _ _ h3 (extC_tr e02 e3) (Or.inl rfl)) (fun K3 B3 L3 f3 h3 e3 h42 hm3 => ?_)
    have e03 := extC_tr e02 e3
    have h42' : onl l = 42 := by omega
    refine w_callV hE (hc_isCompared H h3 hm3 (exin e03 hp) (l := l) hw (by rw [ext0 e03 hm.1]; exact h17) (by rw [ext0 e03 hp.1]; exact hpl)) lX12_ok le_244 mt_isCompared h3 hm3.1 hm3.2 (by decide) (by decide) (by decide) rfl rfl (by decide) (by decide +kernel) (fun r L4 f4 _ hpo => ?_)
    obtain ⟨K4, B4, h4, e4, rfl⟩ := hpo
    have e04 := extC_tr e03 e4
    refine s_bt60 H hE h4 (by split <;> decide) (exin e4 hm3) (fun K5 B5 L5 f5 h5 e5 hc hm5 => ?_) (fun K5 B5 L5 f5 h5 e5 hc hm5 => ?_)
    · have e05 := extC_tr e04 e5
      have hcf : cmd l = false := by
        cases hcm : cmd l with
        | false => rfl
        | true => rw [hcm] at hc; simp at hc
      refine w_callV hE (hc_compareOf H h5 hm5) lX12_ok le_247 mt_compareOf h5 hm5.1 hm5.2 (by decide) (by decide) (by decide) rfl rfl (by decide) (by decide +kernel) (fun r L6 f6 _ hpo => ?_)
      obtain ⟨K6, B6, h6, e6, c, rfl, hc6⟩ := hpo
      rw [ext0 e05 hm.1] at hc6
      refine fin 67 (by decide +kernel) K6 B6 L6 f6 c _ h6 (extC_tr e05 e6) ?_
      rcases hc6 with h | ⟨a, b, d⟩
      · exact Or.inl h
      · exact Or.inr ⟨d, Or.inr (Or.inl ⟨a, b, h42', hcf⟩)⟩
    · have e05 := extC_tr e04 e5
      have hct : cmd l = true := by
        cases hcm : cmd l with
        | true => rfl
        | false => rw [hcm] at hc; simp at hc
      refine s_bt68 H hE h5 hm5 (fun K6 B6 L6 f6 v6 h6 e6 b6 hm6 c6 => ?_) (fun K6 B6 L6 f6 v6 h6 e6 b6 hm6 c6 => ?_) (fun K6 B6 L6 f6 h6 e6 hm6 => ?_)
      · have e06 := extC_tr e05 e6
        have := c6 m hm6.1 hm6.2
        rw [ext0 e06 hm.1] at this
        exact s_bt84 H hE h6 hm6 (fun K7 B7 L7 f7 h7 e7 _ => fin 109 (by decide +kernel) K7 B7 L7 f7 _ _ h7 (extC_tr e06 e7) (Or.inr ⟨by omega, Or.inr (Or.inr ⟨by decide, by decide, h42', hct⟩)⟩))
      · have e06 := extC_tr e05 e6
        have := c6 m hm6.1 hm6.2
        rw [ext0 e06 hm.1] at this
        exact s_bt103 H hE h6 hm6 (fun K7 B7 L7 f7 h7 e7 _ => fin 109 (by decide +kernel) K7 B7 L7 f7 _ _ h7 (extC_tr e06 e7) (Or.inr ⟨by omega, Or.inr (Or.inr ⟨by decide, by decide, h42', hct⟩)⟩))
      · exact s_bt108 H hE h6 hm6 (fun K7 B7 L7 f7 h7 e7 _ => fin 109 (by decide +kernel) K7 B7 L7 f7 _ _ h7 (extC_tr e05 (extC_tr e6 e7)) (Or.inl rfl))
