/-! summed. -/
theorem hc_summed {X0 : zC0} (H : ∀ j, j < 412 → CMj X0 j) {K : Nat → Nat} {B : Int} {L : List Nat} {f : Nat → va_E} (hh : hok X0.2.2.1 K B L f) {m tx p b : Nat} (hA : PA K L m tx p b) {T w : Nat} (h12 : gi (f m) 12 = T) (hs : ∃ s, s < 4 ∧ T = 705 * s) (h13 : gi (f m) 13 = w) (hw8 : (w : Int) ≤ gi (f m) 8) (hT : TI (gi (f m))) : HC X0 M_summed 9 0 modP [.ref m] K B L f (fun _ _ _ f' r => ∃ c : Int, r = some (.int (Int32.ofInt c)) ∧ 0 ≤ c ∧ c ≤ 6 ∧ (c = 0 → (∃ w' : Nat, gi (f' m) 13 = w' ∧ w ≤ w' ∧ (w' : Int) ≤ gi (f' m) 8 ∧ wsc (oO (gi (f' tx)) T) (vV (gi (f' tx)) T) (w' - w) w 0 0 []) ∧ TI (gi (f' m)) ∧ gi (f m) 8 ≤ gi (f' m) 8) ∧ ∀ j, j < T + 97 → gi (f' tx) j = gi (f tx) j) := by
  refine eM.mk ⟨_, rfl⟩ pnX12 (Nat.le_of_ble_eq_true rfl) (fun E hE _ hret => ?_)
  obtain ⟨l0, D0, cy0, ax0⟩ := X0
  have bad : ∀ (pc : Nat) (hpc : decode cX12_summed pc = .ok (.ireturn, 1)) (c : Int) (hc : 1 ≤ c ∧ c ≤ 6) (K1 : Nat → Nat) (B1 : Int) (L1 : List Nat) (f1 : Nat → va_E) (lv : List (Nat × Value)), hok cy0 K1 B1 L1 f1 → extC modP K B L f K1 B1 L1 f1 → (∀ j, j < T + 97 → gi (f1 tx) j = gi (f tx) j) → eW E 0 0 L1 f1 pc lv [.int (Int32.ofInt c)] := fun pc hpc c hc K1 B1 L1 f1 lv h1 e1 hg => hret 0 0 L1 f1 pc lv _ (Nat.le_refl _) (Nat.le_refl _) hpc (fun ft hft => by cases hft; rfl) ⟨K1, B1, h1, e1, c, rfl, by omega, hc.2, fun h => (by omega), hg⟩
  have go : ∀ (N : Nat) (K1 : Nat → Nat) (B1 : Int) (L1 : List Nat) (f1 : Nat → va_E), hok cy0 K1 B1 L1 f1 → extC modP K B L f K1 B1 L1 f1 → (∃ l, PSf (gi (f1 m)) (gi (f1 tx)) (gi (f1 p)) (gi (f1 b)) T w l (nb l + (if gi (f1 m) 20 = 1 then 1 else 0)) (tb l)) → TI (gi (f1 m)) → gi (f m) 8 ≤ gi (f1 m) 8 → (∀ j, j < T + 97 → gi (f1 tx) j = gi (f tx) j) → 302 - gi (f1 m) 8 ≤ N → eW E 0 0 L1 f1 20 [(0, .ref m)] [] := by
    intro N
    induction N with
    | zero =>
      intro K1 B1 L1 f1 h1 e1 _ _ _ _ hN
      have := (hok_fld h1 (hA.ext e1).1 (j := 8) (lo := 0) (hi := 301) rfl).2
      omega
    | succ N ih =>
      intro K1 B1 L1 f1 h1 e1 hS hT1 h8 hg hN
      obtain ⟨l, hS⟩ := hS
      have hA1 := hA.ext e1
      refine s_sm20 H hE h1 hA1.1 (fun K2 B2 L2 f2 v2 h2 e2 b2 hm2 c2 => ?_) (fun K2 B2 L2 f2 v2 h2 e2 b2 hm2 c2 => ?_)
      all_goals have hA2 := hA1.ext e2
      all_goals have g2 : ∀ x, x ∈ L1 → gi (f2 x) = gi (f1 x) := fun x hx => ext0 e2 hx
      all_goals have q20 := c2 m hm2.1 hm2.2
      all_goals have e02 := extC_tr e1 (extC_mono e2 (by decide))
      all_goals rw [g2 m hA1.1.1] at q20
      · have h20 : gi (f1 m) 20 = 1 := by omega
        rw [if_pos h20] at hS
        have hwf : wf l := hS.2.2.2.2.2.2.1
        refine w_callV hE (hc_behindOne H h2 hA2 (T := T) (i0 := w) (l := l) (by rw [g2 m hA1.1.1, g2 tx hA1.2.1.1, g2 p hA1.2.2.1.1, g2 b hA1.2.2.2.1]; exact hS) (by rw [g2 m hA1.1.1]; exact hT1) (by rw [g2 m hA1.1.1]; exact h20)) lX12_ok le_256 mt_behindOne h2 hA2.1.1 hA2.1.2 (by decide) (by decide) (by decide) rfl rfl (by decide) (by decide +kernel) (fun r L3 f3 _ hp3 => ?_)
        obtain ⟨K3, B3, h3, e3, c, rfl, c0, c1, hc0, hc1⟩ := hp3
        dsimp only at h3 e3 hc0 hc1
        have hA3 := hA2.ext e3
        have e03 := extC_tr e02 e3
        refine s_sm31 H hE h3 ⟨c0, c1⟩ hA3.1 (fun K4 B4 L4 f4 h4 e4 b4 hm4 => ?_) (fun K4 B4 L4 f4 h4 e4 b4 hm4 => ?_)
        all_goals have hA4 := hA3.ext e4
        all_goals have g4 : ∀ x, x ∈ L3 → gi (f4 x) = gi (f3 x) := fun x hx => ext0 e4 hx
        all_goals have e04 := extC_tr e03 (extC_mono e4 (by decide))
        · obtain ⟨⟨x1, x2, x3⟩, x4⟩ := hc1 (by omega)
          rw [g2 m hA1.1.1] at x3
          refine ih K4 B4 L4 f4 h4 e04 ?_ ?_ ?_ (fun j hj => ?_) ?_
          · rw [g4 m hA3.1.1, g4 tx hA3.2.1.1, g4 p hA3.2.2.1.1, g4 b hA3.2.2.2.1]
            exact x1
          · rw [g4 m hA3.1.1]; exact x2
          · rw [g4 m hA3.1.1]; omega
          · rw [g4 tx hA3.2.1.1, x4 j hj, g2 tx hA1.2.1.1, hg j hj]
          · rw [g4 m hA3.1.1]; omega
        · have hsame : ∀ x, x ∈ L1 → gi (f4 x) = gi (f1 x) := fun x hx => by
            have hx2 := (e2.1 x hx).1
            rw [g4 x ((e3.1 x hx2).1), hc0 (by omega) x hx2, g2 x hx]
          refine w_callV hE (hc_openNow H h4 hA4.1 hA4.2.2.1 (l := l) (by rw [hsame m hA1.1.1]; exact hS.2.2.1) (by rw [hsame p hA1.2.2.1.1]; exact hS.2.2.2.1)) lX12_ok le_213 mt_openNow h4 hA4.1.1 hA4.1.2 (by decide) (by decide) (by decide) rfl rfl (by decide) (by decide +kernel) (fun r L5 f5 _ hp => ?_)
          obtain ⟨K5, B5, h5, e5, rfl⟩ := hp
          dsimp only at h5 e5
          have hA5 := hA4.ext e5
          have e05 := extC_tr e04 (extC_mono e5 (by decide))
          have hon := onl_cases hwf
          refine s_sm41 H hE h5 ⟨by omega, by omega⟩ hA5.1 (fun K6 B6 L6 f6 h6 e6 _ _ => bad 45 (by decide +kernel) 1 (by decide) K6 B6 L6 f6 _ h6 (extC_tr e05 (extC_mono e6 (by decide))) (fun j hj => by rw [ext0 e6 hA5.2.1.1, ext0 e5 hA4.2.1.1, hsame tx hA1.2.1.1, hg j hj])) (fun K6 B6 L6 f6 h6 e6 bo hm6 => ?_)
          have hA6 := hA5.ext e6
          have e06 := extC_tr e05 (extC_mono e6 (by decide))
          have ho1 : onl l = -1 := by omega
          have g6 : ∀ x, x ∈ L1 → gi (f6 x) = gi (f1 x) := fun x hx => by
            have hx2 := (e2.1 x hx).1
            have hx3 := (e3.1 x hx2).1
            have hx4 := (e4.1 x hx3).1
            have hx5 := (e5.1 x hx4).1
            rw [ext0 e6 hx5, ext0 e5 hx4, hsame x hx]
          have hmd := (md_onl hwf).2 (by omega)
          have hv1 : false = false → md l = 1 → (4 : Int) ≤ 1 := fun _ h => by omega
          refine w_callV hE (hc_settle H h6 hA6 (least := 1) (by decide) (T := T) (i0 := w) (l := l) (v := false) hv1 (fun h => by cases h) (by rw [nn_f, tt_f, g6 m hA1.1.1, g6 tx hA1.2.1.1, g6 p hA1.2.2.1.1, g6 b hA1.2.2.2.1]; exact hS)) lX12_ok le_230 mt_settle h6 hA6.1.1 hA6.1.2 (by decide) (by decide) (by decide) rfl rfl (by decide) (by decide +kernel) (fun r L7 f7 ht7 hp7 => ?_)
          obtain ⟨K7, B7, h7, e7, y1, y2⟩ := hp7
          dsimp only at h7 e7 y1 y2
          have hr7 : r = none := ht7
          subst hr7
          obtain ⟨z1, z2, z3, z4, z5, z6, z7, z8⟩ := stl_ok 1 l false hwf (by decide) hv1 (fun h => by cases h)
          have hvf := (z6 rfl (by omega)).1
          have hl1 : (stl 1 l false).1 = [] := by
            rcases z4 with h | ⟨o', l', h, hr⟩
            · exact h
            · exfalso
              have := rk_0 hr
              rw [h] at z2
              simp only [onl] at z2
              rw [if_pos this] at z2
              omega
          rw [hvf, nn_f, tt_f, hl1] at y1
          have hA7 := hA6.ext e7
          refine s_sm51 H hE h7 hA7.1 (fun K8 B8 L8 f8 h8' e8 hm8 => ?_)
          have g8 : ∀ x, x ∈ L7 → gi (f8 x) = gi (f7 x) := fun x hx => ext0 e8 hx
          obtain ⟨s1, s2, s3, s4, s5, s6, s7, s8, ⟨w', s9, s10, s11, s12⟩, s13, s14, s15⟩ := id y1
          have gm7 : ∀ i, (200, i) ∉ modS → gi (f7 m) i = gi (f1 m) i := fun i hi => by rw [xg e7 hA6.1 hi, g6 m hA1.1.1]
          refine hret 0 0 L8 f8 52 _ _ (Nat.le_refl _) (Nat.le_refl _) (by decide +kernel) (fun ft hft => by cases hft; rfl) ⟨K8, B8, h8', extC_tr e06 (extC_tr (extC_mono e7 (by decide)) (extC_mono e8 (by decide))), 0, rfl, by decide, by decide, fun _ => ⟨⟨w', ?_, s10, ?_, ?_⟩, ?_, ?_⟩, fun j hj => ?_⟩
          · rw [g8 m hA7.1.1]; exact s9
          · rw [g8 m hA7.1.1]
            omega
          · rw [g8 tx hA7.2.1.1]
            exact Gd_end s12
          · rw [g8 m hA7.1.1]
            intro hn
            rw [gm7 9 (by decide)] at hn
            rw [gm7 8 (by decide), gm7 7 (by decide)]
            exact hT1 hn
          · rw [g8 m hA7.1.1, gm7 8 (by decide)]
            exact h8
          · rw [g8 tx hA7.2.1.1, y2 j hj, g6 tx hA1.2.1.1, hg j hj]
      · have h20 : gi (f1 m) 20 = 0 := by omega
        rw [if_neg (by omega)] at hS
        refine w_callV hE (hc_beginOne H h2 hA2 (T := T) (i0 := w) (l := l) (by rw [g2 m hA1.1.1, g2 tx hA1.2.1.1, g2 p hA1.2.2.1.1, g2 b hA1.2.2.2.1]; exact hS) (by rw [g2 m hA1.1.1]; exact hT1) (by rw [g2 m hA1.1.1]; exact h20)) lX12_ok le_259 mt_beginOne h2 hA2.1.1 hA2.1.2 (by decide) (by decide) (by decide) rfl rfl (by decide) (by decide +kernel) (fun r L3 f3 _ hp3 => ?_)
        obtain ⟨K3, B3, h3, e3, c, rfl, c0, c6, hc, x4⟩ := hp3
        dsimp only at h3 e3 hc x4
        have hA3 := hA2.ext e3
        have e03 := extC_tr e02 e3
        refine s_sm57 H hE h3 ⟨c0, c6⟩ hA3.1 (fun K4 B4 L4 f4 h4 e4 b4 hm4 => ?_) (fun K4 B4 L4 f4 h4 e4 b4 hm4 => ?_)
        · have hA4 := hA3.ext e4
          have g4 : ∀ x, x ∈ L3 → gi (f4 x) = gi (f3 x) := fun x hx => ext0 e4 hx
          have e04 := extC_tr e03 (extC_mono e4 (by decide))
          obtain ⟨x1, x2, x3⟩ := hc (by omega)
          rw [g2 m hA1.1.1] at x3
          refine x_sub (lv' := [(0, .ref m)]) (fun q hq => by rw [List.mem_singleton.mp hq]; simp) ?_
          refine ih K4 B4 L4 f4 h4 e04 ?_ ?_ ?_ (fun j hj => ?_) ?_
          · rw [g4 m hA3.1.1, g4 tx hA3.2.1.1, g4 p hA3.2.2.1.1, g4 b hA3.2.2.2.1]
            exact x1
          · rw [g4 m hA3.1.1]; exact x2
          · rw [g4 m hA3.1.1]; omega
          · rw [g4 tx hA3.2.1.1, x4 j hj, g2 tx hA1.2.1.1, hg j hj]
          · rw [g4 m hA3.1.1]; omega
        · exact bad 63 (by decide +kernel) c ⟨b4.1, b4.2⟩ K4 B4 L4 f4 _ h4 (extC_tr e03 (extC_mono e4 (by decide))) (fun j hj => by rw [ext0 e4 hA3.2.1.1, x4 j hj, g2 tx hA1.2.1.1, hg j hj])
  refine s_sm0 H hE hh hA.1 (fun K1 B1 L1 f1 h1 e1 hm1 c20 c19 c18 c17 => ?_)
  have hA1 := hA.ext e1
  have gm1 : ∀ i, i ≠ 17 → i ≠ 18 → i ≠ 19 → i ≠ 20 → gi (f1 m) i = gi (f m) i := fun i q1 q2 q3 q4 => xg e1 hA.1 (by simp; exact ⟨q1, q2, q3, q4⟩)
  have gt1 : gi (f1 tx) = gi (f tx) := xa e1 hA.2.1 reg203 (by decide)
  have hP := hok_Psi hh hA.1 hA.2.1
  rw [h12, h13] at hP
  have eT : ((T : Nat) : Int).toNat = T := by omega
  refine go 302 K1 B1 L1 f1 h1 (extC_mono e1 (by decide)) ⟨[], ?_⟩ ?_ (by rw [gm1 8 (by decide) (by decide) (by decide) (by decide)]; exact Int.le_refl _) (fun j _ => by rw [gt1]) (by have := (hok_fld h1 hA1.1 (j := 8) (lo := 0) (hi := 301) rfl).1; omega)
  · rw [c20 m hm1.1 hm1.2, gt1]
    refine ⟨by rw [gm1 12 (by decide) (by decide) (by decide) (by decide), h12], hs, by rw [c17 m hm1.1 hm1.2]; rfl, rfl, by rw [c18 m hm1.1 hm1.2]; rfl, by rw [c19 m hm1.1 hm1.2]; rfl, trivial, by decide, ⟨w, by rw [gm1 13 (by decide) (by decide) (by decide) (by decide), h13], Nat.le_refl _, ?_, Gd_start _ _ _ _⟩, fun k hk => by simp [inn] at hk, fun k k' _ hk => by simp [inn] at hk, fun k hk x1 x2 x3 => ?_⟩
    · rw [gm1 8 (by decide) (by decide) (by decide) (by decide)]
      simp only [pnd]
      omega
    · have := hP.1 k hk
      rw [eT] at this
      exact this x1 x2 x3
  · intro hn
    rw [gm1 9 (by decide) (by decide) (by decide) (by decide)] at hn
    rw [gm1 8 (by decide) (by decide) (by decide) (by decide), gm1 7 (by decide) (by decide) (by decide) (by decide)]
    exact hT hn
