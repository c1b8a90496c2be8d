/-! behindOne, summed. -/
theorem push_wf {l : List Int} {c : Int} (hw : wf l) (hc : (3 ≤ c ∧ c ≤ 6) ∨ (10 ≤ c ∧ c ≤ 15) ∨ (21 ≤ c ∧ c ≤ 22)) (ht : l = [] ∨ ∃ o l', l = o :: l' ∧ rk o < rk c) (ha : 10 ≤ c → ahd l) : wf (c :: l) ∧ opc (c :: l) = opc l ∧ inn (c :: l) = inn l ∧ pnd (c :: l) = pnd l + 1 := by
  have hopc : opc (c :: l) = opc l := by simp only [opc]; rw [if_neg (by omega)]; rfl
  refine ⟨⟨hw, ?_, ?_, fun h => ha (by omega)⟩, hopc, ?_, ?_⟩
  · unfold goodO
    omega
  · rw [hopc]
    have hs := wf_slk hw
    have : slk (c :: l) + 1 ≤ slk l := by
      rcases ht with rfl | ⟨o, l', rfl, hr⟩
      · simp only [slk]
        repeat' split
        all_goals omega
      · have hg := hw.2.1
        unfold goodO at hg
        unfold rk at hr
        simp only [slk]
        repeat' split at hr
        all_goals (repeat' split)
        all_goals omega
    omega
  · simp only [inn]
    rw [if_neg (by omega)]
    rfl
  · simp only [pnd]
    rw [if_pos (by omega)]
theorem hc_behindOne {X0 : zC0} (H : ∀ j, j < 412 → CMj X0 j) {K : Nat → Nat} {B : Int} {L : List Nat} {f : Nat → va_E} (hh : hok X0.2.2.1 K B L f) {m tx p b : Nat} (hA : PA K L m tx p b) {T i0 : Nat} {l : List Int} (hS : PSf (gi (f m)) (gi (f tx)) (gi (f p)) (gi (f b)) T i0 l (nb l + 1) (tb l)) (hT : TI (gi (f m))) (h20 : gi (f m) 20 = 1) : HC X0 M_behindOne 8 0 modP [.ref m] K B L f (fun _ _ _ f' r => ∃ c : Int, r = some (.int (Int32.ofInt c)) ∧ 0 ≤ c ∧ c ≤ 1 ∧ (c = 0 → ∀ x, x ∈ L → gi (f' x) = gi (f x)) ∧ (c = 1 → SQ (gi (f' m)) (gi (f' tx)) (gi (f' p)) (gi (f' b)) T i0 (gi (f m) 8) ∧ ∀ j, j < T + 97 → gi (f' tx) j = gi (f tx) j)) := by
  refine eM.mk ⟨_, rfl⟩ pnX12 (Nat.le_of_ble_eq_true rfl) (fun E hE _ hret => ?_)
  have hwf : wf l := hS.2.2.2.2.2.2.1
  have hpl : gi (f m) 8 ≤ 301 := (hok_fld hh hA.1 (j := 8) (lo := 0) (hi := 301) rfl).2
  obtain ⟨l0, D0, cy0, ax0⟩ := X0
  have ret0 : ∀ (K1 : Nat → Nat) (B1 : Int) (L1 : List Nat) (f1 : Nat → va_E) (lv : List (Nat × Value)), hok cy0 K1 B1 L1 f1 → extC [] K B L f K1 B1 L1 f1 → eW E 0 0 L1 f1 125 lv [.int (Int32.ofInt 0)] := fun K1 B1 L1 f1 lv h1 e1 => hret 0 0 L1 f1 125 lv _ (Nat.le_refl _) (Nat.le_refl _) (by decide +kernel) (fun ft hft => by cases hft; rfl) ⟨K1, B1, h1, extC_mono e1 (by decide), 0, rfl, by decide, by decide, fun _ x hx => ext0 e1 hx, fun h => by cases h⟩
  have ret1 : ∀ (pc : Nat) (hpc : decode cX12_behindOne pc = .ok (.ireturn, 1)) (K1 : Nat → Nat) (B1 : Int) (L1 : List Nat) (f1 : Nat → va_E) (lv : List (Nat × Value)), hok cy0 K1 B1 L1 f1 → extC modP K B L f K1 B1 L1 f1 → SQ (gi (f1 m)) (gi (f1 tx)) (gi (f1 p)) (gi (f1 b)) T i0 (gi (f m) 8) → (∀ j, j < T + 97 → gi (f1 tx) j = gi (f tx) j) → eW E 0 0 L1 f1 pc lv [.int (Int32.ofInt 1)] := fun pc hpc K1 B1 L1 f1 lv h1 e1 x1 x2 => hret 0 0 L1 f1 pc lv _ (Nat.le_refl _) (Nat.le_refl _) hpc (fun ft hft => by cases hft; rfl) ⟨K1, B1, h1, e1, 1, rfl, by decide, by decide, fun h => (by cases h), fun _ => ⟨x1, x2⟩⟩
  refine s_bh0 H hE hh hA.1 (fun K1 B1 L1 f1 h1 e1 hm1 => ?_)
  have hA1 := hA.ext e1
  have g1 : ∀ x, x ∈ L → gi (f1 x) = gi (f x) := fun x hx => ext0 e1 hx
  refine w_callV hE (hc_betweenOf H h1 hA1.1 hA1.2.2.1 (l := l) hwf (by rw [g1 m hA.1.1]; exact hS.2.2.1) (by rw [g1 p hA.2.2.1.1]; exact hS.2.2.2.1)) lX12_ok le_250 mt_betweenOf h1 hA1.1.1 hA1.1.2 (by decide) (by decide) (by decide) rfl rfl (by decide) (by decide +kernel) (fun r L2 f2 _ hp2 => ?_)
  obtain ⟨K2, B2, h2, e2, c, rfl, hc⟩ := hp2
  dsimp only at h2 e2
  rw [g1 m hA.1.1] at hc
  have hA2 := hA1.ext e2
  have e02 := extC_tr e1 e2
  have g2 : ∀ x, x ∈ L → gi (f2 x) = gi (f x) := fun x hx => ext0 e02 hx
  refine s_bh4 H hE h2 (v0 := c) (by omega) hA2.1 (fun K3 B3 L3 f3 h3 e3 bc hm3 => ?_) (fun K3 B3 L3 f3 h3 e3 bc hm3 => ?_)
  · -- something stands between
    have e03 := extC_tr e02 e3
    have hA3 := hA2.ext e3
    have g3 : ∀ x, x ∈ L → gi (f3 x) = gi (f x) := fun x hx => ext0 e03 hx
    have hc1 : gi (f m) 9 ≠ 0 ∧ ((3 ≤ c ∧ c ≤ 6) ∨ (10 ≤ c ∧ c ≤ 15 ∧ onl l = 42 ∧ cmd l = false) ∨ (21 ≤ c ∧ c ≤ 22 ∧ onl l = 42 ∧ cmd l = true)) := by
      rcases hc with h | h
      · omega
      · exact h
    obtain ⟨h9, hc2⟩ := hc1
    have hgo : goodO c := by unfold goodO; omega
    have hrk : (3 ≤ c ∧ c ≤ 6 → 5 ≤ rk c ∧ rk c ≤ 6) ∧ (10 ≤ c ∧ c ≤ 15 → rk c = 4) ∧ (21 ≤ c ∧ c ≤ 22 → 1 ≤ rk c ∧ rk c ≤ 2) := by
      unfold rk
      refine ⟨fun h => ?_, fun h => ?_, fun h => ?_⟩
      all_goals (repeat' split)
      all_goals omega
    obtain ⟨m1, m2⟩ := md_onl hwf
    have hle : 1 ≤ rk c ∧ rk c ≤ 7 := ⟨by omega, rk_bd.2⟩
    have hv1 : false = false → md l = 1 → 4 ≤ rk c := fun _ hm => by
      rcases hc2 with h | h | h
      · have := hrk.1 h
        omega
      · have := hrk.2.1 ⟨h.1, h.2.1⟩
        omega
      · rcases m1 h.2.2.1 with ⟨-, x⟩ | ⟨x, -⟩
        · rw [h.2.2.2] at x; cases x
        · omega
    refine w_callS hE (hc_rank H h3 hgo) lX12_ok le_203 mt_rank (by decide) rfl rfl (Nat.le_of_ble_eq_true rfl) (by decide +kernel) (fun r L4 f4 _ hp => ?_)
    obtain ⟨K4, B4, h4, e4, rfl⟩ := hp
    dsimp only at h4 e4
    have e04 := extC_tr e03 e4
    have hA4 := hA3.ext e4
    have g4 : ∀ x, x ∈ L → gi (f4 x) = gi (f x) := fun x hx => ext0 e04 hx
    refine w_callV hE (hc_settle H h4 hA4 (least := rk c) hle (T := T) (i0 := i0) (l := l) (v := false) hv1 (fun h => by cases h) (by rw [nn_f, tt_f, g4 m hA.1.1, g4 tx hA.2.1.1, g4 p hA.2.2.1.1, g4 b hA.2.2.2.1]; exact hS)) lX12_ok le_230 mt_settle h4 hA4.1.1 hA4.1.2 (by decide) (by decide) (by decide) rfl rfl (by decide) (by decide +kernel) (fun r L5 f5 ht5 hp5 => ?_)
    obtain ⟨K5, B5, h5, e5, y1, y2⟩ := hp5
    dsimp only at h5 e5 y1 y2
    have hr5 : r = none := ht5
    subst hr5
    obtain ⟨z1, z2, z3, z4, z5, z6, z7, z8⟩ := stl_ok (rk c) l false hwf hle.1 hv1 (fun h => by cases h)
    generalize hl1 : (stl (rk c) l false).1 = l1 at *
    generalize hv2 : (stl (rk c) l false).2 = v1 at *
    have hA5 := hA4.ext e5
    have gm5 : ∀ i, (200, i) ∉ modS → gi (f5 m) i = gi (f m) i := fun i hi => by rw [xg e5 hA4.1 hi, g4 m hA.1.1]
    have hcc : (3 ≤ c ∧ c ≤ 6) ∨ (10 ≤ c ∧ c ≤ 15) ∨ (21 ≤ c ∧ c ≤ 22) := by omega
    have hah : 10 ≤ c → ahd l1 := fun h10 => by
      rcases hc2 with h | h | h
      · omega
      · -- compared
        have hmd : md l = 1 := by
          rcases m1 h.2.2.1 with ⟨x, -⟩ | ⟨-, x⟩
          · exact x
          · rw [h.2.2.2] at x; cases x
        have hmd1 := (z6 rfl (by omega)).2
        rw [hmd] at hmd1
        have hr4 := hrk.2.1 ⟨h.1, h.2.1⟩
        rcases z4 with hn | ⟨o, l', hn, hr⟩
        · rw [hn] at hmd1
          simp [md] at hmd1
        · rw [hn] at hmd1 z1 ⊢
          have hg := z1.2.1
          unfold goodO at hg
          rw [hr4] at hr
          show o = 20 ∨ o = 21 ∨ o = 22 ∨ o = 42
          have : ¬ (o = 40 ∨ o = 41) := fun h => by
            simp only [md] at hmd1
            rw [if_neg (by omega), if_neg (by omega), if_pos h] at hmd1
            cases hmd1
          unfold rk at hr
          repeat' split at hr
          all_goals omega
      · refine z3 (z7 rfl ?_ ?_)
        · rcases m1 h.2.2.1 with ⟨-, x⟩ | ⟨x, -⟩
          · rw [h.2.2.2] at x; cases x
          · exact x
        · have := hrk.2.2 ⟨h.1, h.2.1⟩
          omega
    have hnt : nb (c :: l1) = nn l1 v1 ∧ tb (c :: l1) = tt l1 v1 := by
      rcases hc2 with h | h | h
      · have hr := hrk.1 h
        have hvf := (z5 rfl hr.1).1
        rw [hvf, nn_f, tt_f]
        refine ⟨?_, ?_⟩
        · simp only [nb]; rw [if_pos (by omega)]
        · simp only [tb]; rw [if_neg (by omega)]; rfl
      · have hmd : md l = 1 := by
          rcases m1 h.2.2.1 with ⟨x, -⟩ | ⟨-, x⟩
          · exact x
          · rw [h.2.2.2] at x; cases x
        have hvf := (z6 rfl (by omega)).1
        rw [hvf, nn_f, tt_f]
        refine ⟨?_, ?_⟩
        · simp only [nb]; rw [if_pos (by omega)]
        · simp only [tb]; rw [if_neg (by omega)]; rfl
      · have hvt : v1 = true := by
          refine z7 rfl ?_ ?_
          · rcases m1 h.2.2.1 with ⟨-, x⟩ | ⟨x, -⟩
            · rw [h.2.2.2] at x; cases x
            · exact x
          · have := hrk.2.2 ⟨h.1, h.2.1⟩
            omega
        rw [hvt, nn_t, tt_t]
        refine ⟨?_, ?_⟩
        · simp only [nb]; rw [if_neg (by omega)]; rfl
        · simp only [tb]; rw [if_pos (by omega)]
    obtain ⟨pw, po, pi, pp⟩ := push_wf z1 hcc z4 hah
    obtain ⟨s1, s2, s3, s4, s5, s6, s7, s8, ⟨w, s9, s10, s11, s12⟩, s13, s14, s15⟩ := id y1
    have hlen := wf_len z1
    have bc' : 3 ≤ c ∧ c ≤ 22 := by omega
    refine s_bh17 H hE h5 bc' hA5.1 (fun K6 B6 L6 f6 v6 r6 h6 e6 _ b6 hm6 hr6 c6 => ?_)
    have hA6 := hA5.ext e6
    obtain rfl := sol h6 hr6 hA6.2.2.1 (by decide)
    have g6 : ∀ x, x ∈ L5 → gi (f6 x) = gi (f5 x) := fun x hx => ext0 e6 hx
    have q6 : v6 = l1.length := by rw [← c6 m hm6.1 hm6.2, g6 m hA5.1.1, s3]
    subst q6
    refine w_ist hE h6 hr6.1 hr6.2 (by decide) (by decide) (by omega) (by show (l1.length : Int) < 160; omega) (by omega) (by rw [kbd205]; exact ⟨(by show (-2147483648 : Int) ≤ c; omega), (by show c ≤ (2147483647 : Int); omega), fun h => by cases h⟩) (by decide +kernel) (fun f7 a1 a2 a3 a4 a5 => ?_)
    have h7 := a4 (XP_oth h6 hr6.2 a1 (fun i hi => by cases hi))
    have gm7 : f7 m = f6 m := a1 m (fun e => by rw [e, hr6.2] at hm6; exact absurd hm6.2 (by decide))
    have gt7 : f7 tx = f6 tx := a1 tx (fun e => by have := hA6.2.1.2; rw [e, hr6.2] at this; exact absurd this (by decide))
    have gb7 : f7 b = f6 b := a1 b (fun e => by have := hA6.2.2.2.2; rw [e, hr6.2] at this; exact absurd this (by decide))
    have hA7 : PA K6 L6 m tx r6 b := hA6
    have gP7 : plist (gi (f7 r6)) (c :: l1).length = c :: l1 := by
      show plist (gi (f7 r6)) (l1.length + 1) = c :: l1
      simp only [plist]
      rw [a2, if_pos (by omega), plist_cong l1.length (P := gi (f5 r6)) (fun i hi => by rw [a2, if_neg (by omega), g6 r6 hA5.2.2.1.1]), s4]
    refine s_bh27 H hE h7 (v1 := (l1.length : Int)) bc' (by omega) hA7.1 (fun x hx hkx => by rw [sol h7 ⟨hx, hkx⟩ hA7.1 (by decide), gm7, g6 m hA5.1.1, s3]) (fun K8 B8 L8 f8 h8 e8 _ _ hm8 c8 c9 => ?_)
    have hA8 := hA7.ext e8
    have d20 := c8 m hm8.1 hm8.2
    have d17 := c9 m hm8.1 hm8.2
    have gm8 : ∀ i, i ≠ 17 → i ≠ 20 → gi (f8 m) i = gi (f5 m) i := fun i hi hj => by rw [xg e8 hA7.1 (by simp; exact ⟨hi, hj⟩), gm7, g6 m hA5.1.1]
    have gt8 : gi (f8 tx) = gi (f5 tx) := by rw [xa e8 hA7.2.1 reg203 (by decide), gt7, g6 tx hA5.2.1.1]
    have gp8 : gi (f8 r6) = gi (f7 r6) := xa e8 hA7.2.2.1 reg205 (by decide)
    have gb8 : gi (f8 b) = gi (f5 b) := by rw [xa e8 hA7.2.2.2 reg206 (by decide), gb7, g6 b hA5.2.2.2.1]
    refine w_next H hE h8 hm8 (by decide) (by decide) (by decide +kernel) (fun K9 B9 L9 f9 h9' e9 n1 n2 => ?_)
    have hA9 := hA8.ext e9
    have hat : gi (f m) 8 + 1 ≤ gi (f9 m) 8 := by
      have := hT h9
      rw [gm8 7 (by decide) (by decide), gm5 7 (by decide)] at n1
      omega
    refine s_bh46 H hE h9' bc' hA9.1 (fun K10 B10 L10 f10 h10 e10 _ hm10 => ?_)
    have g10 : ∀ x, x ∈ L9 → gi (f10 x) = gi (f9 x) := fun x hx => ext0 e10 hx
    have gx : ∀ x k, x ∈ L8 ∧ K8 x = k → k ≠ 200 → gi (f10 x) = gi (f8 x) := fun x k hx hk => by
      have hx9 := exin e9 hx
      rw [g10 x hx9.1, ext1 e9 hx (fun i hi => hk (by simp at hi; omega))]
    have gm : ∀ i, (200, i) ∉ modN → gi (f10 m) i = gi (f8 m) i := fun i hi => by rw [g10 m hA9.1.1, xg e9 hm8 hi]
    have g109 : gi (f10 m) = gi (f9 m) := g10 m hA9.1.1
    refine ret1 47 (by decide +kernel) K10 B10 L10 f10 _ h10 (extC_tr (extC_mono e04 (by decide)) (extC_tr (extC_mono e5 (by decide)) (extC_tr (extC_mono e6 (by decide)) (extC_tr (extC_mono a5 (fun q hq => by rw [List.mem_singleton.mp hq, reg205]; decide)) (extC_tr (extC_mono e8 (by decide)) (extC_tr (extC_mono e9 (by decide)) (extC_mono e10 (by decide)))))))) ⟨⟨c :: l1, ?_⟩, ?_, ?_⟩ (fun j hj => ?_)
    · rw [gm 20 (by decide), d20, gx tx 203 hA8.2.1 (by decide), gx r6 205 hA8.2.2.1 (by decide), gx b 206 hA8.2.2.2 (by decide), gt8, gp8, gb8, hnt.1, hnt.2]
      have hm8' : gi (f5 m) 8 = gi (f m) 8 := gm5 8 (by decide)
      refine ⟨by rw [gm 12 (by decide), gm8 12 (by decide) (by decide), s1], s2, by rw [gm 17 (by decide), d17]; simp; omega, gP7, by rw [gm 18 (by decide), gm8 18 (by decide) (by decide), s5, po], by rw [gm 19 (by decide), gm8 19 (by decide) (by decide), s6, pi], pw, by omega, ⟨w, by rw [gm 13 (by decide), gm8 13 (by decide) (by decide), s9], s10, by rw [g109]; omega, ?_⟩, fun k hk => by rw [gm 13 (by decide), gm8 13 (by decide) (by decide)]; exact s13 k (by rw [← pi]; exact hk), fun k k' hk hk' => s14 k k' hk (by rw [← pi]; exact hk'), s15⟩
      exact Gd_cg s12 (fun en => by simp only [frs]; rw [if_neg (by omega)]) pi (fun _ _ => rfl) (fun _ _ => rfl)
    · rw [g109]; exact n2
    · rw [g109]; exact hat
    · rw [gx tx 203 hA8.2.1 (by decide), gt8, y2 j hj, g4 tx hA.2.1.1]
  · -- nothing
    have e03 := extC_tr e02 e3
    have hA3 := hA2.ext e3
    have g3 : ∀ x, x ∈ L → gi (f3 x) = gi (f x) := fun x hx => ext0 e03 hx
    obtain rfl : c = -1 := by omega
    refine w_callV hE (hc_openNow H h3 hA3.1 hA3.2.2.1 (l := l) (by rw [g3 m hA.1.1]; exact hS.2.2.1) (by rw [g3 p hA.2.2.1.1]; exact hS.2.2.2.1)) lX12_ok le_213 mt_openNow h3 hA3.1.1 hA3.1.2 (by decide) (by decide) (by decide) rfl rfl (by decide) (by decide +kernel) (fun r L4 f4 _ hp => ?_)
    obtain ⟨K4, B4, h4, e4, rfl⟩ := hp
    dsimp only at h4 e4
    have e04 := extC_tr e03 e4
    have hA4 := hA3.ext e4
    -- it is shut
    have sht : ∀ (o : Int) (K5 : Nat → Nat) (B5 : Int) (L5 : List Nat) (f5 : Nat → va_E), onl l = o → (40 ≤ o ∧ o ≤ 42) → (o = 42 → cmd l = true) → gi (f m) 9 ≠ 0 → hok cy0 K5 B5 L5 f5 → extC [] K B L f K5 B5 L5 f5 → eW E 0 0 L5 f5 121 [(0, .ref m), (1, .int (Int32.ofInt (-1))), (2, .int (Int32.ofInt o)), (3, .int (Int32.ofInt 1))] [.int (Int32.ofInt o), .ref m] := fun o K5 B5 L5 f5 ho1 ho2 ho3 h9 h5 e5 => by
      have hA5 := hA.ext e5
      have g5 : ∀ x, x ∈ L → gi (f5 x) = gi (f x) := fun x hx => ext0 e5 hx
      refine w_callV hE (hc_shut H h5 hA5 ho1 ho2 ho3 (T := T) (i0 := i0) (by rw [g5 m hA.1.1, g5 tx hA.2.1.1, g5 p hA.2.2.1.1, g5 b hA.2.2.2.1]; exact hS) (by rw [g5 m hA.1.1]; exact hT) (by rw [g5 m hA.1.1]; exact h9)) lX12_ok le_253 mt_shut h5 hA5.1.1 hA5.1.2 (by decide) (by decide) (by decide) rfl rfl (by decide) (by decide +kernel) (fun r L6 f6 ht6 hp6 => ?_)
      obtain ⟨K6, B6, h6, e6, ⟨l', x1⟩, x2, x3, x4, x5⟩ := hp6
      dsimp only at h6 e6 x1 x2 x3 x4 x5
      have hr6 : r = none := ht6
      subst hr6
      have hA6 := hA5.ext e6
      refine s_bh124 H hE h6 (v0 := o) (by omega) hA6.1 (fun K7 B7 L7 f7 h7 e7 _ hm7 => ?_)
      have g7 : ∀ x, x ∈ L6 → gi (f7 x) = gi (f6 x) := fun x hx => ext0 e7 hx
      rw [g5 m hA.1.1] at x3 x4
      refine ret1 125 (by decide +kernel) K7 B7 L7 f7 _ h7 (extC_tr (extC_mono e5 (by decide)) (extC_tr e6 (extC_mono e7 (by decide)))) ⟨⟨l', ?_⟩, ?_, ?_⟩ (fun j hj => ?_)
      · rw [g7 m hA6.1.1, g7 tx hA6.2.1.1, g7 p hA6.2.2.1.1, g7 b hA6.2.2.2.1, x4, h20]
        exact x1
      · rw [g7 m hA6.1.1]; exact x2
      · rw [g7 m hA6.1.1]; exact x3
      · rw [g7 tx hA6.2.1.1, x5 j hj, g5 tx hA.2.1.1]
    have nz : ∀ (K5 : Nat → Nat) (B5 : Int) (L5 : List Nat) (f5 : Nat → va_E) (v : Int), extC [] K4 B4 L4 f4 K5 B5 L5 f5 → (∀ b ∈ L5, K5 b = 200 → gi (f5 b) 9 = v) → gi (f m) 9 = v := fun K5 B5 L5 f5 v e5 hq => by
      have hm5 := exin (extC_tr e04 e5) hA.1
      rw [← hq m hm5.1 hm5.2, ext0 (extC_tr e04 e5) hA.1.1]
    have no : ∀ (o : Int) (ho : -2147483648 ≤ o ∧ o ≤ 2147483647) (K5 : Nat → Nat) (B5 : Int) (L5 : List Nat) (f5 : Nat → va_E), hok cy0 K5 B5 L5 f5 → extC [] K4 B4 L4 f4 K5 B5 L5 f5 → eW E 0 0 L5 f5 113 [(0, .ref m), (1, .int (Int32.ofInt (-1))), (2, .int (Int32.ofInt o))] [] := fun o ho K5 B5 L5 f5 h5 e5 => s_bh113 H hE h5 ho (hA4.ext e5).1 (fun K6 B6 L6 f6 h6 e6 _ _ => ret0 K6 B6 L6 f6 _ h6 (extC_tr e04 (extC_tr e5 e6)))
    rcases onl_cases hwf with ho | ho | ho | ho
    · rw [ho]
      exact s_bh52a H hE h4 hA4.1 (fun K5 B5 L5 f5 h5 e5 hm5 => no (-1) (by decide) K5 B5 L5 f5 h5 e5)
    · rw [ho]
      refine s_bh52b H hE h4 hA4.1 (fun K5 B5 L5 f5 v h5 e5 bv hm5 cv => ?_) (fun K5 B5 L5 f5 v h5 e5 bv hm5 cv => ?_)
      · have := nz K5 B5 L5 f5 v e5 cv
        exact s_bh68 H hE h5 (by decide) hm5 (fun K6 B6 L6 f6 h6 e6 _ hm6 => sht 40 K6 B6 L6 f6 ho (by decide) (fun h => by cases h) (by omega) h6 (extC_tr e04 (extC_tr e5 e6)))
      · exact s_bh72 H hE h5 (by decide) hm5 (fun K6 B6 L6 f6 h6 e6 _ hm6 => ret0 K6 B6 L6 f6 _ h6 (extC_tr e04 (extC_tr e5 e6)))
    · rw [ho]
      refine s_bh52c H hE h4 hA4.1 (fun K5 B5 L5 f5 v h5 e5 bv hm5 cv => ?_) (fun K5 B5 L5 f5 h5 e5 hm5 => no 41 (by decide) K5 B5 L5 f5 h5 e5)
      have := nz K5 B5 L5 f5 v e5 cv
      exact s_bh109 H hE h5 (by decide) hm5 (fun K6 B6 L6 f6 h6 e6 _ hm6 => sht 41 K6 B6 L6 f6 ho (by decide) (fun h => by cases h) (by omega) h6 (extC_tr e04 (extC_tr e5 e6)))
    · rw [ho]
      refine s_bh52d H hE h4 hA4.1 (fun K5 B5 L5 f5 v h5 e5 bv hm5 cv => ?_) (fun K5 B5 L5 f5 h5 e5 hm5 => no 42 (by decide) K5 B5 L5 f5 h5 e5)
      have h9v := nz K5 B5 L5 f5 v e5 cv
      have hA5 := hA4.ext e5
      have e05 := extC_tr e04 e5
      have g5 : ∀ x, x ∈ L → gi (f5 x) = gi (f x) := fun x hx => ext0 e05 hx
      refine w_callV hE (hc_isCompared H h5 hA5.1 hA5.2.2.1 (l := l) hwf (by rw [g5 m hA.1.1]; exact hS.2.2.1) (by rw [g5 p hA.2.2.1.1]; exact hS.2.2.2.1)) lX12_ok le_244 mt_isCompared h5 hA5.1.1 hA5.1.2 (by decide) (by decide) (by decide) rfl rfl (by decide) (by decide +kernel) (fun r L6 f6 _ hp => ?_)
      obtain ⟨K6, B6, h6, e6, rfl⟩ := hp
      dsimp only at h6 e6
      refine s_bh106 H hE h6 (v0 := 42) (by decide) (by split <;> decide) (hA5.ext e6).1 (fun K7 B7 L7 f7 h7 e7 _ hq hm7 => ?_) (fun K7 B7 L7 f7 h7 e7 _ _ hm7 => no 42 (by decide) K7 B7 L7 f7 h7 (extC_tr e5 (extC_tr e6 e7)))
      have hct : cmd l = true := by
        cases hcm : cmd l with
        | true => rfl
        | false => rw [hcm] at hq; simp at hq
      exact s_bh109 H hE h7 (by decide) hm7 (fun K8 B8 L8 f8 h8 e8 _ hm8 => sht 42 K8 B8 L8 f8 ho (by decide) (fun _ => hct) (by omega) h8 (extC_tr e05 (extC_tr e6 (extC_tr e7 e8))))
