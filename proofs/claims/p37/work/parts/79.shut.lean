/-! shut. -/
theorem rk_0 {o : Int} (h : rk o < 1) : 40 ≤ o := by
  unfold rk at h
  repeat' split at h
  all_goals omega
theorem hc_shut {X0 : zC0} (H : ∀ j, j < 412 → CMj X0 j) {K : Nat → Nat} {B : Int} {L : List Nat} {f : Nat → va_E} (hh : hok X0.2.2.1 K B L f) {m tx p b : Nat} (hA : PA K L m tx p b) {T i0 : Nat} {l : List Int} {o : Int} (hon : onl l = o) (ho : 40 ≤ o ∧ o ≤ 42) (hcm : o = 42 → cmd l = true) (hS : PSf (gi (f m)) (gi (f tx)) (gi (f p)) (gi (f b)) T i0 l (nb l + 1) (tb l)) (hT : TI (gi (f m))) (h9 : gi (f m) 9 ≠ 0) : HC X0 M_shut 6 3 modP [.ref m, .int (Int32.ofInt o)] K B L f (fun _ _ _ f' _ => (∃ l', PSf (gi (f' m)) (gi (f' tx)) (gi (f' p)) (gi (f' b)) T i0 l' (nb l' + 1) (tb l')) ∧ TI (gi (f' m)) ∧ gi (f m) 8 + 1 ≤ gi (f' m) 8 ∧ gi (f' m) 20 = gi (f m) 20 ∧ ∀ j, j < T + 97 → gi (f' tx) j = gi (f tx) j) := by
  refine eM.mk rfl pnX12 (Nat.le_of_ble_eq_true rfl) (fun E hE _ hret => ?_)
  have hwf : wf l := hS.2.2.2.2.2.2.1
  have hpl : gi (f m) 8 ≤ 301 := (hok_fld hh hA.1 (j := 8) (lo := 0) (hi := 301) rfl).2
  have hmd : (o = 42 → md l = 2) ∧ (o ≠ 42 → md l = 0) := by
    obtain ⟨m1, m2⟩ := md_onl hwf
    refine ⟨fun h => ?_, fun h => m2 (by omega)⟩
    rcases m1 (by omega) with ⟨-, hc⟩ | ⟨h2, -⟩
    · rw [hcm h] at hc
      cases hc
    · exact h2
  obtain ⟨l0, D0, cy0, ax0⟩ := X0
  refine s_sh0 H hE hh ho hA.1 (fun K1 B1 L1 f1 h1 e1 _ hm1 => ?_)
  have hA1 := hA.ext e1
  have g1 : ∀ x, x ∈ L → gi (f1 x) = gi (f x) := fun x hx => ext0 e1 hx
  have hv1 : false = false → md l = 1 → (4 : Int) ≤ 1 := fun _ h => by
    by_cases h42 : o = 42
    · have := hmd.1 h42
      omega
    · have := hmd.2 h42
      omega
  refine w_callV hE (hc_settle H h1 hA1 (least := 1) (by decide) (T := T) (i0 := i0) (l := l) (v := false) hv1 (fun h => by cases h) (by rw [nn_f, tt_f, g1 m hA.1.1, g1 tx hA.2.1.1, g1 p hA.2.2.1.1, g1 b hA.2.2.2.1]; exact hS)) lX12_ok le_230 mt_settle h1 hA1.1.1 hA1.1.2 (by decide) (by decide) (by decide) rfl rfl (by decide) (by decide +kernel) (fun r L2 f2 ht2 hp2 => ?_)
  obtain ⟨K2, B2, h2, e2, y1, y2⟩ := hp2
  dsimp only at h2 e2 y1 y2
  have hr2 : r = none := ht2
  subst hr2
  have hA2 := hA1.ext e2
  have gm2 : ∀ i, (200, i) ∉ modS → gi (f2 m) i = gi (f m) i := fun i hi => by rw [xg e2 hA1.1 hi, g1 m hA.1.1]
  have gt2 : ∀ j, j < T + 97 → gi (f2 tx) j = gi (f tx) j := fun j hj => by rw [y2 j hj, g1 tx hA.2.1.1]
  obtain ⟨z1, z2, z3, z4, z5, z6, z7, z8⟩ := stl_ok 1 l false hwf (by decide) hv1 (fun h => by cases h)
  rw [hon] at z2
  obtain ⟨l', hl'⟩ : ∃ l', (stl 1 l false).1 = o :: l' := by
    rcases z4 with h | ⟨o', l', h, hr⟩
    · rw [h] at z2
      simp [onl] at z2
      omega
    · have := rk_0 hr
      rw [h] at z2
      simp only [onl] at z2
      rw [if_pos this] at z2
      exact ⟨l', by rw [h, z2]⟩
  have hv : (o = 42 → (stl 1 l false).2 = true) ∧ (o ≠ 42 → (stl 1 l false).2 = false) := ⟨fun h => z7 rfl (hmd.1 h) (by decide), fun h => (z6 rfl (by rw [hmd.2 h]; decide)).1⟩
  rw [hl'] at y1 z1
  have hopc : opc (o :: l') = opc l' + 1 := by simp only [opc]; rw [if_pos (by omega)]
  have hnb : nb (o :: l') = nb l' := by simp only [nb]; rw [if_neg (by omega)]; rfl
  have htb : tb (o :: l') = tb l' := by simp only [tb]; rw [if_neg (by omega)]; rfl
  have hpnd : pnd (o :: l') = pnd l' := by simp only [pnd]; rw [if_neg (by omega)]; rfl
  obtain ⟨s1, s2, s3, s4, s5, s6, s7, s8, ⟨w, s9, s10, s11, s12⟩, s13, s14, s15⟩ := id y1
  have q4 := pl_cons s4
  have h160 := (hok_fld h2 hA2.1 (j := 17) (lo := 0) (hi := 160) rfl).2
  have hlen : (o :: l').length = l'.length + 1 := rfl
  -- the end
  have tail : ∀ (K3 : Nat → Nat) (B3 : Int) (L3 : List Nat) (f3 : Nat → va_E), hok cy0 K3 B3 L3 f3 → extC modP K B L f K3 B3 L3 f3 → (∀ M' : Nat → Int, M' 12 = gi (f3 m) 12 → M' 13 = gi (f3 m) 13 → M' 17 = gi (f3 m) 17 → M' 18 = gi (f3 m) 18 → M' 19 = gi (f3 m) 19 → gi (f m) 8 + 1 ≤ M' 8 → PSf M' (gi (f3 tx)) (gi (f3 p)) (gi (f3 b)) T i0 l' (nb l' + 1) (tb l')) → gi (f3 m) 7 = gi (f m) 7 → gi (f3 m) 20 = gi (f m) 20 → (∀ j, j < T + 97 → gi (f3 tx) j = gi (f tx) j) → eW E 0 0 L3 f3 97 [(0, .ref m), (1, .int (Int32.ofInt o))] [] := fun K3 B3 L3 f3 h3 e3 hP h7 h20 hg => by
    have hA3 := hA.ext e3
    refine s_sh97 H hE h3 ho hA3.1 (fun K4 B4 L4 f4 h4 e4 _ hm4 => ?_)
    have g4 : ∀ x, x ∈ L3 → gi (f4 x) = gi (f3 x) := fun x hx => ext0 e4 hx
    have hA4 := hA3.ext e4
    refine w_next H hE h4 hm4 (by decide) (by decide) (by decide +kernel) (fun K5 B5 L5 f5 h5 e5 n1 n2 => ?_)
    have hA5 := hA4.ext e5
    have hat : gi (f m) 8 + 1 ≤ gi (f5 m) 8 := by
      have := hT h9
      rw [g4 m hA3.1.1, h7] at n1
      omega
    refine s_sh101 H hE h5 ho hA5.1 (fun K6 B6 L6 f6 h6 e6 _ hm6 => ?_)
    have g6 : ∀ x, x ∈ L5 → gi (f6 x) = gi (f5 x) := fun x hx => ext0 e6 hx
    have hA6 := hA5.ext e6
    have gx : ∀ x k, x ∈ L3 ∧ K3 x = k → k ≠ 200 → gi (f6 x) = gi (f3 x) := fun x k hx hk => by
      have hx4 := exin e4 hx
      have hx5 := exin e5 hx4
      rw [g6 x hx5.1, ext1 e5 hx4 (fun i hi => hk (by simp at hi; omega)), g4 x hx.1]
    have gm : ∀ i, (200, i) ∉ modN → gi (f6 m) i = gi (f3 m) i := fun i hi => by rw [g6 m hA5.1.1, xg e5 hm4 hi, g4 m hA3.1.1]
    have g56 : gi (f6 m) = gi (f5 m) := g6 m hA5.1.1
    have hS6 : PSf (gi (f6 m)) (gi (f6 tx)) (gi (f6 p)) (gi (f6 b)) T i0 l' (nb l' + 1) (tb l') := by
      rw [gx tx 203 hA3.2.1 (by decide), gx p 205 hA3.2.2.1 (by decide), gx b 206 hA3.2.2.2 (by decide)]
      exact hP _ (gm 12 (by decide)) (gm 13 (by decide)) (gm 17 (by decide)) (gm 18 (by decide)) (gm 19 (by decide)) (by rw [g56]; exact hat)
    refine w_callV hE (hc_settle H h6 hA6 (least := 7) (by decide) (T := T) (i0 := i0) (l := l') (v := false) (fun _ _ => by decide) (fun h => by cases h) (by rw [nn_f, tt_f]; exact hS6)) lX12_ok le_230 mt_settle h6 hA6.1.1 hA6.1.2 (by decide) (by decide) (by decide) rfl rfl (by decide) (by decide +kernel) (fun r L7 f7 ht7 hp7 => ?_)
    obtain ⟨K7, B7, h7', e7, x1, x2⟩ := hp7
    have hr7 : r = none := ht7
    subst hr7
    obtain ⟨-, -, -, -, z5', -, -, -⟩ := stl_ok 7 l' false z1.1 (by decide) (fun _ _ => by decide) (fun h => by cases h)
    have z9 := (z5' rfl (by decide)).1
    rw [z9, nn_f, tt_f] at x1
    have gm7 : ∀ i, (200, i) ∉ modS → gi (f7 m) i = gi (f6 m) i := fun i hi => xg e7 hA6.1 hi
    refine hret 0 0 L7 f7 107 _ (Nat.le_refl _) (Nat.le_refl _) (by decide +kernel) ⟨K7, B7, h7', extC_tr e3 (extC_tr (extC_mono e4 (by decide)) (extC_tr (extC_mono e5 (by decide)) (extC_tr (extC_mono e6 (by decide)) (extC_mono e7 (by decide))))), ⟨_, x1⟩, ?_, ?_, ?_, fun j hj => ?_⟩
    · intro hn
      rw [gm7 9 (by decide), g56] at hn
      rw [gm7 8 (by decide), gm7 7 (by decide), g56]
      exact n2 hn
    · rw [gm7 8 (by decide), g56]
      exact hat
    · rw [gm7 20 (by decide), gm 20 (by decide), h20]
    · rw [x2 j hj, gx tx 203 hA3.2.1 (by decide)]
      exact hg j hj
  have e02 : extC modP K B L f K2 B2 L2 f2 := extC_tr (extC_mono e1 (by decide)) (extC_mono e2 (by decide))
  refine s_sh5 H hE h2 (v1 := (l'.length : Int) + 1) (v2 := (opc l' : Int) + 1) ho (by omega) (by omega) hA2.1 (fun x hx hkx => by rw [sol h2 ⟨hx, hkx⟩ hA2.1 (by decide), s3, hlen]; omega) (fun x hx hkx => by rw [sol h2 ⟨hx, hkx⟩ hA2.1 (by decide), s5, hopc]; omega) (fun K3 B3 L3 f3 h3 e3 b3 _ _ hm3 c1 c2 => ?_) (fun K3 B3 L3 f3 h3 e3 b3 _ _ hm3 c1 c2 => ?_)
  all_goals have hA3 := hA2.ext e3
  all_goals have e03 := extC_tr e02 (extC_mono e3 (by decide))
  all_goals have d18 := c1 m hm3.1 hm3.2
  all_goals have d17 := c2 m hm3.1 hm3.2
  all_goals have gm3 : ∀ i, i ≠ 17 → i ≠ 18 → gi (f3 m) i = gi (f2 m) i := fun i hi hj => xg e3 hA2.1 (by simp; exact ⟨hi, hj⟩)
  all_goals have gt3 : gi (f3 tx) = gi (f2 tx) := xa e3 hA2.2.1 reg203 (by decide)
  all_goals have gp3 : gi (f3 p) = gi (f2 p) := xa e3 hA2.2.2.1 reg205 (by decide)
  all_goals have gb3 : gi (f3 b) = gi (f2 b) := xa e3 hA2.2.2.2 reg206 (by decide)
  · -- a sum or a count
    have h41 : 41 ≤ o := by omega
    have hinn : inn (o :: l') = inn l' + 1 := by simp only [inn]; rw [if_pos (by omega)]
    have hio := inn_opc l'
    refine s_sh31 H hE h3 (v1 := (inn l' : Int) + 1) ho (by omega) hA3.1 (fun x hx hkx => by rw [sol h3 ⟨hx, hkx⟩ hA3.1 (by decide), gm3 19 (by decide) (by decide), s6, hinn]; omega) (fun K4 B4 L4 f4 v2 v3 v4 r4 h4 e4 _ _ b2 b3' b4 hm4 hr4 c4 c5 c6 c7 => ?_)
    have hA4 := hA3.ext e4
    obtain rfl := sol h4 hr4 hA4.2.1 (by decide)
    have gm4 : ∀ i, i ≠ 19 → gi (f4 m) i = gi (f3 m) i := fun i hi => xg e4 hA3.1 (by simp; exact hi)
    have d19 := c7 m hm4.1 hm4.2
    have gt4 : gi (f4 r4) = gi (f2 r4) := by rw [xa e4 hA3.2.1 reg203 (by decide), gt3]
    have gp4 : gi (f4 p) = gi (f2 p) := by rw [xa e4 hA3.2.2.1 reg205 (by decide), gp3]
    have gb4 : gi (f4 b) = gi (f2 b) := by rw [xa e4 hA3.2.2.2 reg206 (by decide), gb3]
    have q2 : v2 = w := by rw [← c4 m hm4.1 hm4.2, gm4 13 (by decide), gm3 13 (by decide) (by decide), s9]
    have q5 : v4 = T := by rw [← c6 m hm4.1 hm4.2, gm4 12 (by decide), gm3 12 (by decide) (by decide), s1]
    have hbi := s13 (inn l') (by omega)
    have q3 : v3 = gi (f2 b) (inn l') := by
      have := (c5 b hA4.2.2.2.1 hA4.2.2.2.2).2
      rw [gb4] at this
      have ei : (-1 + ((inn l' : Int) + 1)).toNat = inn l' := by omega
      rw [ei] at this
      exact this.symm
    obtain ⟨bk, hbk⟩ : ∃ bk : Nat, gi (f2 b) (inn l') = bk := ⟨(gi (f2 b) (inn l')).toNat, by omega⟩
    rw [hbk] at q3 hbi
    subst q2 q3 q5
    have hw13 : gi (f2 m) 13 = w := s9
    rw [hw13] at hbi
    have hm8 : gi (f2 m) 8 = gi (f m) 8 := gm2 8 (by decide)
    have hw301 : w ≤ 301 := by omega
    have hT2115 : T ≤ 2115 := by obtain ⟨s, hs, he⟩ := s2; omega
    have ei : (98 + (2 * (bk : Int) + (T : Int))).toNat = T + 97 + 2 * bk + 1 := by omega
    have hP := hok_Psi h4 hm4 hr4
    rw [gm4 12 (by decide), gm4 13 (by decide), gm3 12 (by decide) (by decide), gm3 13 (by decide) (by decide), s1, s9] at hP
    refine w_ist hE h4 hr4.1 hr4.2 (by decide) (by decide) (by omega) (by show 98 + (2 * (bk : Int) + T) < 2820; omega) (by omega) ?_ (by decide +kernel) (fun f5 a1 a2 a3 a4 a5 => ?_)
    · rw [ei, kbd203 (by obtain ⟨s, hs, he⟩ := s2; omega)]
      exact ⟨(by show (-2147483648 : Int) ≤ w; omega), (by show (w : Int) ≤ 2147483647; omega), fun h => by cases h⟩
    have gm5 : f5 m = f4 m := a1 m (fun e => by rw [e, hr4.2] at hm4; exact absurd hm4.2 (by decide))
    have gp5 : f5 p = f4 p := a1 p (fun e => by have := hA4.2.2.1.2; rw [e, hr4.2] at this; exact absurd this (by decide))
    have gb5 : f5 b = f4 b := a1 b (fun e => by have := hA4.2.2.2.2; rw [e, hr4.2] at this; exact absurd this (by decide))
    have hP5 : Psi (gi (f5 r4)) (gi (f4 m) 12) (gi (f4 m) 13) := by
      rw [gm4 12 (by decide), gm4 13 (by decide), gm3 12 (by decide) (by decide), gm3 13 (by decide) (by decide), s1, s9]
      refine Psi_wr hP s2 (Nat.le_refl w) (c := i0) (j := T + 97 + 2 * bk + 1) (fun k hk x1 x2 x3 => ?_) (by omega) (fun i hi => ?_)
      · rw [gt4] at x1 x2 x3 ⊢
        exact s15 k hk x1 x2 x3
      · rw [a2, if_neg (by rw [ei]; exact hi)]
    have h5 := a4 (XP_tx h4 hr4 a1 (fun m' hm' => by rw [sol h4 hm' hm4 (by decide)]; exact hP5))
    have hA5 : PA K4 L4 m r4 p b := hA4
    have gt5 : ∀ j, gi (f5 r4) j = if j = T + 97 + 2 * bk + 1 then (w : Int) else gi (f2 r4) j := fun j => by rw [a2, ei, gt4]
    have e05 : extC modP K B L f K4 B4 L4 f5 := extC_tr e03 (extC_tr (extC_mono e4 (by decide)) (extC_mono a5 (fun q hq => by rw [List.mem_singleton.mp hq, reg203]; decide)))
    -- its end is laid down
    have last : ∀ (o' : Int) (K6 : Nat → Nat) (B6 : Int) (L6 : List Nat) (f6 : Nat → va_E) (v1 v2 : Int), ((o' = 31 ∧ o = 41) ∨ (o' = 32 ∧ o = 42)) → hok cy0 K6 B6 L6 f6 → extC [] K4 B4 L4 f5 K6 B6 L6 f6 → (∀ b ∈ L6, K6 b = 206 → (0 : Int) ≤ v2 ∧ gi (f6 b) ((v2 : Int)).toNat = v1) → (∀ b ∈ L6, K6 b = 200 → gi (f6 b) 19 = v2) → eW E 0 0 L6 f6 94 [(0, .ref m), (1, .int (Int32.ofInt o))] [.int (Int32.ofInt v1), .int (Int32.ofInt o'), .ref m] := fun o' K6 B6 L6 f6 v1 v2 ho' h6 e6 c8 c9 => by
      have hA6 := hA5.ext e6
      have g6 : ∀ x, x ∈ L4 → gi (f6 x) = gi (f5 x) := fun x hx => ext0 e6 hx
      have gm6 : gi (f6 m) = gi (f4 m) := by rw [g6 m hA5.1.1, gm5]
      have r2 : v2 = inn l' := by
        rw [← c9 m hA6.1.1 hA6.1.2, gm6, d19]
        omega
      subst r2
      have r1 : v1 = bk := by
        have := (c8 b hA6.2.2.2.1 hA6.2.2.2.2).2
        rw [g6 b hA5.2.2.2.1, gb5, gb4, Int.toNat_natCast, hbk] at this
        exact this.symm
      subst r1
      refine w_callV hE (hc_emit H h6 hA6.1 hA6.2.1 (o := o') (v := (bk : Int)) (by omega) (by omega) (T := T) (w := w) (by rw [gm6, gm4 12 (by decide), gm3 12 (by decide) (by decide), s1]) s2 (by rw [gm6, gm4 13 (by decide), gm3 13 (by decide) (by decide), s9]) (by omega)) lX12_ok le_206 mt_emit h6 hA6.1.1 hA6.1.2 (by decide) (by decide) (by decide) rfl rfl (by decide) (by decide +kernel) (fun r L7 f7 ht7 hp7 => ?_)
      obtain ⟨K7, B7, h7, e7, x1, x2, x3, x4⟩ := hp7
      dsimp only at h7 e7 x1 x2 x3 x4
      have hr7 : r = none := ht7
      subst hr7
      have gm7 : ∀ i, i ≠ 13 → i ≠ 17 → i ≠ 18 → i ≠ 19 → gi (f7 m) i = gi (f2 m) i := fun i hi hj hk hq => by rw [xg e7 hA6.1 (by simp; exact hi), gm6, gm4 i hq, gm3 i hj hk]
      have gt7 : ∀ j, j ≠ T + 97 + 2 * w → j ≠ T + 97 + 2 * w + 1 → j ≠ T + 97 + 2 * bk + 1 → gi (f7 r4) j = gi (f2 r4) j := fun j h1 h2 h3 => by rw [x4 j h1 h2, g6 r4 hA5.2.1.1, gt5, if_neg h3]
      have gtb : gi (f7 r4) (T + 97 + 2 * bk + 1) = w := by rw [x4 _ (by omega) (by omega), g6 r4 hA5.2.1.1, gt5, if_pos rfl]
      have gp7 : gi (f7 p) = gi (f2 p) := by rw [xa e7 hA6.2.2.1 reg205 (by decide), g6 p hA5.2.2.1.1, gp5, gp4]
      have gb7 : gi (f7 b) = gi (f2 b) := by rw [xa e7 hA6.2.2.2 reg206 (by decide), g6 b hA5.2.2.2.1, gb5, gb4]
      have e07 : extC modP K B L f K7 B7 L7 f7 := extC_tr e05 (extC_tr (extC_mono e6 (by decide)) (extC_mono e7 (by decide)))
      refine tail K7 B7 L7 f7 h7 e07 (fun M' y12 y13 y17 y18 y19 y8 => ?_) (by rw [gm7 7 (by decide) (by decide) (by decide) (by decide), gm2 7 (by decide)]) (by rw [gm7 20 (by decide) (by decide) (by decide) (by decide), gm2 20 (by decide)]) (fun j hj => by rw [gt7 j (by omega) (by omega) (by omega), gt2 j hj])
      rw [gp7, gb7]
      have hn1 : ((o' = 31 ∧ nn (o :: l') (stl 1 l false).2 = nb l' + 1 ∧ tt (o :: l') (stl 1 l false).2 = tb l') ∨ (o' = 32 ∧ nn (o :: l') (stl 1 l false).2 = nb l' ∧ tt (o :: l') (stl 1 l false).2 = tb l' + 1)) := by
        rcases ho' with ⟨h1, h2⟩ | ⟨h1, h2⟩
        · refine Or.inl ⟨h1, ?_, ?_⟩
          · rw [hv.2 (by omega), nn_f, hnb]
          · rw [hv.2 (by omega), tt_f, htb]
        · refine Or.inr ⟨h1, ?_, ?_⟩
          · rw [hv.1 h2, nn_t, hnb]
          · rw [hv.1 h2, tt_t, htb]
      refine ⟨by rw [y12, gm7 12 (by decide) (by decide) (by decide) (by decide), s1], s2, ?_, q4.2, ?_, ?_, z1.1, by omega, ⟨w + 1, by rw [y13, x1], by omega, by omega, ?_⟩, fun k hk => ?_, fun k k' hk hk' => s14 k k' hk (by omega), fun k hk i1 i2 i3 => ?_⟩
      · rw [y17, xg e7 hA6.1 (by decide), gm6, gm4 17 (by decide), d17]
        omega
      · rw [y18, xg e7 hA6.1 (by decide), gm6, gm4 18 (by decide), d18]
        omega
      · rw [y19, xg e7 hA6.1 (by decide), gm6, d19]
        omega
      · refine Gd_shut s12 s10 h41 (fun k hk => ?_) (fun k hk => s14 k (inn l') hk (by omega)) (fun i hi => gt7 _ (by omega) (by omega) (by omega)) (fun i hi hne => gt7 _ (by omega) (by omega) (by rw [hbk] at hne; omega)) ?_ ?_ (by rw [x2]; exact hn1) rfl
        · have := s13 k (by omega)
          omega
        · rw [hbk, Int.toNat_natCast]
          exact gtb
        · rw [x3, hbk]
      · have := s13 k (by omega)
        rw [y13, x1]
        omega
      · rw [gt7 _ (by omega) (by omega) (by omega)] at i1 i2 i3
        rw [gt7 _ (by omega) (by omega) (by omega)]
        exact s15 k hk i1 i2 i3
    by_cases h42 : o = 42
    · subst h42
      exact s_sh71b H hE h5 hA5.1 (fun K6 B6 L6 f6 h6 e6 hm6 => s_sh83 H hE h6 (by decide) hm6 (fun K7 B7 L7 f7 v1 v2 h7 e7 _ _ _ _ c8 c9 => last 32 K7 B7 L7 f7 v1 v2 (Or.inr ⟨rfl, rfl⟩) h7 (extC_tr e6 e7) c8 c9))
    · obtain rfl : o = 41 := by omega
      exact s_sh71a H hE h5 hA5.1 (fun K6 B6 L6 f6 h6 e6 hm6 => s_sh78 H hE h6 (by decide) hm6 (fun K7 B7 L7 f7 v1 v2 h7 e7 _ _ _ _ c8 c9 => last 31 K7 B7 L7 f7 v1 v2 (Or.inl ⟨rfl, rfl⟩) h7 (extC_tr e6 e7) c8 c9))
  · -- it was but a parenthesis
    have h40 : o = 40 := by omega
    have hinn : inn (o :: l') = inn l' := by simp only [inn]; rw [if_neg (by omega)]; rfl
    refine tail K3 B3 L3 f3 h3 e03 (fun M' y12 y13 y17 y18 y19 y8 => ?_) (by rw [gm3 7 (by decide) (by decide), gm2 7 (by decide)]) (by rw [gm3 20 (by decide) (by decide), gm2 20 (by decide)]) (fun j hj => by rw [gt3, gt2 j hj])
    rw [gt3, gp3, gb3]
    have hm8 : gi (f2 m) 8 = gi (f m) 8 := gm2 8 (by decide)
    refine ⟨by rw [y12, gm3 12 (by decide) (by decide), s1], s2, by rw [y17, d17]; omega, q4.2, by rw [y18, d18]; omega, by rw [y19, gm3 19 (by decide) (by decide), s6, hinn], z1.1, by omega, ⟨w, by rw [y13, gm3 13 (by decide) (by decide), s9], s10, by omega, ?_⟩, fun k hk => by rw [y13, gm3 13 (by decide) (by decide)]; exact s13 k (by rw [hinn]; exact hk), fun k k' hk hk' => s14 k k' hk (by rw [hinn]; exact hk'), s15⟩
    rw [hv.2 (by omega), nn_f, tt_f, hnb, htb] at s12
    exact Gd_cg s12 (fun en => by simp only [frs]; rw [if_neg (by omega)]) hinn.symm (fun _ _ => rfl) (fun _ _ => rfl)
