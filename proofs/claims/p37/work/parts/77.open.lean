/-! What is opened. -/
theorem PSf.keep {M M' g P bg : Nat → Int} {T i0 : Nat} {l : List Int} {n t : Nat} (h : PSf M g P bg T i0 l n t) (h12 : M' 12 = M 12) (h13 : M' 13 = M 13) (h17 : M' 17 = M 17) (h18 : M' 18 = M 18) (h19 : M' 19 = M 19) (h8 : M 8 ≤ M' 8) : PSf M' g P bg T i0 l n t := by
  obtain ⟨s1, s2, s3, s4, s5, s6, s7, s8, ⟨w, s9, s10, s11, s12⟩, s13, s14, s15⟩ := h
  exact ⟨h12.trans s1, s2, h17.trans s3, s4, h18.trans s5, h19.trans s6, s7, s8, ⟨w, h13.trans s9, s10, by omega, s12⟩, fun k hk => by rw [h13]; exact s13 k hk, s14, s15⟩
theorem kbd205 (j : Nat) : kbd 205 j = (-2147483648, 2147483647, false) := rfl
theorem kbd206 (j : Nat) : kbd 206 j = (0, 304, false) := rfl
theorem Gd_cg {g g2 : Nat → Int} {T i0 w n t : Nat} {l l2 : List Int} {bg : Nat → Int} (h : Gd g T i0 w n t l bg) (hfr : ∀ en, frs bg en l2 = frs bg en l) (hin : inn l2 = inn l) (hO : ∀ i, i < w → oO g2 T i = oO g T i) (hV : ∀ i, i < w → vV g2 T i = vV g T i) : Gd g2 T i0 w n t l2 bg := by
  intro g' to en hw h1 h2 h3 h4
  refine h g' to en hw (fun i a b => (h1 i a b).trans (hO i b)) (fun i a b c => (h2 i a b (by rw [hin]; exact c)).trans (hV i b)) (by rw [hin] at h3; exact h3) ?_
  rw [hfr] at h4
  exact h4
theorem opn_wf {l : List Int} {o : Int} (ho : o = 2 ∨ o = 20 ∨ (40 ≤ o ∧ o ≤ 42)) (ha : o = 20 → ahd l) (hw : wf l) : wf (o :: l) ∧ opc (o :: l) = opc l + 1 ∧ nb (o :: l) = nb l ∧ tb (o :: l) = tb l := by
  have hl := wf_len hw
  refine ⟨⟨hw, ?_, ?_, fun h => ?_⟩, ?_, ?_, ?_⟩
  · unfold goodO
    omega
  · simp only [slk, opc]
    rw [if_pos (by omega), if_pos (by omega)]
    omega
  · exact ha (by omega)
  · simp only [opc]
    rw [if_pos (by omega)]
  · simp only [nb]
    rw [if_neg (by omega)]
    rfl
  · simp only [tb]
    rw [if_neg (by omega)]
    rfl
theorem hc_opened {X0 : zC0} (H : ∀ j, j < 412 → CMj X0 j) {K : Nat → Nat} {B : Int} {L : List Nat} {f : Nat → va_E} (hh : hok X0.2.2.1 K B L f) {m tx p b : Nat} (hA : PA K L m tx p b) {o : Int} (ho : o = 2 ∨ o = 20 ∨ (40 ≤ o ∧ o ≤ 42)) {T i0 : Nat} {l : List Int} (ha : o = 20 → ahd l) (hS : PSf (gi (f m)) (gi (f tx)) (gi (f p)) (gi (f b)) T i0 l (nb l) (tb l)) (hT : TI (gi (f m))) (h9 : gi (f m) 9 ≠ 0) : HC X0 M_opened 6 0 modP [.ref m, .int (Int32.ofInt o)] K B L f (fun _ _ _ f' r => ∃ c : Int, r = some (.int (Int32.ofInt c)) ∧ 0 ≤ c ∧ c ≤ 6 ∧ (c = 0 → PSf (gi (f' m)) (gi (f' tx)) (gi (f' p)) (gi (f' b)) T i0 (o :: l) (nb (o :: l)) (tb (o :: l)) ∧ TI (gi (f' m)) ∧ gi (f m) 8 + 1 ≤ gi (f' m) 8 ∧ gi (f' m) 20 = gi (f m) 20) ∧ ∀ j, j < T + 97 → gi (f' tx) j = gi (f tx) j) := by
  refine eM.mk ⟨_, rfl⟩ pnX12 (Nat.le_of_ble_eq_true rfl) (fun E hE _ hret => ?_)
  obtain ⟨s1, s2, s3, s4, s5, s6, s7, s8, ⟨w, s9, s10, s11, s12⟩, s13, s14, s15⟩ := id hS
  have hb0 : 2 ≤ o ∧ o ≤ 42 := by omega
  have hlen := wf_len s7
  have hinn := inn_opc l
  have hpl : gi (f m) 8 ≤ 301 := (hok_fld hh hA.1 (j := 8) (lo := 0) (hi := 301) rfl).2
  obtain ⟨l0, D0, cy0, ax0⟩ := X0
  by_cases h8 : opc l = 8
  · refine s_op0a H hE hh hb0 hA.1 (fun x hx hkx => by rw [sol hh ⟨hx, hkx⟩ hA.1 (by decide), s5, h8]; rfl) (fun K1 B1 L1 f1 h1 e1 _ _ _ => ?_)
    exact hret 0 0 L1 f1 10 _ _ (Nat.le_refl _) (Nat.le_refl _) (by decide +kernel) (fun ft hft => by cases hft; rfl) ⟨K1, B1, h1, extC_mono e1 (by decide), 3, rfl, by decide, by decide, fun h => (by cases h), fun j _ => by rw [ext0 e1 hA.2.1.1]⟩
  · obtain ⟨ow, oo, on1, ot⟩ := opn_wf ho ha s7
    refine s_op0b H hE hh (v1 := (opc l : Int)) hb0 (by omega) hA.1 (fun x hx hkx => by rw [sol hh ⟨hx, hkx⟩ hA.1 (by decide), s5]) (fun K1 B1 L1 f1 v2 r1 h1 e1 _ _ b2 hm1 hr1 c1 c2 => ?_)
    have hA1 := hA.ext e1
    obtain rfl := sol h1 hr1 hA1.2.2.1 (by decide)
    have q2 : v2 = l.length := by rw [← c1 m hm1.1 hm1.2, xg e1 hA.1 (by decide), s3]
    subst q2
    have d18 : gi (f1 m) 18 = 1 + (opc l : Int) := c2 m hm1.1 hm1.2
    refine w_ist hE h1 hr1.1 hr1.2 (by decide) (by decide) (by omega) (by show (l.length : Int) < 160; omega) (by omega) (by rw [kbd205]; exact ⟨(by show (-2147483648 : Int) ≤ o; omega), (by show o ≤ (2147483647 : Int); omega), fun h => by cases h⟩) (by decide +kernel) (fun f2 a1 a2 a3 a4 a5 => ?_)
    have h2 := a4 (XP_oth h1 hr1.2 a1 (fun i hi => by cases hi))
    have hA2 : PA K1 L1 m tx r1 b := hA1
    have gm2 : f2 m = f1 m := a1 m (fun e => by rw [e, hr1.2] at hm1; exact absurd hm1.2 (by decide))
    have gt2 : f2 tx = f1 tx := a1 tx (fun e => by have := hA1.2.1.2; rw [e, hr1.2] at this; exact absurd this (by decide))
    have gb2 : f2 b = f1 b := a1 b (fun e => by have := hA1.2.2.2.2; rw [e, hr1.2] at this; exact absurd this (by decide))
    have gP2 : plist (gi (f2 r1)) (o :: l).length = o :: l := by
      show plist (gi (f2 r1)) (l.length + 1) = o :: l
      simp only [plist]
      rw [a2, if_pos (by omega), plist_cong l.length (P := gi (f r1)) (fun i hi => by rw [a2, if_neg (by omega), xa e1 hA.2.2.1 reg205 (by decide)]), s4]
    -- the end, alike for both ways
    have fin : ∀ (K3 : Nat → Nat) (B3 : Int) (L3 : List Nat) (f3 : Nat → va_E), hok cy0 K3 B3 L3 f3 → extC modP K B L f K3 B3 L3 f3 → (∀ M' : Nat → Int, M' 12 = gi (f3 m) 12 → M' 13 = gi (f3 m) 13 → M' 17 = gi (f3 m) 17 → M' 18 = gi (f3 m) 18 → M' 19 = gi (f3 m) 19 → gi (f m) 8 + 1 ≤ M' 8 → PSf M' (gi (f3 tx)) (gi (f3 r1)) (gi (f3 b)) T i0 (o :: l) (nb (o :: l)) (tb (o :: l))) → gi (f3 m) 7 = gi (f m) 7 → gi (f3 m) 20 = gi (f m) 20 → (∀ j, j < T + 97 → gi (f3 tx) j = gi (f tx) j) → eW E 0 0 L3 f3 77 [(0, .ref m), (1, .int (Int32.ofInt o))] [] := fun K3 B3 L3 f3 h3 e3 hP h7 h20 hg => by
      have hA3 := hA.ext e3
      refine s_op77 H hE h3 hb0 hA3.1 (fun K4 B4 L4 f4 h4 e4 _ hm4 => ?_)
      have g4 : ∀ x, x ∈ L3 → gi (f4 x) = gi (f3 x) := fun x hx => ext0 e4 hx
      have e04 := extC_tr e3 (extC_mono e4 (by decide))
      have hA4 := hA3.ext e4
      refine w_next H hE h4 hm4 (by decide) (by decide +kernel) (by decide +kernel) (fun K5 B5 L5 f5 h5 e5 n1 n2 => ?_)
      have e05 := extC_tr e04 (extC_mono e5 (by decide))
      have hA5 := hA4.ext e5
      have hat : gi (f m) 8 + 1 ≤ gi (f5 m) 8 := by
        have := hT h9
        rw [g4 m hA3.1.1, h7] at n1
        omega
      have hpl5 : gi (f5 m) 8 ≤ 301 := (hok_fld h5 hA5.1 (j := 8) (lo := 0) (hi := 301) rfl).2
      refine s_op81 H hE h5 hb0 hA5.1 (fun K6 B6 L6 f6 h6 e6 _ hm6 => ?_)
      have g6 : ∀ x, x ∈ L5 → gi (f6 x) = gi (f5 x) := fun x hx => ext0 e6 hx
      have gx : ∀ x k, x ∈ L3 ∧ K3 x = k → k ≠ 200 → gi (f6 x) = gi (f3 x) := fun x k hx hk => by
        have hx4 := exin e4 hx
        have hx5 := exin e5 hx4
        rw [g6 x hx5.1, ext1 e5 hx4 (fun i hi => hk (by simp at hi; omega)), g4 x hx.1]
      have gm : ∀ i, (200, i) ∉ modN → gi (f6 m) i = gi (f3 m) i := fun i hi => by rw [g6 m hA5.1.1, xg e5 hm4 hi, g4 m hA3.1.1]
      have g56 : gi (f6 m) = gi (f5 m) := g6 m hA5.1.1
      refine hret 0 0 L6 f6 82 _ _ (Nat.le_refl _) (Nat.le_refl _) (by decide +kernel) (fun ft hft => by cases hft; rfl) ⟨K6, B6, h6, extC_tr e05 (extC_mono e6 (by decide)), 0, rfl, by decide, by decide, fun _ => ⟨?_, ?_, ?_, ?_⟩, ?_⟩
      · rw [gx tx 203 hA3.2.1 (by decide), gx r1 205 hA3.2.2.1 (by decide), gx b 206 hA3.2.2.2 (by decide)]
        exact hP _ (gm 12 (by decide)) (gm 13 (by decide)) (gm 17 (by decide)) (gm 18 (by decide)) (gm 19 (by decide)) (by rw [g56]; exact hat)
      · rw [g56]
        exact n2
      · rw [g56]
        exact hat
      · rw [gm 20 (by decide), h20]
      · intro j hj
        rw [gx tx 203 hA3.2.1 (by decide)]
        exact hg j hj
    have gm1 : ∀ i, i ≠ 18 → gi (f1 m) i = gi (f m) i := fun i hi => xg e1 hA.1 (by simp; exact hi)
    have e2 : extC modP K B L f K1 B1 L1 f2 := extC_tr (extC_mono e1 (by decide)) (extC_mono a5 (fun q hq => by rw [List.mem_singleton.mp hq, reg205]; decide))
    refine s_op31 H hE h2 (v1 := (l.length : Int)) hb0 (by omega) hA2.1 (fun x hx hkx => by rw [sol h2 ⟨hx, hkx⟩ hA2.1 (by decide), gm2, gm1 17 (by decide), s3]) (fun K3 B3 L3 f3 h3 e3 b3 _ hm3 c3 => ?_) (fun K3 B3 L3 f3 h3 e3 b3 _ hm3 c3 => ?_)
    all_goals have hA3 := hA2.ext e3
    all_goals have e03 := extC_tr e2 (extC_mono e3 (by decide))
    all_goals have d17 := c3 m hm3.1 hm3.2
    all_goals have gm3 : ∀ i, i ≠ 17 → i ≠ 18 → gi (f3 m) i = gi (f m) i := fun i hi hj => by rw [xg e3 hA2.1 (by simp; exact hi), gm2, gm1 i hj]
    all_goals have gm3' : gi (f3 m) 18 = 1 + (opc l : Int) := by rw [xg e3 hA2.1 (by decide), gm2, d18]
    all_goals have gt3 : gi (f3 tx) = gi (f tx) := by rw [xa e3 hA2.2.1 reg203 (by decide), gt2, xa e1 hA.2.1 reg203 (by decide)]
    all_goals have gp3 : gi (f3 r1) = gi (f2 r1) := by rw [xa e3 hA2.2.2.1 reg205 (by decide)]
    all_goals have gb3 : gi (f3 b) = gi (f b) := by rw [xa e3 hA2.2.2.2 reg206 (by decide), gb2, xa e1 hA.2.2.2 reg206 (by decide)]
    · have hinn' : inn (o :: l) = inn l + 1 := by simp only [inn]; rw [if_pos (by omega)]
      have hpnd : pnd (o :: l) = pnd l := by simp only [pnd]; rw [if_neg (by omega)]; rfl
      refine s_op47 H hE h3 hb0 hA3.1 (fun K4 B4 L4 f4 v4 v5 r4 h4 e4 _ b4 b5 hm4 hr4 c4 c5 => ?_)
      have hA4 := hA3.ext e4
      obtain rfl := sol h4 hr4 hA4.2.2.2 (by decide)
      have g4 : ∀ x, x ∈ L3 → gi (f4 x) = gi (f3 x) := fun x hx => ext0 e4 hx
      have q4 : v4 = w := by rw [← c4 m hm4.1 hm4.2, g4 m hA3.1.1, gm3 13 (by decide) (by decide), s9]
      have q5 : v5 = inn l := by rw [← c5 m hm4.1 hm4.2, g4 m hA3.1.1, gm3 19 (by decide) (by decide), s6]
      subst q4 q5
      refine w_ist hE h4 hr4.1 hr4.2 (by decide) (by decide) (by omega) (by show (inn l : Int) < 10; omega) (by omega) (by rw [kbd206]; exact ⟨(by show (0 : Int) ≤ w; omega), (by show (w : Int) ≤ 304; omega), fun h => by cases h⟩) (by decide +kernel) (fun f5 d1 d2 d3 d4 d5 => ?_)
      have h5 := d4 (XP_oth h4 hr4.2 d1 (fun i hi => by cases hi))
      have gm5 : f5 m = f4 m := d1 m (fun e => by rw [e, hr4.2] at hm4; exact absurd hm4.2 (by decide))
      have gt5 : f5 tx = f4 tx := d1 tx (fun e => by have := hA4.2.1.2; rw [e, hr4.2] at this; exact absurd this (by decide))
      have gp5 : f5 r1 = f4 r1 := d1 r1 (fun e => by have := hA4.2.2.1.2; rw [e, hr4.2] at this; exact absurd this (by decide))
      refine s_op60 H hE h5 (v1 := (inn l : Int)) hb0 (by omega) hm4 (fun x hx hkx => by rw [sol h5 ⟨hx, hkx⟩ hm4 (by decide), gm5, g4 m hA3.1.1, gm3 19 (by decide) (by decide), s6]) (fun K6 B6 L6 f6 h6 e6 _ _ hm6 c6 => ?_)
      have hA5 : PA K4 L4 m tx r1 r4 := hA4
      have hA6 := hA5.ext e6
      have gm6 : ∀ i, i ≠ 19 → i ≠ 17 → i ≠ 18 → gi (f6 m) i = gi (f m) i := fun i hi hj hk => by rw [xg e6 hA5.1 (by simp; exact hi), gm5, g4 m hA3.1.1, gm3 i hj hk]
      have gm6a : gi (f6 m) 17 = gi (f3 m) 17 := by rw [xg e6 hA5.1 (by decide), gm5, g4 m hA3.1.1]
      have gm6b : gi (f6 m) 18 = gi (f3 m) 18 := by rw [xg e6 hA5.1 (by decide), gm5, g4 m hA3.1.1]
      have gt6 : gi (f6 tx) = gi (f tx) := by rw [xa e6 hA5.2.1 reg203 (by decide), gt5, g4 tx hA3.2.1.1, gt3]
      have gp6 : gi (f6 r1) = gi (f2 r1) := by rw [xa e6 hA5.2.2.1 reg205 (by decide), gp5, g4 r1 hA3.2.2.1.1, gp3]
      have gb6 : gi (f6 r4) = gi (f5 r4) := by rw [xa e6 hA5.2.2.2 reg206 (by decide)]
      have e06 : extC modP K B L f K6 B6 L6 f6 := extC_tr e03 (extC_tr (extC_mono e4 (by decide)) (extC_tr (extC_mono d5 (fun q hq => by rw [List.mem_singleton.mp hq, reg206]; decide)) (extC_mono e6 (by decide))))
      refine w_callV hE (hc_emit H h6 hA6.1 hA6.2.1 (o := 30) (v := 0) (by decide) (by decide) (T := T) (w := w) (by rw [gm6 12 (by decide) (by decide) (by decide), s1]) s2 (by rw [gm6 13 (by decide) (by decide) (by decide), s9]) (by omega)) lX12_ok le_206 mt_emit h6 hA6.1.1 hA6.1.2 (by decide) (by decide) (by decide) rfl rfl (by decide) (by decide +kernel) (fun r L7 f7 ht7 hp7 => ?_)
      obtain ⟨K7, B7, h7, e7, x1, x2, x3, x4⟩ := hp7
      have hr7 : r = none := ht7
      subst hr7
      have gm7 : ∀ i, i ≠ 13 → gi (f7 m) i = gi (f6 m) i := fun i hi => xg e7 hA6.1 (by simp; exact hi)
      have gp7 : gi (f7 r1) = gi (f2 r1) := by rw [xa e7 hA6.2.2.1 reg205 (by decide), gp6]
      have gb7 : gi (f7 r4) = gi (f5 r4) := by rw [xa e7 hA6.2.2.2 reg206 (by decide), gb6]
      have gt7 : ∀ j, j ≠ T + 97 + 2 * w → j ≠ T + 97 + 2 * w + 1 → gi (f7 tx) j = gi (f tx) j := fun j hj1 hj2 => by rw [x4 j hj1 hj2, gt6]
      have gb5 : ∀ j, gi (f5 r4) j = if j = inn l then (w : Int) else gi (f r4) j := fun j => by rw [d2, Int.toNat_natCast, g4 r4 hA3.2.2.2.1, gb3]
      refine fin K7 B7 L7 f7 h7 (extC_tr e06 (extC_mono e7 (by decide))) (fun M' y12 y13 y17 y18 y19 y8 => ?_) (by rw [gm7 7 (by decide), gm6 7 (by decide) (by decide) (by decide)]) (by rw [gm7 20 (by decide), gm6 20 (by decide) (by decide) (by decide)]) (fun j hj => gt7 j (by omega) (by omega))
      rw [gb7, gp7, on1, ot]
      refine ⟨by rw [y12, gm7 12 (by decide), gm6 12 (by decide) (by decide) (by decide), s1], s2, by rw [y17, gm7 17 (by decide), gm6a, d17]; simp; omega, gP2, by rw [y18, gm7 18 (by decide), gm6b, gm3', oo]; omega, by rw [y19, gm7 19 (by decide), c6 m hm6.1 hm6.2, hinn']; omega, ow, by omega, ⟨w + 1, by rw [y13, x1], by omega, by rw [hpnd]; omega, ?_⟩, fun k hk => ?_, fun k k' hk hk' => ?_, fun k hk z1 z2 z3 => ?_⟩
      · exact Gd_open s12 s10 (by omega) (by omega) rfl rfl (fun k hk => by have := (s13 k hk).2; omega) (fun k hk => by rw [gb5, if_neg (by omega)]) (by rw [gb5, if_pos rfl]) (fun i hi => gt7 _ (by omega) (by omega)) (fun i hi => gt7 _ (by omega) (by omega)) x2
      · rw [hinn'] at hk
        rw [gb5, y13, x1]
        split
        · omega
        · have := s13 k (by omega)
          omega
      · rw [hinn'] at hk'
        rw [gb5, gb5, if_neg (by omega)]
        split
        · have := (s13 k (by omega)).2
          omega
        · exact s14 k k' hk (by omega)
      · rw [gt7 _ (by omega) (by omega)] at z1 z2 z3
        rw [gt7 _ (by omega) (by omega)]
        exact s15 k hk z1 z2 z3
    · have hinn' : inn (o :: l) = inn l := by simp only [inn]; rw [if_neg (by omega)]; rfl
      refine fin K3 B3 L3 f3 h3 e03 (fun M' y12 y13 y17 y18 y19 y8 => ?_) (gm3 7 (by decide) (by decide)) (gm3 20 (by decide) (by decide)) (fun j _ => by rw [gt3])
      rw [gt3, gb3, gp3, on1, ot]
      refine ⟨by rw [y12, gm3 12 (by decide) (by decide), s1], s2, by rw [y17, d17]; simp; omega, gP2, by rw [y18, gm3', oo]; omega, by rw [y19, gm3 19 (by decide) (by decide), s6, hinn'], ow, by omega, ⟨w, by rw [y13, gm3 13 (by decide) (by decide), s9], s10, ?_, ?_⟩, fun k hk => ?_, fun k k' hk hk' => s14 k k' hk (by rw [← hinn']; exact hk'), s15⟩
      · have : pnd (o :: l) ≤ pnd l + 1 := by simp only [pnd]; split <;> omega
        omega
      · exact Gd_cg s12 (fun en => by simp only [frs]; rw [if_neg (by omega)]) hinn' (fun _ _ => rfl) (fun _ _ => rfl)
      · rw [y13, gm3 13 (by decide) (by decide)]
        exact s13 k (by rw [← hinn']; exact hk)
