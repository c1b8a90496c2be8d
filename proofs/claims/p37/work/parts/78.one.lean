/-! beginOne. -/
theorem nn_f (l : List Int) : nn l false = nb l + 1 := by simp [nn]
theorem tt_f (l : List Int) : tt l false = tb l := by simp [tt]
theorem nn_t (l : List Int) : nn l true = nb l := by simp [nn]
theorem tt_t (l : List Int) : tt l true = tb l + 1 := by simp [tt]
theorem PSf_num {M M' g g' P bg : Nat → Int} {T i0 w : Nat} {l : List Int} (hS : PSf M g P bg T i0 l (nb l) (tb l)) (hw : M 13 = w) (h12 : M' 12 = M 12) (h13 : M' 13 = (w + 1 : Nat)) (h17 : M' 17 = M 17) (h18 : M' 18 = M 18) (h19 : M' 19 = M 19) (h8 : M 8 + 1 ≤ M' 8) (ho : oO g' T w = 0 ∨ (oO g' T w = 1 ∧ 0 ≤ vV g' T w ∧ vV g' T w ≤ 10)) (hg : ∀ j, j ≠ T + 97 + 2 * w → j ≠ T + 97 + 2 * w + 1 → g' j = g j) : PSf M' g' P bg T i0 l (nb l + 1) (tb l) := by
  obtain ⟨s1, s2, s3, s4, s5, s6, s7, s8, ⟨w', s9, s10, s11, s12⟩, s13, s14, s15⟩ := hS
  have e : w' = w := by omega
  subst e
  refine ⟨h12.trans s1, s2, h17.trans s3, s4, h18.trans s5, h19.trans s6, s7, s8, ⟨w' + 1, h13, by omega, by omega, ?_⟩, fun k hk => ?_, s14, fun k hk z1 z2 z3 => ?_⟩
  · refine Gd_step s12 s10 (fun _ => rfl) rfl (fun k hk => by have := (s13 k hk).2; omega) (fun i hi => hg _ (by omega) (by omega)) (fun i hi => hg _ (by omega) (by omega)) (fun g2 c fr h1 h2 hq => ?_)
    unfold wsc
    rw [h1, h2]
    rcases ho with ho | ho
    · exact Or.inl ⟨ho, hq⟩
    · exact Or.inr (Or.inl ⟨ho.1, ho.2.1, ho.2.2, hq⟩)
  · have := s13 k hk
    omega
  · rw [hg _ (by omega) (by omega)] at z1 z2 z3
    rw [hg _ (by omega) (by omega)]
    exact s15 k hk z1 z2 z3
/-- what stands behind a step of a sum: the pile l', a number laid down if it is whole -/
def SQ (M g P bg : Nat → Int) (T i0 : Nat) (pl0 : Int) : Prop := (∃ l', PSf M g P bg T i0 l' (nb l' + (if M 20 = 1 then 1 else 0)) (tb l')) ∧ TI M ∧ pl0 + 1 ≤ M 8
theorem hc_beginOne {X0 : zC0} (H : ∀ j, j < 412 → CMj X0 j) {K : Nat → Nat} {B : Int} {L : List Nat} {f : Nat → va_E} (hh : hok X0.2.2.1 K B L f) {m tx p b : Nat} (hA : PA K L m tx p b) {T i0 : Nat} {l : List Int} (hS : PSf (gi (f m)) (gi (f tx)) (gi (f p)) (gi (f b)) T i0 l (nb l) (tb l)) (hT : TI (gi (f m))) (h20 : gi (f m) 20 = 0) : HC X0 M_beginOne 7 0 modP [.ref m] K B L f (fun _ _ _ f' r => ∃ c : Int, r = some (.int (Int32.ofInt c)) ∧ 0 ≤ c ∧ c ≤ 6 ∧ (c = 0 → SQ (gi (f' m)) (gi (f' tx)) (gi (f' p)) (gi (f' b)) T i0 (gi (f m) 8)) ∧ ∀ j, j < T + 97 → gi (f' tx) j = gi (f tx) j) := by
  refine eM.mk ⟨_, rfl⟩ pnX12 (Nat.le_of_ble_eq_true rfl) (fun E hE _ hret => ?_)
  obtain ⟨s1, s2, s3, s4, s5, s6, s7, s8, ⟨w, s9, s10, s11, s12⟩, s13, s14, s15⟩ := id hS
  have hpl : gi (f m) 8 ≤ 301 := (hok_fld hh hA.1 (j := 8) (lo := 0) (hi := 301) rfl).2
  obtain ⟨l0, D0, cy0, ax0⟩ := X0
  -- a fault
  have bad : ∀ (pc : Nat) (hpc : decode cX12_beginOne pc = .ok (.ireturn, 1)) (c : Int) (hc : 1 ≤ c ∧ c ≤ 6) (K1 : Nat → Nat) (B1 : Int) (L1 : List Nat) (f1 : Nat → va_E) (lv : List (Nat × Value)), hok cy0 K1 B1 L1 f1 → extC [] K B L f K1 B1 L1 f1 → eW E 0 0 L1 f1 pc lv [.int (Int32.ofInt c)] := fun pc hpc c hc K1 B1 L1 f1 lv h1 e1 => hret 0 0 L1 f1 pc lv _ (Nat.le_refl _) (Nat.le_refl _) hpc (fun ft hft => by cases hft; rfl) ⟨K1, B1, h1, extC_mono e1 (by decide), c, rfl, by omega, hc.2, fun h => (by omega), fun j _ => by rw [ext0 e1 hA.2.1.1]⟩
  -- something is opened
  have opn : ∀ (o : Int) (pc : Nat) (K1 : Nat → Nat) (B1 : Int) (L1 : List Nat) (f1 : Nat → va_E) (lv : List (Nat × Value)), (o = 2 ∨ o = 20 ∨ (40 ≤ o ∧ o ≤ 42)) → (o = 20 → ahd l) → decode cX12_beginOne pc = .ok (.invokevirtual 233, 3) → hok cy0 K1 B1 L1 f1 → extC [] K B L f K1 B1 L1 f1 → gi (f m) 9 ≠ 0 → (∀ (K2 : Nat → Nat) (B2 : Int) (L2 : List Nat) (f2 : Nat → va_E) (c : Int), hok cy0 K2 B2 L2 f2 → extC modP K B L f K2 B2 L2 f2 → 0 ≤ c → c ≤ 6 → (c = 0 → SQ (gi (f2 m)) (gi (f2 tx)) (gi (f2 p)) (gi (f2 b)) T i0 (gi (f m) 8)) → (∀ j, j < T + 97 → gi (f2 tx) j = gi (f tx) j) → eW E 0 0 L2 f2 (pc + 3) lv [.int (Int32.ofInt c)]) → eW E 0 0 L1 f1 pc lv [.int (Int32.ofInt o), .ref m] := fun o pc K1 B1 L1 f1 lv ho ha hpc h1 e1 h9 kk => by
    have hA1 := hA.ext e1
    have g1 : ∀ x, x ∈ L → gi (f1 x) = gi (f x) := fun x hx => ext0 e1 hx
    refine w_callV hE (hc_opened H h1 hA1 ho ha (T := T) (i0 := i0) (l := l) (by rw [g1 m hA.1.1, g1 tx hA.2.1.1, g1 p hA.2.2.1.1, g1 b hA.2.2.2.1]; exact hS) (by rw [g1 m hA.1.1]; exact hT) (by rw [g1 m hA.1.1]; exact h9)) lX12_ok le_233 mt_opened h1 hA1.1.1 hA1.1.2 (by decide) (by decide) (by decide) rfl rfl (by decide) hpc (fun r L2 f2 _ hp => ?_)
    obtain ⟨K2, B2, h2, e2, c, rfl, c0, c6, hc, x5⟩ := hp
    refine kk K2 B2 L2 f2 c h2 (extC_tr (extC_mono e1 (by decide)) e2) c0 c6 (fun h => ?_) (fun j hj => by rw [x5 j hj, g1 tx hA.2.1.1])
    obtain ⟨x1, x2, x3, x4⟩ := hc h
    rw [g1 m hA.1.1] at x3 x4
    rw [h20] at x4
    refine ⟨⟨o :: l, ?_⟩, x2, x3⟩
    rw [x4]
    exact x1
  have opd : ∀ (o : Int) (pc : Nat) (K1 : Nat → Nat) (B1 : Int) (L1 : List Nat) (f1 : Nat → va_E) (lv : List (Nat × Value)), (o = 2 ∨ o = 20 ∨ (40 ≤ o ∧ o ≤ 42)) → (o = 20 → ahd l) → decode cX12_beginOne pc = .ok (.invokevirtual 233, 3) → decode cX12_beginOne (pc + 3) = .ok (.ireturn, 1) → hok cy0 K1 B1 L1 f1 → extC [] K B L f K1 B1 L1 f1 → gi (f m) 9 ≠ 0 → eW E 0 0 L1 f1 pc lv [.int (Int32.ofInt o), .ref m] := fun o pc K1 B1 L1 f1 lv ho ha hpc hpc2 h1 e1 h9 => opn o pc K1 B1 L1 f1 lv ho ha hpc h1 e1 h9 (fun K2 B2 L2 f2 c h2 e2 c0 c6 hc hg => hret 0 0 L2 f2 _ lv _ (Nat.le_refl _) (Nat.le_refl _) hpc2 (fun ft hft => by cases hft; rfl) ⟨K2, B2, h2, e2, c, rfl, c0, c6, hc, hg⟩)
  -- a number or a name
  have num : ∀ (v0 o v : Int) (K1 : Nat → Nat) (B1 : Int) (L1 : List Nat) (f1 : Nat → va_E), (-1 ≤ v0 ∧ v0 ≤ 10) → (o = 0 ∨ (o = 1 ∧ 0 ≤ v ∧ v ≤ 10)) → (-2147483648 ≤ v ∧ v ≤ 2147483647) → hok cy0 K1 B1 L1 f1 → extC [] K B L f K1 B1 L1 f1 → gi (f m) 9 ≠ 0 → eW E 0 0 L1 f1 81 [(0, .ref m), (1, .int (Int32.ofInt v0))] [.int (Int32.ofInt v), .int (Int32.ofInt o), .ref m] := fun v0 o v K1 B1 L1 f1 hv0 ho hv h1 e1 h9 => by
    have hA1 := hA.ext e1
    have g1 : ∀ x, x ∈ L → gi (f1 x) = gi (f x) := fun x hx => ext0 e1 hx
    refine w_callV hE (hc_emit H h1 hA1.1 hA1.2.1 (o := o) (v := v) (by omega) hv (T := T) (w := w) (by rw [g1 m hA.1.1, s1]) s2 (by rw [g1 m hA.1.1, s9]) (by omega)) lX12_ok le_206 mt_emit h1 hA1.1.1 hA1.1.2 (by decide) (by decide) (by decide) rfl rfl (by decide) (by decide +kernel) (fun r L2 f2 ht2 hp2 => ?_)
    obtain ⟨K2, B2, h2, e2, x1, x2, x3, x4⟩ := hp2
    have hr2 : r = none := ht2
    subst hr2
    have hA2 := hA1.ext e2
    have gm2 : ∀ i, i ≠ 13 → gi (f2 m) i = gi (f m) i := fun i hi => by rw [xg e2 hA1.1 (by simp; exact hi), g1 m hA.1.1]
    refine s_bo84 H hE h2 hv0 hA2.1 (fun K3 B3 L3 f3 h3 e3 _ hm3 => ?_)
    have g3 : ∀ x, x ∈ L2 → gi (f3 x) = gi (f2 x) := fun x hx => ext0 e3 hx
    have hA3 := hA2.ext e3
    refine w_next H hE h3 hm3 (by decide) (by decide) (by decide +kernel) (fun K4 B4 L4 f4 h4 e4 n1 n2 => ?_)
    have hA4 := hA3.ext e4
    have hat : gi (f m) 8 + 1 ≤ gi (f4 m) 8 := by
      have := hT h9
      rw [g3 m hA2.1.1, gm2 7 (by decide)] at n1
      omega
    refine s_bo88 H hE h4 hv0 hA4.1 (fun K5 B5 L5 f5 h5 e5 _ hm5 c5 => ?_)
    have hA5 := hA4.ext e5
    have e05 : extC modP K B L f K5 B5 L5 f5 := extC_tr (extC_mono e1 (by decide)) (extC_tr (extC_mono e2 (by decide)) (extC_tr (extC_mono e3 (by decide)) (extC_tr (extC_mono e4 (by decide)) (extC_mono e5 (by decide)))))
    have gx : ∀ x k, x ∈ L2 ∧ K2 x = k → k ≠ 200 → gi (f5 x) = gi (f2 x) := fun x k hx hk => by
      have hx3 := exin e3 hx
      have hx4 := exin e4 hx3
      rw [ext1 e5 hx4 (fun i hi => hk (by simp at hi; omega)), ext1 e4 hx3 (fun i hi => hk (by simp at hi; omega)), g3 x hx.1]
    have gm : ∀ i, i ≠ 20 → (200, i) ∉ modN → gi (f5 m) i = gi (f2 m) i := fun i hi hj => by rw [xg e5 hA4.1 (by simp; exact hi), xg e4 hA3.1 hj, g3 m hA2.1.1]
    have g45 : ∀ i, i ≠ 20 → gi (f5 m) i = gi (f4 m) i := fun i hi => xg e5 hA4.1 (by simp; exact hi)
    have hS5 : PSf (gi (f5 m)) (gi (f5 tx)) (gi (f5 p)) (gi (f5 b)) T i0 l (nb l + 1) (tb l) := by
      rw [gx tx 203 hA2.2.1 (by decide), gx p 205 hA2.2.2.1 (by decide), gx b 206 hA2.2.2.2 (by decide), xa e2 hA1.2.2.1 reg205 (by decide), xa e2 hA1.2.2.2 reg206 (by decide), g1 p hA.2.2.1.1, g1 b hA.2.2.2.1]
      refine PSf_num hS s9 (by rw [gm 12 (by decide) (by decide), gm2 12 (by decide)]) (by rw [gm 13 (by decide) (by decide), x1]) (by rw [gm 17 (by decide) (by decide), gm2 17 (by decide)]) (by rw [gm 18 (by decide) (by decide), gm2 18 (by decide)]) (by rw [gm 19 (by decide) (by decide), gm2 19 (by decide)]) (by rw [g45 8 (by decide)]; exact hat) (by rw [x2, x3]; exact ho) (fun j hj1 hj2 => by rw [x4 j hj1 hj2, g1 tx hA.2.1.1])
    refine w_callV hE (hc_settle H h5 hA5 (least := 7) (by decide) (T := T) (i0 := i0) (l := l) (v := false) (fun _ _ => by decide) (fun h => by cases h) (by rw [nn_f, tt_f]; exact hS5)) lX12_ok le_230 mt_settle h5 hA5.1.1 hA5.1.2 (by decide) (by decide) (by decide) rfl rfl (by decide) (by decide +kernel) (fun r L6 f6 ht6 hp6 => ?_)
    obtain ⟨K6, B6, h6, e6, y1, y2⟩ := hp6
    have hr6 : r = none := ht6
    subst hr6
    have hA6 := hA5.ext e6
    refine s_bo99 H hE h6 hv0 hA6.1 (fun K7 B7 L7 f7 h7 e7 _ hm7 => ?_)
    have g7 : ∀ x, x ∈ L6 → gi (f7 x) = gi (f6 x) := fun x hx => ext0 e7 hx
    have gm6 : ∀ i, (200, i) ∉ modS → gi (f7 m) i = gi (f5 m) i := fun i hi => by rw [g7 m hA6.1.1, xg e6 hA5.1 hi]
    obtain ⟨-, -, -, -, z5, -, -, -⟩ := stl_ok 7 l false s7 (by decide) (fun _ _ => by decide) (fun h => by cases h)
    have z6 := (z5 rfl (by decide)).1
    rw [z6, nn_f, tt_f] at y1
    refine hret 0 0 L7 f7 100 _ _ (Nat.le_refl _) (Nat.le_refl _) (by decide +kernel) (fun ft hft => by cases hft; rfl) ⟨K7, B7, h7, extC_tr e05 (extC_tr (extC_mono e6 (by decide)) (extC_mono e7 (by decide))), 0, rfl, by decide, by decide, fun _ => ⟨⟨(stl 7 l false).1, ?_⟩, ?_, ?_⟩, fun j hj => ?_⟩
    · rw [gm6 20 (by decide), c5 m hm5.1 hm5.2, g7 m hA6.1.1, g7 tx hA6.2.1.1, g7 p hA6.2.2.1.1, g7 b hA6.2.2.2.1]
      exact y1
    · intro hn
      rw [gm6 9 (by decide), g45 9 (by decide)] at hn
      rw [gm6 8 (by decide), gm6 7 (by decide), g45 8 (by decide), g45 7 (by decide)]
      exact n2 hn
    · rw [gm6 8 (by decide), g45 8 (by decide)]
      exact hat
    · rw [g7 tx hA6.2.1.1, y2 j hj, gx tx 203 hA2.2.1 (by decide), x4 j (by omega) (by omega), g1 tx hA.2.1.1]
  have nz : ∀ (K1 : Nat → Nat) (B1 : Int) (L1 : List Nat) (f1 : Nat → va_E) (v : Int), extC [] K B L f K1 B1 L1 f1 → (∀ b ∈ L1, K1 b = 200 → gi (f1 b) 9 = v) → gi (f m) 9 = v := fun K1 B1 L1 f1 v e1 hc => by
    have hm1 := exin e1 hA.1
    rw [← hc m hm1.1 hm1.2, ext0 e1 hA.1.1]
  refine s_bo0 H hE hh hA.1 (fun K1 B1 L1 f1 v0 v1 h1 e1 _ b1 hm1 _ c1 => ?_) (fun K1 B1 L1 f1 v0 v1 h1 e1 _ b1 hm1 c1 => ?_) (fun K1 B1 L1 f1 v0 h1 e1 b0 hm1 c1 => ?_) (fun K1 B1 L1 f1 v0 v1 h1 e1 b0 b1 hm1 c1 => ?_) (fun K1 B1 L1 f1 v0 h1 e1 b0 hm1 c1 => ?_) (fun K1 B1 L1 f1 v0 h1 e1 b0 hm1 c1 => ?_) (fun K1 B1 L1 f1 v0 h1 e1 b0 hm1 c1 => ?_) (fun K1 B1 L1 f1 v0 h1 e1 b0 hm1 c1 => ?_) (fun K1 B1 L1 f1 v0 h1 e1 b0 hm1 c1 => ?_) (fun K1 B1 L1 f1 v0 h1 e1 b0 hm1 c1 => ?_)
  · exact bad 19 (by decide +kernel) 2 (by decide) K1 B1 L1 f1 _ h1 e1
  · exact bad 38 (by decide +kernel) 5 (by decide) K1 B1 L1 f1 _ h1 e1
  · have q := nz K1 B1 L1 f1 v0 e1 c1
    obtain rfl : v0 = 1 := by omega
    refine s_bo60 H hE h1 hm1 c1 (fun K2 B2 L2 f2 v2 h2 e2 b2 hm2 _ _ => ?_)
    exact num (-1) 0 v2 K2 B2 L2 f2 (by decide) (Or.inl rfl) b2 h2 (extC_tr e1 e2) (by omega)
  · have q := nz K1 B1 L1 f1 v1 e1 c1
    obtain rfl : v1 = 2 := by omega
    refine s_bo64 H hE h1 b0 hm1 c1 (fun K2 B2 L2 f2 h2 e2 _ hm2 _ => ?_)
    exact num v0 1 v0 K2 B2 L2 f2 (by omega) (Or.inr ⟨rfl, b0.1, b0.2⟩) (by omega) h2 (extC_tr e1 e2) (by omega)
  · have q := nz K1 B1 L1 f1 v0 e1 c1
    exact opd 40 113 K1 B1 L1 f1 _ (by decide) (fun h => by cases h) (by decide +kernel) (by decide +kernel) h1 e1 (by omega)
  · have q := nz K1 B1 L1 f1 v0 e1 c1
    exact opd 2 128 K1 B1 L1 f1 _ (by decide) (fun h => by cases h) (by decide +kernel) (by decide +kernel) h1 e1 (by omega)
  · have q := nz K1 B1 L1 f1 v0 e1 c1
    exact opd 41 151 K1 B1 L1 f1 _ (by decide) (fun h => by cases h) (by decide +kernel) (by decide +kernel) h1 e1 (by omega)
  · have q := nz K1 B1 L1 f1 v0 e1 c1
    exact opd 42 178 K1 B1 L1 f1 _ (by decide) (fun h => by cases h) (by decide +kernel) (by decide +kernel) h1 e1 (by omega)
  · have q := nz K1 B1 L1 f1 v0 e1 c1
    have hA1 := hA.ext e1
    have g1 : ∀ x, x ∈ L → gi (f1 x) = gi (f x) := fun x hx => ext0 e1 hx
    refine w_callV hE (hc_isAskAhead H h1 hA1.1 hA1.2.2.1 (l := l) s7 (by rw [g1 m hA.1.1]; exact s3) (by rw [g1 p hA.2.2.1.1]; exact s4)) lX12_ok le_240 mt_isAskAhead h1 hm1.1 hm1.2 (by decide) (by decide) (by decide) rfl rfl (by decide) (by decide +kernel) (fun r L2 f2 _ hp => ?_)
    obtain ⟨K2, B2, h2, e2, c, rfl, c0, c1', hc⟩ := hp
    have e02 := extC_tr e1 e2
    refine s_bo202 H hE h2 (by decide) ⟨c0, c1'⟩ (exin e2 hm1) (fun K3 B3 L3 f3 h3 e3 _ hc3 hm3 => ?_) (fun K3 B3 L3 f3 h3 e3 _ _ hm3 => ?_)
    · refine opn 20 208 K3 B3 L3 f3 _ (by decide) (fun _ => hc (by omega)) (by decide +kernel) h3 (extC_tr e02 e3) (by omega) (fun K4 B4 L4 f4 c4 h4 e4 x0 x6 hx hg => ?_)
      have hA4 := hA.ext e4
      refine s_bo211 H hE h4 (by decide) (by omega) hA4.1 (fun K5 B5 L5 f5 h5 e5 _ _ hm5 => ?_)
      have g5 : ∀ x, x ∈ L4 → gi (f5 x) = gi (f4 x) := fun x hx => ext0 e5 hx
      refine hret 0 0 L5 f5 215 _ _ (Nat.le_refl _) (Nat.le_refl _) (by decide +kernel) (fun ft hft => by cases hft; rfl) ⟨K5, B5, h5, extC_tr e4 (extC_mono e5 (by decide)), c4, rfl, x0, x6, fun h => ?_, fun j hj => by rw [g5 tx hA4.2.1.1, hg j hj]⟩
      rw [g5 m hA4.1.1, g5 tx hA4.2.1.1, g5 p hA4.2.2.1.1, g5 b hA4.2.2.2.1]
      exact hx h
    · exact s_bo214 H hE h3 (by decide) hm3 (fun K4 B4 L4 f4 h4 e4 _ hm4 => bad 215 (by decide +kernel) 1 (by decide) K4 B4 L4 f4 _ h4 (extC_tr e02 (extC_tr e3 e4)))
  · exact s_bo214 H hE h1 (by decide) hm1 (fun K4 B4 L4 f4 h4 e4 _ hm4 => bad 215 (by decide +kernel) 1 (by decide) K4 B4 L4 f4 _ h4 (extC_tr e1 e4))
