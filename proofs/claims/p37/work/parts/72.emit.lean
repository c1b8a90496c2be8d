/-! emit, rank, settle. -/
theorem hc_emit {X0 : zC0} (H : ∀ j, j < 412 → CMj X0 j) {K : Nat → Nat} {B : Int} {L : List Nat} {f : Nat → va_E} (hh : hok X0.2.2.1 K B L f) {m tx : Nat} (hm : m ∈ L ∧ K m = 200) (htx : tx ∈ L ∧ K tx = 203) {o v : Int} (ho : (-2147483648) ≤ o ∧ o ≤ 2147483647) (hv : (-2147483648) ≤ v ∧ v ≤ 2147483647) {T w : Nat} (hT : gi (f m) 12 = T) (hs : ∃ s, s < 4 ∧ T = 705 * s) (hw : gi (f m) 13 = w) (hw2 : w ≤ 303) : HC X0 M_emit 2 3 [(203, 0), (200, 13)] [.ref m, .int (Int32.ofInt o), .int (Int32.ofInt v)] K B L f (fun _ _ _ f' _ => gi (f' m) 13 = (w + 1 : Nat) ∧ oO (gi (f' tx)) T w = o ∧ vV (gi (f' tx)) T w = v ∧ ∀ j, j ≠ T + 97 + 2 * w → j ≠ T + 97 + 2 * w + 1 → gi (f' tx) j = gi (f tx) j) := by
  refine eM.mk rfl pnX12 (Nat.le_of_ble_eq_true rfl) (fun E hE _ hret => ?_)
  refine s_em0 H hE hh ho hv hm (fun K1 B1 L1 f1 v2 v3 r1 h1 e1 _ _ b2 b3 hr0 hr1 m1 m2 => ?_)
  obtain rfl := sol h1 hr1 (exin e1 htx) (by decide)
  have em := ext0 e1 hm.1
  have et := ext0 e1 htx.1
  have q1 : v2 = w := by rw [← m1 m hr0.1 hr0.2, em]; exact hw
  have q2 : v3 = T := by rw [← m2 m hr0.1 hr0.2, em]; exact hT
  subst q1 q2
  have hP := hok_Psi h1 hr0 hr1
  rw [em, hT, hw] at hP
  obtain ⟨l0, D0, cy0, ax0⟩ := X0
  have hs' := hs
  obtain ⟨s, hs4, hTs⟩ := hs'
  have i1 : (97 + ((T : Int) + (2 * (w : Int)))).toNat = T + 97 + 2 * w := by omega
  refine w_ist hE h1 hr1.1 hr1.2 (by decide) (by decide) (by omega) (by show 97 + ((T : Int) + 2 * w) < 2820; omega) ho ?_ (by decide +kernel) (fun f2 a1 a2 a3 a4 a5 => ?_)
  · rw [i1, kbd203 (by omega)]
    exact ⟨ho.1, ho.2, fun h => by cases h⟩
  have hm2 : f2 m = f1 m := a1 m (fun e => by rw [e, hr1.2] at hr0; exact absurd hr0.2 (by decide))
  have hP2 : Psi (gi (f2 r1)) (gi (f1 m) 12) (gi (f1 m) 13) := by
    rw [em, hT, hw]
    refine Psi_wr hP hs (Nat.le_refl w) (c := w) (j := T + 97 + 2 * w) (fun k hk x1 x2 x3 => ?_) (by omega) (fun i hi => ?_)
    · have := hP.1 k hk
      have e0 : ((T : Nat) : Int).toNat = T := by omega
      rw [e0] at this
      exact this x1 x2 x3
    · rw [a2, if_neg (by rw [i1]; exact hi)]
  have h2 := a4 (XP_tx h1 hr1 a1 (fun m' hm' => by rw [sol h1 hm' hr0 (by decide)]; exact hP2))
  refine s_em20 H hE h2 ho hv hr0 (fun K3 B3 L3 f3 v2 v3 r2 h3 e3 _ _ c2 c3 hs0 hs1 n1 n2 => ?_)
  obtain rfl := sol h3 hs1 (exin e3 hr1) (by decide)
  have em3 := ext0 e3 hr0.1
  have et3 := ext0 e3 hr1.1
  have q1 : v2 = w := by rw [← n1 m hs0.1 hs0.2, em3, hm2, em]; exact hw
  have q2 : v3 = T := by rw [← n2 m hs0.1 hs0.2, em3, hm2, em]; exact hT
  subst q1 q2
  have i2 : (98 + ((2 * (w : Int)) + (T : Int))).toNat = T + 97 + 2 * w + 1 := by omega
  have hP3 := hok_Psi h3 hs0 hs1
  rw [em3, hm2, em, hT, hw] at hP3
  refine w_ist hE h3 hs1.1 hs1.2 (by decide) (by decide) (by omega) (by show 98 + (2 * (w : Int) + T) < 2820; omega) hv ?_ (by decide +kernel) (fun f4 d1 d2 d3 d4 d5 => ?_)
  · rw [i2, kbd203 (by omega)]
    exact ⟨hv.1, hv.2, fun h => by cases h⟩
  have hm4 : f4 m = f3 m := d1 m (fun e => by rw [e, hs1.2] at hs0; exact absurd hs0.2 (by decide))
  have hP4 : Psi (gi (f4 r2)) (gi (f3 m) 12) (gi (f3 m) 13) := by
    rw [em3, hm2, em, hT, hw]
    refine Psi_wr hP3 hs (Nat.le_refl w) (c := w) (j := T + 97 + 2 * w + 1) (fun k hk x1 x2 x3 => ?_) (by omega) (fun i hi => ?_)
    · have := hP3.1 k hk
      have e0 : ((T : Nat) : Int).toNat = T := by omega
      rw [e0] at this
      exact this x1 x2 x3
    · rw [d2, if_neg (by rw [i2]; exact hi)]
  have h4 := d4 (XP_tx h3 hs1 d1 (fun m' hm' => by rw [sol h3 hm' hs0 (by decide)]; exact hP4))
  refine s_em42 H hE h4 ho hv hs0 (fun K5 B5 L5 f5 v2 h5 e5 _ _ b5 ht0 p1 => ?_)
  have em5 := ext0 e5 hs0.1
  have et5 := ext0 e5 hs1.1
  have q3 : v2 = w + 1 := by
    have := p1 m ht0.1 ht0.2
    rw [em5, hm4, em3, hm2, em, hw] at this
    omega
  subst q3
  refine w_put (j := 13) (ci := 12) (lo := 0) (hi := 304) hE h5 fX12_ok fe_191 ht0.1 ht0.2 (by decide) (by decide) rfl (by omega) (by decide) (by decide +kernel) (fun f6 g1 g2 g3 g4 g5 => ?_)
  have htx6 : f6 r2 = f5 r2 := g1 r2 (fun e => by
    have := (exin e5 hs1).2
    rw [e, ht0.2] at this
    exact absurd this (by decide))
  have hP5 := hok_Psi h5 ht0 (exin e5 hs1)
  have h6 := g4 (XP_md h5 ht0 g1 (fun t ht => by
    rw [sol h5 ht (exin e5 hs1) (by decide), g2, g2, if_neg (by decide), if_pos rfl]
    rw [em5, hm4, em3, hm2, em, hT, hw] at hP5
    rw [em5, hm4, em3, hm2, em, hT]
    refine ⟨fun k hk x1 x2 x3 => ?_, hP5.2⟩
    have := hP5.1 k hk x1 x2 x3
    omega))
  have hfin : ∀ j, j ≠ T + 97 + 2 * w → j ≠ T + 97 + 2 * w + 1 → gi (f6 r2) j = gi (f r2) j := fun j hj1 hj2 => by
    rw [htx6, et5, d2, if_neg (by rw [i2]; exact hj2), et3, a2, if_neg (by rw [i1]; exact hj1), et]
  refine hret 0 0 L5 f6 52 _ (Nat.le_refl _) (Nat.le_refl _) (by decide +kernel) ⟨K5, B5, h6, ?_, ?_, ?_, ?_, hfin⟩
  · have s1 : ∀ q ∈ [(203, reg 203 (97 + ((T : Int) + (2 * (w : Int)))).toNat)], q ∈ [(203, 0), (200, 13)] := fun q hq => by rw [reg203] at hq; rw [List.mem_singleton.mp hq]; simp
    have s2 : ∀ q ∈ [(203, reg 203 (98 + ((2 * (w : Int)) + (T : Int))).toNat)], q ∈ [(203, 0), (200, 13)] := fun q hq => by rw [reg203] at hq; rw [List.mem_singleton.mp hq]; simp
    have s0 : ∀ q ∈ ([] : List (Nat × Nat)), q ∈ [(203, 0), (200, 13)] := fun q hq => by cases hq
    exact extC_tr (extC_tr (extC_tr (extC_tr (extC_tr (extC_mono e1 s0) (extC_mono a5 s1)) (extC_mono e3 s0)) (extC_mono d5 s2)) (extC_mono e5 s0)) (extC_mono g5 (fun q hq => by rw [List.mem_singleton.mp hq]; simp))
  · rw [g2, if_pos rfl]
    omega
  · show gi (f6 r2) (T + 97 + 2 * w) = o
    rw [htx6, et5, d2, if_neg (by rw [i2]; omega), et3, a2, if_pos i1.symm]
  · show gi (f6 r2) (T + 97 + 2 * w + 1) = v
    rw [htx6, et5, d2, if_pos i2.symm]
