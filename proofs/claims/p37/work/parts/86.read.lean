/-! readText. -/
abbrev mod4 : List (Nat × Nat) := [(200, 7), (200, 8), (200, 9), (200, 10), (200, 11), (200, 12), (200, 13), (200, 14), (200, 17), (200, 18), (200, 19), (200, 20), (200, 21), (203, 0), (205, 0), (206, 0)]
theorem hm412 {X0 : zC0} (H : ∀ j, j < 412 → CMj X0 j) : CMj X0 412 := by
  intro mi c hc
  have e : conAt 412 = some (167, c412) := rfl
  rw [e] at hc
  obtain ⟨rfl, rfl⟩ := Prod.mk.inj (Option.some.inj hc)
  rw [mt_readText]
  intro K B L f ν μ hh hg
  have hm : μ 0 ∈ L ∧ K (μ 0) = 200 := hg.2.2.2.1 0 200 rfl
  have hv0 : 0 ≤ ν 0 ∧ ν 0 ≤ 3 := hg.1 0
  have ha7 := mokA hh (show (zkd 201).1 = 2 by decide) (by decide) (hg.2.2.2.2.1 ((201, (7, [])), (0, [(1, 0)])) (by decide))
  obtain ⟨tx, htx1, htx2, -⟩ := one_ad hh 203 (by decide) (by decide)
  obtain ⟨p, hp1, hp2, -⟩ := one_ad hh 205 (by decide) (by decide)
  obtain ⟨b, hb1, hb2, -⟩ := one_ad hh 206 (by decide) (by decide)
  generalize hmm : μ 0 = m at hm
  have hA : PA K L m tx p b := ⟨hm, ⟨htx1, htx2⟩, ⟨hp1, hp2⟩, ⟨hb1, hb2⟩⟩
  obtain ⟨s, hs⟩ : ∃ s : Nat, ν 0 = s := ⟨(ν 0).toNat, by omega⟩
  rw [hs] at hv0
  have hs4 : s < 4 := by omega
  show eM X0 0 yX12_readText cX12_readText 2 (some .int) (zrm 14 0 0) [.ref (μ 0)] L f (cpost X0.2.2.1 c412 K B L f ν μ)
  rw [hmm]
  refine eM.mk ⟨_, rfl⟩ pnX12 (Nat.le_of_ble_eq_true rfl) (fun E hE _ hret => ?_)
  have ret : ∀ (pc : Nat) (hpc : decode cX12_readText pc = .ok (.ireturn, 1)) (c : Int) (hc : 0 ≤ c ∧ c ≤ 6) (K1 : Nat → Nat) (B1 : Int) (L1 : List Nat) (f1 : Nat → va_E) (lv : List (Nat × Value)), hok X0.2.2.1 K1 B1 L1 f1 → extC mod4 K B L f K1 B1 L1 f1 → eW E 0 0 L1 f1 pc lv [.int (Int32.ofInt c)] := fun pc hpc c hc K1 B1 L1 f1 lv h1 e1 => by
    refine hret 0 0 L1 f1 pc lv _ (Nat.le_refl _) (Nat.le_refl _) hpc (fun ft hft => by cases hft; rfl) ⟨_, List.mem_singleton.mpr rfl, K1, B1, (fun i => [ν 0, c].getD i 0), μ, h1, e1, ?_, ?_, fun i _ => rfl, ?_⟩
    · refine ⟨(eok_of (fun i q hq => ?_) (fun i hi => ?_)), fa0, fa0, ?_, fa0, fa0, fa0⟩
      · match i, hq with
        | 0, hq => cases hq; show (0 : Int) ≤ ν 0 ∧ ν 0 ≤ 3; rw [hs]; exact hv0
        | 1, hq => cases hq; exact hc
        | i + 2, hq => cases hq
      · match i, hi with
        | 0, hi => exact absurd hi (by decide)
        | 1, hi => exact absurd hi (by decide)
        | i + 2, _ => rfl
      · intro i k hk
        match i, hk with
        | 0, hk => cases hk; rw [hmm]; exact exin e1 hm
        | i + 1, hk => cases hk
    · intro i hi
      match i, hi with
      | 0, _ => rfl
      | i + 1, hi => exact absurd hi (by show ¬ i + 1 < 1; omega)
    · show [Value.int (Int32.ofInt (xv (fun i => [ν 0, c].getD i 0) (0, [(1, 1)])))] = [Value.int (Int32.ofInt c)]
      have : xv (fun i => [ν 0, c].getD i 0) (0, [(1, 1)]) = c := by simp [xv, xvT]
      rw [this]
  obtain ⟨l0, D0, cy0, ax0⟩ := X0
  have go : ∀ (N : Nat) (K1 : Nat → Nat) (B1 : Int) (L1 : List Nat) (f1 : Nat → va_E), hok cy0 K1 B1 L1 f1 → extC mod4 K B L f K1 B1 L1 f1 → gi (f1 m) 12 = (705 * s : Nat) → TI (gi (f1 m)) → (∃ w : Nat, gi (f1 m) 13 = w ∧ (w : Int) ≤ gi (f1 m) 8) → 302 - gi (f1 m) 8 ≤ N → eW E 0 0 L1 f1 44 [(0, .ref m)] [] := by
    intro N
    induction N with
    | zero =>
      intro K1 B1 L1 f1 h1 e1 _ _ _ hN
      have := (hok_fld h1 (hA.ext e1).1 (j := 8) (lo := 0) (hi := 301) rfl).2
      omega
    | succ N ih =>
      intro K1 B1 L1 f1 h1 e1 h12 hT ⟨w, hw, hw8⟩ hN
      have hA1 := hA.ext e1
      refine s_rt44 H hE h1 hA1.1 (fun K2 B2 L2 f2 v2 h2 e2 _ _ hm2 _ => ?_) (fun K2 B2 L2 f2 v2 h2 e2 _ hm2 _ => ret 66 (by decide +kernel) 0 (by decide) K2 B2 L2 f2 _ h2 (extC_tr e1 (extC_mono e2 (by decide))))
      have hA2 := hA1.ext e2
      have g2 : ∀ x, x ∈ L1 → gi (f2 x) = gi (f1 x) := fun x hx => ext0 e2 hx
      refine w_callV hE (hc_clause H h2 hA2 (T := 705 * s) (w := w) (by rw [g2 m hA1.1.1, h12]) ⟨s, hs4, rfl⟩ (by rw [g2 m hA1.1.1, hw]) (by rw [g2 m hA1.1.1]; exact hw8) (by rw [g2 m hA1.1.1]; exact hT)) lX12_ok le_302 mt_clause h2 hm2.1 hm2.2 (by decide) (by decide) (by decide) rfl rfl (by decide) (by decide +kernel) (fun r L3 f3 _ hp => ?_)
      obtain ⟨K3, B3, h3, e3, c, rfl, c0, c6, hc⟩ := hp
      dsimp only at h3 e3 hc
      have hA3 := hA2.ext e3
      have e03 : extC mod4 K B L f K3 B3 L3 f3 := extC_tr e1 (extC_tr (extC_mono e2 (by decide)) (extC_mono e3 (by decide)))
      refine s_rt55 H hE h3 ⟨c0, c6⟩ hA3.1 (fun K4 B4 L4 f4 h4 e4 bc hm4 => ?_) (fun K4 B4 L4 f4 h4 e4 bc hm4 => ret 61 (by decide +kernel) c (by omega) K4 B4 L4 f4 _ h4 (extC_tr e03 (extC_mono e4 (by decide))))
      obtain ⟨x1, x2, x3, w', x4, x5⟩ := hc (by omega)
      rw [g2 m hA1.1.1] at x3
      have g4 : gi (f4 m) = gi (f3 m) := ext0 e4 hA3.1.1
      refine x_sub (lv' := [(0, .ref m)]) (fun q hq => by rw [List.mem_singleton.mp hq]; simp) ?_
      exact ih K4 B4 L4 f4 h4 (extC_tr e03 (extC_mono e4 (by decide))) (by rw [g4]; exact x1) (by rw [g4]; exact x2) ⟨w', by rw [g4]; exact x4, by rw [g4]; exact x5⟩ (by rw [g4]; omega)
  refine s_rt0 H hE hh (v0 := (s : Int)) (by omega) hm (fun y hy hky => by
    have := ha7 y hy hky
    simp [xv, xvT] at this
    rw [hs] at this
    exact ⟨by decide, this⟩) (fun K1 B1 L1 f1 h1 e1 _ hm1 _ => ?_)
  have hA1 := hA.ext e1
  have cm := h1.1 m hm1.1
  rw [hm1.2] at cm
  have cm2 : ∃ fs, f1 m = .inr (12, fs) ∧ fs.length = (zkd 200).2.2.length ∧ ∀ (j : Nat) (d : Nat × Int × Int), (zkd 200).2.2[j]? = some d → ∃ v, fs[j]? = some v ∧ fok K1 L1 d v := cm
  obtain ⟨fs, hfm, hlen, hfd⟩ := cm2
  have hjl : 12 < fs.length := by rw [hlen]; decide
  have htx : ∃ v, fs[2]? = some v ∧ fok K1 L1 (2, 203, 0) v := hfd 2 _ rfl
  obtain ⟨v, hv, tx', hv2, ht1, ht2⟩ := htx
  subst hv2
  have ht2' : K1 tx' = 203 := ht2
  obtain rfl := sol h1 ⟨ht1, ht2'⟩ hA1.2.1 (by decide)
  have ct := h1.1 tx' ht1
  rw [ht2'] at ct
  have ct2 : ∃ g, f1 tx' = zIA cy0 2820 g ∧ ∀ i, i < 2820 → bok B1 (kbd 203 i) (g i).toInt := ct
  obtain ⟨g, hft, -⟩ := ct2
  have hmt : m ≠ tx' := fun e => by rw [e, ht2'] at hm1; exact absurd hm1.2 (by decide)
  have e705 : (705 * (s : Int)) = ((705 * s : Nat) : Int) := by omega
  have ex : (Int32.ofInt ((705 * s : Nat) : Int)).toInt = (705 * s : Nat) := i32i (by omega) (by omega)
  rw [e705]
  refine r_put (fs := fs) hE fX12_ok fe_188 hm1.1 hfm hjl (by decide +kernel) ?_
  refine x_aload_n hE (z := 0) (i := 0) (x := m) (by decide +kernel) rfl (by simp) ?_
  refine r_get hE fX12_ok fe_16 hm1.1 (va_up_self _ _ _) (v := .ref tx') (by rw [List.getElem?_set_ne (by decide)]; exact hv) (by decide +kernel) ?_
  refine x_aload_n hE (z := 0) (i := 0) (x := m) (by decide +kernel) rfl (by simp) ?_
  refine r_get hE fX12_ok fe_188 hm1.1 (va_up_self _ _ _) (v := .int (Int32.ofInt ((705 * s : Nat) : Int))) (List.getElem?_set_self hjl) (by decide +kernel) ?_
  refine x_iconst hE (i := 0) (v := Int32.ofInt 0) (by decide +kernel) rfl ?_
  refine h_iast (N0 := 2820) (g := g) hE ht1 (by rw [va_up_ne _ _ (Ne.symm hmt)]; exact hft) (by rw [vp_in_iff]; omega) (by decide +kernel) ?_
  have et : (Int32.ofInt ((705 * s : Nat) : Int)).toNatClampNeg = 705 * s := by
    show (Int32.ofInt ((705 * s : Nat) : Int)).toInt.toNat = 705 * s
    rw [ex]
    omega
  rw [et]
  obtain ⟨h2, e2, m12, t0⟩ := hok_rt h1 hm1 hA1.2.1 hfm hft hs4 (f' := va_up (va_up f1 m (.inr (12, fs.set 12 (.int (Int32.ofInt ((705 * s : Nat) : Int)))))) tx' (zIA cy0 2820 (upd g (705 * s) (Int32.ofInt 0)))) (fun b' q1 q2 => by rw [va_up_ne _ _ q2, va_up_ne _ _ q1]) (by rw [va_up_ne _ _ hmt, va_up_self]) (va_up_self _ _ _)
  generalize va_up (va_up f1 m (.inr (12, fs.set 12 (.int (Int32.ofInt ((705 * s : Nat) : Int)))))) tx' (zIA cy0 2820 (upd g (705 * s) (Int32.ofInt 0))) = f2 at h2 e2 m12 t0 ⊢
  have e02 : extC mod4 K B L f K1 B1 L1 f2 := extC_tr (extC_mono e1 (by decide)) (extC_mono e2 (by decide))
  have hA2 : PA K1 L1 m tx' p b := hA1
  refine s_rt25 H hE h2 hm1 (fun K3 B3 L3 f3 h3 e3 hm3 => ?_)
  have hA3 := hA2.ext e3
  have g3 : ∀ x, x ∈ L1 → gi (f3 x) = gi (f2 x) := fun x hx => ext0 e3 hx
  refine w_put (j := 13) (ci := 12) (lo := 0) (hi := 304) (x := 0) hE h3 fX12_ok fe_191 hm3.1 hm3.2 (by decide) (by decide) rfl (by decide) (by decide) (by decide +kernel) (fun f4 a1 a2 a3 a4 a5 => ?_)
  have h4 := a4 (XP_md h3 hm3 a1 (fun t ht => by
    have et : t = tx' := sol h3 ht hA3.2.1 (by decide)
    subst et
    have hP := hok_Psi h3 hm3 hA3.2.1
    rw [a2, a2, if_neg (by decide), if_pos rfl, g3 m hm1.1, m12]
    rw [g3 m hm1.1, m12] at hP
    refine ⟨fun k hk y1 _ _ => ?_, hP.2⟩
    rw [Int.toNat_natCast, g3 t ht1, t0] at y1
    omega))
  have hA4 : PA K3 L3 m tx' p b := hA3
  have e04 : extC mod4 K B L f K3 B3 L3 f4 := extC_tr e02 (extC_tr (extC_mono e3 (by decide)) (extC_mono a5 (fun q hq => by rw [List.mem_singleton.mp hq]; decide)))
  refine s_rt30 H hE h4 hm3 (fun K5 B5 L5 f5 h5 e5 hm5 _ _ => ?_)
  have gm5 : ∀ i, i ≠ 7 → i ≠ 21 → gi (f5 m) i = gi (f4 m) i := fun i hi hj => xg e5 hA4.1 (by simp; exact ⟨hi, hj⟩)
  refine w_next H hE h5 hm5 (by decide) (by decide) (by decide +kernel) (fun K6 B6 L6 f6 h6 e6 n1 n2 => ?_)
  have hm6 := exin e6 hm5
  refine go 302 K6 B6 L6 f6 h6 (extC_tr e04 (extC_tr (extC_mono e5 (by decide)) (extC_mono e6 (by decide)))) ?_ n2 ⟨0, ?_, ?_⟩ ?_
  · rw [xg e6 hm5 (by decide), gm5 12 (by decide) (by decide), a2, if_neg (by decide), g3 m hm1.1, m12]
  · rw [xg e6 hm5 (by decide), gm5 13 (by decide) (by decide), a2, if_pos rfl]
    rfl
  · exact (hok_fld h6 hm6 (j := 8) (lo := 0) (hi := 301) rfl).1
  · have := (hok_fld h6 hm6 (j := 8) (lo := 0) (hi := 301) rfl).1
    omega
