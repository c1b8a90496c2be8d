/-! What is laid aside. -/
theorem hm324 {X0 : zC0} (H : ∀ j, j < 324 → CMj X0 j) : CMj X0 324 := by
  intro mi c hc
  have e : conAt 324 = some (76, c324) := rfl
  rw [e] at hc
  obtain ⟨rfl, rfl⟩ := Prod.mk.inj (Option.some.inj hc)
  rw [mt_begin]
  intro K B L f ν μ hh hg
  have hm : μ 0 ∈ L ∧ K (μ 0) = 200 := hg.2.2.2.1 0 200 rfl
  obtain ⟨a, ha1, ha2, -⟩ := one_ad hh 201 (by decide) (by decide)
  obtain ⟨b, hb1, hb2, -⟩ := one_ad hh 217 (by decide) (by decide)
  generalize hmm : μ 0 = m at hm
  show eM X0 3 yX12_begin cX12_begin 2 none (zrm 2 0 0) [.ref (μ 0)] L f (cpost X0.2.2.1 c324 K B L f ν μ)
  rw [hmm]
  refine eM.mk rfl pnX12 (Nat.le_of_ble_eq_true rfl) (fun E hE _ hret => ?_)
  obtain ⟨l0, D0, cy0, ax0⟩ := X0
  have hmods : ∀ k, k < 114 → (217, reg 217 k) ∈ c324.2.1 := by decide +kernel
  have hmods2 : ∀ i, (201, reg 201 i) ∉ c324.2.1 := fun i hi => by simp [c324] at hi
  have go : ∀ (N k : Nat) (K1 : Nat → Nat) (B1 : Int) (L1 : List Nat) (f1 : Nat → va_E), k + N = 114 → hok cy0 K1 B1 L1 f1 → extC c324.2.1 K B L f K1 B1 L1 f1 → (∀ j, j < k → gi (f1 b) j = gi (f a) j) → eW E 0 0 L1 f1 2 [(0, .ref m), (1, .int (Int32.ofInt (k : Int)))] [] := by
    intro N
    induction N with
    | zero =>
      intro k K1 B1 L1 f1 hk h1 e1 hs
      refine s_bg2 H hE h1 (by omega) (exin e1 hm) (fun K2 B2 L2 f2 v r h2 e2 b2 _ _ _ _ => by omega) (fun K2 B2 L2 f2 h2 e2 _ hm2 => ?_)
      have e02 := extC_tr e1 (extC_mono e2 (by decide))
      refine s_bg26 H hE h2 (by omega) hm2 (fun K3 B3 L3 f3 v1 v2 h3 e3 _ _ _ hm3 c38 _ _ _ => ?_)
      have e03 := extC_tr e02 (extC_mono e3 (by decide))
      have ha3 := exin e03 ⟨ha1, ha2⟩
      have hb3 := exin e03 ⟨hb1, hb2⟩
      have hbv : ∀ j, j < 114 → gi (f3 b) j = gi (f a) j := fun j hj => by
        rw [ext1 e3 (exin e02 ⟨hb1, hb2⟩) (fun i hi => by simp at hi), ext0 e2 (exin e1 ⟨hb1, hb2⟩).1, hs j (by omega)]
      have hav : ∀ j, gi (f3 a) j = gi (f a) j := fun j => ext_gi e03 ha1 ha2 (hmods2 j)
      have cA : ∀ (j : Nat) (v : Int), gi (f a) j = v → ∀ x ∈ L3, K3 x = 201 → (0 : Int) ≤ (j : Int) ∧ gi (f3 x) ((j : Int)).toNat = v := fun j v hv x hx hkx => by
        rw [sol h3 ⟨hx, hkx⟩ ha3 (by decide), Int.toNat_natCast, hav, hv]
        exact ⟨by omega, rfl⟩
      have cB : ∀ (j : Nat) (v : Int), j < 114 → gi (f a) j = v → ∀ x ∈ L3, K3 x = 217 → (0 : Int) ≤ (j : Int) ∧ gi (f3 x) ((j : Int)).toNat = v := fun j v hj hv x hx hkx => by
        rw [sol h3 ⟨hx, hkx⟩ hb3 (by decide), Int.toNat_natCast, hbv j hj, hv]
        exact ⟨by omega, rfl⟩
      have bA : ∀ j, j < 114 → bok B (kbd 201 j) (gi (f a) j) := fun j hj => arr_bd hh ⟨ha1, ha2⟩ (by decide) (by show j < 17938; omega)
      have b0 := bA 0 (by decide)
      have b1 := bA 1 (by decide)
      have b11 := bA 11 (by decide)
      have b12 := bA 12 (by decide)
      refine hret 0 0 L3 f3 67 _ (Nat.le_refl _) (Nat.le_refl _) (by decide +kernel) ⟨_, List.mem_singleton.mpr rfl, K3, B3, (fun i => [gi (f a) 0, gi (f a) 1, gi (f a) 11, gi (f a) 12].getD i 0), μ, h3, e03, ⟨(eok_of (fun i q hq => ?_) (fun i hi => ?_)), fa0, fa0, ?_, ?_, fa0, fa0⟩, (fun i hi => absurd hi (by show ¬ i < 0; omega)), fun i _ => rfl, rfl⟩
      · match i, hq with
        | 0, hq => cases hq; exact ⟨b0.1, b0.2.1⟩
        | 1, hq => cases hq; exact ⟨b1.1, b1.2.1⟩
        | 2, hq => cases hq; exact ⟨b11.1, b11.2.1⟩
        | 3, hq => cases hq; exact ⟨b12.1, b12.2.1⟩
        | i + 4, hq => cases hq
      · match i, hi with
        | 0, hi => exact absurd hi (by decide)
        | 1, hi => exact absurd hi (by decide)
        | 2, hi => exact absurd hi (by decide)
        | 3, hi => exact absurd hi (by decide)
        | i + 4, _ => rfl
      · intro i q hq
        match i, hq with
        | 0, hq => cases hq; rw [hmm]; exact hm3
        | i + 1, hq => cases hq
      · refine fa_cons (Amok h3 (show (zkd 217).1 = 2 by decide) (by decide) (fun x hx hkx => ?_)) (fa_cons (Amok h3 (show (zkd 201).1 = 2 by decide) (by decide) (fun x hx hkx => ?_)) (fa_cons (Amok h3 (show (zkd 217).1 = 2 by decide) (by decide) (fun x hx hkx => ?_)) (fa_cons (Amok h3 (show (zkd 201).1 = 2 by decide) (by decide) (fun x hx hkx => ?_)) (fa_cons (Amok h3 (show (zkd 217).1 = 2 by decide) (by decide) (fun x hx hkx => ?_)) (fa_cons (Amok h3 (show (zkd 201).1 = 2 by decide) (by decide) (fun x hx hkx => ?_)) (fa_cons (Amok h3 (show (zkd 217).1 = 2 by decide) (by decide) (fun x hx hkx => ?_)) (fa_cons (Amok h3 (show (zkd 201).1 = 2 by decide) (by decide) (fun x hx hkx => ?_)) (fa_cons (Fmok h3 (show (zkd 200).1 = 1 by decide) (j := 38) rfl (by decide) (fun x hx hkx => ?_)) fa0))))))))
        · have := cB 0 _ (by decide) rfl x hx hkx
          simpa [xv, xvT] using this
        · have := cA 0 _ rfl x hx hkx
          simpa [xv, xvT] using this
        · have := cB 1 _ (by decide) rfl x hx hkx
          simpa [xv, xvT] using this
        · have := cA 1 _ rfl x hx hkx
          simpa [xv, xvT] using this
        · have := cB 11 _ (by decide) rfl x hx hkx
          simpa [xv, xvT] using this
        · have := cA 11 _ rfl x hx hkx
          simpa [xv, xvT] using this
        · have := cB 12 _ (by decide) rfl x hx hkx
          simpa [xv, xvT] using this
        · have := cA 12 _ rfl x hx hkx
          simpa [xv, xvT] using this
        · have := c38 x hx hkx
          simpa [xv, xvT] using this
    | succ N ih =>
      intro k K1 B1 L1 f1 hk h1 e1 hs
      refine s_bg2 H hE h1 (by omega) (exin e1 hm) (fun K2 B2 L2 f2 v r h2 e2 b2 bv hm2 hr2 cv => ?_) (fun K2 B2 L2 f2 h2 e2 b2 hm2 => by omega)
      have e02 := extC_tr e1 (extC_mono e2 (by decide))
      have ha := exin e02 ⟨ha1, ha2⟩
      have hb := exin e02 ⟨hb1, hb2⟩
      obtain rfl := sol h2 hr2 hb (by decide)
      have qv : gi (f2 a) k = v := by
        have := (cv a ha.1 ha.2).2
        rw [Int.toNat_natCast] at this
        exact this
      have hbd := arr_bd h2 ha (j := k) (by decide) (by show k < 17938; omega)
      rw [← bdA k (by omega), qv] at hbd
      refine w_ist hE h2 hr2.1 hr2.2 (by decide) (by decide) (by omega) (by show (k : Int) < 114; omega) bv (by rw [Int.toNat_natCast]; exact hbd) (by decide +kernel) (fun f3 a1 a2 a3 a4 a5 => ?_)
      have h3 := a4 (XP_oth h2 hr2.2 a1 (fun i hi => by cases hi))
      have e03 : extC c324.2.1 K B L f K2 B2 L2 f3 := extC_tr e02 (extC_mono a5 (fun q hq => by rw [List.mem_singleton.mp hq, Int.toNat_natCast]; exact hmods k (by omega)))
      refine s_bg20 H hE h3 (by omega) hm2 (fun K4 B4 L4 f4 h4 e4 _ hm4 => ?_)
      have : (1 + (k : Int)) = ((k + 1 : Nat) : Int) := by omega
      rw [this]
      refine ih (k + 1) K4 B4 L4 f4 (by omega) h4 (extC_tr e03 (extC_mono e4 (by decide))) (fun j hj => ?_)
      rw [ext0 e4 hr2.1, a2, Int.toNat_natCast]
      by_cases hjk : j = k
      · rw [if_pos hjk, hjk, ← qv]
        exact ext_gi e02 ha1 ha2 (hmods2 k)
      · rw [if_neg hjk, ext0 e2 (exin e1 ⟨hb1, hb2⟩).1, hs j (by omega)]
  refine s_bg0 H hE hh hm (fun K1 B1 L1 f1 h1 e1 hm1 => ?_)
  exact go 114 0 K1 B1 L1 f1 rfl h1 (extC_mono e1 (by decide)) (fun j hj => absurd hj (by omega))
