/-! The next FIELD on the way. -/
theorem hc_nextField {X0 : zC0} (H : ∀ j, j < 342 → CMj X0 j) {K : Nat → Nat} {B : Int} {L : List Nat} {f : Nat → va_E} (hh : hok X0.2.2.1 K B L f) {m a ro F to f0 : Nat} (hm : m ∈ L ∧ K m = 200) (ha : a ∈ L ∧ K a = 201) (hro : ro ∈ L ∧ K ro = 226) (hF6 : F ≤ 6) (hf0 : f0 < F) {w : Int} (hw : (-2147483648) ≤ w ∧ w ≤ 2147483647) (b1 : BJ F (ed (gi (f a)) w) to (gi (f ro))) (b2 : BI2 F (ed (gi (f a)) w) to (gi (f ro)) F) (hp : 1 ≤ gi (f ro) f0) (hp2 : gi (f ro) f0 < 1000000) : HC X0 M_nextField 3 0 [] [.ref m, .int (Int32.ofInt (f0 : Int)), .int (Int32.ofInt w)] K B L f (fun _ _ _ _ r => ∃ g : Nat, r = some (.int (Int32.ofInt (g : Int))) ∧ g < F ∧ gi (f ro) g = gi (f ro) f0 - 1) := by
  obtain ⟨g0, hg0, hE0, hd0⟩ := bf_next b1.1 b2 hf0 hp2 hp
  refine eM.mk ⟨_, rfl⟩ pnX12 (Nat.le_of_ble_eq_true rfl) (fun E hE _ hret => ?_)
  obtain ⟨l0, D0, cy0, ax0⟩ := X0
  have step : ∀ (g : Nat), g ≤ g0 → (¬ (ed (gi (f a)) w f0 g ∧ gi (f ro) g = gi (f ro) f0 - 1) → ∀ (K2 : Nat → Nat) (B2 : Int) (L2 : List Nat) (f2 : Nat → va_E), hok cy0 K2 B2 L2 f2 → extC [] K B L f K2 B2 L2 f2 → eW E 0 0 L2 f2 42 [(0, .ref m), (1, .int (Int32.ofInt (f0 : Int))), (2, .int (Int32.ofInt w)), (3, .int (Int32.ofInt (g : Int)))] []) → ∀ (K1 : Nat → Nat) (B1 : Int) (L1 : List Nat) (f1 : Nat → va_E), hok cy0 K1 B1 L1 f1 → extC [] K B L f K1 B1 L1 f1 → eW E 0 0 L1 f1 2 [(0, .ref m), (1, .int (Int32.ofInt (f0 : Int))), (2, .int (Int32.ofInt w)), (3, .int (Int32.ofInt (g : Int)))] [] := by
    intro g hg kk K1 B1 L1 f1 h1 e1
    have hgF : g < F := by omega
    refine s_nf2 H hE h1 (v0 := (f0 : Int)) (v1 := w) (v2 := (g : Int)) (by omega) hw (by omega) (exin e1 hm) (fun K2 B2 L2 f2 v3 h2 e2 _ _ _ _ hm2 c0 => ?_)
    have e02 := extC_tr e1 e2
    have ha2 := exin e02 ha
    have q3 : gi (f a) (22 + 7 * f0) = v3 := by
      have := (c0 a ha2.1 ha2.2).2
      rw [ext0 e02 ha.1] at this
      have hi : ((22 + (7 * (f0 : Int))) : Int).toNat = 22 + 7 * f0 := by omega
      rw [hi] at this
      exact this
    refine w_callS hE (hc_has h2 v3 (g : Int)) lX12_ok le_125 mt_has (by decide) rfl rfl (by decide) (by decide +kernel) (fun rv L3 f3 _ hp => ?_)
    obtain ⟨K3, B3, h3, e3, rfl, hf3⟩ := hp
    dsimp only at h3 e3 hf3
    have e03 := extC_tr e02 e3
    refine s_nf13 H hE h3 (v0 := (f0 : Int)) (v1 := w) (v2 := (g : Int)) (by omega) hw (by omega) (by split <;> decide) (exin e03 hm) (fun K4 B4 L4 f4 h4 e4 _ _ _ bc hm4 => ?_) (fun K4 B4 L4 f4 h4 e4 _ _ _ bc hm4 => ?_)
    all_goals have e04 := extC_tr e03 e4
    · have hsT : hs v3 g = true := by
        cases hq : hs v3 g with
        | true => rfl
        | false => rw [hq] at bc; simp at bc
      refine w_callV hE (hc_canCome H h4 hm4 (exin e04 ha) (g := g) (by omega) hw) lX12_ok le_487 mt_canCome h4 hm4.1 hm4.2 (by decide) (by decide) (by decide) rfl rfl (by decide) (by decide +kernel) (fun rv L5 f5 _ hp => ?_)
      obtain ⟨K5, B5, h5, e5, rfl⟩ := hp
      dsimp only at h5 e5
      have e05 := extC_tr e04 e5
      rw [ext0 e04 ha.1]
      refine s_nf22 H hE h5 (v0 := (f0 : Int)) (v1 := w) (v2 := (g : Int)) (by omega) hw (by omega) (by split <;> decide) (exin e05 hm) (fun K6 B6 L6 f6 h6 e6 _ _ _ bc6 hm6 => ?_) (fun K6 B6 L6 f6 h6 e6 _ _ _ bc6 hm6 => ?_)
      all_goals have e06 := extC_tr e05 e6
      · have hE2 : ed (gi (f a)) w f0 g := by
          refine ⟨by rw [q3]; exact hsT, ?_⟩
          by_cases h : w ≤ gi (f a) (19 + 7 * g)
          · exact h
          · rw [if_neg h] at bc6
            omega
        have dg := b1.2 g (by omega)
        have cg : ∀ b ∈ L6, K6 b = 226 → (0 : Int) ≤ (g : Int) ∧ gi (f6 b) ((g : Int)).toNat = gi (f ro) g := fun y hy hky => by
          rw [sol h6 ⟨hy, hky⟩ (exin e06 hro) (by decide), Int.toNat_natCast, ext0 e06 hro.1]
          exact ⟨by omega, rfl⟩
        have cf : ∀ b ∈ L6, K6 b = 226 → (0 : Int) ≤ (f0 : Int) ∧ gi (f6 b) ((f0 : Int)).toNat = gi (f ro) f0 := fun y hy hky => by
          rw [sol h6 ⟨hy, hky⟩ (exin e06 hro) (by decide), Int.toNat_natCast, ext0 e06 hro.1]
          exact ⟨by omega, rfl⟩
        by_cases hq : gi (f ro) g = gi (f ro) f0 - 1
        · refine s_nf25a H hE h6 (v0 := (f0 : Int)) (v1 := w) (v2 := (g : Int)) (v3 := gi (f ro) g) (by omega) hw (by omega) (by omega) hm6 cg (fun b hb hk => by rw [show 1 + gi (f ro) g = gi (f ro) f0 by omega]; exact cf b hb hk) (fun K7 B7 L7 f7 h7 e7 _ _ _ _ hm7 _ _ => ?_)
          refine s_nf48 H hE h7 (v0 := (f0 : Int)) (v1 := w) (v2 := (g : Int)) (by omega) hw (by omega) hm7 (fun K8 B8 L8 f8 h8 e8 _ _ _ hm8 => ?_)
          exact hret 0 0 L8 f8 49 _ _ (Nat.le_refl _) (Nat.le_refl _) (by decide +kernel) (fun ft hft => by cases hft; rfl) ⟨K8, B8, h8, extC_tr e06 (extC_tr e7 e8), g, rfl, hgF, hq⟩
        · rcases Int.lt_or_gt_of_ne hq with h | h
          · refine s_nf25d H hE h6 (v0 := (f0 : Int)) (v1 := w) (v2 := (g : Int)) (v3 := gi (f ro) g) (v4 := gi (f ro) f0) (by omega) hw (by omega) (by omega) (by omega) (by omega) hm6 cg cf (fun K7 B7 L7 f7 h7 e7 => ?_)
            intros
            exact kk (fun hn => hq hn.2) K7 B7 L7 f7 h7 (extC_tr e06 e7)
          · refine s_nf25b H hE h6 (v0 := (f0 : Int)) (v1 := w) (v2 := (g : Int)) (v3 := gi (f ro) g) (v4 := gi (f ro) f0) (by omega) hw (by omega) (by omega) (by omega) (by omega) hm6 cg cf (fun K7 B7 L7 f7 h7 e7 => ?_)
            intros
            exact kk (fun hn => hq hn.2) K7 B7 L7 f7 h7 (extC_tr e06 e7)
      · refine kk (fun hn => ?_) K6 B6 L6 f6 h6 e06
        rw [if_pos hn.1.2] at bc6
        omega
    · refine kk (fun hn => ?_) K4 B4 L4 f4 h4 e04
      have h1' := hn.1.1
      rw [q3] at h1'
      rw [if_pos h1'] at bc
      omega
  have go : ∀ (N g : Nat), g + N = g0 → ∀ (K1 : Nat → Nat) (B1 : Int) (L1 : List Nat) (f1 : Nat → va_E), hok cy0 K1 B1 L1 f1 → extC [] K B L f K1 B1 L1 f1 → eW E 0 0 L1 f1 2 [(0, .ref m), (1, .int (Int32.ofInt (f0 : Int))), (2, .int (Int32.ofInt w)), (3, .int (Int32.ofInt (g : Int)))] [] := by
    intro N
    induction N with
    | zero =>
      intro g hg
      have hgg : g = g0 := by omega
      subst hgg
      exact step g (by omega) (fun hn => absurd ⟨hE0, hd0⟩ hn)
    | succ N ih =>
      intro g hg
      refine step g (by omega) (fun _ K2 B2 L2 f2 h2 e2 => ?_)
      refine s_nf42 H hE h2 (v0 := (f0 : Int)) (v1 := w) (v2 := (g : Int)) (by omega) hw (by omega) (exin e2 hm) (fun K3 B3 L3 f3 h3 e3 _ _ _ _ => ?_)
      have : (1 + (g : Int)) = ((g + 1 : Nat) : Int) := by omega
      rw [this]
      exact ih (g + 1) (by omega) K3 B3 L3 f3 h3 (extC_tr e2 e3)
  refine s_nf0 H hE hh (v0 := (f0 : Int)) (v1 := w) (by omega) hw hm (fun K1 B1 L1 f1 h1 e1 _ _ _ => ?_)
  exact go g0 0 (by omega) K1 B1 L1 f1 h1 e1
/-! cross. -/
theorem hm342 {X0 : zC0} (H : ∀ j, j < 342 → CMj X0 j) : CMj X0 342 := by
  intro mi c hc
  have e : conAt 342 = some (94, c342) := rfl
  rw [e] at hc
  obtain ⟨rfl, rfl⟩ := Prod.mk.inj (Option.some.inj hc)
  rw [mt_cross]
  intro K B L f ν μ hh hg
  have hb0 : -2147483648 ≤ ν 0 ∧ ν 0 ≤ 2147483647 := hg.1 0
  have hb1 : -2147483648 ≤ ν 1 ∧ ν 1 ≤ 2147483647 := hg.1 1
  have hb2 : -2147483648 ≤ ν 2 ∧ ν 2 ≤ 2147483647 := hg.1 2
  have hb3 : -2147483648 ≤ ν 3 ∧ ν 3 ≤ 2147483647 := hg.1 3
  have hm : μ 0 ∈ L ∧ K (μ 0) = 200 := hg.2.2.2.1 0 200 rfl
  obtain ⟨a, ha1, ha2, -⟩ := one_ad hh 201 (by decide) (by decide)
  obtain ⟨ro, hro1, hro2, -⟩ := one_ad hh 226 (by decide) (by decide)
  have ha : a ∈ L ∧ K a = 201 := ⟨ha1, ha2⟩
  have hro : ro ∈ L ∧ K ro = 226 := ⟨hro1, hro2⟩
  generalize hmm : μ 0 = m at hm
  have hav : (c342.1.2.1.map (cv ν μ)) = [.ref m, .int (Int32.ofInt (ν 0)), .int (Int32.ofInt (ν 1)), .int (Int32.ofInt (ν 2)), .int (Int32.ofInt (ν 3))] := by
    show [Value.ref (μ 0), Value.int (Int32.ofInt (xv ν (0, [(1, 0)]))), Value.int (Int32.ofInt (xv ν (0, [(1, 1)]))), Value.int (Int32.ofInt (xv ν (0, [(1, 2)]))), Value.int (Int32.ofInt (xv ν (0, [(1, 3)])))] = _
    have : ∀ i, xv ν (0, [(1, i)]) = ν i := fun i => by simp [xv, xvT]
    rw [this, this, this, this, hmm]
  show eM X0 0 yX12_cross cX12_cross 8 (some .int) (zrm 6 0 0) (c342.1.2.1.map (cv ν μ)) L f (cpost X0.2.2.1 c342 K B L f ν μ)
  rw [hav]
  refine eM.mk ⟨_, rfl⟩ pnX12 (Nat.le_of_ble_eq_true rfl) (fun E hE _ hret => ?_)
  obtain ⟨l0, D0, cy0, ax0⟩ := X0
  have fin : ∀ (pc : Nat) (lv : List (Nat × Value)) (x : Int) (K1 : Nat → Nat) (B1 : Int) (L1 : List Nat) (f1 : Nat → va_E), decode cX12_cross pc = .ok (.ireturn, 1) → (-2147483648 ≤ x ∧ x ≤ 2147483647) → hok cy0 K1 B1 L1 f1 → extC [(226, 0)] K B L f K1 B1 L1 f1 → eW E 0 0 L1 f1 pc lv [.int (Int32.ofInt x)] := fun pc lv x K1 B1 L1 f1 hpc hx h1 e1 => by
    refine hret 0 0 L1 f1 pc _ _ (Nat.le_refl _) (Nat.le_refl _) hpc (fun ft hft => by cases hft; rfl) ⟨_, List.mem_singleton.mpr rfl, K1, B1, (fun i => [ν 0, ν 1, ν 2, ν 3, x].getD i 0), μ, h1, e1, ⟨(eok_of (fun i q hq => ?_) (fun i hi => ?_)), fa0, fa0, ?_, fa0, fa0, fa0⟩, ?_, fun i _ => rfl, ?_⟩
    · match i, hq with
      | 0, hq => cases hq; exact hb0
      | 1, hq => cases hq; exact hb1
      | 2, hq => cases hq; exact hb2
      | 3, hq => cases hq; exact hb3
      | 4, hq => cases hq; exact hx
      | i + 5, hq => cases hq
    · match i, hi with
      | 0, hi => exact absurd hi (by decide)
      | 1, hi => exact absurd hi (by decide)
      | 2, hi => exact absurd hi (by decide)
      | 3, hi => exact absurd hi (by decide)
      | 4, hi => exact absurd hi (by decide)
      | i + 5, _ => rfl
    · intro i q hq
      match i, hq with
      | 0, hq => cases hq; rw [hmm]; exact exin e1 hm
      | i + 1, hq => cases hq
    · intro i hi
      match i, hi with
      | 0, _ => rfl
      | 1, _ => rfl
      | 2, _ => rfl
      | 3, _ => rfl
      | i + 4, hi => exact absurd hi (by show ¬ i + 4 < 4; omega)
    · show [Value.int (Int32.ofInt (xv (fun i => [ν 0, ν 1, ν 2, ν 3, x].getD i 0) (0, [(1, 4)])))] = [Value.int (Int32.ofInt x)]
      have : xv (fun i => [ν 0, ν 1, ν 2, ν 3, x].getD i 0) (0, [(1, 4)]) = x := by simp [xv, xvT]
      rw [this]
  have sub : ∀ q ∈ ([] : List (Nat × Nat)), q ∈ [(226, 0)] := fun q hq => by cases hq
  refine s_cr0 H hE hh hb0 hb1 hb2 hb3 hm (fun K1 B1 L1 f1 h1 e1 _ _ _ _ _ => ?_) (fun K1 B1 L1 f1 v4 h1 e1 p0 p1 p2 p3 p4 q1 q0 hm1 c0 => ?_)
  · exact fin 34 _ (-1) K1 B1 L1 f1 (by decide +kernel) (by decide) h1 (extC_mono e1 sub)
  · obtain ⟨fr, hfr⟩ : ∃ n : Nat, ν 0 = n := ⟨(ν 0).toNat, by omega⟩
    obtain ⟨to, hto⟩ : ∃ n : Nat, ν 1 = n := ⟨(ν 1).toNat, by omega⟩
    obtain ⟨F, hF⟩ : ∃ n : Nat, v4 = n := ⟨v4.toNat, by omega⟩
    have e01 : extC [(226, 0)] K B L f K1 B1 L1 f1 := extC_mono e1 sub
    have ha1 := exin e1 ha
    have hro1 := exin e1 hro
    have hF1 : gi (f1 a) 0 = F := by
      have := (c0 a ha1.1 ha1.2).2
      rw [hF] at this
      exact this
    rw [hto, hfr]
    refine w_callV hE (hc_findRoads H h1 hm1 ha1 hro1 hF1 (by omega) (show to < F by omega) (w := ν 2) (by omega)) lX12_ok le_490 mt_findRoads h1 hm1.1 hm1.2 (by decide) (by decide) (by decide) rfl rfl (by decide) (by decide +kernel) (fun r L2 f2 ht hp => ?_)
    obtain ⟨K2, B2, h2, e2, b1, b2⟩ := hp
    dsimp only at h2 e2 b1 b2
    obtain rfl : r = none := ht
    have e02 := extC_tr e01 e2
    have hm2 := exin e2 hm1
    have ha2 := exin e2 ha1
    have hro2 := exin e2 hro1
    have ga2 : gi (f2 a) = gi (f1 a) := ext1 e2 ha1 (fun i hi => by simp at hi)
    rw [← ga2] at b1 b2
    have hd := b1.2 fr (by omega)
    refine s_cr41 H hE h2 (v0 := (fr : Int)) (v1 := (to : Int)) (v2 := ν 2) (v3 := ν 3) (v4 := gi (f2 ro) fr) (by omega) (by omega) p2 p3 hd hm2 (fun y hy hky => by rw [sol h2 ⟨hy, hky⟩ hro2 (by decide), Int.toNat_natCast]; exact ⟨by omega, rfl⟩) (fun K3 B3 L3 f3 h3 e3 _ _ _ _ _ _ _ => ?_) (fun K3 B3 L3 f3 h3 e3 _ _ _ _ b3 _ _ => ?_) (fun K3 B3 L3 f3 h3 e3 _ _ _ _ _ _ _ _ => ?_) (fun K3 B3 L3 f3 h3 e3 _ _ _ i3 n3 lt3 hm3 _ => ?_)
    all_goals have e03 := extC_tr e02 (extC_mono e3 sub)
    · exact fin 58 _ (-1) K3 B3 L3 f3 (by decide +kernel) (by decide) h3 e03
    · exact fin 67 _ _ K3 B3 L3 f3 (by decide +kernel) (by omega) h3 e03
    · exact fin 76 _ (-1) K3 B3 L3 f3 (by decide +kernel) (by decide) h3 e03
    · obtain ⟨nn, hnn⟩ : ∃ n : Nat, ν 3 = n := ⟨(ν 3).toNat, by omega⟩
      -- one FIELD after another
      have go : ∀ (N k g : Nat), k + N = nn + 1 → g < F → gi (f2 ro) g + k = gi (f2 ro) fr → ∀ (K4 : Nat → Nat) (B4 : Int) (L4 : List Nat) (f4 : Nat → va_E), hok cy0 K4 B4 L4 f4 → extC [] K2 B2 L2 f2 K4 B4 L4 f4 → eW E 0 0 L4 f4 83 [(0, .ref m), (1, .int (Int32.ofInt (fr : Int))), (2, .int (Int32.ofInt (to : Int))), (3, .int (Int32.ofInt (ν 2))), (4, .int (Int32.ofInt (ν 3))), (5, .int (Int32.ofInt (gi (f2 ro) fr))), (6, .int (Int32.ofInt (g : Int))), (7, .int (Int32.ofInt (k : Int)))] [] := by
        intro N
        induction N with
        | zero =>
          intro k g hk hg hd4 K4 B4 L4 f4 h4 e4
          refine s_cr83 H hE h4 (v0 := (fr : Int)) (v1 := (to : Int)) (v2 := ν 2) (v3 := ν 3) (v4 := gi (f2 ro) fr) (v5 := (g : Int)) (v6 := (k : Int)) (by omega) (by omega) p2 p3 (by omega) (by omega) (by omega) (exin e4 hm2) (fun K5 B5 L5 f5 h5 e5 _ _ _ _ _ _ _ le5 hm5 => by omega) (fun K5 B5 L5 f5 h5 e5 _ _ _ _ _ _ _ _ hm5 => ?_)
          refine s_cr105 H hE h5 (v0 := (fr : Int)) (v1 := (to : Int)) (v2 := ν 2) (v3 := ν 3) (v4 := gi (f2 ro) fr) (v5 := (g : Int)) (v6 := (k : Int)) (by omega) (by omega) p2 p3 (by omega) (by omega) (by omega) hm5 (fun K6 B6 L6 f6 h6 e6 _ _ _ _ _ _ _ _ => ?_)
          exact fin 107 _ _ K6 B6 L6 f6 (by decide +kernel) (by omega) h6 (extC_tr e02 (extC_mono (extC_tr e4 (extC_tr e5 e6)) sub))
        | succ N ih =>
          intro k g hk hg hd4 K4 B4 L4 f4 h4 e4
          refine s_cr83 H hE h4 (v0 := (fr : Int)) (v1 := (to : Int)) (v2 := ν 2) (v3 := ν 3) (v4 := gi (f2 ro) fr) (v5 := (g : Int)) (v6 := (k : Int)) (by omega) (by omega) p2 p3 (by omega) (by omega) (by omega) (exin e4 hm2) (fun K5 B5 L5 f5 h5 e5 _ _ _ _ _ _ _ le5 hm5 => ?_) (fun K5 B5 L5 f5 h5 e5 _ _ _ _ _ _ _ _ hm5 => by omega)
          have e25 := extC_tr e4 e5
          have ga5 : gi (f5 a) = gi (f2 a) := ext0 e25 ha2.1
          have gr5 : gi (f5 ro) = gi (f2 ro) := ext0 e25 hro2.1
          refine w_callV hE (hc_nextField H h5 hm5 (exin e25 ha2) (exin e25 hro2) (F := F) (to := to) (by omega) hg (w := ν 2) (by omega) (by rw [ga5, gr5]; exact b1) (by rw [ga5, gr5]; exact b2) (by rw [gr5]; omega) (by rw [gr5]; omega)) lX12_ok le_493 mt_nextField h5 hm5.1 hm5.2 (by decide) (by decide) (by decide) rfl rfl (by decide) (by decide +kernel) (fun r L6 f6 _ hp => ?_)
          obtain ⟨K6, B6, h6, e6, g6, rfl, hg6, hd6⟩ := hp
          dsimp only at h6 e6
          rw [gr5] at hd6
          have e26 := extC_tr e25 e6
          refine s_cr97 H hE h6 (v0 := (fr : Int)) (v1 := (to : Int)) (v2 := ν 2) (v3 := ν 3) (v4 := gi (f2 ro) fr) (v5 := (g : Int)) (v6 := (k : Int)) (v7 := (g6 : Int)) (by omega) (by omega) p2 p3 (by omega) (by omega) (by omega) (by omega) (exin e26 hm2) (fun K7 B7 L7 f7 h7 e7 _ _ _ _ _ _ _ _ _ => ?_)
          have : (1 + (k : Int)) = ((k + 1 : Nat) : Int) := by omega
          rw [this]
          exact ih (k + 1) g6 (by omega) hg6 (by omega) K7 B7 L7 f7 h7 (extC_tr e26 e7)
      refine s_cr77 H hE h3 (v0 := (fr : Int)) (v1 := (to : Int)) (v2 := ν 2) (v3 := ν 3) (v4 := gi (f2 ro) fr) (by omega) (by omega) p2 p3 (by omega) hm3 (fun K4 B4 L4 f4 h4 e4 _ _ _ _ _ _ => ?_)
      exact go (nn + 1) 0 fr (by omega) (by omega) (by omega) K4 B4 L4 f4 h4 (extC_tr e3 e4)
