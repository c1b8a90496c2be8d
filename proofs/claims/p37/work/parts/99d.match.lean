/-! match. -/
abbrev modM : List (Nat × Nat) := [(200, 23), (200, 24), (200, 30), (200, 31), (200, 35), (200, 36), (207, 0), (208, 0), (209, 0), (210, 0), (211, 0), (212, 0), (213, 0), (214, 0), (215, 0), (219, 0), (220, 0), (221, 0), (222, 0), (223, 0)]
theorem reg223 (i : Nat) : reg 223 i = 0 := rfl
theorem hm390 {X0 : zC0} (H : ∀ j, j < 390 → CMj X0 j) : CMj X0 390 := by
  intro mi c hc
  have e : conAt 390 = some (137, c390) := rfl
  rw [e] at hc
  obtain ⟨rfl, rfl⟩ := Prod.mk.inj (Option.some.inj hc)
  rw [mt_match]
  intro K B L f ν μ hh hg
  have hb0 : -2147483648 ≤ ν 0 ∧ ν 0 ≤ 2147483647 := hg.1 0
  have hb1 : -2147483648 ≤ ν 1 ∧ ν 1 ≤ 2147483647 := hg.1 1
  have hb2 : -2147483648 ≤ ν 2 ∧ ν 2 ≤ 2147483647 := hg.1 2
  have hm : μ 0 ∈ L ∧ K (μ 0) = 200 := hg.2.2.2.1 0 200 rfl
  obtain ⟨a, ha1, ha2, -⟩ := one_ad hh 201 (by decide) (by decide)
  obtain ⟨wk, wk1, wk2, -⟩ := one_ad hh 219 (by decide) (by decide)
  obtain ⟨gr, gr1, gr2, -⟩ := one_ad hh 220 (by decide) (by decide)
  obtain ⟨od, od1, od2, -⟩ := one_ad hh 222 (by decide) (by decide)
  have ha : a ∈ L ∧ K a = 201 := ⟨ha1, ha2⟩
  have hwk : wk ∈ L ∧ K wk = 219 := ⟨wk1, wk2⟩
  have hgr : gr ∈ L ∧ K gr = 220 := ⟨gr1, gr2⟩
  have hod : od ∈ L ∧ K od = 222 := ⟨od1, od2⟩
  generalize hmm : μ 0 = m at hm
  generalize hx : ν 0 = x at hb0
  generalize hy : ν 1 = y at hb1
  generalize hz : ν 2 = z at hb2
  have hav : (c390.1.2.1.map (cv ν μ)) = [.ref m, .int (Int32.ofInt x), .int (Int32.ofInt y), .int (Int32.ofInt z)] := by
    show [Value.ref (μ 0), Value.int (Int32.ofInt (xv ν (0, [(1, 0)]))), Value.int (Int32.ofInt (xv ν (0, [(1, 1)]))), Value.int (Int32.ofInt (xv ν (0, [(1, 2)])))] = _
    have : ∀ i, xv ν (0, [(1, i)]) = ν i := fun i => by simp [xv, xvT]
    rw [this, this, this, hmm, hx, hy, hz]
  show eM X0 0 yX12_match cX12_match 9 (some .int) (zrm 9 0 0) (c390.1.2.1.map (cv ν μ)) L f (cpost X0.2.2.1 c390 K B L f ν μ)
  rw [hav]
  refine eM.mk ⟨_, rfl⟩ pnX12 (Nat.le_of_ble_eq_true rfl) (fun E hE _ hret => ?_)
  obtain ⟨l0, D0, cy0, ax0⟩ := X0
  have sub : ∀ q ∈ ([] : List (Nat × Nat)), q ∈ modM := fun q hq => by cases hq
  have fin : ∀ (pc : Nat) (lv : List (Nat × Value)) (v : Int) (K1 : Nat → Nat) (B1 : Int) (L1 : List Nat) (f1 : Nat → va_E), decode cX12_match pc = .ok (.ireturn, 1) → (-2147483648 ≤ v ∧ v ≤ 2147483647) → hok cy0 K1 B1 L1 f1 → extC modM K B L f K1 B1 L1 f1 → eW E 0 0 L1 f1 pc lv [.int (Int32.ofInt v)] := fun pc lv v K1 B1 L1 f1 hpc hv h1 e1 => by
    refine hret 0 0 L1 f1 pc _ _ (Nat.le_refl _) (Nat.le_refl _) hpc (fun ft hft => by cases hft; rfl) ⟨_, List.mem_singleton.mpr rfl, K1, B1, (fun i => [x, y, z, v].getD i 0), μ, h1, e1, ⟨(eok_of (fun i q hq => ?_) (fun i hi => ?_)), fa0, fa0, ?_, fa0, fa0, fa0⟩, ?_, fun i _ => rfl, ?_⟩
    · match i, hq with
      | 0, hq => cases hq; exact hb0
      | 1, hq => cases hq; exact hb1
      | 2, hq => cases hq; exact hb2
      | 3, hq => cases hq; exact hv
      | i + 4, hq => cases hq
    · match i, hi with
      | 0, hi => exact absurd hi (by decide)
      | 1, hi => exact absurd hi (by decide)
      | 2, hi => exact absurd hi (by decide)
      | 3, hi => exact absurd hi (by decide)
      | i + 4, _ => rfl
    · intro i q hq
      match i, hq with
      | 0, hq => cases hq; rw [hmm]; exact exin e1 hm
      | i + 1, hq => cases hq
    · intro i hi
      match i, hi with
      | 0, _ => exact hx.symm
      | 1, _ => exact hy.symm
      | 2, _ => exact hz.symm
      | i + 3, hi => exact absurd hi (by show ¬ i + 3 < 3; omega)
    · show [Value.int (Int32.ofInt (xv (fun i => [x, y, z, v].getD i 0) (0, [(1, 3)])))] = [Value.int (Int32.ofInt v)]
      have : xv (fun i => [x, y, z, v].getD i 0) (0, [(1, 3)]) = v := by simp [xv, xvT]
      rw [this]
  obtain ⟨P, hP, hP8⟩ : ∃ P : Nat, gi (f a) 1 = P ∧ P ≤ 8 := by
    have h := arr_bd hh ha (j := 1) (by decide) (by decide)
    have h1 : (0 : Int) ≤ gi (f a) 1 ∧ gi (f a) 1 ≤ 8 := ⟨h.1, h.2.1⟩
    exact ⟨(gi (f a) 1).toNat, by omega, by omega⟩
  obtain ⟨F, hF, hF6⟩ : ∃ F : Nat, gi (f a) 0 = F ∧ F ≤ 6 := by
    have h := arr_bd hh ha (j := 0) (by decide) (by decide)
    have h1 : (0 : Int) ≤ gi (f a) 0 ∧ gi (f a) 0 ≤ 6 := ⟨h.1, h.2.1⟩
    exact ⟨(gi (f a) 0).toNat, by omega, by omega⟩
  have ga : ∀ {mods : List (Nat × Nat)} {K1 : Nat → Nat} {B1 : Int} {L1 : List Nat} {f1 : Nat → va_E}, extC mods K B L f K1 B1 L1 f1 → (201, 1) ∉ mods → gi (f1 a) 1 = gi (f a) 1 := fun e1 hn => ext_gi e1 ha1 ha2 hn
  refine s_mt0 H hE hh (v0 := x) (v1 := y) (v2 := z) hb0 hb1 hb2 hm (fun K1 B1 L1 f1 h1 e1 _ _ _ hm1 => ?_)
  have ha1' := exin e1 ha
  have ga1 : gi (f1 a) = gi (f a) := ext0 e1 ha1
  refine w_callV hE (hc_layWorkers H h1 hm1 ha1' (exin e1 hwk) (exin e1 hgr) (exin e1 hod) (P := P) (F := F) (by rw [ga1]; exact hP) (by rw [ga1]; exact hF) hP8 hF6 hb0 hb1) lX12_ok le_478 mt_layWorkers h1 hm1.1 hm1.2 (by decide) (by decide) (by decide) rfl rfl (by decide) (by decide +kernel) (fun r L2 f2 _ hp => ?_)
  obtain ⟨K2, B2, h2, e2, c, rfl, c0, c1, hlay⟩ := hp
  dsimp only at h2 e2 hlay
  have e02 : extC modM K B L f K2 B2 L2 f2 := extC_tr (extC_mono e1 sub) (extC_mono e2 (by decide))
  have ga2 : gi (f2 a) 1 = P := by
    rw [ext_gi e2 ha1'.1 ha1'.2 (by decide), ga1]
    exact hP
  -- where the person stands
  have look : ∀ (nb : Nat), 1 ≤ nb → nb ≤ 6 → ∀ (k0 : Nat), k0 < nb → ∀ (zb : 0 ≤ z ∧ z ≤ 7) (K3 : Nat → Nat) (B3 : Int) (L3 : List Nat) (f3 : Nat → va_E), hok cy0 K3 B3 L3 f3 → extC modM K B L f K3 B3 L3 f3 → gi (f3 wk) k0 = z → ∀ (v5 v6 : Int), (-2147483648 ≤ v5 ∧ v5 ≤ 2147483647) → (0 ≤ v6 ∧ v6 ≤ 1) → ∀ (N k : Nat), k + N = k0 → ∀ (K4 : Nat → Nat) (B4 : Int) (L4 : List Nat) (f4 : Nat → va_E), hok cy0 K4 B4 L4 f4 → extC [] K3 B3 L3 f3 K4 B4 L4 f4 → eW E 0 0 L4 f4 172 [(0, .ref m), (1, .int (Int32.ofInt x)), (2, .int (Int32.ofInt y)), (3, .int (Int32.ofInt z)), (4, .int (Int32.ofInt (nb : Int))), (5, .int (Int32.ofInt v5)), (6, .int (Int32.ofInt v6)), (7, .int (Int32.ofInt (k : Int)))] [] := by
    intro nb nb1 nb6 k0 hk0 zb K3 B3 L3 f3 h3 e3 hz3 v5 v6 b5 b6 N
    have hm3 := exin e3 hm
    have hw3 := exin e3 hwk
    have out : ∀ (k : Nat), k ≤ k0 → ∀ (K5 : Nat → Nat) (B5 : Int) (L5 : List Nat) (f5 : Nat → va_E), hok cy0 K5 B5 L5 f5 → extC [] K3 B3 L3 f3 K5 B5 L5 f5 → eW E 0 0 L5 f5 189 [(0, .ref m), (1, .int (Int32.ofInt x)), (2, .int (Int32.ofInt y)), (3, .int (Int32.ofInt z)), (4, .int (Int32.ofInt (nb : Int))), (5, .int (Int32.ofInt v5)), (6, .int (Int32.ofInt v6)), (7, .int (Int32.ofInt (k : Int)))] [] := fun k hk K5 B5 L5 f5 h5 e5 => by
      refine s_mt189 H hE h5 (v0 := x) (v1 := y) (v2 := z) (v3 := (nb : Int)) (v4 := v5) (v5 := v6) (v6 := (k : Int)) hb0 hb1 hb2 (by omega) b5 b6 (by omega) (exin e5 hm3) (fun K6 B6 L6 f6 v7 v8 h6 e6 _ _ _ _ _ _ _ b7 _ _ _ _ => ?_)
      exact fin 201 _ v7 K6 B6 L6 f6 (by decide +kernel) (by omega) h6 (extC_tr e3 (extC_mono (extC_tr e5 e6) sub))
    induction N with
    | zero =>
      intro k hk K4 B4 L4 f4 h4 e4
      have hkk : k = k0 := by omega
      subst hkk
      refine s_mt172a H hE h4 (v0 := x) (v1 := y) (v2 := z) (v3 := (nb : Int)) (v4 := v5) (v5 := v6) (v6 := (k : Int)) hb0 hb1 zb (by omega) b5 b6 (by omega) (exin e4 hm3) (fun b hb hkb => ?_) (fun K5 B5 L5 f5 h5 e5 => ?_)
      · rw [sol h4 ⟨hb, hkb⟩ (exin e4 hw3) (by decide), Int.toNat_natCast, ext0 e4 hw3.1]
        exact ⟨by omega, hz3⟩
      · intros
        exact out k (Nat.le_refl _) K5 B5 L5 f5 h5 (extC_tr e4 e5)
    | succ N ih =>
      intro k hk K4 B4 L4 f4 h4 e4
      refine s_mt172 H hE h4 (v0 := x) (v1 := y) (v2 := z) (v3 := (nb : Int)) (v4 := v5) (v5 := v6) (v6 := (k : Int)) hb0 hb1 hb2 (by omega) b5 b6 (by omega) (exin e4 hm3) (fun K5 B5 L5 f5 v7 h5 e5 _ _ _ _ _ _ _ _ hm5 _ => ?_) (fun K5 B5 L5 f5 v7 h5 e5 => ?_)
      · refine s_mt183 H hE h5 (v0 := x) (v1 := y) (v2 := z) (v3 := (nb : Int)) (v4 := v5) (v5 := v6) (v6 := (k : Int)) hb0 hb1 hb2 (by omega) b5 b6 (by omega) hm5 (fun K6 B6 L6 f6 h6 e6 => ?_)
        intros
        have w1 : (1 + (k : Int)) = ((k + 1 : Nat) : Int) := by omega
        rw [w1]
        exact ih (k + 1) (by omega) K6 B6 L6 f6 h6 (extC_tr e4 (extC_tr e5 e6))
      · intros
        exact out k (by omega) K5 B5 L5 f5 h5 (extC_tr e4 e5)
  -- one order after another
  have loop : ∀ (nb : Nat), 1 ≤ nb → nb ≤ 6 → (z = -1 ∨ (0 ≤ z ∧ z ≤ 7 ∧ ∃ k0 : Nat, k0 < nb ∧ gi (f2 wk) k0 = z)) → ∀ (N : Nat) (v5 v6 : Int), (-2147483648 ≤ v5 ∧ v5 ≤ 2147483647) → (0 ≤ v6 ∧ v6 ≤ 1) → ∀ (K3 : Nat → Nat) (B3 : Int) (L3 : List Nat) (f3 : Nat → va_E), hok cy0 K3 B3 L3 f3 → extC modM K B L f K3 B3 L3 f3 → gi (f3 wk) = gi (f2 wk) → (v6 = 1 → inj6 nb (gi (f3 od)) ∧ 46656 - val6 (gi (f3 od)) nb ≤ N) → eW E 0 0 L3 f3 50 [(0, .ref m), (1, .int (Int32.ofInt x)), (2, .int (Int32.ofInt y)), (3, .int (Int32.ofInt z)), (4, .int (Int32.ofInt (nb : Int))), (5, .int (Int32.ofInt v5)), (6, .int (Int32.ofInt v6))] [] := by
    intro nb nb1 nb6 hz0 N
    have over : ∀ (v5 v6 : Int), (-2147483648 ≤ v5 ∧ v5 ≤ 2147483647) → (0 ≤ v6 ∧ v6 ≤ 1) → ∀ (K3 : Nat → Nat) (B3 : Int) (L3 : List Nat) (f3 : Nat → va_E), hok cy0 K3 B3 L3 f3 → extC modM K B L f K3 B3 L3 f3 → gi (f3 wk) = gi (f2 wk) → eW E 0 0 L3 f3 161 [(0, .ref m), (1, .int (Int32.ofInt x)), (2, .int (Int32.ofInt y)), (3, .int (Int32.ofInt z)), (4, .int (Int32.ofInt (nb : Int))), (5, .int (Int32.ofInt v5)), (6, .int (Int32.ofInt v6))] [] := fun v5 v6 b5 b6 K3 B3 L3 f3 h3 e3 gw => by
      rcases hz0 with hz1 | ⟨z1, z2, k0, k1, k2⟩
      · rw [hz1]
        refine s_mt161a H hE h3 (v0 := x) (v1 := y) (v2 := (nb : Int)) (v3 := v5) (v4 := v6) hb0 hb1 (by omega) b5 b6 (exin e3 hm) (fun K4 B4 L4 f4 h4 e4 => ?_)
        intros
        exact fin 168 _ v5 K4 B4 L4 f4 (by decide +kernel) b5 h4 (extC_tr e3 (extC_mono e4 sub))
      · refine s_mt161b H hE h3 (v0 := x) (v1 := y) (v2 := z) (v3 := (nb : Int)) (v4 := v5) (v5 := v6) hb0 hb1 ⟨z1, z2⟩ (by omega) b5 b6 (exin e3 hm) (fun K4 B4 L4 f4 h4 e4 => ?_)
        intros
        exact look nb nb1 nb6 k0 k1 ⟨z1, z2⟩ K4 B4 L4 f4 h4 (extC_tr e3 (extC_mono e4 sub)) (by rw [ext0 e4 (exin e3 hwk).1, gw]; exact k2) v5 v6 b5 b6 k0 0 (by omega) K4 B4 L4 f4 h4 extC_rf
    induction N with
    | zero =>
      intro v5 v6 b5 b6 K3 B3 L3 f3 h3 e3 gw hv
      refine s_mt50 H hE h3 (v0 := x) (v1 := y) (v2 := z) (v3 := (nb : Int)) (v4 := v5) (v5 := v6) hb0 hb1 hb2 (by omega) b5 b6 (exin e3 hm) (fun K4 B4 L4 f4 h4 e4 _ _ _ _ _ c6 hm4 => ?_) (fun K4 B4 L4 f4 h4 e4 _ _ _ _ _ c6 hm4 => ?_)
      · exfalso
        have h9 := (hv (by omega)).2
        have := (val6_b (od_b h3 (exin e3 hod)) nb nb6).2
        omega
      · exact over v5 v6 b5 b6 K4 B4 L4 f4 h4 (extC_tr e3 (extC_mono e4 sub)) (by rw [ext0 e4 (exin e3 hwk).1, gw])
    | succ N ih =>
      intro v5 v6 b5 b6 K3 B3 L3 f3 h3 e3 gw hv
      refine s_mt50 H hE h3 (v0 := x) (v1 := y) (v2 := z) (v3 := (nb : Int)) (v4 := v5) (v5 := v6) hb0 hb1 hb2 (by omega) b5 b6 (exin e3 hm) (fun K4 B4 L4 f4 h4 e4 _ _ _ _ _ c6 hm4 => ?_) (fun K4 B4 L4 f4 h4 e4 _ _ _ _ _ c6 hm4 => ?_)
      · obtain ⟨hinj, hval⟩ := hv (by omega)
        refine s_mt61 H hE h4 (v0 := x) (v1 := y) (v2 := z) (v3 := (nb : Int)) (v4 := v5) (v5 := v6) (v6 := 0) (v7 := 0) hb0 hb1 hb2 (by omega) b5 b6 (by decide) (by decide) hm4 (fun K5 B5 L5 f5 v8 v9 h5 e5 _ _ _ _ _ _ _ _ b8 b9 _ _ hm5 => ?_)
        refine s_mt97 H hE h5 (v0 := x) (v1 := y) (v2 := z) (v3 := (nb : Int)) (v4 := v5) (v5 := v6) (v6 := v8) (v7 := v9) hb0 hb1 hb2 (by omega) b5 b6 b8 (by omega) hm5 (fun K6 B6 L6 f6 v10 h6 e6 _ _ _ _ _ _ _ _ b10 _ hm6 => ?_)
        refine s_mt134 H hE h6 (v0 := x) (v1 := y) (v2 := z) (v3 := (nb : Int)) (v4 := v5) (v5 := v6) (v6 := v8) (v7 := v10) hb0 hb1 hb2 (by omega) b5 b6 b8 b10 hm6 (fun K7 B7 L7 f7 v11 h7 e7 _ _ _ _ _ _ _ _ b11 _ _ hm7 => ?_)
        have e45 := extC_tr e4 e5
        have e05 : extC modM K B L f K5 B5 L5 f5 := extC_tr e3 (extC_mono e45 sub)
        have e06 : extC modM K B L f K6 B6 L6 f6 := extC_tr e05 (extC_mono e6 (by decide))
        have e07 : extC modM K B L f K7 B7 L7 f7 := extC_tr e06 (extC_mono e7 sub)
        have go7 : gi (f7 od) = gi (f3 od) := by rw [ext0 e7 (exin e06 hod).1, xa e6 (exin e05 hod) reg222 (by decide), ext0 e45 (exin e3 hod).1]
        have gw7 : gi (f7 wk) = gi (f2 wk) := by rw [ext0 e7 (exin e06 hwk).1, xa e6 (exin e05 hwk) reg219 (by decide), ext0 e45 (exin e3 hwk).1, gw]
        refine w_callV hE (hc_nextOrder H h7 hm7 (exin e07 hod) nb1 nb6 (by rw [go7]; exact hinj)) lX12_ok le_484 mt_nextOrder h7 hm7.1 hm7.2 (by decide) (by decide) (by decide) rfl rfl (by decide) (by decide +kernel) (fun r L8 f8 _ hp => ?_)
        obtain ⟨K8, B8, h8, e8, c, rfl, c0, c1, hnx⟩ := hp
        dsimp only at h8 e8 hnx
        have e08 : extC modM K B L f K8 B8 L8 f8 := extC_tr e07 (extC_mono e8 (by decide))
        refine s_mt156 H hE h8 (v0 := x) (v1 := y) (v2 := z) (v3 := (nb : Int)) (v4 := v11) (v5 := v6) (v6 := v8) (v7 := v10) (v8 := c) hb0 hb1 hb2 (by omega) b11 b6 b8 b10 ⟨c0, c1⟩ (exin e08 hm) (fun K9 B9 L9 f9 h9 e9 _ _ _ _ _ _ _ _ _ _ => ?_)
        refine x_sub (lv' := [(0, .ref m), (1, .int (Int32.ofInt x)), (2, .int (Int32.ofInt y)), (3, .int (Int32.ofInt z)), (4, .int (Int32.ofInt (nb : Int))), (5, .int (Int32.ofInt v11)), (6, .int (Int32.ofInt c))]) (fun q hq => List.mem_append_left [(7, Value.int (Int32.ofInt v8)), (8, Value.int (Int32.ofInt v10))] hq) ?_
        refine ih v11 c b11 ⟨c0, c1⟩ K9 B9 L9 f9 h9 (extC_tr e08 (extC_mono e9 sub)) ?_ (fun hc1 => ?_)
        · rw [ext0 e9 (exin e08 hwk).1, xa e8 (exin e07 hwk) reg219 (by decide), gw7]
        · obtain ⟨n1, n2⟩ := hnx hc1
          rw [ext0 e9 (exin e08 hod).1]
          rw [go7] at n2
          exact ⟨n1, by omega⟩
      · exact over v5 v6 b5 b6 K4 B4 L4 f4 h4 (extC_tr e3 (extC_mono e4 sub)) (by rw [ext0 e4 (exin e3 hwk).1, gw])
  -- the first order
  have start : c = 1 → (z = -1 ∨ (0 ≤ z ∧ z ≤ 7 ∧ z < P ∧ hs x z = true)) → ∀ (K3 : Nat → Nat) (B3 : Int) (L3 : List Nat) (f3 : Nat → va_E), hok cy0 K3 B3 L3 f3 → extC [] K2 B2 L2 f2 K3 B3 L3 f3 → eW E 0 0 L3 f3 32 [(0, .ref m), (1, .int (Int32.ofInt x)), (2, .int (Int32.ofInt y)), (3, .int (Int32.ofInt z))] [] := fun hc1 hz0 K3 B3 L3 f3 h3 e3 => by
    obtain ⟨nb, hnb, nb1, nb6, hpeo, hord⟩ := hlay hc1
    have e03 := extC_tr e02 (extC_mono e3 sub)
    refine s_mt32 H hE h3 (v0 := x) (v1 := y) (v2 := z) hb0 hb1 hb2 (exin e03 hm) (fun K4 B4 L4 f4 h4 e4 _ _ _ hm4 => ?_)
    have e04 := extC_tr e03 (extC_mono e4 sub)
    refine w_callS hE (hc_bits h4 x) lX12_ok le_475 mt_bits (by decide) rfl rfl (by decide) (by decide +kernel) (fun rv L5 f5 _ hp => ?_)
    obtain ⟨K5, B5, h5, e5, rfl, hf5⟩ := hp
    dsimp only at h5 e5 hf5
    have e05 := extC_tr e04 (extC_mono e5 sub)
    rw [hnb]
    refine s_mt36 H hE h5 (v0 := x) (v1 := y) (v2 := z) (v3 := (nb : Int)) hb0 hb1 hb2 (by omega) (exin e05 hm) (fun K6 B6 L6 f6 v4 h6 e6 _ _ _ _ _ hm6 _ _ _ => ?_)
    have e06 : extC modM K B L f K6 B6 L6 f6 := extC_tr e05 (extC_mono e6 (by decide))
    have e25 : extC [] K2 B2 L2 f2 K5 B5 L5 f5 := extC_tr e3 (extC_tr e4 e5)
    have gw6 : gi (f6 wk) = gi (f2 wk) := by rw [xa e6 (exin e05 hwk) reg219 (by decide), ext0 e25 (exin e02 hwk).1]
    have go6 : gi (f6 od) = gi (f2 od) := by rw [xa e6 (exin e05 hod) reg222 (by decide), ext0 e25 (exin e02 hod).1]
    refine loop nb nb1 nb6 ?_ 46656 (-1) 1 (by decide) (by decide) K6 B6 L6 f6 h6 e06 gw6 (fun _ => ⟨fun i hi j hj hij => ?_, ?_⟩)
    · rcases hz0 with h | ⟨z0, z7, zP, zh⟩
      · exact Or.inl h
      · obtain ⟨zn, hzn⟩ : ∃ n : Nat, z = n := ⟨z.toNat, by omega⟩
        rw [hzn] at zh
        obtain ⟨k0, k1, k2⟩ := hpeo zn (by omega) zh
        exact Or.inr ⟨z0, z7, k0, k1, by rw [k2, hzn]⟩
    · rw [go6, hord i hi, hord j hj] at hij
      omega
    · have := (val6_b (od_b h6 (exin e06 hod)) nb nb6).1
      omega
  refine s_mt6 H hE h2 (v0 := x) (v1 := y) (v2 := z) (v3 := c) hb0 hb1 hb2 ⟨c0, c1⟩ (exin e02 hm) (fun K3 B3 L3 f3 v4 h3 e3 _ _ zb cb b4 lt hm3 c14 => ?_) (fun K3 B3 L3 f3 h3 e3 _ _ _ _ _ => ?_) (fun K3 B3 L3 f3 h3 e3 _ _ zb cb _ => ?_)
  · have e03 := extC_tr e02 (extC_mono e3 sub)
    have ha3 := exin e03 ha
    have q4 : v4 = P := by
      have := (c14 a ha3.1 ha3.2).2
      rw [ext0 e3 (exin e02 ha).1] at this
      rw [← this]
      exact ga2
    refine w_callS hE (hc_has h3 x z) lX12_ok le_125 mt_has (by decide) rfl rfl (by decide) (by decide +kernel) (fun rv L4 f4 _ hp => ?_)
    obtain ⟨K4, B4, h4, e4, rfl, hf4⟩ := hp
    dsimp only at h4 e4 hf4
    have e04 := extC_tr e03 (extC_mono e4 sub)
    refine s_mt27 H hE h4 (v0 := x) (v1 := y) (v2 := z) hb0 hb1 hb2 (by split <;> decide) (exin e04 hm) (fun K5 B5 L5 f5 h5 e5 _ _ _ _ _ => ?_) (fun K5 B5 L5 f5 h5 e5 _ _ _ bc _ => ?_)
    · exact fin 31 _ (-1) K5 B5 L5 f5 (by decide +kernel) (by decide) h5 (extC_tr e04 (extC_mono e5 sub))
    · have hsT : hs x z = true := by
        cases hq : hs x z with
        | true => rfl
        | false => rw [hq] at bc; simp at bc
      exact start (by omega) (Or.inr ⟨zb.1, zb.2, by omega, hsT⟩) K5 B5 L5 f5 h5 (extC_tr e3 (extC_tr e4 e5))
  · exact fin 31 _ (-1) K3 B3 L3 f3 (by decide +kernel) (by decide) h3 (extC_tr e02 (extC_mono e3 sub))
  · exact start (by omega) (Or.inl (by omega)) K3 B3 L3 f3 h3 e3
