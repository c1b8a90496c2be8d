/-! bits; layWorkers. -/
theorem i32ofadd {a b : Int} (ha : -100 ≤ a ∧ a ≤ 100) (hb : -100 ≤ b ∧ b ≤ 100) : Int32.ofInt a + Int32.ofInt b = Int32.ofInt (a + b) := by
  apply Int32.toInt_inj.mp
  rw [Int32.toInt_add, i32i (z := a) (by omega) (by omega), i32i (z := b) (by omega) (by omega), i32i (z := a + b) (by omega) (by omega)]
  exact Int.bmod_eq_of_le (by omega) (by omega)
theorem hc_bits {X0 : zC0} {K : Nat → Nat} {B : Int} {L : List Nat} {f : Nat → va_E} (hh : hok X0.2.2.1 K B L f) (x : Int) : HC X0 M_bits 1 0 [] [.int (Int32.ofInt x)] K B L f (fun _ _ _ f' r => r = some (.int (Int32.ofInt (bt x 12))) ∧ f' = f) := by
  refine eM.mk ⟨_, rfl⟩ pnX12 (Nat.le_of_ble_eq_true rfl) (fun E hE _ hret => ?_)
  have go : ∀ (N k : Nat), k + N = 12 → eW E 0 0 L f 4 [(0, .int (Int32.ofInt x)), (1, .int (Int32.ofInt (bt x k))), (2, .int (Int32.ofInt (k : Int)))] [] := by
    intro N
    induction N with
    | zero =>
      intro k hk
      have hk12 : k = 12 := by omega
      subst hk12
      refine x_iload_n hE (z := 2) (i := 2) (x := Int32.ofInt ((12 : Nat) : Int)) (by decide +kernel) rfl (by simp) ?_
      refine x_bipush hE (i := 12) (v := Int32.ofInt ((12 : Nat) : Int)) (by decide +kernel) (by decide +kernel) ?_
      refine x_icmp_ge hE (off := 17) (tgt := 24) (by decide +kernel) rfl (fun _ => ?_) (fun hn => absurd (Int32.le_refl _) hn)
      refine x_iload_n hE (z := 1) (i := 1) (x := Int32.ofInt (bt x 12)) (by decide +kernel) rfl (by simp) ?_
      exact hret 0 0 L f 25 _ _ (Nat.le_refl _) (Nat.le_refl _) (by decide +kernel) (fun ft hft => by cases hft; rfl) ⟨K, B, hh, extC_rf, rfl, rfl⟩
    | succ N ih =>
      intro k hk
      refine x_iload_n hE (z := 2) (i := 2) (x := Int32.ofInt (k : Int)) (by decide +kernel) rfl (by simp) ?_
      refine x_bipush hE (i := 12) (v := Int32.ofInt ((12 : Nat) : Int)) (by decide +kernel) (by decide +kernel) ?_
      refine x_icmp_ge hE (off := 17) (tgt := 24) (by decide +kernel) rfl (fun hq => ?_) (fun _ => ?_)
      · exfalso
        rw [Int32.le_iff_toInt_le, i32i (z := ((12 : Nat) : Int)) (by omega) (by omega), i32i (z := (k : Int)) (by omega) (by omega)] at hq
        omega
      · refine x_iload_n hE (z := 1) (i := 1) (x := Int32.ofInt (bt x k)) (by decide +kernel) rfl (by simp) ?_
        refine x_iload_n hE (z := 0) (i := 0) (x := Int32.ofInt x) (by decide +kernel) rfl (by simp) ?_
        refine x_iload_n hE (z := 2) (i := 2) (x := Int32.ofInt (k : Int)) (by decide +kernel) rfl (by simp) ?_
        refine x_ishr hE (by decide +kernel) ?_
        refine x_iconst hE (i := 1) (v := 1) (by decide +kernel) rfl ?_
        refine x_iand hE (by decide +kernel) ?_
        refine x_iadd hE (by decide +kernel) ?_
        have hb := bt_b x k
        have hv1 := hv_b x k
        have e1 : ((Int32.ofInt x >>> (Int32.ofInt (k : Int) &&& 31)) &&& 1) = Int32.ofInt (hv x k) := by
          unfold hv
          rw [Int32.ofInt_toInt]
        have e2 : Int32.ofInt (bt x k) + ((Int32.ofInt x >>> (Int32.ofInt (k : Int) &&& 31)) &&& 1) = Int32.ofInt (bt x (k + 1)) := by
          rw [e1, i32ofadd (by omega) (by omega)]
          rfl
        rw [e2]
        refine x_istore_n hE (z := 1) (i := 1) (by decide +kernel) rfl (by decide) rfl ?_
        refine x_sub (lv' := [(2, .int (Int32.ofInt (k : Int))), (0, .int (Int32.ofInt x)), (1, .int (Int32.ofInt (bt x (k + 1))))]) (fun q hq => by
          simp only [List.mem_cons, List.not_mem_nil, or_false] at hq
          rcases hq with h | h | h <;> simp [h, Value.category]) ?_
        refine x_iinc hE (i := 2) (z := 1) (x := Int32.ofInt (k : Int)) (v := Int32.ofInt ((k + 1 : Nat) : Int)) (by decide +kernel) 0 rfl (by rw [i32ofadd (by omega) (by omega)]; rfl) (by decide) rfl ?_
        refine x_goto hE (off := -17) (tgt := 4) (by decide +kernel) rfl ?_
        refine x_sub (lv' := [(0, .int (Int32.ofInt x)), (1, .int (Int32.ofInt (bt x (k + 1)))), (2, .int (Int32.ofInt ((k + 1 : Nat) : Int)))]) (fun q hq => by
          simp only [List.mem_cons, List.not_mem_nil, or_false] at hq
          rcases hq with h | h | h <;> simp [h, Value.category]) ?_
        exact ih (k + 1) (by omega)
  refine x_iconst hE (i := 0) (v := Int32.ofInt 0) (by decide +kernel) rfl ?_
  refine x_istore_n hE (z := 1) (i := 1) (by decide +kernel) rfl (by decide) rfl ?_
  refine x_iconst hE (i := 0) (v := Int32.ofInt 0) (by decide +kernel) rfl ?_
  refine x_istore_n hE (z := 2) (i := 2) (by decide +kernel) rfl (by decide) rfl ?_
  refine x_sub (lv' := [(0, .int (Int32.ofInt x)), (1, .int (Int32.ofInt (bt x 0))), (2, .int (Int32.ofInt ((0 : Nat) : Int)))]) (fun q hq => by
    simp only [List.mem_cons, List.not_mem_nil, or_false] at hq
    rcases hq with h | h | h <;> simp [h, Value.category, lv_args, bt]) ?_
  exact go 12 0 rfl
theorem reg219 (i : Nat) : reg 219 i = 0 := rfl
theorem reg220 (i : Nat) : reg 220 i = 0 := rfl
theorem kbd219 (j : Nat) : kbd 219 j = (0, 7, false) := rfl
theorem kbd220 (j : Nat) : kbd 220 j = (0, 5, false) := rfl
abbrev modL : List (Nat × Nat) := [(219, 0), (220, 0), (222, 0)]
theorem hc_layWorkers {X0 : zC0} (H : ∀ j, j < 390 → CMj X0 j) {K : Nat → Nat} {B : Int} {L : List Nat} {f : Nat → va_E} (hh : hok X0.2.2.1 K B L f) {m a wk gr od P F : Nat} (hm : m ∈ L ∧ K m = 200) (ha : a ∈ L ∧ K a = 201) (hwk : wk ∈ L ∧ K wk = 219) (hgr : gr ∈ L ∧ K gr = 220) (hod : od ∈ L ∧ K od = 222) (hP : gi (f a) 1 = P) (hF : gi (f a) 0 = F) (hP8 : P ≤ 8) (hF6 : F ≤ 6) {x y : Int} (hx : (-2147483648) ≤ x ∧ x ≤ 2147483647) (hy : (-2147483648) ≤ y ∧ y ≤ 2147483647) : HC X0 M_layWorkers 3 0 modL [.ref m, .int (Int32.ofInt x), .int (Int32.ofInt y)] K B L f (fun _ _ _ f' r => ∃ c : Int, r = some (.int (Int32.ofInt c)) ∧ 0 ≤ c ∧ c ≤ 1 ∧ (c = 1 → ∃ nb : Nat, bt x 12 = nb ∧ 1 ≤ nb ∧ nb ≤ 6 ∧ (∀ q : Nat, q < P → hs x q = true → ∃ k : Nat, k < nb ∧ gi (f' wk) k = q) ∧ ∀ j, j < nb → gi (f' od) j = j)) := by
  refine eM.mk ⟨_, rfl⟩ pnX12 (Nat.le_of_ble_eq_true rfl) (fun E hE _ hret => ?_)
  obtain ⟨l0, D0, cy0, ax0⟩ := X0
  have sub : ∀ q ∈ ([] : List (Nat × Nat)), q ∈ modL := fun q hq => by cases hq
  have ga : ∀ {K1 : Nat → Nat} {B1 : Int} {L1 : List Nat} {f1 : Nat → va_E}, extC modL K B L f K1 B1 L1 f1 → gi (f1 a) = gi (f a) := fun e1 => ext1 e1 ha (fun i hi => by simp [modL] at hi)
  have z0 : ((0 : Int)).toNat = 0 := rfl
  have z1 : ((1 : Int)).toNat = 1 := rfl
  -- a number of a row is written
  have wr : ∀ (kd n : Nat) (hi : Int) (b : Nat) (pc : Nat) (lv : List (Nat × Value)) (j : Nat) (v : Int) (K1 : Nat → Nat) (B1 : Int) (L1 : List Nat) (f1 : Nat → va_E), (zkd kd).1 = 2 → (zkd kd).2.1 = n → n ≤ 100000 → (∀ j, kbd kd j = (0, hi, false)) → hi ≤ 10 → (∀ i, reg kd i = 0) → (∀ i, rel kd i = false) → (kd, 0) ∈ modL → decode cX12_layWorkers pc = .ok (.iastore, 1) → j < n → (0 ≤ v ∧ v ≤ hi) → hok cy0 K1 B1 L1 f1 → extC modL K B L f K1 B1 L1 f1 → (b ∈ L1 ∧ K1 b = kd) → (∀ f2 : Nat → va_E, hok cy0 K1 B1 L1 f2 → extC modL K B L f K1 B1 L1 f2 → (∀ b', b' ≠ b → f2 b' = f1 b') → (∀ i, gi (f2 b) i = if i = j then v else gi (f1 b) i) → eW E 0 0 L1 f2 (pc + 1) lv []) → eW E 0 0 L1 f1 pc lv [.int (Int32.ofInt v), .int (Int32.ofInt (j : Int)), .ref b] := fun kd n hi b pc lv j v K1 B1 L1 f1 t1 t2 t3 t4 t5 t6 t7 t8 hpc hj hv h1 e1 hb kk => by
    refine w_ist hE h1 hb.1 hb.2 t1 (by rw [t2]; exact t3) (by omega) (by rw [t2]; omega) (by omega) (by rw [t4]; exact ⟨hv.1, hv.2, fun h => by cases h⟩) hpc (fun f2 a1 a2 a3 a4 a5 => ?_)
    exact kk f2 (a4 (XP_oth h1 hb.2 a1 (fun i hi => by rw [t7] at hi; cases hi))) (extC_tr e1 (extC_mono a5 (fun q hq => by rw [List.mem_singleton.mp hq, t6]; exact t8))) a1 (fun i => by rw [a2, Int.toNat_natCast])
  have n219 : ∀ i, rel 219 i = false := fun i => rfl
  have n220 : ∀ i, rel 220 i = false := fun i => rfl
  have n222 : ∀ i, rel 222 i = false := fun i => rfl
  have no : ∀ (pc : Nat) (lv : List (Nat × Value)) (K1 : Nat → Nat) (B1 : Int) (L1 : List Nat) (f1 : Nat → va_E), decode cX12_layWorkers pc = .ok (.ireturn, 1) → hok cy0 K1 B1 L1 f1 → extC modL K B L f K1 B1 L1 f1 → eW E 0 0 L1 f1 pc lv [.int (Int32.ofInt 0)] := fun pc lv K1 B1 L1 f1 hpc h1 e1 => hret 0 0 L1 f1 pc _ _ (Nat.le_refl _) (Nat.le_refl _) hpc (fun ft hft => by cases hft; rfl) ⟨K1, B1, h1, e1, 0, rfl, by decide, by decide, fun h => by cases h⟩
  have no47 : ∀ (K1 : Nat → Nat) (B1 : Int) (L1 : List Nat) (f1 : Nat → va_E), hok cy0 K1 B1 L1 f1 → extC modL K B L f K1 B1 L1 f1 → eW E 0 0 L1 f1 47 [(0, .ref m), (1, .int (Int32.ofInt x)), (2, .int (Int32.ofInt y))] [] := fun K1 B1 L1 f1 h1 e1 => by
    refine s_lw47 H hE h1 (v0 := x) (v1 := y) hx hy (exin e1 hm) (fun K2 B2 L2 f2 h2 e2 _ _ _ => ?_)
    exact no 48 _ K2 B2 L2 f2 (by decide +kernel) h2 (extC_tr e1 (extC_mono e2 sub))
  -- the FIELDS are laid
  have lay2 : ∀ (nb : Nat), bt x 12 = nb → 1 ≤ nb → nb ≤ 6 → bt y F = nb → ∀ (N p : Nat), p + N = F → ∀ (c : Nat), bt y p = c → ∀ (K1 : Nat → Nat) (B1 : Int) (L1 : List Nat) (f1 : Nat → va_E), hok cy0 K1 B1 L1 f1 → extC modL K B L f K1 B1 L1 f1 → (∀ q : Nat, q < P → hs x q = true → ∃ k : Nat, k < nb ∧ gi (f1 wk) k = q) → (∀ j, j < c → gi (f1 od) j = j) → eW E 0 0 L1 f1 99 [(0, .ref m), (1, .int (Int32.ofInt x)), (2, .int (Int32.ofInt y)), (3, .int (Int32.ofInt (c : Int))), (4, .int (Int32.ofInt (p : Int)))] [] := by
    intro nb hnb hnb1 hnb6 hyF N
    induction N with
    | zero =>
      intro p hp c hc K1 B1 L1 f1 h1 e1 d1 d2
      have hpF : p = F := by omega
      subst hpF
      have hc2 : c = nb := by omega
      subst hc2
      refine s_lw99 H hE h1 (v0 := x) (v1 := y) (v2 := (c : Int)) (v3 := (p : Int)) hx hy (by omega) (by omega) (exin e1 hm) (fun K2 B2 L2 f2 v4 h2 e2 _ _ _ _ _ lt hm2 c0 => ?_) (fun K2 B2 L2 f2 v4 h2 e2 _ _ _ _ _ _ hm2 c0 => ?_)
      all_goals have e02 := extC_tr e1 (extC_mono e2 sub)
      · exfalso
        have ha2 := exin e02 ha
        have q4 := (c0 a ha2.1 ha2.2).2
        rw [ga e02, z0, hF] at q4
        omega
      · refine s_lw146 H hE h2 (v0 := x) (v1 := y) (v2 := (c : Int)) (v3 := (p : Int)) hx hy (by omega) (by omega) hm2 (fun K3 B3 L3 f3 h3 e3 _ _ _ _ _ => ?_)
        have e13 := extC_tr e2 e3
        have gw : gi (f3 wk) = gi (f1 wk) := ext0 e13 (exin e1 hwk).1
        have go : gi (f3 od) = gi (f1 od) := ext0 e13 (exin e1 hod).1
        exact hret 0 0 L3 f3 147 _ _ (Nat.le_refl _) (Nat.le_refl _) (by decide +kernel) (fun ft hft => by cases hft; rfl) ⟨K3, B3, h3, extC_tr e1 (extC_mono e13 sub), 1, rfl, by decide, by decide, fun _ => ⟨c, hnb, hnb1, hnb6, by rw [gw]; exact d1, by rw [go]; exact d2⟩⟩
    | succ N ih =>
      intro p hp c hc K1 B1 L1 f1 h1 e1 d1 d2
      have hcb := bt_b y p
      have hsb : bt y (p + 1) = bt y p + hv y p := rfl
      refine s_lw99 H hE h1 (v0 := x) (v1 := y) (v2 := (c : Int)) (v3 := (p : Int)) hx hy (by omega) (by omega) (exin e1 hm) (fun K2 B2 L2 f2 v4 h2 e2 _ _ _ _ _ lt hm2 c0 => ?_) (fun K2 B2 L2 f2 v4 h2 e2 _ _ _ _ _ ge hm2 c0 => ?_)
      all_goals have e02 := extC_tr e1 (extC_mono e2 sub)
      · refine w_callS hE (hc_has h2 y (p : Int)) lX12_ok le_125 mt_has (by decide) rfl rfl (by decide) (by decide +kernel) (fun rv L3 f3 _ hp => ?_)
        obtain ⟨K3, B3, h3, e3, rfl, hf3⟩ := hp
        dsimp only at h3 e3 hf3
        have e03 := extC_tr e02 (extC_mono e3 sub)
        refine s_lw116 H hE h3 (v0 := x) (v1 := y) (v2 := (c : Int)) (v3 := (p : Int)) hx hy (by omega) (by omega) (by split <;> decide) (exin e03 hm) (fun K4 B4 L4 f4 r4 h4 e4 _ _ _ _ bc hm4 hr4 => ?_) (fun K4 B4 L4 f4 h4 e4 _ _ _ _ bc hm4 => ?_)
        all_goals have e04 := extC_tr e03 (extC_mono e4 sub)
        all_goals have e14 := extC_tr e2 (extC_tr e3 e4)
        all_goals have gw : gi (f4 wk) = gi (f1 wk) := ext0 e14 (exin e1 hwk).1
        all_goals have go : gi (f4 od) = gi (f1 od) := ext0 e14 (exin e1 hod).1
        · have hsT : hs y p = true := by
            cases hq : hs y p with
            | true => rfl
            | false => rw [hq] at bc; simp at bc
          have hv1 := (hs_hv y p).mp hsT
          refine wr 220 6 5 r4 129 _ c (p : Int) K4 B4 L4 f4 (by decide) (by decide) (by decide) kbd220 (by decide) reg220 n220 (by decide) (by decide +kernel) (by omega) (by omega) h4 e04 hr4 (fun f5 h5 e5 a5 _ => ?_)
          have hne1 : wk ≠ r4 := fun e => by have := (exin e04 hwk).2; rw [e, hr4.2] at this; exact absurd this (by decide)
          have hne2 : od ≠ r4 := fun e => by have := (exin e04 hod).2; rw [e, hr4.2] at this; exact absurd this (by decide)
          refine s_lw130 H hE h5 (v0 := x) (v1 := y) (v2 := (c : Int)) (v3 := (p : Int)) hx hy (by omega) (by omega) hm4 (fun K6 B6 L6 f6 r6 h6 e6 _ _ _ _ hm6 hr6 => ?_)
          have e06 := extC_tr e5 (extC_mono e6 sub)
          have ho6 := exin e06 hod
          obtain rfl := sol h6 hr6 ho6 (by decide)
          have gw6 : gi (f6 wk) = gi (f1 wk) := by rw [ext0 e6 (exin e5 hwk).1, a5 wk hne1, gw]
          have go6 : gi (f6 r6) = gi (f1 r6) := by rw [ext0 e6 (exin e5 hod).1, a5 r6 hne2, go]
          refine wr 222 6 5 r6 136 _ c (c : Int) K6 B6 L6 f6 (by decide) (by decide) (by decide) kbd222 (by decide) reg222 n222 (by decide) (by decide +kernel) (by omega) (by omega) h6 e06 hr6 (fun f7 h7 e7 a7 d7 => ?_)
          have hne3 : wk ≠ r6 := fun e => by have := (exin e06 hwk).2; rw [e, hr6.2] at this; exact absurd this (by decide)
          refine s_lw137 H hE h7 (v0 := x) (v1 := y) (v2 := (c : Int)) (v3 := (p : Int)) hx hy (by omega) (by omega) hm6 (fun K8 B8 L8 f8 h8 e8 _ _ _ _ _ => ?_)
          have w1 : (1 + (p : Int)) = ((p + 1 : Nat) : Int) := by omega
          have w2 : (1 + (c : Int)) = ((c + 1 : Nat) : Int) := by omega
          rw [w1, w2]
          have gw8 : gi (f8 wk) = gi (f1 wk) := by rw [ext0 e8 (exin e7 hwk).1, a7 wk hne3, gw6]
          have go8 : gi (f8 r6) = gi (f7 r6) := ext0 e8 (exin e7 hod).1
          refine ih (p + 1) (by omega) (c + 1) (by omega) K8 B8 L8 f8 h8 (extC_tr e7 (extC_mono e8 sub)) (by rw [gw8]; exact d1) (fun j hj => ?_)
          rw [go8, d7]
          by_cases hjc : j = c
          · rw [if_pos hjc, hjc]
          · rw [if_neg hjc, go6]
            exact d2 j (by omega)
        · have hsF : hv y p = 0 := by
            have hvb := hv_b y p
            by_cases h1 : hv y p = 1
            · rw [if_pos ((hs_hv y p).mpr h1)] at bc
              omega
            · omega
          refine s_lw140 H hE h4 (v0 := x) (v1 := y) (v2 := (c : Int)) (v3 := (p : Int)) hx hy (by omega) (by omega) hm4 (fun K8 B8 L8 f8 h8 e8 _ _ _ _ _ => ?_)
          have w1 : (1 + (p : Int)) = ((p + 1 : Nat) : Int) := by omega
          rw [w1]
          have gw8 : gi (f8 wk) = gi (f1 wk) := by rw [ext0 e8 (exin e04 hwk).1, gw]
          have go8 : gi (f8 od) = gi (f1 od) := by rw [ext0 e8 (exin e04 hod).1, go]
          exact ih (p + 1) (by omega) c (by omega) K8 B8 L8 f8 h8 (extC_tr e04 (extC_mono e8 sub)) (by rw [gw8]; exact d1) (by rw [go8]; exact d2)
      · exfalso
        have ha2 := exin e02 ha
        have q4 := (c0 a ha2.1 ha2.2).2
        rw [ga e02, z0, hF] at q4
        omega
  -- the PEOPLE are laid
  have lay1 : ∀ (nb : Nat), bt x 12 = nb → 1 ≤ nb → nb ≤ 6 → bt y F = nb → ∀ (N p : Nat), p + N = P → ∀ (c : Nat), bt x p = c → ∀ (K1 : Nat → Nat) (B1 : Int) (L1 : List Nat) (f1 : Nat → va_E), hok cy0 K1 B1 L1 f1 → extC modL K B L f K1 B1 L1 f1 → (∀ q : Nat, q < p → hs x q = true → ∃ k : Nat, k < c ∧ gi (f1 wk) k = q) → eW E 0 0 L1 f1 54 [(0, .ref m), (1, .int (Int32.ofInt x)), (2, .int (Int32.ofInt y)), (3, .int (Int32.ofInt (c : Int))), (4, .int (Int32.ofInt (p : Int)))] [] := by
    intro nb hnb hnb1 hnb6 hyF N
    induction N with
    | zero =>
      intro p hp c hc K1 B1 L1 f1 h1 e1 d1
      have hpP : p = P := by omega
      subst hpP
      have hcb := bt_b x p
      refine s_lw54 H hE h1 (v0 := x) (v1 := y) (v2 := (c : Int)) (v3 := (p : Int)) hx hy (by omega) (by omega) (exin e1 hm) (fun K2 B2 L2 f2 v4 h2 e2 _ _ _ _ _ lt hm2 c0 => ?_) (fun K2 B2 L2 f2 v4 h2 e2 _ _ _ _ _ _ hm2 c0 => ?_)
      all_goals have e02 := extC_tr e1 (extC_mono e2 sub)
      · exfalso
        have ha2 := exin e02 ha
        have q4 := (c0 a ha2.1 ha2.2).2
        rw [ga e02, z1, hP] at q4
        omega
      · refine s_lw94 H hE h2 (v0 := x) (v1 := y) (v2 := (c : Int)) (v3 := (p : Int)) hx hy (by omega) (by omega) hm2 (fun K3 B3 L3 f3 h3 e3 _ _ _ _ _ => ?_)
        have gw : gi (f3 wk) = gi (f1 wk) := ext0 (extC_tr e2 e3) (exin e1 hwk).1
        have hle := bt_mono x 12 (m := p) (by omega)
        refine lay2 nb hnb hnb1 hnb6 hyF F 0 (by omega) 0 rfl K3 B3 L3 f3 h3 (extC_tr e02 (extC_mono e3 sub)) (fun q hq hsq => ?_) (fun j hj => absurd hj (by omega))
        obtain ⟨k, k1, k2⟩ := d1 q hq hsq
        exact ⟨k, by omega, by rw [gw]; exact k2⟩
    | succ N ih =>
      intro p hp c hc K1 B1 L1 f1 h1 e1 d1
      have hcb := bt_b x p
      have hsb : bt x (p + 1) = bt x p + hv x p := rfl
      refine s_lw54 H hE h1 (v0 := x) (v1 := y) (v2 := (c : Int)) (v3 := (p : Int)) hx hy (by omega) (by omega) (exin e1 hm) (fun K2 B2 L2 f2 v4 h2 e2 _ _ _ _ _ lt hm2 c0 => ?_) (fun K2 B2 L2 f2 v4 h2 e2 _ _ _ _ _ ge hm2 c0 => ?_)
      all_goals have e02 := extC_tr e1 (extC_mono e2 sub)
      · refine w_callS hE (hc_has h2 x (p : Int)) lX12_ok le_125 mt_has (by decide) rfl rfl (by decide) (by decide +kernel) (fun rv L3 f3 _ hp => ?_)
        obtain ⟨K3, B3, h3, e3, rfl, hf3⟩ := hp
        dsimp only at h3 e3 hf3
        have e03 := extC_tr e02 (extC_mono e3 sub)
        refine s_lw71 H hE h3 (v0 := x) (v1 := y) (v2 := (c : Int)) (v3 := (p : Int)) hx hy (by omega) (by omega) (by split <;> decide) (exin e03 hm) (fun K4 B4 L4 f4 r4 h4 e4 _ _ _ _ bc hm4 hr4 => ?_) (fun K4 B4 L4 f4 h4 e4 _ _ _ _ bc hm4 => ?_)
        all_goals have e04 := extC_tr e03 (extC_mono e4 sub)
        all_goals have e14 := extC_tr e2 (extC_tr e3 e4)
        all_goals have gw : gi (f4 wk) = gi (f1 wk) := ext0 e14 (exin e1 hwk).1
        · have hsT : hs x p = true := by
            cases hq : hs x p with
            | true => rfl
            | false => rw [hq] at bc; simp at bc
          have hv1 := (hs_hv x p).mp hsT
          have hw4 := exin e04 hwk
          obtain rfl := sol h4 hr4 hw4 (by decide)
          refine wr 219 8 7 r4 84 _ c (p : Int) K4 B4 L4 f4 (by decide) (by decide) (by decide) kbd219 (by decide) reg219 n219 (by decide) (by decide +kernel) (by omega) (by omega) h4 e04 hr4 (fun f5 h5 e5 a5 d5 => ?_)
          refine s_lw85 H hE h5 (v0 := x) (v1 := y) (v2 := (c : Int)) (v3 := (p : Int)) hx hy (by omega) (by omega) hm4 (fun K8 B8 L8 f8 h8 e8 _ _ _ _ _ => ?_)
          have w1 : (1 + (p : Int)) = ((p + 1 : Nat) : Int) := by omega
          have w2 : (1 + (c : Int)) = ((c + 1 : Nat) : Int) := by omega
          rw [w1, w2]
          have gw8 : gi (f8 r4) = gi (f5 r4) := ext0 e8 (exin e5 hwk).1
          refine ih (p + 1) (by omega) (c + 1) (by omega) K8 B8 L8 f8 h8 (extC_tr e5 (extC_mono e8 sub)) (fun q hq hsq => ?_)
          rw [gw8]
          by_cases hqp : q = p
          · exact ⟨c, by omega, by rw [d5, if_pos rfl, hqp]⟩
          · obtain ⟨k, k1, k2⟩ := d1 q (by omega) hsq
            exact ⟨k, by omega, by rw [d5, if_neg (by omega), gw]; exact k2⟩
        · have hsF : hs x p = false := by
            cases hq : hs x p with
            | false => rfl
            | true => rw [hq] at bc; simp at bc
          have hvF : hv x p = 0 := by
            have hvb := hv_b x p
            by_cases h1 : hv x p = 1
            · rw [(hs_hv x p).mpr h1] at hsF
              cases hsF
            · omega
          refine s_lw88 H hE h4 (v0 := x) (v1 := y) (v2 := (c : Int)) (v3 := (p : Int)) hx hy (by omega) (by omega) hm4 (fun K8 B8 L8 f8 h8 e8 _ _ _ _ _ => ?_)
          have w1 : (1 + (p : Int)) = ((p + 1 : Nat) : Int) := by omega
          rw [w1]
          have gw8 : gi (f8 wk) = gi (f1 wk) := by rw [ext0 e8 (exin e04 hwk).1, gw]
          refine ih (p + 1) (by omega) c (by omega) K8 B8 L8 f8 h8 (extC_tr e04 (extC_mono e8 sub)) (fun q hq hsq => ?_)
          rw [gw8]
          by_cases hqp : q = p
          · rw [hqp, hsF] at hsq
            cases hsq
          · exact d1 q (by omega) hsq
      · exfalso
        have ha2 := exin e02 ha
        have q4 := (c0 a ha2.1 ha2.2).2
        rw [ga e02, z1, hP] at q4
        omega
  refine s_lw0 H hE hh (v0 := x) (v1 := y) hx hy hm (fun K1 B1 L1 f1 v2 h1 e1 _ _ b2 hm1 c1 => ?_)
  have e01 := extC_mono e1 sub
  have ha1 := exin e01 ha
  have q2 : v2 = P := by
    have := (c1 a ha1.1 ha1.2).2
    rw [ga e01, z1, hP] at this
    exact this.symm
  rw [q2]
  have pP := pw_b P (by omega)
  refine x_ishl hE (by decide +kernel) ?_
  refine x_iconst hE (i := 1) (v := 1) (by decide +kernel) rfl ?_
  refine x_isub hE (by decide +kernel) ?_
  rw [show Int32.ofInt 1 = 1 from rfl, pw_1 P (by omega), show (1 : Int32) = Int32.ofInt 1 from rfl]
  refine s_lw12 H hE h1 (v0 := x) (v1 := y) (v2 := ((2 ^ P - 1 : Nat) : Int)) hx hy (by omega) hm1 (fun K2 B2 L2 f2 h2 e2 _ _ _ _ hm2 => ?_) (fun K2 B2 L2 f2 h2 e2 _ _ _ _ => no47 K2 B2 L2 f2 h2 (extC_tr e01 (extC_mono e2 sub)))
  have e02 := extC_tr e01 (extC_mono e2 sub)
  refine s_lw18 H hE h2 (v0 := x) (v1 := y) hx hy hm2 (fun K3 B3 L3 f3 v3 h3 e3 _ _ b3 hm3 c3 => ?_)
  have e03 := extC_tr e02 (extC_mono e3 sub)
  have ha3 := exin e03 ha
  have q3 : v3 = F := by
    have := (c3 a ha3.1 ha3.2).2
    rw [ga e03, z0, hF] at this
    exact this.symm
  rw [q3]
  have pF := pw_b F (by omega)
  have pF2 := pF.2.2 (by omega)
  refine x_ishl hE (by decide +kernel) ?_
  refine x_iconst hE (i := 1) (v := 1) (by decide +kernel) rfl ?_
  refine x_isub hE (by decide +kernel) ?_
  rw [show Int32.ofInt 1 = 1 from rfl, pw_1 F (by omega), show (1 : Int32) = Int32.ofInt 1 from rfl]
  refine s_lw30 H hE h3 (v0 := x) (v1 := y) (v2 := ((2 ^ F - 1 : Nat) : Int)) hx hy (by omega) hm3 (fun K4 B4 L4 f4 h4 e4 _ by1 _ yle hm4 => ?_) (fun K4 B4 L4 f4 h4 e4 _ _ _ _ => no47 K4 B4 L4 f4 h4 (extC_tr e03 (extC_mono e4 sub)))
  have e04 := extC_tr e03 (extC_mono e4 sub)
  obtain ⟨yn, hyn⟩ : ∃ n : Nat, y = n := ⟨y.toNat, by omega⟩
  have yF : bt y F = bt y 12 := by
    rw [hyn]
    exact bt_F F (by omega) yn (by omega) (by omega)
  have y6 : 1 ≤ bt y 12 ∧ bt y 12 ≤ 6 := by
    rw [hyn]
    exact bt_6 yn (by omega) (by omega)
  have bx := bt_b x 12
  have bY := bt_b y 12
  refine w_callS hE (hc_bits h4 x) lX12_ok le_475 mt_bits (by decide) rfl rfl (by decide) (by decide +kernel) (fun rv L5 f5 _ hp => ?_)
  obtain ⟨K5, B5, h5, e5, rfl, hf5⟩ := hp
  dsimp only at h5 e5 hf5
  have e05 := extC_tr e04 (extC_mono e5 sub)
  refine s_lw40 H hE h5 (v0 := x) (v1 := y) (v2 := bt x 12) hx hy (by omega) (exin e05 hm) (fun K6 B6 L6 f6 h6 e6 _ _ _ hm6 => ?_)
  have e06 := extC_tr e05 (extC_mono e6 sub)
  refine w_callS hE (hc_bits h6 y) lX12_ok le_475 mt_bits (by decide) rfl rfl (by simp [Value.category]) (by decide +kernel) (fun rv L7 f7 _ hp => ?_)
  obtain ⟨K7, B7, h7, e7, rfl, hf7⟩ := hp
  dsimp only at h7 e7 hf7
  have e07 := extC_tr e06 (extC_mono e7 sub)
  refine s_lw44 H hE h7 (v0 := x) (v1 := y) (v2 := bt y 12) (v3 := bt x 12) hx hy (by omega) (by omega) (exin e07 hm) (fun K8 B8 L8 f8 h8 e8 _ _ _ _ _ => no47 K8 B8 L8 f8 h8 (extC_tr e07 (extC_mono e8 sub))) (fun K8 B8 L8 f8 h8 e8 _ _ _ _ le1 le2 hm8 => ?_)
  have e08 := extC_tr e07 (extC_mono e8 sub)
  refine s_lw49 H hE h8 (v0 := x) (v1 := y) hx hy hm8 (fun K9 B9 L9 f9 h9 e9 _ _ _ => ?_)
  exact lay1 (bt x 12).toNat (by omega) (by omega) (by omega) (by omega) P 0 (by omega) 0 rfl K9 B9 L9 f9 h9 (extC_tr e08 (extC_mono e9 sub)) (fun q hq => absurd hq (by omega))
