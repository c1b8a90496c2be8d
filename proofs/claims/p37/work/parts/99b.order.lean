/-! The next order. -/
theorem reg222 (i : Nat) : reg 222 i = 0 := rfl
theorem kbd222 (j : Nat) : kbd 222 j = (0, 5, false) := rfl
theorem od_b {cy : Nat → ClassId} {K : Nat → Nat} {B : Int} {L : List Nat} {f : Nat → va_E} (hh : hok cy K B L f) {od : Nat} (hod : od ∈ L ∧ K od = 222) : ∀ j, j < 6 → 0 ≤ gi (f od) j ∧ gi (f od) j ≤ 5 := fun j hj => by
  have h := arr_bd hh hod (j := j) (by decide) (by show j < 6; exact hj)
  rw [kbd222] at h
  exact ⟨h.1, h.2.1⟩
theorem hc_nextOrder {X0 : zC0} (H : ∀ j, j < 390 → CMj X0 j) {K : Nat → Nat} {B : Int} {L : List Nat} {f : Nat → va_E} (hh : hok X0.2.2.1 K B L f) {m od n : Nat} (hm : m ∈ L ∧ K m = 200) (hod : od ∈ L ∧ K od = 222) (hn1 : 1 ≤ n) (hn6 : n ≤ 6) (hi0 : inj6 n (gi (f od))) : HC X0 M_nextOrder 2 0 [(222, 0)] [.ref m, .int (Int32.ofInt (n : Int))] K B L f (fun _ _ _ f' r => ∃ c : Int, r = some (.int (Int32.ofInt c)) ∧ 0 ≤ c ∧ c ≤ 1 ∧ (c = 1 → inj6 n (gi (f' od)) ∧ val6 (gi (f od)) n < val6 (gi (f' od)) n)) := by
  refine eM.mk ⟨_, rfl⟩ pnX12 (Nat.le_of_ble_eq_true rfl) (fun E hE _ hret => ?_)
  obtain ⟨l0, D0, cy0, ax0⟩ := X0
  have bo := od_b hh hod
  -- a number of the order is written
  have wr : ∀ (pc : Nat) (lv : List (Nat × Value)) (j : Nat) (x : Int) (K1 : Nat → Nat) (B1 : Int) (L1 : List Nat) (f1 : Nat → va_E), decode cX12_nextOrder pc = .ok (.iastore, 1) → j < 6 → (0 ≤ x ∧ x ≤ 5) → hok cy0 K1 B1 L1 f1 → extC [(222, 0)] K B L f K1 B1 L1 f1 → (∀ f2 : Nat → va_E, hok cy0 K1 B1 L1 f2 → extC [(222, 0)] K B L f K1 B1 L1 f2 → (∀ i, gi (f2 od) i = if i = j then x else gi (f1 od) i) → eW E 0 0 L1 f2 (pc + 1) lv []) → eW E 0 0 L1 f1 pc lv [.int (Int32.ofInt x), .int (Int32.ofInt (j : Int)), .ref od] := fun pc lv j x K1 B1 L1 f1 hpc hj hx h1 e1 kk => by
    have hr := exin e1 hod
    refine w_ist hE h1 hr.1 hr.2 (by decide) (by decide) (by omega) (by show (j : Int) < 6; omega) (by omega) (by rw [kbd222]; exact ⟨(by show (0 : Int) ≤ x; omega), (by show x ≤ (5 : Int); omega), fun h => by cases h⟩) hpc (fun f2 a1 a2 a3 a4 a5 => ?_)
    exact kk f2 (a4 (XP_oth h1 hr.2 a1 (fun i hi => by cases hi))) (extC_tr e1 (extC_mono a5 (fun q hq => by rw [List.mem_singleton.mp hq, reg222]; decide))) (fun i => by rw [a2, Int.toNat_natCast])
  have sub : ∀ q ∈ ([] : List (Nat × Nat)), q ∈ [(222, 0)] := fun q hq => by cases hq
  have hnb : (1 : Int) ≤ (n : Int) ∧ (n : Int) ≤ 6 := by omega
  -- what is behind is turned round
  have goD : ∀ (N i x y k : Nat) (v : Int), y ≤ x + N → i < n → i < x → x ≤ 6 → y < n → i ≤ 4 → k ≤ 5 → (0 ≤ v ∧ v ≤ 5) → ∀ (K1 : Nat → Nat) (B1 : Int) (L1 : List Nat) (f1 : Nat → va_E), hok cy0 K1 B1 L1 f1 → extC [(222, 0)] K B L f K1 B1 L1 f1 → inj6 n (gi (f1 od)) → (∀ j, j < i → gi (f1 od) j = gi (f od) j) → gi (f od) i < gi (f1 od) i → eW E 0 0 L1 f1 100 [(0, .ref m), (1, .int (Int32.ofInt (n : Int))), (2, .int (Int32.ofInt (i : Int))), (3, .int (Int32.ofInt (k : Int))), (4, .int (Int32.ofInt v)), (5, .int (Int32.ofInt (x : Int))), (6, .int (Int32.ofInt (y : Int)))] [] := by
    intro N
    induction N with
    | zero =>
      intro i x y k v hN hi hix hx6 hy hi4 hk hv K1 B1 L1 f1 h1 e1 c1 c2 c3
      refine s_no100 H hE h1 (v0 := (n : Int)) (v1 := (i : Int)) (v2 := (k : Int)) (v3 := v) (v4 := (x : Int)) (v5 := (y : Int)) hnb (by omega) (by omega) hv (by omega) (by omega) (exin e1 hm) (fun K2 B2 L2 f2 v6 v7 r1 h2 e2 _ _ _ _ _ _ _ _ lt _ _ _ _ => by omega) (fun K2 B2 L2 f2 h2 e2 _ _ _ _ _ _ _ _ => ?_)
      have e02 := extC_tr e1 (extC_mono e2 sub)
      have g2 : gi (f2 od) = gi (f1 od) := ext0 e2 (exin e1 hod).1
      refine hret 0 0 L2 f2 149 _ _ (Nat.le_refl _) (Nat.le_refl _) (by decide +kernel) (fun ft hft => by cases hft; rfl) ⟨K2, B2, h2, e02, 1, rfl, by decide, by decide, fun _ => ?_⟩
      rw [g2]
      exact ⟨c1, val6_lt hn6 hi c2 c3 bo (od_b h1 (exin e1 hod))⟩
    | succ N ih =>
      intro i x y k v hN hi hix hx6 hy hi4 hk hv K1 B1 L1 f1 h1 e1 c1 c2 c3
      refine s_no100 H hE h1 (v0 := (n : Int)) (v1 := (i : Int)) (v2 := (k : Int)) (v3 := v) (v4 := (x : Int)) (v5 := (y : Int)) hnb (by omega) (by omega) hv (by omega) (by omega) (exin e1 hm) (fun K2 B2 L2 f2 v6 v7 r1 h2 e2 _ _ _ _ x4 y2 b6 b7 lt hm2 hr2 c7 c6 => ?_) (fun K2 B2 L2 f2 h2 e2 _ _ _ _ _ _ _ _ => ?_)
      all_goals have e02 := extC_tr e1 (extC_mono e2 sub)
      all_goals have g2 : gi (f2 od) = gi (f1 od) := ext0 e2 (exin e1 hod).1
      · have ho2 := exin e02 hod
        obtain rfl := sol h2 hr2 ho2 (by decide)
        have q6 : gi (f1 r1) x = v6 := by
          have := (c6 r1 ho2.1 ho2.2).2
          rw [Int.toNat_natCast, g2] at this
          exact this
        have q7 : gi (f1 r1) y = v7 := by
          have := (c7 r1 ho2.1 ho2.2).2
          rw [Int.toNat_natCast, g2] at this
          exact this
        refine wr 129 _ x v7 K2 B2 L2 f2 (by decide +kernel) (by omega) b7 h2 e02 (fun f3 h3 e3 d3 => ?_)
        refine s_no130 H hE h3 (v0 := (n : Int)) (v1 := (i : Int)) (v2 := (k : Int)) (v3 := v6) (v4 := (x : Int)) (v5 := (y : Int)) hnb (by omega) (by omega) b6 (by omega) (by omega) hm2 (fun K4 B4 L4 f4 r4 h4 e4 _ _ _ _ _ _ hm4 hr4 => ?_)
        have e04 := extC_tr e3 (extC_mono e4 sub)
        have ho4 := exin e04 hod
        obtain rfl := sol h4 hr4 ho4 (by decide)
        have g4 : gi (f4 r4) = gi (f3 r4) := ext0 e4 (exin e3 hod).1
        refine wr 138 _ y v6 K4 B4 L4 f4 (by decide +kernel) (by omega) b6 h4 e04 (fun f5 h5 e5 d5 => ?_)
        have d : ∀ j, gi (f5 r4) j = if j = x then gi (f1 r4) y else if j = y then gi (f1 r4) x else gi (f1 r4) j := fun j => by
          rw [d5, g4, d3, g2, q6, q7]
          by_cases h1 : j = x
          · have : j ≠ y := by omega
            rw [if_neg this, if_pos h1, if_pos h1]
          · rw [if_neg h1, if_neg h1]
        refine s_no139 H hE h5 (v0 := (n : Int)) (v1 := (i : Int)) (v2 := (k : Int)) (v3 := v6) (v4 := (x : Int)) (v5 := (y : Int)) hnb (by omega) (by omega) b6 (by omega) (by omega) hm4 (fun K6 B6 L6 f6 h6 e6 _ _ _ _ _ _ _ => ?_)
        have e06 := extC_tr e5 (extC_mono e6 sub)
        have g6 : gi (f6 r4) = gi (f5 r4) := ext0 e6 (exin e5 hod).1
        have w1 : (1 + (x : Int)) = ((x + 1 : Nat) : Int) := by omega
        have w2 : ((-1) + (y : Int)) = ((y - 1 : Nat) : Int) := by omega
        rw [w1, w2]
        refine ih i (x + 1) (y - 1) k v6 (by omega) hi (by omega) (by omega) (by omega) hi4 hk b6 K6 B6 L6 f6 h6 e06 ?_ (fun j hj => ?_) ?_
        · rw [g6]
          exact inj6_sw c1 (by omega) (by omega) d
        · rw [g6, d, if_neg (by omega), if_neg (by omega)]
          exact c2 j hj
        · rw [g6, d, if_neg (by omega), if_neg (by omega)]
          exact c3
      · refine hret 0 0 L2 f2 149 _ _ (Nat.le_refl _) (Nat.le_refl _) (by decide +kernel) (fun ft hft => by cases hft; rfl) ⟨K2, B2, h2, e02, 1, rfl, by decide, by decide, fun _ => ?_⟩
        rw [g2]
        exact ⟨c1, val6_lt hn6 hi c2 c3 bo (od_b h1 (exin e1 hod))⟩
  -- two are changed for each other
  have goC : ∀ (i k : Nat), i < k → k < n → gi (f od) i ≤ gi (f od) k → ∀ (K1 : Nat → Nat) (B1 : Int) (L1 : List Nat) (f1 : Nat → va_E), hok cy0 K1 B1 L1 f1 → extC [] K B L f K1 B1 L1 f1 → eW E 0 0 L1 f1 62 [(0, .ref m), (1, .int (Int32.ofInt (n : Int))), (2, .int (Int32.ofInt (i : Int))), (3, .int (Int32.ofInt (k : Int)))] [] := by
    intro i k hik hkn hle K1 B1 L1 f1 h1 e1
    have hlt : gi (f od) i < gi (f od) k := by
      by_cases he : gi (f od) i = gi (f od) k
      · have := hi0 i (by omega) k hkn he
        omega
      · omega
    refine s_no62 H hE h1 (v0 := (n : Int)) (v1 := (i : Int)) (v2 := (k : Int)) hnb (by omega) (by omega) (exin e1 hm) (fun K2 B2 L2 f2 v3 v4 r1 h2 e2 _ _ _ b3 b4 hm2 hr2 c4 c3 => ?_)
    have e02 := extC_mono (extC_tr e1 e2) sub
    have g2 : gi (f2 od) = gi (f od) := ext0 (extC_tr e1 e2) hod.1
    have ho2 := exin e02 hod
    obtain rfl := sol h2 hr2 ho2 (by decide)
    have q3 : gi (f r1) i = v3 := by
      have := (c3 r1 ho2.1 ho2.2).2
      rw [Int.toNat_natCast, g2] at this
      exact this
    have q4 : gi (f r1) k = v4 := by
      have := (c4 r1 ho2.1 ho2.2).2
      rw [Int.toNat_natCast, g2] at this
      exact this
    refine wr 81 _ i v4 K2 B2 L2 f2 (by decide +kernel) (by omega) b4 h2 e02 (fun f3 h3 e3 d3 => ?_)
    refine s_no82 H hE h3 (v0 := (n : Int)) (v1 := (i : Int)) (v2 := (k : Int)) (v3 := v3) hnb (by omega) (by omega) b3 hm2 (fun K4 B4 L4 f4 r4 h4 e4 _ _ _ _ hm4 hr4 => ?_)
    have e04 := extC_tr e3 (extC_mono e4 sub)
    have ho4 := exin e04 hod
    obtain rfl := sol h4 hr4 ho4 (by decide)
    have g4 : gi (f4 r4) = gi (f3 r4) := ext0 e4 (exin e3 hod).1
    refine wr 89 _ k v3 K4 B4 L4 f4 (by decide +kernel) (by omega) b3 h4 e04 (fun f5 h5 e5 d5 => ?_)
    have d : ∀ j, gi (f5 r4) j = if j = i then gi (f r4) k else if j = k then gi (f r4) i else gi (f r4) j := fun j => by
      rw [d5, g4, d3, g2, q3, q4]
      by_cases h1 : j = i
      · have : j ≠ k := by omega
        rw [if_neg this, if_pos h1, if_pos h1]
      · rw [if_neg h1, if_neg h1]
    refine s_no90 H hE h5 (v0 := (n : Int)) (v1 := (i : Int)) (v2 := (k : Int)) (v3 := v3) hnb (by omega) (by omega) b3 hm4 (fun K6 B6 L6 f6 h6 e6 _ _ _ _ hm6 => ?_)
    have e06 := extC_tr e5 (extC_mono e6 sub)
    have g6 : gi (f6 r4) = gi (f5 r4) := ext0 e6 (exin e5 hod).1
    have w1 : (1 + (i : Int)) = ((i + 1 : Nat) : Int) := by omega
    have w2 : ((-1) + (n : Int)) = ((n - 1 : Nat) : Int) := by omega
    rw [w1, w2]
    refine goD 6 i (i + 1) (n - 1) k v3 (by omega) (by omega) (by omega) (by omega) (by omega) (by omega) (by omega) b3 K6 B6 L6 f6 h6 e06 ?_ (fun j hj => ?_) ?_
    · rw [g6]
      exact inj6_sw hi0 (by omega) hkn d
    · rw [g6, d, if_neg (by omega), if_neg (by omega)]
    · rw [g6, d, if_pos rfl]
      exact hlt
  -- the last one that is greater
  have goB : ∀ (N i k : Nat), k = i + 1 + N → k < n → gi (f od) i ≤ gi (f od) (i + 1) → ∀ (K1 : Nat → Nat) (B1 : Int) (L1 : List Nat) (f1 : Nat → va_E), hok cy0 K1 B1 L1 f1 → extC [] K B L f K1 B1 L1 f1 → eW E 0 0 L1 f1 41 [(0, .ref m), (1, .int (Int32.ofInt (n : Int))), (2, .int (Int32.ofInt (i : Int))), (3, .int (Int32.ofInt (k : Int)))] [] := by
    intro N
    induction N with
    | zero =>
      intro i k hk hkn hle K1 B1 L1 f1 h1 e1
      refine s_no41 H hE h1 (v0 := (n : Int)) (v1 := (i : Int)) (v2 := (k : Int)) hnb (by omega) (by omega) (exin e1 hm) (fun K2 B2 L2 f2 v3 v4 h2 e2 _ _ _ b3 b4 lt hm2 c3 c4 => ?_) (fun K2 B2 L2 f2 v3 v4 h2 e2 _ _ _ b3 b4 le hm2 c3 c4 => ?_)
      all_goals have e02 := extC_tr e1 e2
      all_goals have ho2 := exin e02 hod
      all_goals have q3 := (c3 od ho2.1 ho2.2).2
      all_goals have q4 := (c4 od ho2.1 ho2.2).2
      all_goals rw [Int.toNat_natCast, ext0 e02 hod.1] at q3 q4
      · have hk1 : k = i + 1 := by omega
        rw [hk1] at q4
        omega
      · exact goC i k (by omega) hkn (by omega) K2 B2 L2 f2 h2 e02
    | succ N ih =>
      intro i k hk hkn hle K1 B1 L1 f1 h1 e1
      refine s_no41 H hE h1 (v0 := (n : Int)) (v1 := (i : Int)) (v2 := (k : Int)) hnb (by omega) (by omega) (exin e1 hm) (fun K2 B2 L2 f2 v3 v4 h2 e2 _ _ _ b3 b4 lt hm2 c3 c4 => ?_) (fun K2 B2 L2 f2 v3 v4 h2 e2 _ _ _ b3 b4 le hm2 c3 c4 => ?_)
      all_goals have e02 := extC_tr e1 e2
      all_goals have ho2 := exin e02 hod
      all_goals have q3 := (c3 od ho2.1 ho2.2).2
      all_goals have q4 := (c4 od ho2.1 ho2.2).2
      all_goals rw [Int.toNat_natCast, ext0 e02 hod.1] at q3 q4
      · refine s_no56 H hE h2 (v0 := (n : Int)) (v1 := (i : Int)) (v2 := (k : Int)) hnb (by omega) (by omega) hm2 (fun K3 B3 L3 f3 h3 e3 _ _ _ _ => ?_)
        have w2 : ((-1) + (k : Int)) = ((k - 1 : Nat) : Int) := by omega
        rw [w2]
        exact ih i (k - 1) (by omega) (by omega) hle K3 B3 L3 f3 h3 (extC_tr e02 e3)
      · exact goC i k (by omega) hkn (by omega) K2 B2 L2 f2 h2 e02
  -- where it can grow
  have goA : ∀ (t : Nat), t + 1 ≤ n → ∀ (K1 : Nat → Nat) (B1 : Int) (L1 : List Nat) (f1 : Nat → va_E), hok cy0 K1 B1 L1 f1 → extC [] K B L f K1 B1 L1 f1 → eW E 0 0 L1 f1 4 [(0, .ref m), (1, .int (Int32.ofInt (n : Int))), (2, .int (Int32.ofInt ((-1) + (t : Int))))] [] := by
    intro t
    induction t with
    | zero =>
      intro ht K1 B1 L1 f1 h1 e1
      have w0 : ((-1) + ((0 : Nat) : Int)) = (-1) := by decide
      rw [w0]
      refine s_no4x H hE h1 (v0 := (n : Int)) hnb (exin e1 hm) (fun K2 B2 L2 f2 h2 e2 _ _ => ?_)
      exact hret 0 0 L2 f2 36 _ _ (Nat.le_refl _) (Nat.le_refl _) (by decide +kernel) (fun ft hft => by cases hft; rfl) ⟨K2, B2, h2, extC_mono (extC_tr e1 e2) sub, 0, rfl, by decide, by decide, fun h => by cases h⟩
    | succ t ih =>
      intro ht K1 B1 L1 f1 h1 e1
      have w0 : ((-1) + ((t + 1 : Nat) : Int)) = (t : Int) := by omega
      rw [w0]
      refine s_no4 H hE h1 (v0 := (n : Int)) (v1 := (t : Int)) hnb (by omega) (by omega) (exin e1 hm) (fun K2 B2 L2 f2 v2 v3 h2 e2 _ _ _ _ _ _ hm2 _ _ => ?_) (fun K2 B2 L2 f2 v2 v3 h2 e2 _ _ _ _ le _ hm2 c2 c3 => ?_)
      all_goals have e02 := extC_tr e1 e2
      · refine s_no25 H hE h2 (v0 := (n : Int)) (v1 := (t : Int)) hnb (by omega) hm2 (fun K3 B3 L3 f3 h3 e3 _ _ _ => ?_)
        exact ih (by omega) K3 B3 L3 f3 h3 (extC_tr e02 e3)
      · have ho2 := exin e02 hod
        have q2 := (c2 od ho2.1 ho2.2).2
        have q3 := (c3 od ho2.1 ho2.2).2
        have w1 : ((1 + (t : Int)) : Int).toNat = t + 1 := by omega
        rw [ext0 e02 hod.1] at q2 q3
        rw [w1] at q2
        rw [Int.toNat_natCast] at q3
        refine s_no37 H hE h2 (v0 := (n : Int)) (v1 := (t : Int)) hnb (by omega) hm2 (fun K3 B3 L3 f3 h3 e3 _ _ _ => ?_)
        have w2 : ((-1) + (n : Int)) = ((n - 1 : Nat) : Int) := by omega
        rw [w2]
        exact goB (n - 1 - (t + 1)) t (n - 1) (by omega) (by omega) (by omega) K3 B3 L3 f3 h3 (extC_tr e02 e3)
  refine s_no0 H hE hh (v0 := (n : Int)) hnb hm (fun K1 B1 L1 f1 h1 e1 _ _ => ?_)
  have w : ((-2) + (n : Int)) = ((-1) + ((n - 1 : Nat) : Int)) := by omega
  rw [w]
  exact goA (n - 1) (by omega) K1 B1 L1 f1 h1 e1
