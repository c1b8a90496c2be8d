/-! mt161a: from 161 to [168] -/
def w_mt161a : TP := ([(0, (2, 0, (0, []))), (1, (0, 0, (0, [(1, 0)]))), (2, (0, 0, (0, [(1, 1)]))), (3, (0, 0, ((-1), []))), (4, (0, 0, (0, [(1, 2)]))), (5, (0, 0, (0, [(1, 3)]))), (6, (0, 0, (0, [(1, 4)])))], [], ([((-2147483648), 2147483647), ((-2147483648), 2147483647), (1, 6), ((-2147483648), 2147483647), (0, 1)], [], [], [200], [], [], []), [], [])
def u_mt161a : List (Nat × TP × EX × Nat × Nat) := [(168, ([(0, (2, 0, (0, []))), (1, (0, 0, (0, [(1, 0)]))), (2, (0, 0, (0, [(1, 1)]))), (3, (0, 0, ((-1), []))), (4, (0, 0, (0, [(1, 2)]))), (5, (0, 0, (0, [(1, 3)]))), (6, (0, 0, (0, [(1, 4)])))], [(0, 0, (0, [(1, 3)]))], ([((-2147483648), 2147483647), ((-2147483648), 2147483647), (1, 6), ((-2147483648), 2147483647), (0, 1)], [], [], [200], [], [], []), [], []), ((-1), []), 0, 0)]
def D_mt161a : DT := (mkD iX12_match fX12 lX12 kX12 kkX12 390 [] (w_mt161a, [], [], 9, 0, 0, 3) false 9 u_mt161a)
theorem k_mt161a : chkS D_mt161a 4000 0 0 161 = true := by decide +kernel
theorem s_mt161a {X0 : zC0} {E : zCx} (H : ∀ j, j < 390 → CMj X0 j) (hE : zOk E X0 RX12 cX12_match 9 (zrm 9 0 0)) {K : Nat → Nat} {B : Int} {L : List Nat} {f : Nat → va_E} (hh : hok X0.2.2.1 K B L f) {v0 v1 v2 v3 v4 : Int} {r0 : Nat} (hb0 : (-2147483648) ≤ v0 ∧ v0 ≤ 2147483647) (hb1 : (-2147483648) ≤ v1 ∧ v1 ≤ 2147483647) (hb2 : 1 ≤ v2 ∧ v2 ≤ 6) (hb3 : (-2147483648) ≤ v3 ∧ v3 ≤ 2147483647) (hb4 : 0 ≤ v4 ∧ v4 ≤ 1) (hr0 : r0 ∈ L ∧ K r0 = 200) (k168 : ∀ (K' : Nat → Nat) (B' : Int) (L' : List Nat) (f' : Nat → va_E), hok X0.2.2.1 K' B' L' f' → extC [] K B L f K' B' L' f' → ((-2147483648) ≤ v0 ∧ v0 ≤ 2147483647) → ((-2147483648) ≤ v1 ∧ v1 ≤ 2147483647) → (1 ≤ v2 ∧ v2 ≤ 6) → ((-2147483648) ≤ v3 ∧ v3 ≤ 2147483647) → (0 ≤ v4 ∧ v4 ≤ 1) → (r0 ∈ L' ∧ K' r0 = 200) → eW E 0 0 L' f' 168 [(0, .ref r0), (1, .int (Int32.ofInt v0)), (2, .int (Int32.ofInt v1)), (3, .int (Int32.ofInt (-1))), (4, .int (Int32.ofInt v2)), (5, .int (Int32.ofInt v3)), (6, .int (Int32.ofInt v4))] [.int (Int32.ofInt v3)]) : eW E 0 0 L f 161 [(0, .ref r0), (1, .int (Int32.ofInt v0)), (2, .int (Int32.ofInt v1)), (3, .int (Int32.ofInt (-1))), (4, .int (Int32.ofInt v2)), (5, .int (Int32.ofInt v3)), (6, .int (Int32.ofInt v4))] [] := by
  obtain ⟨l0, D0, cy0, ax0⟩ := X0
  have hraw : eW E 0 0 L f 161 [(0, .ref r0), (1, .int (Int32.ofInt (0 + (1 * v0 + 0)))), (2, .int (Int32.ofInt (0 + (1 * v1 + 0)))), (3, .int (Int32.ofInt ((-1) + 0))), (4, .int (Int32.ofInt (0 + (1 * v2 + 0)))), (5, .int (Int32.ofInt (0 + (1 * v3 + 0)))), (6, .int (Int32.ofInt (0 + (1 * v4 + 0))))] [] := ?_
  · simpa only [Int.zero_add, Int.one_mul, Int.add_zero] using hraw
  refine seg_ok (D := D_mt161a) (νi := fun i => [v0, v1, v2, v3, v4].getD i 0) (μi := fun i => [r0].getD i 0) k_mt161a hE (mk_ok (ins := iX12_match) jX12_match fX12_ok lX12_ok kX12_ok kkX12_ok H) (by decide) rfl rfl rfl rfl hh ?_ ?_
  · refine ⟨(eok_of (fun i q hq => ?_) (fun i hi => ?_)), fa0, fa0, ?_, fa0, fa0, fa0⟩
    · match i, hq with
      | 0, hq => cases hq; exact hb0
      | 1, hq => cases hq; exact hb1
      | 2, hq => cases hq; exact hb2
      | 3, hq => cases hq; exact hb3
      | 4, hq => cases hq; exact hb4
      | i + 5, hq => cases hq
    · match i, hi with
      | 0, hi => exact absurd hi (by decide)
      | 1, hi => exact absurd hi (by decide)
      | 2, hi => exact absurd hi (by decide)
      | 3, hi => exact absurd hi (by decide)
      | 4, hi => exact absurd hi (by decide)
      | i + 5, _ => rfl
    · intro i k hk
      match i, hk with
      | 0, hk => cases hk; exact hr0
      | i + 1, hk => cases hk
  · intro q hq hst K' B' L' f' ν μ h1 h2 h3 h4 h5
    have e0 : ν 0 = v0 := h4 0 (by decide)
    have e1 : ν 1 = v1 := h4 1 (by decide)
    have e2 : ν 2 = v2 := h4 2 (by decide)
    have e3 : ν 3 = v3 := h4 3 (by decide)
    have e4 : ν 4 = v4 := h4 4 (by decide)
    have d0 : μ 0 = r0 := h5 0 (by decide)
    subst e0
    subst e1
    subst e2
    subst e3
    subst e4
    subst d0
    replace hq : q ∈ u_mt161a := hq
    unfold u_mt161a at hq
    simp only [List.mem_cons, List.not_mem_nil, or_false] at hq
    rcases hq with rfl
    · have hst2 : eW E 0 0 L' f' 168 [(0, .ref (μ 0)), (1, .int (Int32.ofInt (0 + (1 * ν 0 + 0)))), (2, .int (Int32.ofInt (0 + (1 * ν 1 + 0)))), (3, .int (Int32.ofInt ((-1) + 0))), (4, .int (Int32.ofInt (0 + (1 * ν 2 + 0)))), (5, .int (Int32.ofInt (0 + (1 * ν 3 + 0)))), (6, .int (Int32.ofInt (0 + (1 * ν 4 + 0))))] [.int (Int32.ofInt (0 + (1 * ν 3 + 0)))] := ?_
      · exact hst2
      try simp only [Int.zero_add, Int.one_mul, Int.add_zero]
      exact k168 K' B' L' f'   h1 h2 (h3.1 0) (h3.1 1) (h3.1 2) (h3.1 3) (h3.1 4) (h3.2.2.2.1 0 200 rfl)

/-! mt161b: from 161 to [172] -/
def w_mt161b : TP := ([(0, (2, 0, (0, []))), (1, (0, 0, (0, [(1, 0)]))), (2, (0, 0, (0, [(1, 1)]))), (3, (0, 0, (0, [(1, 2)]))), (4, (0, 0, (0, [(1, 3)]))), (5, (0, 0, (0, [(1, 4)]))), (6, (0, 0, (0, [(1, 5)])))], [], ([((-2147483648), 2147483647), ((-2147483648), 2147483647), (0, 7), (1, 6), ((-2147483648), 2147483647), (0, 1)], [], [], [200], [], [], []), [], [])
def u_mt161b : List (Nat × TP × EX × Nat × Nat) := [(172, ([(0, (2, 0, (0, []))), (1, (0, 0, (0, [(1, 0)]))), (2, (0, 0, (0, [(1, 1)]))), (3, (0, 0, (0, [(1, 2)]))), (4, (0, 0, (0, [(1, 3)]))), (5, (0, 0, (0, [(1, 4)]))), (6, (0, 0, (0, [(1, 5)]))), (7, (0, 0, (0, [])))], [], ([((-2147483648), 2147483647), ((-2147483648), 2147483647), (0, 7), (1, 6), ((-2147483648), 2147483647), (0, 1)], [], [], [200], [], [], []), [], []), ((-1), []), 0, 0)]
def D_mt161b : DT := (mkD iX12_match fX12 lX12 kX12 kkX12 390 [] (w_mt161b, [], [], 9, 0, 0, 3) false 9 u_mt161b)
theorem k_mt161b : chkS D_mt161b 4000 0 0 161 = true := by decide +kernel
theorem s_mt161b {X0 : zC0} {E : zCx} (H : ∀ j, j < 390 → CMj X0 j) (hE : zOk E X0 RX12 cX12_match 9 (zrm 9 0 0)) {K : Nat → Nat} {B : Int} {L : List Nat} {f : Nat → va_E} (hh : hok X0.2.2.1 K B L f) {v0 v1 v2 v3 v4 v5 : Int} {r0 : Nat} (hb0 : (-2147483648) ≤ v0 ∧ v0 ≤ 2147483647) (hb1 : (-2147483648) ≤ v1 ∧ v1 ≤ 2147483647) (hb2 : 0 ≤ v2 ∧ v2 ≤ 7) (hb3 : 1 ≤ v3 ∧ v3 ≤ 6) (hb4 : (-2147483648) ≤ v4 ∧ v4 ≤ 2147483647) (hb5 : 0 ≤ v5 ∧ v5 ≤ 1) (hr0 : r0 ∈ L ∧ K r0 = 200) (k172 : ∀ (K' : Nat → Nat) (B' : Int) (L' : List Nat) (f' : Nat → va_E), hok X0.2.2.1 K' B' L' f' → extC [] K B L f K' B' L' f' → ((-2147483648) ≤ v0 ∧ v0 ≤ 2147483647) → ((-2147483648) ≤ v1 ∧ v1 ≤ 2147483647) → (0 ≤ v2 ∧ v2 ≤ 7) → (1 ≤ v3 ∧ v3 ≤ 6) → ((-2147483648) ≤ v4 ∧ v4 ≤ 2147483647) → (0 ≤ v5 ∧ v5 ≤ 1) → (r0 ∈ L' ∧ K' r0 = 200) → eW E 0 0 L' f' 172 [(0, .ref r0), (1, .int (Int32.ofInt v0)), (2, .int (Int32.ofInt v1)), (3, .int (Int32.ofInt v2)), (4, .int (Int32.ofInt v3)), (5, .int (Int32.ofInt v4)), (6, .int (Int32.ofInt v5)), (7, .int (Int32.ofInt 0))] []) : eW E 0 0 L f 161 [(0, .ref r0), (1, .int (Int32.ofInt v0)), (2, .int (Int32.ofInt v1)), (3, .int (Int32.ofInt v2)), (4, .int (Int32.ofInt v3)), (5, .int (Int32.ofInt v4)), (6, .int (Int32.ofInt v5))] [] := by
  obtain ⟨l0, D0, cy0, ax0⟩ := X0
  have hraw : eW E 0 0 L f 161 [(0, .ref r0), (1, .int (Int32.ofInt (0 + (1 * v0 + 0)))), (2, .int (Int32.ofInt (0 + (1 * v1 + 0)))), (3, .int (Int32.ofInt (0 + (1 * v2 + 0)))), (4, .int (Int32.ofInt (0 + (1 * v3 + 0)))), (5, .int (Int32.ofInt (0 + (1 * v4 + 0)))), (6, .int (Int32.ofInt (0 + (1 * v5 + 0))))] [] := ?_
  · simpa only [Int.zero_add, Int.one_mul, Int.add_zero] using hraw
  refine seg_ok (D := D_mt161b) (νi := fun i => [v0, v1, v2, v3, v4, v5].getD i 0) (μi := fun i => [r0].getD i 0) k_mt161b hE (mk_ok (ins := iX12_match) jX12_match fX12_ok lX12_ok kX12_ok kkX12_ok H) (by decide) rfl rfl rfl rfl hh ?_ ?_
  · refine ⟨(eok_of (fun i q hq => ?_) (fun i hi => ?_)), fa0, fa0, ?_, fa0, fa0, fa0⟩
    · match i, hq with
      | 0, hq => cases hq; exact hb0
      | 1, hq => cases hq; exact hb1
      | 2, hq => cases hq; exact hb2
      | 3, hq => cases hq; exact hb3
      | 4, hq => cases hq; exact hb4
      | 5, hq => cases hq; exact hb5
      | i + 6, hq => cases hq
    · match i, hi with
      | 0, hi => exact absurd hi (by decide)
      | 1, hi => exact absurd hi (by decide)
      | 2, hi => exact absurd hi (by decide)
      | 3, hi => exact absurd hi (by decide)
      | 4, hi => exact absurd hi (by decide)
      | 5, hi => exact absurd hi (by decide)
      | i + 6, _ => rfl
    · intro i k hk
      match i, hk with
      | 0, hk => cases hk; exact hr0
      | i + 1, hk => cases hk
  · intro q hq hst K' B' L' f' ν μ h1 h2 h3 h4 h5
    have e0 : ν 0 = v0 := h4 0 (by decide)
    have e1 : ν 1 = v1 := h4 1 (by decide)
    have e2 : ν 2 = v2 := h4 2 (by decide)
    have e3 : ν 3 = v3 := h4 3 (by decide)
    have e4 : ν 4 = v4 := h4 4 (by decide)
    have e5 : ν 5 = v5 := h4 5 (by decide)
    have d0 : μ 0 = r0 := h5 0 (by decide)
    subst e0
    subst e1
    subst e2
    subst e3
    subst e4
    subst e5
    subst d0
    replace hq : q ∈ u_mt161b := hq
    unfold u_mt161b at hq
    simp only [List.mem_cons, List.not_mem_nil, or_false] at hq
    rcases hq with rfl
    · have hst2 : eW E 0 0 L' f' 172 [(0, .ref (μ 0)), (1, .int (Int32.ofInt (0 + (1 * ν 0 + 0)))), (2, .int (Int32.ofInt (0 + (1 * ν 1 + 0)))), (3, .int (Int32.ofInt (0 + (1 * ν 2 + 0)))), (4, .int (Int32.ofInt (0 + (1 * ν 3 + 0)))), (5, .int (Int32.ofInt (0 + (1 * ν 4 + 0)))), (6, .int (Int32.ofInt (0 + (1 * ν 5 + 0)))), (7, .int (Int32.ofInt (0 + 0)))] [] := ?_
      · exact hst2
      try simp only [Int.zero_add, Int.one_mul, Int.add_zero]
      exact k172 K' B' L' f'   h1 h2 (h3.1 0) (h3.1 1) (h3.1 2) (h3.1 3) (h3.1 4) (h3.1 5) (h3.2.2.2.1 0 200 rfl)

/-! mt172a: from 172 to [189] -/
def w_mt172a : TP := ([(0, (2, 0, (0, []))), (1, (0, 0, (0, [(1, 0)]))), (2, (0, 0, (0, [(1, 1)]))), (3, (0, 0, (0, [(1, 2)]))), (4, (0, 0, (0, [(1, 3)]))), (5, (0, 0, (0, [(1, 4)]))), (6, (0, 0, (0, [(1, 5)]))), (7, (0, 0, (0, [(1, 6)])))], [], ([((-2147483648), 2147483647), ((-2147483648), 2147483647), (0, 7), (1, 6), ((-2147483648), 2147483647), (0, 1), (0, 5)], [], [], [200], [((219, (0, [(1, 6)])), (0, [(1, 2)]))], [], []), [], [])
def u_mt172a : List (Nat × TP × EX × Nat × Nat) := [(189, ([(0, (2, 0, (0, []))), (1, (0, 0, (0, [(1, 0)]))), (2, (0, 0, (0, [(1, 1)]))), (3, (0, 0, (0, [(1, 2)]))), (4, (0, 0, (0, [(1, 3)]))), (5, (0, 0, (0, [(1, 4)]))), (6, (0, 0, (0, [(1, 5)]))), (7, (0, 0, (0, [(1, 6)])))], [], ([((-2147483648), 2147483647), ((-2147483648), 2147483647), (0, 7), (1, 6), ((-2147483648), 2147483647), (0, 1), (0, 5)], [], [], [200], [((219, (0, [(1, 6)])), (0, [(1, 2)]))], [], []), [], []), ((-1), []), 0, 0)]
def D_mt172a : DT := (mkD iX12_match fX12 lX12 kX12 kkX12 390 [] (w_mt172a, [], [], 9, 0, 0, 3) false 9 u_mt172a)
theorem k_mt172a : chkS D_mt172a 4000 0 0 172 = true := by decide +kernel
theorem s_mt172a {X0 : zC0} {E : zCx} (H : ∀ j, j < 390 → CMj X0 j) (hE : zOk E X0 RX12 cX12_match 9 (zrm 9 0 0)) {K : Nat → Nat} {B : Int} {L : List Nat} {f : Nat → va_E} (hh : hok X0.2.2.1 K B L f) {v0 v1 v2 v3 v4 v5 v6 : Int} {r0 : Nat} (hb0 : (-2147483648) ≤ v0 ∧ v0 ≤ 2147483647) (hb1 : (-2147483648) ≤ v1 ∧ v1 ≤ 2147483647) (hb2 : 0 ≤ v2 ∧ v2 ≤ 7) (hb3 : 1 ≤ v3 ∧ v3 ≤ 6) (hb4 : (-2147483648) ≤ v4 ∧ v4 ≤ 2147483647) (hb5 : 0 ≤ v5 ∧ v5 ≤ 1) (hb6 : 0 ≤ v6 ∧ v6 ≤ 5) (hr0 : r0 ∈ L ∧ K r0 = 200) (hm0 : (∀ b ∈ L, K b = 219 → (0 : Int) ≤ v6 ∧ gi (f b) ((v6 : Int)).toNat = v2)) (k189 : ∀ (K' : Nat → Nat) (B' : Int) (L' : List Nat) (f' : Nat → va_E), hok X0.2.2.1 K' B' L' f' → extC [] K B L f K' B' L' f' → ((-2147483648) ≤ v0 ∧ v0 ≤ 2147483647) → ((-2147483648) ≤ v1 ∧ v1 ≤ 2147483647) → (0 ≤ v2 ∧ v2 ≤ 7) → (1 ≤ v3 ∧ v3 ≤ 6) → ((-2147483648) ≤ v4 ∧ v4 ≤ 2147483647) → (0 ≤ v5 ∧ v5 ≤ 1) → (0 ≤ v6 ∧ v6 ≤ 5) → (r0 ∈ L' ∧ K' r0 = 200) → (∀ b ∈ L', K' b = 219 → (0 : Int) ≤ v6 ∧ gi (f' b) ((v6 : Int)).toNat = v2) → eW E 0 0 L' f' 189 [(0, .ref r0), (1, .int (Int32.ofInt v0)), (2, .int (Int32.ofInt v1)), (3, .int (Int32.ofInt v2)), (4, .int (Int32.ofInt v3)), (5, .int (Int32.ofInt v4)), (6, .int (Int32.ofInt v5)), (7, .int (Int32.ofInt v6))] []) : eW E 0 0 L f 172 [(0, .ref r0), (1, .int (Int32.ofInt v0)), (2, .int (Int32.ofInt v1)), (3, .int (Int32.ofInt v2)), (4, .int (Int32.ofInt v3)), (5, .int (Int32.ofInt v4)), (6, .int (Int32.ofInt v5)), (7, .int (Int32.ofInt v6))] [] := by
  obtain ⟨l0, D0, cy0, ax0⟩ := X0
  have hraw : eW E 0 0 L f 172 [(0, .ref r0), (1, .int (Int32.ofInt (0 + (1 * v0 + 0)))), (2, .int (Int32.ofInt (0 + (1 * v1 + 0)))), (3, .int (Int32.ofInt (0 + (1 * v2 + 0)))), (4, .int (Int32.ofInt (0 + (1 * v3 + 0)))), (5, .int (Int32.ofInt (0 + (1 * v4 + 0)))), (6, .int (Int32.ofInt (0 + (1 * v5 + 0)))), (7, .int (Int32.ofInt (0 + (1 * v6 + 0))))] [] := ?_
  · simpa only [Int.zero_add, Int.one_mul, Int.add_zero] using hraw
  have rm0 : (∀ b ∈ L, K b = 219 → (0 : Int) ≤ (0 + (1 * v6 + 0)) ∧ gi (f b) (((0 + (1 * v6 + 0)) : Int)).toNat = (0 + (1 * v2 + 0))) := by simpa only [Int.zero_add, Int.one_mul, Int.add_zero] using hm0
  refine seg_ok (D := D_mt172a) (νi := fun i => [v0, v1, v2, v3, v4, v5, v6].getD i 0) (μi := fun i => [r0].getD i 0) k_mt172a hE (mk_ok (ins := iX12_match) jX12_match fX12_ok lX12_ok kX12_ok kkX12_ok H) (by decide) rfl rfl rfl rfl hh ?_ ?_
  · refine ⟨(eok_of (fun i q hq => ?_) (fun i hi => ?_)), fa0, fa0, ?_, (fa_cons (Amok hh (show (zkd 219).1 = 2 by decide) (by decide) rm0) fa0), fa0, fa0⟩
    · match i, hq with
      | 0, hq => cases hq; exact hb0
      | 1, hq => cases hq; exact hb1
      | 2, hq => cases hq; exact hb2
      | 3, hq => cases hq; exact hb3
      | 4, hq => cases hq; exact hb4
      | 5, hq => cases hq; exact hb5
      | 6, hq => cases hq; exact hb6
      | i + 7, hq => cases hq
    · match i, hi with
      | 0, hi => exact absurd hi (by decide)
      | 1, hi => exact absurd hi (by decide)
      | 2, hi => exact absurd hi (by decide)
      | 3, hi => exact absurd hi (by decide)
      | 4, hi => exact absurd hi (by decide)
      | 5, hi => exact absurd hi (by decide)
      | 6, hi => exact absurd hi (by decide)
      | i + 7, _ => rfl
    · intro i k hk
      match i, hk with
      | 0, hk => cases hk; exact hr0
      | i + 1, hk => cases hk
  · intro q hq hst K' B' L' f' ν μ h1 h2 h3 h4 h5
    have e0 : ν 0 = v0 := h4 0 (by decide)
    have e1 : ν 1 = v1 := h4 1 (by decide)
    have e2 : ν 2 = v2 := h4 2 (by decide)
    have e3 : ν 3 = v3 := h4 3 (by decide)
    have e4 : ν 4 = v4 := h4 4 (by decide)
    have e5 : ν 5 = v5 := h4 5 (by decide)
    have e6 : ν 6 = v6 := h4 6 (by decide)
    have d0 : μ 0 = r0 := h5 0 (by decide)
    subst e0
    subst e1
    subst e2
    subst e3
    subst e4
    subst e5
    subst e6
    subst d0
    replace hq : q ∈ u_mt172a := hq
    unfold u_mt172a at hq
    simp only [List.mem_cons, List.not_mem_nil, or_false] at hq
    rcases hq with rfl
    · have hst2 : eW E 0 0 L' f' 189 [(0, .ref (μ 0)), (1, .int (Int32.ofInt (0 + (1 * ν 0 + 0)))), (2, .int (Int32.ofInt (0 + (1 * ν 1 + 0)))), (3, .int (Int32.ofInt (0 + (1 * ν 2 + 0)))), (4, .int (Int32.ofInt (0 + (1 * ν 3 + 0)))), (5, .int (Int32.ofInt (0 + (1 * ν 4 + 0)))), (6, .int (Int32.ofInt (0 + (1 * ν 5 + 0)))), (7, .int (Int32.ofInt (0 + (1 * ν 6 + 0))))] [] := ?_
      · exact hst2
      try simp only [Int.zero_add, Int.one_mul, Int.add_zero]
      exact k189 K' B' L' f'   h1 h2 (h3.1 0) (h3.1 1) (h3.1 2) (h3.1 3) (h3.1 4) (h3.1 5) (h3.1 6) (h3.2.2.2.1 0 200 rfl) (by simpa only [xv, xvT, Int.zero_add, Int.one_mul, Int.add_zero] using (mokA h1 (show (zkd 219).1 = 2 by decide) (by decide) (h3.2.2.2.2.1 _ (List.mem_of_getElem? (i := 0) rfl))))
