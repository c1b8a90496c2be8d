/-! mt134: from 134 to [153] -/
def w_mt134 : TP := ([(0, (2, 0, (0, []))), (1, (0, 0, (0, [(1, 0)]))), (2, (0, 0, (0, [(1, 1)]))), (3, (0, 0, (0, [(1, 2)]))), (4, (0, 0, (0, [(1, 3)]))), (5, (0, 0, (0, [(1, 4)]))), (6, (0, 0, (0, [(1, 5)]))), (7, (0, 0, (0, [(1, 6)]))), (8, (0, 0, (0, [(1, 7)])))], [], ([((-2147483648), 2147483647), ((-2147483648), 2147483647), ((-2147483648), 2147483647), (1, 6), ((-2147483648), 2147483647), (0, 1), ((-2147483648), 2147483647), (0, 6)], [], [], [200], [], [], []), [], [])
def u_mt134 : List (Nat × TP × EX × Nat × Nat) := [(153, ([(0, (2, 0, (0, []))), (1, (0, 0, (0, [(1, 0)]))), (2, (0, 0, (0, [(1, 1)]))), (3, (0, 0, (0, [(1, 2)]))), (4, (0, 0, (0, [(1, 3)]))), (5, (0, 0, (0, [(1, 8)]))), (6, (0, 0, (0, [(1, 5)]))), (7, (0, 0, (0, [(1, 6)]))), (8, (0, 0, (0, [(1, 7)])))], [(0, 0, (0, [(1, 3)])), (2, 0, (0, []))], ([((-2147483648), 2147483647), ((-2147483648), 2147483647), ((-2147483648), 2147483647), (1, 6), ((-2147483648), 2147483647), (0, 1), ((-2147483648), 2147483647), (0, 6), ((-2147483648), 2147483647)], [(0, [(1, 8), ((-1), 4)]), (0, [(1, 8), ((-1), 6)])], [], [200], [], [], []), [(0, 5, (0, []))], []), ((-1), []), 0, 0)]
def D_mt134 : DT := (mkD iX12_match fX12 lX12 kX12 kkX12 390 [] (w_mt134, [], [], 9, 0, 0, 3) false 9 u_mt134)
theorem k_mt134 : chkS D_mt134 4000 0 0 134 = true := by decide +kernel
theorem s_mt134 {X0 : zC0} {E : zCx} (H : ∀ j, j < 390 → CMj X0 j) (hE : zOk E X0 RX12 cX12_match 9 (zrm 9 0 0)) {K : Nat → Nat} {B : Int} {L : List Nat} {f : Nat → va_E} (hh : hok X0.2.2.1 K B L f) {v0 v1 v2 v3 v4 v5 v6 v7 : Int} {r0 : Nat} (hb0 : (-2147483648) ≤ v0 ∧ v0 ≤ 2147483647) (hb1 : (-2147483648) ≤ v1 ∧ v1 ≤ 2147483647) (hb2 : (-2147483648) ≤ v2 ∧ v2 ≤ 2147483647) (hb3 : 1 ≤ v3 ∧ v3 ≤ 6) (hb4 : (-2147483648) ≤ v4 ∧ v4 ≤ 2147483647) (hb5 : 0 ≤ v5 ∧ v5 ≤ 1) (hb6 : (-2147483648) ≤ v6 ∧ v6 ≤ 2147483647) (hb7 : 0 ≤ v7 ∧ v7 ≤ 6) (hr0 : r0 ∈ L ∧ K r0 = 200) (k153 : ∀ (K' : Nat → Nat) (B' : Int) (L' : List Nat) (f' : Nat → va_E) (v8 : Int), hok X0.2.2.1 K' B' L' f' → extC [] K B L f K' B' L' f' → ((-2147483648) ≤ v0 ∧ v0 ≤ 2147483647) → ((-2147483648) ≤ v1 ∧ v1 ≤ 2147483647) → ((-2147483648) ≤ v2 ∧ v2 ≤ 2147483647) → (1 ≤ v3 ∧ v3 ≤ 6) → ((-2147483648) ≤ v4 ∧ v4 ≤ 2147483647) → (0 ≤ v5 ∧ v5 ≤ 1) → ((-2147483648) ≤ v6 ∧ v6 ≤ 2147483647) → (0 ≤ v7 ∧ v7 ≤ 6) → ((-2147483648) ≤ v8 ∧ v8 ≤ 2147483647) → (0 ≤ (v8 + ((-1) * v4))) → (0 ≤ (v8 + ((-1) * v6))) → (r0 ∈ L' ∧ K' r0 = 200) → eW E 0 0 L' f' 153 [(0, .ref r0), (1, .int (Int32.ofInt v0)), (2, .int (Int32.ofInt v1)), (3, .int (Int32.ofInt v2)), (4, .int (Int32.ofInt v3)), (5, .int (Int32.ofInt v8)), (6, .int (Int32.ofInt v5)), (7, .int (Int32.ofInt v6)), (8, .int (Int32.ofInt v7))] [.int (Int32.ofInt v3), .ref r0]) : eW E 0 0 L f 134 [(0, .ref r0), (1, .int (Int32.ofInt v0)), (2, .int (Int32.ofInt v1)), (3, .int (Int32.ofInt v2)), (4, .int (Int32.ofInt v3)), (5, .int (Int32.ofInt v4)), (6, .int (Int32.ofInt v5)), (7, .int (Int32.ofInt v6)), (8, .int (Int32.ofInt v7))] [] := by
  obtain ⟨l0, D0, cy0, ax0⟩ := X0
  have hraw : eW E 0 0 L f 134 [(0, .ref r0), (1, .int (Int32.ofInt (0 + (1 * v0 + 0)))), (2, .int (Int32.ofInt (0 + (1 * v1 + 0)))), (3, .int (Int32.ofInt (0 + (1 * v2 + 0)))), (4, .int (Int32.ofInt (0 + (1 * v3 + 0)))), (5, .int (Int32.ofInt (0 + (1 * v4 + 0)))), (6, .int (Int32.ofInt (0 + (1 * v5 + 0)))), (7, .int (Int32.ofInt (0 + (1 * v6 + 0)))), (8, .int (Int32.ofInt (0 + (1 * v7 + 0))))] [] := ?_
  · simpa only [Int.zero_add, Int.one_mul, Int.add_zero] using hraw
  refine seg_ok (D := D_mt134) (νi := fun i => [v0, v1, v2, v3, v4, v5, v6, v7].getD i 0) (μi := fun i => [r0].getD i 0) k_mt134 hE (mk_ok (ins := iX12_match) jX12_match fX12_ok lX12_ok kX12_ok kkX12_ok H) (by decide) rfl rfl rfl rfl hh ?_ ?_
  · refine ⟨(eok_of (fun i q hq => ?_) (fun i hi => ?_)), fa0, fa0, ?_, fa0, fa0, fa0⟩
    · match i, hq with
      | 0, hq => cases hq; exact hb0
      | 1, hq => cases hq; exact hb1
      | 2, hq => cases hq; exact hb2
      | 3, hq => cases hq; exact hb3
      | 4, hq => cases hq; exact hb4
      | 5, hq => cases hq; exact hb5
      | 6, hq => cases hq; exact hb6
      | 7, hq => cases hq; exact hb7
      | i + 8, hq => cases hq
    · match i, hi with
      | 0, hi => exact absurd hi (by decide)
      | 1, hi => exact absurd hi (by decide)
      | 2, hi => exact absurd hi (by decide)
      | 3, hi => exact absurd hi (by decide)
      | 4, hi => exact absurd hi (by decide)
      | 5, hi => exact absurd hi (by decide)
      | 6, hi => exact absurd hi (by decide)
      | 7, hi => exact absurd hi (by decide)
      | i + 8, _ => rfl
    · intro i k hk
      match i, hk with
      | 0, hk => cases hk; exact hr0
      | i + 1, hk => cases hk
  · intro q hq hst K' B' L' f' ν μ h1 h2 h3 h4 h5
    have e0 : ν 0 = v0 := h4 0 (by decide)
    have e1 : ν 1 = v1 := h4 1 (by decide)
    have e2 : ν 2 = v2 := h4 2 (by decide)
    have e3 : ν 3 = v3 := h4 3 (by decide)
    have e4 : ν 4 = v4 := h4 4 (by decide)
    have e5 : ν 5 = v5 := h4 5 (by decide)
    have e6 : ν 6 = v6 := h4 6 (by decide)
    have e7 : ν 7 = v7 := h4 7 (by decide)
    have d0 : μ 0 = r0 := h5 0 (by decide)
    subst e0
    subst e1
    subst e2
    subst e3
    subst e4
    subst e5
    subst e6
    subst e7
    subst d0
    replace hq : q ∈ u_mt134 := hq
    unfold u_mt134 at hq
    simp only [List.mem_cons, List.not_mem_nil, or_false] at hq
    rcases hq with rfl
    · have hst2 : eW E 0 0 L' f' 153 [(0, .ref (μ 0)), (1, .int (Int32.ofInt (0 + (1 * ν 0 + 0)))), (2, .int (Int32.ofInt (0 + (1 * ν 1 + 0)))), (3, .int (Int32.ofInt (0 + (1 * ν 2 + 0)))), (4, .int (Int32.ofInt (0 + (1 * ν 3 + 0)))), (5, .int (Int32.ofInt (0 + (1 * ν 8 + 0)))), (6, .int (Int32.ofInt (0 + (1 * ν 5 + 0)))), (7, .int (Int32.ofInt (0 + (1 * ν 6 + 0)))), (8, .int (Int32.ofInt (0 + (1 * ν 7 + 0))))] [.int (Int32.ofInt (0 + (1 * ν 3 + 0))), .ref (μ 0)] := ?_
      · exact hst2
      try simp only [Int.zero_add, Int.one_mul, Int.add_zero]
      exact k153 K' B' L' f' (ν 8)  h1 h2 (h3.1 0) (h3.1 1) (h3.1 2) (h3.1 3) (h3.1 4) (h3.1 5) (h3.1 6) (h3.1 7) (h3.1 8) (by simpa only [xv, xvT, Int.zero_add, Int.one_mul, Int.add_zero] using (h3.2.1 _ (List.mem_of_getElem? (i := 0) rfl))) (by simpa only [xv, xvT, Int.zero_add, Int.one_mul, Int.add_zero] using (h3.2.1 _ (List.mem_of_getElem? (i := 1) rfl))) (h3.2.2.2.1 0 200 rfl)

/-! mt156: from 156 to [50] -/
def w_mt156 : TP := ([(0, (2, 0, (0, []))), (1, (0, 0, (0, [(1, 0)]))), (2, (0, 0, (0, [(1, 1)]))), (3, (0, 0, (0, [(1, 2)]))), (4, (0, 0, (0, [(1, 3)]))), (5, (0, 0, (0, [(1, 4)]))), (6, (0, 0, (0, [(1, 5)]))), (7, (0, 0, (0, [(1, 6)]))), (8, (0, 0, (0, [(1, 7)])))], [(0, 0, (0, [(1, 8)]))], ([((-2147483648), 2147483647), ((-2147483648), 2147483647), ((-2147483648), 2147483647), (1, 6), ((-2147483648), 2147483647), (0, 1), ((-2147483648), 2147483647), (0, 6), (0, 1)], [], [], [200], [], [], []), [], [])
def u_mt156 : List (Nat × TP × EX × Nat × Nat) := [(50, ([(0, (2, 0, (0, []))), (1, (0, 0, (0, [(1, 0)]))), (2, (0, 0, (0, [(1, 1)]))), (3, (0, 0, (0, [(1, 2)]))), (4, (0, 0, (0, [(1, 3)]))), (5, (0, 0, (0, [(1, 4)]))), (6, (0, 0, (0, [(1, 8)]))), (7, (0, 0, (0, [(1, 6)]))), (8, (0, 0, (0, [(1, 7)])))], [], ([((-2147483648), 2147483647), ((-2147483648), 2147483647), ((-2147483648), 2147483647), (1, 6), ((-2147483648), 2147483647), (0, 1), ((-2147483648), 2147483647), (0, 6), (0, 1)], [], [], [200], [], [], []), [], []), ((-1), []), 0, 0)]
def D_mt156 : DT := (mkD iX12_match fX12 lX12 kX12 kkX12 390 [] (w_mt156, [], [], 9, 0, 0, 3) false 9 u_mt156)
theorem k_mt156 : chkS D_mt156 4000 0 0 156 = true := by decide +kernel
theorem s_mt156 {X0 : zC0} {E : zCx} (H : ∀ j, j < 390 → CMj X0 j) (hE : zOk E X0 RX12 cX12_match 9 (zrm 9 0 0)) {K : Nat → Nat} {B : Int} {L : List Nat} {f : Nat → va_E} (hh : hok X0.2.2.1 K B L f) {v0 v1 v2 v3 v4 v5 v6 v7 v8 : Int} {r0 : Nat} (hb0 : (-2147483648) ≤ v0 ∧ v0 ≤ 2147483647) (hb1 : (-2147483648) ≤ v1 ∧ v1 ≤ 2147483647) (hb2 : (-2147483648) ≤ v2 ∧ v2 ≤ 2147483647) (hb3 : 1 ≤ v3 ∧ v3 ≤ 6) (hb4 : (-2147483648) ≤ v4 ∧ v4 ≤ 2147483647) (hb5 : 0 ≤ v5 ∧ v5 ≤ 1) (hb6 : (-2147483648) ≤ v6 ∧ v6 ≤ 2147483647) (hb7 : 0 ≤ v7 ∧ v7 ≤ 6) (hb8 : 0 ≤ v8 ∧ v8 ≤ 1) (hr0 : r0 ∈ L ∧ K r0 = 200) (k50 : ∀ (K' : Nat → Nat) (B' : Int) (L' : List Nat) (f' : Nat → va_E), hok X0.2.2.1 K' B' L' f' → extC [] K B L f K' B' L' f' → ((-2147483648) ≤ v0 ∧ v0 ≤ 2147483647) → ((-2147483648) ≤ v1 ∧ v1 ≤ 2147483647) → ((-2147483648) ≤ v2 ∧ v2 ≤ 2147483647) → (1 ≤ v3 ∧ v3 ≤ 6) → ((-2147483648) ≤ v4 ∧ v4 ≤ 2147483647) → (0 ≤ v5 ∧ v5 ≤ 1) → ((-2147483648) ≤ v6 ∧ v6 ≤ 2147483647) → (0 ≤ v7 ∧ v7 ≤ 6) → (0 ≤ v8 ∧ v8 ≤ 1) → (r0 ∈ L' ∧ K' r0 = 200) → eW E 0 0 L' f' 50 [(0, .ref r0), (1, .int (Int32.ofInt v0)), (2, .int (Int32.ofInt v1)), (3, .int (Int32.ofInt v2)), (4, .int (Int32.ofInt v3)), (5, .int (Int32.ofInt v4)), (6, .int (Int32.ofInt v8)), (7, .int (Int32.ofInt v6)), (8, .int (Int32.ofInt v7))] []) : eW E 0 0 L f 156 [(0, .ref r0), (1, .int (Int32.ofInt v0)), (2, .int (Int32.ofInt v1)), (3, .int (Int32.ofInt v2)), (4, .int (Int32.ofInt v3)), (5, .int (Int32.ofInt v4)), (6, .int (Int32.ofInt v5)), (7, .int (Int32.ofInt v6)), (8, .int (Int32.ofInt v7))] [.int (Int32.ofInt v8)] := by
  obtain ⟨l0, D0, cy0, ax0⟩ := X0
  have hraw : eW E 0 0 L f 156 [(0, .ref r0), (1, .int (Int32.ofInt (0 + (1 * v0 + 0)))), (2, .int (Int32.ofInt (0 + (1 * v1 + 0)))), (3, .int (Int32.ofInt (0 + (1 * v2 + 0)))), (4, .int (Int32.ofInt (0 + (1 * v3 + 0)))), (5, .int (Int32.ofInt (0 + (1 * v4 + 0)))), (6, .int (Int32.ofInt (0 + (1 * v5 + 0)))), (7, .int (Int32.ofInt (0 + (1 * v6 + 0)))), (8, .int (Int32.ofInt (0 + (1 * v7 + 0))))] [.int (Int32.ofInt (0 + (1 * v8 + 0)))] := ?_
  · simpa only [Int.zero_add, Int.one_mul, Int.add_zero] using hraw
  refine seg_ok (D := D_mt156) (νi := fun i => [v0, v1, v2, v3, v4, v5, v6, v7, v8].getD i 0) (μi := fun i => [r0].getD i 0) k_mt156 hE (mk_ok (ins := iX12_match) jX12_match fX12_ok lX12_ok kX12_ok kkX12_ok H) (by decide) rfl rfl rfl rfl hh ?_ ?_
  · refine ⟨(eok_of (fun i q hq => ?_) (fun i hi => ?_)), fa0, fa0, ?_, fa0, fa0, fa0⟩
    · match i, hq with
      | 0, hq => cases hq; exact hb0
      | 1, hq => cases hq; exact hb1
      | 2, hq => cases hq; exact hb2
      | 3, hq => cases hq; exact hb3
      | 4, hq => cases hq; exact hb4
      | 5, hq => cases hq; exact hb5
      | 6, hq => cases hq; exact hb6
      | 7, hq => cases hq; exact hb7
      | 8, hq => cases hq; exact hb8
      | i + 9, hq => cases hq
    · match i, hi with
      | 0, hi => exact absurd hi (by decide)
      | 1, hi => exact absurd hi (by decide)
      | 2, hi => exact absurd hi (by decide)
      | 3, hi => exact absurd hi (by decide)
      | 4, hi => exact absurd hi (by decide)
      | 5, hi => exact absurd hi (by decide)
      | 6, hi => exact absurd hi (by decide)
      | 7, hi => exact absurd hi (by decide)
      | 8, hi => exact absurd hi (by decide)
      | i + 9, _ => rfl
    · intro i k hk
      match i, hk with
      | 0, hk => cases hk; exact hr0
      | i + 1, hk => cases hk
  · intro q hq hst K' B' L' f' ν μ h1 h2 h3 h4 h5
    have e0 : ν 0 = v0 := h4 0 (by decide)
    have e1 : ν 1 = v1 := h4 1 (by decide)
    have e2 : ν 2 = v2 := h4 2 (by decide)
    have e3 : ν 3 = v3 := h4 3 (by decide)
    have e4 : ν 4 = v4 := h4 4 (by decide)
    have e5 : ν 5 = v5 := h4 5 (by decide)
    have e6 : ν 6 = v6 := h4 6 (by decide)
    have e7 : ν 7 = v7 := h4 7 (by decide)
    have e8 : ν 8 = v8 := h4 8 (by decide)
    have d0 : μ 0 = r0 := h5 0 (by decide)
    subst e0
    subst e1
    subst e2
    subst e3
    subst e4
    subst e5
    subst e6
    subst e7
    subst e8
    subst d0
    replace hq : q ∈ u_mt156 := hq
    unfold u_mt156 at hq
    simp only [List.mem_cons, List.not_mem_nil, or_false] at hq
    rcases hq with rfl
    · have hst2 : eW E 0 0 L' f' 50 [(0, .ref (μ 0)), (1, .int (Int32.ofInt (0 + (1 * ν 0 + 0)))), (2, .int (Int32.ofInt (0 + (1 * ν 1 + 0)))), (3, .int (Int32.ofInt (0 + (1 * ν 2 + 0)))), (4, .int (Int32.ofInt (0 + (1 * ν 3 + 0)))), (5, .int (Int32.ofInt (0 + (1 * ν 4 + 0)))), (6, .int (Int32.ofInt (0 + (1 * ν 8 + 0)))), (7, .int (Int32.ofInt (0 + (1 * ν 6 + 0)))), (8, .int (Int32.ofInt (0 + (1 * ν 7 + 0))))] [] := ?_
      · exact hst2
      try simp only [Int.zero_add, Int.one_mul, Int.add_zero]
      exact k50 K' B' L' f'   h1 h2 (h3.1 0) (h3.1 1) (h3.1 2) (h3.1 3) (h3.1 4) (h3.1 5) (h3.1 6) (h3.1 7) (h3.1 8) (h3.2.2.2.1 0 200 rfl)

/-! mt161: from 161 to [168, 172] -/
def w_mt161 : TP := ([(0, (2, 0, (0, []))), (1, (0, 0, (0, [(1, 0)]))), (2, (0, 0, (0, [(1, 1)]))), (3, (0, 0, (0, [(1, 2)]))), (4, (0, 0, (0, [(1, 3)]))), (5, (0, 0, (0, [(1, 4)]))), (6, (0, 0, (0, [(1, 5)])))], [], ([((-2147483648), 2147483647), ((-2147483648), 2147483647), ((-2147483648), 2147483647), (1, 6), ((-2147483648), 2147483647), (0, 1)], [], [], [200], [], [], []), [], [])
def u_mt161 : List (Nat × TP × EX × Nat × Nat) := [(168, ([(0, (2, 0, (0, []))), (1, (0, 0, (0, [(1, 0)]))), (2, (0, 0, (0, [(1, 1)]))), (3, (0, 0, (0, [(1, 2)]))), (4, (0, 0, (0, [(1, 3)]))), (5, (0, 0, (0, [(1, 4)]))), (6, (0, 0, (0, [(1, 5)])))], [(0, 0, (0, [(1, 4)]))], ([((-2147483648), 2147483647), ((-2147483648), 2147483647), ((-1), (-1)), (1, 6), ((-2147483648), 2147483647), (0, 1)], [], [], [200], [], [], []), [], []), ((-1), []), 0, 0), (172, ([(0, (2, 0, (0, []))), (1, (0, 0, (0, [(1, 0)]))), (2, (0, 0, (0, [(1, 1)]))), (3, (0, 0, (0, [(1, 2)]))), (4, (0, 0, (0, [(1, 3)]))), (5, (0, 0, (0, [(1, 4)]))), (6, (0, 0, (0, [(1, 5)]))), (7, (0, 0, (0, [])))], [], ([((-2147483648), 2147483647), ((-2147483648), 2147483647), ((-2147483648), 2147483647), (1, 6), ((-2147483648), 2147483647), (0, 1)], [], [], [200], [], [], []), [], []), ((-1), []), 0, 0)]
def D_mt161 : DT := (mkD iX12_match fX12 lX12 kX12 kkX12 390 [] (w_mt161, [], [], 9, 0, 0, 3) false 9 u_mt161)
theorem k_mt161 : chkS D_mt161 4000 0 0 161 = true := by decide +kernel
theorem s_mt161 {X0 : zC0} {E : zCx} (H : ∀ j, j < 390 → CMj X0 j) (hE : zOk E X0 RX12 cX12_match 9 (zrm 9 0 0)) {K : Nat → Nat} {B : Int} {L : List Nat} {f : Nat → va_E} (hh : hok X0.2.2.1 K B L f) {v0 v1 v2 v3 v4 v5 : Int} {r0 : Nat} (hb0 : (-2147483648) ≤ v0 ∧ v0 ≤ 2147483647) (hb1 : (-2147483648) ≤ v1 ∧ v1 ≤ 2147483647) (hb2 : (-2147483648) ≤ v2 ∧ v2 ≤ 2147483647) (hb3 : 1 ≤ v3 ∧ v3 ≤ 6) (hb4 : (-2147483648) ≤ v4 ∧ v4 ≤ 2147483647) (hb5 : 0 ≤ v5 ∧ v5 ≤ 1) (hr0 : r0 ∈ L ∧ K r0 = 200) (k168 : ∀ (K' : Nat → Nat) (B' : Int) (L' : List Nat) (f' : Nat → va_E), hok X0.2.2.1 K' B' L' f' → extC [] K B L f K' B' L' f' → ((-2147483648) ≤ v0 ∧ v0 ≤ 2147483647) → ((-2147483648) ≤ v1 ∧ v1 ≤ 2147483647) → ((-1) ≤ v2 ∧ v2 ≤ (-1)) → (1 ≤ v3 ∧ v3 ≤ 6) → ((-2147483648) ≤ v4 ∧ v4 ≤ 2147483647) → (0 ≤ v5 ∧ v5 ≤ 1) → (r0 ∈ L' ∧ K' r0 = 200) → eW E 0 0 L' f' 168 [(0, .ref r0), (1, .int (Int32.ofInt v0)), (2, .int (Int32.ofInt v1)), (3, .int (Int32.ofInt v2)), (4, .int (Int32.ofInt v3)), (5, .int (Int32.ofInt v4)), (6, .int (Int32.ofInt v5))] [.int (Int32.ofInt v4)]) (k172 : ∀ (K' : Nat → Nat) (B' : Int) (L' : List Nat) (f' : Nat → va_E), hok X0.2.2.1 K' B' L' f' → extC [] K B L f K' B' L' f' → ((-2147483648) ≤ v0 ∧ v0 ≤ 2147483647) → ((-2147483648) ≤ v1 ∧ v1 ≤ 2147483647) → ((-2147483648) ≤ v2 ∧ v2 ≤ 2147483647) → (1 ≤ v3 ∧ v3 ≤ 6) → ((-2147483648) ≤ v4 ∧ v4 ≤ 2147483647) → (0 ≤ v5 ∧ v5 ≤ 1) → (r0 ∈ L' ∧ K' r0 = 200) → eW E 0 0 L' f' 172 [(0, .ref r0), (1, .int (Int32.ofInt v0)), (2, .int (Int32.ofInt v1)), (3, .int (Int32.ofInt v2)), (4, .int (Int32.ofInt v3)), (5, .int (Int32.ofInt v4)), (6, .int (Int32.ofInt v5)), (7, .int (Int32.ofInt 0))] []) : eW E 0 0 L f 161 [(0, .ref r0), (1, .int (Int32.ofInt v0)), (2, .int (Int32.ofInt v1)), (3, .int (Int32.ofInt v2)), (4, .int (Int32.ofInt v3)), (5, .int (Int32.ofInt v4)), (6, .int (Int32.ofInt v5))] [] := by
  obtain ⟨l0, D0, cy0, ax0⟩ := X0
  have hraw : eW E 0 0 L f 161 [(0, .ref r0), (1, .int (Int32.ofInt (0 + (1 * v0 + 0)))), (2, .int (Int32.ofInt (0 + (1 * v1 + 0)))), (3, .int (Int32.ofInt (0 + (1 * v2 + 0)))), (4, .int (Int32.ofInt (0 + (1 * v3 + 0)))), (5, .int (Int32.ofInt (0 + (1 * v4 + 0)))), (6, .int (Int32.ofInt (0 + (1 * v5 + 0))))] [] := ?_
  · simpa only [Int.zero_add, Int.one_mul, Int.add_zero] using hraw
  refine seg_ok (D := D_mt161) (νi := fun i => [v0, v1, v2, v3, v4, v5].getD i 0) (μi := fun i => [r0].getD i 0) k_mt161 hE (mk_ok (ins := iX12_match) jX12_match fX12_ok lX12_ok kX12_ok kkX12_ok H) (by decide) rfl rfl rfl rfl hh ?_ ?_
  · refine ⟨(eok_of (fun i q hq => ?_) (fun i hi => ?_)), fa0, fa0, ?_, fa0, fa0, fa0⟩
    · match i, hq with
      | 0, hq => cases hq; exact hb0
      | 1, hq => cases hq; exact hb1
      | 2, hq => cases hq; exact hb2
      | 3, hq => cases hq; exact hb3
      | 4, hq => cases hq; exact hb4
      | 5, hq => cases hq; exact hb5
      | i + 6, hq => cases hq
    · match i, hi with
      | 0, hi => exact absurd hi (by decide)
      | 1, hi => exact absurd hi (by decide)
      | 2, hi => exact absurd hi (by decide)
      | 3, hi => exact absurd hi (by decide)
      | 4, hi => exact absurd hi (by decide)
      | 5, hi => exact absurd hi (by decide)
      | i + 6, _ => rfl
    · intro i k hk
      match i, hk with
      | 0, hk => cases hk; exact hr0
      | i + 1, hk => cases hk
  · intro q hq hst K' B' L' f' ν μ h1 h2 h3 h4 h5
    have e0 : ν 0 = v0 := h4 0 (by decide)
    have e1 : ν 1 = v1 := h4 1 (by decide)
    have e2 : ν 2 = v2 := h4 2 (by decide)
    have e3 : ν 3 = v3 := h4 3 (by decide)
    have e4 : ν 4 = v4 := h4 4 (by decide)
    have e5 : ν 5 = v5 := h4 5 (by decide)
    have d0 : μ 0 = r0 := h5 0 (by decide)
    subst e0
    subst e1
    subst e2
    subst e3
    subst e4
    subst e5
    subst d0
    replace hq : q ∈ u_mt161 := hq
    unfold u_mt161 at hq
    simp only [List.mem_cons, List.not_mem_nil, or_false] at hq
    rcases hq with rfl | rfl
    · have hst2 : eW E 0 0 L' f' 168 [(0, .ref (μ 0)), (1, .int (Int32.ofInt (0 + (1 * ν 0 + 0)))), (2, .int (Int32.ofInt (0 + (1 * ν 1 + 0)))), (3, .int (Int32.ofInt (0 + (1 * ν 2 + 0)))), (4, .int (Int32.ofInt (0 + (1 * ν 3 + 0)))), (5, .int (Int32.ofInt (0 + (1 * ν 4 + 0)))), (6, .int (Int32.ofInt (0 + (1 * ν 5 + 0))))] [.int (Int32.ofInt (0 + (1 * ν 4 + 0)))] := ?_
      · exact hst2
      try simp only [Int.zero_add, Int.one_mul, Int.add_zero]
      exact k168 K' B' L' f'   h1 h2 (h3.1 0) (h3.1 1) (h3.1 2) (h3.1 3) (h3.1 4) (h3.1 5) (h3.2.2.2.1 0 200 rfl)
    · have hst2 : eW E 0 0 L' f' 172 [(0, .ref (μ 0)), (1, .int (Int32.ofInt (0 + (1 * ν 0 + 0)))), (2, .int (Int32.ofInt (0 + (1 * ν 1 + 0)))), (3, .int (Int32.ofInt (0 + (1 * ν 2 + 0)))), (4, .int (Int32.ofInt (0 + (1 * ν 3 + 0)))), (5, .int (Int32.ofInt (0 + (1 * ν 4 + 0)))), (6, .int (Int32.ofInt (0 + (1 * ν 5 + 0)))), (7, .int (Int32.ofInt (0 + 0)))] [] := ?_
      · exact hst2
      try simp only [Int.zero_add, Int.one_mul, Int.add_zero]
      exact k172 K' B' L' f'   h1 h2 (h3.1 0) (h3.1 1) (h3.1 2) (h3.1 3) (h3.1 4) (h3.1 5) (h3.2.2.2.1 0 200 rfl)

/-! mt172: from 172 to [183, 189] -/
def w_mt172 : TP := ([(0, (2, 0, (0, []))), (1, (0, 0, (0, [(1, 0)]))), (2, (0, 0, (0, [(1, 1)]))), (3, (0, 0, (0, [(1, 2)]))), (4, (0, 0, (0, [(1, 3)]))), (5, (0, 0, (0, [(1, 4)]))), (6, (0, 0, (0, [(1, 5)]))), (7, (0, 0, (0, [(1, 6)])))], [], ([((-2147483648), 2147483647), ((-2147483648), 2147483647), ((-2147483648), 2147483647), (1, 6), ((-2147483648), 2147483647), (0, 1), (0, 7)], [], [], [200], [], [], []), [], [])
def u_mt172 : List (Nat × TP × EX × Nat × Nat) := [(183, ([(0, (2, 0, (0, []))), (1, (0, 0, (0, [(1, 0)]))), (2, (0, 0, (0, [(1, 1)]))), (3, (0, 0, (0, [(1, 2)]))), (4, (0, 0, (0, [(1, 3)]))), (5, (0, 0, (0, [(1, 4)]))), (6, (0, 0, (0, [(1, 5)]))), (7, (0, 0, (0, [(1, 6)])))], [], ([((-2147483648), 2147483647), ((-2147483648), 2147483647), ((-2147483648), 2147483647), (1, 6), ((-2147483648), 2147483647), (0, 1), (0, 7), (0, 7)], [], [], [200], [((219, (0, [(1, 6)])), (0, [(1, 7)]))], [], []), [(2, 219, (0, [(1, 6)]))], []), ((-1), []), 0, 0), (189, ([(0, (2, 0, (0, []))), (1, (0, 0, (0, [(1, 0)]))), (2, (0, 0, (0, [(1, 1)]))), (3, (0, 0, (0, [(1, 2)]))), (4, (0, 0, (0, [(1, 3)]))), (5, (0, 0, (0, [(1, 4)]))), (6, (0, 0, (0, [(1, 5)]))), (7, (0, 0, (0, [(1, 6)])))], [], ([((-2147483648), 2147483647), ((-2147483648), 2147483647), (0, 7), (1, 6), ((-2147483648), 2147483647), (0, 1), (0, 7), (0, 7)], [(0, [((-1), 7), (1, 2)]), (0, [(1, 7), ((-1), 2)])], [], [200], [((219, (0, [(1, 6)])), (0, [(1, 7)]))], [], []), [(2, 219, (0, [(1, 6)]))], []), ((-1), []), 0, 0)]
def D_mt172 : DT := (mkD iX12_match fX12 lX12 kX12 kkX12 390 [] (w_mt172, [], [], 9, 0, 0, 3) false 9 u_mt172)
theorem k_mt172 : chkS D_mt172 4000 0 0 172 = true := by decide +kernel
theorem s_mt172 {X0 : zC0} {E : zCx} (H : ∀ j, j < 390 → CMj X0 j) (hE : zOk E X0 RX12 cX12_match 9 (zrm 9 0 0)) {K : Nat → Nat} {B : Int} {L : List Nat} {f : Nat → va_E} (hh : hok X0.2.2.1 K B L f) {v0 v1 v2 v3 v4 v5 v6 : Int} {r0 : Nat} (hb0 : (-2147483648) ≤ v0 ∧ v0 ≤ 2147483647) (hb1 : (-2147483648) ≤ v1 ∧ v1 ≤ 2147483647) (hb2 : (-2147483648) ≤ v2 ∧ v2 ≤ 2147483647) (hb3 : 1 ≤ v3 ∧ v3 ≤ 6) (hb4 : (-2147483648) ≤ v4 ∧ v4 ≤ 2147483647) (hb5 : 0 ≤ v5 ∧ v5 ≤ 1) (hb6 : 0 ≤ v6 ∧ v6 ≤ 7) (hr0 : r0 ∈ L ∧ K r0 = 200) (k183 : ∀ (K' : Nat → Nat) (B' : Int) (L' : List Nat) (f' : Nat → va_E) (v7 : Int), hok X0.2.2.1 K' B' L' f' → extC [] K B L f K' B' L' f' → ((-2147483648) ≤ v0 ∧ v0 ≤ 2147483647) → ((-2147483648) ≤ v1 ∧ v1 ≤ 2147483647) → ((-2147483648) ≤ v2 ∧ v2 ≤ 2147483647) → (1 ≤ v3 ∧ v3 ≤ 6) → ((-2147483648) ≤ v4 ∧ v4 ≤ 2147483647) → (0 ≤ v5 ∧ v5 ≤ 1) → (0 ≤ v6 ∧ v6 ≤ 7) → (0 ≤ v7 ∧ v7 ≤ 7) → (r0 ∈ L' ∧ K' r0 = 200) → (∀ b ∈ L', K' b = 219 → (0 : Int) ≤ v6 ∧ gi (f' b) ((v6 : Int)).toNat = v7) → eW E 0 0 L' f' 183 [(0, .ref r0), (1, .int (Int32.ofInt v0)), (2, .int (Int32.ofInt v1)), (3, .int (Int32.ofInt v2)), (4, .int (Int32.ofInt v3)), (5, .int (Int32.ofInt v4)), (6, .int (Int32.ofInt v5)), (7, .int (Int32.ofInt v6))] []) (k189 : ∀ (K' : Nat → Nat) (B' : Int) (L' : List Nat) (f' : Nat → va_E) (v7 : Int), hok X0.2.2.1 K' B' L' f' → extC [] K B L f K' B' L' f' → ((-2147483648) ≤ v0 ∧ v0 ≤ 2147483647) → ((-2147483648) ≤ v1 ∧ v1 ≤ 2147483647) → (0 ≤ v2 ∧ v2 ≤ 7) → (1 ≤ v3 ∧ v3 ≤ 6) → ((-2147483648) ≤ v4 ∧ v4 ≤ 2147483647) → (0 ≤ v5 ∧ v5 ≤ 1) → (0 ≤ v6 ∧ v6 ≤ 7) → (0 ≤ v7 ∧ v7 ≤ 7) → (0 ≤ ((-1) * v7 + v2)) → (0 ≤ (v7 + ((-1) * v2))) → (r0 ∈ L' ∧ K' r0 = 200) → (∀ b ∈ L', K' b = 219 → (0 : Int) ≤ v6 ∧ gi (f' b) ((v6 : Int)).toNat = v7) → eW E 0 0 L' f' 189 [(0, .ref r0), (1, .int (Int32.ofInt v0)), (2, .int (Int32.ofInt v1)), (3, .int (Int32.ofInt v2)), (4, .int (Int32.ofInt v3)), (5, .int (Int32.ofInt v4)), (6, .int (Int32.ofInt v5)), (7, .int (Int32.ofInt v6))] []) : eW E 0 0 L f 172 [(0, .ref r0), (1, .int (Int32.ofInt v0)), (2, .int (Int32.ofInt v1)), (3, .int (Int32.ofInt v2)), (4, .int (Int32.ofInt v3)), (5, .int (Int32.ofInt v4)), (6, .int (Int32.ofInt v5)), (7, .int (Int32.ofInt v6))] [] := by
  obtain ⟨l0, D0, cy0, ax0⟩ := X0
  have hraw : eW E 0 0 L f 172 [(0, .ref r0), (1, .int (Int32.ofInt (0 + (1 * v0 + 0)))), (2, .int (Int32.ofInt (0 + (1 * v1 + 0)))), (3, .int (Int32.ofInt (0 + (1 * v2 + 0)))), (4, .int (Int32.ofInt (0 + (1 * v3 + 0)))), (5, .int (Int32.ofInt (0 + (1 * v4 + 0)))), (6, .int (Int32.ofInt (0 + (1 * v5 + 0)))), (7, .int (Int32.ofInt (0 + (1 * v6 + 0))))] [] := ?_
  · simpa only [Int.zero_add, Int.one_mul, Int.add_zero] using hraw
  refine seg_ok (D := D_mt172) (νi := fun i => [v0, v1, v2, v3, v4, v5, v6].getD i 0) (μi := fun i => [r0].getD i 0) k_mt172 hE (mk_ok (ins := iX12_match) jX12_match fX12_ok lX12_ok kX12_ok kkX12_ok H) (by decide) rfl rfl rfl rfl hh ?_ ?_
  · refine ⟨(eok_of (fun i q hq => ?_) (fun i hi => ?_)), fa0, fa0, ?_, fa0, fa0, fa0⟩
    · match i, hq with
      | 0, hq => cases hq; exact hb0
      | 1, hq => cases hq; exact hb1
      | 2, hq => cases hq; exact hb2
      | 3, hq => cases hq; exact hb3
      | 4, hq => cases hq; exact hb4
      | 5, hq => cases hq; exact hb5
      | 6, hq => cases hq; exact hb6
      | i + 7, hq => cases hq
    · match i, hi with
      | 0, hi => exact absurd hi (by decide)
      | 1, hi => exact absurd hi (by decide)
      | 2, hi => exact absurd hi (by decide)
      | 3, hi => exact absurd hi (by decide)
      | 4, hi => exact absurd hi (by decide)
      | 5, hi => exact absurd hi (by decide)
      | 6, hi => exact absurd hi (by decide)
      | i + 7, _ => rfl
    · intro i k hk
      match i, hk with
      | 0, hk => cases hk; exact hr0
      | i + 1, hk => cases hk
  · intro q hq hst K' B' L' f' ν μ h1 h2 h3 h4 h5
    have e0 : ν 0 = v0 := h4 0 (by decide)
    have e1 : ν 1 = v1 := h4 1 (by decide)
    have e2 : ν 2 = v2 := h4 2 (by decide)
    have e3 : ν 3 = v3 := h4 3 (by decide)
    have e4 : ν 4 = v4 := h4 4 (by decide)
    have e5 : ν 5 = v5 := h4 5 (by decide)
    have e6 : ν 6 = v6 := h4 6 (by decide)
    have d0 : μ 0 = r0 := h5 0 (by decide)
    subst e0
    subst e1
    subst e2
    subst e3
    subst e4
    subst e5
    subst e6
    subst d0
    replace hq : q ∈ u_mt172 := hq
    unfold u_mt172 at hq
    simp only [List.mem_cons, List.not_mem_nil, or_false] at hq
    rcases hq with rfl | rfl
    · have hst2 : eW E 0 0 L' f' 183 [(0, .ref (μ 0)), (1, .int (Int32.ofInt (0 + (1 * ν 0 + 0)))), (2, .int (Int32.ofInt (0 + (1 * ν 1 + 0)))), (3, .int (Int32.ofInt (0 + (1 * ν 2 + 0)))), (4, .int (Int32.ofInt (0 + (1 * ν 3 + 0)))), (5, .int (Int32.ofInt (0 + (1 * ν 4 + 0)))), (6, .int (Int32.ofInt (0 + (1 * ν 5 + 0)))), (7, .int (Int32.ofInt (0 + (1 * ν 6 + 0))))] [] := ?_
      · exact hst2
      try simp only [Int.zero_add, Int.one_mul, Int.add_zero]
      exact k183 K' B' L' f' (ν 7)  h1 h2 (h3.1 0) (h3.1 1) (h3.1 2) (h3.1 3) (h3.1 4) (h3.1 5) (h3.1 6) (h3.1 7) (h3.2.2.2.1 0 200 rfl) (by simpa only [xv, xvT, Int.zero_add, Int.one_mul, Int.add_zero] using (mokA h1 (show (zkd 219).1 = 2 by decide) (by decide) (h3.2.2.2.2.1 _ (List.mem_of_getElem? (i := 0) rfl))))
    · have hst2 : eW E 0 0 L' f' 189 [(0, .ref (μ 0)), (1, .int (Int32.ofInt (0 + (1 * ν 0 + 0)))), (2, .int (Int32.ofInt (0 + (1 * ν 1 + 0)))), (3, .int (Int32.ofInt (0 + (1 * ν 2 + 0)))), (4, .int (Int32.ofInt (0 + (1 * ν 3 + 0)))), (5, .int (Int32.ofInt (0 + (1 * ν 4 + 0)))), (6, .int (Int32.ofInt (0 + (1 * ν 5 + 0)))), (7, .int (Int32.ofInt (0 + (1 * ν 6 + 0))))] [] := ?_
      · exact hst2
      try simp only [Int.zero_add, Int.one_mul, Int.add_zero]
      exact k189 K' B' L' f' (ν 7)  h1 h2 (h3.1 0) (h3.1 1) (h3.1 2) (h3.1 3) (h3.1 4) (h3.1 5) (h3.1 6) (h3.1 7) (by simpa only [xv, xvT, Int.zero_add, Int.one_mul, Int.add_zero] using (h3.2.1 _ (List.mem_of_getElem? (i := 0) rfl))) (by simpa only [xv, xvT, Int.zero_add, Int.one_mul, Int.add_zero] using (h3.2.1 _ (List.mem_of_getElem? (i := 1) rfl))) (h3.2.2.2.1 0 200 rfl) (by simpa only [xv, xvT, Int.zero_add, Int.one_mul, Int.add_zero] using (mokA h1 (show (zkd 219).1 = 2 by decide) (by decide) (h3.2.2.2.2.1 _ (List.mem_of_getElem? (i := 0) rfl))))

/-! mt183: from 183 to [172] -/
def w_mt183 : TP := ([(0, (2, 0, (0, []))), (1, (0, 0, (0, [(1, 0)]))), (2, (0, 0, (0, [(1, 1)]))), (3, (0, 0, (0, [(1, 2)]))), (4, (0, 0, (0, [(1, 3)]))), (5, (0, 0, (0, [(1, 4)]))), (6, (0, 0, (0, [(1, 5)]))), (7, (0, 0, (0, [(1, 6)])))], [], ([((-2147483648), 2147483647), ((-2147483648), 2147483647), ((-2147483648), 2147483647), (1, 6), ((-2147483648), 2147483647), (0, 1), (0, 7)], [], [], [200], [], [], []), [], [])
def u_mt183 : List (Nat × TP × EX × Nat × Nat) := [(172, ([(0, (2, 0, (0, []))), (1, (0, 0, (0, [(1, 0)]))), (2, (0, 0, (0, [(1, 1)]))), (3, (0, 0, (0, [(1, 2)]))), (4, (0, 0, (0, [(1, 3)]))), (5, (0, 0, (0, [(1, 4)]))), (6, (0, 0, (0, [(1, 5)]))), (7, (0, 0, (1, [(1, 6)])))], [], ([((-2147483648), 2147483647), ((-2147483648), 2147483647), ((-2147483648), 2147483647), (1, 6), ((-2147483648), 2147483647), (0, 1), (0, 7)], [], [], [200], [], [], []), [], []), ((-1), []), 0, 0)]
def D_mt183 : DT := (mkD iX12_match fX12 lX12 kX12 kkX12 390 [] (w_mt183, [], [], 9, 0, 0, 3) false 9 u_mt183)
theorem k_mt183 : chkS D_mt183 4000 0 0 183 = true := by decide +kernel
theorem s_mt183 {X0 : zC0} {E : zCx} (H : ∀ j, j < 390 → CMj X0 j) (hE : zOk E X0 RX12 cX12_match 9 (zrm 9 0 0)) {K : Nat → Nat} {B : Int} {L : List Nat} {f : Nat → va_E} (hh : hok X0.2.2.1 K B L f) {v0 v1 v2 v3 v4 v5 v6 : Int} {r0 : Nat} (hb0 : (-2147483648) ≤ v0 ∧ v0 ≤ 2147483647) (hb1 : (-2147483648) ≤ v1 ∧ v1 ≤ 2147483647) (hb2 : (-2147483648) ≤ v2 ∧ v2 ≤ 2147483647) (hb3 : 1 ≤ v3 ∧ v3 ≤ 6) (hb4 : (-2147483648) ≤ v4 ∧ v4 ≤ 2147483647) (hb5 : 0 ≤ v5 ∧ v5 ≤ 1) (hb6 : 0 ≤ v6 ∧ v6 ≤ 7) (hr0 : r0 ∈ L ∧ K r0 = 200) (k172 : ∀ (K' : Nat → Nat) (B' : Int) (L' : List Nat) (f' : Nat → va_E), hok X0.2.2.1 K' B' L' f' → extC [] K B L f K' B' L' f' → ((-2147483648) ≤ v0 ∧ v0 ≤ 2147483647) → ((-2147483648) ≤ v1 ∧ v1 ≤ 2147483647) → ((-2147483648) ≤ v2 ∧ v2 ≤ 2147483647) → (1 ≤ v3 ∧ v3 ≤ 6) → ((-2147483648) ≤ v4 ∧ v4 ≤ 2147483647) → (0 ≤ v5 ∧ v5 ≤ 1) → (0 ≤ v6 ∧ v6 ≤ 7) → (r0 ∈ L' ∧ K' r0 = 200) → eW E 0 0 L' f' 172 [(0, .ref r0), (1, .int (Int32.ofInt v0)), (2, .int (Int32.ofInt v1)), (3, .int (Int32.ofInt v2)), (4, .int (Int32.ofInt v3)), (5, .int (Int32.ofInt v4)), (6, .int (Int32.ofInt v5)), (7, .int (Int32.ofInt (1 + v6)))] []) : eW E 0 0 L f 183 [(0, .ref r0), (1, .int (Int32.ofInt v0)), (2, .int (Int32.ofInt v1)), (3, .int (Int32.ofInt v2)), (4, .int (Int32.ofInt v3)), (5, .int (Int32.ofInt v4)), (6, .int (Int32.ofInt v5)), (7, .int (Int32.ofInt v6))] [] := by
  obtain ⟨l0, D0, cy0, ax0⟩ := X0
  have hraw : eW E 0 0 L f 183 [(0, .ref r0), (1, .int (Int32.ofInt (0 + (1 * v0 + 0)))), (2, .int (Int32.ofInt (0 + (1 * v1 + 0)))), (3, .int (Int32.ofInt (0 + (1 * v2 + 0)))), (4, .int (Int32.ofInt (0 + (1 * v3 + 0)))), (5, .int (Int32.ofInt (0 + (1 * v4 + 0)))), (6, .int (Int32.ofInt (0 + (1 * v5 + 0)))), (7, .int (Int32.ofInt (0 + (1 * v6 + 0))))] [] := ?_
  · simpa only [Int.zero_add, Int.one_mul, Int.add_zero] using hraw
  refine seg_ok (D := D_mt183) (νi := fun i => [v0, v1, v2, v3, v4, v5, v6].getD i 0) (μi := fun i => [r0].getD i 0) k_mt183 hE (mk_ok (ins := iX12_match) jX12_match fX12_ok lX12_ok kX12_ok kkX12_ok H) (by decide) rfl rfl rfl rfl hh ?_ ?_
  · refine ⟨(eok_of (fun i q hq => ?_) (fun i hi => ?_)), fa0, fa0, ?_, fa0, fa0, fa0⟩
    · match i, hq with
      | 0, hq => cases hq; exact hb0
      | 1, hq => cases hq; exact hb1
      | 2, hq => cases hq; exact hb2
      | 3, hq => cases hq; exact hb3
      | 4, hq => cases hq; exact hb4
      | 5, hq => cases hq; exact hb5
      | 6, hq => cases hq; exact hb6
      | i + 7, hq => cases hq
    · match i, hi with
      | 0, hi => exact absurd hi (by decide)
      | 1, hi => exact absurd hi (by decide)
      | 2, hi => exact absurd hi (by decide)
      | 3, hi => exact absurd hi (by decide)
      | 4, hi => exact absurd hi (by decide)
      | 5, hi => exact absurd hi (by decide)
      | 6, hi => exact absurd hi (by decide)
      | i + 7, _ => rfl
    · intro i k hk
      match i, hk with
      | 0, hk => cases hk; exact hr0
      | i + 1, hk => cases hk
  · intro q hq hst K' B' L' f' ν μ h1 h2 h3 h4 h5
    have e0 : ν 0 = v0 := h4 0 (by decide)
    have e1 : ν 1 = v1 := h4 1 (by decide)
    have e2 : ν 2 = v2 := h4 2 (by decide)
    have e3 : ν 3 = v3 := h4 3 (by decide)
    have e4 : ν 4 = v4 := h4 4 (by decide)
    have e5 : ν 5 = v5 := h4 5 (by decide)
    have e6 : ν 6 = v6 := h4 6 (by decide)
    have d0 : μ 0 = r0 := h5 0 (by decide)
    subst e0
    subst e1
    subst e2
    subst e3
    subst e4
    subst e5
    subst e6
    subst d0
    replace hq : q ∈ u_mt183 := hq
    unfold u_mt183 at hq
    simp only [List.mem_cons, List.not_mem_nil, or_false] at hq
    rcases hq with rfl
    · have hst2 : eW E 0 0 L' f' 172 [(0, .ref (μ 0)), (1, .int (Int32.ofInt (0 + (1 * ν 0 + 0)))), (2, .int (Int32.ofInt (0 + (1 * ν 1 + 0)))), (3, .int (Int32.ofInt (0 + (1 * ν 2 + 0)))), (4, .int (Int32.ofInt (0 + (1 * ν 3 + 0)))), (5, .int (Int32.ofInt (0 + (1 * ν 4 + 0)))), (6, .int (Int32.ofInt (0 + (1 * ν 5 + 0)))), (7, .int (Int32.ofInt (1 + (1 * ν 6 + 0))))] [] := ?_
      · exact hst2
      try simp only [Int.zero_add, Int.one_mul, Int.add_zero]
      exact k172 K' B' L' f'   h1 h2 (h3.1 0) (h3.1 1) (h3.1 2) (h3.1 3) (h3.1 4) (h3.1 5) (h3.1 6) (h3.2.2.2.1 0 200 rfl)

/-! mt189: from 189 to [201] -/
def w_mt189 : TP := ([(0, (2, 0, (0, []))), (1, (0, 0, (0, [(1, 0)]))), (2, (0, 0, (0, [(1, 1)]))), (3, (0, 0, (0, [(1, 2)]))), (4, (0, 0, (0, [(1, 3)]))), (5, (0, 0, (0, [(1, 4)]))), (6, (0, 0, (0, [(1, 5)]))), (7, (0, 0, (0, [(1, 6)])))], [], ([((-2147483648), 2147483647), ((-2147483648), 2147483647), ((-2147483648), 2147483647), (1, 6), ((-2147483648), 2147483647), (0, 1), (0, 5)], [], [], [200], [], [], []), [], [])
def u_mt189 : List (Nat × TP × EX × Nat × Nat) := [(201, ([(0, (2, 0, (0, []))), (1, (0, 0, (0, [(1, 0)]))), (2, (0, 0, (0, [(1, 1)]))), (3, (0, 0, (0, [(1, 2)]))), (4, (0, 0, (0, [(1, 3)]))), (5, (0, 0, (0, [(1, 4)]))), (6, (0, 0, (0, [(1, 5)]))), (7, (0, 0, (0, [(1, 6)])))], [(0, 0, (0, [(1, 7)]))], ([((-2147483648), 2147483647), ((-2147483648), 2147483647), ((-2147483648), 2147483647), (1, 6), ((-2147483648), 2147483647), (0, 1), (0, 5), (0, 5), (0, 5)], [], [], [200], [((220, (0, [(1, 8)])), (0, [(1, 7)])), ((223, (0, [(1, 6)])), (0, [(1, 8)]))], [], []), [(1, 0, (0, [])), (2, 223, (0, [(1, 6)]))], []), ((-1), []), 0, 0)]
def D_mt189 : DT := (mkD iX12_match fX12 lX12 kX12 kkX12 390 [] (w_mt189, [], [], 9, 0, 0, 3) false 9 u_mt189)
theorem k_mt189 : chkS D_mt189 4000 0 0 189 = true := by decide +kernel
theorem s_mt189 {X0 : zC0} {E : zCx} (H : ∀ j, j < 390 → CMj X0 j) (hE : zOk E X0 RX12 cX12_match 9 (zrm 9 0 0)) {K : Nat → Nat} {B : Int} {L : List Nat} {f : Nat → va_E} (hh : hok X0.2.2.1 K B L f) {v0 v1 v2 v3 v4 v5 v6 : Int} {r0 : Nat} (hb0 : (-2147483648) ≤ v0 ∧ v0 ≤ 2147483647) (hb1 : (-2147483648) ≤ v1 ∧ v1 ≤ 2147483647) (hb2 : (-2147483648) ≤ v2 ∧ v2 ≤ 2147483647) (hb3 : 1 ≤ v3 ∧ v3 ≤ 6) (hb4 : (-2147483648) ≤ v4 ∧ v4 ≤ 2147483647) (hb5 : 0 ≤ v5 ∧ v5 ≤ 1) (hb6 : 0 ≤ v6 ∧ v6 ≤ 5) (hr0 : r0 ∈ L ∧ K r0 = 200) (k201 : ∀ (K' : Nat → Nat) (B' : Int) (L' : List Nat) (f' : Nat → va_E) (v7 v8 : Int), hok X0.2.2.1 K' B' L' f' → extC [] K B L f K' B' L' f' → ((-2147483648) ≤ v0 ∧ v0 ≤ 2147483647) → ((-2147483648) ≤ v1 ∧ v1 ≤ 2147483647) → ((-2147483648) ≤ v2 ∧ v2 ≤ 2147483647) → (1 ≤ v3 ∧ v3 ≤ 6) → ((-2147483648) ≤ v4 ∧ v4 ≤ 2147483647) → (0 ≤ v5 ∧ v5 ≤ 1) → (0 ≤ v6 ∧ v6 ≤ 5) → (0 ≤ v7 ∧ v7 ≤ 5) → (0 ≤ v8 ∧ v8 ≤ 5) → (r0 ∈ L' ∧ K' r0 = 200) → (∀ b ∈ L', K' b = 220 → (0 : Int) ≤ v8 ∧ gi (f' b) ((v8 : Int)).toNat = v7) → (∀ b ∈ L', K' b = 223 → (0 : Int) ≤ v6 ∧ gi (f' b) ((v6 : Int)).toNat = v8) → eW E 0 0 L' f' 201 [(0, .ref r0), (1, .int (Int32.ofInt v0)), (2, .int (Int32.ofInt v1)), (3, .int (Int32.ofInt v2)), (4, .int (Int32.ofInt v3)), (5, .int (Int32.ofInt v4)), (6, .int (Int32.ofInt v5)), (7, .int (Int32.ofInt v6))] [.int (Int32.ofInt v7)]) : eW E 0 0 L f 189 [(0, .ref r0), (1, .int (Int32.ofInt v0)), (2, .int (Int32.ofInt v1)), (3, .int (Int32.ofInt v2)), (4, .int (Int32.ofInt v3)), (5, .int (Int32.ofInt v4)), (6, .int (Int32.ofInt v5)), (7, .int (Int32.ofInt v6))] [] := by
  obtain ⟨l0, D0, cy0, ax0⟩ := X0
  have hraw : eW E 0 0 L f 189 [(0, .ref r0), (1, .int (Int32.ofInt (0 + (1 * v0 + 0)))), (2, .int (Int32.ofInt (0 + (1 * v1 + 0)))), (3, .int (Int32.ofInt (0 + (1 * v2 + 0)))), (4, .int (Int32.ofInt (0 + (1 * v3 + 0)))), (5, .int (Int32.ofInt (0 + (1 * v4 + 0)))), (6, .int (Int32.ofInt (0 + (1 * v5 + 0)))), (7, .int (Int32.ofInt (0 + (1 * v6 + 0))))] [] := ?_
  · simpa only [Int.zero_add, Int.one_mul, Int.add_zero] using hraw
  refine seg_ok (D := D_mt189) (νi := fun i => [v0, v1, v2, v3, v4, v5, v6].getD i 0) (μi := fun i => [r0].getD i 0) k_mt189 hE (mk_ok (ins := iX12_match) jX12_match fX12_ok lX12_ok kX12_ok kkX12_ok H) (by decide) rfl rfl rfl rfl hh ?_ ?_
  · refine ⟨(eok_of (fun i q hq => ?_) (fun i hi => ?_)), fa0, fa0, ?_, fa0, fa0, fa0⟩
    · match i, hq with
      | 0, hq => cases hq; exact hb0
      | 1, hq => cases hq; exact hb1
      | 2, hq => cases hq; exact hb2
      | 3, hq => cases hq; exact hb3
      | 4, hq => cases hq; exact hb4
      | 5, hq => cases hq; exact hb5
      | 6, hq => cases hq; exact hb6
      | i + 7, hq => cases hq
    · match i, hi with
      | 0, hi => exact absurd hi (by decide)
      | 1, hi => exact absurd hi (by decide)
      | 2, hi => exact absurd hi (by decide)
      | 3, hi => exact absurd hi (by decide)
      | 4, hi => exact absurd hi (by decide)
      | 5, hi => exact absurd hi (by decide)
      | 6, hi => exact absurd hi (by decide)
      | i + 7, _ => rfl
    · intro i k hk
      match i, hk with
      | 0, hk => cases hk; exact hr0
      | i + 1, hk => cases hk
  · intro q hq hst K' B' L' f' ν μ h1 h2 h3 h4 h5
    have e0 : ν 0 = v0 := h4 0 (by decide)
    have e1 : ν 1 = v1 := h4 1 (by decide)
    have e2 : ν 2 = v2 := h4 2 (by decide)
    have e3 : ν 3 = v3 := h4 3 (by decide)
    have e4 : ν 4 = v4 := h4 4 (by decide)
    have e5 : ν 5 = v5 := h4 5 (by decide)
    have e6 : ν 6 = v6 := h4 6 (by decide)
    have d0 : μ 0 = r0 := h5 0 (by decide)
    subst e0
    subst e1
    subst e2
    subst e3
    subst e4
    subst e5
    subst e6
    subst d0
    replace hq : q ∈ u_mt189 := hq
    unfold u_mt189 at hq
    simp only [List.mem_cons, List.not_mem_nil, or_false] at hq
    rcases hq with rfl
    · have hst2 : eW E 0 0 L' f' 201 [(0, .ref (μ 0)), (1, .int (Int32.ofInt (0 + (1 * ν 0 + 0)))), (2, .int (Int32.ofInt (0 + (1 * ν 1 + 0)))), (3, .int (Int32.ofInt (0 + (1 * ν 2 + 0)))), (4, .int (Int32.ofInt (0 + (1 * ν 3 + 0)))), (5, .int (Int32.ofInt (0 + (1 * ν 4 + 0)))), (6, .int (Int32.ofInt (0 + (1 * ν 5 + 0)))), (7, .int (Int32.ofInt (0 + (1 * ν 6 + 0))))] [.int (Int32.ofInt (0 + (1 * ν 7 + 0)))] := ?_
      · exact hst2
      try simp only [Int.zero_add, Int.one_mul, Int.add_zero]
      exact k201 K' B' L' f' (ν 7) (ν 8)  h1 h2 (h3.1 0) (h3.1 1) (h3.1 2) (h3.1 3) (h3.1 4) (h3.1 5) (h3.1 6) (h3.1 7) (h3.1 8) (h3.2.2.2.1 0 200 rfl) (by simpa only [xv, xvT, Int.zero_add, Int.one_mul, Int.add_zero] using (mokA h1 (show (zkd 220).1 = 2 by decide) (by decide) (h3.2.2.2.2.1 _ (List.mem_of_getElem? (i := 0) rfl)))) (by simpa only [xv, xvT, Int.zero_add, Int.one_mul, Int.add_zero] using (mokA h1 (show (zkd 223).1 = 2 by decide) (by decide) (h3.2.2.2.2.1 _ (List.mem_of_getElem? (i := 1) rfl))))
