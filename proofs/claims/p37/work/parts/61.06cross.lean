/-! cc0: from 0 to [10, 14] -/
def w_cc0 : TP := ([(0, (2, 0, (0, []))), (1, (0, 0, (0, [(1, 0)]))), (2, (0, 0, (0, [(1, 1)])))], [], ([(0, 5), ((-2147483648), 2147483647)], [], [], [200], [], [], []), [], [])
def u_cc0 : List (Nat × TP × EX × Nat × Nat) := [(10, ([(0, (2, 0, (0, []))), (1, (0, 0, (0, [(1, 0)]))), (2, (0, 0, (0, [(1, 1)])))], [], ([(0, 5), ((-2147483648), 2147483647), ((-2147483648), 2147483647)], [(0, [(1, 2), ((-1), 1)])], [], [200], [((201, (19, [(7, 0)])), (0, [(1, 2)]))], [], []), [(2, 201, (19, [(7, 0)]))], []), ((-1), []), 0, 0), (14, ([(0, (2, 0, (0, []))), (1, (0, 0, (0, [(1, 0)]))), (2, (0, 0, (0, [(1, 1)])))], [], ([(0, 5), ((-2147483647), 2147483647), ((-2147483648), 2147483646)], [((-1), [((-1), 2), (1, 1)])], [], [200], [((201, (19, [(7, 0)])), (0, [(1, 2)]))], [], []), [(2, 201, (19, [(7, 0)]))], []), ((-1), []), 0, 0)]
def D_cc0 : DT := (mkD iX12_canCome fX12 lX12 kX12 kkX12 342 [(3, [294])] (w_cc0, [], [], 2, 0, 0, 3) false 3 u_cc0)
theorem k_cc0 : chkS D_cc0 4000 0 0 0 = true := by decide +kernel
theorem s_cc0 {X0 : zC0} {E : zCx} (H : ∀ j, j < 342 → CMj X0 j) (hE : zOk E X0 RX12 cX12_canCome 3 (zrm 2 0 0)) {K : Nat → Nat} {B : Int} {L : List Nat} {f : Nat → va_E} (hh : hok X0.2.2.1 K B L f) {v0 v1 : Int} {r0 : Nat} (hb0 : 0 ≤ v0 ∧ v0 ≤ 5) (hb1 : (-2147483648) ≤ v1 ∧ v1 ≤ 2147483647) (hr0 : r0 ∈ L ∧ K r0 = 200) (k10 : ∀ (K' : Nat → Nat) (B' : Int) (L' : List Nat) (f' : Nat → va_E) (v2 : Int), hok X0.2.2.1 K' B' L' f' → extC [] K B L f K' B' L' f' → (0 ≤ v0 ∧ v0 ≤ 5) → ((-2147483648) ≤ v1 ∧ v1 ≤ 2147483647) → ((-2147483648) ≤ v2 ∧ v2 ≤ 2147483647) → (0 ≤ (v2 + ((-1) * v1))) → (r0 ∈ L' ∧ K' r0 = 200) → (∀ b ∈ L', K' b = 201 → (0 : Int) ≤ (19 + (7 * v0)) ∧ gi (f' b) (((19 + (7 * v0)) : Int)).toNat = v2) → eW E 0 0 L' f' 10 [(0, .ref r0), (1, .int (Int32.ofInt v0)), (2, .int (Int32.ofInt v1))] []) (k14 : ∀ (K' : Nat → Nat) (B' : Int) (L' : List Nat) (f' : Nat → va_E) (v2 : Int), hok X0.2.2.1 K' B' L' f' → extC [] K B L f K' B' L' f' → (0 ≤ v0 ∧ v0 ≤ 5) → ((-2147483647) ≤ v1 ∧ v1 ≤ 2147483647) → ((-2147483648) ≤ v2 ∧ v2 ≤ 2147483646) → (0 ≤ ((-1) + ((-1) * v2 + v1))) → (r0 ∈ L' ∧ K' r0 = 200) → (∀ b ∈ L', K' b = 201 → (0 : Int) ≤ (19 + (7 * v0)) ∧ gi (f' b) (((19 + (7 * v0)) : Int)).toNat = v2) → eW E 0 0 L' f' 14 [(0, .ref r0), (1, .int (Int32.ofInt v0)), (2, .int (Int32.ofInt v1))] []) : eW E 0 0 L f 0 [(0, .ref r0), (1, .int (Int32.ofInt v0)), (2, .int (Int32.ofInt v1))] [] := by
  obtain ⟨l0, D0, cy0, ax0⟩ := X0
  have hraw : eW E 0 0 L f 0 [(0, .ref r0), (1, .int (Int32.ofInt (0 + (1 * v0 + 0)))), (2, .int (Int32.ofInt (0 + (1 * v1 + 0))))] [] := ?_
  · simpa only [Int.zero_add, Int.one_mul, Int.add_zero] using hraw
  refine seg_ok (D := D_cc0) (νi := fun i => [v0, v1].getD i 0) (μi := fun i => [r0].getD i 0) k_cc0 hE (mk_ok (ins := iX12_canCome) jX12_canCome fX12_ok lX12_ok kX12_ok kkX12_ok H) (by decide) rfl rfl rfl rfl hh ?_ ?_
  · refine ⟨(eok_of (fun i q hq => ?_) (fun i hi => ?_)), fa0, fa0, ?_, fa0, fa0, fa0⟩
    · match i, hq with
      | 0, hq => cases hq; exact hb0
      | 1, hq => cases hq; exact hb1
      | i + 2, hq => cases hq
    · match i, hi with
      | 0, hi => exact absurd hi (by decide)
      | 1, hi => exact absurd hi (by decide)
      | i + 2, _ => rfl
    · intro i k hk
      match i, hk with
      | 0, hk => cases hk; exact hr0
      | i + 1, hk => cases hk
  · intro q hq hst K' B' L' f' ν μ h1 h2 h3 h4 h5
    have e0 : ν 0 = v0 := h4 0 (by decide)
    have e1 : ν 1 = v1 := h4 1 (by decide)
    have d0 : μ 0 = r0 := h5 0 (by decide)
    subst e0
    subst e1
    subst d0
    replace hq : q ∈ u_cc0 := hq
    unfold u_cc0 at hq
    simp only [List.mem_cons, List.not_mem_nil, or_false] at hq
    rcases hq with rfl | rfl
    · have hst2 : eW E 0 0 L' f' 10 [(0, .ref (μ 0)), (1, .int (Int32.ofInt (0 + (1 * ν 0 + 0)))), (2, .int (Int32.ofInt (0 + (1 * ν 1 + 0))))] [] := ?_
      · exact hst2
      try simp only [Int.zero_add, Int.one_mul, Int.add_zero]
      exact k10 K' B' L' f' (ν 2)  h1 h2 (h3.1 0) (h3.1 1) (h3.1 2) (by simpa only [xv, xvT, Int.zero_add, Int.one_mul, Int.add_zero] using (h3.2.1 _ (List.mem_of_getElem? (i := 0) rfl))) (h3.2.2.2.1 0 200 rfl) (by simpa only [xv, xvT, Int.zero_add, Int.one_mul, Int.add_zero] using (mokA h1 (show (zkd 201).1 = 2 by decide) (by decide) (h3.2.2.2.2.1 _ (List.mem_of_getElem? (i := 0) rfl))))
    · have hst2 : eW E 0 0 L' f' 14 [(0, .ref (μ 0)), (1, .int (Int32.ofInt (0 + (1 * ν 0 + 0)))), (2, .int (Int32.ofInt (0 + (1 * ν 1 + 0))))] [] := ?_
      · exact hst2
      try simp only [Int.zero_add, Int.one_mul, Int.add_zero]
      exact k14 K' B' L' f' (ν 2)  h1 h2 (h3.1 0) (h3.1 1) (h3.1 2) (by simpa only [xv, xvT, Int.zero_add, Int.one_mul, Int.add_zero] using (h3.2.1 _ (List.mem_of_getElem? (i := 0) rfl))) (h3.2.2.2.1 0 200 rfl) (by simpa only [xv, xvT, Int.zero_add, Int.one_mul, Int.add_zero] using (mokA h1 (show (zkd 201).1 = 2 by decide) (by decide) (h3.2.2.2.2.1 _ (List.mem_of_getElem? (i := 0) rfl))))

/-! fr0: from 0 to [2] -/
def w_fr0 : TP := ([(0, (2, 0, (0, []))), (1, (0, 0, (0, [(1, 0)]))), (2, (0, 0, (0, [(1, 1)])))], [], ([((-2147483648), 2147483647), ((-2147483648), 2147483647)], [], [], [200], [], [], []), [], [])
def u_fr0 : List (Nat × TP × EX × Nat × Nat) := [(2, ([(0, (2, 0, (0, []))), (1, (0, 0, (0, [(1, 0)]))), (2, (0, 0, (0, [(1, 1)]))), (3, (0, 0, (0, [])))], [], ([((-2147483648), 2147483647), ((-2147483648), 2147483647)], [], [], [200], [], [], []), [], []), ((-1), []), 0, 0)]
def D_fr0 : DT := (mkD iX12_findRoads fX12 lX12 kX12 kkX12 342 [] (w_fr0, [], [], 3, 0, 0, 3) false 6 u_fr0)
theorem k_fr0 : chkS D_fr0 4000 0 0 0 = true := by decide +kernel
theorem s_fr0 {X0 : zC0} {E : zCx} (H : ∀ j, j < 342 → CMj X0 j) (hE : zOk E X0 RX12 cX12_findRoads 6 (zrm 3 0 0)) {K : Nat → Nat} {B : Int} {L : List Nat} {f : Nat → va_E} (hh : hok X0.2.2.1 K B L f) {v0 v1 : Int} {r0 : Nat} (hb0 : (-2147483648) ≤ v0 ∧ v0 ≤ 2147483647) (hb1 : (-2147483648) ≤ v1 ∧ v1 ≤ 2147483647) (hr0 : r0 ∈ L ∧ K r0 = 200) (k2 : ∀ (K' : Nat → Nat) (B' : Int) (L' : List Nat) (f' : Nat → va_E), hok X0.2.2.1 K' B' L' f' → extC [] K B L f K' B' L' f' → ((-2147483648) ≤ v0 ∧ v0 ≤ 2147483647) → ((-2147483648) ≤ v1 ∧ v1 ≤ 2147483647) → (r0 ∈ L' ∧ K' r0 = 200) → eW E 0 0 L' f' 2 [(0, .ref r0), (1, .int (Int32.ofInt v0)), (2, .int (Int32.ofInt v1)), (3, .int (Int32.ofInt 0))] []) : eW E 0 0 L f 0 [(0, .ref r0), (1, .int (Int32.ofInt v0)), (2, .int (Int32.ofInt v1))] [] := by
  obtain ⟨l0, D0, cy0, ax0⟩ := X0
  have hraw : eW E 0 0 L f 0 [(0, .ref r0), (1, .int (Int32.ofInt (0 + (1 * v0 + 0)))), (2, .int (Int32.ofInt (0 + (1 * v1 + 0))))] [] := ?_
  · simpa only [Int.zero_add, Int.one_mul, Int.add_zero] using hraw
  refine seg_ok (D := D_fr0) (νi := fun i => [v0, v1].getD i 0) (μi := fun i => [r0].getD i 0) k_fr0 hE (mk_ok (ins := iX12_findRoads) jX12_findRoads fX12_ok lX12_ok kX12_ok kkX12_ok H) (by decide) rfl rfl rfl rfl hh ?_ ?_
  · refine ⟨(eok_of (fun i q hq => ?_) (fun i hi => ?_)), fa0, fa0, ?_, fa0, fa0, fa0⟩
    · match i, hq with
      | 0, hq => cases hq; exact hb0
      | 1, hq => cases hq; exact hb1
      | i + 2, hq => cases hq
    · match i, hi with
      | 0, hi => exact absurd hi (by decide)
      | 1, hi => exact absurd hi (by decide)
      | i + 2, _ => rfl
    · intro i k hk
      match i, hk with
      | 0, hk => cases hk; exact hr0
      | i + 1, hk => cases hk
  · intro q hq hst K' B' L' f' ν μ h1 h2 h3 h4 h5
    have e0 : ν 0 = v0 := h4 0 (by decide)
    have e1 : ν 1 = v1 := h4 1 (by decide)
    have d0 : μ 0 = r0 := h5 0 (by decide)
    subst e0
    subst e1
    subst d0
    replace hq : q ∈ u_fr0 := hq
    unfold u_fr0 at hq
    simp only [List.mem_cons, List.not_mem_nil, or_false] at hq
    rcases hq with rfl
    · have hst2 : eW E 0 0 L' f' 2 [(0, .ref (μ 0)), (1, .int (Int32.ofInt (0 + (1 * ν 0 + 0)))), (2, .int (Int32.ofInt (0 + (1 * ν 1 + 0)))), (3, .int (Int32.ofInt (0 + 0)))] [] := ?_
      · exact hst2
      try simp only [Int.zero_add, Int.one_mul, Int.add_zero]
      exact k2 K' B' L' f'   h1 h2 (h3.1 0) (h3.1 1) (h3.2.2.2.1 0 200 rfl)

/-! fr2a: from 2 to [18] -/
def w_fr2a : TP := ([(0, (2, 0, (0, []))), (1, (0, 0, (0, [(1, 0)]))), (2, (0, 0, (0, [(1, 1)]))), (3, (0, 0, (0, [(1, 0)])))], [], ([(0, 5), ((-2147483648), 2147483647)], [], [], [200], [], [], []), [], [])
def u_fr2a : List (Nat × TP × EX × Nat × Nat) := [(18, ([(0, (2, 0, (0, []))), (1, (0, 0, (0, [(1, 0)]))), (2, (0, 0, (0, [(1, 1)]))), (3, (0, 0, (0, [(1, 0)])))], [(0, 0, (0, [(1, 0)])), (2, 1, (0, []))], ([(0, 5), ((-2147483648), 2147483647)], [], [], [200, 226], [], [], []), [], [(1, 1)]), ((-1), []), 0, 0)]
def D_fr2a : DT := (mkD iX12_findRoads fX12 lX12 kX12 kkX12 342 [] (w_fr2a, [], [], 3, 0, 0, 3) false 6 u_fr2a)
theorem k_fr2a : chkS D_fr2a 4000 0 0 2 = true := by decide +kernel
theorem s_fr2a {X0 : zC0} {E : zCx} (H : ∀ j, j < 342 → CMj X0 j) (hE : zOk E X0 RX12 cX12_findRoads 6 (zrm 3 0 0)) {K : Nat → Nat} {B : Int} {L : List Nat} {f : Nat → va_E} (hh : hok X0.2.2.1 K B L f) {v0 v1 : Int} {r0 : Nat} (hb0 : 0 ≤ v0 ∧ v0 ≤ 5) (hb1 : (-2147483648) ≤ v1 ∧ v1 ≤ 2147483647) (hr0 : r0 ∈ L ∧ K r0 = 200) (k18 : ∀ (K' : Nat → Nat) (B' : Int) (L' : List Nat) (f' : Nat → va_E) (r1 : Nat), hok X0.2.2.1 K' B' L' f' → extC [] K B L f K' B' L' f' → (0 ≤ v0 ∧ v0 ≤ 5) → ((-2147483648) ≤ v1 ∧ v1 ≤ 2147483647) → (r0 ∈ L' ∧ K' r0 = 200) → (r1 ∈ L' ∧ K' r1 = 226) → eW E 0 0 L' f' 18 [(0, .ref r0), (1, .int (Int32.ofInt v0)), (2, .int (Int32.ofInt v1)), (3, .int (Int32.ofInt v0))] [.int (Int32.ofInt v0), .ref r1]) : eW E 0 0 L f 2 [(0, .ref r0), (1, .int (Int32.ofInt v0)), (2, .int (Int32.ofInt v1)), (3, .int (Int32.ofInt v0))] [] := by
  obtain ⟨l0, D0, cy0, ax0⟩ := X0
  have hraw : eW E 0 0 L f 2 [(0, .ref r0), (1, .int (Int32.ofInt (0 + (1 * v0 + 0)))), (2, .int (Int32.ofInt (0 + (1 * v1 + 0)))), (3, .int (Int32.ofInt (0 + (1 * v0 + 0))))] [] := ?_
  · simpa only [Int.zero_add, Int.one_mul, Int.add_zero] using hraw
  refine seg_ok (D := D_fr2a) (νi := fun i => [v0, v1].getD i 0) (μi := fun i => [r0].getD i 0) k_fr2a hE (mk_ok (ins := iX12_findRoads) jX12_findRoads fX12_ok lX12_ok kX12_ok kkX12_ok H) (by decide) rfl rfl rfl rfl hh ?_ ?_
  · refine ⟨(eok_of (fun i q hq => ?_) (fun i hi => ?_)), fa0, fa0, ?_, fa0, fa0, fa0⟩
    · match i, hq with
      | 0, hq => cases hq; exact hb0
      | 1, hq => cases hq; exact hb1
      | i + 2, hq => cases hq
    · match i, hi with
      | 0, hi => exact absurd hi (by decide)
      | 1, hi => exact absurd hi (by decide)
      | i + 2, _ => rfl
    · intro i k hk
      match i, hk with
      | 0, hk => cases hk; exact hr0
      | i + 1, hk => cases hk
  · intro q hq hst K' B' L' f' ν μ h1 h2 h3 h4 h5
    have e0 : ν 0 = v0 := h4 0 (by decide)
    have e1 : ν 1 = v1 := h4 1 (by decide)
    have d0 : μ 0 = r0 := h5 0 (by decide)
    subst e0
    subst e1
    subst d0
    replace hq : q ∈ u_fr2a := hq
    unfold u_fr2a at hq
    simp only [List.mem_cons, List.not_mem_nil, or_false] at hq
    rcases hq with rfl
    · have hst2 : eW E 0 0 L' f' 18 [(0, .ref (μ 0)), (1, .int (Int32.ofInt (0 + (1 * ν 0 + 0)))), (2, .int (Int32.ofInt (0 + (1 * ν 1 + 0)))), (3, .int (Int32.ofInt (0 + (1 * ν 0 + 0))))] [.int (Int32.ofInt (0 + (1 * ν 0 + 0))), .ref (μ 1)] := ?_
      · exact hst2
      try simp only [Int.zero_add, Int.one_mul, Int.add_zero]
      exact k18 K' B' L' f'  (μ 1) h1 h2 (h3.1 0) (h3.1 1) (h3.2.2.2.1 0 200 rfl) (h3.2.2.2.1 1 226 rfl)

/-! fr2b: from 2 to [22] -/
def w_fr2b : TP := ([(0, (2, 0, (0, []))), (1, (0, 0, (0, [(1, 0)]))), (2, (0, 0, (0, [(1, 1)]))), (3, (0, 0, (0, [(1, 2)])))], [], ([((-2147483648), 2147483647), ((-2147483648), 2147483647), (0, 5)], [((-1), [(1, 2), ((-1), 0)])], [], [200], [], [], []), [], [])
def u_fr2b : List (Nat × TP × EX × Nat × Nat) := [(22, ([(0, (2, 0, (0, []))), (1, (0, 0, (0, [(1, 0)]))), (2, (0, 0, (0, [(1, 1)]))), (3, (0, 0, (0, [(1, 2)])))], [(0, 0, (0, [(1, 2)])), (2, 1, (0, []))], ([((-2147483648), 4), ((-2147483648), 2147483647), (0, 5)], [((-1), [((-1), 0), (1, 2)])], [], [200, 226], [], [], []), [], [(1, 1)]), ((-1), []), 0, 0)]
def D_fr2b : DT := (mkD iX12_findRoads fX12 lX12 kX12 kkX12 342 [] (w_fr2b, [], [], 3, 0, 0, 3) false 6 u_fr2b)
theorem k_fr2b : chkS D_fr2b 4000 0 0 2 = true := by decide +kernel
theorem s_fr2b {X0 : zC0} {E : zCx} (H : ∀ j, j < 342 → CMj X0 j) (hE : zOk E X0 RX12 cX12_findRoads 6 (zrm 3 0 0)) {K : Nat → Nat} {B : Int} {L : List Nat} {f : Nat → va_E} (hh : hok X0.2.2.1 K B L f) {v0 v1 v2 : Int} {r0 : Nat} (hb0 : (-2147483648) ≤ v0 ∧ v0 ≤ 2147483647) (hb1 : (-2147483648) ≤ v1 ∧ v1 ≤ 2147483647) (hb2 : 0 ≤ v2 ∧ v2 ≤ 5) (hq0 : 0 ≤ ((-1) + (v2 + ((-1) * v0)))) (hr0 : r0 ∈ L ∧ K r0 = 200) (k22 : ∀ (K' : Nat → Nat) (B' : Int) (L' : List Nat) (f' : Nat → va_E) (r1 : Nat), hok X0.2.2.1 K' B' L' f' → extC [] K B L f K' B' L' f' → ((-2147483648) ≤ v0 ∧ v0 ≤ 4) → ((-2147483648) ≤ v1 ∧ v1 ≤ 2147483647) → (0 ≤ v2 ∧ v2 ≤ 5) → (0 ≤ ((-1) + ((-1) * v0 + v2))) → (r0 ∈ L' ∧ K' r0 = 200) → (r1 ∈ L' ∧ K' r1 = 226) → eW E 0 0 L' f' 22 [(0, .ref r0), (1, .int (Int32.ofInt v0)), (2, .int (Int32.ofInt v1)), (3, .int (Int32.ofInt v2))] [.int (Int32.ofInt v2), .ref r1]) : eW E 0 0 L f 2 [(0, .ref r0), (1, .int (Int32.ofInt v0)), (2, .int (Int32.ofInt v1)), (3, .int (Int32.ofInt v2))] [] := by
  obtain ⟨l0, D0, cy0, ax0⟩ := X0
  have hraw : eW E 0 0 L f 2 [(0, .ref r0), (1, .int (Int32.ofInt (0 + (1 * v0 + 0)))), (2, .int (Int32.ofInt (0 + (1 * v1 + 0)))), (3, .int (Int32.ofInt (0 + (1 * v2 + 0))))] [] := ?_
  · simpa only [Int.zero_add, Int.one_mul, Int.add_zero] using hraw
  have rq0 : 0 ≤ ((-1) + (1 * v2 + ((-1) * v0 + 0))) := by simpa only [Int.zero_add, Int.one_mul, Int.add_zero] using hq0
  refine seg_ok (D := D_fr2b) (νi := fun i => [v0, v1, v2].getD i 0) (μi := fun i => [r0].getD i 0) k_fr2b hE (mk_ok (ins := iX12_findRoads) jX12_findRoads fX12_ok lX12_ok kX12_ok kkX12_ok H) (by decide) rfl rfl rfl rfl hh ?_ ?_
  · refine ⟨(eok_of (fun i q hq => ?_) (fun i hi => ?_)), (fa_cons (rq0) fa0), fa0, ?_, fa0, fa0, fa0⟩
    · match i, hq with
      | 0, hq => cases hq; exact hb0
      | 1, hq => cases hq; exact hb1
      | 2, hq => cases hq; exact hb2
      | i + 3, hq => cases hq
    · match i, hi with
      | 0, hi => exact absurd hi (by decide)
      | 1, hi => exact absurd hi (by decide)
      | 2, hi => exact absurd hi (by decide)
      | i + 3, _ => rfl
    · intro i k hk
      match i, hk with
      | 0, hk => cases hk; exact hr0
      | i + 1, hk => cases hk
  · intro q hq hst K' B' L' f' ν μ h1 h2 h3 h4 h5
    have e0 : ν 0 = v0 := h4 0 (by decide)
    have e1 : ν 1 = v1 := h4 1 (by decide)
    have e2 : ν 2 = v2 := h4 2 (by decide)
    have d0 : μ 0 = r0 := h5 0 (by decide)
    subst e0
    subst e1
    subst e2
    subst d0
    replace hq : q ∈ u_fr2b := hq
    unfold u_fr2b at hq
    simp only [List.mem_cons, List.not_mem_nil, or_false] at hq
    rcases hq with rfl
    · have hst2 : eW E 0 0 L' f' 22 [(0, .ref (μ 0)), (1, .int (Int32.ofInt (0 + (1 * ν 0 + 0)))), (2, .int (Int32.ofInt (0 + (1 * ν 1 + 0)))), (3, .int (Int32.ofInt (0 + (1 * ν 2 + 0))))] [.int (Int32.ofInt (0 + (1 * ν 2 + 0))), .ref (μ 1)] := ?_
      · exact hst2
      try simp only [Int.zero_add, Int.one_mul, Int.add_zero]
      exact k22 K' B' L' f'  (μ 1) h1 h2 (h3.1 0) (h3.1 1) (h3.1 2) (by simpa only [xv, xvT, Int.zero_add, Int.one_mul, Int.add_zero] using (h3.2.1 _ (List.mem_of_getElem? (i := 0) rfl))) (h3.2.2.2.1 0 200 rfl) (h3.2.2.2.1 1 226 rfl)

/-! fr2d: from 2 to [22] -/
def w_fr2d : TP := ([(0, (2, 0, (0, []))), (1, (0, 0, (0, [(1, 0)]))), (2, (0, 0, (0, [(1, 1)]))), (3, (0, 0, (0, [(1, 2)])))], [], ([((-2147483648), 2147483647), ((-2147483648), 2147483647), (0, 5)], [((-1), [(1, 0), ((-1), 2)])], [], [200], [], [], []), [], [])
def u_fr2d : List (Nat × TP × EX × Nat × Nat) := [(22, ([(0, (2, 0, (0, []))), (1, (0, 0, (0, [(1, 0)]))), (2, (0, 0, (0, [(1, 1)]))), (3, (0, 0, (0, [(1, 2)])))], [(0, 0, (0, [(1, 2)])), (2, 1, (0, []))], ([((-2147483648), 2147483647), ((-2147483648), 2147483647), (0, 5)], [((-1), [((-1), 2), (1, 0)])], [], [200, 226], [], [], []), [], [(1, 1)]), ((-1), []), 0, 0)]
def D_fr2d : DT := (mkD iX12_findRoads fX12 lX12 kX12 kkX12 342 [] (w_fr2d, [], [], 3, 0, 0, 3) false 6 u_fr2d)
theorem k_fr2d : chkS D_fr2d 4000 0 0 2 = true := by decide +kernel
theorem s_fr2d {X0 : zC0} {E : zCx} (H : ∀ j, j < 342 → CMj X0 j) (hE : zOk E X0 RX12 cX12_findRoads 6 (zrm 3 0 0)) {K : Nat → Nat} {B : Int} {L : List Nat} {f : Nat → va_E} (hh : hok X0.2.2.1 K B L f) {v0 v1 v2 : Int} {r0 : Nat} (hb0 : (-2147483648) ≤ v0 ∧ v0 ≤ 2147483647) (hb1 : (-2147483648) ≤ v1 ∧ v1 ≤ 2147483647) (hb2 : 0 ≤ v2 ∧ v2 ≤ 5) (hq0 : 0 ≤ ((-1) + (v0 + ((-1) * v2)))) (hr0 : r0 ∈ L ∧ K r0 = 200) (k22 : ∀ (K' : Nat → Nat) (B' : Int) (L' : List Nat) (f' : Nat → va_E) (r1 : Nat), hok X0.2.2.1 K' B' L' f' → extC [] K B L f K' B' L' f' → ((-2147483648) ≤ v0 ∧ v0 ≤ 2147483647) → ((-2147483648) ≤ v1 ∧ v1 ≤ 2147483647) → (0 ≤ v2 ∧ v2 ≤ 5) → (0 ≤ ((-1) + ((-1) * v2 + v0))) → (r0 ∈ L' ∧ K' r0 = 200) → (r1 ∈ L' ∧ K' r1 = 226) → eW E 0 0 L' f' 22 [(0, .ref r0), (1, .int (Int32.ofInt v0)), (2, .int (Int32.ofInt v1)), (3, .int (Int32.ofInt v2))] [.int (Int32.ofInt v2), .ref r1]) : eW E 0 0 L f 2 [(0, .ref r0), (1, .int (Int32.ofInt v0)), (2, .int (Int32.ofInt v1)), (3, .int (Int32.ofInt v2))] [] := by
  obtain ⟨l0, D0, cy0, ax0⟩ := X0
  have hraw : eW E 0 0 L f 2 [(0, .ref r0), (1, .int (Int32.ofInt (0 + (1 * v0 + 0)))), (2, .int (Int32.ofInt (0 + (1 * v1 + 0)))), (3, .int (Int32.ofInt (0 + (1 * v2 + 0))))] [] := ?_
  · simpa only [Int.zero_add, Int.one_mul, Int.add_zero] using hraw
  have rq0 : 0 ≤ ((-1) + (1 * v0 + ((-1) * v2 + 0))) := by simpa only [Int.zero_add, Int.one_mul, Int.add_zero] using hq0
  refine seg_ok (D := D_fr2d) (νi := fun i => [v0, v1, v2].getD i 0) (μi := fun i => [r0].getD i 0) k_fr2d hE (mk_ok (ins := iX12_findRoads) jX12_findRoads fX12_ok lX12_ok kX12_ok kkX12_ok H) (by decide) rfl rfl rfl rfl hh ?_ ?_
  · refine ⟨(eok_of (fun i q hq => ?_) (fun i hi => ?_)), (fa_cons (rq0) fa0), fa0, ?_, fa0, fa0, fa0⟩
    · match i, hq with
      | 0, hq => cases hq; exact hb0
      | 1, hq => cases hq; exact hb1
      | 2, hq => cases hq; exact hb2
      | i + 3, hq => cases hq
    · match i, hi with
      | 0, hi => exact absurd hi (by decide)
      | 1, hi => exact absurd hi (by decide)
      | 2, hi => exact absurd hi (by decide)
      | i + 3, _ => rfl
    · intro i k hk
      match i, hk with
      | 0, hk => cases hk; exact hr0
      | i + 1, hk => cases hk
  · intro q hq hst K' B' L' f' ν μ h1 h2 h3 h4 h5
    have e0 : ν 0 = v0 := h4 0 (by decide)
    have e1 : ν 1 = v1 := h4 1 (by decide)
    have e2 : ν 2 = v2 := h4 2 (by decide)
    have d0 : μ 0 = r0 := h5 0 (by decide)
    subst e0
    subst e1
    subst e2
    subst d0
    replace hq : q ∈ u_fr2d := hq
    unfold u_fr2d at hq
    simp only [List.mem_cons, List.not_mem_nil, or_false] at hq
    rcases hq with rfl
    · have hst2 : eW E 0 0 L' f' 22 [(0, .ref (μ 0)), (1, .int (Int32.ofInt (0 + (1 * ν 0 + 0)))), (2, .int (Int32.ofInt (0 + (1 * ν 1 + 0)))), (3, .int (Int32.ofInt (0 + (1 * ν 2 + 0))))] [.int (Int32.ofInt (0 + (1 * ν 2 + 0))), .ref (μ 1)] := ?_
      · exact hst2
      try simp only [Int.zero_add, Int.one_mul, Int.add_zero]
      exact k22 K' B' L' f'  (μ 1) h1 h2 (h3.1 0) (h3.1 1) (h3.1 2) (by simpa only [xv, xvT, Int.zero_add, Int.one_mul, Int.add_zero] using (h3.2.1 _ (List.mem_of_getElem? (i := 0) rfl))) (h3.2.2.2.1 0 200 rfl) (h3.2.2.2.1 1 226 rfl)

/-! fr2c: from 2 to [32] -/
def w_fr2c : TP := ([(0, (2, 0, (0, []))), (1, (0, 0, (0, [(1, 0)]))), (2, (0, 0, (0, [(1, 1)]))), (3, (0, 0, (6, [])))], [], ([((-2147483648), 2147483647), ((-2147483648), 2147483647)], [], [], [200], [], [], []), [], [])
def u_fr2c : List (Nat × TP × EX × Nat × Nat) := [(32, ([(0, (2, 0, (0, []))), (1, (0, 0, (0, [(1, 0)]))), (2, (0, 0, (0, [(1, 1)]))), (3, (0, 0, (6, [])))], [], ([((-2147483648), 2147483647), ((-2147483648), 2147483647)], [], [], [200], [], [], []), [], []), ((-1), []), 0, 0)]
def D_fr2c : DT := (mkD iX12_findRoads fX12 lX12 kX12 kkX12 342 [] (w_fr2c, [], [], 3, 0, 0, 3) false 6 u_fr2c)
theorem k_fr2c : chkS D_fr2c 4000 0 0 2 = true := by decide +kernel
theorem s_fr2c {X0 : zC0} {E : zCx} (H : ∀ j, j < 342 → CMj X0 j) (hE : zOk E X0 RX12 cX12_findRoads 6 (zrm 3 0 0)) {K : Nat → Nat} {B : Int} {L : List Nat} {f : Nat → va_E} (hh : hok X0.2.2.1 K B L f) {v0 v1 : Int} {r0 : Nat} (hb0 : (-2147483648) ≤ v0 ∧ v0 ≤ 2147483647) (hb1 : (-2147483648) ≤ v1 ∧ v1 ≤ 2147483647) (hr0 : r0 ∈ L ∧ K r0 = 200) (k32 : ∀ (K' : Nat → Nat) (B' : Int) (L' : List Nat) (f' : Nat → va_E), hok X0.2.2.1 K' B' L' f' → extC [] K B L f K' B' L' f' → ((-2147483648) ≤ v0 ∧ v0 ≤ 2147483647) → ((-2147483648) ≤ v1 ∧ v1 ≤ 2147483647) → (r0 ∈ L' ∧ K' r0 = 200) → eW E 0 0 L' f' 32 [(0, .ref r0), (1, .int (Int32.ofInt v0)), (2, .int (Int32.ofInt v1)), (3, .int (Int32.ofInt 6))] []) : eW E 0 0 L f 2 [(0, .ref r0), (1, .int (Int32.ofInt v0)), (2, .int (Int32.ofInt v1)), (3, .int (Int32.ofInt 6))] [] := by
  obtain ⟨l0, D0, cy0, ax0⟩ := X0
  have hraw : eW E 0 0 L f 2 [(0, .ref r0), (1, .int (Int32.ofInt (0 + (1 * v0 + 0)))), (2, .int (Int32.ofInt (0 + (1 * v1 + 0)))), (3, .int (Int32.ofInt (6 + 0)))] [] := ?_
  · simpa only [Int.zero_add, Int.one_mul, Int.add_zero] using hraw
  refine seg_ok (D := D_fr2c) (νi := fun i => [v0, v1].getD i 0) (μi := fun i => [r0].getD i 0) k_fr2c hE (mk_ok (ins := iX12_findRoads) jX12_findRoads fX12_ok lX12_ok kX12_ok kkX12_ok H) (by decide) rfl rfl rfl rfl hh ?_ ?_
  · refine ⟨(eok_of (fun i q hq => ?_) (fun i hi => ?_)), fa0, fa0, ?_, fa0, fa0, fa0⟩
    · match i, hq with
      | 0, hq => cases hq; exact hb0
      | 1, hq => cases hq; exact hb1
      | i + 2, hq => cases hq
    · match i, hi with
      | 0, hi => exact absurd hi (by decide)
      | 1, hi => exact absurd hi (by decide)
      | i + 2, _ => rfl
    · intro i k hk
      match i, hk with
      | 0, hk => cases hk; exact hr0
      | i + 1, hk => cases hk
  · intro q hq hst K' B' L' f' ν μ h1 h2 h3 h4 h5
    have e0 : ν 0 = v0 := h4 0 (by decide)
    have e1 : ν 1 = v1 := h4 1 (by decide)
    have d0 : μ 0 = r0 := h5 0 (by decide)
    subst e0
    subst e1
    subst d0
    replace hq : q ∈ u_fr2c := hq
    unfold u_fr2c at hq
    simp only [List.mem_cons, List.not_mem_nil, or_false] at hq
    rcases hq with rfl
    · have hst2 : eW E 0 0 L' f' 32 [(0, .ref (μ 0)), (1, .int (Int32.ofInt (0 + (1 * ν 0 + 0)))), (2, .int (Int32.ofInt (0 + (1 * ν 1 + 0)))), (3, .int (Int32.ofInt (6 + 0)))] [] := ?_
      · exact hst2
      try simp only [Int.zero_add, Int.one_mul, Int.add_zero]
      exact k32 K' B' L' f'   h1 h2 (h3.1 0) (h3.1 1) (h3.2.2.2.1 0 200 rfl)

/-! fr18: from 18 to [25] -/
def w_fr18 : TP := ([(0, (2, 0, (0, []))), (1, (0, 0, (0, [(1, 0)]))), (2, (0, 0, (0, [(1, 1)]))), (3, (0, 0, (0, [(1, 2)])))], [(0, 0, (0, [(1, 2)])), (2, 1, (0, []))], ([((-2147483648), 2147483647), ((-2147483648), 2147483647), (0, 5)], [], [], [200, 226], [], [], []), [], [])
def u_fr18 : List (Nat × TP × EX × Nat × Nat) := [(25, ([(0, (2, 0, (0, []))), (1, (0, 0, (0, [(1, 0)]))), (2, (0, 0, (0, [(1, 1)]))), (3, (0, 0, (0, [(1, 2)])))], [(0, 0, (0, [])), (0, 0, (0, [(1, 2)])), (2, 1, (0, []))], ([((-2147483648), 2147483647), ((-2147483648), 2147483647), (0, 5)], [], [], [200, 226], [], [], []), [], []), ((-1), []), 0, 0)]
def D_fr18 : DT := (mkD iX12_findRoads fX12 lX12 kX12 kkX12 342 [] (w_fr18, [], [], 3, 0, 0, 3) false 6 u_fr18)
theorem k_fr18 : chkS D_fr18 4000 0 0 18 = true := by decide +kernel
theorem s_fr18 {X0 : zC0} {E : zCx} (H : ∀ j, j < 342 → CMj X0 j) (hE : zOk E X0 RX12 cX12_findRoads 6 (zrm 3 0 0)) {K : Nat → Nat} {B : Int} {L : List Nat} {f : Nat → va_E} (hh : hok X0.2.2.1 K B L f) {v0 v1 v2 : Int} {r0 r1 : Nat} (hb0 : (-2147483648) ≤ v0 ∧ v0 ≤ 2147483647) (hb1 : (-2147483648) ≤ v1 ∧ v1 ≤ 2147483647) (hb2 : 0 ≤ v2 ∧ v2 ≤ 5) (hr0 : r0 ∈ L ∧ K r0 = 200) (hr1 : r1 ∈ L ∧ K r1 = 226) (k25 : ∀ (K' : Nat → Nat) (B' : Int) (L' : List Nat) (f' : Nat → va_E), hok X0.2.2.1 K' B' L' f' → extC [] K B L f K' B' L' f' → ((-2147483648) ≤ v0 ∧ v0 ≤ 2147483647) → ((-2147483648) ≤ v1 ∧ v1 ≤ 2147483647) → (0 ≤ v2 ∧ v2 ≤ 5) → (r0 ∈ L' ∧ K' r0 = 200) → (r1 ∈ L' ∧ K' r1 = 226) → eW E 0 0 L' f' 25 [(0, .ref r0), (1, .int (Int32.ofInt v0)), (2, .int (Int32.ofInt v1)), (3, .int (Int32.ofInt v2))] [.int (Int32.ofInt 0), .int (Int32.ofInt v2), .ref r1]) : eW E 0 0 L f 18 [(0, .ref r0), (1, .int (Int32.ofInt v0)), (2, .int (Int32.ofInt v1)), (3, .int (Int32.ofInt v2))] [.int (Int32.ofInt v2), .ref r1] := by
  obtain ⟨l0, D0, cy0, ax0⟩ := X0
  have hraw : eW E 0 0 L f 18 [(0, .ref r0), (1, .int (Int32.ofInt (0 + (1 * v0 + 0)))), (2, .int (Int32.ofInt (0 + (1 * v1 + 0)))), (3, .int (Int32.ofInt (0 + (1 * v2 + 0))))] [.int (Int32.ofInt (0 + (1 * v2 + 0))), .ref r1] := ?_
  · simpa only [Int.zero_add, Int.one_mul, Int.add_zero] using hraw
  refine seg_ok (D := D_fr18) (νi := fun i => [v0, v1, v2].getD i 0) (μi := fun i => [r0, r1].getD i 0) k_fr18 hE (mk_ok (ins := iX12_findRoads) jX12_findRoads fX12_ok lX12_ok kX12_ok kkX12_ok H) (by decide) rfl rfl rfl rfl hh ?_ ?_
  · refine ⟨(eok_of (fun i q hq => ?_) (fun i hi => ?_)), fa0, fa0, ?_, fa0, fa0, fa0⟩
    · match i, hq with
      | 0, hq => cases hq; exact hb0
      | 1, hq => cases hq; exact hb1
      | 2, hq => cases hq; exact hb2
      | i + 3, hq => cases hq
    · match i, hi with
      | 0, hi => exact absurd hi (by decide)
      | 1, hi => exact absurd hi (by decide)
      | 2, hi => exact absurd hi (by decide)
      | i + 3, _ => rfl
    · intro i k hk
      match i, hk with
      | 0, hk => cases hk; exact hr0
      | 1, hk => cases hk; exact hr1
      | i + 2, hk => cases hk
  · intro q hq hst K' B' L' f' ν μ h1 h2 h3 h4 h5
    have e0 : ν 0 = v0 := h4 0 (by decide)
    have e1 : ν 1 = v1 := h4 1 (by decide)
    have e2 : ν 2 = v2 := h4 2 (by decide)
    have d0 : μ 0 = r0 := h5 0 (by decide)
    have d1 : μ 1 = r1 := h5 1 (by decide)
    subst e0
    subst e1
    subst e2
    subst d0
    subst d1
    replace hq : q ∈ u_fr18 := hq
    unfold u_fr18 at hq
    simp only [List.mem_cons, List.not_mem_nil, or_false] at hq
    rcases hq with rfl
    · have hst2 : eW E 0 0 L' f' 25 [(0, .ref (μ 0)), (1, .int (Int32.ofInt (0 + (1 * ν 0 + 0)))), (2, .int (Int32.ofInt (0 + (1 * ν 1 + 0)))), (3, .int (Int32.ofInt (0 + (1 * ν 2 + 0))))] [.int (Int32.ofInt (0 + 0)), .int (Int32.ofInt (0 + (1 * ν 2 + 0))), .ref (μ 1)] := ?_
      · exact hst2
      try simp only [Int.zero_add, Int.one_mul, Int.add_zero]
      exact k25 K' B' L' f'   h1 h2 (h3.1 0) (h3.1 1) (h3.1 2) (h3.2.2.2.1 0 200 rfl) (h3.2.2.2.1 1 226 rfl)

/-! fr22: from 22 to [25] -/
def w_fr22 : TP := ([(0, (2, 0, (0, []))), (1, (0, 0, (0, [(1, 0)]))), (2, (0, 0, (0, [(1, 1)]))), (3, (0, 0, (0, [(1, 2)])))], [(0, 0, (0, [(1, 2)])), (2, 1, (0, []))], ([((-2147483648), 2147483647), ((-2147483648), 2147483647), (0, 5)], [], [], [200, 226], [], [], []), [], [])
def u_fr22 : List (Nat × TP × EX × Nat × Nat) := [(25, ([(0, (2, 0, (0, []))), (1, (0, 0, (0, [(1, 0)]))), (2, (0, 0, (0, [(1, 1)]))), (3, (0, 0, (0, [(1, 2)])))], [(0, 0, (1000000, [])), (0, 0, (0, [(1, 2)])), (2, 1, (0, []))], ([((-2147483648), 2147483647), ((-2147483648), 2147483647), (0, 5)], [], [], [200, 226], [], [], []), [], []), ((-1), []), 0, 0)]
def D_fr22 : DT := (mkD iX12_findRoads fX12 lX12 kX12 kkX12 342 [] (w_fr22, [], [], 3, 0, 0, 3) false 6 u_fr22)
theorem k_fr22 : chkS D_fr22 4000 0 0 22 = true := by decide +kernel
theorem s_fr22 {X0 : zC0} {E : zCx} (H : ∀ j, j < 342 → CMj X0 j) (hE : zOk E X0 RX12 cX12_findRoads 6 (zrm 3 0 0)) {K : Nat → Nat} {B : Int} {L : List Nat} {f : Nat → va_E} (hh : hok X0.2.2.1 K B L f) {v0 v1 v2 : Int} {r0 r1 : Nat} (hb0 : (-2147483648) ≤ v0 ∧ v0 ≤ 2147483647) (hb1 : (-2147483648) ≤ v1 ∧ v1 ≤ 2147483647) (hb2 : 0 ≤ v2 ∧ v2 ≤ 5) (hr0 : r0 ∈ L ∧ K r0 = 200) (hr1 : r1 ∈ L ∧ K r1 = 226) (k25 : ∀ (K' : Nat → Nat) (B' : Int) (L' : List Nat) (f' : Nat → va_E), hok X0.2.2.1 K' B' L' f' → extC [] K B L f K' B' L' f' → ((-2147483648) ≤ v0 ∧ v0 ≤ 2147483647) → ((-2147483648) ≤ v1 ∧ v1 ≤ 2147483647) → (0 ≤ v2 ∧ v2 ≤ 5) → (r0 ∈ L' ∧ K' r0 = 200) → (r1 ∈ L' ∧ K' r1 = 226) → eW E 0 0 L' f' 25 [(0, .ref r0), (1, .int (Int32.ofInt v0)), (2, .int (Int32.ofInt v1)), (3, .int (Int32.ofInt v2))] [.int (Int32.ofInt 1000000), .int (Int32.ofInt v2), .ref r1]) : eW E 0 0 L f 22 [(0, .ref r0), (1, .int (Int32.ofInt v0)), (2, .int (Int32.ofInt v1)), (3, .int (Int32.ofInt v2))] [.int (Int32.ofInt v2), .ref r1] := by
  obtain ⟨l0, D0, cy0, ax0⟩ := X0
  have hraw : eW E 0 0 L f 22 [(0, .ref r0), (1, .int (Int32.ofInt (0 + (1 * v0 + 0)))), (2, .int (Int32.ofInt (0 + (1 * v1 + 0)))), (3, .int (Int32.ofInt (0 + (1 * v2 + 0))))] [.int (Int32.ofInt (0 + (1 * v2 + 0))), .ref r1] := ?_
  · simpa only [Int.zero_add, Int.one_mul, Int.add_zero] using hraw
  refine seg_ok (D := D_fr22) (νi := fun i => [v0, v1, v2].getD i 0) (μi := fun i => [r0, r1].getD i 0) k_fr22 hE (mk_ok (ins := iX12_findRoads) jX12_findRoads fX12_ok lX12_ok kX12_ok kkX12_ok H) (by decide) rfl rfl rfl rfl hh ?_ ?_
  · refine ⟨(eok_of (fun i q hq => ?_) (fun i hi => ?_)), fa0, fa0, ?_, fa0, fa0, fa0⟩
    · match i, hq with
      | 0, hq => cases hq; exact hb0
      | 1, hq => cases hq; exact hb1
      | 2, hq => cases hq; exact hb2
      | i + 3, hq => cases hq
    · match i, hi with
      | 0, hi => exact absurd hi (by decide)
      | 1, hi => exact absurd hi (by decide)
      | 2, hi => exact absurd hi (by decide)
      | i + 3, _ => rfl
    · intro i k hk
      match i, hk with
      | 0, hk => cases hk; exact hr0
      | 1, hk => cases hk; exact hr1
      | i + 2, hk => cases hk
  · intro q hq hst K' B' L' f' ν μ h1 h2 h3 h4 h5
    have e0 : ν 0 = v0 := h4 0 (by decide)
    have e1 : ν 1 = v1 := h4 1 (by decide)
    have e2 : ν 2 = v2 := h4 2 (by decide)
    have d0 : μ 0 = r0 := h5 0 (by decide)
    have d1 : μ 1 = r1 := h5 1 (by decide)
    subst e0
    subst e1
    subst e2
    subst d0
    subst d1
    replace hq : q ∈ u_fr22 := hq
    unfold u_fr22 at hq
    simp only [List.mem_cons, List.not_mem_nil, or_false] at hq
    rcases hq with rfl
    · have hst2 : eW E 0 0 L' f' 25 [(0, .ref (μ 0)), (1, .int (Int32.ofInt (0 + (1 * ν 0 + 0)))), (2, .int (Int32.ofInt (0 + (1 * ν 1 + 0)))), (3, .int (Int32.ofInt (0 + (1 * ν 2 + 0))))] [.int (Int32.ofInt (1000000 + 0)), .int (Int32.ofInt (0 + (1 * ν 2 + 0))), .ref (μ 1)] := ?_
      · exact hst2
      try simp only [Int.zero_add, Int.one_mul, Int.add_zero]
      exact k25 K' B' L' f'   h1 h2 (h3.1 0) (h3.1 1) (h3.1 2) (h3.2.2.2.1 0 200 rfl) (h3.2.2.2.1 1 226 rfl)

/-! fr26: from 26 to [2] -/
def w_fr26 : TP := ([(0, (2, 0, (0, []))), (1, (0, 0, (0, [(1, 0)]))), (2, (0, 0, (0, [(1, 1)]))), (3, (0, 0, (0, [(1, 2)])))], [], ([((-2147483648), 2147483647), ((-2147483648), 2147483647), (0, 5)], [], [], [200], [], [], []), [], [])
def u_fr26 : List (Nat × TP × EX × Nat × Nat) := [(2, ([(0, (2, 0, (0, []))), (1, (0, 0, (0, [(1, 0)]))), (2, (0, 0, (0, [(1, 1)]))), (3, (0, 0, (1, [(1, 2)])))], [], ([((-2147483648), 2147483647), ((-2147483648), 2147483647), (0, 5)], [], [], [200], [], [], []), [], []), ((-1), []), 0, 0)]
def D_fr26 : DT := (mkD iX12_findRoads fX12 lX12 kX12 kkX12 342 [] (w_fr26, [], [], 3, 0, 0, 3) false 6 u_fr26)
theorem k_fr26 : chkS D_fr26 4000 0 0 26 = true := by decide +kernel
theorem s_fr26 {X0 : zC0} {E : zCx} (H : ∀ j, j < 342 → CMj X0 j) (hE : zOk E X0 RX12 cX12_findRoads 6 (zrm 3 0 0)) {K : Nat → Nat} {B : Int} {L : List Nat} {f : Nat → va_E} (hh : hok X0.2.2.1 K B L f) {v0 v1 v2 : Int} {r0 : Nat} (hb0 : (-2147483648) ≤ v0 ∧ v0 ≤ 2147483647) (hb1 : (-2147483648) ≤ v1 ∧ v1 ≤ 2147483647) (hb2 : 0 ≤ v2 ∧ v2 ≤ 5) (hr0 : r0 ∈ L ∧ K r0 = 200) (k2 : ∀ (K' : Nat → Nat) (B' : Int) (L' : List Nat) (f' : Nat → va_E), hok X0.2.2.1 K' B' L' f' → extC [] K B L f K' B' L' f' → ((-2147483648) ≤ v0 ∧ v0 ≤ 2147483647) → ((-2147483648) ≤ v1 ∧ v1 ≤ 2147483647) → (0 ≤ v2 ∧ v2 ≤ 5) → (r0 ∈ L' ∧ K' r0 = 200) → eW E 0 0 L' f' 2 [(0, .ref r0), (1, .int (Int32.ofInt v0)), (2, .int (Int32.ofInt v1)), (3, .int (Int32.ofInt (1 + v2)))] []) : eW E 0 0 L f 26 [(0, .ref r0), (1, .int (Int32.ofInt v0)), (2, .int (Int32.ofInt v1)), (3, .int (Int32.ofInt v2))] [] := by
  obtain ⟨l0, D0, cy0, ax0⟩ := X0
  have hraw : eW E 0 0 L f 26 [(0, .ref r0), (1, .int (Int32.ofInt (0 + (1 * v0 + 0)))), (2, .int (Int32.ofInt (0 + (1 * v1 + 0)))), (3, .int (Int32.ofInt (0 + (1 * v2 + 0))))] [] := ?_
  · simpa only [Int.zero_add, Int.one_mul, Int.add_zero] using hraw
  refine seg_ok (D := D_fr26) (νi := fun i => [v0, v1, v2].getD i 0) (μi := fun i => [r0].getD i 0) k_fr26 hE (mk_ok (ins := iX12_findRoads) jX12_findRoads fX12_ok lX12_ok kX12_ok kkX12_ok H) (by decide) rfl rfl rfl rfl hh ?_ ?_
  · refine ⟨(eok_of (fun i q hq => ?_) (fun i hi => ?_)), fa0, fa0, ?_, fa0, fa0, fa0⟩
    · match i, hq with
      | 0, hq => cases hq; exact hb0
      | 1, hq => cases hq; exact hb1
      | 2, hq => cases hq; exact hb2
      | i + 3, hq => cases hq
    · match i, hi with
      | 0, hi => exact absurd hi (by decide)
      | 1, hi => exact absurd hi (by decide)
      | 2, hi => exact absurd hi (by decide)
      | i + 3, _ => rfl
    · intro i k hk
      match i, hk with
      | 0, hk => cases hk; exact hr0
      | i + 1, hk => cases hk
  · intro q hq hst K' B' L' f' ν μ h1 h2 h3 h4 h5
    have e0 : ν 0 = v0 := h4 0 (by decide)
    have e1 : ν 1 = v1 := h4 1 (by decide)
    have e2 : ν 2 = v2 := h4 2 (by decide)
    have d0 : μ 0 = r0 := h5 0 (by decide)
    subst e0
    subst e1
    subst e2
    subst d0
    replace hq : q ∈ u_fr26 := hq
    unfold u_fr26 at hq
    simp only [List.mem_cons, List.not_mem_nil, or_false] at hq
    rcases hq with rfl
    · have hst2 : eW E 0 0 L' f' 2 [(0, .ref (μ 0)), (1, .int (Int32.ofInt (0 + (1 * ν 0 + 0)))), (2, .int (Int32.ofInt (0 + (1 * ν 1 + 0)))), (3, .int (Int32.ofInt (1 + (1 * ν 2 + 0))))] [] := ?_
      · exact hst2
      try simp only [Int.zero_add, Int.one_mul, Int.add_zero]
      exact k2 K' B' L' f'   h1 h2 (h3.1 0) (h3.1 1) (h3.1 2) (h3.2.2.2.1 0 200 rfl)

/-! fr32: from 32 to [34] -/
def w_fr32 : TP := ([(0, (2, 0, (0, []))), (1, (0, 0, (0, [(1, 0)]))), (2, (0, 0, (0, [(1, 1)])))], [], ([((-2147483648), 2147483647), ((-2147483648), 2147483647)], [], [], [200], [], [], []), [], [])
def u_fr32 : List (Nat × TP × EX × Nat × Nat) := [(34, ([(0, (2, 0, (0, []))), (1, (0, 0, (0, [(1, 0)]))), (2, (0, 0, (0, [(1, 1)]))), (3, (0, 0, (0, [])))], [], ([((-2147483648), 2147483647), ((-2147483648), 2147483647)], [], [], [200], [], [], []), [], []), ((-1), []), 0, 0)]
def D_fr32 : DT := (mkD iX12_findRoads fX12 lX12 kX12 kkX12 342 [] (w_fr32, [], [], 3, 0, 0, 3) false 6 u_fr32)
theorem k_fr32 : chkS D_fr32 4000 0 0 32 = true := by decide +kernel
theorem s_fr32 {X0 : zC0} {E : zCx} (H : ∀ j, j < 342 → CMj X0 j) (hE : zOk E X0 RX12 cX12_findRoads 6 (zrm 3 0 0)) {K : Nat → Nat} {B : Int} {L : List Nat} {f : Nat → va_E} (hh : hok X0.2.2.1 K B L f) {v0 v1 : Int} {r0 : Nat} (hb0 : (-2147483648) ≤ v0 ∧ v0 ≤ 2147483647) (hb1 : (-2147483648) ≤ v1 ∧ v1 ≤ 2147483647) (hr0 : r0 ∈ L ∧ K r0 = 200) (k34 : ∀ (K' : Nat → Nat) (B' : Int) (L' : List Nat) (f' : Nat → va_E), hok X0.2.2.1 K' B' L' f' → extC [] K B L f K' B' L' f' → ((-2147483648) ≤ v0 ∧ v0 ≤ 2147483647) → ((-2147483648) ≤ v1 ∧ v1 ≤ 2147483647) → (r0 ∈ L' ∧ K' r0 = 200) → eW E 0 0 L' f' 34 [(0, .ref r0), (1, .int (Int32.ofInt v0)), (2, .int (Int32.ofInt v1)), (3, .int (Int32.ofInt 0))] []) : eW E 0 0 L f 32 [(0, .ref r0), (1, .int (Int32.ofInt v0)), (2, .int (Int32.ofInt v1))] [] := by
  obtain ⟨l0, D0, cy0, ax0⟩ := X0
  have hraw : eW E 0 0 L f 32 [(0, .ref r0), (1, .int (Int32.ofInt (0 + (1 * v0 + 0)))), (2, .int (Int32.ofInt (0 + (1 * v1 + 0))))] [] := ?_
  · simpa only [Int.zero_add, Int.one_mul, Int.add_zero] using hraw
  refine seg_ok (D := D_fr32) (νi := fun i => [v0, v1].getD i 0) (μi := fun i => [r0].getD i 0) k_fr32 hE (mk_ok (ins := iX12_findRoads) jX12_findRoads fX12_ok lX12_ok kX12_ok kkX12_ok H) (by decide) rfl rfl rfl rfl hh ?_ ?_
  · refine ⟨(eok_of (fun i q hq => ?_) (fun i hi => ?_)), fa0, fa0, ?_, fa0, fa0, fa0⟩
    · match i, hq with
      | 0, hq => cases hq; exact hb0
      | 1, hq => cases hq; exact hb1
      | i + 2, hq => cases hq
    · match i, hi with
      | 0, hi => exact absurd hi (by decide)
      | 1, hi => exact absurd hi (by decide)
      | i + 2, _ => rfl
    · intro i k hk
      match i, hk with
      | 0, hk => cases hk; exact hr0
      | i + 1, hk => cases hk
  · intro q hq hst K' B' L' f' ν μ h1 h2 h3 h4 h5
    have e0 : ν 0 = v0 := h4 0 (by decide)
    have e1 : ν 1 = v1 := h4 1 (by decide)
    have d0 : μ 0 = r0 := h5 0 (by decide)
    subst e0
    subst e1
    subst d0
    replace hq : q ∈ u_fr32 := hq
    unfold u_fr32 at hq
    simp only [List.mem_cons, List.not_mem_nil, or_false] at hq
    rcases hq with rfl
    · have hst2 : eW E 0 0 L' f' 34 [(0, .ref (μ 0)), (1, .int (Int32.ofInt (0 + (1 * ν 0 + 0)))), (2, .int (Int32.ofInt (0 + (1 * ν 1 + 0)))), (3, .int (Int32.ofInt (0 + 0)))] [] := ?_
      · exact hst2
      try simp only [Int.zero_add, Int.one_mul, Int.add_zero]
      exact k34 K' B' L' f'   h1 h2 (h3.1 0) (h3.1 1) (h3.2.2.2.1 0 200 rfl)

/-! fr34: from 34 to [47, 151] -/
def w_fr34 : TP := ([(0, (2, 0, (0, []))), (1, (0, 0, (0, [(1, 0)]))), (2, (0, 0, (0, [(1, 1)]))), (3, (0, 0, (0, [(1, 2)])))], [], ([((-2147483648), 2147483647), ((-2147483648), 2147483647), (0, 6)], [], [], [200], [], [], []), [], [])
def u_fr34 : List (Nat × TP × EX × Nat × Nat) := [(47, ([(0, (2, 0, (0, []))), (1, (0, 0, (0, [(1, 0)]))), (2, (0, 0, (0, [(1, 1)]))), (3, (0, 0, (0, [(1, 2)]))), (4, (0, 0, (0, [])))], [], ([((-2147483648), 2147483647), ((-2147483648), 2147483647), (0, 5), (1, 6)], [((-1), [((-1), 2), (1, 3)])], [], [200], [((201, (0, [])), (0, [(1, 3)]))], [], []), [(2, 201, (0, []))], []), ((-1), []), 0, 0), (151, ([(0, (2, 0, (0, []))), (1, (0, 0, (0, [(1, 0)]))), (2, (0, 0, (0, [(1, 1)]))), (3, (0, 0, (0, [(1, 2)])))], [], ([((-2147483648), 2147483647), ((-2147483648), 2147483647), (0, 6), (0, 6)], [(0, [(1, 2), ((-1), 3)])], [], [200], [((201, (0, [])), (0, [(1, 3)]))], [], []), [(2, 201, (0, []))], []), ((-1), []), 0, 0)]
def D_fr34 : DT := (mkD iX12_findRoads fX12 lX12 kX12 kkX12 342 [] (w_fr34, [], [], 3, 0, 0, 3) false 6 u_fr34)
theorem k_fr34 : chkS D_fr34 4000 0 0 34 = true := by decide +kernel
theorem s_fr34 {X0 : zC0} {E : zCx} (H : ∀ j, j < 342 → CMj X0 j) (hE : zOk E X0 RX12 cX12_findRoads 6 (zrm 3 0 0)) {K : Nat → Nat} {B : Int} {L : List Nat} {f : Nat → va_E} (hh : hok X0.2.2.1 K B L f) {v0 v1 v2 : Int} {r0 : Nat} (hb0 : (-2147483648) ≤ v0 ∧ v0 ≤ 2147483647) (hb1 : (-2147483648) ≤ v1 ∧ v1 ≤ 2147483647) (hb2 : 0 ≤ v2 ∧ v2 ≤ 6) (hr0 : r0 ∈ L ∧ K r0 = 200) (k47 : ∀ (K' : Nat → Nat) (B' : Int) (L' : List Nat) (f' : Nat → va_E) (v3 : Int), hok X0.2.2.1 K' B' L' f' → extC [] K B L f K' B' L' f' → ((-2147483648) ≤ v0 ∧ v0 ≤ 2147483647) → ((-2147483648) ≤ v1 ∧ v1 ≤ 2147483647) → (0 ≤ v2 ∧ v2 ≤ 5) → (1 ≤ v3 ∧ v3 ≤ 6) → (0 ≤ ((-1) + ((-1) * v2 + v3))) → (r0 ∈ L' ∧ K' r0 = 200) → (∀ b ∈ L', K' b = 201 → (0 : Int) ≤ 0 ∧ gi (f' b) ((0 : Int)).toNat = v3) → eW E 0 0 L' f' 47 [(0, .ref r0), (1, .int (Int32.ofInt v0)), (2, .int (Int32.ofInt v1)), (3, .int (Int32.ofInt v2)), (4, .int (Int32.ofInt 0))] []) (k151 : ∀ (K' : Nat → Nat) (B' : Int) (L' : List Nat) (f' : Nat → va_E) (v3 : Int), hok X0.2.2.1 K' B' L' f' → extC [] K B L f K' B' L' f' → ((-2147483648) ≤ v0 ∧ v0 ≤ 2147483647) → ((-2147483648) ≤ v1 ∧ v1 ≤ 2147483647) → (0 ≤ v2 ∧ v2 ≤ 6) → (0 ≤ v3 ∧ v3 ≤ 6) → (0 ≤ (v2 + ((-1) * v3))) → (r0 ∈ L' ∧ K' r0 = 200) → (∀ b ∈ L', K' b = 201 → (0 : Int) ≤ 0 ∧ gi (f' b) ((0 : Int)).toNat = v3) → eW E 0 0 L' f' 151 [(0, .ref r0), (1, .int (Int32.ofInt v0)), (2, .int (Int32.ofInt v1)), (3, .int (Int32.ofInt v2))] []) : eW E 0 0 L f 34 [(0, .ref r0), (1, .int (Int32.ofInt v0)), (2, .int (Int32.ofInt v1)), (3, .int (Int32.ofInt v2))] [] := by
  obtain ⟨l0, D0, cy0, ax0⟩ := X0
  have hraw : eW E 0 0 L f 34 [(0, .ref r0), (1, .int (Int32.ofInt (0 + (1 * v0 + 0)))), (2, .int (Int32.ofInt (0 + (1 * v1 + 0)))), (3, .int (Int32.ofInt (0 + (1 * v2 + 0))))] [] := ?_
  · simpa only [Int.zero_add, Int.one_mul, Int.add_zero] using hraw
  refine seg_ok (D := D_fr34) (νi := fun i => [v0, v1, v2].getD i 0) (μi := fun i => [r0].getD i 0) k_fr34 hE (mk_ok (ins := iX12_findRoads) jX12_findRoads fX12_ok lX12_ok kX12_ok kkX12_ok H) (by decide) rfl rfl rfl rfl hh ?_ ?_
  · refine ⟨(eok_of (fun i q hq => ?_) (fun i hi => ?_)), fa0, fa0, ?_, fa0, fa0, fa0⟩
    · match i, hq with
      | 0, hq => cases hq; exact hb0
      | 1, hq => cases hq; exact hb1
      | 2, hq => cases hq; exact hb2
      | i + 3, hq => cases hq
    · match i, hi with
      | 0, hi => exact absurd hi (by decide)
      | 1, hi => exact absurd hi (by decide)
      | 2, hi => exact absurd hi (by decide)
      | i + 3, _ => rfl
    · intro i k hk
      match i, hk with
      | 0, hk => cases hk; exact hr0
      | i + 1, hk => cases hk
  · intro q hq hst K' B' L' f' ν μ h1 h2 h3 h4 h5
    have e0 : ν 0 = v0 := h4 0 (by decide)
    have e1 : ν 1 = v1 := h4 1 (by decide)
    have e2 : ν 2 = v2 := h4 2 (by decide)
    have d0 : μ 0 = r0 := h5 0 (by decide)
    subst e0
    subst e1
    subst e2
    subst d0
    replace hq : q ∈ u_fr34 := hq
    unfold u_fr34 at hq
    simp only [List.mem_cons, List.not_mem_nil, or_false] at hq
    rcases hq with rfl | rfl
    · have hst2 : eW E 0 0 L' f' 47 [(0, .ref (μ 0)), (1, .int (Int32.ofInt (0 + (1 * ν 0 + 0)))), (2, .int (Int32.ofInt (0 + (1 * ν 1 + 0)))), (3, .int (Int32.ofInt (0 + (1 * ν 2 + 0)))), (4, .int (Int32.ofInt (0 + 0)))] [] := ?_
      · exact hst2
      try simp only [Int.zero_add, Int.one_mul, Int.add_zero]
      exact k47 K' B' L' f' (ν 3)  h1 h2 (h3.1 0) (h3.1 1) (h3.1 2) (h3.1 3) (by simpa only [xv, xvT, Int.zero_add, Int.one_mul, Int.add_zero] using (h3.2.1 _ (List.mem_of_getElem? (i := 0) rfl))) (h3.2.2.2.1 0 200 rfl) (by simpa only [xv, xvT, Int.zero_add, Int.one_mul, Int.add_zero] using (mokA h1 (show (zkd 201).1 = 2 by decide) (by decide) (h3.2.2.2.2.1 _ (List.mem_of_getElem? (i := 0) rfl))))
    · have hst2 : eW E 0 0 L' f' 151 [(0, .ref (μ 0)), (1, .int (Int32.ofInt (0 + (1 * ν 0 + 0)))), (2, .int (Int32.ofInt (0 + (1 * ν 1 + 0)))), (3, .int (Int32.ofInt (0 + (1 * ν 2 + 0))))] [] := ?_
      · exact hst2
      try simp only [Int.zero_add, Int.one_mul, Int.add_zero]
      exact k151 K' B' L' f' (ν 3)  h1 h2 (h3.1 0) (h3.1 1) (h3.1 2) (h3.1 3) (by simpa only [xv, xvT, Int.zero_add, Int.one_mul, Int.add_zero] using (h3.2.1 _ (List.mem_of_getElem? (i := 0) rfl))) (h3.2.2.2.1 0 200 rfl) (by simpa only [xv, xvT, Int.zero_add, Int.one_mul, Int.add_zero] using (mokA h1 (show (zkd 201).1 = 2 by decide) (by decide) (h3.2.2.2.2.1 _ (List.mem_of_getElem? (i := 0) rfl))))

/-! fr47: from 47 to [61, 145] -/
def w_fr47 : TP := ([(0, (2, 0, (0, []))), (1, (0, 0, (0, [(1, 0)]))), (2, (0, 0, (0, [(1, 1)]))), (3, (0, 0, (0, [(1, 2)]))), (4, (0, 0, (0, [(1, 3)])))], [], ([((-2147483648), 2147483647), ((-2147483648), 2147483647), (0, 6), (0, 6)], [], [], [200], [], [], []), [], [])
def u_fr47 : List (Nat × TP × EX × Nat × Nat) := [(61, ([(0, (2, 0, (0, []))), (1, (0, 0, (0, [(1, 0)]))), (2, (0, 0, (0, [(1, 1)]))), (3, (0, 0, (0, [(1, 2)]))), (4, (0, 0, (0, [(1, 3)]))), (5, (0, 0, (0, [])))], [], ([((-2147483648), 2147483647), ((-2147483648), 2147483647), (0, 6), (0, 5), (1, 6)], [((-1), [((-1), 3), (1, 4)])], [], [200], [((201, (0, [])), (0, [(1, 4)]))], [], []), [(2, 201, (0, []))], []), ((-1), []), 0, 0), (145, ([(0, (2, 0, (0, []))), (1, (0, 0, (0, [(1, 0)]))), (2, (0, 0, (0, [(1, 1)]))), (3, (0, 0, (0, [(1, 2)]))), (4, (0, 0, (0, [(1, 3)])))], [], ([((-2147483648), 2147483647), ((-2147483648), 2147483647), (0, 6), (0, 6), (0, 6)], [(0, [(1, 3), ((-1), 4)])], [], [200], [((201, (0, [])), (0, [(1, 4)]))], [], []), [(2, 201, (0, []))], []), ((-1), []), 0, 0)]
def D_fr47 : DT := (mkD iX12_findRoads fX12 lX12 kX12 kkX12 342 [] (w_fr47, [], [], 3, 0, 0, 3) false 6 u_fr47)
theorem k_fr47 : chkS D_fr47 4000 0 0 47 = true := by decide +kernel
theorem s_fr47 {X0 : zC0} {E : zCx} (H : ∀ j, j < 342 → CMj X0 j) (hE : zOk E X0 RX12 cX12_findRoads 6 (zrm 3 0 0)) {K : Nat → Nat} {B : Int} {L : List Nat} {f : Nat → va_E} (hh : hok X0.2.2.1 K B L f) {v0 v1 v2 v3 : Int} {r0 : Nat} (hb0 : (-2147483648) ≤ v0 ∧ v0 ≤ 2147483647) (hb1 : (-2147483648) ≤ v1 ∧ v1 ≤ 2147483647) (hb2 : 0 ≤ v2 ∧ v2 ≤ 6) (hb3 : 0 ≤ v3 ∧ v3 ≤ 6) (hr0 : r0 ∈ L ∧ K r0 = 200) (k61 : ∀ (K' : Nat → Nat) (B' : Int) (L' : List Nat) (f' : Nat → va_E) (v4 : Int), hok X0.2.2.1 K' B' L' f' → extC [] K B L f K' B' L' f' → ((-2147483648) ≤ v0 ∧ v0 ≤ 2147483647) → ((-2147483648) ≤ v1 ∧ v1 ≤ 2147483647) → (0 ≤ v2 ∧ v2 ≤ 6) → (0 ≤ v3 ∧ v3 ≤ 5) → (1 ≤ v4 ∧ v4 ≤ 6) → (0 ≤ ((-1) + ((-1) * v3 + v4))) → (r0 ∈ L' ∧ K' r0 = 200) → (∀ b ∈ L', K' b = 201 → (0 : Int) ≤ 0 ∧ gi (f' b) ((0 : Int)).toNat = v4) → eW E 0 0 L' f' 61 [(0, .ref r0), (1, .int (Int32.ofInt v0)), (2, .int (Int32.ofInt v1)), (3, .int (Int32.ofInt v2)), (4, .int (Int32.ofInt v3)), (5, .int (Int32.ofInt 0))] []) (k145 : ∀ (K' : Nat → Nat) (B' : Int) (L' : List Nat) (f' : Nat → va_E) (v4 : Int), hok X0.2.2.1 K' B' L' f' → extC [] K B L f K' B' L' f' → ((-2147483648) ≤ v0 ∧ v0 ≤ 2147483647) → ((-2147483648) ≤ v1 ∧ v1 ≤ 2147483647) → (0 ≤ v2 ∧ v2 ≤ 6) → (0 ≤ v3 ∧ v3 ≤ 6) → (0 ≤ v4 ∧ v4 ≤ 6) → (0 ≤ (v3 + ((-1) * v4))) → (r0 ∈ L' ∧ K' r0 = 200) → (∀ b ∈ L', K' b = 201 → (0 : Int) ≤ 0 ∧ gi (f' b) ((0 : Int)).toNat = v4) → eW E 0 0 L' f' 145 [(0, .ref r0), (1, .int (Int32.ofInt v0)), (2, .int (Int32.ofInt v1)), (3, .int (Int32.ofInt v2)), (4, .int (Int32.ofInt v3))] []) : eW E 0 0 L f 47 [(0, .ref r0), (1, .int (Int32.ofInt v0)), (2, .int (Int32.ofInt v1)), (3, .int (Int32.ofInt v2)), (4, .int (Int32.ofInt v3))] [] := by
  obtain ⟨l0, D0, cy0, ax0⟩ := X0
  have hraw : eW E 0 0 L f 47 [(0, .ref r0), (1, .int (Int32.ofInt (0 + (1 * v0 + 0)))), (2, .int (Int32.ofInt (0 + (1 * v1 + 0)))), (3, .int (Int32.ofInt (0 + (1 * v2 + 0)))), (4, .int (Int32.ofInt (0 + (1 * v3 + 0))))] [] := ?_
  · simpa only [Int.zero_add, Int.one_mul, Int.add_zero] using hraw
  refine seg_ok (D := D_fr47) (νi := fun i => [v0, v1, v2, v3].getD i 0) (μi := fun i => [r0].getD i 0) k_fr47 hE (mk_ok (ins := iX12_findRoads) jX12_findRoads fX12_ok lX12_ok kX12_ok kkX12_ok H) (by decide) rfl rfl rfl rfl hh ?_ ?_
  · refine ⟨(eok_of (fun i q hq => ?_) (fun i hi => ?_)), fa0, fa0, ?_, fa0, fa0, fa0⟩
    · match i, hq with
      | 0, hq => cases hq; exact hb0
      | 1, hq => cases hq; exact hb1
      | 2, hq => cases hq; exact hb2
      | 3, hq => cases hq; exact hb3
      | i + 4, hq => cases hq
    · match i, hi with
      | 0, hi => exact absurd hi (by decide)
      | 1, hi => exact absurd hi (by decide)
      | 2, hi => exact absurd hi (by decide)
      | 3, hi => exact absurd hi (by decide)
      | i + 4, _ => rfl
    · intro i k hk
      match i, hk with
      | 0, hk => cases hk; exact hr0
      | i + 1, hk => cases hk
  · intro q hq hst K' B' L' f' ν μ h1 h2 h3 h4 h5
    have e0 : ν 0 = v0 := h4 0 (by decide)
    have e1 : ν 1 = v1 := h4 1 (by decide)
    have e2 : ν 2 = v2 := h4 2 (by decide)
    have e3 : ν 3 = v3 := h4 3 (by decide)
    have d0 : μ 0 = r0 := h5 0 (by decide)
    subst e0
    subst e1
    subst e2
    subst e3
    subst d0
    replace hq : q ∈ u_fr47 := hq
    unfold u_fr47 at hq
    simp only [List.mem_cons, List.not_mem_nil, or_false] at hq
    rcases hq with rfl | rfl
    · have hst2 : eW E 0 0 L' f' 61 [(0, .ref (μ 0)), (1, .int (Int32.ofInt (0 + (1 * ν 0 + 0)))), (2, .int (Int32.ofInt (0 + (1 * ν 1 + 0)))), (3, .int (Int32.ofInt (0 + (1 * ν 2 + 0)))), (4, .int (Int32.ofInt (0 + (1 * ν 3 + 0)))), (5, .int (Int32.ofInt (0 + 0)))] [] := ?_
      · exact hst2
      try simp only [Int.zero_add, Int.one_mul, Int.add_zero]
      exact k61 K' B' L' f' (ν 4)  h1 h2 (h3.1 0) (h3.1 1) (h3.1 2) (h3.1 3) (h3.1 4) (by simpa only [xv, xvT, Int.zero_add, Int.one_mul, Int.add_zero] using (h3.2.1 _ (List.mem_of_getElem? (i := 0) rfl))) (h3.2.2.2.1 0 200 rfl) (by simpa only [xv, xvT, Int.zero_add, Int.one_mul, Int.add_zero] using (mokA h1 (show (zkd 201).1 = 2 by decide) (by decide) (h3.2.2.2.2.1 _ (List.mem_of_getElem? (i := 0) rfl))))
    · have hst2 : eW E 0 0 L' f' 145 [(0, .ref (μ 0)), (1, .int (Int32.ofInt (0 + (1 * ν 0 + 0)))), (2, .int (Int32.ofInt (0 + (1 * ν 1 + 0)))), (3, .int (Int32.ofInt (0 + (1 * ν 2 + 0)))), (4, .int (Int32.ofInt (0 + (1 * ν 3 + 0))))] [] := ?_
      · exact hst2
      try simp only [Int.zero_add, Int.one_mul, Int.add_zero]
      exact k145 K' B' L' f' (ν 4)  h1 h2 (h3.1 0) (h3.1 1) (h3.1 2) (h3.1 3) (h3.1 4) (by simpa only [xv, xvT, Int.zero_add, Int.one_mul, Int.add_zero] using (h3.2.1 _ (List.mem_of_getElem? (i := 0) rfl))) (h3.2.2.2.1 0 200 rfl) (by simpa only [xv, xvT, Int.zero_add, Int.one_mul, Int.add_zero] using (mokA h1 (show (zkd 201).1 = 2 by decide) (by decide) (h3.2.2.2.2.1 _ (List.mem_of_getElem? (i := 0) rfl))))

/-! fr61: from 61 to [82, 139] -/
def w_fr61 : TP := ([(0, (2, 0, (0, []))), (1, (0, 0, (0, [(1, 0)]))), (2, (0, 0, (0, [(1, 1)]))), (3, (0, 0, (0, [(1, 2)]))), (4, (0, 0, (0, [(1, 3)]))), (5, (0, 0, (0, [(1, 4)])))], [], ([((-2147483648), 2147483647), ((-2147483648), 2147483647), (0, 6), (0, 5), (0, 6)], [], [], [200], [], [], []), [], [])
def u_fr61 : List (Nat × TP × EX × Nat × Nat) := [(82, ([(0, (2, 0, (0, []))), (1, (0, 0, (0, [(1, 0)]))), (2, (0, 0, (0, [(1, 1)]))), (3, (0, 0, (0, [(1, 2)]))), (4, (0, 0, (0, [(1, 3)]))), (5, (0, 0, (0, [(1, 4)])))], [(0, 0, (0, [(1, 4)])), (0, 0, (0, [(1, 5)]))], ([((-2147483648), 2147483647), ((-2147483648), 2147483647), (0, 6), (0, 5), (0, 5), ((-2147483648), 2147483647), (1, 6)], [((-1), [((-1), 4), (1, 6)])], [], [200], [((201, (22, [(7, 3)])), (0, [(1, 5)])), ((201, (0, [])), (0, [(1, 6)]))], [], []), [(1, 1, (0, [])), (2, 201, (0, []))], []), ((-1), []), 0, 0), (139, ([(0, (2, 0, (0, []))), (1, (0, 0, (0, [(1, 0)]))), (2, (0, 0, (0, [(1, 1)]))), (3, (0, 0, (0, [(1, 2)]))), (4, (0, 0, (0, [(1, 3)]))), (5, (0, 0, (0, [(1, 4)])))], [], ([((-2147483648), 2147483647), ((-2147483648), 2147483647), (0, 6), (0, 5), (0, 6), (0, 6)], [(0, [(1, 4), ((-1), 5)])], [], [200], [((201, (0, [])), (0, [(1, 5)]))], [], []), [(2, 201, (0, []))], []), ((-1), []), 0, 0)]
def D_fr61 : DT := (mkD iX12_findRoads fX12 lX12 kX12 kkX12 342 [(77, [333])] (w_fr61, [], [], 3, 0, 0, 3) false 6 u_fr61)
theorem k_fr61 : chkS D_fr61 4000 0 0 61 = true := by decide +kernel
theorem s_fr61 {X0 : zC0} {E : zCx} (H : ∀ j, j < 342 → CMj X0 j) (hE : zOk E X0 RX12 cX12_findRoads 6 (zrm 3 0 0)) {K : Nat → Nat} {B : Int} {L : List Nat} {f : Nat → va_E} (hh : hok X0.2.2.1 K B L f) {v0 v1 v2 v3 v4 : Int} {r0 : Nat} (hb0 : (-2147483648) ≤ v0 ∧ v0 ≤ 2147483647) (hb1 : (-2147483648) ≤ v1 ∧ v1 ≤ 2147483647) (hb2 : 0 ≤ v2 ∧ v2 ≤ 6) (hb3 : 0 ≤ v3 ∧ v3 ≤ 5) (hb4 : 0 ≤ v4 ∧ v4 ≤ 6) (hr0 : r0 ∈ L ∧ K r0 = 200) (k82 : ∀ (K' : Nat → Nat) (B' : Int) (L' : List Nat) (f' : Nat → va_E) (v5 v6 : Int), hok X0.2.2.1 K' B' L' f' → extC [] K B L f K' B' L' f' → ((-2147483648) ≤ v0 ∧ v0 ≤ 2147483647) → ((-2147483648) ≤ v1 ∧ v1 ≤ 2147483647) → (0 ≤ v2 ∧ v2 ≤ 6) → (0 ≤ v3 ∧ v3 ≤ 5) → (0 ≤ v4 ∧ v4 ≤ 5) → ((-2147483648) ≤ v5 ∧ v5 ≤ 2147483647) → (1 ≤ v6 ∧ v6 ≤ 6) → (0 ≤ ((-1) + ((-1) * v4 + v6))) → (r0 ∈ L' ∧ K' r0 = 200) → (∀ b ∈ L', K' b = 201 → (0 : Int) ≤ (22 + (7 * v3)) ∧ gi (f' b) (((22 + (7 * v3)) : Int)).toNat = v5) → (∀ b ∈ L', K' b = 201 → (0 : Int) ≤ 0 ∧ gi (f' b) ((0 : Int)).toNat = v6) → eW E 0 0 L' f' 82 [(0, .ref r0), (1, .int (Int32.ofInt v0)), (2, .int (Int32.ofInt v1)), (3, .int (Int32.ofInt v2)), (4, .int (Int32.ofInt v3)), (5, .int (Int32.ofInt v4))] [.int (Int32.ofInt v4), .int (Int32.ofInt v5)]) (k139 : ∀ (K' : Nat → Nat) (B' : Int) (L' : List Nat) (f' : Nat → va_E) (v5 : Int), hok X0.2.2.1 K' B' L' f' → extC [] K B L f K' B' L' f' → ((-2147483648) ≤ v0 ∧ v0 ≤ 2147483647) → ((-2147483648) ≤ v1 ∧ v1 ≤ 2147483647) → (0 ≤ v2 ∧ v2 ≤ 6) → (0 ≤ v3 ∧ v3 ≤ 5) → (0 ≤ v4 ∧ v4 ≤ 6) → (0 ≤ v5 ∧ v5 ≤ 6) → (0 ≤ (v4 + ((-1) * v5))) → (r0 ∈ L' ∧ K' r0 = 200) → (∀ b ∈ L', K' b = 201 → (0 : Int) ≤ 0 ∧ gi (f' b) ((0 : Int)).toNat = v5) → eW E 0 0 L' f' 139 [(0, .ref r0), (1, .int (Int32.ofInt v0)), (2, .int (Int32.ofInt v1)), (3, .int (Int32.ofInt v2)), (4, .int (Int32.ofInt v3)), (5, .int (Int32.ofInt v4))] []) : eW E 0 0 L f 61 [(0, .ref r0), (1, .int (Int32.ofInt v0)), (2, .int (Int32.ofInt v1)), (3, .int (Int32.ofInt v2)), (4, .int (Int32.ofInt v3)), (5, .int (Int32.ofInt v4))] [] := by
  obtain ⟨l0, D0, cy0, ax0⟩ := X0
  have hraw : eW E 0 0 L f 61 [(0, .ref r0), (1, .int (Int32.ofInt (0 + (1 * v0 + 0)))), (2, .int (Int32.ofInt (0 + (1 * v1 + 0)))), (3, .int (Int32.ofInt (0 + (1 * v2 + 0)))), (4, .int (Int32.ofInt (0 + (1 * v3 + 0)))), (5, .int (Int32.ofInt (0 + (1 * v4 + 0))))] [] := ?_
  · simpa only [Int.zero_add, Int.one_mul, Int.add_zero] using hraw
  refine seg_ok (D := D_fr61) (νi := fun i => [v0, v1, v2, v3, v4].getD i 0) (μi := fun i => [r0].getD i 0) k_fr61 hE (mk_ok (ins := iX12_findRoads) jX12_findRoads fX12_ok lX12_ok kX12_ok kkX12_ok H) (by decide) rfl rfl rfl rfl hh ?_ ?_
  · refine ⟨(eok_of (fun i q hq => ?_) (fun i hi => ?_)), fa0, fa0, ?_, fa0, fa0, fa0⟩
    · match i, hq with
      | 0, hq => cases hq; exact hb0
      | 1, hq => cases hq; exact hb1
      | 2, hq => cases hq; exact hb2
      | 3, hq => cases hq; exact hb3
      | 4, hq => cases hq; exact hb4
      | i + 5, hq => cases hq
    · match i, hi with
      | 0, hi => exact absurd hi (by decide)
      | 1, hi => exact absurd hi (by decide)
      | 2, hi => exact absurd hi (by decide)
      | 3, hi => exact absurd hi (by decide)
      | 4, hi => exact absurd hi (by decide)
      | i + 5, _ => rfl
    · intro i k hk
      match i, hk with
      | 0, hk => cases hk; exact hr0
      | i + 1, hk => cases hk
  · intro q hq hst K' B' L' f' ν μ h1 h2 h3 h4 h5
    have e0 : ν 0 = v0 := h4 0 (by decide)
    have e1 : ν 1 = v1 := h4 1 (by decide)
    have e2 : ν 2 = v2 := h4 2 (by decide)
    have e3 : ν 3 = v3 := h4 3 (by decide)
    have e4 : ν 4 = v4 := h4 4 (by decide)
    have d0 : μ 0 = r0 := h5 0 (by decide)
    subst e0
    subst e1
    subst e2
    subst e3
    subst e4
    subst d0
    replace hq : q ∈ u_fr61 := hq
    unfold u_fr61 at hq
    simp only [List.mem_cons, List.not_mem_nil, or_false] at hq
    rcases hq with rfl | rfl
    · have hst2 : eW E 0 0 L' f' 82 [(0, .ref (μ 0)), (1, .int (Int32.ofInt (0 + (1 * ν 0 + 0)))), (2, .int (Int32.ofInt (0 + (1 * ν 1 + 0)))), (3, .int (Int32.ofInt (0 + (1 * ν 2 + 0)))), (4, .int (Int32.ofInt (0 + (1 * ν 3 + 0)))), (5, .int (Int32.ofInt (0 + (1 * ν 4 + 0))))] [.int (Int32.ofInt (0 + (1 * ν 4 + 0))), .int (Int32.ofInt (0 + (1 * ν 5 + 0)))] := ?_
      · exact hst2
      try simp only [Int.zero_add, Int.one_mul, Int.add_zero]
      exact k82 K' B' L' f' (ν 5) (ν 6)  h1 h2 (h3.1 0) (h3.1 1) (h3.1 2) (h3.1 3) (h3.1 4) (h3.1 5) (h3.1 6) (by simpa only [xv, xvT, Int.zero_add, Int.one_mul, Int.add_zero] using (h3.2.1 _ (List.mem_of_getElem? (i := 0) rfl))) (h3.2.2.2.1 0 200 rfl) (by simpa only [xv, xvT, Int.zero_add, Int.one_mul, Int.add_zero] using (mokA h1 (show (zkd 201).1 = 2 by decide) (by decide) (h3.2.2.2.2.1 _ (List.mem_of_getElem? (i := 0) rfl)))) (by simpa only [xv, xvT, Int.zero_add, Int.one_mul, Int.add_zero] using (mokA h1 (show (zkd 201).1 = 2 by decide) (by decide) (h3.2.2.2.2.1 _ (List.mem_of_getElem? (i := 1) rfl))))
    · have hst2 : eW E 0 0 L' f' 139 [(0, .ref (μ 0)), (1, .int (Int32.ofInt (0 + (1 * ν 0 + 0)))), (2, .int (Int32.ofInt (0 + (1 * ν 1 + 0)))), (3, .int (Int32.ofInt (0 + (1 * ν 2 + 0)))), (4, .int (Int32.ofInt (0 + (1 * ν 3 + 0)))), (5, .int (Int32.ofInt (0 + (1 * ν 4 + 0))))] [] := ?_
      · exact hst2
      try simp only [Int.zero_add, Int.one_mul, Int.add_zero]
      exact k139 K' B' L' f' (ν 5)  h1 h2 (h3.1 0) (h3.1 1) (h3.1 2) (h3.1 3) (h3.1 4) (h3.1 5) (by simpa only [xv, xvT, Int.zero_add, Int.one_mul, Int.add_zero] using (h3.2.1 _ (List.mem_of_getElem? (i := 0) rfl))) (h3.2.2.2.1 0 200 rfl) (by simpa only [xv, xvT, Int.zero_add, Int.one_mul, Int.add_zero] using (mokA h1 (show (zkd 201).1 = 2 by decide) (by decide) (h3.2.2.2.2.1 _ (List.mem_of_getElem? (i := 0) rfl))))

/-! fr85: from 85 to [92, 133] -/
def w_fr85 : TP := ([(0, (2, 0, (0, []))), (1, (0, 0, (0, [(1, 0)]))), (2, (0, 0, (0, [(1, 1)]))), (3, (0, 0, (0, [(1, 2)]))), (4, (0, 0, (0, [(1, 3)]))), (5, (0, 0, (0, [(1, 4)])))], [(0, 0, (0, [(1, 5)]))], ([((-2147483648), 2147483647), ((-2147483648), 2147483647), (0, 6), (0, 5), (0, 5), (0, 1)], [], [], [200], [], [], []), [], [])
def u_fr85 : List (Nat × TP × EX × Nat × Nat) := [(92, ([(0, (2, 0, (0, []))), (1, (0, 0, (0, [(1, 0)]))), (2, (0, 0, (0, [(1, 1)]))), (3, (0, 0, (0, [(1, 2)]))), (4, (0, 0, (0, [(1, 3)]))), (5, (0, 0, (0, [(1, 4)])))], [(0, 0, (0, [(1, 1)])), (0, 0, (0, [(1, 4)])), (2, 0, (0, []))], ([((-2147483648), 2147483647), ((-2147483648), 2147483647), (0, 6), (0, 5), (0, 5), (1, 1)], [], [], [200], [], [], []), [], []), ((-1), []), 0, 0), (133, ([(0, (2, 0, (0, []))), (1, (0, 0, (0, [(1, 0)]))), (2, (0, 0, (0, [(1, 1)]))), (3, (0, 0, (0, [(1, 2)]))), (4, (0, 0, (0, [(1, 3)]))), (5, (0, 0, (0, [(1, 4)])))], [], ([((-2147483648), 2147483647), ((-2147483648), 2147483647), (0, 6), (0, 5), (0, 5), (0, 0)], [], [], [200], [], [], []), [], []), ((-1), []), 0, 0)]
def D_fr85 : DT := (mkD iX12_findRoads fX12 lX12 kX12 kkX12 342 [] (w_fr85, [], [], 3, 0, 0, 3) false 6 u_fr85)
theorem k_fr85 : chkS D_fr85 4000 0 0 85 = true := by decide +kernel
theorem s_fr85 {X0 : zC0} {E : zCx} (H : ∀ j, j < 342 → CMj X0 j) (hE : zOk E X0 RX12 cX12_findRoads 6 (zrm 3 0 0)) {K : Nat → Nat} {B : Int} {L : List Nat} {f : Nat → va_E} (hh : hok X0.2.2.1 K B L f) {v0 v1 v2 v3 v4 v5 : Int} {r0 : Nat} (hb0 : (-2147483648) ≤ v0 ∧ v0 ≤ 2147483647) (hb1 : (-2147483648) ≤ v1 ∧ v1 ≤ 2147483647) (hb2 : 0 ≤ v2 ∧ v2 ≤ 6) (hb3 : 0 ≤ v3 ∧ v3 ≤ 5) (hb4 : 0 ≤ v4 ∧ v4 ≤ 5) (hb5 : 0 ≤ v5 ∧ v5 ≤ 1) (hr0 : r0 ∈ L ∧ K r0 = 200) (k92 : ∀ (K' : Nat → Nat) (B' : Int) (L' : List Nat) (f' : Nat → va_E), hok X0.2.2.1 K' B' L' f' → extC [] K B L f K' B' L' f' → ((-2147483648) ≤ v0 ∧ v0 ≤ 2147483647) → ((-2147483648) ≤ v1 ∧ v1 ≤ 2147483647) → (0 ≤ v2 ∧ v2 ≤ 6) → (0 ≤ v3 ∧ v3 ≤ 5) → (0 ≤ v4 ∧ v4 ≤ 5) → (1 ≤ v5 ∧ v5 ≤ 1) → (r0 ∈ L' ∧ K' r0 = 200) → eW E 0 0 L' f' 92 [(0, .ref r0), (1, .int (Int32.ofInt v0)), (2, .int (Int32.ofInt v1)), (3, .int (Int32.ofInt v2)), (4, .int (Int32.ofInt v3)), (5, .int (Int32.ofInt v4))] [.int (Int32.ofInt v1), .int (Int32.ofInt v4), .ref r0]) (k133 : ∀ (K' : Nat → Nat) (B' : Int) (L' : List Nat) (f' : Nat → va_E), hok X0.2.2.1 K' B' L' f' → extC [] K B L f K' B' L' f' → ((-2147483648) ≤ v0 ∧ v0 ≤ 2147483647) → ((-2147483648) ≤ v1 ∧ v1 ≤ 2147483647) → (0 ≤ v2 ∧ v2 ≤ 6) → (0 ≤ v3 ∧ v3 ≤ 5) → (0 ≤ v4 ∧ v4 ≤ 5) → (0 ≤ v5 ∧ v5 ≤ 0) → (r0 ∈ L' ∧ K' r0 = 200) → eW E 0 0 L' f' 133 [(0, .ref r0), (1, .int (Int32.ofInt v0)), (2, .int (Int32.ofInt v1)), (3, .int (Int32.ofInt v2)), (4, .int (Int32.ofInt v3)), (5, .int (Int32.ofInt v4))] []) : eW E 0 0 L f 85 [(0, .ref r0), (1, .int (Int32.ofInt v0)), (2, .int (Int32.ofInt v1)), (3, .int (Int32.ofInt v2)), (4, .int (Int32.ofInt v3)), (5, .int (Int32.ofInt v4))] [.int (Int32.ofInt v5)] := by
  obtain ⟨l0, D0, cy0, ax0⟩ := X0
  have hraw : eW E 0 0 L f 85 [(0, .ref r0), (1, .int (Int32.ofInt (0 + (1 * v0 + 0)))), (2, .int (Int32.ofInt (0 + (1 * v1 + 0)))), (3, .int (Int32.ofInt (0 + (1 * v2 + 0)))), (4, .int (Int32.ofInt (0 + (1 * v3 + 0)))), (5, .int (Int32.ofInt (0 + (1 * v4 + 0))))] [.int (Int32.ofInt (0 + (1 * v5 + 0)))] := ?_
  · simpa only [Int.zero_add, Int.one_mul, Int.add_zero] using hraw
  refine seg_ok (D := D_fr85) (νi := fun i => [v0, v1, v2, v3, v4, v5].getD i 0) (μi := fun i => [r0].getD i 0) k_fr85 hE (mk_ok (ins := iX12_findRoads) jX12_findRoads fX12_ok lX12_ok kX12_ok kkX12_ok H) (by decide) rfl rfl rfl rfl hh ?_ ?_
  · refine ⟨(eok_of (fun i q hq => ?_) (fun i hi => ?_)), fa0, fa0, ?_, fa0, fa0, fa0⟩
    · match i, hq with
      | 0, hq => cases hq; exact hb0
      | 1, hq => cases hq; exact hb1
      | 2, hq => cases hq; exact hb2
      | 3, hq => cases hq; exact hb3
      | 4, hq => cases hq; exact hb4
      | 5, hq => cases hq; exact hb5
      | i + 6, hq => cases hq
    · match i, hi with
      | 0, hi => exact absurd hi (by decide)
      | 1, hi => exact absurd hi (by decide)
      | 2, hi => exact absurd hi (by decide)
      | 3, hi => exact absurd hi (by decide)
      | 4, hi => exact absurd hi (by decide)
      | 5, hi => exact absurd hi (by decide)
      | i + 6, _ => rfl
    · intro i k hk
      match i, hk with
      | 0, hk => cases hk; exact hr0
      | i + 1, hk => cases hk
  · intro q hq hst K' B' L' f' ν μ h1 h2 h3 h4 h5
    have e0 : ν 0 = v0 := h4 0 (by decide)
    have e1 : ν 1 = v1 := h4 1 (by decide)
    have e2 : ν 2 = v2 := h4 2 (by decide)
    have e3 : ν 3 = v3 := h4 3 (by decide)
    have e4 : ν 4 = v4 := h4 4 (by decide)
    have e5 : ν 5 = v5 := h4 5 (by decide)
    have d0 : μ 0 = r0 := h5 0 (by decide)
    subst e0
    subst e1
    subst e2
    subst e3
    subst e4
    subst e5
    subst d0
    replace hq : q ∈ u_fr85 := hq
    unfold u_fr85 at hq
    simp only [List.mem_cons, List.not_mem_nil, or_false] at hq
    rcases hq with rfl | rfl
    · have hst2 : eW E 0 0 L' f' 92 [(0, .ref (μ 0)), (1, .int (Int32.ofInt (0 + (1 * ν 0 + 0)))), (2, .int (Int32.ofInt (0 + (1 * ν 1 + 0)))), (3, .int (Int32.ofInt (0 + (1 * ν 2 + 0)))), (4, .int (Int32.ofInt (0 + (1 * ν 3 + 0)))), (5, .int (Int32.ofInt (0 + (1 * ν 4 + 0))))] [.int (Int32.ofInt (0 + (1 * ν 1 + 0))), .int (Int32.ofInt (0 + (1 * ν 4 + 0))), .ref (μ 0)] := ?_
      · exact hst2
      try simp only [Int.zero_add, Int.one_mul, Int.add_zero]
      exact k92 K' B' L' f'   h1 h2 (h3.1 0) (h3.1 1) (h3.1 2) (h3.1 3) (h3.1 4) (h3.1 5) (h3.2.2.2.1 0 200 rfl)
    · have hst2 : eW E 0 0 L' f' 133 [(0, .ref (μ 0)), (1, .int (Int32.ofInt (0 + (1 * ν 0 + 0)))), (2, .int (Int32.ofInt (0 + (1 * ν 1 + 0)))), (3, .int (Int32.ofInt (0 + (1 * ν 2 + 0)))), (4, .int (Int32.ofInt (0 + (1 * ν 3 + 0)))), (5, .int (Int32.ofInt (0 + (1 * ν 4 + 0))))] [] := ?_
      · exact hst2
      try simp only [Int.zero_add, Int.one_mul, Int.add_zero]
      exact k133 K' B' L' f'   h1 h2 (h3.1 0) (h3.1 1) (h3.1 2) (h3.1 3) (h3.1 4) (h3.1 5) (h3.2.2.2.1 0 200 rfl)

/-! fr95: from 95 to [98, 133] -/
def w_fr95 : TP := ([(0, (2, 0, (0, []))), (1, (0, 0, (0, [(1, 0)]))), (2, (0, 0, (0, [(1, 1)]))), (3, (0, 0, (0, [(1, 2)]))), (4, (0, 0, (0, [(1, 3)]))), (5, (0, 0, (0, [(1, 4)])))], [(0, 0, (0, [(1, 5)]))], ([((-2147483648), 2147483647), ((-2147483648), 2147483647), (0, 6), (0, 5), (0, 5), (0, 1)], [], [], [200], [], [], []), [], [])
def u_fr95 : List (Nat × TP × EX × Nat × Nat) := [(98, ([(0, (2, 0, (0, []))), (1, (0, 0, (0, [(1, 0)]))), (2, (0, 0, (0, [(1, 1)]))), (3, (0, 0, (0, [(1, 2)]))), (4, (0, 0, (0, [(1, 3)]))), (5, (0, 0, (0, [(1, 4)])))], [], ([((-2147483648), 2147483647), ((-2147483648), 2147483647), (0, 6), (0, 5), (0, 5), (1, 1)], [], [], [200], [], [], []), [], []), ((-1), []), 0, 0), (133, ([(0, (2, 0, (0, []))), (1, (0, 0, (0, [(1, 0)]))), (2, (0, 0, (0, [(1, 1)]))), (3, (0, 0, (0, [(1, 2)]))), (4, (0, 0, (0, [(1, 3)]))), (5, (0, 0, (0, [(1, 4)])))], [], ([((-2147483648), 2147483647), ((-2147483648), 2147483647), (0, 6), (0, 5), (0, 5), (0, 0)], [], [], [200], [], [], []), [], []), ((-1), []), 0, 0)]
def D_fr95 : DT := (mkD iX12_findRoads fX12 lX12 kX12 kkX12 342 [] (w_fr95, [], [], 3, 0, 0, 3) false 6 u_fr95)
theorem k_fr95 : chkS D_fr95 4000 0 0 95 = true := by decide +kernel
theorem s_fr95 {X0 : zC0} {E : zCx} (H : ∀ j, j < 342 → CMj X0 j) (hE : zOk E X0 RX12 cX12_findRoads 6 (zrm 3 0 0)) {K : Nat → Nat} {B : Int} {L : List Nat} {f : Nat → va_E} (hh : hok X0.2.2.1 K B L f) {v0 v1 v2 v3 v4 v5 : Int} {r0 : Nat} (hb0 : (-2147483648) ≤ v0 ∧ v0 ≤ 2147483647) (hb1 : (-2147483648) ≤ v1 ∧ v1 ≤ 2147483647) (hb2 : 0 ≤ v2 ∧ v2 ≤ 6) (hb3 : 0 ≤ v3 ∧ v3 ≤ 5) (hb4 : 0 ≤ v4 ∧ v4 ≤ 5) (hb5 : 0 ≤ v5 ∧ v5 ≤ 1) (hr0 : r0 ∈ L ∧ K r0 = 200) (k98 : ∀ (K' : Nat → Nat) (B' : Int) (L' : List Nat) (f' : Nat → va_E), hok X0.2.2.1 K' B' L' f' → extC [] K B L f K' B' L' f' → ((-2147483648) ≤ v0 ∧ v0 ≤ 2147483647) → ((-2147483648) ≤ v1 ∧ v1 ≤ 2147483647) → (0 ≤ v2 ∧ v2 ≤ 6) → (0 ≤ v3 ∧ v3 ≤ 5) → (0 ≤ v4 ∧ v4 ≤ 5) → (1 ≤ v5 ∧ v5 ≤ 1) → (r0 ∈ L' ∧ K' r0 = 200) → eW E 0 0 L' f' 98 [(0, .ref r0), (1, .int (Int32.ofInt v0)), (2, .int (Int32.ofInt v1)), (3, .int (Int32.ofInt v2)), (4, .int (Int32.ofInt v3)), (5, .int (Int32.ofInt v4))] []) (k133 : ∀ (K' : Nat → Nat) (B' : Int) (L' : List Nat) (f' : Nat → va_E), hok X0.2.2.1 K' B' L' f' → extC [] K B L f K' B' L' f' → ((-2147483648) ≤ v0 ∧ v0 ≤ 2147483647) → ((-2147483648) ≤ v1 ∧ v1 ≤ 2147483647) → (0 ≤ v2 ∧ v2 ≤ 6) → (0 ≤ v3 ∧ v3 ≤ 5) → (0 ≤ v4 ∧ v4 ≤ 5) → (0 ≤ v5 ∧ v5 ≤ 0) → (r0 ∈ L' ∧ K' r0 = 200) → eW E 0 0 L' f' 133 [(0, .ref r0), (1, .int (Int32.ofInt v0)), (2, .int (Int32.ofInt v1)), (3, .int (Int32.ofInt v2)), (4, .int (Int32.ofInt v3)), (5, .int (Int32.ofInt v4))] []) : eW E 0 0 L f 95 [(0, .ref r0), (1, .int (Int32.ofInt v0)), (2, .int (Int32.ofInt v1)), (3, .int (Int32.ofInt v2)), (4, .int (Int32.ofInt v3)), (5, .int (Int32.ofInt v4))] [.int (Int32.ofInt v5)] := by
  obtain ⟨l0, D0, cy0, ax0⟩ := X0
  have hraw : eW E 0 0 L f 95 [(0, .ref r0), (1, .int (Int32.ofInt (0 + (1 * v0 + 0)))), (2, .int (Int32.ofInt (0 + (1 * v1 + 0)))), (3, .int (Int32.ofInt (0 + (1 * v2 + 0)))), (4, .int (Int32.ofInt (0 + (1 * v3 + 0)))), (5, .int (Int32.ofInt (0 + (1 * v4 + 0))))] [.int (Int32.ofInt (0 + (1 * v5 + 0)))] := ?_
  · simpa only [Int.zero_add, Int.one_mul, Int.add_zero] using hraw
  refine seg_ok (D := D_fr95) (νi := fun i => [v0, v1, v2, v3, v4, v5].getD i 0) (μi := fun i => [r0].getD i 0) k_fr95 hE (mk_ok (ins := iX12_findRoads) jX12_findRoads fX12_ok lX12_ok kX12_ok kkX12_ok H) (by decide) rfl rfl rfl rfl hh ?_ ?_
  · refine ⟨(eok_of (fun i q hq => ?_) (fun i hi => ?_)), fa0, fa0, ?_, fa0, fa0, fa0⟩
    · match i, hq with
      | 0, hq => cases hq; exact hb0
      | 1, hq => cases hq; exact hb1
      | 2, hq => cases hq; exact hb2
      | 3, hq => cases hq; exact hb3
      | 4, hq => cases hq; exact hb4
      | 5, hq => cases hq; exact hb5
      | i + 6, hq => cases hq
    · match i, hi with
      | 0, hi => exact absurd hi (by decide)
      | 1, hi => exact absurd hi (by decide)
      | 2, hi => exact absurd hi (by decide)
      | 3, hi => exact absurd hi (by decide)
      | 4, hi => exact absurd hi (by decide)
      | 5, hi => exact absurd hi (by decide)
      | i + 6, _ => rfl
    · intro i k hk
      match i, hk with
      | 0, hk => cases hk; exact hr0
      | i + 1, hk => cases hk
  · intro q hq hst K' B' L' f' ν μ h1 h2 h3 h4 h5
    have e0 : ν 0 = v0 := h4 0 (by decide)
    have e1 : ν 1 = v1 := h4 1 (by decide)
    have e2 : ν 2 = v2 := h4 2 (by decide)
    have e3 : ν 3 = v3 := h4 3 (by decide)
    have e4 : ν 4 = v4 := h4 4 (by decide)
    have e5 : ν 5 = v5 := h4 5 (by decide)
    have d0 : μ 0 = r0 := h5 0 (by decide)
    subst e0
    subst e1
    subst e2
    subst e3
    subst e4
    subst e5
    subst d0
    replace hq : q ∈ u_fr95 := hq
    unfold u_fr95 at hq
    simp only [List.mem_cons, List.not_mem_nil, or_false] at hq
    rcases hq with rfl | rfl
    · have hst2 : eW E 0 0 L' f' 98 [(0, .ref (μ 0)), (1, .int (Int32.ofInt (0 + (1 * ν 0 + 0)))), (2, .int (Int32.ofInt (0 + (1 * ν 1 + 0)))), (3, .int (Int32.ofInt (0 + (1 * ν 2 + 0)))), (4, .int (Int32.ofInt (0 + (1 * ν 3 + 0)))), (5, .int (Int32.ofInt (0 + (1 * ν 4 + 0))))] [] := ?_
      · exact hst2
      try simp only [Int.zero_add, Int.one_mul, Int.add_zero]
      exact k98 K' B' L' f'   h1 h2 (h3.1 0) (h3.1 1) (h3.1 2) (h3.1 3) (h3.1 4) (h3.1 5) (h3.2.2.2.1 0 200 rfl)
    · have hst2 : eW E 0 0 L' f' 133 [(0, .ref (μ 0)), (1, .int (Int32.ofInt (0 + (1 * ν 0 + 0)))), (2, .int (Int32.ofInt (0 + (1 * ν 1 + 0)))), (3, .int (Int32.ofInt (0 + (1 * ν 2 + 0)))), (4, .int (Int32.ofInt (0 + (1 * ν 3 + 0)))), (5, .int (Int32.ofInt (0 + (1 * ν 4 + 0))))] [] := ?_
      · exact hst2
      try simp only [Int.zero_add, Int.one_mul, Int.add_zero]
      exact k133 K' B' L' f'   h1 h2 (h3.1 0) (h3.1 1) (h3.1 2) (h3.1 3) (h3.1 4) (h3.1 5) (h3.2.2.2.1 0 200 rfl)

/-! fr98: from 98 to [132, 133] -/
def w_fr98 : TP := ([(0, (2, 0, (0, []))), (1, (0, 0, (0, [(1, 0)]))), (2, (0, 0, (0, [(1, 1)]))), (3, (0, 0, (0, [(1, 2)]))), (4, (0, 0, (0, [(1, 3)]))), (5, (0, 0, (0, [(1, 4)])))], [], ([((-2147483648), 2147483647), ((-2147483648), 2147483647), (0, 6), (0, 5), (0, 5), (0, 1000000), (0, 1000000)], [], [], [200], [((226, (0, [(1, 4)])), (0, [(1, 5)])), ((226, (0, [(1, 3)])), (0, [(1, 6)]))], [], []), [], [])
def u_fr98 : List (Nat × TP × EX × Nat × Nat) := [(132, ([(0, (2, 0, (0, []))), (1, (0, 0, (0, [(1, 0)]))), (2, (0, 0, (0, [(1, 1)]))), (3, (0, 0, (0, [(1, 2)]))), (4, (0, 0, (0, [(1, 3)]))), (5, (0, 0, (0, [(1, 4)])))], [(0, 0, (1, [(1, 5)])), (0, 0, (0, [(1, 3)])), (2, 1, (0, []))], ([((-2147483648), 2147483647), ((-2147483648), 2147483647), (0, 6), (0, 5), (0, 5), (0, 999998), (2, 1000000)], [((-2), [((-1), 5), (1, 6)])], [], [200, 226], [((226, (0, [(1, 4)])), (0, [(1, 5)])), ((226, (0, [(1, 3)])), (0, [(1, 6)]))], [], []), [], [(1, 2)]), ((-1), []), 0, 0), (133, ([(0, (2, 0, (0, []))), (1, (0, 0, (0, [(1, 0)]))), (2, (0, 0, (0, [(1, 1)]))), (3, (0, 0, (0, [(1, 2)]))), (4, (0, 0, (0, [(1, 3)]))), (5, (0, 0, (0, [(1, 4)])))], [], ([((-2147483648), 2147483647), ((-2147483648), 2147483647), (0, 6), (0, 5), (0, 5), (0, 1000000), (0, 1000000)], [(1, [(1, 5), ((-1), 6)])], [], [200], [((226, (0, [(1, 4)])), (0, [(1, 5)])), ((226, (0, [(1, 3)])), (0, [(1, 6)]))], [], []), [], []), ((-1), []), 0, 0)]
def D_fr98 : DT := (mkD iX12_findRoads fX12 lX12 kX12 kkX12 342 [] (w_fr98, [], [], 3, 0, 0, 3) false 6 u_fr98)
theorem k_fr98 : chkS D_fr98 4000 0 0 98 = true := by decide +kernel
theorem s_fr98 {X0 : zC0} {E : zCx} (H : ∀ j, j < 342 → CMj X0 j) (hE : zOk E X0 RX12 cX12_findRoads 6 (zrm 3 0 0)) {K : Nat → Nat} {B : Int} {L : List Nat} {f : Nat → va_E} (hh : hok X0.2.2.1 K B L f) {v0 v1 v2 v3 v4 v5 v6 : Int} {r0 : Nat} (hb0 : (-2147483648) ≤ v0 ∧ v0 ≤ 2147483647) (hb1 : (-2147483648) ≤ v1 ∧ v1 ≤ 2147483647) (hb2 : 0 ≤ v2 ∧ v2 ≤ 6) (hb3 : 0 ≤ v3 ∧ v3 ≤ 5) (hb4 : 0 ≤ v4 ∧ v4 ≤ 5) (hb5 : 0 ≤ v5 ∧ v5 ≤ 1000000) (hb6 : 0 ≤ v6 ∧ v6 ≤ 1000000) (hr0 : r0 ∈ L ∧ K r0 = 200) (hm0 : (∀ b ∈ L, K b = 226 → (0 : Int) ≤ v4 ∧ gi (f b) ((v4 : Int)).toNat = v5)) (hm1 : (∀ b ∈ L, K b = 226 → (0 : Int) ≤ v3 ∧ gi (f b) ((v3 : Int)).toNat = v6)) (k132 : ∀ (K' : Nat → Nat) (B' : Int) (L' : List Nat) (f' : Nat → va_E) (r1 : Nat), hok X0.2.2.1 K' B' L' f' → extC [] K B L f K' B' L' f' → ((-2147483648) ≤ v0 ∧ v0 ≤ 2147483647) → ((-2147483648) ≤ v1 ∧ v1 ≤ 2147483647) → (0 ≤ v2 ∧ v2 ≤ 6) → (0 ≤ v3 ∧ v3 ≤ 5) → (0 ≤ v4 ∧ v4 ≤ 5) → (0 ≤ v5 ∧ v5 ≤ 999998) → (2 ≤ v6 ∧ v6 ≤ 1000000) → (0 ≤ ((-2) + ((-1) * v5 + v6))) → (r0 ∈ L' ∧ K' r0 = 200) → (r1 ∈ L' ∧ K' r1 = 226) → (∀ b ∈ L', K' b = 226 → (0 : Int) ≤ v4 ∧ gi (f' b) ((v4 : Int)).toNat = v5) → (∀ b ∈ L', K' b = 226 → (0 : Int) ≤ v3 ∧ gi (f' b) ((v3 : Int)).toNat = v6) → eW E 0 0 L' f' 132 [(0, .ref r0), (1, .int (Int32.ofInt v0)), (2, .int (Int32.ofInt v1)), (3, .int (Int32.ofInt v2)), (4, .int (Int32.ofInt v3)), (5, .int (Int32.ofInt v4))] [.int (Int32.ofInt (1 + v5)), .int (Int32.ofInt v3), .ref r1]) (k133 : ∀ (K' : Nat → Nat) (B' : Int) (L' : List Nat) (f' : Nat → va_E), hok X0.2.2.1 K' B' L' f' → extC [] K B L f K' B' L' f' → ((-2147483648) ≤ v0 ∧ v0 ≤ 2147483647) → ((-2147483648) ≤ v1 ∧ v1 ≤ 2147483647) → (0 ≤ v2 ∧ v2 ≤ 6) → (0 ≤ v3 ∧ v3 ≤ 5) → (0 ≤ v4 ∧ v4 ≤ 5) → (0 ≤ v5 ∧ v5 ≤ 1000000) → (0 ≤ v6 ∧ v6 ≤ 1000000) → (0 ≤ (1 + (v5 + ((-1) * v6)))) → (r0 ∈ L' ∧ K' r0 = 200) → (∀ b ∈ L', K' b = 226 → (0 : Int) ≤ v4 ∧ gi (f' b) ((v4 : Int)).toNat = v5) → (∀ b ∈ L', K' b = 226 → (0 : Int) ≤ v3 ∧ gi (f' b) ((v3 : Int)).toNat = v6) → eW E 0 0 L' f' 133 [(0, .ref r0), (1, .int (Int32.ofInt v0)), (2, .int (Int32.ofInt v1)), (3, .int (Int32.ofInt v2)), (4, .int (Int32.ofInt v3)), (5, .int (Int32.ofInt v4))] []) : eW E 0 0 L f 98 [(0, .ref r0), (1, .int (Int32.ofInt v0)), (2, .int (Int32.ofInt v1)), (3, .int (Int32.ofInt v2)), (4, .int (Int32.ofInt v3)), (5, .int (Int32.ofInt v4))] [] := by
  obtain ⟨l0, D0, cy0, ax0⟩ := X0
  have hraw : eW E 0 0 L f 98 [(0, .ref r0), (1, .int (Int32.ofInt (0 + (1 * v0 + 0)))), (2, .int (Int32.ofInt (0 + (1 * v1 + 0)))), (3, .int (Int32.ofInt (0 + (1 * v2 + 0)))), (4, .int (Int32.ofInt (0 + (1 * v3 + 0)))), (5, .int (Int32.ofInt (0 + (1 * v4 + 0))))] [] := ?_
  · simpa only [Int.zero_add, Int.one_mul, Int.add_zero] using hraw
  have rm0 : (∀ b ∈ L, K b = 226 → (0 : Int) ≤ (0 + (1 * v4 + 0)) ∧ gi (f b) (((0 + (1 * v4 + 0)) : Int)).toNat = (0 + (1 * v5 + 0))) := by simpa only [Int.zero_add, Int.one_mul, Int.add_zero] using hm0
  have rm1 : (∀ b ∈ L, K b = 226 → (0 : Int) ≤ (0 + (1 * v3 + 0)) ∧ gi (f b) (((0 + (1 * v3 + 0)) : Int)).toNat = (0 + (1 * v6 + 0))) := by simpa only [Int.zero_add, Int.one_mul, Int.add_zero] using hm1
  refine seg_ok (D := D_fr98) (νi := fun i => [v0, v1, v2, v3, v4, v5, v6].getD i 0) (μi := fun i => [r0].getD i 0) k_fr98 hE (mk_ok (ins := iX12_findRoads) jX12_findRoads fX12_ok lX12_ok kX12_ok kkX12_ok H) (by decide) rfl rfl rfl rfl hh ?_ ?_
  · refine ⟨(eok_of (fun i q hq => ?_) (fun i hi => ?_)), fa0, fa0, ?_, (fa_cons (Amok hh (show (zkd 226).1 = 2 by decide) (by decide) rm0) (fa_cons (Amok hh (show (zkd 226).1 = 2 by decide) (by decide) rm1) fa0)), fa0, fa0⟩
    · match i, hq with
      | 0, hq => cases hq; exact hb0
      | 1, hq => cases hq; exact hb1
      | 2, hq => cases hq; exact hb2
      | 3, hq => cases hq; exact hb3
      | 4, hq => cases hq; exact hb4
      | 5, hq => cases hq; exact hb5
      | 6, hq => cases hq; exact hb6
      | i + 7, hq => cases hq
    · match i, hi with
      | 0, hi => exact absurd hi (by decide)
      | 1, hi => exact absurd hi (by decide)
      | 2, hi => exact absurd hi (by decide)
      | 3, hi => exact absurd hi (by decide)
      | 4, hi => exact absurd hi (by decide)
      | 5, hi => exact absurd hi (by decide)
      | 6, hi => exact absurd hi (by decide)
      | i + 7, _ => rfl
    · intro i k hk
      match i, hk with
      | 0, hk => cases hk; exact hr0
      | i + 1, hk => cases hk
  · intro q hq hst K' B' L' f' ν μ h1 h2 h3 h4 h5
    have e0 : ν 0 = v0 := h4 0 (by decide)
    have e1 : ν 1 = v1 := h4 1 (by decide)
    have e2 : ν 2 = v2 := h4 2 (by decide)
    have e3 : ν 3 = v3 := h4 3 (by decide)
    have e4 : ν 4 = v4 := h4 4 (by decide)
    have e5 : ν 5 = v5 := h4 5 (by decide)
    have e6 : ν 6 = v6 := h4 6 (by decide)
    have d0 : μ 0 = r0 := h5 0 (by decide)
    subst e0
    subst e1
    subst e2
    subst e3
    subst e4
    subst e5
    subst e6
    subst d0
    replace hq : q ∈ u_fr98 := hq
    unfold u_fr98 at hq
    simp only [List.mem_cons, List.not_mem_nil, or_false] at hq
    rcases hq with rfl | rfl
    · have hst2 : eW E 0 0 L' f' 132 [(0, .ref (μ 0)), (1, .int (Int32.ofInt (0 + (1 * ν 0 + 0)))), (2, .int (Int32.ofInt (0 + (1 * ν 1 + 0)))), (3, .int (Int32.ofInt (0 + (1 * ν 2 + 0)))), (4, .int (Int32.ofInt (0 + (1 * ν 3 + 0)))), (5, .int (Int32.ofInt (0 + (1 * ν 4 + 0))))] [.int (Int32.ofInt (1 + (1 * ν 5 + 0))), .int (Int32.ofInt (0 + (1 * ν 3 + 0))), .ref (μ 1)] := ?_
      · exact hst2
      try simp only [Int.zero_add, Int.one_mul, Int.add_zero]
      exact k132 K' B' L' f'  (μ 1) h1 h2 (h3.1 0) (h3.1 1) (h3.1 2) (h3.1 3) (h3.1 4) (h3.1 5) (h3.1 6) (by simpa only [xv, xvT, Int.zero_add, Int.one_mul, Int.add_zero] using (h3.2.1 _ (List.mem_of_getElem? (i := 0) rfl))) (h3.2.2.2.1 0 200 rfl) (h3.2.2.2.1 1 226 rfl) (by simpa only [xv, xvT, Int.zero_add, Int.one_mul, Int.add_zero] using (mokA h1 (show (zkd 226).1 = 2 by decide) (by decide) (h3.2.2.2.2.1 _ (List.mem_of_getElem? (i := 0) rfl)))) (by simpa only [xv, xvT, Int.zero_add, Int.one_mul, Int.add_zero] using (mokA h1 (show (zkd 226).1 = 2 by decide) (by decide) (h3.2.2.2.2.1 _ (List.mem_of_getElem? (i := 1) rfl))))
    · have hst2 : eW E 0 0 L' f' 133 [(0, .ref (μ 0)), (1, .int (Int32.ofInt (0 + (1 * ν 0 + 0)))), (2, .int (Int32.ofInt (0 + (1 * ν 1 + 0)))), (3, .int (Int32.ofInt (0 + (1 * ν 2 + 0)))), (4, .int (Int32.ofInt (0 + (1 * ν 3 + 0)))), (5, .int (Int32.ofInt (0 + (1 * ν 4 + 0))))] [] := ?_
      · exact hst2
      try simp only [Int.zero_add, Int.one_mul, Int.add_zero]
      exact k133 K' B' L' f'   h1 h2 (h3.1 0) (h3.1 1) (h3.1 2) (h3.1 3) (h3.1 4) (h3.1 5) (h3.1 6) (by simpa only [xv, xvT, Int.zero_add, Int.one_mul, Int.add_zero] using (h3.2.1 _ (List.mem_of_getElem? (i := 0) rfl))) (h3.2.2.2.1 0 200 rfl) (by simpa only [xv, xvT, Int.zero_add, Int.one_mul, Int.add_zero] using (mokA h1 (show (zkd 226).1 = 2 by decide) (by decide) (h3.2.2.2.2.1 _ (List.mem_of_getElem? (i := 0) rfl)))) (by simpa only [xv, xvT, Int.zero_add, Int.one_mul, Int.add_zero] using (mokA h1 (show (zkd 226).1 = 2 by decide) (by decide) (h3.2.2.2.2.1 _ (List.mem_of_getElem? (i := 1) rfl))))

/-! fr133: from 133 to [61] -/
def w_fr133 : TP := ([(0, (2, 0, (0, []))), (1, (0, 0, (0, [(1, 0)]))), (2, (0, 0, (0, [(1, 1)]))), (3, (0, 0, (0, [(1, 2)]))), (4, (0, 0, (0, [(1, 3)]))), (5, (0, 0, (0, [(1, 4)])))], [], ([((-2147483648), 2147483647), ((-2147483648), 2147483647), (0, 6), (0, 5), (0, 5)], [], [], [200], [], [], []), [], [])
def u_fr133 : List (Nat × TP × EX × Nat × Nat) := [(61, ([(0, (2, 0, (0, []))), (1, (0, 0, (0, [(1, 0)]))), (2, (0, 0, (0, [(1, 1)]))), (3, (0, 0, (0, [(1, 2)]))), (4, (0, 0, (0, [(1, 3)]))), (5, (0, 0, (1, [(1, 4)])))], [], ([((-2147483648), 2147483647), ((-2147483648), 2147483647), (0, 6), (0, 5), (0, 5)], [], [], [200], [], [], []), [], []), ((-1), []), 0, 0)]
def D_fr133 : DT := (mkD iX12_findRoads fX12 lX12 kX12 kkX12 342 [] (w_fr133, [], [], 3, 0, 0, 3) false 6 u_fr133)
theorem k_fr133 : chkS D_fr133 4000 0 0 133 = true := by decide +kernel
theorem s_fr133 {X0 : zC0} {E : zCx} (H : ∀ j, j < 342 → CMj X0 j) (hE : zOk E X0 RX12 cX12_findRoads 6 (zrm 3 0 0)) {K : Nat → Nat} {B : Int} {L : List Nat} {f : Nat → va_E} (hh : hok X0.2.2.1 K B L f) {v0 v1 v2 v3 v4 : Int} {r0 : Nat} (hb0 : (-2147483648) ≤ v0 ∧ v0 ≤ 2147483647) (hb1 : (-2147483648) ≤ v1 ∧ v1 ≤ 2147483647) (hb2 : 0 ≤ v2 ∧ v2 ≤ 6) (hb3 : 0 ≤ v3 ∧ v3 ≤ 5) (hb4 : 0 ≤ v4 ∧ v4 ≤ 5) (hr0 : r0 ∈ L ∧ K r0 = 200) (k61 : ∀ (K' : Nat → Nat) (B' : Int) (L' : List Nat) (f' : Nat → va_E), hok X0.2.2.1 K' B' L' f' → extC [] K B L f K' B' L' f' → ((-2147483648) ≤ v0 ∧ v0 ≤ 2147483647) → ((-2147483648) ≤ v1 ∧ v1 ≤ 2147483647) → (0 ≤ v2 ∧ v2 ≤ 6) → (0 ≤ v3 ∧ v3 ≤ 5) → (0 ≤ v4 ∧ v4 ≤ 5) → (r0 ∈ L' ∧ K' r0 = 200) → eW E 0 0 L' f' 61 [(0, .ref r0), (1, .int (Int32.ofInt v0)), (2, .int (Int32.ofInt v1)), (3, .int (Int32.ofInt v2)), (4, .int (Int32.ofInt v3)), (5, .int (Int32.ofInt (1 + v4)))] []) : eW E 0 0 L f 133 [(0, .ref r0), (1, .int (Int32.ofInt v0)), (2, .int (Int32.ofInt v1)), (3, .int (Int32.ofInt v2)), (4, .int (Int32.ofInt v3)), (5, .int (Int32.ofInt v4))] [] := by
  obtain ⟨l0, D0, cy0, ax0⟩ := X0
  have hraw : eW E 0 0 L f 133 [(0, .ref r0), (1, .int (Int32.ofInt (0 + (1 * v0 + 0)))), (2, .int (Int32.ofInt (0 + (1 * v1 + 0)))), (3, .int (Int32.ofInt (0 + (1 * v2 + 0)))), (4, .int (Int32.ofInt (0 + (1 * v3 + 0)))), (5, .int (Int32.ofInt (0 + (1 * v4 + 0))))] [] := ?_
  · simpa only [Int.zero_add, Int.one_mul, Int.add_zero] using hraw
  refine seg_ok (D := D_fr133) (νi := fun i => [v0, v1, v2, v3, v4].getD i 0) (μi := fun i => [r0].getD i 0) k_fr133 hE (mk_ok (ins := iX12_findRoads) jX12_findRoads fX12_ok lX12_ok kX12_ok kkX12_ok H) (by decide) rfl rfl rfl rfl hh ?_ ?_
  · refine ⟨(eok_of (fun i q hq => ?_) (fun i hi => ?_)), fa0, fa0, ?_, fa0, fa0, fa0⟩
    · match i, hq with
      | 0, hq => cases hq; exact hb0
      | 1, hq => cases hq; exact hb1
      | 2, hq => cases hq; exact hb2
      | 3, hq => cases hq; exact hb3
      | 4, hq => cases hq; exact hb4
      | i + 5, hq => cases hq
    · match i, hi with
      | 0, hi => exact absurd hi (by decide)
      | 1, hi => exact absurd hi (by decide)
      | 2, hi => exact absurd hi (by decide)
      | 3, hi => exact absurd hi (by decide)
      | 4, hi => exact absurd hi (by decide)
      | i + 5, _ => rfl
    · intro i k hk
      match i, hk with
      | 0, hk => cases hk; exact hr0
      | i + 1, hk => cases hk
  · intro q hq hst K' B' L' f' ν μ h1 h2 h3 h4 h5
    have e0 : ν 0 = v0 := h4 0 (by decide)
    have e1 : ν 1 = v1 := h4 1 (by decide)
    have e2 : ν 2 = v2 := h4 2 (by decide)
    have e3 : ν 3 = v3 := h4 3 (by decide)
    have e4 : ν 4 = v4 := h4 4 (by decide)
    have d0 : μ 0 = r0 := h5 0 (by decide)
    subst e0
    subst e1
    subst e2
    subst e3
    subst e4
    subst d0
    replace hq : q ∈ u_fr133 := hq
    unfold u_fr133 at hq
    simp only [List.mem_cons, List.not_mem_nil, or_false] at hq
    rcases hq with rfl
    · have hst2 : eW E 0 0 L' f' 61 [(0, .ref (μ 0)), (1, .int (Int32.ofInt (0 + (1 * ν 0 + 0)))), (2, .int (Int32.ofInt (0 + (1 * ν 1 + 0)))), (3, .int (Int32.ofInt (0 + (1 * ν 2 + 0)))), (4, .int (Int32.ofInt (0 + (1 * ν 3 + 0)))), (5, .int (Int32.ofInt (1 + (1 * ν 4 + 0))))] [] := ?_
      · exact hst2
      try simp only [Int.zero_add, Int.one_mul, Int.add_zero]
      exact k61 K' B' L' f'   h1 h2 (h3.1 0) (h3.1 1) (h3.1 2) (h3.1 3) (h3.1 4) (h3.2.2.2.1 0 200 rfl)

/-! fr139: from 139 to [47] -/
def w_fr139 : TP := ([(0, (2, 0, (0, []))), (1, (0, 0, (0, [(1, 0)]))), (2, (0, 0, (0, [(1, 1)]))), (3, (0, 0, (0, [(1, 2)]))), (4, (0, 0, (0, [(1, 3)]))), (5, (0, 0, (0, [(1, 4)])))], [], ([((-2147483648), 2147483647), ((-2147483648), 2147483647), (0, 6), (0, 5), (0, 5)], [], [], [200], [], [], []), [], [])
def u_fr139 : List (Nat × TP × EX × Nat × Nat) := [(47, ([(0, (2, 0, (0, []))), (1, (0, 0, (0, [(1, 0)]))), (2, (0, 0, (0, [(1, 1)]))), (3, (0, 0, (0, [(1, 2)]))), (4, (0, 0, (1, [(1, 3)]))), (5, (0, 0, (0, [(1, 4)])))], [], ([((-2147483648), 2147483647), ((-2147483648), 2147483647), (0, 6), (0, 5), (0, 5)], [], [], [200], [], [], []), [], []), ((-1), []), 0, 0)]
def D_fr139 : DT := (mkD iX12_findRoads fX12 lX12 kX12 kkX12 342 [] (w_fr139, [], [], 3, 0, 0, 3) false 6 u_fr139)
theorem k_fr139 : chkS D_fr139 4000 0 0 139 = true := by decide +kernel
theorem s_fr139 {X0 : zC0} {E : zCx} (H : ∀ j, j < 342 → CMj X0 j) (hE : zOk E X0 RX12 cX12_findRoads 6 (zrm 3 0 0)) {K : Nat → Nat} {B : Int} {L : List Nat} {f : Nat → va_E} (hh : hok X0.2.2.1 K B L f) {v0 v1 v2 v3 v4 : Int} {r0 : Nat} (hb0 : (-2147483648) ≤ v0 ∧ v0 ≤ 2147483647) (hb1 : (-2147483648) ≤ v1 ∧ v1 ≤ 2147483647) (hb2 : 0 ≤ v2 ∧ v2 ≤ 6) (hb3 : 0 ≤ v3 ∧ v3 ≤ 5) (hb4 : 0 ≤ v4 ∧ v4 ≤ 5) (hr0 : r0 ∈ L ∧ K r0 = 200) (k47 : ∀ (K' : Nat → Nat) (B' : Int) (L' : List Nat) (f' : Nat → va_E), hok X0.2.2.1 K' B' L' f' → extC [] K B L f K' B' L' f' → ((-2147483648) ≤ v0 ∧ v0 ≤ 2147483647) → ((-2147483648) ≤ v1 ∧ v1 ≤ 2147483647) → (0 ≤ v2 ∧ v2 ≤ 6) → (0 ≤ v3 ∧ v3 ≤ 5) → (0 ≤ v4 ∧ v4 ≤ 5) → (r0 ∈ L' ∧ K' r0 = 200) → eW E 0 0 L' f' 47 [(0, .ref r0), (1, .int (Int32.ofInt v0)), (2, .int (Int32.ofInt v1)), (3, .int (Int32.ofInt v2)), (4, .int (Int32.ofInt (1 + v3))), (5, .int (Int32.ofInt v4))] []) : eW E 0 0 L f 139 [(0, .ref r0), (1, .int (Int32.ofInt v0)), (2, .int (Int32.ofInt v1)), (3, .int (Int32.ofInt v2)), (4, .int (Int32.ofInt v3)), (5, .int (Int32.ofInt v4))] [] := by
  obtain ⟨l0, D0, cy0, ax0⟩ := X0
  have hraw : eW E 0 0 L f 139 [(0, .ref r0), (1, .int (Int32.ofInt (0 + (1 * v0 + 0)))), (2, .int (Int32.ofInt (0 + (1 * v1 + 0)))), (3, .int (Int32.ofInt (0 + (1 * v2 + 0)))), (4, .int (Int32.ofInt (0 + (1 * v3 + 0)))), (5, .int (Int32.ofInt (0 + (1 * v4 + 0))))] [] := ?_
  · simpa only [Int.zero_add, Int.one_mul, Int.add_zero] using hraw
  refine seg_ok (D := D_fr139) (νi := fun i => [v0, v1, v2, v3, v4].getD i 0) (μi := fun i => [r0].getD i 0) k_fr139 hE (mk_ok (ins := iX12_findRoads) jX12_findRoads fX12_ok lX12_ok kX12_ok kkX12_ok H) (by decide) rfl rfl rfl rfl hh ?_ ?_
  · refine ⟨(eok_of (fun i q hq => ?_) (fun i hi => ?_)), fa0, fa0, ?_, fa0, fa0, fa0⟩
    · match i, hq with
      | 0, hq => cases hq; exact hb0
      | 1, hq => cases hq; exact hb1
      | 2, hq => cases hq; exact hb2
      | 3, hq => cases hq; exact hb3
      | 4, hq => cases hq; exact hb4
      | i + 5, hq => cases hq
    · match i, hi with
      | 0, hi => exact absurd hi (by decide)
      | 1, hi => exact absurd hi (by decide)
      | 2, hi => exact absurd hi (by decide)
      | 3, hi => exact absurd hi (by decide)
      | 4, hi => exact absurd hi (by decide)
      | i + 5, _ => rfl
    · intro i k hk
      match i, hk with
      | 0, hk => cases hk; exact hr0
      | i + 1, hk => cases hk
  · intro q hq hst K' B' L' f' ν μ h1 h2 h3 h4 h5
    have e0 : ν 0 = v0 := h4 0 (by decide)
    have e1 : ν 1 = v1 := h4 1 (by decide)
    have e2 : ν 2 = v2 := h4 2 (by decide)
    have e3 : ν 3 = v3 := h4 3 (by decide)
    have e4 : ν 4 = v4 := h4 4 (by decide)
    have d0 : μ 0 = r0 := h5 0 (by decide)
    subst e0
    subst e1
    subst e2
    subst e3
    subst e4
    subst d0
    replace hq : q ∈ u_fr139 := hq
    unfold u_fr139 at hq
    simp only [List.mem_cons, List.not_mem_nil, or_false] at hq
    rcases hq with rfl
    · have hst2 : eW E 0 0 L' f' 47 [(0, .ref (μ 0)), (1, .int (Int32.ofInt (0 + (1 * ν 0 + 0)))), (2, .int (Int32.ofInt (0 + (1 * ν 1 + 0)))), (3, .int (Int32.ofInt (0 + (1 * ν 2 + 0)))), (4, .int (Int32.ofInt (1 + (1 * ν 3 + 0)))), (5, .int (Int32.ofInt (0 + (1 * ν 4 + 0))))] [] := ?_
      · exact hst2
      try simp only [Int.zero_add, Int.one_mul, Int.add_zero]
      exact k47 K' B' L' f'   h1 h2 (h3.1 0) (h3.1 1) (h3.1 2) (h3.1 3) (h3.1 4) (h3.2.2.2.1 0 200 rfl)

/-! fr145: from 145 to [34] -/
def w_fr145 : TP := ([(0, (2, 0, (0, []))), (1, (0, 0, (0, [(1, 0)]))), (2, (0, 0, (0, [(1, 1)]))), (3, (0, 0, (0, [(1, 2)]))), (4, (0, 0, (0, [(1, 3)]))), (5, (0, 0, (0, [(1, 4)])))], [], ([((-2147483648), 2147483647), ((-2147483648), 2147483647), (0, 6), (0, 5), (0, 6)], [], [], [200], [], [], []), [], [])
def u_fr145 : List (Nat × TP × EX × Nat × Nat) := [(34, ([(0, (2, 0, (0, []))), (1, (0, 0, (0, [(1, 0)]))), (2, (0, 0, (0, [(1, 1)]))), (3, (0, 0, (1, [(1, 2)]))), (4, (0, 0, (0, [(1, 3)]))), (5, (0, 0, (0, [(1, 4)])))], [], ([((-2147483648), 2147483647), ((-2147483648), 2147483647), (0, 6), (0, 5), (0, 6)], [], [], [200], [], [], []), [], []), ((-1), []), 0, 0)]
def D_fr145 : DT := (mkD iX12_findRoads fX12 lX12 kX12 kkX12 342 [] (w_fr145, [], [], 3, 0, 0, 3) false 6 u_fr145)
theorem k_fr145 : chkS D_fr145 4000 0 0 145 = true := by decide +kernel
theorem s_fr145 {X0 : zC0} {E : zCx} (H : ∀ j, j < 342 → CMj X0 j) (hE : zOk E X0 RX12 cX12_findRoads 6 (zrm 3 0 0)) {K : Nat → Nat} {B : Int} {L : List Nat} {f : Nat → va_E} (hh : hok X0.2.2.1 K B L f) {v0 v1 v2 v3 v4 : Int} {r0 : Nat} (hb0 : (-2147483648) ≤ v0 ∧ v0 ≤ 2147483647) (hb1 : (-2147483648) ≤ v1 ∧ v1 ≤ 2147483647) (hb2 : 0 ≤ v2 ∧ v2 ≤ 6) (hb3 : 0 ≤ v3 ∧ v3 ≤ 5) (hb4 : 0 ≤ v4 ∧ v4 ≤ 6) (hr0 : r0 ∈ L ∧ K r0 = 200) (k34 : ∀ (K' : Nat → Nat) (B' : Int) (L' : List Nat) (f' : Nat → va_E), hok X0.2.2.1 K' B' L' f' → extC [] K B L f K' B' L' f' → ((-2147483648) ≤ v0 ∧ v0 ≤ 2147483647) → ((-2147483648) ≤ v1 ∧ v1 ≤ 2147483647) → (0 ≤ v2 ∧ v2 ≤ 6) → (0 ≤ v3 ∧ v3 ≤ 5) → (0 ≤ v4 ∧ v4 ≤ 6) → (r0 ∈ L' ∧ K' r0 = 200) → eW E 0 0 L' f' 34 [(0, .ref r0), (1, .int (Int32.ofInt v0)), (2, .int (Int32.ofInt v1)), (3, .int (Int32.ofInt (1 + v2))), (4, .int (Int32.ofInt v3)), (5, .int (Int32.ofInt v4))] []) : eW E 0 0 L f 145 [(0, .ref r0), (1, .int (Int32.ofInt v0)), (2, .int (Int32.ofInt v1)), (3, .int (Int32.ofInt v2)), (4, .int (Int32.ofInt v3)), (5, .int (Int32.ofInt v4))] [] := by
  obtain ⟨l0, D0, cy0, ax0⟩ := X0
  have hraw : eW E 0 0 L f 145 [(0, .ref r0), (1, .int (Int32.ofInt (0 + (1 * v0 + 0)))), (2, .int (Int32.ofInt (0 + (1 * v1 + 0)))), (3, .int (Int32.ofInt (0 + (1 * v2 + 0)))), (4, .int (Int32.ofInt (0 + (1 * v3 + 0)))), (5, .int (Int32.ofInt (0 + (1 * v4 + 0))))] [] := ?_
  · simpa only [Int.zero_add, Int.one_mul, Int.add_zero] using hraw
  refine seg_ok (D := D_fr145) (νi := fun i => [v0, v1, v2, v3, v4].getD i 0) (μi := fun i => [r0].getD i 0) k_fr145 hE (mk_ok (ins := iX12_findRoads) jX12_findRoads fX12_ok lX12_ok kX12_ok kkX12_ok H) (by decide) rfl rfl rfl rfl hh ?_ ?_
  · refine ⟨(eok_of (fun i q hq => ?_) (fun i hi => ?_)), fa0, fa0, ?_, fa0, fa0, fa0⟩
    · match i, hq with
      | 0, hq => cases hq; exact hb0
      | 1, hq => cases hq; exact hb1
      | 2, hq => cases hq; exact hb2
      | 3, hq => cases hq; exact hb3
      | 4, hq => cases hq; exact hb4
      | i + 5, hq => cases hq
    · match i, hi with
      | 0, hi => exact absurd hi (by decide)
      | 1, hi => exact absurd hi (by decide)
      | 2, hi => exact absurd hi (by decide)
      | 3, hi => exact absurd hi (by decide)
      | 4, hi => exact absurd hi (by decide)
      | i + 5, _ => rfl
    · intro i k hk
      match i, hk with
      | 0, hk => cases hk; exact hr0
      | i + 1, hk => cases hk
  · intro q hq hst K' B' L' f' ν μ h1 h2 h3 h4 h5
    have e0 : ν 0 = v0 := h4 0 (by decide)
    have e1 : ν 1 = v1 := h4 1 (by decide)
    have e2 : ν 2 = v2 := h4 2 (by decide)
    have e3 : ν 3 = v3 := h4 3 (by decide)
    have e4 : ν 4 = v4 := h4 4 (by decide)
    have d0 : μ 0 = r0 := h5 0 (by decide)
    subst e0
    subst e1
    subst e2
    subst e3
    subst e4
    subst d0
    replace hq : q ∈ u_fr145 := hq
    unfold u_fr145 at hq
    simp only [List.mem_cons, List.not_mem_nil, or_false] at hq
    rcases hq with rfl
    · have hst2 : eW E 0 0 L' f' 34 [(0, .ref (μ 0)), (1, .int (Int32.ofInt (0 + (1 * ν 0 + 0)))), (2, .int (Int32.ofInt (0 + (1 * ν 1 + 0)))), (3, .int (Int32.ofInt (1 + (1 * ν 2 + 0)))), (4, .int (Int32.ofInt (0 + (1 * ν 3 + 0)))), (5, .int (Int32.ofInt (0 + (1 * ν 4 + 0))))] [] := ?_
      · exact hst2
      try simp only [Int.zero_add, Int.one_mul, Int.add_zero]
      exact k34 K' B' L' f'   h1 h2 (h3.1 0) (h3.1 1) (h3.1 2) (h3.1 3) (h3.1 4) (h3.2.2.2.1 0 200 rfl)

/-! nf0: from 0 to [2] -/
def w_nf0 : TP := ([(0, (2, 0, (0, []))), (1, (0, 0, (0, [(1, 0)]))), (2, (0, 0, (0, [(1, 1)])))], [], ([(0, 5), ((-2147483648), 2147483647)], [], [], [200], [], [], []), [], [])
def u_nf0 : List (Nat × TP × EX × Nat × Nat) := [(2, ([(0, (2, 0, (0, []))), (1, (0, 0, (0, [(1, 0)]))), (2, (0, 0, (0, [(1, 1)]))), (3, (0, 0, (0, [])))], [], ([(0, 5), ((-2147483648), 2147483647)], [], [], [200], [], [], []), [], []), ((-1), []), 0, 0)]
def D_nf0 : DT := (mkD iX12_nextField fX12 lX12 kX12 kkX12 342 [] (w_nf0, [], [], 3, 0, 0, 3) false 4 u_nf0)
theorem k_nf0 : chkS D_nf0 4000 0 0 0 = true := by decide +kernel
theorem s_nf0 {X0 : zC0} {E : zCx} (H : ∀ j, j < 342 → CMj X0 j) (hE : zOk E X0 RX12 cX12_nextField 4 (zrm 3 0 0)) {K : Nat → Nat} {B : Int} {L : List Nat} {f : Nat → va_E} (hh : hok X0.2.2.1 K B L f) {v0 v1 : Int} {r0 : Nat} (hb0 : 0 ≤ v0 ∧ v0 ≤ 5) (hb1 : (-2147483648) ≤ v1 ∧ v1 ≤ 2147483647) (hr0 : r0 ∈ L ∧ K r0 = 200) (k2 : ∀ (K' : Nat → Nat) (B' : Int) (L' : List Nat) (f' : Nat → va_E), hok X0.2.2.1 K' B' L' f' → extC [] K B L f K' B' L' f' → (0 ≤ v0 ∧ v0 ≤ 5) → ((-2147483648) ≤ v1 ∧ v1 ≤ 2147483647) → (r0 ∈ L' ∧ K' r0 = 200) → eW E 0 0 L' f' 2 [(0, .ref r0), (1, .int (Int32.ofInt v0)), (2, .int (Int32.ofInt v1)), (3, .int (Int32.ofInt 0))] []) : eW E 0 0 L f 0 [(0, .ref r0), (1, .int (Int32.ofInt v0)), (2, .int (Int32.ofInt v1))] [] := by
  obtain ⟨l0, D0, cy0, ax0⟩ := X0
  have hraw : eW E 0 0 L f 0 [(0, .ref r0), (1, .int (Int32.ofInt (0 + (1 * v0 + 0)))), (2, .int (Int32.ofInt (0 + (1 * v1 + 0))))] [] := ?_
  · simpa only [Int.zero_add, Int.one_mul, Int.add_zero] using hraw
  refine seg_ok (D := D_nf0) (νi := fun i => [v0, v1].getD i 0) (μi := fun i => [r0].getD i 0) k_nf0 hE (mk_ok (ins := iX12_nextField) jX12_nextField fX12_ok lX12_ok kX12_ok kkX12_ok H) (by decide) rfl rfl rfl rfl hh ?_ ?_
  · refine ⟨(eok_of (fun i q hq => ?_) (fun i hi => ?_)), fa0, fa0, ?_, fa0, fa0, fa0⟩
    · match i, hq with
      | 0, hq => cases hq; exact hb0
      | 1, hq => cases hq; exact hb1
      | i + 2, hq => cases hq
    · match i, hi with
      | 0, hi => exact absurd hi (by decide)
      | 1, hi => exact absurd hi (by decide)
      | i + 2, _ => rfl
    · intro i k hk
      match i, hk with
      | 0, hk => cases hk; exact hr0
      | i + 1, hk => cases hk
  · intro q hq hst K' B' L' f' ν μ h1 h2 h3 h4 h5
    have e0 : ν 0 = v0 := h4 0 (by decide)
    have e1 : ν 1 = v1 := h4 1 (by decide)
    have d0 : μ 0 = r0 := h5 0 (by decide)
    subst e0
    subst e1
    subst d0
    replace hq : q ∈ u_nf0 := hq
    unfold u_nf0 at hq
    simp only [List.mem_cons, List.not_mem_nil, or_false] at hq
    rcases hq with rfl
    · have hst2 : eW E 0 0 L' f' 2 [(0, .ref (μ 0)), (1, .int (Int32.ofInt (0 + (1 * ν 0 + 0)))), (2, .int (Int32.ofInt (0 + (1 * ν 1 + 0)))), (3, .int (Int32.ofInt (0 + 0)))] [] := ?_
      · exact hst2
      try simp only [Int.zero_add, Int.one_mul, Int.add_zero]
      exact k2 K' B' L' f'   h1 h2 (h3.1 0) (h3.1 1) (h3.2.2.2.1 0 200 rfl)

/-! nf2: from 2 to [10] -/
def w_nf2 : TP := ([(0, (2, 0, (0, []))), (1, (0, 0, (0, [(1, 0)]))), (2, (0, 0, (0, [(1, 1)]))), (3, (0, 0, (0, [(1, 2)])))], [], ([(0, 5), ((-2147483648), 2147483647), (0, 5)], [], [], [200], [], [], []), [], [])
def u_nf2 : List (Nat × TP × EX × Nat × Nat) := [(10, ([(0, (2, 0, (0, []))), (1, (0, 0, (0, [(1, 0)]))), (2, (0, 0, (0, [(1, 1)]))), (3, (0, 0, (0, [(1, 2)])))], [(0, 0, (0, [(1, 2)])), (0, 0, (0, [(1, 3)]))], ([(0, 5), ((-2147483648), 2147483647), (0, 5), ((-2147483648), 2147483647)], [], [], [200], [((201, (22, [(7, 0)])), (0, [(1, 3)]))], [], []), [(1, 1, (0, []))], []), ((-1), []), 0, 0)]
def D_nf2 : DT := (mkD iX12_nextField fX12 lX12 kX12 kkX12 342 [(6, [333])] (w_nf2, [], [], 3, 0, 0, 3) false 4 u_nf2)
theorem k_nf2 : chkS D_nf2 4000 0 0 2 = true := by decide +kernel
theorem s_nf2 {X0 : zC0} {E : zCx} (H : ∀ j, j < 342 → CMj X0 j) (hE : zOk E X0 RX12 cX12_nextField 4 (zrm 3 0 0)) {K : Nat → Nat} {B : Int} {L : List Nat} {f : Nat → va_E} (hh : hok X0.2.2.1 K B L f) {v0 v1 v2 : Int} {r0 : Nat} (hb0 : 0 ≤ v0 ∧ v0 ≤ 5) (hb1 : (-2147483648) ≤ v1 ∧ v1 ≤ 2147483647) (hb2 : 0 ≤ v2 ∧ v2 ≤ 5) (hr0 : r0 ∈ L ∧ K r0 = 200) (k10 : ∀ (K' : Nat → Nat) (B' : Int) (L' : List Nat) (f' : Nat → va_E) (v3 : Int), hok X0.2.2.1 K' B' L' f' → extC [] K B L f K' B' L' f' → (0 ≤ v0 ∧ v0 ≤ 5) → ((-2147483648) ≤ v1 ∧ v1 ≤ 2147483647) → (0 ≤ v2 ∧ v2 ≤ 5) → ((-2147483648) ≤ v3 ∧ v3 ≤ 2147483647) → (r0 ∈ L' ∧ K' r0 = 200) → (∀ b ∈ L', K' b = 201 → (0 : Int) ≤ (22 + (7 * v0)) ∧ gi (f' b) (((22 + (7 * v0)) : Int)).toNat = v3) → eW E 0 0 L' f' 10 [(0, .ref r0), (1, .int (Int32.ofInt v0)), (2, .int (Int32.ofInt v1)), (3, .int (Int32.ofInt v2))] [.int (Int32.ofInt v2), .int (Int32.ofInt v3)]) : eW E 0 0 L f 2 [(0, .ref r0), (1, .int (Int32.ofInt v0)), (2, .int (Int32.ofInt v1)), (3, .int (Int32.ofInt v2))] [] := by
  obtain ⟨l0, D0, cy0, ax0⟩ := X0
  have hraw : eW E 0 0 L f 2 [(0, .ref r0), (1, .int (Int32.ofInt (0 + (1 * v0 + 0)))), (2, .int (Int32.ofInt (0 + (1 * v1 + 0)))), (3, .int (Int32.ofInt (0 + (1 * v2 + 0))))] [] := ?_
  · simpa only [Int.zero_add, Int.one_mul, Int.add_zero] using hraw
  refine seg_ok (D := D_nf2) (νi := fun i => [v0, v1, v2].getD i 0) (μi := fun i => [r0].getD i 0) k_nf2 hE (mk_ok (ins := iX12_nextField) jX12_nextField fX12_ok lX12_ok kX12_ok kkX12_ok H) (by decide) rfl rfl rfl rfl hh ?_ ?_
  · refine ⟨(eok_of (fun i q hq => ?_) (fun i hi => ?_)), fa0, fa0, ?_, fa0, fa0, fa0⟩
    · match i, hq with
      | 0, hq => cases hq; exact hb0
      | 1, hq => cases hq; exact hb1
      | 2, hq => cases hq; exact hb2
      | i + 3, hq => cases hq
    · match i, hi with
      | 0, hi => exact absurd hi (by decide)
      | 1, hi => exact absurd hi (by decide)
      | 2, hi => exact absurd hi (by decide)
      | i + 3, _ => rfl
    · intro i k hk
      match i, hk with
      | 0, hk => cases hk; exact hr0
      | i + 1, hk => cases hk
  · intro q hq hst K' B' L' f' ν μ h1 h2 h3 h4 h5
    have e0 : ν 0 = v0 := h4 0 (by decide)
    have e1 : ν 1 = v1 := h4 1 (by decide)
    have e2 : ν 2 = v2 := h4 2 (by decide)
    have d0 : μ 0 = r0 := h5 0 (by decide)
    subst e0
    subst e1
    subst e2
    subst d0
    replace hq : q ∈ u_nf2 := hq
    unfold u_nf2 at hq
    simp only [List.mem_cons, List.not_mem_nil, or_false] at hq
    rcases hq with rfl
    · have hst2 : eW E 0 0 L' f' 10 [(0, .ref (μ 0)), (1, .int (Int32.ofInt (0 + (1 * ν 0 + 0)))), (2, .int (Int32.ofInt (0 + (1 * ν 1 + 0)))), (3, .int (Int32.ofInt (0 + (1 * ν 2 + 0))))] [.int (Int32.ofInt (0 + (1 * ν 2 + 0))), .int (Int32.ofInt (0 + (1 * ν 3 + 0)))] := ?_
      · exact hst2
      try simp only [Int.zero_add, Int.one_mul, Int.add_zero]
      exact k10 K' B' L' f' (ν 3)  h1 h2 (h3.1 0) (h3.1 1) (h3.1 2) (h3.1 3) (h3.2.2.2.1 0 200 rfl) (by simpa only [xv, xvT, Int.zero_add, Int.one_mul, Int.add_zero] using (mokA h1 (show (zkd 201).1 = 2 by decide) (by decide) (h3.2.2.2.2.1 _ (List.mem_of_getElem? (i := 0) rfl))))

/-! nf13: from 13 to [19, 42] -/
def w_nf13 : TP := ([(0, (2, 0, (0, []))), (1, (0, 0, (0, [(1, 0)]))), (2, (0, 0, (0, [(1, 1)]))), (3, (0, 0, (0, [(1, 2)])))], [(0, 0, (0, [(1, 3)]))], ([(0, 5), ((-2147483648), 2147483647), (0, 5), (0, 1)], [], [], [200], [], [], []), [], [])
def u_nf13 : List (Nat × TP × EX × Nat × Nat) := [(19, ([(0, (2, 0, (0, []))), (1, (0, 0, (0, [(1, 0)]))), (2, (0, 0, (0, [(1, 1)]))), (3, (0, 0, (0, [(1, 2)])))], [(0, 0, (0, [(1, 1)])), (0, 0, (0, [(1, 2)])), (2, 0, (0, []))], ([(0, 5), ((-2147483648), 2147483647), (0, 5), (1, 1)], [], [], [200], [], [], []), [], []), ((-1), []), 0, 0), (42, ([(0, (2, 0, (0, []))), (1, (0, 0, (0, [(1, 0)]))), (2, (0, 0, (0, [(1, 1)]))), (3, (0, 0, (0, [(1, 2)])))], [], ([(0, 5), ((-2147483648), 2147483647), (0, 5), (0, 0)], [], [], [200], [], [], []), [], []), ((-1), []), 0, 0)]
def D_nf13 : DT := (mkD iX12_nextField fX12 lX12 kX12 kkX12 342 [] (w_nf13, [], [], 3, 0, 0, 3) false 4 u_nf13)
theorem k_nf13 : chkS D_nf13 4000 0 0 13 = true := by decide +kernel
theorem s_nf13 {X0 : zC0} {E : zCx} (H : ∀ j, j < 342 → CMj X0 j) (hE : zOk E X0 RX12 cX12_nextField 4 (zrm 3 0 0)) {K : Nat → Nat} {B : Int} {L : List Nat} {f : Nat → va_E} (hh : hok X0.2.2.1 K B L f) {v0 v1 v2 v3 : Int} {r0 : Nat} (hb0 : 0 ≤ v0 ∧ v0 ≤ 5) (hb1 : (-2147483648) ≤ v1 ∧ v1 ≤ 2147483647) (hb2 : 0 ≤ v2 ∧ v2 ≤ 5) (hb3 : 0 ≤ v3 ∧ v3 ≤ 1) (hr0 : r0 ∈ L ∧ K r0 = 200) (k19 : ∀ (K' : Nat → Nat) (B' : Int) (L' : List Nat) (f' : Nat → va_E), hok X0.2.2.1 K' B' L' f' → extC [] K B L f K' B' L' f' → (0 ≤ v0 ∧ v0 ≤ 5) → ((-2147483648) ≤ v1 ∧ v1 ≤ 2147483647) → (0 ≤ v2 ∧ v2 ≤ 5) → (1 ≤ v3 ∧ v3 ≤ 1) → (r0 ∈ L' ∧ K' r0 = 200) → eW E 0 0 L' f' 19 [(0, .ref r0), (1, .int (Int32.ofInt v0)), (2, .int (Int32.ofInt v1)), (3, .int (Int32.ofInt v2))] [.int (Int32.ofInt v1), .int (Int32.ofInt v2), .ref r0]) (k42 : ∀ (K' : Nat → Nat) (B' : Int) (L' : List Nat) (f' : Nat → va_E), hok X0.2.2.1 K' B' L' f' → extC [] K B L f K' B' L' f' → (0 ≤ v0 ∧ v0 ≤ 5) → ((-2147483648) ≤ v1 ∧ v1 ≤ 2147483647) → (0 ≤ v2 ∧ v2 ≤ 5) → (0 ≤ v3 ∧ v3 ≤ 0) → (r0 ∈ L' ∧ K' r0 = 200) → eW E 0 0 L' f' 42 [(0, .ref r0), (1, .int (Int32.ofInt v0)), (2, .int (Int32.ofInt v1)), (3, .int (Int32.ofInt v2))] []) : eW E 0 0 L f 13 [(0, .ref r0), (1, .int (Int32.ofInt v0)), (2, .int (Int32.ofInt v1)), (3, .int (Int32.ofInt v2))] [.int (Int32.ofInt v3)] := by
  obtain ⟨l0, D0, cy0, ax0⟩ := X0
  have hraw : eW E 0 0 L f 13 [(0, .ref r0), (1, .int (Int32.ofInt (0 + (1 * v0 + 0)))), (2, .int (Int32.ofInt (0 + (1 * v1 + 0)))), (3, .int (Int32.ofInt (0 + (1 * v2 + 0))))] [.int (Int32.ofInt (0 + (1 * v3 + 0)))] := ?_
  · simpa only [Int.zero_add, Int.one_mul, Int.add_zero] using hraw
  refine seg_ok (D := D_nf13) (νi := fun i => [v0, v1, v2, v3].getD i 0) (μi := fun i => [r0].getD i 0) k_nf13 hE (mk_ok (ins := iX12_nextField) jX12_nextField fX12_ok lX12_ok kX12_ok kkX12_ok H) (by decide) rfl rfl rfl rfl hh ?_ ?_
  · refine ⟨(eok_of (fun i q hq => ?_) (fun i hi => ?_)), fa0, fa0, ?_, fa0, fa0, fa0⟩
    · match i, hq with
      | 0, hq => cases hq; exact hb0
      | 1, hq => cases hq; exact hb1
      | 2, hq => cases hq; exact hb2
      | 3, hq => cases hq; exact hb3
      | i + 4, hq => cases hq
    · match i, hi with
      | 0, hi => exact absurd hi (by decide)
      | 1, hi => exact absurd hi (by decide)
      | 2, hi => exact absurd hi (by decide)
      | 3, hi => exact absurd hi (by decide)
      | i + 4, _ => rfl
    · intro i k hk
      match i, hk with
      | 0, hk => cases hk; exact hr0
      | i + 1, hk => cases hk
  · intro q hq hst K' B' L' f' ν μ h1 h2 h3 h4 h5
    have e0 : ν 0 = v0 := h4 0 (by decide)
    have e1 : ν 1 = v1 := h4 1 (by decide)
    have e2 : ν 2 = v2 := h4 2 (by decide)
    have e3 : ν 3 = v3 := h4 3 (by decide)
    have d0 : μ 0 = r0 := h5 0 (by decide)
    subst e0
    subst e1
    subst e2
    subst e3
    subst d0
    replace hq : q ∈ u_nf13 := hq
    unfold u_nf13 at hq
    simp only [List.mem_cons, List.not_mem_nil, or_false] at hq
    rcases hq with rfl | rfl
    · have hst2 : eW E 0 0 L' f' 19 [(0, .ref (μ 0)), (1, .int (Int32.ofInt (0 + (1 * ν 0 + 0)))), (2, .int (Int32.ofInt (0 + (1 * ν 1 + 0)))), (3, .int (Int32.ofInt (0 + (1 * ν 2 + 0))))] [.int (Int32.ofInt (0 + (1 * ν 1 + 0))), .int (Int32.ofInt (0 + (1 * ν 2 + 0))), .ref (μ 0)] := ?_
      · exact hst2
      try simp only [Int.zero_add, Int.one_mul, Int.add_zero]
      exact k19 K' B' L' f'   h1 h2 (h3.1 0) (h3.1 1) (h3.1 2) (h3.1 3) (h3.2.2.2.1 0 200 rfl)
    · have hst2 : eW E 0 0 L' f' 42 [(0, .ref (μ 0)), (1, .int (Int32.ofInt (0 + (1 * ν 0 + 0)))), (2, .int (Int32.ofInt (0 + (1 * ν 1 + 0)))), (3, .int (Int32.ofInt (0 + (1 * ν 2 + 0))))] [] := ?_
      · exact hst2
      try simp only [Int.zero_add, Int.one_mul, Int.add_zero]
      exact k42 K' B' L' f'   h1 h2 (h3.1 0) (h3.1 1) (h3.1 2) (h3.1 3) (h3.2.2.2.1 0 200 rfl)

/-! nf22: from 22 to [25, 42] -/
def w_nf22 : TP := ([(0, (2, 0, (0, []))), (1, (0, 0, (0, [(1, 0)]))), (2, (0, 0, (0, [(1, 1)]))), (3, (0, 0, (0, [(1, 2)])))], [(0, 0, (0, [(1, 3)]))], ([(0, 5), ((-2147483648), 2147483647), (0, 5), (0, 1)], [], [], [200], [], [], []), [], [])
def u_nf22 : List (Nat × TP × EX × Nat × Nat) := [(25, ([(0, (2, 0, (0, []))), (1, (0, 0, (0, [(1, 0)]))), (2, (0, 0, (0, [(1, 1)]))), (3, (0, 0, (0, [(1, 2)])))], [], ([(0, 5), ((-2147483648), 2147483647), (0, 5), (1, 1)], [], [], [200], [], [], []), [], []), ((-1), []), 0, 0), (42, ([(0, (2, 0, (0, []))), (1, (0, 0, (0, [(1, 0)]))), (2, (0, 0, (0, [(1, 1)]))), (3, (0, 0, (0, [(1, 2)])))], [], ([(0, 5), ((-2147483648), 2147483647), (0, 5), (0, 0)], [], [], [200], [], [], []), [], []), ((-1), []), 0, 0)]
def D_nf22 : DT := (mkD iX12_nextField fX12 lX12 kX12 kkX12 342 [] (w_nf22, [], [], 3, 0, 0, 3) false 4 u_nf22)
theorem k_nf22 : chkS D_nf22 4000 0 0 22 = true := by decide +kernel
theorem s_nf22 {X0 : zC0} {E : zCx} (H : ∀ j, j < 342 → CMj X0 j) (hE : zOk E X0 RX12 cX12_nextField 4 (zrm 3 0 0)) {K : Nat → Nat} {B : Int} {L : List Nat} {f : Nat → va_E} (hh : hok X0.2.2.1 K B L f) {v0 v1 v2 v3 : Int} {r0 : Nat} (hb0 : 0 ≤ v0 ∧ v0 ≤ 5) (hb1 : (-2147483648) ≤ v1 ∧ v1 ≤ 2147483647) (hb2 : 0 ≤ v2 ∧ v2 ≤ 5) (hb3 : 0 ≤ v3 ∧ v3 ≤ 1) (hr0 : r0 ∈ L ∧ K r0 = 200) (k25 : ∀ (K' : Nat → Nat) (B' : Int) (L' : List Nat) (f' : Nat → va_E), hok X0.2.2.1 K' B' L' f' → extC [] K B L f K' B' L' f' → (0 ≤ v0 ∧ v0 ≤ 5) → ((-2147483648) ≤ v1 ∧ v1 ≤ 2147483647) → (0 ≤ v2 ∧ v2 ≤ 5) → (1 ≤ v3 ∧ v3 ≤ 1) → (r0 ∈ L' ∧ K' r0 = 200) → eW E 0 0 L' f' 25 [(0, .ref r0), (1, .int (Int32.ofInt v0)), (2, .int (Int32.ofInt v1)), (3, .int (Int32.ofInt v2))] []) (k42 : ∀ (K' : Nat → Nat) (B' : Int) (L' : List Nat) (f' : Nat → va_E), hok X0.2.2.1 K' B' L' f' → extC [] K B L f K' B' L' f' → (0 ≤ v0 ∧ v0 ≤ 5) → ((-2147483648) ≤ v1 ∧ v1 ≤ 2147483647) → (0 ≤ v2 ∧ v2 ≤ 5) → (0 ≤ v3 ∧ v3 ≤ 0) → (r0 ∈ L' ∧ K' r0 = 200) → eW E 0 0 L' f' 42 [(0, .ref r0), (1, .int (Int32.ofInt v0)), (2, .int (Int32.ofInt v1)), (3, .int (Int32.ofInt v2))] []) : eW E 0 0 L f 22 [(0, .ref r0), (1, .int (Int32.ofInt v0)), (2, .int (Int32.ofInt v1)), (3, .int (Int32.ofInt v2))] [.int (Int32.ofInt v3)] := by
  obtain ⟨l0, D0, cy0, ax0⟩ := X0
  have hraw : eW E 0 0 L f 22 [(0, .ref r0), (1, .int (Int32.ofInt (0 + (1 * v0 + 0)))), (2, .int (Int32.ofInt (0 + (1 * v1 + 0)))), (3, .int (Int32.ofInt (0 + (1 * v2 + 0))))] [.int (Int32.ofInt (0 + (1 * v3 + 0)))] := ?_
  · simpa only [Int.zero_add, Int.one_mul, Int.add_zero] using hraw
  refine seg_ok (D := D_nf22) (νi := fun i => [v0, v1, v2, v3].getD i 0) (μi := fun i => [r0].getD i 0) k_nf22 hE (mk_ok (ins := iX12_nextField) jX12_nextField fX12_ok lX12_ok kX12_ok kkX12_ok H) (by decide) rfl rfl rfl rfl hh ?_ ?_
  · refine ⟨(eok_of (fun i q hq => ?_) (fun i hi => ?_)), fa0, fa0, ?_, fa0, fa0, fa0⟩
    · match i, hq with
      | 0, hq => cases hq; exact hb0
      | 1, hq => cases hq; exact hb1
      | 2, hq => cases hq; exact hb2
      | 3, hq => cases hq; exact hb3
      | i + 4, hq => cases hq
    · match i, hi with
      | 0, hi => exact absurd hi (by decide)
      | 1, hi => exact absurd hi (by decide)
      | 2, hi => exact absurd hi (by decide)
      | 3, hi => exact absurd hi (by decide)
      | i + 4, _ => rfl
    · intro i k hk
      match i, hk with
      | 0, hk => cases hk; exact hr0
      | i + 1, hk => cases hk
  · intro q hq hst K' B' L' f' ν μ h1 h2 h3 h4 h5
    have e0 : ν 0 = v0 := h4 0 (by decide)
    have e1 : ν 1 = v1 := h4 1 (by decide)
    have e2 : ν 2 = v2 := h4 2 (by decide)
    have e3 : ν 3 = v3 := h4 3 (by decide)
    have d0 : μ 0 = r0 := h5 0 (by decide)
    subst e0
    subst e1
    subst e2
    subst e3
    subst d0
    replace hq : q ∈ u_nf22 := hq
    unfold u_nf22 at hq
    simp only [List.mem_cons, List.not_mem_nil, or_false] at hq
    rcases hq with rfl | rfl
    · have hst2 : eW E 0 0 L' f' 25 [(0, .ref (μ 0)), (1, .int (Int32.ofInt (0 + (1 * ν 0 + 0)))), (2, .int (Int32.ofInt (0 + (1 * ν 1 + 0)))), (3, .int (Int32.ofInt (0 + (1 * ν 2 + 0))))] [] := ?_
      · exact hst2
      try simp only [Int.zero_add, Int.one_mul, Int.add_zero]
      exact k25 K' B' L' f'   h1 h2 (h3.1 0) (h3.1 1) (h3.1 2) (h3.1 3) (h3.2.2.2.1 0 200 rfl)
    · have hst2 : eW E 0 0 L' f' 42 [(0, .ref (μ 0)), (1, .int (Int32.ofInt (0 + (1 * ν 0 + 0)))), (2, .int (Int32.ofInt (0 + (1 * ν 1 + 0)))), (3, .int (Int32.ofInt (0 + (1 * ν 2 + 0))))] [] := ?_
      · exact hst2
      try simp only [Int.zero_add, Int.one_mul, Int.add_zero]
      exact k42 K' B' L' f'   h1 h2 (h3.1 0) (h3.1 1) (h3.1 2) (h3.1 3) (h3.2.2.2.1 0 200 rfl)

/-! nf25a: from 25 to [48] -/
def w_nf25a : TP := ([(0, (2, 0, (0, []))), (1, (0, 0, (0, [(1, 0)]))), (2, (0, 0, (0, [(1, 1)]))), (3, (0, 0, (0, [(1, 2)])))], [], ([(0, 5), ((-2147483648), 2147483647), (0, 5), (0, 999999)], [], [], [200], [((226, (0, [(1, 2)])), (0, [(1, 3)])), ((226, (0, [(1, 0)])), (1, [(1, 3)]))], [], []), [], [])
def u_nf25a : List (Nat × TP × EX × Nat × Nat) := [(48, ([(0, (2, 0, (0, []))), (1, (0, 0, (0, [(1, 0)]))), (2, (0, 0, (0, [(1, 1)]))), (3, (0, 0, (0, [(1, 2)])))], [], ([(0, 5), ((-2147483648), 2147483647), (0, 5), (0, 999999)], [], [], [200], [((226, (0, [(1, 2)])), (0, [(1, 3)])), ((226, (0, [(1, 0)])), (1, [(1, 3)]))], [], []), [], []), ((-1), []), 0, 0)]
def D_nf25a : DT := (mkD iX12_nextField fX12 lX12 kX12 kkX12 342 [] (w_nf25a, [], [], 3, 0, 0, 3) false 4 u_nf25a)
theorem k_nf25a : chkS D_nf25a 4000 0 0 25 = true := by decide +kernel
theorem s_nf25a {X0 : zC0} {E : zCx} (H : ∀ j, j < 342 → CMj X0 j) (hE : zOk E X0 RX12 cX12_nextField 4 (zrm 3 0 0)) {K : Nat → Nat} {B : Int} {L : List Nat} {f : Nat → va_E} (hh : hok X0.2.2.1 K B L f) {v0 v1 v2 v3 : Int} {r0 : Nat} (hb0 : 0 ≤ v0 ∧ v0 ≤ 5) (hb1 : (-2147483648) ≤ v1 ∧ v1 ≤ 2147483647) (hb2 : 0 ≤ v2 ∧ v2 ≤ 5) (hb3 : 0 ≤ v3 ∧ v3 ≤ 999999) (hr0 : r0 ∈ L ∧ K r0 = 200) (hm0 : (∀ b ∈ L, K b = 226 → (0 : Int) ≤ v2 ∧ gi (f b) ((v2 : Int)).toNat = v3)) (hm1 : (∀ b ∈ L, K b = 226 → (0 : Int) ≤ v0 ∧ gi (f b) ((v0 : Int)).toNat = (1 + v3))) (k48 : ∀ (K' : Nat → Nat) (B' : Int) (L' : List Nat) (f' : Nat → va_E), hok X0.2.2.1 K' B' L' f' → extC [] K B L f K' B' L' f' → (0 ≤ v0 ∧ v0 ≤ 5) → ((-2147483648) ≤ v1 ∧ v1 ≤ 2147483647) → (0 ≤ v2 ∧ v2 ≤ 5) → (0 ≤ v3 ∧ v3 ≤ 999999) → (r0 ∈ L' ∧ K' r0 = 200) → (∀ b ∈ L', K' b = 226 → (0 : Int) ≤ v2 ∧ gi (f' b) ((v2 : Int)).toNat = v3) → (∀ b ∈ L', K' b = 226 → (0 : Int) ≤ v0 ∧ gi (f' b) ((v0 : Int)).toNat = (1 + v3)) → eW E 0 0 L' f' 48 [(0, .ref r0), (1, .int (Int32.ofInt v0)), (2, .int (Int32.ofInt v1)), (3, .int (Int32.ofInt v2))] []) : eW E 0 0 L f 25 [(0, .ref r0), (1, .int (Int32.ofInt v0)), (2, .int (Int32.ofInt v1)), (3, .int (Int32.ofInt v2))] [] := by
  obtain ⟨l0, D0, cy0, ax0⟩ := X0
  have hraw : eW E 0 0 L f 25 [(0, .ref r0), (1, .int (Int32.ofInt (0 + (1 * v0 + 0)))), (2, .int (Int32.ofInt (0 + (1 * v1 + 0)))), (3, .int (Int32.ofInt (0 + (1 * v2 + 0))))] [] := ?_
  · simpa only [Int.zero_add, Int.one_mul, Int.add_zero] using hraw
  have rm0 : (∀ b ∈ L, K b = 226 → (0 : Int) ≤ (0 + (1 * v2 + 0)) ∧ gi (f b) (((0 + (1 * v2 + 0)) : Int)).toNat = (0 + (1 * v3 + 0))) := by simpa only [Int.zero_add, Int.one_mul, Int.add_zero] using hm0
  have rm1 : (∀ b ∈ L, K b = 226 → (0 : Int) ≤ (0 + (1 * v0 + 0)) ∧ gi (f b) (((0 + (1 * v0 + 0)) : Int)).toNat = (1 + (1 * v3 + 0))) := by simpa only [Int.zero_add, Int.one_mul, Int.add_zero] using hm1
  refine seg_ok (D := D_nf25a) (νi := fun i => [v0, v1, v2, v3].getD i 0) (μi := fun i => [r0].getD i 0) k_nf25a hE (mk_ok (ins := iX12_nextField) jX12_nextField fX12_ok lX12_ok kX12_ok kkX12_ok H) (by decide) rfl rfl rfl rfl hh ?_ ?_
  · refine ⟨(eok_of (fun i q hq => ?_) (fun i hi => ?_)), fa0, fa0, ?_, (fa_cons (Amok hh (show (zkd 226).1 = 2 by decide) (by decide) rm0) (fa_cons (Amok hh (show (zkd 226).1 = 2 by decide) (by decide) rm1) fa0)), fa0, fa0⟩
    · match i, hq with
      | 0, hq => cases hq; exact hb0
      | 1, hq => cases hq; exact hb1
      | 2, hq => cases hq; exact hb2
      | 3, hq => cases hq; exact hb3
      | i + 4, hq => cases hq
    · match i, hi with
      | 0, hi => exact absurd hi (by decide)
      | 1, hi => exact absurd hi (by decide)
      | 2, hi => exact absurd hi (by decide)
      | 3, hi => exact absurd hi (by decide)
      | i + 4, _ => rfl
    · intro i k hk
      match i, hk with
      | 0, hk => cases hk; exact hr0
      | i + 1, hk => cases hk
  · intro q hq hst K' B' L' f' ν μ h1 h2 h3 h4 h5
    have e0 : ν 0 = v0 := h4 0 (by decide)
    have e1 : ν 1 = v1 := h4 1 (by decide)
    have e2 : ν 2 = v2 := h4 2 (by decide)
    have e3 : ν 3 = v3 := h4 3 (by decide)
    have d0 : μ 0 = r0 := h5 0 (by decide)
    subst e0
    subst e1
    subst e2
    subst e3
    subst d0
    replace hq : q ∈ u_nf25a := hq
    unfold u_nf25a at hq
    simp only [List.mem_cons, List.not_mem_nil, or_false] at hq
    rcases hq with rfl
    · have hst2 : eW E 0 0 L' f' 48 [(0, .ref (μ 0)), (1, .int (Int32.ofInt (0 + (1 * ν 0 + 0)))), (2, .int (Int32.ofInt (0 + (1 * ν 1 + 0)))), (3, .int (Int32.ofInt (0 + (1 * ν 2 + 0))))] [] := ?_
      · exact hst2
      try simp only [Int.zero_add, Int.one_mul, Int.add_zero]
      exact k48 K' B' L' f'   h1 h2 (h3.1 0) (h3.1 1) (h3.1 2) (h3.1 3) (h3.2.2.2.1 0 200 rfl) (by simpa only [xv, xvT, Int.zero_add, Int.one_mul, Int.add_zero] using (mokA h1 (show (zkd 226).1 = 2 by decide) (by decide) (h3.2.2.2.2.1 _ (List.mem_of_getElem? (i := 0) rfl)))) (by simpa only [xv, xvT, Int.zero_add, Int.one_mul, Int.add_zero] using (mokA h1 (show (zkd 226).1 = 2 by decide) (by decide) (h3.2.2.2.2.1 _ (List.mem_of_getElem? (i := 1) rfl))))

/-! nf25b: from 25 to [42] -/
def w_nf25b : TP := ([(0, (2, 0, (0, []))), (1, (0, 0, (0, [(1, 0)]))), (2, (0, 0, (0, [(1, 1)]))), (3, (0, 0, (0, [(1, 2)])))], [], ([(0, 5), ((-2147483648), 2147483647), (0, 5), (0, 1000000), (1, 1000000)], [(0, [(1, 3), ((-1), 4)])], [], [200], [((226, (0, [(1, 2)])), (0, [(1, 3)])), ((226, (0, [(1, 0)])), (0, [(1, 4)]))], [], []), [], [])
def u_nf25b : List (Nat × TP × EX × Nat × Nat) := [(42, ([(0, (2, 0, (0, []))), (1, (0, 0, (0, [(1, 0)]))), (2, (0, 0, (0, [(1, 1)]))), (3, (0, 0, (0, [(1, 2)])))], [], ([(0, 5), ((-2147483648), 2147483647), (0, 5), (0, 1000000), (1, 1000000)], [(0, [((-1), 4), (1, 3)])], [], [200], [((226, (0, [(1, 2)])), (0, [(1, 3)])), ((226, (0, [(1, 0)])), (0, [(1, 4)]))], [], []), [], []), ((-1), []), 0, 0)]
def D_nf25b : DT := (mkD iX12_nextField fX12 lX12 kX12 kkX12 342 [] (w_nf25b, [], [], 3, 0, 0, 3) false 4 u_nf25b)
theorem k_nf25b : chkS D_nf25b 4000 0 0 25 = true := by decide +kernel
theorem s_nf25b {X0 : zC0} {E : zCx} (H : ∀ j, j < 342 → CMj X0 j) (hE : zOk E X0 RX12 cX12_nextField 4 (zrm 3 0 0)) {K : Nat → Nat} {B : Int} {L : List Nat} {f : Nat → va_E} (hh : hok X0.2.2.1 K B L f) {v0 v1 v2 v3 v4 : Int} {r0 : Nat} (hb0 : 0 ≤ v0 ∧ v0 ≤ 5) (hb1 : (-2147483648) ≤ v1 ∧ v1 ≤ 2147483647) (hb2 : 0 ≤ v2 ∧ v2 ≤ 5) (hb3 : 0 ≤ v3 ∧ v3 ≤ 1000000) (hb4 : 1 ≤ v4 ∧ v4 ≤ 1000000) (hq0 : 0 ≤ (v3 + ((-1) * v4))) (hr0 : r0 ∈ L ∧ K r0 = 200) (hm0 : (∀ b ∈ L, K b = 226 → (0 : Int) ≤ v2 ∧ gi (f b) ((v2 : Int)).toNat = v3)) (hm1 : (∀ b ∈ L, K b = 226 → (0 : Int) ≤ v0 ∧ gi (f b) ((v0 : Int)).toNat = v4)) (k42 : ∀ (K' : Nat → Nat) (B' : Int) (L' : List Nat) (f' : Nat → va_E), hok X0.2.2.1 K' B' L' f' → extC [] K B L f K' B' L' f' → (0 ≤ v0 ∧ v0 ≤ 5) → ((-2147483648) ≤ v1 ∧ v1 ≤ 2147483647) → (0 ≤ v2 ∧ v2 ≤ 5) → (0 ≤ v3 ∧ v3 ≤ 1000000) → (1 ≤ v4 ∧ v4 ≤ 1000000) → (0 ≤ ((-1) * v4 + v3)) → (r0 ∈ L' ∧ K' r0 = 200) → (∀ b ∈ L', K' b = 226 → (0 : Int) ≤ v2 ∧ gi (f' b) ((v2 : Int)).toNat = v3) → (∀ b ∈ L', K' b = 226 → (0 : Int) ≤ v0 ∧ gi (f' b) ((v0 : Int)).toNat = v4) → eW E 0 0 L' f' 42 [(0, .ref r0), (1, .int (Int32.ofInt v0)), (2, .int (Int32.ofInt v1)), (3, .int (Int32.ofInt v2))] []) : eW E 0 0 L f 25 [(0, .ref r0), (1, .int (Int32.ofInt v0)), (2, .int (Int32.ofInt v1)), (3, .int (Int32.ofInt v2))] [] := by
  obtain ⟨l0, D0, cy0, ax0⟩ := X0
  have hraw : eW E 0 0 L f 25 [(0, .ref r0), (1, .int (Int32.ofInt (0 + (1 * v0 + 0)))), (2, .int (Int32.ofInt (0 + (1 * v1 + 0)))), (3, .int (Int32.ofInt (0 + (1 * v2 + 0))))] [] := ?_
  · simpa only [Int.zero_add, Int.one_mul, Int.add_zero] using hraw
  have rq0 : 0 ≤ (0 + (1 * v3 + ((-1) * v4 + 0))) := by simpa only [Int.zero_add, Int.one_mul, Int.add_zero] using hq0
  have rm0 : (∀ b ∈ L, K b = 226 → (0 : Int) ≤ (0 + (1 * v2 + 0)) ∧ gi (f b) (((0 + (1 * v2 + 0)) : Int)).toNat = (0 + (1 * v3 + 0))) := by simpa only [Int.zero_add, Int.one_mul, Int.add_zero] using hm0
  have rm1 : (∀ b ∈ L, K b = 226 → (0 : Int) ≤ (0 + (1 * v0 + 0)) ∧ gi (f b) (((0 + (1 * v0 + 0)) : Int)).toNat = (0 + (1 * v4 + 0))) := by simpa only [Int.zero_add, Int.one_mul, Int.add_zero] using hm1
  refine seg_ok (D := D_nf25b) (νi := fun i => [v0, v1, v2, v3, v4].getD i 0) (μi := fun i => [r0].getD i 0) k_nf25b hE (mk_ok (ins := iX12_nextField) jX12_nextField fX12_ok lX12_ok kX12_ok kkX12_ok H) (by decide) rfl rfl rfl rfl hh ?_ ?_
  · refine ⟨(eok_of (fun i q hq => ?_) (fun i hi => ?_)), (fa_cons (rq0) fa0), fa0, ?_, (fa_cons (Amok hh (show (zkd 226).1 = 2 by decide) (by decide) rm0) (fa_cons (Amok hh (show (zkd 226).1 = 2 by decide) (by decide) rm1) fa0)), fa0, fa0⟩
    · match i, hq with
      | 0, hq => cases hq; exact hb0
      | 1, hq => cases hq; exact hb1
      | 2, hq => cases hq; exact hb2
      | 3, hq => cases hq; exact hb3
      | 4, hq => cases hq; exact hb4
      | i + 5, hq => cases hq
    · match i, hi with
      | 0, hi => exact absurd hi (by decide)
      | 1, hi => exact absurd hi (by decide)
      | 2, hi => exact absurd hi (by decide)
      | 3, hi => exact absurd hi (by decide)
      | 4, hi => exact absurd hi (by decide)
      | i + 5, _ => rfl
    · intro i k hk
      match i, hk with
      | 0, hk => cases hk; exact hr0
      | i + 1, hk => cases hk
  · intro q hq hst K' B' L' f' ν μ h1 h2 h3 h4 h5
    have e0 : ν 0 = v0 := h4 0 (by decide)
    have e1 : ν 1 = v1 := h4 1 (by decide)
    have e2 : ν 2 = v2 := h4 2 (by decide)
    have e3 : ν 3 = v3 := h4 3 (by decide)
    have e4 : ν 4 = v4 := h4 4 (by decide)
    have d0 : μ 0 = r0 := h5 0 (by decide)
    subst e0
    subst e1
    subst e2
    subst e3
    subst e4
    subst d0
    replace hq : q ∈ u_nf25b := hq
    unfold u_nf25b at hq
    simp only [List.mem_cons, List.not_mem_nil, or_false] at hq
    rcases hq with rfl
    · have hst2 : eW E 0 0 L' f' 42 [(0, .ref (μ 0)), (1, .int (Int32.ofInt (0 + (1 * ν 0 + 0)))), (2, .int (Int32.ofInt (0 + (1 * ν 1 + 0)))), (3, .int (Int32.ofInt (0 + (1 * ν 2 + 0))))] [] := ?_
      · exact hst2
      try simp only [Int.zero_add, Int.one_mul, Int.add_zero]
      exact k42 K' B' L' f'   h1 h2 (h3.1 0) (h3.1 1) (h3.1 2) (h3.1 3) (h3.1 4) (by simpa only [xv, xvT, Int.zero_add, Int.one_mul, Int.add_zero] using (h3.2.1 _ (List.mem_of_getElem? (i := 0) rfl))) (h3.2.2.2.1 0 200 rfl) (by simpa only [xv, xvT, Int.zero_add, Int.one_mul, Int.add_zero] using (mokA h1 (show (zkd 226).1 = 2 by decide) (by decide) (h3.2.2.2.2.1 _ (List.mem_of_getElem? (i := 0) rfl)))) (by simpa only [xv, xvT, Int.zero_add, Int.one_mul, Int.add_zero] using (mokA h1 (show (zkd 226).1 = 2 by decide) (by decide) (h3.2.2.2.2.1 _ (List.mem_of_getElem? (i := 1) rfl))))

/-! nf25d: from 25 to [42] -/
def w_nf25d : TP := ([(0, (2, 0, (0, []))), (1, (0, 0, (0, [(1, 0)]))), (2, (0, 0, (0, [(1, 1)]))), (3, (0, 0, (0, [(1, 2)])))], [], ([(0, 5), ((-2147483648), 2147483647), (0, 5), (0, 1000000), (1, 1000000)], [((-2), [(1, 4), ((-1), 3)])], [], [200], [((226, (0, [(1, 2)])), (0, [(1, 3)])), ((226, (0, [(1, 0)])), (0, [(1, 4)]))], [], []), [], [])
def u_nf25d : List (Nat × TP × EX × Nat × Nat) := [(42, ([(0, (2, 0, (0, []))), (1, (0, 0, (0, [(1, 0)]))), (2, (0, 0, (0, [(1, 1)]))), (3, (0, 0, (0, [(1, 2)])))], [], ([(0, 5), ((-2147483648), 2147483647), (0, 5), (0, 1000000), (1, 1000000)], [((-2), [((-1), 3), (1, 4)])], [], [200], [((226, (0, [(1, 2)])), (0, [(1, 3)])), ((226, (0, [(1, 0)])), (0, [(1, 4)]))], [], []), [], []), ((-1), []), 0, 0)]
def D_nf25d : DT := (mkD iX12_nextField fX12 lX12 kX12 kkX12 342 [] (w_nf25d, [], [], 3, 0, 0, 3) false 4 u_nf25d)
theorem k_nf25d : chkS D_nf25d 4000 0 0 25 = true := by decide +kernel
theorem s_nf25d {X0 : zC0} {E : zCx} (H : ∀ j, j < 342 → CMj X0 j) (hE : zOk E X0 RX12 cX12_nextField 4 (zrm 3 0 0)) {K : Nat → Nat} {B : Int} {L : List Nat} {f : Nat → va_E} (hh : hok X0.2.2.1 K B L f) {v0 v1 v2 v3 v4 : Int} {r0 : Nat} (hb0 : 0 ≤ v0 ∧ v0 ≤ 5) (hb1 : (-2147483648) ≤ v1 ∧ v1 ≤ 2147483647) (hb2 : 0 ≤ v2 ∧ v2 ≤ 5) (hb3 : 0 ≤ v3 ∧ v3 ≤ 1000000) (hb4 : 1 ≤ v4 ∧ v4 ≤ 1000000) (hq0 : 0 ≤ ((-2) + (v4 + ((-1) * v3)))) (hr0 : r0 ∈ L ∧ K r0 = 200) (hm0 : (∀ b ∈ L, K b = 226 → (0 : Int) ≤ v2 ∧ gi (f b) ((v2 : Int)).toNat = v3)) (hm1 : (∀ b ∈ L, K b = 226 → (0 : Int) ≤ v0 ∧ gi (f b) ((v0 : Int)).toNat = v4)) (k42 : ∀ (K' : Nat → Nat) (B' : Int) (L' : List Nat) (f' : Nat → va_E), hok X0.2.2.1 K' B' L' f' → extC [] K B L f K' B' L' f' → (0 ≤ v0 ∧ v0 ≤ 5) → ((-2147483648) ≤ v1 ∧ v1 ≤ 2147483647) → (0 ≤ v2 ∧ v2 ≤ 5) → (0 ≤ v3 ∧ v3 ≤ 1000000) → (1 ≤ v4 ∧ v4 ≤ 1000000) → (0 ≤ ((-2) + ((-1) * v3 + v4))) → (r0 ∈ L' ∧ K' r0 = 200) → (∀ b ∈ L', K' b = 226 → (0 : Int) ≤ v2 ∧ gi (f' b) ((v2 : Int)).toNat = v3) → (∀ b ∈ L', K' b = 226 → (0 : Int) ≤ v0 ∧ gi (f' b) ((v0 : Int)).toNat = v4) → eW E 0 0 L' f' 42 [(0, .ref r0), (1, .int (Int32.ofInt v0)), (2, .int (Int32.ofInt v1)), (3, .int (Int32.ofInt v2))] []) : eW E 0 0 L f 25 [(0, .ref r0), (1, .int (Int32.ofInt v0)), (2, .int (Int32.ofInt v1)), (3, .int (Int32.ofInt v2))] [] := by
  obtain ⟨l0, D0, cy0, ax0⟩ := X0
  have hraw : eW E 0 0 L f 25 [(0, .ref r0), (1, .int (Int32.ofInt (0 + (1 * v0 + 0)))), (2, .int (Int32.ofInt (0 + (1 * v1 + 0)))), (3, .int (Int32.ofInt (0 + (1 * v2 + 0))))] [] := ?_
  · simpa only [Int.zero_add, Int.one_mul, Int.add_zero] using hraw
  have rq0 : 0 ≤ ((-2) + (1 * v4 + ((-1) * v3 + 0))) := by simpa only [Int.zero_add, Int.one_mul, Int.add_zero] using hq0
  have rm0 : (∀ b ∈ L, K b = 226 → (0 : Int) ≤ (0 + (1 * v2 + 0)) ∧ gi (f b) (((0 + (1 * v2 + 0)) : Int)).toNat = (0 + (1 * v3 + 0))) := by simpa only [Int.zero_add, Int.one_mul, Int.add_zero] using hm0
  have rm1 : (∀ b ∈ L, K b = 226 → (0 : Int) ≤ (0 + (1 * v0 + 0)) ∧ gi (f b) (((0 + (1 * v0 + 0)) : Int)).toNat = (0 + (1 * v4 + 0))) := by simpa only [Int.zero_add, Int.one_mul, Int.add_zero] using hm1
  refine seg_ok (D := D_nf25d) (νi := fun i => [v0, v1, v2, v3, v4].getD i 0) (μi := fun i => [r0].getD i 0) k_nf25d hE (mk_ok (ins := iX12_nextField) jX12_nextField fX12_ok lX12_ok kX12_ok kkX12_ok H) (by decide) rfl rfl rfl rfl hh ?_ ?_
  · refine ⟨(eok_of (fun i q hq => ?_) (fun i hi => ?_)), (fa_cons (rq0) fa0), fa0, ?_, (fa_cons (Amok hh (show (zkd 226).1 = 2 by decide) (by decide) rm0) (fa_cons (Amok hh (show (zkd 226).1 = 2 by decide) (by decide) rm1) fa0)), fa0, fa0⟩
    · match i, hq with
      | 0, hq => cases hq; exact hb0
      | 1, hq => cases hq; exact hb1
      | 2, hq => cases hq; exact hb2
      | 3, hq => cases hq; exact hb3
      | 4, hq => cases hq; exact hb4
      | i + 5, hq => cases hq
    · match i, hi with
      | 0, hi => exact absurd hi (by decide)
      | 1, hi => exact absurd hi (by decide)
      | 2, hi => exact absurd hi (by decide)
      | 3, hi => exact absurd hi (by decide)
      | 4, hi => exact absurd hi (by decide)
      | i + 5, _ => rfl
    · intro i k hk
      match i, hk with
      | 0, hk => cases hk; exact hr0
      | i + 1, hk => cases hk
  · intro q hq hst K' B' L' f' ν μ h1 h2 h3 h4 h5
    have e0 : ν 0 = v0 := h4 0 (by decide)
    have e1 : ν 1 = v1 := h4 1 (by decide)
    have e2 : ν 2 = v2 := h4 2 (by decide)
    have e3 : ν 3 = v3 := h4 3 (by decide)
    have e4 : ν 4 = v4 := h4 4 (by decide)
    have d0 : μ 0 = r0 := h5 0 (by decide)
    subst e0
    subst e1
    subst e2
    subst e3
    subst e4
    subst d0
    replace hq : q ∈ u_nf25d := hq
    unfold u_nf25d at hq
    simp only [List.mem_cons, List.not_mem_nil, or_false] at hq
    rcases hq with rfl
    · have hst2 : eW E 0 0 L' f' 42 [(0, .ref (μ 0)), (1, .int (Int32.ofInt (0 + (1 * ν 0 + 0)))), (2, .int (Int32.ofInt (0 + (1 * ν 1 + 0)))), (3, .int (Int32.ofInt (0 + (1 * ν 2 + 0))))] [] := ?_
      · exact hst2
      try simp only [Int.zero_add, Int.one_mul, Int.add_zero]
      exact k42 K' B' L' f'   h1 h2 (h3.1 0) (h3.1 1) (h3.1 2) (h3.1 3) (h3.1 4) (by simpa only [xv, xvT, Int.zero_add, Int.one_mul, Int.add_zero] using (h3.2.1 _ (List.mem_of_getElem? (i := 0) rfl))) (h3.2.2.2.1 0 200 rfl) (by simpa only [xv, xvT, Int.zero_add, Int.one_mul, Int.add_zero] using (mokA h1 (show (zkd 226).1 = 2 by decide) (by decide) (h3.2.2.2.2.1 _ (List.mem_of_getElem? (i := 0) rfl)))) (by simpa only [xv, xvT, Int.zero_add, Int.one_mul, Int.add_zero] using (mokA h1 (show (zkd 226).1 = 2 by decide) (by decide) (h3.2.2.2.2.1 _ (List.mem_of_getElem? (i := 1) rfl))))

/-! nf42: from 42 to [2] -/
def w_nf42 : TP := ([(0, (2, 0, (0, []))), (1, (0, 0, (0, [(1, 0)]))), (2, (0, 0, (0, [(1, 1)]))), (3, (0, 0, (0, [(1, 2)])))], [], ([(0, 5), ((-2147483648), 2147483647), (0, 5)], [], [], [200], [], [], []), [], [])
def u_nf42 : List (Nat × TP × EX × Nat × Nat) := [(2, ([(0, (2, 0, (0, []))), (1, (0, 0, (0, [(1, 0)]))), (2, (0, 0, (0, [(1, 1)]))), (3, (0, 0, (1, [(1, 2)])))], [], ([(0, 5), ((-2147483648), 2147483647), (0, 5)], [], [], [200], [], [], []), [], []), ((-1), []), 0, 0)]
def D_nf42 : DT := (mkD iX12_nextField fX12 lX12 kX12 kkX12 342 [] (w_nf42, [], [], 3, 0, 0, 3) false 4 u_nf42)
theorem k_nf42 : chkS D_nf42 4000 0 0 42 = true := by decide +kernel
theorem s_nf42 {X0 : zC0} {E : zCx} (H : ∀ j, j < 342 → CMj X0 j) (hE : zOk E X0 RX12 cX12_nextField 4 (zrm 3 0 0)) {K : Nat → Nat} {B : Int} {L : List Nat} {f : Nat → va_E} (hh : hok X0.2.2.1 K B L f) {v0 v1 v2 : Int} {r0 : Nat} (hb0 : 0 ≤ v0 ∧ v0 ≤ 5) (hb1 : (-2147483648) ≤ v1 ∧ v1 ≤ 2147483647) (hb2 : 0 ≤ v2 ∧ v2 ≤ 5) (hr0 : r0 ∈ L ∧ K r0 = 200) (k2 : ∀ (K' : Nat → Nat) (B' : Int) (L' : List Nat) (f' : Nat → va_E), hok X0.2.2.1 K' B' L' f' → extC [] K B L f K' B' L' f' → (0 ≤ v0 ∧ v0 ≤ 5) → ((-2147483648) ≤ v1 ∧ v1 ≤ 2147483647) → (0 ≤ v2 ∧ v2 ≤ 5) → (r0 ∈ L' ∧ K' r0 = 200) → eW E 0 0 L' f' 2 [(0, .ref r0), (1, .int (Int32.ofInt v0)), (2, .int (Int32.ofInt v1)), (3, .int (Int32.ofInt (1 + v2)))] []) : eW E 0 0 L f 42 [(0, .ref r0), (1, .int (Int32.ofInt v0)), (2, .int (Int32.ofInt v1)), (3, .int (Int32.ofInt v2))] [] := by
  obtain ⟨l0, D0, cy0, ax0⟩ := X0
  have hraw : eW E 0 0 L f 42 [(0, .ref r0), (1, .int (Int32.ofInt (0 + (1 * v0 + 0)))), (2, .int (Int32.ofInt (0 + (1 * v1 + 0)))), (3, .int (Int32.ofInt (0 + (1 * v2 + 0))))] [] := ?_
  · simpa only [Int.zero_add, Int.one_mul, Int.add_zero] using hraw
  refine seg_ok (D := D_nf42) (νi := fun i => [v0, v1, v2].getD i 0) (μi := fun i => [r0].getD i 0) k_nf42 hE (mk_ok (ins := iX12_nextField) jX12_nextField fX12_ok lX12_ok kX12_ok kkX12_ok H) (by decide) rfl rfl rfl rfl hh ?_ ?_
  · refine ⟨(eok_of (fun i q hq => ?_) (fun i hi => ?_)), fa0, fa0, ?_, fa0, fa0, fa0⟩
    · match i, hq with
      | 0, hq => cases hq; exact hb0
      | 1, hq => cases hq; exact hb1
      | 2, hq => cases hq; exact hb2
      | i + 3, hq => cases hq
    · match i, hi with
      | 0, hi => exact absurd hi (by decide)
      | 1, hi => exact absurd hi (by decide)
      | 2, hi => exact absurd hi (by decide)
      | i + 3, _ => rfl
    · intro i k hk
      match i, hk with
      | 0, hk => cases hk; exact hr0
      | i + 1, hk => cases hk
  · intro q hq hst K' B' L' f' ν μ h1 h2 h3 h4 h5
    have e0 : ν 0 = v0 := h4 0 (by decide)
    have e1 : ν 1 = v1 := h4 1 (by decide)
    have e2 : ν 2 = v2 := h4 2 (by decide)
    have d0 : μ 0 = r0 := h5 0 (by decide)
    subst e0
    subst e1
    subst e2
    subst d0
    replace hq : q ∈ u_nf42 := hq
    unfold u_nf42 at hq
    simp only [List.mem_cons, List.not_mem_nil, or_false] at hq
    rcases hq with rfl
    · have hst2 : eW E 0 0 L' f' 2 [(0, .ref (μ 0)), (1, .int (Int32.ofInt (0 + (1 * ν 0 + 0)))), (2, .int (Int32.ofInt (0 + (1 * ν 1 + 0)))), (3, .int (Int32.ofInt (1 + (1 * ν 2 + 0))))] [] := ?_
      · exact hst2
      try simp only [Int.zero_add, Int.one_mul, Int.add_zero]
      exact k2 K' B' L' f'   h1 h2 (h3.1 0) (h3.1 1) (h3.1 2) (h3.2.2.2.1 0 200 rfl)

/-! nf48: from 48 to [49] -/
def w_nf48 : TP := ([(0, (2, 0, (0, []))), (1, (0, 0, (0, [(1, 0)]))), (2, (0, 0, (0, [(1, 1)]))), (3, (0, 0, (0, [(1, 2)])))], [], ([(0, 5), ((-2147483648), 2147483647), (0, 5)], [], [], [200], [], [], []), [], [])
def u_nf48 : List (Nat × TP × EX × Nat × Nat) := [(49, ([(0, (2, 0, (0, []))), (1, (0, 0, (0, [(1, 0)]))), (2, (0, 0, (0, [(1, 1)]))), (3, (0, 0, (0, [(1, 2)])))], [(0, 0, (0, [(1, 2)]))], ([(0, 5), ((-2147483648), 2147483647), (0, 5)], [], [], [200], [], [], []), [], []), ((-1), []), 0, 0)]
def D_nf48 : DT := (mkD iX12_nextField fX12 lX12 kX12 kkX12 342 [] (w_nf48, [], [], 3, 0, 0, 3) false 4 u_nf48)
theorem k_nf48 : chkS D_nf48 4000 0 0 48 = true := by decide +kernel
theorem s_nf48 {X0 : zC0} {E : zCx} (H : ∀ j, j < 342 → CMj X0 j) (hE : zOk E X0 RX12 cX12_nextField 4 (zrm 3 0 0)) {K : Nat → Nat} {B : Int} {L : List Nat} {f : Nat → va_E} (hh : hok X0.2.2.1 K B L f) {v0 v1 v2 : Int} {r0 : Nat} (hb0 : 0 ≤ v0 ∧ v0 ≤ 5) (hb1 : (-2147483648) ≤ v1 ∧ v1 ≤ 2147483647) (hb2 : 0 ≤ v2 ∧ v2 ≤ 5) (hr0 : r0 ∈ L ∧ K r0 = 200) (k49 : ∀ (K' : Nat → Nat) (B' : Int) (L' : List Nat) (f' : Nat → va_E), hok X0.2.2.1 K' B' L' f' → extC [] K B L f K' B' L' f' → (0 ≤ v0 ∧ v0 ≤ 5) → ((-2147483648) ≤ v1 ∧ v1 ≤ 2147483647) → (0 ≤ v2 ∧ v2 ≤ 5) → (r0 ∈ L' ∧ K' r0 = 200) → eW E 0 0 L' f' 49 [(0, .ref r0), (1, .int (Int32.ofInt v0)), (2, .int (Int32.ofInt v1)), (3, .int (Int32.ofInt v2))] [.int (Int32.ofInt v2)]) : eW E 0 0 L f 48 [(0, .ref r0), (1, .int (Int32.ofInt v0)), (2, .int (Int32.ofInt v1)), (3, .int (Int32.ofInt v2))] [] := by
  obtain ⟨l0, D0, cy0, ax0⟩ := X0
  have hraw : eW E 0 0 L f 48 [(0, .ref r0), (1, .int (Int32.ofInt (0 + (1 * v0 + 0)))), (2, .int (Int32.ofInt (0 + (1 * v1 + 0)))), (3, .int (Int32.ofInt (0 + (1 * v2 + 0))))] [] := ?_
  · simpa only [Int.zero_add, Int.one_mul, Int.add_zero] using hraw
  refine seg_ok (D := D_nf48) (νi := fun i => [v0, v1, v2].getD i 0) (μi := fun i => [r0].getD i 0) k_nf48 hE (mk_ok (ins := iX12_nextField) jX12_nextField fX12_ok lX12_ok kX12_ok kkX12_ok H) (by decide) rfl rfl rfl rfl hh ?_ ?_
  · refine ⟨(eok_of (fun i q hq => ?_) (fun i hi => ?_)), fa0, fa0, ?_, fa0, fa0, fa0⟩
    · match i, hq with
      | 0, hq => cases hq; exact hb0
      | 1, hq => cases hq; exact hb1
      | 2, hq => cases hq; exact hb2
      | i + 3, hq => cases hq
    · match i, hi with
      | 0, hi => exact absurd hi (by decide)
      | 1, hi => exact absurd hi (by decide)
      | 2, hi => exact absurd hi (by decide)
      | i + 3, _ => rfl
    · intro i k hk
      match i, hk with
      | 0, hk => cases hk; exact hr0
      | i + 1, hk => cases hk
  · intro q hq hst K' B' L' f' ν μ h1 h2 h3 h4 h5
    have e0 : ν 0 = v0 := h4 0 (by decide)
    have e1 : ν 1 = v1 := h4 1 (by decide)
    have e2 : ν 2 = v2 := h4 2 (by decide)
    have d0 : μ 0 = r0 := h5 0 (by decide)
    subst e0
    subst e1
    subst e2
    subst d0
    replace hq : q ∈ u_nf48 := hq
    unfold u_nf48 at hq
    simp only [List.mem_cons, List.not_mem_nil, or_false] at hq
    rcases hq with rfl
    · have hst2 : eW E 0 0 L' f' 49 [(0, .ref (μ 0)), (1, .int (Int32.ofInt (0 + (1 * ν 0 + 0)))), (2, .int (Int32.ofInt (0 + (1 * ν 1 + 0)))), (3, .int (Int32.ofInt (0 + (1 * ν 2 + 0))))] [.int (Int32.ofInt (0 + (1 * ν 2 + 0)))] := ?_
      · exact hst2
      try simp only [Int.zero_add, Int.one_mul, Int.add_zero]
      exact k49 K' B' L' f'   h1 h2 (h3.1 0) (h3.1 1) (h3.1 2) (h3.2.2.2.1 0 200 rfl)

/-! cr0: from 0 to [34, 38] -/
def w_cr0 : TP := ([(0, (2, 0, (0, []))), (1, (0, 0, (0, [(1, 0)]))), (2, (0, 0, (0, [(1, 1)]))), (3, (0, 0, (0, [(1, 2)]))), (4, (0, 0, (0, [(1, 3)])))], [], ([((-2147483648), 2147483647), ((-2147483648), 2147483647), ((-2147483648), 2147483647), ((-2147483648), 2147483647)], [], [], [200], [], [], []), [], [])
def u_cr0 : List (Nat × TP × EX × Nat × Nat) := [(34, ([(0, (2, 0, (0, []))), (1, (0, 0, (0, [(1, 0)]))), (2, (0, 0, (0, [(1, 1)]))), (3, (0, 0, (0, [(1, 2)]))), (4, (0, 0, (0, [(1, 3)])))], [(0, 0, ((-1), []))], ([((-2147483648), 2147483647), ((-2147483648), 2147483647), ((-2147483648), 2147483647), ((-2147483648), 2147483647)], [], [], [200], [], [], []), [], []), ((-1), []), 0, 0), (38, ([(0, (2, 0, (0, []))), (1, (0, 0, (0, [(1, 0)]))), (2, (0, 0, (0, [(1, 1)]))), (3, (0, 0, (0, [(1, 2)]))), (4, (0, 0, (0, [(1, 3)])))], [(0, 0, (0, [(1, 2)])), (0, 0, (0, [(1, 1)])), (2, 0, (0, []))], ([(0, 5), (0, 5), (0, 999), ((-1), 2147483647), (1, 6)], [((-1), [((-1), 1), (1, 4)]), ((-1), [((-1), 0), (1, 4)])], [], [200], [((201, (0, [])), (0, [(1, 4)]))], [], []), [(2, 201, (0, []))], []), ((-1), []), 0, 0)]
def D_cr0 : DT := (mkD iX12_cross fX12 lX12 kX12 kkX12 342 [(2, [332]), (10, [332]), (21, [290])] (w_cr0, [], [], 6, 0, 0, 3) false 8 u_cr0)
theorem k_cr0 : chkS D_cr0 4000 0 0 0 = true := by decide +kernel
theorem s_cr0 {X0 : zC0} {E : zCx} (H : ∀ j, j < 342 → CMj X0 j) (hE : zOk E X0 RX12 cX12_cross 8 (zrm 6 0 0)) {K : Nat → Nat} {B : Int} {L : List Nat} {f : Nat → va_E} (hh : hok X0.2.2.1 K B L f) {v0 v1 v2 v3 : Int} {r0 : Nat} (hb0 : (-2147483648) ≤ v0 ∧ v0 ≤ 2147483647) (hb1 : (-2147483648) ≤ v1 ∧ v1 ≤ 2147483647) (hb2 : (-2147483648) ≤ v2 ∧ v2 ≤ 2147483647) (hb3 : (-2147483648) ≤ v3 ∧ v3 ≤ 2147483647) (hr0 : r0 ∈ L ∧ K r0 = 200) (k34 : ∀ (K' : Nat → Nat) (B' : Int) (L' : List Nat) (f' : Nat → va_E), hok X0.2.2.1 K' B' L' f' → extC [] K B L f K' B' L' f' → ((-2147483648) ≤ v0 ∧ v0 ≤ 2147483647) → ((-2147483648) ≤ v1 ∧ v1 ≤ 2147483647) → ((-2147483648) ≤ v2 ∧ v2 ≤ 2147483647) → ((-2147483648) ≤ v3 ∧ v3 ≤ 2147483647) → (r0 ∈ L' ∧ K' r0 = 200) → eW E 0 0 L' f' 34 [(0, .ref r0), (1, .int (Int32.ofInt v0)), (2, .int (Int32.ofInt v1)), (3, .int (Int32.ofInt v2)), (4, .int (Int32.ofInt v3))] [.int (Int32.ofInt (-1))]) (k38 : ∀ (K' : Nat → Nat) (B' : Int) (L' : List Nat) (f' : Nat → va_E) (v4 : Int), hok X0.2.2.1 K' B' L' f' → extC [] K B L f K' B' L' f' → (0 ≤ v0 ∧ v0 ≤ 5) → (0 ≤ v1 ∧ v1 ≤ 5) → (0 ≤ v2 ∧ v2 ≤ 999) → ((-1) ≤ v3 ∧ v3 ≤ 2147483647) → (1 ≤ v4 ∧ v4 ≤ 6) → (0 ≤ ((-1) + ((-1) * v1 + v4))) → (0 ≤ ((-1) + ((-1) * v0 + v4))) → (r0 ∈ L' ∧ K' r0 = 200) → (∀ b ∈ L', K' b = 201 → (0 : Int) ≤ 0 ∧ gi (f' b) ((0 : Int)).toNat = v4) → eW E 0 0 L' f' 38 [(0, .ref r0), (1, .int (Int32.ofInt v0)), (2, .int (Int32.ofInt v1)), (3, .int (Int32.ofInt v2)), (4, .int (Int32.ofInt v3))] [.int (Int32.ofInt v2), .int (Int32.ofInt v1), .ref r0]) : eW E 0 0 L f 0 [(0, .ref r0), (1, .int (Int32.ofInt v0)), (2, .int (Int32.ofInt v1)), (3, .int (Int32.ofInt v2)), (4, .int (Int32.ofInt v3))] [] := by
  obtain ⟨l0, D0, cy0, ax0⟩ := X0
  have hraw : eW E 0 0 L f 0 [(0, .ref r0), (1, .int (Int32.ofInt (0 + (1 * v0 + 0)))), (2, .int (Int32.ofInt (0 + (1 * v1 + 0)))), (3, .int (Int32.ofInt (0 + (1 * v2 + 0)))), (4, .int (Int32.ofInt (0 + (1 * v3 + 0))))] [] := ?_
  · simpa only [Int.zero_add, Int.one_mul, Int.add_zero] using hraw
  refine seg_ok (D := D_cr0) (νi := fun i => [v0, v1, v2, v3].getD i 0) (μi := fun i => [r0].getD i 0) k_cr0 hE (mk_ok (ins := iX12_cross) jX12_cross fX12_ok lX12_ok kX12_ok kkX12_ok H) (by decide) rfl rfl rfl rfl hh ?_ ?_
  · refine ⟨(eok_of (fun i q hq => ?_) (fun i hi => ?_)), fa0, fa0, ?_, fa0, fa0, fa0⟩
    · match i, hq with
      | 0, hq => cases hq; exact hb0
      | 1, hq => cases hq; exact hb1
      | 2, hq => cases hq; exact hb2
      | 3, hq => cases hq; exact hb3
      | i + 4, hq => cases hq
    · match i, hi with
      | 0, hi => exact absurd hi (by decide)
      | 1, hi => exact absurd hi (by decide)
      | 2, hi => exact absurd hi (by decide)
      | 3, hi => exact absurd hi (by decide)
      | i + 4, _ => rfl
    · intro i k hk
      match i, hk with
      | 0, hk => cases hk; exact hr0
      | i + 1, hk => cases hk
  · intro q hq hst K' B' L' f' ν μ h1 h2 h3 h4 h5
    have e0 : ν 0 = v0 := h4 0 (by decide)
    have e1 : ν 1 = v1 := h4 1 (by decide)
    have e2 : ν 2 = v2 := h4 2 (by decide)
    have e3 : ν 3 = v3 := h4 3 (by decide)
    have d0 : μ 0 = r0 := h5 0 (by decide)
    subst e0
    subst e1
    subst e2
    subst e3
    subst d0
    replace hq : q ∈ u_cr0 := hq
    unfold u_cr0 at hq
    simp only [List.mem_cons, List.not_mem_nil, or_false] at hq
    rcases hq with rfl | rfl
    · have hst2 : eW E 0 0 L' f' 34 [(0, .ref (μ 0)), (1, .int (Int32.ofInt (0 + (1 * ν 0 + 0)))), (2, .int (Int32.ofInt (0 + (1 * ν 1 + 0)))), (3, .int (Int32.ofInt (0 + (1 * ν 2 + 0)))), (4, .int (Int32.ofInt (0 + (1 * ν 3 + 0))))] [.int (Int32.ofInt ((-1) + 0))] := ?_
      · exact hst2
      try simp only [Int.zero_add, Int.one_mul, Int.add_zero]
      exact k34 K' B' L' f'   h1 h2 (h3.1 0) (h3.1 1) (h3.1 2) (h3.1 3) (h3.2.2.2.1 0 200 rfl)
    · have hst2 : eW E 0 0 L' f' 38 [(0, .ref (μ 0)), (1, .int (Int32.ofInt (0 + (1 * ν 0 + 0)))), (2, .int (Int32.ofInt (0 + (1 * ν 1 + 0)))), (3, .int (Int32.ofInt (0 + (1 * ν 2 + 0)))), (4, .int (Int32.ofInt (0 + (1 * ν 3 + 0))))] [.int (Int32.ofInt (0 + (1 * ν 2 + 0))), .int (Int32.ofInt (0 + (1 * ν 1 + 0))), .ref (μ 0)] := ?_
      · exact hst2
      try simp only [Int.zero_add, Int.one_mul, Int.add_zero]
      exact k38 K' B' L' f' (ν 4)  h1 h2 (h3.1 0) (h3.1 1) (h3.1 2) (h3.1 3) (h3.1 4) (by simpa only [xv, xvT, Int.zero_add, Int.one_mul, Int.add_zero] using (h3.2.1 _ (List.mem_of_getElem? (i := 0) rfl))) (by simpa only [xv, xvT, Int.zero_add, Int.one_mul, Int.add_zero] using (h3.2.1 _ (List.mem_of_getElem? (i := 1) rfl))) (h3.2.2.2.1 0 200 rfl) (by simpa only [xv, xvT, Int.zero_add, Int.one_mul, Int.add_zero] using (mokA h1 (show (zkd 201).1 = 2 by decide) (by decide) (h3.2.2.2.2.1 _ (List.mem_of_getElem? (i := 0) rfl))))

/-! cr41: from 41 to [58, 67, 76, 77] -/
def w_cr41 : TP := ([(0, (2, 0, (0, []))), (1, (0, 0, (0, [(1, 0)]))), (2, (0, 0, (0, [(1, 1)]))), (3, (0, 0, (0, [(1, 2)]))), (4, (0, 0, (0, [(1, 3)])))], [], ([(0, 5), (0, 5), (0, 999), ((-1), 2147483647), (0, 1000000)], [], [], [200], [((226, (0, [(1, 0)])), (0, [(1, 4)]))], [], []), [], [])
def u_cr41 : List (Nat × TP × EX × Nat × Nat) := [(58, ([(0, (2, 0, (0, []))), (1, (0, 0, (0, [(1, 0)]))), (2, (0, 0, (0, [(1, 1)]))), (3, (0, 0, (0, [(1, 2)]))), (4, (0, 0, (0, [(1, 3)]))), (5, (0, 0, (0, [(1, 4)])))], [(0, 0, ((-1), []))], ([(0, 5), (0, 5), (0, 999), ((-1), 2147483647), (1000000, 1000000)], [], [], [200], [((226, (0, [(1, 0)])), (0, [(1, 4)]))], [], []), [], []), ((-1), []), 0, 0), (67, ([(0, (2, 0, (0, []))), (1, (0, 0, (0, [(1, 0)]))), (2, (0, 0, (0, [(1, 1)]))), (3, (0, 0, (0, [(1, 2)]))), (4, (0, 0, (0, [(1, 3)]))), (5, (0, 0, (0, [(1, 4)])))], [(0, 0, (0, [(1, 4)]))], ([(0, 5), (0, 5), (0, 999), ((-1), (-1)), (0, 999999)], [], [], [200], [((226, (0, [(1, 0)])), (0, [(1, 4)]))], [], []), [], []), ((-1), []), 0, 0), (76, ([(0, (2, 0, (0, []))), (1, (0, 0, (0, [(1, 0)]))), (2, (0, 0, (0, [(1, 1)]))), (3, (0, 0, (0, [(1, 2)]))), (4, (0, 0, (0, [(1, 3)]))), (5, (0, 0, (0, [(1, 4)])))], [(0, 0, ((-1), []))], ([(0, 5), (0, 5), (0, 999), (0, 2147483647), (0, 999999)], [(0, [(1, 3), ((-1), 4)])], [], [200], [((226, (0, [(1, 0)])), (0, [(1, 4)]))], [], []), [], []), ((-1), []), 0, 0), (77, ([(0, (2, 0, (0, []))), (1, (0, 0, (0, [(1, 0)]))), (2, (0, 0, (0, [(1, 1)]))), (3, (0, 0, (0, [(1, 2)]))), (4, (0, 0, (0, [(1, 3)]))), (5, (0, 0, (0, [(1, 4)])))], [], ([(0, 5), (0, 5), (0, 999), (0, 999998), (1, 999999)], [((-1), [((-1), 3), (1, 4)])], [], [200], [((226, (0, [(1, 0)])), (0, [(1, 4)]))], [], []), [], []), ((-1), []), 0, 0)]
def D_cr41 : DT := (mkD iX12_cross fX12 lX12 kX12 kkX12 342 [] (w_cr41, [], [], 6, 0, 0, 3) false 8 u_cr41)
theorem k_cr41 : chkS D_cr41 4000 0 0 41 = true := by decide +kernel
theorem s_cr41 {X0 : zC0} {E : zCx} (H : ∀ j, j < 342 → CMj X0 j) (hE : zOk E X0 RX12 cX12_cross 8 (zrm 6 0 0)) {K : Nat → Nat} {B : Int} {L : List Nat} {f : Nat → va_E} (hh : hok X0.2.2.1 K B L f) {v0 v1 v2 v3 v4 : Int} {r0 : Nat} (hb0 : 0 ≤ v0 ∧ v0 ≤ 5) (hb1 : 0 ≤ v1 ∧ v1 ≤ 5) (hb2 : 0 ≤ v2 ∧ v2 ≤ 999) (hb3 : (-1) ≤ v3 ∧ v3 ≤ 2147483647) (hb4 : 0 ≤ v4 ∧ v4 ≤ 1000000) (hr0 : r0 ∈ L ∧ K r0 = 200) (hm0 : (∀ b ∈ L, K b = 226 → (0 : Int) ≤ v0 ∧ gi (f b) ((v0 : Int)).toNat = v4)) (k58 : ∀ (K' : Nat → Nat) (B' : Int) (L' : List Nat) (f' : Nat → va_E), hok X0.2.2.1 K' B' L' f' → extC [] K B L f K' B' L' f' → (0 ≤ v0 ∧ v0 ≤ 5) → (0 ≤ v1 ∧ v1 ≤ 5) → (0 ≤ v2 ∧ v2 ≤ 999) → ((-1) ≤ v3 ∧ v3 ≤ 2147483647) → (1000000 ≤ v4 ∧ v4 ≤ 1000000) → (r0 ∈ L' ∧ K' r0 = 200) → (∀ b ∈ L', K' b = 226 → (0 : Int) ≤ v0 ∧ gi (f' b) ((v0 : Int)).toNat = v4) → eW E 0 0 L' f' 58 [(0, .ref r0), (1, .int (Int32.ofInt v0)), (2, .int (Int32.ofInt v1)), (3, .int (Int32.ofInt v2)), (4, .int (Int32.ofInt v3)), (5, .int (Int32.ofInt v4))] [.int (Int32.ofInt (-1))]) (k67 : ∀ (K' : Nat → Nat) (B' : Int) (L' : List Nat) (f' : Nat → va_E), hok X0.2.2.1 K' B' L' f' → extC [] K B L f K' B' L' f' → (0 ≤ v0 ∧ v0 ≤ 5) → (0 ≤ v1 ∧ v1 ≤ 5) → (0 ≤ v2 ∧ v2 ≤ 999) → ((-1) ≤ v3 ∧ v3 ≤ (-1)) → (0 ≤ v4 ∧ v4 ≤ 999999) → (r0 ∈ L' ∧ K' r0 = 200) → (∀ b ∈ L', K' b = 226 → (0 : Int) ≤ v0 ∧ gi (f' b) ((v0 : Int)).toNat = v4) → eW E 0 0 L' f' 67 [(0, .ref r0), (1, .int (Int32.ofInt v0)), (2, .int (Int32.ofInt v1)), (3, .int (Int32.ofInt v2)), (4, .int (Int32.ofInt v3)), (5, .int (Int32.ofInt v4))] [.int (Int32.ofInt v4)]) (k76 : ∀ (K' : Nat → Nat) (B' : Int) (L' : List Nat) (f' : Nat → va_E), hok X0.2.2.1 K' B' L' f' → extC [] K B L f K' B' L' f' → (0 ≤ v0 ∧ v0 ≤ 5) → (0 ≤ v1 ∧ v1 ≤ 5) → (0 ≤ v2 ∧ v2 ≤ 999) → (0 ≤ v3 ∧ v3 ≤ 2147483647) → (0 ≤ v4 ∧ v4 ≤ 999999) → (0 ≤ (v3 + ((-1) * v4))) → (r0 ∈ L' ∧ K' r0 = 200) → (∀ b ∈ L', K' b = 226 → (0 : Int) ≤ v0 ∧ gi (f' b) ((v0 : Int)).toNat = v4) → eW E 0 0 L' f' 76 [(0, .ref r0), (1, .int (Int32.ofInt v0)), (2, .int (Int32.ofInt v1)), (3, .int (Int32.ofInt v2)), (4, .int (Int32.ofInt v3)), (5, .int (Int32.ofInt v4))] [.int (Int32.ofInt (-1))]) (k77 : ∀ (K' : Nat → Nat) (B' : Int) (L' : List Nat) (f' : Nat → va_E), hok X0.2.2.1 K' B' L' f' → extC [] K B L f K' B' L' f' → (0 ≤ v0 ∧ v0 ≤ 5) → (0 ≤ v1 ∧ v1 ≤ 5) → (0 ≤ v2 ∧ v2 ≤ 999) → (0 ≤ v3 ∧ v3 ≤ 999998) → (1 ≤ v4 ∧ v4 ≤ 999999) → (0 ≤ ((-1) + ((-1) * v3 + v4))) → (r0 ∈ L' ∧ K' r0 = 200) → (∀ b ∈ L', K' b = 226 → (0 : Int) ≤ v0 ∧ gi (f' b) ((v0 : Int)).toNat = v4) → eW E 0 0 L' f' 77 [(0, .ref r0), (1, .int (Int32.ofInt v0)), (2, .int (Int32.ofInt v1)), (3, .int (Int32.ofInt v2)), (4, .int (Int32.ofInt v3)), (5, .int (Int32.ofInt v4))] []) : eW E 0 0 L f 41 [(0, .ref r0), (1, .int (Int32.ofInt v0)), (2, .int (Int32.ofInt v1)), (3, .int (Int32.ofInt v2)), (4, .int (Int32.ofInt v3))] [] := by
  obtain ⟨l0, D0, cy0, ax0⟩ := X0
  have hraw : eW E 0 0 L f 41 [(0, .ref r0), (1, .int (Int32.ofInt (0 + (1 * v0 + 0)))), (2, .int (Int32.ofInt (0 + (1 * v1 + 0)))), (3, .int (Int32.ofInt (0 + (1 * v2 + 0)))), (4, .int (Int32.ofInt (0 + (1 * v3 + 0))))] [] := ?_
  · simpa only [Int.zero_add, Int.one_mul, Int.add_zero] using hraw
  have rm0 : (∀ b ∈ L, K b = 226 → (0 : Int) ≤ (0 + (1 * v0 + 0)) ∧ gi (f b) (((0 + (1 * v0 + 0)) : Int)).toNat = (0 + (1 * v4 + 0))) := by simpa only [Int.zero_add, Int.one_mul, Int.add_zero] using hm0
  refine seg_ok (D := D_cr41) (νi := fun i => [v0, v1, v2, v3, v4].getD i 0) (μi := fun i => [r0].getD i 0) k_cr41 hE (mk_ok (ins := iX12_cross) jX12_cross fX12_ok lX12_ok kX12_ok kkX12_ok H) (by decide) rfl rfl rfl rfl hh ?_ ?_
  · refine ⟨(eok_of (fun i q hq => ?_) (fun i hi => ?_)), fa0, fa0, ?_, (fa_cons (Amok hh (show (zkd 226).1 = 2 by decide) (by decide) rm0) fa0), fa0, fa0⟩
    · match i, hq with
      | 0, hq => cases hq; exact hb0
      | 1, hq => cases hq; exact hb1
      | 2, hq => cases hq; exact hb2
      | 3, hq => cases hq; exact hb3
      | 4, hq => cases hq; exact hb4
      | i + 5, hq => cases hq
    · match i, hi with
      | 0, hi => exact absurd hi (by decide)
      | 1, hi => exact absurd hi (by decide)
      | 2, hi => exact absurd hi (by decide)
      | 3, hi => exact absurd hi (by decide)
      | 4, hi => exact absurd hi (by decide)
      | i + 5, _ => rfl
    · intro i k hk
      match i, hk with
      | 0, hk => cases hk; exact hr0
      | i + 1, hk => cases hk
  · intro q hq hst K' B' L' f' ν μ h1 h2 h3 h4 h5
    have e0 : ν 0 = v0 := h4 0 (by decide)
    have e1 : ν 1 = v1 := h4 1 (by decide)
    have e2 : ν 2 = v2 := h4 2 (by decide)
    have e3 : ν 3 = v3 := h4 3 (by decide)
    have e4 : ν 4 = v4 := h4 4 (by decide)
    have d0 : μ 0 = r0 := h5 0 (by decide)
    subst e0
    subst e1
    subst e2
    subst e3
    subst e4
    subst d0
    replace hq : q ∈ u_cr41 := hq
    unfold u_cr41 at hq
    simp only [List.mem_cons, List.not_mem_nil, or_false] at hq
    rcases hq with rfl | rfl | rfl | rfl
    · have hst2 : eW E 0 0 L' f' 58 [(0, .ref (μ 0)), (1, .int (Int32.ofInt (0 + (1 * ν 0 + 0)))), (2, .int (Int32.ofInt (0 + (1 * ν 1 + 0)))), (3, .int (Int32.ofInt (0 + (1 * ν 2 + 0)))), (4, .int (Int32.ofInt (0 + (1 * ν 3 + 0)))), (5, .int (Int32.ofInt (0 + (1 * ν 4 + 0))))] [.int (Int32.ofInt ((-1) + 0))] := ?_
      · exact hst2
      try simp only [Int.zero_add, Int.one_mul, Int.add_zero]
      exact k58 K' B' L' f'   h1 h2 (h3.1 0) (h3.1 1) (h3.1 2) (h3.1 3) (h3.1 4) (h3.2.2.2.1 0 200 rfl) (by simpa only [xv, xvT, Int.zero_add, Int.one_mul, Int.add_zero] using (mokA h1 (show (zkd 226).1 = 2 by decide) (by decide) (h3.2.2.2.2.1 _ (List.mem_of_getElem? (i := 0) rfl))))
    · have hst2 : eW E 0 0 L' f' 67 [(0, .ref (μ 0)), (1, .int (Int32.ofInt (0 + (1 * ν 0 + 0)))), (2, .int (Int32.ofInt (0 + (1 * ν 1 + 0)))), (3, .int (Int32.ofInt (0 + (1 * ν 2 + 0)))), (4, .int (Int32.ofInt (0 + (1 * ν 3 + 0)))), (5, .int (Int32.ofInt (0 + (1 * ν 4 + 0))))] [.int (Int32.ofInt (0 + (1 * ν 4 + 0)))] := ?_
      · exact hst2
      try simp only [Int.zero_add, Int.one_mul, Int.add_zero]
      exact k67 K' B' L' f'   h1 h2 (h3.1 0) (h3.1 1) (h3.1 2) (h3.1 3) (h3.1 4) (h3.2.2.2.1 0 200 rfl) (by simpa only [xv, xvT, Int.zero_add, Int.one_mul, Int.add_zero] using (mokA h1 (show (zkd 226).1 = 2 by decide) (by decide) (h3.2.2.2.2.1 _ (List.mem_of_getElem? (i := 0) rfl))))
    · have hst2 : eW E 0 0 L' f' 76 [(0, .ref (μ 0)), (1, .int (Int32.ofInt (0 + (1 * ν 0 + 0)))), (2, .int (Int32.ofInt (0 + (1 * ν 1 + 0)))), (3, .int (Int32.ofInt (0 + (1 * ν 2 + 0)))), (4, .int (Int32.ofInt (0 + (1 * ν 3 + 0)))), (5, .int (Int32.ofInt (0 + (1 * ν 4 + 0))))] [.int (Int32.ofInt ((-1) + 0))] := ?_
      · exact hst2
      try simp only [Int.zero_add, Int.one_mul, Int.add_zero]
      exact k76 K' B' L' f'   h1 h2 (h3.1 0) (h3.1 1) (h3.1 2) (h3.1 3) (h3.1 4) (by simpa only [xv, xvT, Int.zero_add, Int.one_mul, Int.add_zero] using (h3.2.1 _ (List.mem_of_getElem? (i := 0) rfl))) (h3.2.2.2.1 0 200 rfl) (by simpa only [xv, xvT, Int.zero_add, Int.one_mul, Int.add_zero] using (mokA h1 (show (zkd 226).1 = 2 by decide) (by decide) (h3.2.2.2.2.1 _ (List.mem_of_getElem? (i := 0) rfl))))
    · have hst2 : eW E 0 0 L' f' 77 [(0, .ref (μ 0)), (1, .int (Int32.ofInt (0 + (1 * ν 0 + 0)))), (2, .int (Int32.ofInt (0 + (1 * ν 1 + 0)))), (3, .int (Int32.ofInt (0 + (1 * ν 2 + 0)))), (4, .int (Int32.ofInt (0 + (1 * ν 3 + 0)))), (5, .int (Int32.ofInt (0 + (1 * ν 4 + 0))))] [] := ?_
      · exact hst2
      try simp only [Int.zero_add, Int.one_mul, Int.add_zero]
      exact k77 K' B' L' f'   h1 h2 (h3.1 0) (h3.1 1) (h3.1 2) (h3.1 3) (h3.1 4) (by simpa only [xv, xvT, Int.zero_add, Int.one_mul, Int.add_zero] using (h3.2.1 _ (List.mem_of_getElem? (i := 0) rfl))) (h3.2.2.2.1 0 200 rfl) (by simpa only [xv, xvT, Int.zero_add, Int.one_mul, Int.add_zero] using (mokA h1 (show (zkd 226).1 = 2 by decide) (by decide) (h3.2.2.2.2.1 _ (List.mem_of_getElem? (i := 0) rfl))))

/-! cr77: from 77 to [83] -/
def w_cr77 : TP := ([(0, (2, 0, (0, []))), (1, (0, 0, (0, [(1, 0)]))), (2, (0, 0, (0, [(1, 1)]))), (3, (0, 0, (0, [(1, 2)]))), (4, (0, 0, (0, [(1, 3)]))), (5, (0, 0, (0, [(1, 4)])))], [], ([(0, 5), (0, 5), (0, 999), ((-1), 2147483647), (0, 999999)], [], [], [200], [], [], []), [], [])
def u_cr77 : List (Nat × TP × EX × Nat × Nat) := [(83, ([(0, (2, 0, (0, []))), (1, (0, 0, (0, [(1, 0)]))), (2, (0, 0, (0, [(1, 1)]))), (3, (0, 0, (0, [(1, 2)]))), (4, (0, 0, (0, [(1, 3)]))), (5, (0, 0, (0, [(1, 4)]))), (6, (0, 0, (0, [(1, 0)]))), (7, (0, 0, (0, [])))], [], ([(0, 5), (0, 5), (0, 999), ((-1), 2147483647), (0, 999999)], [], [], [200], [], [], []), [], []), ((-1), []), 0, 0)]
def D_cr77 : DT := (mkD iX12_cross fX12 lX12 kX12 kkX12 342 [] (w_cr77, [], [], 6, 0, 0, 3) false 8 u_cr77)
theorem k_cr77 : chkS D_cr77 4000 0 0 77 = true := by decide +kernel
theorem s_cr77 {X0 : zC0} {E : zCx} (H : ∀ j, j < 342 → CMj X0 j) (hE : zOk E X0 RX12 cX12_cross 8 (zrm 6 0 0)) {K : Nat → Nat} {B : Int} {L : List Nat} {f : Nat → va_E} (hh : hok X0.2.2.1 K B L f) {v0 v1 v2 v3 v4 : Int} {r0 : Nat} (hb0 : 0 ≤ v0 ∧ v0 ≤ 5) (hb1 : 0 ≤ v1 ∧ v1 ≤ 5) (hb2 : 0 ≤ v2 ∧ v2 ≤ 999) (hb3 : (-1) ≤ v3 ∧ v3 ≤ 2147483647) (hb4 : 0 ≤ v4 ∧ v4 ≤ 999999) (hr0 : r0 ∈ L ∧ K r0 = 200) (k83 : ∀ (K' : Nat → Nat) (B' : Int) (L' : List Nat) (f' : Nat → va_E), hok X0.2.2.1 K' B' L' f' → extC [] K B L f K' B' L' f' → (0 ≤ v0 ∧ v0 ≤ 5) → (0 ≤ v1 ∧ v1 ≤ 5) → (0 ≤ v2 ∧ v2 ≤ 999) → ((-1) ≤ v3 ∧ v3 ≤ 2147483647) → (0 ≤ v4 ∧ v4 ≤ 999999) → (r0 ∈ L' ∧ K' r0 = 200) → eW E 0 0 L' f' 83 [(0, .ref r0), (1, .int (Int32.ofInt v0)), (2, .int (Int32.ofInt v1)), (3, .int (Int32.ofInt v2)), (4, .int (Int32.ofInt v3)), (5, .int (Int32.ofInt v4)), (6, .int (Int32.ofInt v0)), (7, .int (Int32.ofInt 0))] []) : eW E 0 0 L f 77 [(0, .ref r0), (1, .int (Int32.ofInt v0)), (2, .int (Int32.ofInt v1)), (3, .int (Int32.ofInt v2)), (4, .int (Int32.ofInt v3)), (5, .int (Int32.ofInt v4))] [] := by
  obtain ⟨l0, D0, cy0, ax0⟩ := X0
  have hraw : eW E 0 0 L f 77 [(0, .ref r0), (1, .int (Int32.ofInt (0 + (1 * v0 + 0)))), (2, .int (Int32.ofInt (0 + (1 * v1 + 0)))), (3, .int (Int32.ofInt (0 + (1 * v2 + 0)))), (4, .int (Int32.ofInt (0 + (1 * v3 + 0)))), (5, .int (Int32.ofInt (0 + (1 * v4 + 0))))] [] := ?_
  · simpa only [Int.zero_add, Int.one_mul, Int.add_zero] using hraw
  refine seg_ok (D := D_cr77) (νi := fun i => [v0, v1, v2, v3, v4].getD i 0) (μi := fun i => [r0].getD i 0) k_cr77 hE (mk_ok (ins := iX12_cross) jX12_cross fX12_ok lX12_ok kX12_ok kkX12_ok H) (by decide) rfl rfl rfl rfl hh ?_ ?_
  · refine ⟨(eok_of (fun i q hq => ?_) (fun i hi => ?_)), fa0, fa0, ?_, fa0, fa0, fa0⟩
    · match i, hq with
      | 0, hq => cases hq; exact hb0
      | 1, hq => cases hq; exact hb1
      | 2, hq => cases hq; exact hb2
      | 3, hq => cases hq; exact hb3
      | 4, hq => cases hq; exact hb4
      | i + 5, hq => cases hq
    · match i, hi with
      | 0, hi => exact absurd hi (by decide)
      | 1, hi => exact absurd hi (by decide)
      | 2, hi => exact absurd hi (by decide)
      | 3, hi => exact absurd hi (by decide)
      | 4, hi => exact absurd hi (by decide)
      | i + 5, _ => rfl
    · intro i k hk
      match i, hk with
      | 0, hk => cases hk; exact hr0
      | i + 1, hk => cases hk
  · intro q hq hst K' B' L' f' ν μ h1 h2 h3 h4 h5
    have e0 : ν 0 = v0 := h4 0 (by decide)
    have e1 : ν 1 = v1 := h4 1 (by decide)
    have e2 : ν 2 = v2 := h4 2 (by decide)
    have e3 : ν 3 = v3 := h4 3 (by decide)
    have e4 : ν 4 = v4 := h4 4 (by decide)
    have d0 : μ 0 = r0 := h5 0 (by decide)
    subst e0
    subst e1
    subst e2
    subst e3
    subst e4
    subst d0
    replace hq : q ∈ u_cr77 := hq
    unfold u_cr77 at hq
    simp only [List.mem_cons, List.not_mem_nil, or_false] at hq
    rcases hq with rfl
    · have hst2 : eW E 0 0 L' f' 83 [(0, .ref (μ 0)), (1, .int (Int32.ofInt (0 + (1 * ν 0 + 0)))), (2, .int (Int32.ofInt (0 + (1 * ν 1 + 0)))), (3, .int (Int32.ofInt (0 + (1 * ν 2 + 0)))), (4, .int (Int32.ofInt (0 + (1 * ν 3 + 0)))), (5, .int (Int32.ofInt (0 + (1 * ν 4 + 0)))), (6, .int (Int32.ofInt (0 + (1 * ν 0 + 0)))), (7, .int (Int32.ofInt (0 + 0)))] [] := ?_
      · exact hst2
      try simp only [Int.zero_add, Int.one_mul, Int.add_zero]
      exact k83 K' B' L' f'   h1 h2 (h3.1 0) (h3.1 1) (h3.1 2) (h3.1 3) (h3.1 4) (h3.2.2.2.1 0 200 rfl)

/-! cr83: from 83 to [94, 105] -/
def w_cr83 : TP := ([(0, (2, 0, (0, []))), (1, (0, 0, (0, [(1, 0)]))), (2, (0, 0, (0, [(1, 1)]))), (3, (0, 0, (0, [(1, 2)]))), (4, (0, 0, (0, [(1, 3)]))), (5, (0, 0, (0, [(1, 4)]))), (6, (0, 0, (0, [(1, 5)]))), (7, (0, 0, (0, [(1, 6)])))], [], ([(0, 5), (0, 5), (0, 999), ((-1), 2147483647), (0, 999999), (0, 5), (0, 1000000)], [], [], [200], [], [], []), [], [])
def u_cr83 : List (Nat × TP × EX × Nat × Nat) := [(94, ([(0, (2, 0, (0, []))), (1, (0, 0, (0, [(1, 0)]))), (2, (0, 0, (0, [(1, 1)]))), (3, (0, 0, (0, [(1, 2)]))), (4, (0, 0, (0, [(1, 3)]))), (5, (0, 0, (0, [(1, 4)]))), (6, (0, 0, (0, [(1, 5)]))), (7, (0, 0, (0, [(1, 6)])))], [(0, 0, (0, [(1, 2)])), (0, 0, (0, [(1, 5)])), (2, 0, (0, []))], ([(0, 5), (0, 5), (0, 999), (0, 2147483647), (0, 999999), (0, 5), (0, 1000000)], [(0, [((-1), 6), (1, 3)])], [], [200], [], [], []), [], []), ((-1), []), 0, 0), (105, ([(0, (2, 0, (0, []))), (1, (0, 0, (0, [(1, 0)]))), (2, (0, 0, (0, [(1, 1)]))), (3, (0, 0, (0, [(1, 2)]))), (4, (0, 0, (0, [(1, 3)]))), (5, (0, 0, (0, [(1, 4)]))), (6, (0, 0, (0, [(1, 5)]))), (7, (0, 0, (0, [(1, 6)])))], [], ([(0, 5), (0, 5), (0, 999), ((-1), 999999), (0, 999999), (0, 5), (0, 1000000)], [((-1), [(1, 6), ((-1), 3)])], [], [200], [], [], []), [], []), ((-1), []), 0, 0)]
def D_cr83 : DT := (mkD iX12_cross fX12 lX12 kX12 kkX12 342 [] (w_cr83, [], [], 6, 0, 0, 3) false 8 u_cr83)
theorem k_cr83 : chkS D_cr83 4000 0 0 83 = true := by decide +kernel
theorem s_cr83 {X0 : zC0} {E : zCx} (H : ∀ j, j < 342 → CMj X0 j) (hE : zOk E X0 RX12 cX12_cross 8 (zrm 6 0 0)) {K : Nat → Nat} {B : Int} {L : List Nat} {f : Nat → va_E} (hh : hok X0.2.2.1 K B L f) {v0 v1 v2 v3 v4 v5 v6 : Int} {r0 : Nat} (hb0 : 0 ≤ v0 ∧ v0 ≤ 5) (hb1 : 0 ≤ v1 ∧ v1 ≤ 5) (hb2 : 0 ≤ v2 ∧ v2 ≤ 999) (hb3 : (-1) ≤ v3 ∧ v3 ≤ 2147483647) (hb4 : 0 ≤ v4 ∧ v4 ≤ 999999) (hb5 : 0 ≤ v5 ∧ v5 ≤ 5) (hb6 : 0 ≤ v6 ∧ v6 ≤ 1000000) (hr0 : r0 ∈ L ∧ K r0 = 200) (k94 : ∀ (K' : Nat → Nat) (B' : Int) (L' : List Nat) (f' : Nat → va_E), hok X0.2.2.1 K' B' L' f' → extC [] K B L f K' B' L' f' → (0 ≤ v0 ∧ v0 ≤ 5) → (0 ≤ v1 ∧ v1 ≤ 5) → (0 ≤ v2 ∧ v2 ≤ 999) → (0 ≤ v3 ∧ v3 ≤ 2147483647) → (0 ≤ v4 ∧ v4 ≤ 999999) → (0 ≤ v5 ∧ v5 ≤ 5) → (0 ≤ v6 ∧ v6 ≤ 1000000) → (0 ≤ ((-1) * v6 + v3)) → (r0 ∈ L' ∧ K' r0 = 200) → eW E 0 0 L' f' 94 [(0, .ref r0), (1, .int (Int32.ofInt v0)), (2, .int (Int32.ofInt v1)), (3, .int (Int32.ofInt v2)), (4, .int (Int32.ofInt v3)), (5, .int (Int32.ofInt v4)), (6, .int (Int32.ofInt v5)), (7, .int (Int32.ofInt v6))] [.int (Int32.ofInt v2), .int (Int32.ofInt v5), .ref r0]) (k105 : ∀ (K' : Nat → Nat) (B' : Int) (L' : List Nat) (f' : Nat → va_E), hok X0.2.2.1 K' B' L' f' → extC [] K B L f K' B' L' f' → (0 ≤ v0 ∧ v0 ≤ 5) → (0 ≤ v1 ∧ v1 ≤ 5) → (0 ≤ v2 ∧ v2 ≤ 999) → ((-1) ≤ v3 ∧ v3 ≤ 999999) → (0 ≤ v4 ∧ v4 ≤ 999999) → (0 ≤ v5 ∧ v5 ≤ 5) → (0 ≤ v6 ∧ v6 ≤ 1000000) → (0 ≤ ((-1) + (v6 + ((-1) * v3)))) → (r0 ∈ L' ∧ K' r0 = 200) → eW E 0 0 L' f' 105 [(0, .ref r0), (1, .int (Int32.ofInt v0)), (2, .int (Int32.ofInt v1)), (3, .int (Int32.ofInt v2)), (4, .int (Int32.ofInt v3)), (5, .int (Int32.ofInt v4)), (6, .int (Int32.ofInt v5)), (7, .int (Int32.ofInt v6))] []) : eW E 0 0 L f 83 [(0, .ref r0), (1, .int (Int32.ofInt v0)), (2, .int (Int32.ofInt v1)), (3, .int (Int32.ofInt v2)), (4, .int (Int32.ofInt v3)), (5, .int (Int32.ofInt v4)), (6, .int (Int32.ofInt v5)), (7, .int (Int32.ofInt v6))] [] := by
  obtain ⟨l0, D0, cy0, ax0⟩ := X0
  have hraw : eW E 0 0 L f 83 [(0, .ref r0), (1, .int (Int32.ofInt (0 + (1 * v0 + 0)))), (2, .int (Int32.ofInt (0 + (1 * v1 + 0)))), (3, .int (Int32.ofInt (0 + (1 * v2 + 0)))), (4, .int (Int32.ofInt (0 + (1 * v3 + 0)))), (5, .int (Int32.ofInt (0 + (1 * v4 + 0)))), (6, .int (Int32.ofInt (0 + (1 * v5 + 0)))), (7, .int (Int32.ofInt (0 + (1 * v6 + 0))))] [] := ?_
  · simpa only [Int.zero_add, Int.one_mul, Int.add_zero] using hraw
  refine seg_ok (D := D_cr83) (νi := fun i => [v0, v1, v2, v3, v4, v5, v6].getD i 0) (μi := fun i => [r0].getD i 0) k_cr83 hE (mk_ok (ins := iX12_cross) jX12_cross fX12_ok lX12_ok kX12_ok kkX12_ok H) (by decide) rfl rfl rfl rfl hh ?_ ?_
  · refine ⟨(eok_of (fun i q hq => ?_) (fun i hi => ?_)), fa0, fa0, ?_, fa0, fa0, fa0⟩
    · match i, hq with
      | 0, hq => cases hq; exact hb0
      | 1, hq => cases hq; exact hb1
      | 2, hq => cases hq; exact hb2
      | 3, hq => cases hq; exact hb3
      | 4, hq => cases hq; exact hb4
      | 5, hq => cases hq; exact hb5
      | 6, hq => cases hq; exact hb6
      | i + 7, hq => cases hq
    · match i, hi with
      | 0, hi => exact absurd hi (by decide)
      | 1, hi => exact absurd hi (by decide)
      | 2, hi => exact absurd hi (by decide)
      | 3, hi => exact absurd hi (by decide)
      | 4, hi => exact absurd hi (by decide)
      | 5, hi => exact absurd hi (by decide)
      | 6, hi => exact absurd hi (by decide)
      | i + 7, _ => rfl
    · intro i k hk
      match i, hk with
      | 0, hk => cases hk; exact hr0
      | i + 1, hk => cases hk
  · intro q hq hst K' B' L' f' ν μ h1 h2 h3 h4 h5
    have e0 : ν 0 = v0 := h4 0 (by decide)
    have e1 : ν 1 = v1 := h4 1 (by decide)
    have e2 : ν 2 = v2 := h4 2 (by decide)
    have e3 : ν 3 = v3 := h4 3 (by decide)
    have e4 : ν 4 = v4 := h4 4 (by decide)
    have e5 : ν 5 = v5 := h4 5 (by decide)
    have e6 : ν 6 = v6 := h4 6 (by decide)
    have d0 : μ 0 = r0 := h5 0 (by decide)
    subst e0
    subst e1
    subst e2
    subst e3
    subst e4
    subst e5
    subst e6
    subst d0
    replace hq : q ∈ u_cr83 := hq
    unfold u_cr83 at hq
    simp only [List.mem_cons, List.not_mem_nil, or_false] at hq
    rcases hq with rfl | rfl
    · have hst2 : eW E 0 0 L' f' 94 [(0, .ref (μ 0)), (1, .int (Int32.ofInt (0 + (1 * ν 0 + 0)))), (2, .int (Int32.ofInt (0 + (1 * ν 1 + 0)))), (3, .int (Int32.ofInt (0 + (1 * ν 2 + 0)))), (4, .int (Int32.ofInt (0 + (1 * ν 3 + 0)))), (5, .int (Int32.ofInt (0 + (1 * ν 4 + 0)))), (6, .int (Int32.ofInt (0 + (1 * ν 5 + 0)))), (7, .int (Int32.ofInt (0 + (1 * ν 6 + 0))))] [.int (Int32.ofInt (0 + (1 * ν 2 + 0))), .int (Int32.ofInt (0 + (1 * ν 5 + 0))), .ref (μ 0)] := ?_
      · exact hst2
      try simp only [Int.zero_add, Int.one_mul, Int.add_zero]
      exact k94 K' B' L' f'   h1 h2 (h3.1 0) (h3.1 1) (h3.1 2) (h3.1 3) (h3.1 4) (h3.1 5) (h3.1 6) (by simpa only [xv, xvT, Int.zero_add, Int.one_mul, Int.add_zero] using (h3.2.1 _ (List.mem_of_getElem? (i := 0) rfl))) (h3.2.2.2.1 0 200 rfl)
    · have hst2 : eW E 0 0 L' f' 105 [(0, .ref (μ 0)), (1, .int (Int32.ofInt (0 + (1 * ν 0 + 0)))), (2, .int (Int32.ofInt (0 + (1 * ν 1 + 0)))), (3, .int (Int32.ofInt (0 + (1 * ν 2 + 0)))), (4, .int (Int32.ofInt (0 + (1 * ν 3 + 0)))), (5, .int (Int32.ofInt (0 + (1 * ν 4 + 0)))), (6, .int (Int32.ofInt (0 + (1 * ν 5 + 0)))), (7, .int (Int32.ofInt (0 + (1 * ν 6 + 0))))] [] := ?_
      · exact hst2
      try simp only [Int.zero_add, Int.one_mul, Int.add_zero]
      exact k105 K' B' L' f'   h1 h2 (h3.1 0) (h3.1 1) (h3.1 2) (h3.1 3) (h3.1 4) (h3.1 5) (h3.1 6) (by simpa only [xv, xvT, Int.zero_add, Int.one_mul, Int.add_zero] using (h3.2.1 _ (List.mem_of_getElem? (i := 0) rfl))) (h3.2.2.2.1 0 200 rfl)

/-! cr97: from 97 to [83] -/
def w_cr97 : TP := ([(0, (2, 0, (0, []))), (1, (0, 0, (0, [(1, 0)]))), (2, (0, 0, (0, [(1, 1)]))), (3, (0, 0, (0, [(1, 2)]))), (4, (0, 0, (0, [(1, 3)]))), (5, (0, 0, (0, [(1, 4)]))), (6, (0, 0, (0, [(1, 5)]))), (7, (0, 0, (0, [(1, 6)])))], [(0, 0, (0, [(1, 7)]))], ([(0, 5), (0, 5), (0, 999), ((-1), 2147483647), (0, 999999), (0, 5), (0, 1000000), (0, 5)], [], [], [200], [], [], []), [], [])
def u_cr97 : List (Nat × TP × EX × Nat × Nat) := [(83, ([(0, (2, 0, (0, []))), (1, (0, 0, (0, [(1, 0)]))), (2, (0, 0, (0, [(1, 1)]))), (3, (0, 0, (0, [(1, 2)]))), (4, (0, 0, (0, [(1, 3)]))), (5, (0, 0, (0, [(1, 4)]))), (6, (0, 0, (0, [(1, 7)]))), (7, (0, 0, (1, [(1, 6)])))], [], ([(0, 5), (0, 5), (0, 999), ((-1), 2147483647), (0, 999999), (0, 5), (0, 1000000), (0, 5)], [], [], [200], [], [], []), [], []), ((-1), []), 0, 0)]
def D_cr97 : DT := (mkD iX12_cross fX12 lX12 kX12 kkX12 342 [] (w_cr97, [], [], 6, 0, 0, 3) false 8 u_cr97)
theorem k_cr97 : chkS D_cr97 4000 0 0 97 = true := by decide +kernel
theorem s_cr97 {X0 : zC0} {E : zCx} (H : ∀ j, j < 342 → CMj X0 j) (hE : zOk E X0 RX12 cX12_cross 8 (zrm 6 0 0)) {K : Nat → Nat} {B : Int} {L : List Nat} {f : Nat → va_E} (hh : hok X0.2.2.1 K B L f) {v0 v1 v2 v3 v4 v5 v6 v7 : Int} {r0 : Nat} (hb0 : 0 ≤ v0 ∧ v0 ≤ 5) (hb1 : 0 ≤ v1 ∧ v1 ≤ 5) (hb2 : 0 ≤ v2 ∧ v2 ≤ 999) (hb3 : (-1) ≤ v3 ∧ v3 ≤ 2147483647) (hb4 : 0 ≤ v4 ∧ v4 ≤ 999999) (hb5 : 0 ≤ v5 ∧ v5 ≤ 5) (hb6 : 0 ≤ v6 ∧ v6 ≤ 1000000) (hb7 : 0 ≤ v7 ∧ v7 ≤ 5) (hr0 : r0 ∈ L ∧ K r0 = 200) (k83 : ∀ (K' : Nat → Nat) (B' : Int) (L' : List Nat) (f' : Nat → va_E), hok X0.2.2.1 K' B' L' f' → extC [] K B L f K' B' L' f' → (0 ≤ v0 ∧ v0 ≤ 5) → (0 ≤ v1 ∧ v1 ≤ 5) → (0 ≤ v2 ∧ v2 ≤ 999) → ((-1) ≤ v3 ∧ v3 ≤ 2147483647) → (0 ≤ v4 ∧ v4 ≤ 999999) → (0 ≤ v5 ∧ v5 ≤ 5) → (0 ≤ v6 ∧ v6 ≤ 1000000) → (0 ≤ v7 ∧ v7 ≤ 5) → (r0 ∈ L' ∧ K' r0 = 200) → eW E 0 0 L' f' 83 [(0, .ref r0), (1, .int (Int32.ofInt v0)), (2, .int (Int32.ofInt v1)), (3, .int (Int32.ofInt v2)), (4, .int (Int32.ofInt v3)), (5, .int (Int32.ofInt v4)), (6, .int (Int32.ofInt v7)), (7, .int (Int32.ofInt (1 + v6)))] []) : eW E 0 0 L f 97 [(0, .ref r0), (1, .int (Int32.ofInt v0)), (2, .int (Int32.ofInt v1)), (3, .int (Int32.ofInt v2)), (4, .int (Int32.ofInt v3)), (5, .int (Int32.ofInt v4)), (6, .int (Int32.ofInt v5)), (7, .int (Int32.ofInt v6))] [.int (Int32.ofInt v7)] := by
  obtain ⟨l0, D0, cy0, ax0⟩ := X0
  have hraw : eW E 0 0 L f 97 [(0, .ref r0), (1, .int (Int32.ofInt (0 + (1 * v0 + 0)))), (2, .int (Int32.ofInt (0 + (1 * v1 + 0)))), (3, .int (Int32.ofInt (0 + (1 * v2 + 0)))), (4, .int (Int32.ofInt (0 + (1 * v3 + 0)))), (5, .int (Int32.ofInt (0 + (1 * v4 + 0)))), (6, .int (Int32.ofInt (0 + (1 * v5 + 0)))), (7, .int (Int32.ofInt (0 + (1 * v6 + 0))))] [.int (Int32.ofInt (0 + (1 * v7 + 0)))] := ?_
  · simpa only [Int.zero_add, Int.one_mul, Int.add_zero] using hraw
  refine seg_ok (D := D_cr97) (νi := fun i => [v0, v1, v2, v3, v4, v5, v6, v7].getD i 0) (μi := fun i => [r0].getD i 0) k_cr97 hE (mk_ok (ins := iX12_cross) jX12_cross fX12_ok lX12_ok kX12_ok kkX12_ok H) (by decide) rfl rfl rfl rfl hh ?_ ?_
  · refine ⟨(eok_of (fun i q hq => ?_) (fun i hi => ?_)), fa0, fa0, ?_, fa0, fa0, fa0⟩
    · match i, hq with
      | 0, hq => cases hq; exact hb0
      | 1, hq => cases hq; exact hb1
      | 2, hq => cases hq; exact hb2
      | 3, hq => cases hq; exact hb3
      | 4, hq => cases hq; exact hb4
      | 5, hq => cases hq; exact hb5
      | 6, hq => cases hq; exact hb6
      | 7, hq => cases hq; exact hb7
      | i + 8, hq => cases hq
    · match i, hi with
      | 0, hi => exact absurd hi (by decide)
      | 1, hi => exact absurd hi (by decide)
      | 2, hi => exact absurd hi (by decide)
      | 3, hi => exact absurd hi (by decide)
      | 4, hi => exact absurd hi (by decide)
      | 5, hi => exact absurd hi (by decide)
      | 6, hi => exact absurd hi (by decide)
      | 7, hi => exact absurd hi (by decide)
      | i + 8, _ => rfl
    · intro i k hk
      match i, hk with
      | 0, hk => cases hk; exact hr0
      | i + 1, hk => cases hk
  · intro q hq hst K' B' L' f' ν μ h1 h2 h3 h4 h5
    have e0 : ν 0 = v0 := h4 0 (by decide)
    have e1 : ν 1 = v1 := h4 1 (by decide)
    have e2 : ν 2 = v2 := h4 2 (by decide)
    have e3 : ν 3 = v3 := h4 3 (by decide)
    have e4 : ν 4 = v4 := h4 4 (by decide)
    have e5 : ν 5 = v5 := h4 5 (by decide)
    have e6 : ν 6 = v6 := h4 6 (by decide)
    have e7 : ν 7 = v7 := h4 7 (by decide)
    have d0 : μ 0 = r0 := h5 0 (by decide)
    subst e0
    subst e1
    subst e2
    subst e3
    subst e4
    subst e5
    subst e6
    subst e7
    subst d0
    replace hq : q ∈ u_cr97 := hq
    unfold u_cr97 at hq
    simp only [List.mem_cons, List.not_mem_nil, or_false] at hq
    rcases hq with rfl
    · have hst2 : eW E 0 0 L' f' 83 [(0, .ref (μ 0)), (1, .int (Int32.ofInt (0 + (1 * ν 0 + 0)))), (2, .int (Int32.ofInt (0 + (1 * ν 1 + 0)))), (3, .int (Int32.ofInt (0 + (1 * ν 2 + 0)))), (4, .int (Int32.ofInt (0 + (1 * ν 3 + 0)))), (5, .int (Int32.ofInt (0 + (1 * ν 4 + 0)))), (6, .int (Int32.ofInt (0 + (1 * ν 7 + 0)))), (7, .int (Int32.ofInt (1 + (1 * ν 6 + 0))))] [] := ?_
      · exact hst2
      try simp only [Int.zero_add, Int.one_mul, Int.add_zero]
      exact k83 K' B' L' f'   h1 h2 (h3.1 0) (h3.1 1) (h3.1 2) (h3.1 3) (h3.1 4) (h3.1 5) (h3.1 6) (h3.1 7) (h3.2.2.2.1 0 200 rfl)

/-! cr105: from 105 to [107] -/
def w_cr105 : TP := ([(0, (2, 0, (0, []))), (1, (0, 0, (0, [(1, 0)]))), (2, (0, 0, (0, [(1, 1)]))), (3, (0, 0, (0, [(1, 2)]))), (4, (0, 0, (0, [(1, 3)]))), (5, (0, 0, (0, [(1, 4)]))), (6, (0, 0, (0, [(1, 5)]))), (7, (0, 0, (0, [(1, 6)])))], [], ([(0, 5), (0, 5), (0, 999), ((-1), 2147483647), (0, 999999), (0, 5), (0, 1000000)], [], [], [200], [], [], []), [], [])
def u_cr105 : List (Nat × TP × EX × Nat × Nat) := [(107, ([(0, (2, 0, (0, []))), (1, (0, 0, (0, [(1, 0)]))), (2, (0, 0, (0, [(1, 1)]))), (3, (0, 0, (0, [(1, 2)]))), (4, (0, 0, (0, [(1, 3)]))), (5, (0, 0, (0, [(1, 4)]))), (6, (0, 0, (0, [(1, 5)]))), (7, (0, 0, (0, [(1, 6)])))], [(0, 0, (0, [(1, 5)]))], ([(0, 5), (0, 5), (0, 999), ((-1), 2147483647), (0, 999999), (0, 5), (0, 1000000)], [], [], [200], [], [], []), [], []), ((-1), []), 0, 0)]
def D_cr105 : DT := (mkD iX12_cross fX12 lX12 kX12 kkX12 342 [] (w_cr105, [], [], 6, 0, 0, 3) false 8 u_cr105)
theorem k_cr105 : chkS D_cr105 4000 0 0 105 = true := by decide +kernel
theorem s_cr105 {X0 : zC0} {E : zCx} (H : ∀ j, j < 342 → CMj X0 j) (hE : zOk E X0 RX12 cX12_cross 8 (zrm 6 0 0)) {K : Nat → Nat} {B : Int} {L : List Nat} {f : Nat → va_E} (hh : hok X0.2.2.1 K B L f) {v0 v1 v2 v3 v4 v5 v6 : Int} {r0 : Nat} (hb0 : 0 ≤ v0 ∧ v0 ≤ 5) (hb1 : 0 ≤ v1 ∧ v1 ≤ 5) (hb2 : 0 ≤ v2 ∧ v2 ≤ 999) (hb3 : (-1) ≤ v3 ∧ v3 ≤ 2147483647) (hb4 : 0 ≤ v4 ∧ v4 ≤ 999999) (hb5 : 0 ≤ v5 ∧ v5 ≤ 5) (hb6 : 0 ≤ v6 ∧ v6 ≤ 1000000) (hr0 : r0 ∈ L ∧ K r0 = 200) (k107 : ∀ (K' : Nat → Nat) (B' : Int) (L' : List Nat) (f' : Nat → va_E), hok X0.2.2.1 K' B' L' f' → extC [] K B L f K' B' L' f' → (0 ≤ v0 ∧ v0 ≤ 5) → (0 ≤ v1 ∧ v1 ≤ 5) → (0 ≤ v2 ∧ v2 ≤ 999) → ((-1) ≤ v3 ∧ v3 ≤ 2147483647) → (0 ≤ v4 ∧ v4 ≤ 999999) → (0 ≤ v5 ∧ v5 ≤ 5) → (0 ≤ v6 ∧ v6 ≤ 1000000) → (r0 ∈ L' ∧ K' r0 = 200) → eW E 0 0 L' f' 107 [(0, .ref r0), (1, .int (Int32.ofInt v0)), (2, .int (Int32.ofInt v1)), (3, .int (Int32.ofInt v2)), (4, .int (Int32.ofInt v3)), (5, .int (Int32.ofInt v4)), (6, .int (Int32.ofInt v5)), (7, .int (Int32.ofInt v6))] [.int (Int32.ofInt v5)]) : eW E 0 0 L f 105 [(0, .ref r0), (1, .int (Int32.ofInt v0)), (2, .int (Int32.ofInt v1)), (3, .int (Int32.ofInt v2)), (4, .int (Int32.ofInt v3)), (5, .int (Int32.ofInt v4)), (6, .int (Int32.ofInt v5)), (7, .int (Int32.ofInt v6))] [] := by
  obtain ⟨l0, D0, cy0, ax0⟩ := X0
  have hraw : eW E 0 0 L f 105 [(0, .ref r0), (1, .int (Int32.ofInt (0 + (1 * v0 + 0)))), (2, .int (Int32.ofInt (0 + (1 * v1 + 0)))), (3, .int (Int32.ofInt (0 + (1 * v2 + 0)))), (4, .int (Int32.ofInt (0 + (1 * v3 + 0)))), (5, .int (Int32.ofInt (0 + (1 * v4 + 0)))), (6, .int (Int32.ofInt (0 + (1 * v5 + 0)))), (7, .int (Int32.ofInt (0 + (1 * v6 + 0))))] [] := ?_
  · simpa only [Int.zero_add, Int.one_mul, Int.add_zero] using hraw
  refine seg_ok (D := D_cr105) (νi := fun i => [v0, v1, v2, v3, v4, v5, v6].getD i 0) (μi := fun i => [r0].getD i 0) k_cr105 hE (mk_ok (ins := iX12_cross) jX12_cross fX12_ok lX12_ok kX12_ok kkX12_ok H) (by decide) rfl rfl rfl rfl hh ?_ ?_
  · refine ⟨(eok_of (fun i q hq => ?_) (fun i hi => ?_)), fa0, fa0, ?_, fa0, fa0, fa0⟩
    · match i, hq with
      | 0, hq => cases hq; exact hb0
      | 1, hq => cases hq; exact hb1
      | 2, hq => cases hq; exact hb2
      | 3, hq => cases hq; exact hb3
      | 4, hq => cases hq; exact hb4
      | 5, hq => cases hq; exact hb5
      | 6, hq => cases hq; exact hb6
      | i + 7, hq => cases hq
    · match i, hi with
      | 0, hi => exact absurd hi (by decide)
      | 1, hi => exact absurd hi (by decide)
      | 2, hi => exact absurd hi (by decide)
      | 3, hi => exact absurd hi (by decide)
      | 4, hi => exact absurd hi (by decide)
      | 5, hi => exact absurd hi (by decide)
      | 6, hi => exact absurd hi (by decide)
      | i + 7, _ => rfl
    · intro i k hk
      match i, hk with
      | 0, hk => cases hk; exact hr0
      | i + 1, hk => cases hk
  · intro q hq hst K' B' L' f' ν μ h1 h2 h3 h4 h5
    have e0 : ν 0 = v0 := h4 0 (by decide)
    have e1 : ν 1 = v1 := h4 1 (by decide)
    have e2 : ν 2 = v2 := h4 2 (by decide)
    have e3 : ν 3 = v3 := h4 3 (by decide)
    have e4 : ν 4 = v4 := h4 4 (by decide)
    have e5 : ν 5 = v5 := h4 5 (by decide)
    have e6 : ν 6 = v6 := h4 6 (by decide)
    have d0 : μ 0 = r0 := h5 0 (by decide)
    subst e0
    subst e1
    subst e2
    subst e3
    subst e4
    subst e5
    subst e6
    subst d0
    replace hq : q ∈ u_cr105 := hq
    unfold u_cr105 at hq
    simp only [List.mem_cons, List.not_mem_nil, or_false] at hq
    rcases hq with rfl
    · have hst2 : eW E 0 0 L' f' 107 [(0, .ref (μ 0)), (1, .int (Int32.ofInt (0 + (1 * ν 0 + 0)))), (2, .int (Int32.ofInt (0 + (1 * ν 1 + 0)))), (3, .int (Int32.ofInt (0 + (1 * ν 2 + 0)))), (4, .int (Int32.ofInt (0 + (1 * ν 3 + 0)))), (5, .int (Int32.ofInt (0 + (1 * ν 4 + 0)))), (6, .int (Int32.ofInt (0 + (1 * ν 5 + 0)))), (7, .int (Int32.ofInt (0 + (1 * ν 6 + 0))))] [.int (Int32.ofInt (0 + (1 * ν 5 + 0)))] := ?_
      · exact hst2
      try simp only [Int.zero_add, Int.one_mul, Int.add_zero]
      exact k107 K' B' L' f'   h1 h2 (h3.1 0) (h3.1 1) (h3.1 2) (h3.1 3) (h3.1 4) (h3.1 5) (h3.1 6) (h3.2.2.2.1 0 200 rfl)
