/-! lw0: from 0 to [9] -/
def w_lw0 : TP := ([(0, (2, 0, (0, []))), (1, (0, 0, (0, [(1, 0)]))), (2, (0, 0, (0, [(1, 1)])))], [], ([((-2147483648), 2147483647), ((-2147483648), 2147483647)], [], [], [200], [], [], []), [], [])
def u_lw0 : List (Nat × TP × EX × Nat × Nat) := [(9, ([(0, (2, 0, (0, []))), (1, (0, 0, (0, [(1, 0)]))), (2, (0, 0, (0, [(1, 1)])))], [(0, 0, (0, [(1, 2)])), (0, 0, (1, [])), (0, 0, (1, [])), (0, 0, (0, [(1, 0)]))], ([((-2147483648), 2147483647), ((-2147483648), 2147483647), (0, 8)], [], [], [200], [((201, (1, [])), (0, [(1, 2)]))], [], []), [(1, 0, (0, []))], []), ((-1), []), 0, 0)]
def D_lw0 : DT := (mkD iX12_layWorkers fX12 lX12 kX12 kkX12 390 [] (w_lw0, [], [], 3, 0, 0, 3) false 5 u_lw0)
theorem k_lw0 : chkS D_lw0 4000 0 0 0 = true := by decide +kernel
theorem s_lw0 {X0 : zC0} {E : zCx} (H : ∀ j, j < 390 → CMj X0 j) (hE : zOk E X0 RX12 cX12_layWorkers 5 (zrm 3 0 0)) {K : Nat → Nat} {B : Int} {L : List Nat} {f : Nat → va_E} (hh : hok X0.2.2.1 K B L f) {v0 v1 : Int} {r0 : Nat} (hb0 : (-2147483648) ≤ v0 ∧ v0 ≤ 2147483647) (hb1 : (-2147483648) ≤ v1 ∧ v1 ≤ 2147483647) (hr0 : r0 ∈ L ∧ K r0 = 200) (k9 : ∀ (K' : Nat → Nat) (B' : Int) (L' : List Nat) (f' : Nat → va_E) (v2 : Int), hok X0.2.2.1 K' B' L' f' → extC [] K B L f K' B' L' f' → ((-2147483648) ≤ v0 ∧ v0 ≤ 2147483647) → ((-2147483648) ≤ v1 ∧ v1 ≤ 2147483647) → (0 ≤ v2 ∧ v2 ≤ 8) → (r0 ∈ L' ∧ K' r0 = 200) → (∀ b ∈ L', K' b = 201 → (0 : Int) ≤ 1 ∧ gi (f' b) ((1 : Int)).toNat = v2) → eW E 0 0 L' f' 9 [(0, .ref r0), (1, .int (Int32.ofInt v0)), (2, .int (Int32.ofInt v1))] [.int (Int32.ofInt v2), .int (Int32.ofInt 1), .int (Int32.ofInt 1), .int (Int32.ofInt v0)]) : eW E 0 0 L f 0 [(0, .ref r0), (1, .int (Int32.ofInt v0)), (2, .int (Int32.ofInt v1))] [] := by
  obtain ⟨l0, D0, cy0, ax0⟩ := X0
  have hraw : eW E 0 0 L f 0 [(0, .ref r0), (1, .int (Int32.ofInt (0 + (1 * v0 + 0)))), (2, .int (Int32.ofInt (0 + (1 * v1 + 0))))] [] := ?_
  · simpa only [Int.zero_add, Int.one_mul, Int.add_zero] using hraw
  refine seg_ok (D := D_lw0) (νi := fun i => [v0, v1].getD i 0) (μi := fun i => [r0].getD i 0) k_lw0 hE (mk_ok (ins := iX12_layWorkers) jX12_layWorkers fX12_ok lX12_ok kX12_ok kkX12_ok H) (by decide) rfl rfl rfl rfl hh ?_ ?_
  · refine ⟨(eok_of (fun i q hq => ?_) (fun i hi => ?_)), fa0, fa0, ?_, fa0, fa0, fa0⟩
    · match i, hq with
      | 0, hq => cases hq; exact hb0
      | 1, hq => cases hq; exact hb1
      | i + 2, hq => cases hq
    · match i, hi with
      | 0, hi => exact absurd hi (by decide)
      | 1, hi => exact absurd hi (by decide)
      | i + 2, _ => rfl
    · intro i k hk
      match i, hk with
      | 0, hk => cases hk; exact hr0
      | i + 1, hk => cases hk
  · intro q hq hst K' B' L' f' ν μ h1 h2 h3 h4 h5
    have e0 : ν 0 = v0 := h4 0 (by decide)
    have e1 : ν 1 = v1 := h4 1 (by decide)
    have d0 : μ 0 = r0 := h5 0 (by decide)
    subst e0
    subst e1
    subst d0
    replace hq : q ∈ u_lw0 := hq
    unfold u_lw0 at hq
    simp only [List.mem_cons, List.not_mem_nil, or_false] at hq
    rcases hq with rfl
    · have hst2 : eW E 0 0 L' f' 9 [(0, .ref (μ 0)), (1, .int (Int32.ofInt (0 + (1 * ν 0 + 0)))), (2, .int (Int32.ofInt (0 + (1 * ν 1 + 0))))] [.int (Int32.ofInt (0 + (1 * ν 2 + 0))), .int (Int32.ofInt (1 + 0)), .int (Int32.ofInt (1 + 0)), .int (Int32.ofInt (0 + (1 * ν 0 + 0)))] := ?_
      · exact hst2
      try simp only [Int.zero_add, Int.one_mul, Int.add_zero]
      exact k9 K' B' L' f' (ν 2)  h1 h2 (h3.1 0) (h3.1 1) (h3.1 2) (h3.2.2.2.1 0 200 rfl) (by simpa only [xv, xvT, Int.zero_add, Int.one_mul, Int.add_zero] using (mokA h1 (show (zkd 201).1 = 2 by decide) (by decide) (h3.2.2.2.2.1 _ (List.mem_of_getElem? (i := 0) rfl))))

/-! lw12: from 12 to [18, 47] -/
def w_lw12 : TP := ([(0, (2, 0, (0, []))), (1, (0, 0, (0, [(1, 0)]))), (2, (0, 0, (0, [(1, 1)])))], [(0, 0, (0, [(1, 2)])), (0, 0, (1, [])), (0, 0, (0, [(1, 0)]))], ([((-2147483648), 2147483647), ((-2147483648), 2147483647), (0, 255)], [], [], [200], [], [], []), [], [])
def u_lw12 : List (Nat × TP × EX × Nat × Nat) := [(18, ([(0, (2, 0, (0, []))), (1, (0, 0, (0, [(1, 0)]))), (2, (0, 0, (0, [(1, 1)])))], [], ([(1, 255), ((-2147483648), 2147483647), (1, 255)], [(0, [(1, 2), ((-1), 0)])], [], [200], [], [], []), [], []), ((-1), []), 0, 0), (47, ([(0, (2, 0, (0, []))), (1, (0, 0, (0, [(1, 0)]))), (2, (0, 0, (0, [(1, 1)])))], [], ([((-2147483648), 2147483647), ((-2147483648), 2147483647), (0, 255)], [], [], [200], [], [], []), [], []), ((-1), []), 0, 0)]
def D_lw12 : DT := (mkD iX12_layWorkers fX12 lX12 kX12 kkX12 390 [(12, [290])] (w_lw12, [], [], 3, 0, 0, 3) false 5 u_lw12)
theorem k_lw12 : chkS D_lw12 4000 0 0 12 = true := by decide +kernel
theorem s_lw12 {X0 : zC0} {E : zCx} (H : ∀ j, j < 390 → CMj X0 j) (hE : zOk E X0 RX12 cX12_layWorkers 5 (zrm 3 0 0)) {K : Nat → Nat} {B : Int} {L : List Nat} {f : Nat → va_E} (hh : hok X0.2.2.1 K B L f) {v0 v1 v2 : Int} {r0 : Nat} (hb0 : (-2147483648) ≤ v0 ∧ v0 ≤ 2147483647) (hb1 : (-2147483648) ≤ v1 ∧ v1 ≤ 2147483647) (hb2 : 0 ≤ v2 ∧ v2 ≤ 255) (hr0 : r0 ∈ L ∧ K r0 = 200) (k18 : ∀ (K' : Nat → Nat) (B' : Int) (L' : List Nat) (f' : Nat → va_E), hok X0.2.2.1 K' B' L' f' → extC [] K B L f K' B' L' f' → (1 ≤ v0 ∧ v0 ≤ 255) → ((-2147483648) ≤ v1 ∧ v1 ≤ 2147483647) → (1 ≤ v2 ∧ v2 ≤ 255) → (0 ≤ (v2 + ((-1) * v0))) → (r0 ∈ L' ∧ K' r0 = 200) → eW E 0 0 L' f' 18 [(0, .ref r0), (1, .int (Int32.ofInt v0)), (2, .int (Int32.ofInt v1))] []) (k47 : ∀ (K' : Nat → Nat) (B' : Int) (L' : List Nat) (f' : Nat → va_E), hok X0.2.2.1 K' B' L' f' → extC [] K B L f K' B' L' f' → ((-2147483648) ≤ v0 ∧ v0 ≤ 2147483647) → ((-2147483648) ≤ v1 ∧ v1 ≤ 2147483647) → (0 ≤ v2 ∧ v2 ≤ 255) → (r0 ∈ L' ∧ K' r0 = 200) → eW E 0 0 L' f' 47 [(0, .ref r0), (1, .int (Int32.ofInt v0)), (2, .int (Int32.ofInt v1))] []) : eW E 0 0 L f 12 [(0, .ref r0), (1, .int (Int32.ofInt v0)), (2, .int (Int32.ofInt v1))] [.int (Int32.ofInt v2), .int (Int32.ofInt 1), .int (Int32.ofInt v0)] := by
  obtain ⟨l0, D0, cy0, ax0⟩ := X0
  have hraw : eW E 0 0 L f 12 [(0, .ref r0), (1, .int (Int32.ofInt (0 + (1 * v0 + 0)))), (2, .int (Int32.ofInt (0 + (1 * v1 + 0))))] [.int (Int32.ofInt (0 + (1 * v2 + 0))), .int (Int32.ofInt (1 + 0)), .int (Int32.ofInt (0 + (1 * v0 + 0)))] := ?_
  · simpa only [Int.zero_add, Int.one_mul, Int.add_zero] using hraw
  refine seg_ok (D := D_lw12) (νi := fun i => [v0, v1, v2].getD i 0) (μi := fun i => [r0].getD i 0) k_lw12 hE (mk_ok (ins := iX12_layWorkers) jX12_layWorkers fX12_ok lX12_ok kX12_ok kkX12_ok H) (by decide) rfl rfl rfl rfl hh ?_ ?_
  · refine ⟨(eok_of (fun i q hq => ?_) (fun i hi => ?_)), fa0, fa0, ?_, fa0, fa0, fa0⟩
    · match i, hq with
      | 0, hq => cases hq; exact hb0
      | 1, hq => cases hq; exact hb1
      | 2, hq => cases hq; exact hb2
      | i + 3, hq => cases hq
    · match i, hi with
      | 0, hi => exact absurd hi (by decide)
      | 1, hi => exact absurd hi (by decide)
      | 2, hi => exact absurd hi (by decide)
      | i + 3, _ => rfl
    · intro i k hk
      match i, hk with
      | 0, hk => cases hk; exact hr0
      | i + 1, hk => cases hk
  · intro q hq hst K' B' L' f' ν μ h1 h2 h3 h4 h5
    have e0 : ν 0 = v0 := h4 0 (by decide)
    have e1 : ν 1 = v1 := h4 1 (by decide)
    have e2 : ν 2 = v2 := h4 2 (by decide)
    have d0 : μ 0 = r0 := h5 0 (by decide)
    subst e0
    subst e1
    subst e2
    subst d0
    replace hq : q ∈ u_lw12 := hq
    unfold u_lw12 at hq
    simp only [List.mem_cons, List.not_mem_nil, or_false] at hq
    rcases hq with rfl | rfl
    · have hst2 : eW E 0 0 L' f' 18 [(0, .ref (μ 0)), (1, .int (Int32.ofInt (0 + (1 * ν 0 + 0)))), (2, .int (Int32.ofInt (0 + (1 * ν 1 + 0))))] [] := ?_
      · exact hst2
      try simp only [Int.zero_add, Int.one_mul, Int.add_zero]
      exact k18 K' B' L' f'   h1 h2 (h3.1 0) (h3.1 1) (h3.1 2) (by simpa only [xv, xvT, Int.zero_add, Int.one_mul, Int.add_zero] using (h3.2.1 _ (List.mem_of_getElem? (i := 0) rfl))) (h3.2.2.2.1 0 200 rfl)
    · have hst2 : eW E 0 0 L' f' 47 [(0, .ref (μ 0)), (1, .int (Int32.ofInt (0 + (1 * ν 0 + 0)))), (2, .int (Int32.ofInt (0 + (1 * ν 1 + 0))))] [] := ?_
      · exact hst2
      try simp only [Int.zero_add, Int.one_mul, Int.add_zero]
      exact k47 K' B' L' f'   h1 h2 (h3.1 0) (h3.1 1) (h3.1 2) (h3.2.2.2.1 0 200 rfl)

/-! lw18: from 18 to [27] -/
def w_lw18 : TP := ([(0, (2, 0, (0, []))), (1, (0, 0, (0, [(1, 0)]))), (2, (0, 0, (0, [(1, 1)])))], [], ([((-2147483648), 2147483647), ((-2147483648), 2147483647)], [], [], [200], [], [], []), [], [])
def u_lw18 : List (Nat × TP × EX × Nat × Nat) := [(27, ([(0, (2, 0, (0, []))), (1, (0, 0, (0, [(1, 0)]))), (2, (0, 0, (0, [(1, 1)])))], [(0, 0, (0, [(1, 2)])), (0, 0, (1, [])), (0, 0, (1, [])), (0, 0, (0, [(1, 1)]))], ([((-2147483648), 2147483647), ((-2147483648), 2147483647), (0, 6)], [], [], [200], [((201, (0, [])), (0, [(1, 2)]))], [], []), [(1, 0, (0, []))], []), ((-1), []), 0, 0)]
def D_lw18 : DT := (mkD iX12_layWorkers fX12 lX12 kX12 kkX12 390 [] (w_lw18, [], [], 3, 0, 0, 3) false 5 u_lw18)
theorem k_lw18 : chkS D_lw18 4000 0 0 18 = true := by decide +kernel
theorem s_lw18 {X0 : zC0} {E : zCx} (H : ∀ j, j < 390 → CMj X0 j) (hE : zOk E X0 RX12 cX12_layWorkers 5 (zrm 3 0 0)) {K : Nat → Nat} {B : Int} {L : List Nat} {f : Nat → va_E} (hh : hok X0.2.2.1 K B L f) {v0 v1 : Int} {r0 : Nat} (hb0 : (-2147483648) ≤ v0 ∧ v0 ≤ 2147483647) (hb1 : (-2147483648) ≤ v1 ∧ v1 ≤ 2147483647) (hr0 : r0 ∈ L ∧ K r0 = 200) (k27 : ∀ (K' : Nat → Nat) (B' : Int) (L' : List Nat) (f' : Nat → va_E) (v2 : Int), hok X0.2.2.1 K' B' L' f' → extC [] K B L f K' B' L' f' → ((-2147483648) ≤ v0 ∧ v0 ≤ 2147483647) → ((-2147483648) ≤ v1 ∧ v1 ≤ 2147483647) → (0 ≤ v2 ∧ v2 ≤ 6) → (r0 ∈ L' ∧ K' r0 = 200) → (∀ b ∈ L', K' b = 201 → (0 : Int) ≤ 0 ∧ gi (f' b) ((0 : Int)).toNat = v2) → eW E 0 0 L' f' 27 [(0, .ref r0), (1, .int (Int32.ofInt v0)), (2, .int (Int32.ofInt v1))] [.int (Int32.ofInt v2), .int (Int32.ofInt 1), .int (Int32.ofInt 1), .int (Int32.ofInt v1)]) : eW E 0 0 L f 18 [(0, .ref r0), (1, .int (Int32.ofInt v0)), (2, .int (Int32.ofInt v1))] [] := by
  obtain ⟨l0, D0, cy0, ax0⟩ := X0
  have hraw : eW E 0 0 L f 18 [(0, .ref r0), (1, .int (Int32.ofInt (0 + (1 * v0 + 0)))), (2, .int (Int32.ofInt (0 + (1 * v1 + 0))))] [] := ?_
  · simpa only [Int.zero_add, Int.one_mul, Int.add_zero] using hraw
  refine seg_ok (D := D_lw18) (νi := fun i => [v0, v1].getD i 0) (μi := fun i => [r0].getD i 0) k_lw18 hE (mk_ok (ins := iX12_layWorkers) jX12_layWorkers fX12_ok lX12_ok kX12_ok kkX12_ok H) (by decide) rfl rfl rfl rfl hh ?_ ?_
  · refine ⟨(eok_of (fun i q hq => ?_) (fun i hi => ?_)), fa0, fa0, ?_, fa0, fa0, fa0⟩
    · match i, hq with
      | 0, hq => cases hq; exact hb0
      | 1, hq => cases hq; exact hb1
      | i + 2, hq => cases hq
    · match i, hi with
      | 0, hi => exact absurd hi (by decide)
      | 1, hi => exact absurd hi (by decide)
      | i + 2, _ => rfl
    · intro i k hk
      match i, hk with
      | 0, hk => cases hk; exact hr0
      | i + 1, hk => cases hk
  · intro q hq hst K' B' L' f' ν μ h1 h2 h3 h4 h5
    have e0 : ν 0 = v0 := h4 0 (by decide)
    have e1 : ν 1 = v1 := h4 1 (by decide)
    have d0 : μ 0 = r0 := h5 0 (by decide)
    subst e0
    subst e1
    subst d0
    replace hq : q ∈ u_lw18 := hq
    unfold u_lw18 at hq
    simp only [List.mem_cons, List.not_mem_nil, or_false] at hq
    rcases hq with rfl
    · have hst2 : eW E 0 0 L' f' 27 [(0, .ref (μ 0)), (1, .int (Int32.ofInt (0 + (1 * ν 0 + 0)))), (2, .int (Int32.ofInt (0 + (1 * ν 1 + 0))))] [.int (Int32.ofInt (0 + (1 * ν 2 + 0))), .int (Int32.ofInt (1 + 0)), .int (Int32.ofInt (1 + 0)), .int (Int32.ofInt (0 + (1 * ν 1 + 0)))] := ?_
      · exact hst2
      try simp only [Int.zero_add, Int.one_mul, Int.add_zero]
      exact k27 K' B' L' f' (ν 2)  h1 h2 (h3.1 0) (h3.1 1) (h3.1 2) (h3.2.2.2.1 0 200 rfl) (by simpa only [xv, xvT, Int.zero_add, Int.one_mul, Int.add_zero] using (mokA h1 (show (zkd 201).1 = 2 by decide) (by decide) (h3.2.2.2.2.1 _ (List.mem_of_getElem? (i := 0) rfl))))

/-! lw30: from 30 to [37, 47] -/
def w_lw30 : TP := ([(0, (2, 0, (0, []))), (1, (0, 0, (0, [(1, 0)]))), (2, (0, 0, (0, [(1, 1)])))], [(0, 0, (0, [(1, 2)])), (0, 0, (1, [])), (0, 0, (0, [(1, 1)]))], ([((-2147483648), 2147483647), ((-2147483648), 2147483647), (0, 63)], [], [], [200], [], [], []), [], [])
def u_lw30 : List (Nat × TP × EX × Nat × Nat) := [(37, ([(0, (2, 0, (0, []))), (1, (0, 0, (0, [(1, 0)]))), (2, (0, 0, (0, [(1, 1)])))], [(0, 0, (0, [(1, 0)]))], ([((-2147483648), 2147483647), (1, 63), (1, 63)], [(0, [(1, 2), ((-1), 1)])], [], [200], [], [], []), [], []), ((-1), []), 0, 0), (47, ([(0, (2, 0, (0, []))), (1, (0, 0, (0, [(1, 0)]))), (2, (0, 0, (0, [(1, 1)])))], [], ([((-2147483648), 2147483647), ((-2147483648), 2147483647), (0, 63)], [], [], [200], [], [], []), [], []), ((-1), []), 0, 0)]
def D_lw30 : DT := (mkD iX12_layWorkers fX12 lX12 kX12 kkX12 390 [(30, [290])] (w_lw30, [], [], 3, 0, 0, 3) false 5 u_lw30)
theorem k_lw30 : chkS D_lw30 4000 0 0 30 = true := by decide +kernel
theorem s_lw30 {X0 : zC0} {E : zCx} (H : ∀ j, j < 390 → CMj X0 j) (hE : zOk E X0 RX12 cX12_layWorkers 5 (zrm 3 0 0)) {K : Nat → Nat} {B : Int} {L : List Nat} {f : Nat → va_E} (hh : hok X0.2.2.1 K B L f) {v0 v1 v2 : Int} {r0 : Nat} (hb0 : (-2147483648) ≤ v0 ∧ v0 ≤ 2147483647) (hb1 : (-2147483648) ≤ v1 ∧ v1 ≤ 2147483647) (hb2 : 0 ≤ v2 ∧ v2 ≤ 63) (hr0 : r0 ∈ L ∧ K r0 = 200) (k37 : ∀ (K' : Nat → Nat) (B' : Int) (L' : List Nat) (f' : Nat → va_E), hok X0.2.2.1 K' B' L' f' → extC [] K B L f K' B' L' f' → ((-2147483648) ≤ v0 ∧ v0 ≤ 2147483647) → (1 ≤ v1 ∧ v1 ≤ 63) → (1 ≤ v2 ∧ v2 ≤ 63) → (0 ≤ (v2 + ((-1) * v1))) → (r0 ∈ L' ∧ K' r0 = 200) → eW E 0 0 L' f' 37 [(0, .ref r0), (1, .int (Int32.ofInt v0)), (2, .int (Int32.ofInt v1))] [.int (Int32.ofInt v0)]) (k47 : ∀ (K' : Nat → Nat) (B' : Int) (L' : List Nat) (f' : Nat → va_E), hok X0.2.2.1 K' B' L' f' → extC [] K B L f K' B' L' f' → ((-2147483648) ≤ v0 ∧ v0 ≤ 2147483647) → ((-2147483648) ≤ v1 ∧ v1 ≤ 2147483647) → (0 ≤ v2 ∧ v2 ≤ 63) → (r0 ∈ L' ∧ K' r0 = 200) → eW E 0 0 L' f' 47 [(0, .ref r0), (1, .int (Int32.ofInt v0)), (2, .int (Int32.ofInt v1))] []) : eW E 0 0 L f 30 [(0, .ref r0), (1, .int (Int32.ofInt v0)), (2, .int (Int32.ofInt v1))] [.int (Int32.ofInt v2), .int (Int32.ofInt 1), .int (Int32.ofInt v1)] := by
  obtain ⟨l0, D0, cy0, ax0⟩ := X0
  have hraw : eW E 0 0 L f 30 [(0, .ref r0), (1, .int (Int32.ofInt (0 + (1 * v0 + 0)))), (2, .int (Int32.ofInt (0 + (1 * v1 + 0))))] [.int (Int32.ofInt (0 + (1 * v2 + 0))), .int (Int32.ofInt (1 + 0)), .int (Int32.ofInt (0 + (1 * v1 + 0)))] := ?_
  · simpa only [Int.zero_add, Int.one_mul, Int.add_zero] using hraw
  refine seg_ok (D := D_lw30) (νi := fun i => [v0, v1, v2].getD i 0) (μi := fun i => [r0].getD i 0) k_lw30 hE (mk_ok (ins := iX12_layWorkers) jX12_layWorkers fX12_ok lX12_ok kX12_ok kkX12_ok H) (by decide) rfl rfl rfl rfl hh ?_ ?_
  · refine ⟨(eok_of (fun i q hq => ?_) (fun i hi => ?_)), fa0, fa0, ?_, fa0, fa0, fa0⟩
    · match i, hq with
      | 0, hq => cases hq; exact hb0
      | 1, hq => cases hq; exact hb1
      | 2, hq => cases hq; exact hb2
      | i + 3, hq => cases hq
    · match i, hi with
      | 0, hi => exact absurd hi (by decide)
      | 1, hi => exact absurd hi (by decide)
      | 2, hi => exact absurd hi (by decide)
      | i + 3, _ => rfl
    · intro i k hk
      match i, hk with
      | 0, hk => cases hk; exact hr0
      | i + 1, hk => cases hk
  · intro q hq hst K' B' L' f' ν μ h1 h2 h3 h4 h5
    have e0 : ν 0 = v0 := h4 0 (by decide)
    have e1 : ν 1 = v1 := h4 1 (by decide)
    have e2 : ν 2 = v2 := h4 2 (by decide)
    have d0 : μ 0 = r0 := h5 0 (by decide)
    subst e0
    subst e1
    subst e2
    subst d0
    replace hq : q ∈ u_lw30 := hq
    unfold u_lw30 at hq
    simp only [List.mem_cons, List.not_mem_nil, or_false] at hq
    rcases hq with rfl | rfl
    · have hst2 : eW E 0 0 L' f' 37 [(0, .ref (μ 0)), (1, .int (Int32.ofInt (0 + (1 * ν 0 + 0)))), (2, .int (Int32.ofInt (0 + (1 * ν 1 + 0))))] [.int (Int32.ofInt (0 + (1 * ν 0 + 0)))] := ?_
      · exact hst2
      try simp only [Int.zero_add, Int.one_mul, Int.add_zero]
      exact k37 K' B' L' f'   h1 h2 (h3.1 0) (h3.1 1) (h3.1 2) (by simpa only [xv, xvT, Int.zero_add, Int.one_mul, Int.add_zero] using (h3.2.1 _ (List.mem_of_getElem? (i := 0) rfl))) (h3.2.2.2.1 0 200 rfl)
    · have hst2 : eW E 0 0 L' f' 47 [(0, .ref (μ 0)), (1, .int (Int32.ofInt (0 + (1 * ν 0 + 0)))), (2, .int (Int32.ofInt (0 + (1 * ν 1 + 0))))] [] := ?_
      · exact hst2
      try simp only [Int.zero_add, Int.one_mul, Int.add_zero]
      exact k47 K' B' L' f'   h1 h2 (h3.1 0) (h3.1 1) (h3.1 2) (h3.2.2.2.1 0 200 rfl)

/-! lw47: from 47 to [48] -/
def w_lw47 : TP := ([(0, (2, 0, (0, []))), (1, (0, 0, (0, [(1, 0)]))), (2, (0, 0, (0, [(1, 1)])))], [], ([((-2147483648), 2147483647), ((-2147483648), 2147483647)], [], [], [200], [], [], []), [], [])
def u_lw47 : List (Nat × TP × EX × Nat × Nat) := [(48, ([(0, (2, 0, (0, []))), (1, (0, 0, (0, [(1, 0)]))), (2, (0, 0, (0, [(1, 1)])))], [(0, 0, (0, []))], ([((-2147483648), 2147483647), ((-2147483648), 2147483647)], [], [], [200], [], [], []), [], []), ((-1), []), 0, 0)]
def D_lw47 : DT := (mkD iX12_layWorkers fX12 lX12 kX12 kkX12 390 [] (w_lw47, [], [], 3, 0, 0, 3) false 5 u_lw47)
theorem k_lw47 : chkS D_lw47 4000 0 0 47 = true := by decide +kernel
theorem s_lw47 {X0 : zC0} {E : zCx} (H : ∀ j, j < 390 → CMj X0 j) (hE : zOk E X0 RX12 cX12_layWorkers 5 (zrm 3 0 0)) {K : Nat → Nat} {B : Int} {L : List Nat} {f : Nat → va_E} (hh : hok X0.2.2.1 K B L f) {v0 v1 : Int} {r0 : Nat} (hb0 : (-2147483648) ≤ v0 ∧ v0 ≤ 2147483647) (hb1 : (-2147483648) ≤ v1 ∧ v1 ≤ 2147483647) (hr0 : r0 ∈ L ∧ K r0 = 200) (k48 : ∀ (K' : Nat → Nat) (B' : Int) (L' : List Nat) (f' : Nat → va_E), hok X0.2.2.1 K' B' L' f' → extC [] K B L f K' B' L' f' → ((-2147483648) ≤ v0 ∧ v0 ≤ 2147483647) → ((-2147483648) ≤ v1 ∧ v1 ≤ 2147483647) → (r0 ∈ L' ∧ K' r0 = 200) → eW E 0 0 L' f' 48 [(0, .ref r0), (1, .int (Int32.ofInt v0)), (2, .int (Int32.ofInt v1))] [.int (Int32.ofInt 0)]) : eW E 0 0 L f 47 [(0, .ref r0), (1, .int (Int32.ofInt v0)), (2, .int (Int32.ofInt v1))] [] := by
  obtain ⟨l0, D0, cy0, ax0⟩ := X0
  have hraw : eW E 0 0 L f 47 [(0, .ref r0), (1, .int (Int32.ofInt (0 + (1 * v0 + 0)))), (2, .int (Int32.ofInt (0 + (1 * v1 + 0))))] [] := ?_
  · simpa only [Int.zero_add, Int.one_mul, Int.add_zero] using hraw
  refine seg_ok (D := D_lw47) (νi := fun i => [v0, v1].getD i 0) (μi := fun i => [r0].getD i 0) k_lw47 hE (mk_ok (ins := iX12_layWorkers) jX12_layWorkers fX12_ok lX12_ok kX12_ok kkX12_ok H) (by decide) rfl rfl rfl rfl hh ?_ ?_
  · refine ⟨(eok_of (fun i q hq => ?_) (fun i hi => ?_)), fa0, fa0, ?_, fa0, fa0, fa0⟩
    · match i, hq with
      | 0, hq => cases hq; exact hb0
      | 1, hq => cases hq; exact hb1
      | i + 2, hq => cases hq
    · match i, hi with
      | 0, hi => exact absurd hi (by decide)
      | 1, hi => exact absurd hi (by decide)
      | i + 2, _ => rfl
    · intro i k hk
      match i, hk with
      | 0, hk => cases hk; exact hr0
      | i + 1, hk => cases hk
  · intro q hq hst K' B' L' f' ν μ h1 h2 h3 h4 h5
    have e0 : ν 0 = v0 := h4 0 (by decide)
    have e1 : ν 1 = v1 := h4 1 (by decide)
    have d0 : μ 0 = r0 := h5 0 (by decide)
    subst e0
    subst e1
    subst d0
    replace hq : q ∈ u_lw47 := hq
    unfold u_lw47 at hq
    simp only [List.mem_cons, List.not_mem_nil, or_false] at hq
    rcases hq with rfl
    · have hst2 : eW E 0 0 L' f' 48 [(0, .ref (μ 0)), (1, .int (Int32.ofInt (0 + (1 * ν 0 + 0)))), (2, .int (Int32.ofInt (0 + (1 * ν 1 + 0))))] [.int (Int32.ofInt (0 + 0))] := ?_
      · exact hst2
      try simp only [Int.zero_add, Int.one_mul, Int.add_zero]
      exact k48 K' B' L' f'   h1 h2 (h3.1 0) (h3.1 1) (h3.2.2.2.1 0 200 rfl)

/-! lw40: from 40 to [41] -/
def w_lw40 : TP := ([(0, (2, 0, (0, []))), (1, (0, 0, (0, [(1, 0)]))), (2, (0, 0, (0, [(1, 1)])))], [(0, 0, (0, [(1, 2)]))], ([((-2147483648), 2147483647), ((-2147483648), 2147483647), (0, 12)], [], [], [200], [], [], []), [], [])
def u_lw40 : List (Nat × TP × EX × Nat × Nat) := [(41, ([(0, (2, 0, (0, []))), (1, (0, 0, (0, [(1, 0)]))), (2, (0, 0, (0, [(1, 1)])))], [(0, 0, (0, [(1, 1)])), (0, 0, (0, [(1, 2)]))], ([((-2147483648), 2147483647), ((-2147483648), 2147483647), (0, 12)], [], [], [200], [], [], []), [], []), ((-1), []), 0, 0)]
def D_lw40 : DT := (mkD iX12_layWorkers fX12 lX12 kX12 kkX12 390 [] (w_lw40, [], [], 3, 0, 0, 3) false 5 u_lw40)
theorem k_lw40 : chkS D_lw40 4000 0 0 40 = true := by decide +kernel
theorem s_lw40 {X0 : zC0} {E : zCx} (H : ∀ j, j < 390 → CMj X0 j) (hE : zOk E X0 RX12 cX12_layWorkers 5 (zrm 3 0 0)) {K : Nat → Nat} {B : Int} {L : List Nat} {f : Nat → va_E} (hh : hok X0.2.2.1 K B L f) {v0 v1 v2 : Int} {r0 : Nat} (hb0 : (-2147483648) ≤ v0 ∧ v0 ≤ 2147483647) (hb1 : (-2147483648) ≤ v1 ∧ v1 ≤ 2147483647) (hb2 : 0 ≤ v2 ∧ v2 ≤ 12) (hr0 : r0 ∈ L ∧ K r0 = 200) (k41 : ∀ (K' : Nat → Nat) (B' : Int) (L' : List Nat) (f' : Nat → va_E), hok X0.2.2.1 K' B' L' f' → extC [] K B L f K' B' L' f' → ((-2147483648) ≤ v0 ∧ v0 ≤ 2147483647) → ((-2147483648) ≤ v1 ∧ v1 ≤ 2147483647) → (0 ≤ v2 ∧ v2 ≤ 12) → (r0 ∈ L' ∧ K' r0 = 200) → eW E 0 0 L' f' 41 [(0, .ref r0), (1, .int (Int32.ofInt v0)), (2, .int (Int32.ofInt v1))] [.int (Int32.ofInt v1), .int (Int32.ofInt v2)]) : eW E 0 0 L f 40 [(0, .ref r0), (1, .int (Int32.ofInt v0)), (2, .int (Int32.ofInt v1))] [.int (Int32.ofInt v2)] := by
  obtain ⟨l0, D0, cy0, ax0⟩ := X0
  have hraw : eW E 0 0 L f 40 [(0, .ref r0), (1, .int (Int32.ofInt (0 + (1 * v0 + 0)))), (2, .int (Int32.ofInt (0 + (1 * v1 + 0))))] [.int (Int32.ofInt (0 + (1 * v2 + 0)))] := ?_
  · simpa only [Int.zero_add, Int.one_mul, Int.add_zero] using hraw
  refine seg_ok (D := D_lw40) (νi := fun i => [v0, v1, v2].getD i 0) (μi := fun i => [r0].getD i 0) k_lw40 hE (mk_ok (ins := iX12_layWorkers) jX12_layWorkers fX12_ok lX12_ok kX12_ok kkX12_ok H) (by decide) rfl rfl rfl rfl hh ?_ ?_
  · refine ⟨(eok_of (fun i q hq => ?_) (fun i hi => ?_)), fa0, fa0, ?_, fa0, fa0, fa0⟩
    · match i, hq with
      | 0, hq => cases hq; exact hb0
      | 1, hq => cases hq; exact hb1
      | 2, hq => cases hq; exact hb2
      | i + 3, hq => cases hq
    · match i, hi with
      | 0, hi => exact absurd hi (by decide)
      | 1, hi => exact absurd hi (by decide)
      | 2, hi => exact absurd hi (by decide)
      | i + 3, _ => rfl
    · intro i k hk
      match i, hk with
      | 0, hk => cases hk; exact hr0
      | i + 1, hk => cases hk
  · intro q hq hst K' B' L' f' ν μ h1 h2 h3 h4 h5
    have e0 : ν 0 = v0 := h4 0 (by decide)
    have e1 : ν 1 = v1 := h4 1 (by decide)
    have e2 : ν 2 = v2 := h4 2 (by decide)
    have d0 : μ 0 = r0 := h5 0 (by decide)
    subst e0
    subst e1
    subst e2
    subst d0
    replace hq : q ∈ u_lw40 := hq
    unfold u_lw40 at hq
    simp only [List.mem_cons, List.not_mem_nil, or_false] at hq
    rcases hq with rfl
    · have hst2 : eW E 0 0 L' f' 41 [(0, .ref (μ 0)), (1, .int (Int32.ofInt (0 + (1 * ν 0 + 0)))), (2, .int (Int32.ofInt (0 + (1 * ν 1 + 0))))] [.int (Int32.ofInt (0 + (1 * ν 1 + 0))), .int (Int32.ofInt (0 + (1 * ν 2 + 0)))] := ?_
      · exact hst2
      try simp only [Int.zero_add, Int.one_mul, Int.add_zero]
      exact k41 K' B' L' f'   h1 h2 (h3.1 0) (h3.1 1) (h3.1 2) (h3.2.2.2.1 0 200 rfl)

/-! lw44: from 44 to [47, 49] -/
def w_lw44 : TP := ([(0, (2, 0, (0, []))), (1, (0, 0, (0, [(1, 0)]))), (2, (0, 0, (0, [(1, 1)])))], [(0, 0, (0, [(1, 2)])), (0, 0, (0, [(1, 3)]))], ([((-2147483648), 2147483647), ((-2147483648), 2147483647), (0, 12), (0, 12)], [], [], [200], [], [], []), [], [])
def u_lw44 : List (Nat × TP × EX × Nat × Nat) := [(47, ([(0, (2, 0, (0, []))), (1, (0, 0, (0, [(1, 0)]))), (2, (0, 0, (0, [(1, 1)])))], [], ([((-2147483648), 2147483647), ((-2147483648), 2147483647), (0, 12), (0, 12)], [], [], [200], [], [], []), [], []), ((-1), []), 0, 0), (49, ([(0, (2, 0, (0, []))), (1, (0, 0, (0, [(1, 0)]))), (2, (0, 0, (0, [(1, 1)])))], [], ([((-2147483648), 2147483647), ((-2147483648), 2147483647), (0, 12), (0, 12)], [(0, [((-1), 3), (1, 2)]), (0, [(1, 3), ((-1), 2)])], [], [200], [], [], []), [], []), ((-1), []), 0, 0)]
def D_lw44 : DT := (mkD iX12_layWorkers fX12 lX12 kX12 kkX12 390 [] (w_lw44, [], [], 3, 0, 0, 3) false 5 u_lw44)
theorem k_lw44 : chkS D_lw44 4000 0 0 44 = true := by decide +kernel
theorem s_lw44 {X0 : zC0} {E : zCx} (H : ∀ j, j < 390 → CMj X0 j) (hE : zOk E X0 RX12 cX12_layWorkers 5 (zrm 3 0 0)) {K : Nat → Nat} {B : Int} {L : List Nat} {f : Nat → va_E} (hh : hok X0.2.2.1 K B L f) {v0 v1 v2 v3 : Int} {r0 : Nat} (hb0 : (-2147483648) ≤ v0 ∧ v0 ≤ 2147483647) (hb1 : (-2147483648) ≤ v1 ∧ v1 ≤ 2147483647) (hb2 : 0 ≤ v2 ∧ v2 ≤ 12) (hb3 : 0 ≤ v3 ∧ v3 ≤ 12) (hr0 : r0 ∈ L ∧ K r0 = 200) (k47 : ∀ (K' : Nat → Nat) (B' : Int) (L' : List Nat) (f' : Nat → va_E), hok X0.2.2.1 K' B' L' f' → extC [] K B L f K' B' L' f' → ((-2147483648) ≤ v0 ∧ v0 ≤ 2147483647) → ((-2147483648) ≤ v1 ∧ v1 ≤ 2147483647) → (0 ≤ v2 ∧ v2 ≤ 12) → (0 ≤ v3 ∧ v3 ≤ 12) → (r0 ∈ L' ∧ K' r0 = 200) → eW E 0 0 L' f' 47 [(0, .ref r0), (1, .int (Int32.ofInt v0)), (2, .int (Int32.ofInt v1))] []) (k49 : ∀ (K' : Nat → Nat) (B' : Int) (L' : List Nat) (f' : Nat → va_E), hok X0.2.2.1 K' B' L' f' → extC [] K B L f K' B' L' f' → ((-2147483648) ≤ v0 ∧ v0 ≤ 2147483647) → ((-2147483648) ≤ v1 ∧ v1 ≤ 2147483647) → (0 ≤ v2 ∧ v2 ≤ 12) → (0 ≤ v3 ∧ v3 ≤ 12) → (0 ≤ ((-1) * v3 + v2)) → (0 ≤ (v3 + ((-1) * v2))) → (r0 ∈ L' ∧ K' r0 = 200) → eW E 0 0 L' f' 49 [(0, .ref r0), (1, .int (Int32.ofInt v0)), (2, .int (Int32.ofInt v1))] []) : eW E 0 0 L f 44 [(0, .ref r0), (1, .int (Int32.ofInt v0)), (2, .int (Int32.ofInt v1))] [.int (Int32.ofInt v2), .int (Int32.ofInt v3)] := by
  obtain ⟨l0, D0, cy0, ax0⟩ := X0
  have hraw : eW E 0 0 L f 44 [(0, .ref r0), (1, .int (Int32.ofInt (0 + (1 * v0 + 0)))), (2, .int (Int32.ofInt (0 + (1 * v1 + 0))))] [.int (Int32.ofInt (0 + (1 * v2 + 0))), .int (Int32.ofInt (0 + (1 * v3 + 0)))] := ?_
  · simpa only [Int.zero_add, Int.one_mul, Int.add_zero] using hraw
  refine seg_ok (D := D_lw44) (νi := fun i => [v0, v1, v2, v3].getD i 0) (μi := fun i => [r0].getD i 0) k_lw44 hE (mk_ok (ins := iX12_layWorkers) jX12_layWorkers fX12_ok lX12_ok kX12_ok kkX12_ok H) (by decide) rfl rfl rfl rfl hh ?_ ?_
  · refine ⟨(eok_of (fun i q hq => ?_) (fun i hi => ?_)), fa0, fa0, ?_, fa0, fa0, fa0⟩
    · match i, hq with
      | 0, hq => cases hq; exact hb0
      | 1, hq => cases hq; exact hb1
      | 2, hq => cases hq; exact hb2
      | 3, hq => cases hq; exact hb3
      | i + 4, hq => cases hq
    · match i, hi with
      | 0, hi => exact absurd hi (by decide)
      | 1, hi => exact absurd hi (by decide)
      | 2, hi => exact absurd hi (by decide)
      | 3, hi => exact absurd hi (by decide)
      | i + 4, _ => rfl
    · intro i k hk
      match i, hk with
      | 0, hk => cases hk; exact hr0
      | i + 1, hk => cases hk
  · intro q hq hst K' B' L' f' ν μ h1 h2 h3 h4 h5
    have e0 : ν 0 = v0 := h4 0 (by decide)
    have e1 : ν 1 = v1 := h4 1 (by decide)
    have e2 : ν 2 = v2 := h4 2 (by decide)
    have e3 : ν 3 = v3 := h4 3 (by decide)
    have d0 : μ 0 = r0 := h5 0 (by decide)
    subst e0
    subst e1
    subst e2
    subst e3
    subst d0
    replace hq : q ∈ u_lw44 := hq
    unfold u_lw44 at hq
    simp only [List.mem_cons, List.not_mem_nil, or_false] at hq
    rcases hq with rfl | rfl
    · have hst2 : eW E 0 0 L' f' 47 [(0, .ref (μ 0)), (1, .int (Int32.ofInt (0 + (1 * ν 0 + 0)))), (2, .int (Int32.ofInt (0 + (1 * ν 1 + 0))))] [] := ?_
      · exact hst2
      try simp only [Int.zero_add, Int.one_mul, Int.add_zero]
      exact k47 K' B' L' f'   h1 h2 (h3.1 0) (h3.1 1) (h3.1 2) (h3.1 3) (h3.2.2.2.1 0 200 rfl)
    · have hst2 : eW E 0 0 L' f' 49 [(0, .ref (μ 0)), (1, .int (Int32.ofInt (0 + (1 * ν 0 + 0)))), (2, .int (Int32.ofInt (0 + (1 * ν 1 + 0))))] [] := ?_
      · exact hst2
      try simp only [Int.zero_add, Int.one_mul, Int.add_zero]
      exact k49 K' B' L' f'   h1 h2 (h3.1 0) (h3.1 1) (h3.1 2) (h3.1 3) (by simpa only [xv, xvT, Int.zero_add, Int.one_mul, Int.add_zero] using (h3.2.1 _ (List.mem_of_getElem? (i := 0) rfl))) (by simpa only [xv, xvT, Int.zero_add, Int.one_mul, Int.add_zero] using (h3.2.1 _ (List.mem_of_getElem? (i := 1) rfl))) (h3.2.2.2.1 0 200 rfl)

/-! lw49: from 49 to [54] -/
def w_lw49 : TP := ([(0, (2, 0, (0, []))), (1, (0, 0, (0, [(1, 0)]))), (2, (0, 0, (0, [(1, 1)])))], [], ([((-2147483648), 2147483647), ((-2147483648), 2147483647)], [], [], [200], [], [], []), [], [])
def u_lw49 : List (Nat × TP × EX × Nat × Nat) := [(54, ([(0, (2, 0, (0, []))), (1, (0, 0, (0, [(1, 0)]))), (2, (0, 0, (0, [(1, 1)]))), (3, (0, 0, (0, []))), (4, (0, 0, (0, [])))], [], ([((-2147483648), 2147483647), ((-2147483648), 2147483647)], [], [], [200], [], [], []), [], []), ((-1), []), 0, 0)]
def D_lw49 : DT := (mkD iX12_layWorkers fX12 lX12 kX12 kkX12 390 [] (w_lw49, [], [], 3, 0, 0, 3) false 5 u_lw49)
theorem k_lw49 : chkS D_lw49 4000 0 0 49 = true := by decide +kernel
theorem s_lw49 {X0 : zC0} {E : zCx} (H : ∀ j, j < 390 → CMj X0 j) (hE : zOk E X0 RX12 cX12_layWorkers 5 (zrm 3 0 0)) {K : Nat → Nat} {B : Int} {L : List Nat} {f : Nat → va_E} (hh : hok X0.2.2.1 K B L f) {v0 v1 : Int} {r0 : Nat} (hb0 : (-2147483648) ≤ v0 ∧ v0 ≤ 2147483647) (hb1 : (-2147483648) ≤ v1 ∧ v1 ≤ 2147483647) (hr0 : r0 ∈ L ∧ K r0 = 200) (k54 : ∀ (K' : Nat → Nat) (B' : Int) (L' : List Nat) (f' : Nat → va_E), hok X0.2.2.1 K' B' L' f' → extC [] K B L f K' B' L' f' → ((-2147483648) ≤ v0 ∧ v0 ≤ 2147483647) → ((-2147483648) ≤ v1 ∧ v1 ≤ 2147483647) → (r0 ∈ L' ∧ K' r0 = 200) → eW E 0 0 L' f' 54 [(0, .ref r0), (1, .int (Int32.ofInt v0)), (2, .int (Int32.ofInt v1)), (3, .int (Int32.ofInt 0)), (4, .int (Int32.ofInt 0))] []) : eW E 0 0 L f 49 [(0, .ref r0), (1, .int (Int32.ofInt v0)), (2, .int (Int32.ofInt v1))] [] := by
  obtain ⟨l0, D0, cy0, ax0⟩ := X0
  have hraw : eW E 0 0 L f 49 [(0, .ref r0), (1, .int (Int32.ofInt (0 + (1 * v0 + 0)))), (2, .int (Int32.ofInt (0 + (1 * v1 + 0))))] [] := ?_
  · simpa only [Int.zero_add, Int.one_mul, Int.add_zero] using hraw
  refine seg_ok (D := D_lw49) (νi := fun i => [v0, v1].getD i 0) (μi := fun i => [r0].getD i 0) k_lw49 hE (mk_ok (ins := iX12_layWorkers) jX12_layWorkers fX12_ok lX12_ok kX12_ok kkX12_ok H) (by decide) rfl rfl rfl rfl hh ?_ ?_
  · refine ⟨(eok_of (fun i q hq => ?_) (fun i hi => ?_)), fa0, fa0, ?_, fa0, fa0, fa0⟩
    · match i, hq with
      | 0, hq => cases hq; exact hb0
      | 1, hq => cases hq; exact hb1
      | i + 2, hq => cases hq
    · match i, hi with
      | 0, hi => exact absurd hi (by decide)
      | 1, hi => exact absurd hi (by decide)
      | i + 2, _ => rfl
    · intro i k hk
      match i, hk with
      | 0, hk => cases hk; exact hr0
      | i + 1, hk => cases hk
  · intro q hq hst K' B' L' f' ν μ h1 h2 h3 h4 h5
    have e0 : ν 0 = v0 := h4 0 (by decide)
    have e1 : ν 1 = v1 := h4 1 (by decide)
    have d0 : μ 0 = r0 := h5 0 (by decide)
    subst e0
    subst e1
    subst d0
    replace hq : q ∈ u_lw49 := hq
    unfold u_lw49 at hq
    simp only [List.mem_cons, List.not_mem_nil, or_false] at hq
    rcases hq with rfl
    · have hst2 : eW E 0 0 L' f' 54 [(0, .ref (μ 0)), (1, .int (Int32.ofInt (0 + (1 * ν 0 + 0)))), (2, .int (Int32.ofInt (0 + (1 * ν 1 + 0)))), (3, .int (Int32.ofInt (0 + 0))), (4, .int (Int32.ofInt (0 + 0)))] [] := ?_
      · exact hst2
      try simp only [Int.zero_add, Int.one_mul, Int.add_zero]
      exact k54 K' B' L' f'   h1 h2 (h3.1 0) (h3.1 1) (h3.2.2.2.1 0 200 rfl)

/-! lw54: from 54 to [68, 94] -/
def w_lw54 : TP := ([(0, (2, 0, (0, []))), (1, (0, 0, (0, [(1, 0)]))), (2, (0, 0, (0, [(1, 1)]))), (3, (0, 0, (0, [(1, 2)]))), (4, (0, 0, (0, [(1, 3)])))], [], ([((-2147483648), 2147483647), ((-2147483648), 2147483647), (0, 8), (0, 8)], [], [], [200], [], [], []), [], [])
def u_lw54 : List (Nat × TP × EX × Nat × Nat) := [(68, ([(0, (2, 0, (0, []))), (1, (0, 0, (0, [(1, 0)]))), (2, (0, 0, (0, [(1, 1)]))), (3, (0, 0, (0, [(1, 2)]))), (4, (0, 0, (0, [(1, 3)])))], [(0, 0, (0, [(1, 3)])), (0, 0, (0, [(1, 0)]))], ([((-2147483648), 2147483647), ((-2147483648), 2147483647), (0, 8), (0, 7), (1, 8)], [((-1), [((-1), 3), (1, 4)])], [], [200], [((201, (1, [])), (0, [(1, 4)]))], [], []), [(2, 201, (1, []))], []), ((-1), []), 0, 0), (94, ([(0, (2, 0, (0, []))), (1, (0, 0, (0, [(1, 0)]))), (2, (0, 0, (0, [(1, 1)]))), (3, (0, 0, (0, [(1, 2)]))), (4, (0, 0, (0, [(1, 3)])))], [], ([((-2147483648), 2147483647), ((-2147483648), 2147483647), (0, 8), (0, 8), (0, 8)], [(0, [(1, 3), ((-1), 4)])], [], [200], [((201, (1, [])), (0, [(1, 4)]))], [], []), [(2, 201, (1, []))], []), ((-1), []), 0, 0)]
def D_lw54 : DT := (mkD iX12_layWorkers fX12 lX12 kX12 kkX12 390 [] (w_lw54, [], [], 3, 0, 0, 3) false 5 u_lw54)
theorem k_lw54 : chkS D_lw54 4000 0 0 54 = true := by decide +kernel
theorem s_lw54 {X0 : zC0} {E : zCx} (H : ∀ j, j < 390 → CMj X0 j) (hE : zOk E X0 RX12 cX12_layWorkers 5 (zrm 3 0 0)) {K : Nat → Nat} {B : Int} {L : List Nat} {f : Nat → va_E} (hh : hok X0.2.2.1 K B L f) {v0 v1 v2 v3 : Int} {r0 : Nat} (hb0 : (-2147483648) ≤ v0 ∧ v0 ≤ 2147483647) (hb1 : (-2147483648) ≤ v1 ∧ v1 ≤ 2147483647) (hb2 : 0 ≤ v2 ∧ v2 ≤ 8) (hb3 : 0 ≤ v3 ∧ v3 ≤ 8) (hr0 : r0 ∈ L ∧ K r0 = 200) (k68 : ∀ (K' : Nat → Nat) (B' : Int) (L' : List Nat) (f' : Nat → va_E) (v4 : Int), hok X0.2.2.1 K' B' L' f' → extC [] K B L f K' B' L' f' → ((-2147483648) ≤ v0 ∧ v0 ≤ 2147483647) → ((-2147483648) ≤ v1 ∧ v1 ≤ 2147483647) → (0 ≤ v2 ∧ v2 ≤ 8) → (0 ≤ v3 ∧ v3 ≤ 7) → (1 ≤ v4 ∧ v4 ≤ 8) → (0 ≤ ((-1) + ((-1) * v3 + v4))) → (r0 ∈ L' ∧ K' r0 = 200) → (∀ b ∈ L', K' b = 201 → (0 : Int) ≤ 1 ∧ gi (f' b) ((1 : Int)).toNat = v4) → eW E 0 0 L' f' 68 [(0, .ref r0), (1, .int (Int32.ofInt v0)), (2, .int (Int32.ofInt v1)), (3, .int (Int32.ofInt v2)), (4, .int (Int32.ofInt v3))] [.int (Int32.ofInt v3), .int (Int32.ofInt v0)]) (k94 : ∀ (K' : Nat → Nat) (B' : Int) (L' : List Nat) (f' : Nat → va_E) (v4 : Int), hok X0.2.2.1 K' B' L' f' → extC [] K B L f K' B' L' f' → ((-2147483648) ≤ v0 ∧ v0 ≤ 2147483647) → ((-2147483648) ≤ v1 ∧ v1 ≤ 2147483647) → (0 ≤ v2 ∧ v2 ≤ 8) → (0 ≤ v3 ∧ v3 ≤ 8) → (0 ≤ v4 ∧ v4 ≤ 8) → (0 ≤ (v3 + ((-1) * v4))) → (r0 ∈ L' ∧ K' r0 = 200) → (∀ b ∈ L', K' b = 201 → (0 : Int) ≤ 1 ∧ gi (f' b) ((1 : Int)).toNat = v4) → eW E 0 0 L' f' 94 [(0, .ref r0), (1, .int (Int32.ofInt v0)), (2, .int (Int32.ofInt v1)), (3, .int (Int32.ofInt v2)), (4, .int (Int32.ofInt v3))] []) : eW E 0 0 L f 54 [(0, .ref r0), (1, .int (Int32.ofInt v0)), (2, .int (Int32.ofInt v1)), (3, .int (Int32.ofInt v2)), (4, .int (Int32.ofInt v3))] [] := by
  obtain ⟨l0, D0, cy0, ax0⟩ := X0
  have hraw : eW E 0 0 L f 54 [(0, .ref r0), (1, .int (Int32.ofInt (0 + (1 * v0 + 0)))), (2, .int (Int32.ofInt (0 + (1 * v1 + 0)))), (3, .int (Int32.ofInt (0 + (1 * v2 + 0)))), (4, .int (Int32.ofInt (0 + (1 * v3 + 0))))] [] := ?_
  · simpa only [Int.zero_add, Int.one_mul, Int.add_zero] using hraw
  refine seg_ok (D := D_lw54) (νi := fun i => [v0, v1, v2, v3].getD i 0) (μi := fun i => [r0].getD i 0) k_lw54 hE (mk_ok (ins := iX12_layWorkers) jX12_layWorkers fX12_ok lX12_ok kX12_ok kkX12_ok H) (by decide) rfl rfl rfl rfl hh ?_ ?_
  · refine ⟨(eok_of (fun i q hq => ?_) (fun i hi => ?_)), fa0, fa0, ?_, fa0, fa0, fa0⟩
    · match i, hq with
      | 0, hq => cases hq; exact hb0
      | 1, hq => cases hq; exact hb1
      | 2, hq => cases hq; exact hb2
      | 3, hq => cases hq; exact hb3
      | i + 4, hq => cases hq
    · match i, hi with
      | 0, hi => exact absurd hi (by decide)
      | 1, hi => exact absurd hi (by decide)
      | 2, hi => exact absurd hi (by decide)
      | 3, hi => exact absurd hi (by decide)
      | i + 4, _ => rfl
    · intro i k hk
      match i, hk with
      | 0, hk => cases hk; exact hr0
      | i + 1, hk => cases hk
  · intro q hq hst K' B' L' f' ν μ h1 h2 h3 h4 h5
    have e0 : ν 0 = v0 := h4 0 (by decide)
    have e1 : ν 1 = v1 := h4 1 (by decide)
    have e2 : ν 2 = v2 := h4 2 (by decide)
    have e3 : ν 3 = v3 := h4 3 (by decide)
    have d0 : μ 0 = r0 := h5 0 (by decide)
    subst e0
    subst e1
    subst e2
    subst e3
    subst d0
    replace hq : q ∈ u_lw54 := hq
    unfold u_lw54 at hq
    simp only [List.mem_cons, List.not_mem_nil, or_false] at hq
    rcases hq with rfl | rfl
    · have hst2 : eW E 0 0 L' f' 68 [(0, .ref (μ 0)), (1, .int (Int32.ofInt (0 + (1 * ν 0 + 0)))), (2, .int (Int32.ofInt (0 + (1 * ν 1 + 0)))), (3, .int (Int32.ofInt (0 + (1 * ν 2 + 0)))), (4, .int (Int32.ofInt (0 + (1 * ν 3 + 0))))] [.int (Int32.ofInt (0 + (1 * ν 3 + 0))), .int (Int32.ofInt (0 + (1 * ν 0 + 0)))] := ?_
      · exact hst2
      try simp only [Int.zero_add, Int.one_mul, Int.add_zero]
      exact k68 K' B' L' f' (ν 4)  h1 h2 (h3.1 0) (h3.1 1) (h3.1 2) (h3.1 3) (h3.1 4) (by simpa only [xv, xvT, Int.zero_add, Int.one_mul, Int.add_zero] using (h3.2.1 _ (List.mem_of_getElem? (i := 0) rfl))) (h3.2.2.2.1 0 200 rfl) (by simpa only [xv, xvT, Int.zero_add, Int.one_mul, Int.add_zero] using (mokA h1 (show (zkd 201).1 = 2 by decide) (by decide) (h3.2.2.2.2.1 _ (List.mem_of_getElem? (i := 0) rfl))))
    · have hst2 : eW E 0 0 L' f' 94 [(0, .ref (μ 0)), (1, .int (Int32.ofInt (0 + (1 * ν 0 + 0)))), (2, .int (Int32.ofInt (0 + (1 * ν 1 + 0)))), (3, .int (Int32.ofInt (0 + (1 * ν 2 + 0)))), (4, .int (Int32.ofInt (0 + (1 * ν 3 + 0))))] [] := ?_
      · exact hst2
      try simp only [Int.zero_add, Int.one_mul, Int.add_zero]
      exact k94 K' B' L' f' (ν 4)  h1 h2 (h3.1 0) (h3.1 1) (h3.1 2) (h3.1 3) (h3.1 4) (by simpa only [xv, xvT, Int.zero_add, Int.one_mul, Int.add_zero] using (h3.2.1 _ (List.mem_of_getElem? (i := 0) rfl))) (h3.2.2.2.1 0 200 rfl) (by simpa only [xv, xvT, Int.zero_add, Int.one_mul, Int.add_zero] using (mokA h1 (show (zkd 201).1 = 2 by decide) (by decide) (h3.2.2.2.2.1 _ (List.mem_of_getElem? (i := 0) rfl))))

/-! lw71: from 71 to [84, 88] -/
def w_lw71 : TP := ([(0, (2, 0, (0, []))), (1, (0, 0, (0, [(1, 0)]))), (2, (0, 0, (0, [(1, 1)]))), (3, (0, 0, (0, [(1, 2)]))), (4, (0, 0, (0, [(1, 3)])))], [(0, 0, (0, [(1, 4)]))], ([((-2147483648), 2147483647), ((-2147483648), 2147483647), (0, 8), (0, 8), (0, 1)], [], [], [200], [], [], []), [], [])
def u_lw71 : List (Nat × TP × EX × Nat × Nat) := [(84, ([(0, (2, 0, (0, []))), (1, (0, 0, (0, [(1, 0)]))), (2, (0, 0, (0, [(1, 1)]))), (3, (0, 0, (0, [(1, 2)]))), (4, (0, 0, (0, [(1, 3)])))], [(0, 0, (0, [(1, 3)])), (0, 0, (0, [(1, 2)])), (2, 1, (0, []))], ([((-2147483648), 2147483647), ((-2147483648), 2147483647), (0, 8), (0, 8), (1, 1)], [], [], [200, 219], [], [], []), [], [(1, 2)]), ((-1), []), 0, 0), (88, ([(0, (2, 0, (0, []))), (1, (0, 0, (0, [(1, 0)]))), (2, (0, 0, (0, [(1, 1)]))), (3, (0, 0, (0, [(1, 2)]))), (4, (0, 0, (0, [(1, 3)])))], [], ([((-2147483648), 2147483647), ((-2147483648), 2147483647), (0, 8), (0, 8), (0, 0)], [], [], [200], [], [], []), [], []), ((-1), []), 0, 0)]
def D_lw71 : DT := (mkD iX12_layWorkers fX12 lX12 kX12 kkX12 390 [] (w_lw71, [], [], 3, 0, 0, 3) false 5 u_lw71)
theorem k_lw71 : chkS D_lw71 4000 0 0 71 = true := by decide +kernel
theorem s_lw71 {X0 : zC0} {E : zCx} (H : ∀ j, j < 390 → CMj X0 j) (hE : zOk E X0 RX12 cX12_layWorkers 5 (zrm 3 0 0)) {K : Nat → Nat} {B : Int} {L : List Nat} {f : Nat → va_E} (hh : hok X0.2.2.1 K B L f) {v0 v1 v2 v3 v4 : Int} {r0 : Nat} (hb0 : (-2147483648) ≤ v0 ∧ v0 ≤ 2147483647) (hb1 : (-2147483648) ≤ v1 ∧ v1 ≤ 2147483647) (hb2 : 0 ≤ v2 ∧ v2 ≤ 8) (hb3 : 0 ≤ v3 ∧ v3 ≤ 8) (hb4 : 0 ≤ v4 ∧ v4 ≤ 1) (hr0 : r0 ∈ L ∧ K r0 = 200) (k84 : ∀ (K' : Nat → Nat) (B' : Int) (L' : List Nat) (f' : Nat → va_E) (r1 : Nat), hok X0.2.2.1 K' B' L' f' → extC [] K B L f K' B' L' f' → ((-2147483648) ≤ v0 ∧ v0 ≤ 2147483647) → ((-2147483648) ≤ v1 ∧ v1 ≤ 2147483647) → (0 ≤ v2 ∧ v2 ≤ 8) → (0 ≤ v3 ∧ v3 ≤ 8) → (1 ≤ v4 ∧ v4 ≤ 1) → (r0 ∈ L' ∧ K' r0 = 200) → (r1 ∈ L' ∧ K' r1 = 219) → eW E 0 0 L' f' 84 [(0, .ref r0), (1, .int (Int32.ofInt v0)), (2, .int (Int32.ofInt v1)), (3, .int (Int32.ofInt v2)), (4, .int (Int32.ofInt v3))] [.int (Int32.ofInt v3), .int (Int32.ofInt v2), .ref r1]) (k88 : ∀ (K' : Nat → Nat) (B' : Int) (L' : List Nat) (f' : Nat → va_E), hok X0.2.2.1 K' B' L' f' → extC [] K B L f K' B' L' f' → ((-2147483648) ≤ v0 ∧ v0 ≤ 2147483647) → ((-2147483648) ≤ v1 ∧ v1 ≤ 2147483647) → (0 ≤ v2 ∧ v2 ≤ 8) → (0 ≤ v3 ∧ v3 ≤ 8) → (0 ≤ v4 ∧ v4 ≤ 0) → (r0 ∈ L' ∧ K' r0 = 200) → eW E 0 0 L' f' 88 [(0, .ref r0), (1, .int (Int32.ofInt v0)), (2, .int (Int32.ofInt v1)), (3, .int (Int32.ofInt v2)), (4, .int (Int32.ofInt v3))] []) : eW E 0 0 L f 71 [(0, .ref r0), (1, .int (Int32.ofInt v0)), (2, .int (Int32.ofInt v1)), (3, .int (Int32.ofInt v2)), (4, .int (Int32.ofInt v3))] [.int (Int32.ofInt v4)] := by
  obtain ⟨l0, D0, cy0, ax0⟩ := X0
  have hraw : eW E 0 0 L f 71 [(0, .ref r0), (1, .int (Int32.ofInt (0 + (1 * v0 + 0)))), (2, .int (Int32.ofInt (0 + (1 * v1 + 0)))), (3, .int (Int32.ofInt (0 + (1 * v2 + 0)))), (4, .int (Int32.ofInt (0 + (1 * v3 + 0))))] [.int (Int32.ofInt (0 + (1 * v4 + 0)))] := ?_
  · simpa only [Int.zero_add, Int.one_mul, Int.add_zero] using hraw
  refine seg_ok (D := D_lw71) (νi := fun i => [v0, v1, v2, v3, v4].getD i 0) (μi := fun i => [r0].getD i 0) k_lw71 hE (mk_ok (ins := iX12_layWorkers) jX12_layWorkers fX12_ok lX12_ok kX12_ok kkX12_ok H) (by decide) rfl rfl rfl rfl hh ?_ ?_
  · refine ⟨(eok_of (fun i q hq => ?_) (fun i hi => ?_)), fa0, fa0, ?_, fa0, fa0, fa0⟩
    · match i, hq with
      | 0, hq => cases hq; exact hb0
      | 1, hq => cases hq; exact hb1
      | 2, hq => cases hq; exact hb2
      | 3, hq => cases hq; exact hb3
      | 4, hq => cases hq; exact hb4
      | i + 5, hq => cases hq
    · match i, hi with
      | 0, hi => exact absurd hi (by decide)
      | 1, hi => exact absurd hi (by decide)
      | 2, hi => exact absurd hi (by decide)
      | 3, hi => exact absurd hi (by decide)
      | 4, hi => exact absurd hi (by decide)
      | i + 5, _ => rfl
    · intro i k hk
      match i, hk with
      | 0, hk => cases hk; exact hr0
      | i + 1, hk => cases hk
  · intro q hq hst K' B' L' f' ν μ h1 h2 h3 h4 h5
    have e0 : ν 0 = v0 := h4 0 (by decide)
    have e1 : ν 1 = v1 := h4 1 (by decide)
    have e2 : ν 2 = v2 := h4 2 (by decide)
    have e3 : ν 3 = v3 := h4 3 (by decide)
    have e4 : ν 4 = v4 := h4 4 (by decide)
    have d0 : μ 0 = r0 := h5 0 (by decide)
    subst e0
    subst e1
    subst e2
    subst e3
    subst e4
    subst d0
    replace hq : q ∈ u_lw71 := hq
    unfold u_lw71 at hq
    simp only [List.mem_cons, List.not_mem_nil, or_false] at hq
    rcases hq with rfl | rfl
    · have hst2 : eW E 0 0 L' f' 84 [(0, .ref (μ 0)), (1, .int (Int32.ofInt (0 + (1 * ν 0 + 0)))), (2, .int (Int32.ofInt (0 + (1 * ν 1 + 0)))), (3, .int (Int32.ofInt (0 + (1 * ν 2 + 0)))), (4, .int (Int32.ofInt (0 + (1 * ν 3 + 0))))] [.int (Int32.ofInt (0 + (1 * ν 3 + 0))), .int (Int32.ofInt (0 + (1 * ν 2 + 0))), .ref (μ 1)] := ?_
      · exact hst2
      try simp only [Int.zero_add, Int.one_mul, Int.add_zero]
      exact k84 K' B' L' f'  (μ 1) h1 h2 (h3.1 0) (h3.1 1) (h3.1 2) (h3.1 3) (h3.1 4) (h3.2.2.2.1 0 200 rfl) (h3.2.2.2.1 1 219 rfl)
    · have hst2 : eW E 0 0 L' f' 88 [(0, .ref (μ 0)), (1, .int (Int32.ofInt (0 + (1 * ν 0 + 0)))), (2, .int (Int32.ofInt (0 + (1 * ν 1 + 0)))), (3, .int (Int32.ofInt (0 + (1 * ν 2 + 0)))), (4, .int (Int32.ofInt (0 + (1 * ν 3 + 0))))] [] := ?_
      · exact hst2
      try simp only [Int.zero_add, Int.one_mul, Int.add_zero]
      exact k88 K' B' L' f'   h1 h2 (h3.1 0) (h3.1 1) (h3.1 2) (h3.1 3) (h3.1 4) (h3.2.2.2.1 0 200 rfl)

/-! lw85: from 85 to [54] -/
def w_lw85 : TP := ([(0, (2, 0, (0, []))), (1, (0, 0, (0, [(1, 0)]))), (2, (0, 0, (0, [(1, 1)]))), (3, (0, 0, (0, [(1, 2)]))), (4, (0, 0, (0, [(1, 3)])))], [], ([((-2147483648), 2147483647), ((-2147483648), 2147483647), (0, 8), (0, 8)], [], [], [200], [], [], []), [], [])
def u_lw85 : List (Nat × TP × EX × Nat × Nat) := [(54, ([(0, (2, 0, (0, []))), (1, (0, 0, (0, [(1, 0)]))), (2, (0, 0, (0, [(1, 1)]))), (3, (0, 0, (1, [(1, 2)]))), (4, (0, 0, (1, [(1, 3)])))], [], ([((-2147483648), 2147483647), ((-2147483648), 2147483647), (0, 8), (0, 8)], [], [], [200], [], [], []), [], []), ((-1), []), 0, 0)]
def D_lw85 : DT := (mkD iX12_layWorkers fX12 lX12 kX12 kkX12 390 [] (w_lw85, [], [], 3, 0, 0, 3) false 5 u_lw85)
theorem k_lw85 : chkS D_lw85 4000 0 0 85 = true := by decide +kernel
theorem s_lw85 {X0 : zC0} {E : zCx} (H : ∀ j, j < 390 → CMj X0 j) (hE : zOk E X0 RX12 cX12_layWorkers 5 (zrm 3 0 0)) {K : Nat → Nat} {B : Int} {L : List Nat} {f : Nat → va_E} (hh : hok X0.2.2.1 K B L f) {v0 v1 v2 v3 : Int} {r0 : Nat} (hb0 : (-2147483648) ≤ v0 ∧ v0 ≤ 2147483647) (hb1 : (-2147483648) ≤ v1 ∧ v1 ≤ 2147483647) (hb2 : 0 ≤ v2 ∧ v2 ≤ 8) (hb3 : 0 ≤ v3 ∧ v3 ≤ 8) (hr0 : r0 ∈ L ∧ K r0 = 200) (k54 : ∀ (K' : Nat → Nat) (B' : Int) (L' : List Nat) (f' : Nat → va_E), hok X0.2.2.1 K' B' L' f' → extC [] K B L f K' B' L' f' → ((-2147483648) ≤ v0 ∧ v0 ≤ 2147483647) → ((-2147483648) ≤ v1 ∧ v1 ≤ 2147483647) → (0 ≤ v2 ∧ v2 ≤ 8) → (0 ≤ v3 ∧ v3 ≤ 8) → (r0 ∈ L' ∧ K' r0 = 200) → eW E 0 0 L' f' 54 [(0, .ref r0), (1, .int (Int32.ofInt v0)), (2, .int (Int32.ofInt v1)), (3, .int (Int32.ofInt (1 + v2))), (4, .int (Int32.ofInt (1 + v3)))] []) : eW E 0 0 L f 85 [(0, .ref r0), (1, .int (Int32.ofInt v0)), (2, .int (Int32.ofInt v1)), (3, .int (Int32.ofInt v2)), (4, .int (Int32.ofInt v3))] [] := by
  obtain ⟨l0, D0, cy0, ax0⟩ := X0
  have hraw : eW E 0 0 L f 85 [(0, .ref r0), (1, .int (Int32.ofInt (0 + (1 * v0 + 0)))), (2, .int (Int32.ofInt (0 + (1 * v1 + 0)))), (3, .int (Int32.ofInt (0 + (1 * v2 + 0)))), (4, .int (Int32.ofInt (0 + (1 * v3 + 0))))] [] := ?_
  · simpa only [Int.zero_add, Int.one_mul, Int.add_zero] using hraw
  refine seg_ok (D := D_lw85) (νi := fun i => [v0, v1, v2, v3].getD i 0) (μi := fun i => [r0].getD i 0) k_lw85 hE (mk_ok (ins := iX12_layWorkers) jX12_layWorkers fX12_ok lX12_ok kX12_ok kkX12_ok H) (by decide) rfl rfl rfl rfl hh ?_ ?_
  · refine ⟨(eok_of (fun i q hq => ?_) (fun i hi => ?_)), fa0, fa0, ?_, fa0, fa0, fa0⟩
    · match i, hq with
      | 0, hq => cases hq; exact hb0
      | 1, hq => cases hq; exact hb1
      | 2, hq => cases hq; exact hb2
      | 3, hq => cases hq; exact hb3
      | i + 4, hq => cases hq
    · match i, hi with
      | 0, hi => exact absurd hi (by decide)
      | 1, hi => exact absurd hi (by decide)
      | 2, hi => exact absurd hi (by decide)
      | 3, hi => exact absurd hi (by decide)
      | i + 4, _ => rfl
    · intro i k hk
      match i, hk with
      | 0, hk => cases hk; exact hr0
      | i + 1, hk => cases hk
  · intro q hq hst K' B' L' f' ν μ h1 h2 h3 h4 h5
    have e0 : ν 0 = v0 := h4 0 (by decide)
    have e1 : ν 1 = v1 := h4 1 (by decide)
    have e2 : ν 2 = v2 := h4 2 (by decide)
    have e3 : ν 3 = v3 := h4 3 (by decide)
    have d0 : μ 0 = r0 := h5 0 (by decide)
    subst e0
    subst e1
    subst e2
    subst e3
    subst d0
    replace hq : q ∈ u_lw85 := hq
    unfold u_lw85 at hq
    simp only [List.mem_cons, List.not_mem_nil, or_false] at hq
    rcases hq with rfl
    · have hst2 : eW E 0 0 L' f' 54 [(0, .ref (μ 0)), (1, .int (Int32.ofInt (0 + (1 * ν 0 + 0)))), (2, .int (Int32.ofInt (0 + (1 * ν 1 + 0)))), (3, .int (Int32.ofInt (1 + (1 * ν 2 + 0)))), (4, .int (Int32.ofInt (1 + (1 * ν 3 + 0))))] [] := ?_
      · exact hst2
      try simp only [Int.zero_add, Int.one_mul, Int.add_zero]
      exact k54 K' B' L' f'   h1 h2 (h3.1 0) (h3.1 1) (h3.1 2) (h3.1 3) (h3.2.2.2.1 0 200 rfl)

/-! lw88: from 88 to [54] -/
def w_lw88 : TP := ([(0, (2, 0, (0, []))), (1, (0, 0, (0, [(1, 0)]))), (2, (0, 0, (0, [(1, 1)]))), (3, (0, 0, (0, [(1, 2)]))), (4, (0, 0, (0, [(1, 3)])))], [], ([((-2147483648), 2147483647), ((-2147483648), 2147483647), (0, 8), (0, 8)], [], [], [200], [], [], []), [], [])
def u_lw88 : List (Nat × TP × EX × Nat × Nat) := [(54, ([(0, (2, 0, (0, []))), (1, (0, 0, (0, [(1, 0)]))), (2, (0, 0, (0, [(1, 1)]))), (3, (0, 0, (0, [(1, 2)]))), (4, (0, 0, (1, [(1, 3)])))], [], ([((-2147483648), 2147483647), ((-2147483648), 2147483647), (0, 8), (0, 8)], [], [], [200], [], [], []), [], []), ((-1), []), 0, 0)]
def D_lw88 : DT := (mkD iX12_layWorkers fX12 lX12 kX12 kkX12 390 [] (w_lw88, [], [], 3, 0, 0, 3) false 5 u_lw88)
theorem k_lw88 : chkS D_lw88 4000 0 0 88 = true := by decide +kernel
theorem s_lw88 {X0 : zC0} {E : zCx} (H : ∀ j, j < 390 → CMj X0 j) (hE : zOk E X0 RX12 cX12_layWorkers 5 (zrm 3 0 0)) {K : Nat → Nat} {B : Int} {L : List Nat} {f : Nat → va_E} (hh : hok X0.2.2.1 K B L f) {v0 v1 v2 v3 : Int} {r0 : Nat} (hb0 : (-2147483648) ≤ v0 ∧ v0 ≤ 2147483647) (hb1 : (-2147483648) ≤ v1 ∧ v1 ≤ 2147483647) (hb2 : 0 ≤ v2 ∧ v2 ≤ 8) (hb3 : 0 ≤ v3 ∧ v3 ≤ 8) (hr0 : r0 ∈ L ∧ K r0 = 200) (k54 : ∀ (K' : Nat → Nat) (B' : Int) (L' : List Nat) (f' : Nat → va_E), hok X0.2.2.1 K' B' L' f' → extC [] K B L f K' B' L' f' → ((-2147483648) ≤ v0 ∧ v0 ≤ 2147483647) → ((-2147483648) ≤ v1 ∧ v1 ≤ 2147483647) → (0 ≤ v2 ∧ v2 ≤ 8) → (0 ≤ v3 ∧ v3 ≤ 8) → (r0 ∈ L' ∧ K' r0 = 200) → eW E 0 0 L' f' 54 [(0, .ref r0), (1, .int (Int32.ofInt v0)), (2, .int (Int32.ofInt v1)), (3, .int (Int32.ofInt v2)), (4, .int (Int32.ofInt (1 + v3)))] []) : eW E 0 0 L f 88 [(0, .ref r0), (1, .int (Int32.ofInt v0)), (2, .int (Int32.ofInt v1)), (3, .int (Int32.ofInt v2)), (4, .int (Int32.ofInt v3))] [] := by
  obtain ⟨l0, D0, cy0, ax0⟩ := X0
  have hraw : eW E 0 0 L f 88 [(0, .ref r0), (1, .int (Int32.ofInt (0 + (1 * v0 + 0)))), (2, .int (Int32.ofInt (0 + (1 * v1 + 0)))), (3, .int (Int32.ofInt (0 + (1 * v2 + 0)))), (4, .int (Int32.ofInt (0 + (1 * v3 + 0))))] [] := ?_
  · simpa only [Int.zero_add, Int.one_mul, Int.add_zero] using hraw
  refine seg_ok (D := D_lw88) (νi := fun i => [v0, v1, v2, v3].getD i 0) (μi := fun i => [r0].getD i 0) k_lw88 hE (mk_ok (ins := iX12_layWorkers) jX12_layWorkers fX12_ok lX12_ok kX12_ok kkX12_ok H) (by decide) rfl rfl rfl rfl hh ?_ ?_
  · refine ⟨(eok_of (fun i q hq => ?_) (fun i hi => ?_)), fa0, fa0, ?_, fa0, fa0, fa0⟩
    · match i, hq with
      | 0, hq => cases hq; exact hb0
      | 1, hq => cases hq; exact hb1
      | 2, hq => cases hq; exact hb2
      | 3, hq => cases hq; exact hb3
      | i + 4, hq => cases hq
    · match i, hi with
      | 0, hi => exact absurd hi (by decide)
      | 1, hi => exact absurd hi (by decide)
      | 2, hi => exact absurd hi (by decide)
      | 3, hi => exact absurd hi (by decide)
      | i + 4, _ => rfl
    · intro i k hk
      match i, hk with
      | 0, hk => cases hk; exact hr0
      | i + 1, hk => cases hk
  · intro q hq hst K' B' L' f' ν μ h1 h2 h3 h4 h5
    have e0 : ν 0 = v0 := h4 0 (by decide)
    have e1 : ν 1 = v1 := h4 1 (by decide)
    have e2 : ν 2 = v2 := h4 2 (by decide)
    have e3 : ν 3 = v3 := h4 3 (by decide)
    have d0 : μ 0 = r0 := h5 0 (by decide)
    subst e0
    subst e1
    subst e2
    subst e3
    subst d0
    replace hq : q ∈ u_lw88 := hq
    unfold u_lw88 at hq
    simp only [List.mem_cons, List.not_mem_nil, or_false] at hq
    rcases hq with rfl
    · have hst2 : eW E 0 0 L' f' 54 [(0, .ref (μ 0)), (1, .int (Int32.ofInt (0 + (1 * ν 0 + 0)))), (2, .int (Int32.ofInt (0 + (1 * ν 1 + 0)))), (3, .int (Int32.ofInt (0 + (1 * ν 2 + 0)))), (4, .int (Int32.ofInt (1 + (1 * ν 3 + 0))))] [] := ?_
      · exact hst2
      try simp only [Int.zero_add, Int.one_mul, Int.add_zero]
      exact k54 K' B' L' f'   h1 h2 (h3.1 0) (h3.1 1) (h3.1 2) (h3.1 3) (h3.2.2.2.1 0 200 rfl)

/-! lw94: from 94 to [99] -/
def w_lw94 : TP := ([(0, (2, 0, (0, []))), (1, (0, 0, (0, [(1, 0)]))), (2, (0, 0, (0, [(1, 1)]))), (3, (0, 0, (0, [(1, 2)]))), (4, (0, 0, (0, [(1, 3)])))], [], ([((-2147483648), 2147483647), ((-2147483648), 2147483647), (0, 8), (0, 8)], [], [], [200], [], [], []), [], [])
def u_lw94 : List (Nat × TP × EX × Nat × Nat) := [(99, ([(0, (2, 0, (0, []))), (1, (0, 0, (0, [(1, 0)]))), (2, (0, 0, (0, [(1, 1)]))), (3, (0, 0, (0, []))), (4, (0, 0, (0, [])))], [], ([((-2147483648), 2147483647), ((-2147483648), 2147483647), (0, 8), (0, 8)], [], [], [200], [], [], []), [], []), ((-1), []), 0, 0)]
def D_lw94 : DT := (mkD iX12_layWorkers fX12 lX12 kX12 kkX12 390 [] (w_lw94, [], [], 3, 0, 0, 3) false 5 u_lw94)
theorem k_lw94 : chkS D_lw94 4000 0 0 94 = true := by decide +kernel
theorem s_lw94 {X0 : zC0} {E : zCx} (H : ∀ j, j < 390 → CMj X0 j) (hE : zOk E X0 RX12 cX12_layWorkers 5 (zrm 3 0 0)) {K : Nat → Nat} {B : Int} {L : List Nat} {f : Nat → va_E} (hh : hok X0.2.2.1 K B L f) {v0 v1 v2 v3 : Int} {r0 : Nat} (hb0 : (-2147483648) ≤ v0 ∧ v0 ≤ 2147483647) (hb1 : (-2147483648) ≤ v1 ∧ v1 ≤ 2147483647) (hb2 : 0 ≤ v2 ∧ v2 ≤ 8) (hb3 : 0 ≤ v3 ∧ v3 ≤ 8) (hr0 : r0 ∈ L ∧ K r0 = 200) (k99 : ∀ (K' : Nat → Nat) (B' : Int) (L' : List Nat) (f' : Nat → va_E), hok X0.2.2.1 K' B' L' f' → extC [] K B L f K' B' L' f' → ((-2147483648) ≤ v0 ∧ v0 ≤ 2147483647) → ((-2147483648) ≤ v1 ∧ v1 ≤ 2147483647) → (0 ≤ v2 ∧ v2 ≤ 8) → (0 ≤ v3 ∧ v3 ≤ 8) → (r0 ∈ L' ∧ K' r0 = 200) → eW E 0 0 L' f' 99 [(0, .ref r0), (1, .int (Int32.ofInt v0)), (2, .int (Int32.ofInt v1)), (3, .int (Int32.ofInt 0)), (4, .int (Int32.ofInt 0))] []) : eW E 0 0 L f 94 [(0, .ref r0), (1, .int (Int32.ofInt v0)), (2, .int (Int32.ofInt v1)), (3, .int (Int32.ofInt v2)), (4, .int (Int32.ofInt v3))] [] := by
  obtain ⟨l0, D0, cy0, ax0⟩ := X0
  have hraw : eW E 0 0 L f 94 [(0, .ref r0), (1, .int (Int32.ofInt (0 + (1 * v0 + 0)))), (2, .int (Int32.ofInt (0 + (1 * v1 + 0)))), (3, .int (Int32.ofInt (0 + (1 * v2 + 0)))), (4, .int (Int32.ofInt (0 + (1 * v3 + 0))))] [] := ?_
  · simpa only [Int.zero_add, Int.one_mul, Int.add_zero] using hraw
  refine seg_ok (D := D_lw94) (νi := fun i => [v0, v1, v2, v3].getD i 0) (μi := fun i => [r0].getD i 0) k_lw94 hE (mk_ok (ins := iX12_layWorkers) jX12_layWorkers fX12_ok lX12_ok kX12_ok kkX12_ok H) (by decide) rfl rfl rfl rfl hh ?_ ?_
  · refine ⟨(eok_of (fun i q hq => ?_) (fun i hi => ?_)), fa0, fa0, ?_, fa0, fa0, fa0⟩
    · match i, hq with
      | 0, hq => cases hq; exact hb0
      | 1, hq => cases hq; exact hb1
      | 2, hq => cases hq; exact hb2
      | 3, hq => cases hq; exact hb3
      | i + 4, hq => cases hq
    · match i, hi with
      | 0, hi => exact absurd hi (by decide)
      | 1, hi => exact absurd hi (by decide)
      | 2, hi => exact absurd hi (by decide)
      | 3, hi => exact absurd hi (by decide)
      | i + 4, _ => rfl
    · intro i k hk
      match i, hk with
      | 0, hk => cases hk; exact hr0
      | i + 1, hk => cases hk
  · intro q hq hst K' B' L' f' ν μ h1 h2 h3 h4 h5
    have e0 : ν 0 = v0 := h4 0 (by decide)
    have e1 : ν 1 = v1 := h4 1 (by decide)
    have e2 : ν 2 = v2 := h4 2 (by decide)
    have e3 : ν 3 = v3 := h4 3 (by decide)
    have d0 : μ 0 = r0 := h5 0 (by decide)
    subst e0
    subst e1
    subst e2
    subst e3
    subst d0
    replace hq : q ∈ u_lw94 := hq
    unfold u_lw94 at hq
    simp only [List.mem_cons, List.not_mem_nil, or_false] at hq
    rcases hq with rfl
    · have hst2 : eW E 0 0 L' f' 99 [(0, .ref (μ 0)), (1, .int (Int32.ofInt (0 + (1 * ν 0 + 0)))), (2, .int (Int32.ofInt (0 + (1 * ν 1 + 0)))), (3, .int (Int32.ofInt (0 + 0))), (4, .int (Int32.ofInt (0 + 0)))] [] := ?_
      · exact hst2
      try simp only [Int.zero_add, Int.one_mul, Int.add_zero]
      exact k99 K' B' L' f'   h1 h2 (h3.1 0) (h3.1 1) (h3.1 2) (h3.1 3) (h3.2.2.2.1 0 200 rfl)

/-! lw99: from 99 to [113, 146] -/
def w_lw99 : TP := ([(0, (2, 0, (0, []))), (1, (0, 0, (0, [(1, 0)]))), (2, (0, 0, (0, [(1, 1)]))), (3, (0, 0, (0, [(1, 2)]))), (4, (0, 0, (0, [(1, 3)])))], [], ([((-2147483648), 2147483647), ((-2147483648), 2147483647), (0, 6), (0, 6)], [], [], [200], [], [], []), [], [])
def u_lw99 : List (Nat × TP × EX × Nat × Nat) := [(113, ([(0, (2, 0, (0, []))), (1, (0, 0, (0, [(1, 0)]))), (2, (0, 0, (0, [(1, 1)]))), (3, (0, 0, (0, [(1, 2)]))), (4, (0, 0, (0, [(1, 3)])))], [(0, 0, (0, [(1, 3)])), (0, 0, (0, [(1, 1)]))], ([((-2147483648), 2147483647), ((-2147483648), 2147483647), (0, 6), (0, 5), (1, 6)], [((-1), [((-1), 3), (1, 4)])], [], [200], [((201, (0, [])), (0, [(1, 4)]))], [], []), [(2, 201, (0, []))], []), ((-1), []), 0, 0), (146, ([(0, (2, 0, (0, []))), (1, (0, 0, (0, [(1, 0)]))), (2, (0, 0, (0, [(1, 1)]))), (3, (0, 0, (0, [(1, 2)]))), (4, (0, 0, (0, [(1, 3)])))], [], ([((-2147483648), 2147483647), ((-2147483648), 2147483647), (0, 6), (0, 6), (0, 6)], [(0, [(1, 3), ((-1), 4)])], [], [200], [((201, (0, [])), (0, [(1, 4)]))], [], []), [(2, 201, (0, []))], []), ((-1), []), 0, 0)]
def D_lw99 : DT := (mkD iX12_layWorkers fX12 lX12 kX12 kkX12 390 [] (w_lw99, [], [], 3, 0, 0, 3) false 5 u_lw99)
theorem k_lw99 : chkS D_lw99 4000 0 0 99 = true := by decide +kernel
theorem s_lw99 {X0 : zC0} {E : zCx} (H : ∀ j, j < 390 → CMj X0 j) (hE : zOk E X0 RX12 cX12_layWorkers 5 (zrm 3 0 0)) {K : Nat → Nat} {B : Int} {L : List Nat} {f : Nat → va_E} (hh : hok X0.2.2.1 K B L f) {v0 v1 v2 v3 : Int} {r0 : Nat} (hb0 : (-2147483648) ≤ v0 ∧ v0 ≤ 2147483647) (hb1 : (-2147483648) ≤ v1 ∧ v1 ≤ 2147483647) (hb2 : 0 ≤ v2 ∧ v2 ≤ 6) (hb3 : 0 ≤ v3 ∧ v3 ≤ 6) (hr0 : r0 ∈ L ∧ K r0 = 200) (k113 : ∀ (K' : Nat → Nat) (B' : Int) (L' : List Nat) (f' : Nat → va_E) (v4 : Int), hok X0.2.2.1 K' B' L' f' → extC [] K B L f K' B' L' f' → ((-2147483648) ≤ v0 ∧ v0 ≤ 2147483647) → ((-2147483648) ≤ v1 ∧ v1 ≤ 2147483647) → (0 ≤ v2 ∧ v2 ≤ 6) → (0 ≤ v3 ∧ v3 ≤ 5) → (1 ≤ v4 ∧ v4 ≤ 6) → (0 ≤ ((-1) + ((-1) * v3 + v4))) → (r0 ∈ L' ∧ K' r0 = 200) → (∀ b ∈ L', K' b = 201 → (0 : Int) ≤ 0 ∧ gi (f' b) ((0 : Int)).toNat = v4) → eW E 0 0 L' f' 113 [(0, .ref r0), (1, .int (Int32.ofInt v0)), (2, .int (Int32.ofInt v1)), (3, .int (Int32.ofInt v2)), (4, .int (Int32.ofInt v3))] [.int (Int32.ofInt v3), .int (Int32.ofInt v1)]) (k146 : ∀ (K' : Nat → Nat) (B' : Int) (L' : List Nat) (f' : Nat → va_E) (v4 : Int), hok X0.2.2.1 K' B' L' f' → extC [] K B L f K' B' L' f' → ((-2147483648) ≤ v0 ∧ v0 ≤ 2147483647) → ((-2147483648) ≤ v1 ∧ v1 ≤ 2147483647) → (0 ≤ v2 ∧ v2 ≤ 6) → (0 ≤ v3 ∧ v3 ≤ 6) → (0 ≤ v4 ∧ v4 ≤ 6) → (0 ≤ (v3 + ((-1) * v4))) → (r0 ∈ L' ∧ K' r0 = 200) → (∀ b ∈ L', K' b = 201 → (0 : Int) ≤ 0 ∧ gi (f' b) ((0 : Int)).toNat = v4) → eW E 0 0 L' f' 146 [(0, .ref r0), (1, .int (Int32.ofInt v0)), (2, .int (Int32.ofInt v1)), (3, .int (Int32.ofInt v2)), (4, .int (Int32.ofInt v3))] []) : eW E 0 0 L f 99 [(0, .ref r0), (1, .int (Int32.ofInt v0)), (2, .int (Int32.ofInt v1)), (3, .int (Int32.ofInt v2)), (4, .int (Int32.ofInt v3))] [] := by
  obtain ⟨l0, D0, cy0, ax0⟩ := X0
  have hraw : eW E 0 0 L f 99 [(0, .ref r0), (1, .int (Int32.ofInt (0 + (1 * v0 + 0)))), (2, .int (Int32.ofInt (0 + (1 * v1 + 0)))), (3, .int (Int32.ofInt (0 + (1 * v2 + 0)))), (4, .int (Int32.ofInt (0 + (1 * v3 + 0))))] [] := ?_
  · simpa only [Int.zero_add, Int.one_mul, Int.add_zero] using hraw
  refine seg_ok (D := D_lw99) (νi := fun i => [v0, v1, v2, v3].getD i 0) (μi := fun i => [r0].getD i 0) k_lw99 hE (mk_ok (ins := iX12_layWorkers) jX12_layWorkers fX12_ok lX12_ok kX12_ok kkX12_ok H) (by decide) rfl rfl rfl rfl hh ?_ ?_
  · refine ⟨(eok_of (fun i q hq => ?_) (fun i hi => ?_)), fa0, fa0, ?_, fa0, fa0, fa0⟩
    · match i, hq with
      | 0, hq => cases hq; exact hb0
      | 1, hq => cases hq; exact hb1
      | 2, hq => cases hq; exact hb2
      | 3, hq => cases hq; exact hb3
      | i + 4, hq => cases hq
    · match i, hi with
      | 0, hi => exact absurd hi (by decide)
      | 1, hi => exact absurd hi (by decide)
      | 2, hi => exact absurd hi (by decide)
      | 3, hi => exact absurd hi (by decide)
      | i + 4, _ => rfl
    · intro i k hk
      match i, hk with
      | 0, hk => cases hk; exact hr0
      | i + 1, hk => cases hk
  · intro q hq hst K' B' L' f' ν μ h1 h2 h3 h4 h5
    have e0 : ν 0 = v0 := h4 0 (by decide)
    have e1 : ν 1 = v1 := h4 1 (by decide)
    have e2 : ν 2 = v2 := h4 2 (by decide)
    have e3 : ν 3 = v3 := h4 3 (by decide)
    have d0 : μ 0 = r0 := h5 0 (by decide)
    subst e0
    subst e1
    subst e2
    subst e3
    subst d0
    replace hq : q ∈ u_lw99 := hq
    unfold u_lw99 at hq
    simp only [List.mem_cons, List.not_mem_nil, or_false] at hq
    rcases hq with rfl | rfl
    · have hst2 : eW E 0 0 L' f' 113 [(0, .ref (μ 0)), (1, .int (Int32.ofInt (0 + (1 * ν 0 + 0)))), (2, .int (Int32.ofInt (0 + (1 * ν 1 + 0)))), (3, .int (Int32.ofInt (0 + (1 * ν 2 + 0)))), (4, .int (Int32.ofInt (0 + (1 * ν 3 + 0))))] [.int (Int32.ofInt (0 + (1 * ν 3 + 0))), .int (Int32.ofInt (0 + (1 * ν 1 + 0)))] := ?_
      · exact hst2
      try simp only [Int.zero_add, Int.one_mul, Int.add_zero]
      exact k113 K' B' L' f' (ν 4)  h1 h2 (h3.1 0) (h3.1 1) (h3.1 2) (h3.1 3) (h3.1 4) (by simpa only [xv, xvT, Int.zero_add, Int.one_mul, Int.add_zero] using (h3.2.1 _ (List.mem_of_getElem? (i := 0) rfl))) (h3.2.2.2.1 0 200 rfl) (by simpa only [xv, xvT, Int.zero_add, Int.one_mul, Int.add_zero] using (mokA h1 (show (zkd 201).1 = 2 by decide) (by decide) (h3.2.2.2.2.1 _ (List.mem_of_getElem? (i := 0) rfl))))
    · have hst2 : eW E 0 0 L' f' 146 [(0, .ref (μ 0)), (1, .int (Int32.ofInt (0 + (1 * ν 0 + 0)))), (2, .int (Int32.ofInt (0 + (1 * ν 1 + 0)))), (3, .int (Int32.ofInt (0 + (1 * ν 2 + 0)))), (4, .int (Int32.ofInt (0 + (1 * ν 3 + 0))))] [] := ?_
      · exact hst2
      try simp only [Int.zero_add, Int.one_mul, Int.add_zero]
      exact k146 K' B' L' f' (ν 4)  h1 h2 (h3.1 0) (h3.1 1) (h3.1 2) (h3.1 3) (h3.1 4) (by simpa only [xv, xvT, Int.zero_add, Int.one_mul, Int.add_zero] using (h3.2.1 _ (List.mem_of_getElem? (i := 0) rfl))) (h3.2.2.2.1 0 200 rfl) (by simpa only [xv, xvT, Int.zero_add, Int.one_mul, Int.add_zero] using (mokA h1 (show (zkd 201).1 = 2 by decide) (by decide) (h3.2.2.2.2.1 _ (List.mem_of_getElem? (i := 0) rfl))))

/-! lw116: from 116 to [129, 140] -/
def w_lw116 : TP := ([(0, (2, 0, (0, []))), (1, (0, 0, (0, [(1, 0)]))), (2, (0, 0, (0, [(1, 1)]))), (3, (0, 0, (0, [(1, 2)]))), (4, (0, 0, (0, [(1, 3)])))], [(0, 0, (0, [(1, 4)]))], ([((-2147483648), 2147483647), ((-2147483648), 2147483647), (0, 6), (0, 6), (0, 1)], [], [], [200], [], [], []), [], [])
def u_lw116 : List (Nat × TP × EX × Nat × Nat) := [(129, ([(0, (2, 0, (0, []))), (1, (0, 0, (0, [(1, 0)]))), (2, (0, 0, (0, [(1, 1)]))), (3, (0, 0, (0, [(1, 2)]))), (4, (0, 0, (0, [(1, 3)])))], [(0, 0, (0, [(1, 3)])), (0, 0, (0, [(1, 2)])), (2, 1, (0, []))], ([((-2147483648), 2147483647), ((-2147483648), 2147483647), (0, 6), (0, 6), (1, 1)], [], [], [200, 220], [], [], []), [], [(1, 2)]), ((-1), []), 0, 0), (140, ([(0, (2, 0, (0, []))), (1, (0, 0, (0, [(1, 0)]))), (2, (0, 0, (0, [(1, 1)]))), (3, (0, 0, (0, [(1, 2)]))), (4, (0, 0, (0, [(1, 3)])))], [], ([((-2147483648), 2147483647), ((-2147483648), 2147483647), (0, 6), (0, 6), (0, 0)], [], [], [200], [], [], []), [], []), ((-1), []), 0, 0)]
def D_lw116 : DT := (mkD iX12_layWorkers fX12 lX12 kX12 kkX12 390 [] (w_lw116, [], [], 3, 0, 0, 3) false 5 u_lw116)
theorem k_lw116 : chkS D_lw116 4000 0 0 116 = true := by decide +kernel
theorem s_lw116 {X0 : zC0} {E : zCx} (H : ∀ j, j < 390 → CMj X0 j) (hE : zOk E X0 RX12 cX12_layWorkers 5 (zrm 3 0 0)) {K : Nat → Nat} {B : Int} {L : List Nat} {f : Nat → va_E} (hh : hok X0.2.2.1 K B L f) {v0 v1 v2 v3 v4 : Int} {r0 : Nat} (hb0 : (-2147483648) ≤ v0 ∧ v0 ≤ 2147483647) (hb1 : (-2147483648) ≤ v1 ∧ v1 ≤ 2147483647) (hb2 : 0 ≤ v2 ∧ v2 ≤ 6) (hb3 : 0 ≤ v3 ∧ v3 ≤ 6) (hb4 : 0 ≤ v4 ∧ v4 ≤ 1) (hr0 : r0 ∈ L ∧ K r0 = 200) (k129 : ∀ (K' : Nat → Nat) (B' : Int) (L' : List Nat) (f' : Nat → va_E) (r1 : Nat), hok X0.2.2.1 K' B' L' f' → extC [] K B L f K' B' L' f' → ((-2147483648) ≤ v0 ∧ v0 ≤ 2147483647) → ((-2147483648) ≤ v1 ∧ v1 ≤ 2147483647) → (0 ≤ v2 ∧ v2 ≤ 6) → (0 ≤ v3 ∧ v3 ≤ 6) → (1 ≤ v4 ∧ v4 ≤ 1) → (r0 ∈ L' ∧ K' r0 = 200) → (r1 ∈ L' ∧ K' r1 = 220) → eW E 0 0 L' f' 129 [(0, .ref r0), (1, .int (Int32.ofInt v0)), (2, .int (Int32.ofInt v1)), (3, .int (Int32.ofInt v2)), (4, .int (Int32.ofInt v3))] [.int (Int32.ofInt v3), .int (Int32.ofInt v2), .ref r1]) (k140 : ∀ (K' : Nat → Nat) (B' : Int) (L' : List Nat) (f' : Nat → va_E), hok X0.2.2.1 K' B' L' f' → extC [] K B L f K' B' L' f' → ((-2147483648) ≤ v0 ∧ v0 ≤ 2147483647) → ((-2147483648) ≤ v1 ∧ v1 ≤ 2147483647) → (0 ≤ v2 ∧ v2 ≤ 6) → (0 ≤ v3 ∧ v3 ≤ 6) → (0 ≤ v4 ∧ v4 ≤ 0) → (r0 ∈ L' ∧ K' r0 = 200) → eW E 0 0 L' f' 140 [(0, .ref r0), (1, .int (Int32.ofInt v0)), (2, .int (Int32.ofInt v1)), (3, .int (Int32.ofInt v2)), (4, .int (Int32.ofInt v3))] []) : eW E 0 0 L f 116 [(0, .ref r0), (1, .int (Int32.ofInt v0)), (2, .int (Int32.ofInt v1)), (3, .int (Int32.ofInt v2)), (4, .int (Int32.ofInt v3))] [.int (Int32.ofInt v4)] := by
  obtain ⟨l0, D0, cy0, ax0⟩ := X0
  have hraw : eW E 0 0 L f 116 [(0, .ref r0), (1, .int (Int32.ofInt (0 + (1 * v0 + 0)))), (2, .int (Int32.ofInt (0 + (1 * v1 + 0)))), (3, .int (Int32.ofInt (0 + (1 * v2 + 0)))), (4, .int (Int32.ofInt (0 + (1 * v3 + 0))))] [.int (Int32.ofInt (0 + (1 * v4 + 0)))] := ?_
  · simpa only [Int.zero_add, Int.one_mul, Int.add_zero] using hraw
  refine seg_ok (D := D_lw116) (νi := fun i => [v0, v1, v2, v3, v4].getD i 0) (μi := fun i => [r0].getD i 0) k_lw116 hE (mk_ok (ins := iX12_layWorkers) jX12_layWorkers fX12_ok lX12_ok kX12_ok kkX12_ok H) (by decide) rfl rfl rfl rfl hh ?_ ?_
  · refine ⟨(eok_of (fun i q hq => ?_) (fun i hi => ?_)), fa0, fa0, ?_, fa0, fa0, fa0⟩
    · match i, hq with
      | 0, hq => cases hq; exact hb0
      | 1, hq => cases hq; exact hb1
      | 2, hq => cases hq; exact hb2
      | 3, hq => cases hq; exact hb3
      | 4, hq => cases hq; exact hb4
      | i + 5, hq => cases hq
    · match i, hi with
      | 0, hi => exact absurd hi (by decide)
      | 1, hi => exact absurd hi (by decide)
      | 2, hi => exact absurd hi (by decide)
      | 3, hi => exact absurd hi (by decide)
      | 4, hi => exact absurd hi (by decide)
      | i + 5, _ => rfl
    · intro i k hk
      match i, hk with
      | 0, hk => cases hk; exact hr0
      | i + 1, hk => cases hk
  · intro q hq hst K' B' L' f' ν μ h1 h2 h3 h4 h5
    have e0 : ν 0 = v0 := h4 0 (by decide)
    have e1 : ν 1 = v1 := h4 1 (by decide)
    have e2 : ν 2 = v2 := h4 2 (by decide)
    have e3 : ν 3 = v3 := h4 3 (by decide)
    have e4 : ν 4 = v4 := h4 4 (by decide)
    have d0 : μ 0 = r0 := h5 0 (by decide)
    subst e0
    subst e1
    subst e2
    subst e3
    subst e4
    subst d0
    replace hq : q ∈ u_lw116 := hq
    unfold u_lw116 at hq
    simp only [List.mem_cons, List.not_mem_nil, or_false] at hq
    rcases hq with rfl | rfl
    · have hst2 : eW E 0 0 L' f' 129 [(0, .ref (μ 0)), (1, .int (Int32.ofInt (0 + (1 * ν 0 + 0)))), (2, .int (Int32.ofInt (0 + (1 * ν 1 + 0)))), (3, .int (Int32.ofInt (0 + (1 * ν 2 + 0)))), (4, .int (Int32.ofInt (0 + (1 * ν 3 + 0))))] [.int (Int32.ofInt (0 + (1 * ν 3 + 0))), .int (Int32.ofInt (0 + (1 * ν 2 + 0))), .ref (μ 1)] := ?_
      · exact hst2
      try simp only [Int.zero_add, Int.one_mul, Int.add_zero]
      exact k129 K' B' L' f'  (μ 1) h1 h2 (h3.1 0) (h3.1 1) (h3.1 2) (h3.1 3) (h3.1 4) (h3.2.2.2.1 0 200 rfl) (h3.2.2.2.1 1 220 rfl)
    · have hst2 : eW E 0 0 L' f' 140 [(0, .ref (μ 0)), (1, .int (Int32.ofInt (0 + (1 * ν 0 + 0)))), (2, .int (Int32.ofInt (0 + (1 * ν 1 + 0)))), (3, .int (Int32.ofInt (0 + (1 * ν 2 + 0)))), (4, .int (Int32.ofInt (0 + (1 * ν 3 + 0))))] [] := ?_
      · exact hst2
      try simp only [Int.zero_add, Int.one_mul, Int.add_zero]
      exact k140 K' B' L' f'   h1 h2 (h3.1 0) (h3.1 1) (h3.1 2) (h3.1 3) (h3.1 4) (h3.2.2.2.1 0 200 rfl)

/-! lw130: from 130 to [136] -/
def w_lw130 : TP := ([(0, (2, 0, (0, []))), (1, (0, 0, (0, [(1, 0)]))), (2, (0, 0, (0, [(1, 1)]))), (3, (0, 0, (0, [(1, 2)]))), (4, (0, 0, (0, [(1, 3)])))], [], ([((-2147483648), 2147483647), ((-2147483648), 2147483647), (0, 6), (0, 6)], [], [], [200], [], [], []), [], [])
def u_lw130 : List (Nat × TP × EX × Nat × Nat) := [(136, ([(0, (2, 0, (0, []))), (1, (0, 0, (0, [(1, 0)]))), (2, (0, 0, (0, [(1, 1)]))), (3, (0, 0, (0, [(1, 2)]))), (4, (0, 0, (0, [(1, 3)])))], [(0, 0, (0, [(1, 2)])), (0, 0, (0, [(1, 2)])), (2, 1, (0, []))], ([((-2147483648), 2147483647), ((-2147483648), 2147483647), (0, 6), (0, 6)], [], [], [200, 222], [], [], []), [], [(1, 2)]), ((-1), []), 0, 0)]
def D_lw130 : DT := (mkD iX12_layWorkers fX12 lX12 kX12 kkX12 390 [] (w_lw130, [], [], 3, 0, 0, 3) false 5 u_lw130)
theorem k_lw130 : chkS D_lw130 4000 0 0 130 = true := by decide +kernel
theorem s_lw130 {X0 : zC0} {E : zCx} (H : ∀ j, j < 390 → CMj X0 j) (hE : zOk E X0 RX12 cX12_layWorkers 5 (zrm 3 0 0)) {K : Nat → Nat} {B : Int} {L : List Nat} {f : Nat → va_E} (hh : hok X0.2.2.1 K B L f) {v0 v1 v2 v3 : Int} {r0 : Nat} (hb0 : (-2147483648) ≤ v0 ∧ v0 ≤ 2147483647) (hb1 : (-2147483648) ≤ v1 ∧ v1 ≤ 2147483647) (hb2 : 0 ≤ v2 ∧ v2 ≤ 6) (hb3 : 0 ≤ v3 ∧ v3 ≤ 6) (hr0 : r0 ∈ L ∧ K r0 = 200) (k136 : ∀ (K' : Nat → Nat) (B' : Int) (L' : List Nat) (f' : Nat → va_E) (r1 : Nat), hok X0.2.2.1 K' B' L' f' → extC [] K B L f K' B' L' f' → ((-2147483648) ≤ v0 ∧ v0 ≤ 2147483647) → ((-2147483648) ≤ v1 ∧ v1 ≤ 2147483647) → (0 ≤ v2 ∧ v2 ≤ 6) → (0 ≤ v3 ∧ v3 ≤ 6) → (r0 ∈ L' ∧ K' r0 = 200) → (r1 ∈ L' ∧ K' r1 = 222) → eW E 0 0 L' f' 136 [(0, .ref r0), (1, .int (Int32.ofInt v0)), (2, .int (Int32.ofInt v1)), (3, .int (Int32.ofInt v2)), (4, .int (Int32.ofInt v3))] [.int (Int32.ofInt v2), .int (Int32.ofInt v2), .ref r1]) : eW E 0 0 L f 130 [(0, .ref r0), (1, .int (Int32.ofInt v0)), (2, .int (Int32.ofInt v1)), (3, .int (Int32.ofInt v2)), (4, .int (Int32.ofInt v3))] [] := by
  obtain ⟨l0, D0, cy0, ax0⟩ := X0
  have hraw : eW E 0 0 L f 130 [(0, .ref r0), (1, .int (Int32.ofInt (0 + (1 * v0 + 0)))), (2, .int (Int32.ofInt (0 + (1 * v1 + 0)))), (3, .int (Int32.ofInt (0 + (1 * v2 + 0)))), (4, .int (Int32.ofInt (0 + (1 * v3 + 0))))] [] := ?_
  · simpa only [Int.zero_add, Int.one_mul, Int.add_zero] using hraw
  refine seg_ok (D := D_lw130) (νi := fun i => [v0, v1, v2, v3].getD i 0) (μi := fun i => [r0].getD i 0) k_lw130 hE (mk_ok (ins := iX12_layWorkers) jX12_layWorkers fX12_ok lX12_ok kX12_ok kkX12_ok H) (by decide) rfl rfl rfl rfl hh ?_ ?_
  · refine ⟨(eok_of (fun i q hq => ?_) (fun i hi => ?_)), fa0, fa0, ?_, fa0, fa0, fa0⟩
    · match i, hq with
      | 0, hq => cases hq; exact hb0
      | 1, hq => cases hq; exact hb1
      | 2, hq => cases hq; exact hb2
      | 3, hq => cases hq; exact hb3
      | i + 4, hq => cases hq
    · match i, hi with
      | 0, hi => exact absurd hi (by decide)
      | 1, hi => exact absurd hi (by decide)
      | 2, hi => exact absurd hi (by decide)
      | 3, hi => exact absurd hi (by decide)
      | i + 4, _ => rfl
    · intro i k hk
      match i, hk with
      | 0, hk => cases hk; exact hr0
      | i + 1, hk => cases hk
  · intro q hq hst K' B' L' f' ν μ h1 h2 h3 h4 h5
    have e0 : ν 0 = v0 := h4 0 (by decide)
    have e1 : ν 1 = v1 := h4 1 (by decide)
    have e2 : ν 2 = v2 := h4 2 (by decide)
    have e3 : ν 3 = v3 := h4 3 (by decide)
    have d0 : μ 0 = r0 := h5 0 (by decide)
    subst e0
    subst e1
    subst e2
    subst e3
    subst d0
    replace hq : q ∈ u_lw130 := hq
    unfold u_lw130 at hq
    simp only [List.mem_cons, List.not_mem_nil, or_false] at hq
    rcases hq with rfl
    · have hst2 : eW E 0 0 L' f' 136 [(0, .ref (μ 0)), (1, .int (Int32.ofInt (0 + (1 * ν 0 + 0)))), (2, .int (Int32.ofInt (0 + (1 * ν 1 + 0)))), (3, .int (Int32.ofInt (0 + (1 * ν 2 + 0)))), (4, .int (Int32.ofInt (0 + (1 * ν 3 + 0))))] [.int (Int32.ofInt (0 + (1 * ν 2 + 0))), .int (Int32.ofInt (0 + (1 * ν 2 + 0))), .ref (μ 1)] := ?_
      · exact hst2
      try simp only [Int.zero_add, Int.one_mul, Int.add_zero]
      exact k136 K' B' L' f'  (μ 1) h1 h2 (h3.1 0) (h3.1 1) (h3.1 2) (h3.1 3) (h3.2.2.2.1 0 200 rfl) (h3.2.2.2.1 1 222 rfl)

/-! lw137: from 137 to [99] -/
def w_lw137 : TP := ([(0, (2, 0, (0, []))), (1, (0, 0, (0, [(1, 0)]))), (2, (0, 0, (0, [(1, 1)]))), (3, (0, 0, (0, [(1, 2)]))), (4, (0, 0, (0, [(1, 3)])))], [], ([((-2147483648), 2147483647), ((-2147483648), 2147483647), (0, 6), (0, 6)], [], [], [200], [], [], []), [], [])
def u_lw137 : List (Nat × TP × EX × Nat × Nat) := [(99, ([(0, (2, 0, (0, []))), (1, (0, 0, (0, [(1, 0)]))), (2, (0, 0, (0, [(1, 1)]))), (3, (0, 0, (1, [(1, 2)]))), (4, (0, 0, (1, [(1, 3)])))], [], ([((-2147483648), 2147483647), ((-2147483648), 2147483647), (0, 6), (0, 6)], [], [], [200], [], [], []), [], []), ((-1), []), 0, 0)]
def D_lw137 : DT := (mkD iX12_layWorkers fX12 lX12 kX12 kkX12 390 [] (w_lw137, [], [], 3, 0, 0, 3) false 5 u_lw137)
theorem k_lw137 : chkS D_lw137 4000 0 0 137 = true := by decide +kernel
theorem s_lw137 {X0 : zC0} {E : zCx} (H : ∀ j, j < 390 → CMj X0 j) (hE : zOk E X0 RX12 cX12_layWorkers 5 (zrm 3 0 0)) {K : Nat → Nat} {B : Int} {L : List Nat} {f : Nat → va_E} (hh : hok X0.2.2.1 K B L f) {v0 v1 v2 v3 : Int} {r0 : Nat} (hb0 : (-2147483648) ≤ v0 ∧ v0 ≤ 2147483647) (hb1 : (-2147483648) ≤ v1 ∧ v1 ≤ 2147483647) (hb2 : 0 ≤ v2 ∧ v2 ≤ 6) (hb3 : 0 ≤ v3 ∧ v3 ≤ 6) (hr0 : r0 ∈ L ∧ K r0 = 200) (k99 : ∀ (K' : Nat → Nat) (B' : Int) (L' : List Nat) (f' : Nat → va_E), hok X0.2.2.1 K' B' L' f' → extC [] K B L f K' B' L' f' → ((-2147483648) ≤ v0 ∧ v0 ≤ 2147483647) → ((-2147483648) ≤ v1 ∧ v1 ≤ 2147483647) → (0 ≤ v2 ∧ v2 ≤ 6) → (0 ≤ v3 ∧ v3 ≤ 6) → (r0 ∈ L' ∧ K' r0 = 200) → eW E 0 0 L' f' 99 [(0, .ref r0), (1, .int (Int32.ofInt v0)), (2, .int (Int32.ofInt v1)), (3, .int (Int32.ofInt (1 + v2))), (4, .int (Int32.ofInt (1 + v3)))] []) : eW E 0 0 L f 137 [(0, .ref r0), (1, .int (Int32.ofInt v0)), (2, .int (Int32.ofInt v1)), (3, .int (Int32.ofInt v2)), (4, .int (Int32.ofInt v3))] [] := by
  obtain ⟨l0, D0, cy0, ax0⟩ := X0
  have hraw : eW E 0 0 L f 137 [(0, .ref r0), (1, .int (Int32.ofInt (0 + (1 * v0 + 0)))), (2, .int (Int32.ofInt (0 + (1 * v1 + 0)))), (3, .int (Int32.ofInt (0 + (1 * v2 + 0)))), (4, .int (Int32.ofInt (0 + (1 * v3 + 0))))] [] := ?_
  · simpa only [Int.zero_add, Int.one_mul, Int.add_zero] using hraw
  refine seg_ok (D := D_lw137) (νi := fun i => [v0, v1, v2, v3].getD i 0) (μi := fun i => [r0].getD i 0) k_lw137 hE (mk_ok (ins := iX12_layWorkers) jX12_layWorkers fX12_ok lX12_ok kX12_ok kkX12_ok H) (by decide) rfl rfl rfl rfl hh ?_ ?_
  · refine ⟨(eok_of (fun i q hq => ?_) (fun i hi => ?_)), fa0, fa0, ?_, fa0, fa0, fa0⟩
    · match i, hq with
      | 0, hq => cases hq; exact hb0
      | 1, hq => cases hq; exact hb1
      | 2, hq => cases hq; exact hb2
      | 3, hq => cases hq; exact hb3
      | i + 4, hq => cases hq
    · match i, hi with
      | 0, hi => exact absurd hi (by decide)
      | 1, hi => exact absurd hi (by decide)
      | 2, hi => exact absurd hi (by decide)
      | 3, hi => exact absurd hi (by decide)
      | i + 4, _ => rfl
    · intro i k hk
      match i, hk with
      | 0, hk => cases hk; exact hr0
      | i + 1, hk => cases hk
  · intro q hq hst K' B' L' f' ν μ h1 h2 h3 h4 h5
    have e0 : ν 0 = v0 := h4 0 (by decide)
    have e1 : ν 1 = v1 := h4 1 (by decide)
    have e2 : ν 2 = v2 := h4 2 (by decide)
    have e3 : ν 3 = v3 := h4 3 (by decide)
    have d0 : μ 0 = r0 := h5 0 (by decide)
    subst e0
    subst e1
    subst e2
    subst e3
    subst d0
    replace hq : q ∈ u_lw137 := hq
    unfold u_lw137 at hq
    simp only [List.mem_cons, List.not_mem_nil, or_false] at hq
    rcases hq with rfl
    · have hst2 : eW E 0 0 L' f' 99 [(0, .ref (μ 0)), (1, .int (Int32.ofInt (0 + (1 * ν 0 + 0)))), (2, .int (Int32.ofInt (0 + (1 * ν 1 + 0)))), (3, .int (Int32.ofInt (1 + (1 * ν 2 + 0)))), (4, .int (Int32.ofInt (1 + (1 * ν 3 + 0))))] [] := ?_
      · exact hst2
      try simp only [Int.zero_add, Int.one_mul, Int.add_zero]
      exact k99 K' B' L' f'   h1 h2 (h3.1 0) (h3.1 1) (h3.1 2) (h3.1 3) (h3.2.2.2.1 0 200 rfl)

/-! lw140: from 140 to [99] -/
def w_lw140 : TP := ([(0, (2, 0, (0, []))), (1, (0, 0, (0, [(1, 0)]))), (2, (0, 0, (0, [(1, 1)]))), (3, (0, 0, (0, [(1, 2)]))), (4, (0, 0, (0, [(1, 3)])))], [], ([((-2147483648), 2147483647), ((-2147483648), 2147483647), (0, 6), (0, 6)], [], [], [200], [], [], []), [], [])
def u_lw140 : List (Nat × TP × EX × Nat × Nat) := [(99, ([(0, (2, 0, (0, []))), (1, (0, 0, (0, [(1, 0)]))), (2, (0, 0, (0, [(1, 1)]))), (3, (0, 0, (0, [(1, 2)]))), (4, (0, 0, (1, [(1, 3)])))], [], ([((-2147483648), 2147483647), ((-2147483648), 2147483647), (0, 6), (0, 6)], [], [], [200], [], [], []), [], []), ((-1), []), 0, 0)]
def D_lw140 : DT := (mkD iX12_layWorkers fX12 lX12 kX12 kkX12 390 [] (w_lw140, [], [], 3, 0, 0, 3) false 5 u_lw140)
theorem k_lw140 : chkS D_lw140 4000 0 0 140 = true := by decide +kernel
theorem s_lw140 {X0 : zC0} {E : zCx} (H : ∀ j, j < 390 → CMj X0 j) (hE : zOk E X0 RX12 cX12_layWorkers 5 (zrm 3 0 0)) {K : Nat → Nat} {B : Int} {L : List Nat} {f : Nat → va_E} (hh : hok X0.2.2.1 K B L f) {v0 v1 v2 v3 : Int} {r0 : Nat} (hb0 : (-2147483648) ≤ v0 ∧ v0 ≤ 2147483647) (hb1 : (-2147483648) ≤ v1 ∧ v1 ≤ 2147483647) (hb2 : 0 ≤ v2 ∧ v2 ≤ 6) (hb3 : 0 ≤ v3 ∧ v3 ≤ 6) (hr0 : r0 ∈ L ∧ K r0 = 200) (k99 : ∀ (K' : Nat → Nat) (B' : Int) (L' : List Nat) (f' : Nat → va_E), hok X0.2.2.1 K' B' L' f' → extC [] K B L f K' B' L' f' → ((-2147483648) ≤ v0 ∧ v0 ≤ 2147483647) → ((-2147483648) ≤ v1 ∧ v1 ≤ 2147483647) → (0 ≤ v2 ∧ v2 ≤ 6) → (0 ≤ v3 ∧ v3 ≤ 6) → (r0 ∈ L' ∧ K' r0 = 200) → eW E 0 0 L' f' 99 [(0, .ref r0), (1, .int (Int32.ofInt v0)), (2, .int (Int32.ofInt v1)), (3, .int (Int32.ofInt v2)), (4, .int (Int32.ofInt (1 + v3)))] []) : eW E 0 0 L f 140 [(0, .ref r0), (1, .int (Int32.ofInt v0)), (2, .int (Int32.ofInt v1)), (3, .int (Int32.ofInt v2)), (4, .int (Int32.ofInt v3))] [] := by
  obtain ⟨l0, D0, cy0, ax0⟩ := X0
  have hraw : eW E 0 0 L f 140 [(0, .ref r0), (1, .int (Int32.ofInt (0 + (1 * v0 + 0)))), (2, .int (Int32.ofInt (0 + (1 * v1 + 0)))), (3, .int (Int32.ofInt (0 + (1 * v2 + 0)))), (4, .int (Int32.ofInt (0 + (1 * v3 + 0))))] [] := ?_
  · simpa only [Int.zero_add, Int.one_mul, Int.add_zero] using hraw
  refine seg_ok (D := D_lw140) (νi := fun i => [v0, v1, v2, v3].getD i 0) (μi := fun i => [r0].getD i 0) k_lw140 hE (mk_ok (ins := iX12_layWorkers) jX12_layWorkers fX12_ok lX12_ok kX12_ok kkX12_ok H) (by decide) rfl rfl rfl rfl hh ?_ ?_
  · refine ⟨(eok_of (fun i q hq => ?_) (fun i hi => ?_)), fa0, fa0, ?_, fa0, fa0, fa0⟩
    · match i, hq with
      | 0, hq => cases hq; exact hb0
      | 1, hq => cases hq; exact hb1
      | 2, hq => cases hq; exact hb2
      | 3, hq => cases hq; exact hb3
      | i + 4, hq => cases hq
    · match i, hi with
      | 0, hi => exact absurd hi (by decide)
      | 1, hi => exact absurd hi (by decide)
      | 2, hi => exact absurd hi (by decide)
      | 3, hi => exact absurd hi (by decide)
      | i + 4, _ => rfl
    · intro i k hk
      match i, hk with
      | 0, hk => cases hk; exact hr0
      | i + 1, hk => cases hk
  · intro q hq hst K' B' L' f' ν μ h1 h2 h3 h4 h5
    have e0 : ν 0 = v0 := h4 0 (by decide)
    have e1 : ν 1 = v1 := h4 1 (by decide)
    have e2 : ν 2 = v2 := h4 2 (by decide)
    have e3 : ν 3 = v3 := h4 3 (by decide)
    have d0 : μ 0 = r0 := h5 0 (by decide)
    subst e0
    subst e1
    subst e2
    subst e3
    subst d0
    replace hq : q ∈ u_lw140 := hq
    unfold u_lw140 at hq
    simp only [List.mem_cons, List.not_mem_nil, or_false] at hq
    rcases hq with rfl
    · have hst2 : eW E 0 0 L' f' 99 [(0, .ref (μ 0)), (1, .int (Int32.ofInt (0 + (1 * ν 0 + 0)))), (2, .int (Int32.ofInt (0 + (1 * ν 1 + 0)))), (3, .int (Int32.ofInt (0 + (1 * ν 2 + 0)))), (4, .int (Int32.ofInt (1 + (1 * ν 3 + 0))))] [] := ?_
      · exact hst2
      try simp only [Int.zero_add, Int.one_mul, Int.add_zero]
      exact k99 K' B' L' f'   h1 h2 (h3.1 0) (h3.1 1) (h3.1 2) (h3.1 3) (h3.2.2.2.1 0 200 rfl)

/-! lw146: from 146 to [147] -/
def w_lw146 : TP := ([(0, (2, 0, (0, []))), (1, (0, 0, (0, [(1, 0)]))), (2, (0, 0, (0, [(1, 1)]))), (3, (0, 0, (0, [(1, 2)]))), (4, (0, 0, (0, [(1, 3)])))], [], ([((-2147483648), 2147483647), ((-2147483648), 2147483647), (0, 6), (0, 6)], [], [], [200], [], [], []), [], [])
def u_lw146 : List (Nat × TP × EX × Nat × Nat) := [(147, ([(0, (2, 0, (0, []))), (1, (0, 0, (0, [(1, 0)]))), (2, (0, 0, (0, [(1, 1)]))), (3, (0, 0, (0, [(1, 2)]))), (4, (0, 0, (0, [(1, 3)])))], [(0, 0, (1, []))], ([((-2147483648), 2147483647), ((-2147483648), 2147483647), (0, 6), (0, 6)], [], [], [200], [], [], []), [], []), ((-1), []), 0, 0)]
def D_lw146 : DT := (mkD iX12_layWorkers fX12 lX12 kX12 kkX12 390 [] (w_lw146, [], [], 3, 0, 0, 3) false 5 u_lw146)
theorem k_lw146 : chkS D_lw146 4000 0 0 146 = true := by decide +kernel
theorem s_lw146 {X0 : zC0} {E : zCx} (H : ∀ j, j < 390 → CMj X0 j) (hE : zOk E X0 RX12 cX12_layWorkers 5 (zrm 3 0 0)) {K : Nat → Nat} {B : Int} {L : List Nat} {f : Nat → va_E} (hh : hok X0.2.2.1 K B L f) {v0 v1 v2 v3 : Int} {r0 : Nat} (hb0 : (-2147483648) ≤ v0 ∧ v0 ≤ 2147483647) (hb1 : (-2147483648) ≤ v1 ∧ v1 ≤ 2147483647) (hb2 : 0 ≤ v2 ∧ v2 ≤ 6) (hb3 : 0 ≤ v3 ∧ v3 ≤ 6) (hr0 : r0 ∈ L ∧ K r0 = 200) (k147 : ∀ (K' : Nat → Nat) (B' : Int) (L' : List Nat) (f' : Nat → va_E), hok X0.2.2.1 K' B' L' f' → extC [] K B L f K' B' L' f' → ((-2147483648) ≤ v0 ∧ v0 ≤ 2147483647) → ((-2147483648) ≤ v1 ∧ v1 ≤ 2147483647) → (0 ≤ v2 ∧ v2 ≤ 6) → (0 ≤ v3 ∧ v3 ≤ 6) → (r0 ∈ L' ∧ K' r0 = 200) → eW E 0 0 L' f' 147 [(0, .ref r0), (1, .int (Int32.ofInt v0)), (2, .int (Int32.ofInt v1)), (3, .int (Int32.ofInt v2)), (4, .int (Int32.ofInt v3))] [.int (Int32.ofInt 1)]) : eW E 0 0 L f 146 [(0, .ref r0), (1, .int (Int32.ofInt v0)), (2, .int (Int32.ofInt v1)), (3, .int (Int32.ofInt v2)), (4, .int (Int32.ofInt v3))] [] := by
  obtain ⟨l0, D0, cy0, ax0⟩ := X0
  have hraw : eW E 0 0 L f 146 [(0, .ref r0), (1, .int (Int32.ofInt (0 + (1 * v0 + 0)))), (2, .int (Int32.ofInt (0 + (1 * v1 + 0)))), (3, .int (Int32.ofInt (0 + (1 * v2 + 0)))), (4, .int (Int32.ofInt (0 + (1 * v3 + 0))))] [] := ?_
  · simpa only [Int.zero_add, Int.one_mul, Int.add_zero] using hraw
  refine seg_ok (D := D_lw146) (νi := fun i => [v0, v1, v2, v3].getD i 0) (μi := fun i => [r0].getD i 0) k_lw146 hE (mk_ok (ins := iX12_layWorkers) jX12_layWorkers fX12_ok lX12_ok kX12_ok kkX12_ok H) (by decide) rfl rfl rfl rfl hh ?_ ?_
  · refine ⟨(eok_of (fun i q hq => ?_) (fun i hi => ?_)), fa0, fa0, ?_, fa0, fa0, fa0⟩
    · match i, hq with
      | 0, hq => cases hq; exact hb0
      | 1, hq => cases hq; exact hb1
      | 2, hq => cases hq; exact hb2
      | 3, hq => cases hq; exact hb3
      | i + 4, hq => cases hq
    · match i, hi with
      | 0, hi => exact absurd hi (by decide)
      | 1, hi => exact absurd hi (by decide)
      | 2, hi => exact absurd hi (by decide)
      | 3, hi => exact absurd hi (by decide)
      | i + 4, _ => rfl
    · intro i k hk
      match i, hk with
      | 0, hk => cases hk; exact hr0
      | i + 1, hk => cases hk
  · intro q hq hst K' B' L' f' ν μ h1 h2 h3 h4 h5
    have e0 : ν 0 = v0 := h4 0 (by decide)
    have e1 : ν 1 = v1 := h4 1 (by decide)
    have e2 : ν 2 = v2 := h4 2 (by decide)
    have e3 : ν 3 = v3 := h4 3 (by decide)
    have d0 : μ 0 = r0 := h5 0 (by decide)
    subst e0
    subst e1
    subst e2
    subst e3
    subst d0
    replace hq : q ∈ u_lw146 := hq
    unfold u_lw146 at hq
    simp only [List.mem_cons, List.not_mem_nil, or_false] at hq
    rcases hq with rfl
    · have hst2 : eW E 0 0 L' f' 147 [(0, .ref (μ 0)), (1, .int (Int32.ofInt (0 + (1 * ν 0 + 0)))), (2, .int (Int32.ofInt (0 + (1 * ν 1 + 0)))), (3, .int (Int32.ofInt (0 + (1 * ν 2 + 0)))), (4, .int (Int32.ofInt (0 + (1 * ν 3 + 0))))] [.int (Int32.ofInt (1 + 0))] := ?_
      · exact hst2
      try simp only [Int.zero_add, Int.one_mul, Int.add_zero]
      exact k147 K' B' L' f'   h1 h2 (h3.1 0) (h3.1 1) (h3.1 2) (h3.1 3) (h3.2.2.2.1 0 200 rfl)

/-! no0: from 0 to [4] -/
def w_no0 : TP := ([(0, (2, 0, (0, []))), (1, (0, 0, (0, [(1, 0)])))], [], ([(1, 6)], [], [], [200], [], [], []), [], [])
def u_no0 : List (Nat × TP × EX × Nat × Nat) := [(4, ([(0, (2, 0, (0, []))), (1, (0, 0, (0, [(1, 0)]))), (2, (0, 0, ((-2), [(1, 0)])))], [], ([(1, 6)], [], [], [200], [], [], []), [], []), ((-1), []), 0, 0)]
def D_no0 : DT := (mkD iX12_nextOrder fX12 lX12 kX12 kkX12 390 [] (w_no0, [], [], 2, 0, 0, 3) false 7 u_no0)
theorem k_no0 : chkS D_no0 4000 0 0 0 = true := by decide +kernel
theorem s_no0 {X0 : zC0} {E : zCx} (H : ∀ j, j < 390 → CMj X0 j) (hE : zOk E X0 RX12 cX12_nextOrder 7 (zrm 2 0 0)) {K : Nat → Nat} {B : Int} {L : List Nat} {f : Nat → va_E} (hh : hok X0.2.2.1 K B L f) {v0 : Int} {r0 : Nat} (hb0 : 1 ≤ v0 ∧ v0 ≤ 6) (hr0 : r0 ∈ L ∧ K r0 = 200) (k4 : ∀ (K' : Nat → Nat) (B' : Int) (L' : List Nat) (f' : Nat → va_E), hok X0.2.2.1 K' B' L' f' → extC [] K B L f K' B' L' f' → (1 ≤ v0 ∧ v0 ≤ 6) → (r0 ∈ L' ∧ K' r0 = 200) → eW E 0 0 L' f' 4 [(0, .ref r0), (1, .int (Int32.ofInt v0)), (2, .int (Int32.ofInt ((-2) + v0)))] []) : eW E 0 0 L f 0 [(0, .ref r0), (1, .int (Int32.ofInt v0))] [] := by
  obtain ⟨l0, D0, cy0, ax0⟩ := X0
  have hraw : eW E 0 0 L f 0 [(0, .ref r0), (1, .int (Int32.ofInt (0 + (1 * v0 + 0))))] [] := ?_
  · simpa only [Int.zero_add, Int.one_mul, Int.add_zero] using hraw
  refine seg_ok (D := D_no0) (νi := fun i => [v0].getD i 0) (μi := fun i => [r0].getD i 0) k_no0 hE (mk_ok (ins := iX12_nextOrder) jX12_nextOrder fX12_ok lX12_ok kX12_ok kkX12_ok H) (by decide) rfl rfl rfl rfl hh ?_ ?_
  · refine ⟨(eok_of (fun i q hq => ?_) (fun i hi => ?_)), fa0, fa0, ?_, fa0, fa0, fa0⟩
    · match i, hq with
      | 0, hq => cases hq; exact hb0
      | i + 1, hq => cases hq
    · match i, hi with
      | 0, hi => exact absurd hi (by decide)
      | i + 1, _ => rfl
    · intro i k hk
      match i, hk with
      | 0, hk => cases hk; exact hr0
      | i + 1, hk => cases hk
  · intro q hq hst K' B' L' f' ν μ h1 h2 h3 h4 h5
    have e0 : ν 0 = v0 := h4 0 (by decide)
    have d0 : μ 0 = r0 := h5 0 (by decide)
    subst e0
    subst d0
    replace hq : q ∈ u_no0 := hq
    unfold u_no0 at hq
    simp only [List.mem_cons, List.not_mem_nil, or_false] at hq
    rcases hq with rfl
    · have hst2 : eW E 0 0 L' f' 4 [(0, .ref (μ 0)), (1, .int (Int32.ofInt (0 + (1 * ν 0 + 0)))), (2, .int (Int32.ofInt ((-2) + (1 * ν 0 + 0))))] [] := ?_
      · exact hst2
      try simp only [Int.zero_add, Int.one_mul, Int.add_zero]
      exact k4 K' B' L' f'   h1 h2 (h3.1 0) (h3.2.2.2.1 0 200 rfl)

/-! no4: from 4 to [25, 37] -/
def w_no4 : TP := ([(0, (2, 0, (0, []))), (1, (0, 0, (0, [(1, 0)]))), (2, (0, 0, (0, [(1, 1)])))], [], ([(1, 6), (0, 4)], [((-2), [(1, 0), ((-1), 1)])], [], [200], [], [], []), [], [])
def u_no4 : List (Nat × TP × EX × Nat × Nat) := [(25, ([(0, (2, 0, (0, []))), (1, (0, 0, (0, [(1, 0)]))), (2, (0, 0, (0, [(1, 1)])))], [], ([(2, 6), (0, 4), (0, 4), (1, 5)], [((-1), [(1, 3), ((-1), 2)]), ((-2), [((-1), 1), (1, 0)])], [], [200], [((222, (1, [(1, 1)])), (0, [(1, 2)])), ((222, (0, [(1, 1)])), (0, [(1, 3)]))], [], []), [(2, 222, (1, [(1, 1)])), (2, 222, (0, [(1, 1)]))], []), ((-1), []), 0, 0), (37, ([(0, (2, 0, (0, []))), (1, (0, 0, (0, [(1, 0)]))), (2, (0, 0, (0, [(1, 1)])))], [], ([(2, 6), (0, 4), (0, 5), (0, 5)], [(0, [((-1), 3), (1, 2)]), ((-2), [((-1), 1), (1, 0)])], [], [200], [((222, (1, [(1, 1)])), (0, [(1, 2)])), ((222, (0, [(1, 1)])), (0, [(1, 3)]))], [], []), [(2, 222, (1, [(1, 1)])), (2, 222, (0, [(1, 1)]))], []), ((-1), []), 0, 0)]
def D_no4 : DT := (mkD iX12_nextOrder fX12 lX12 kX12 kkX12 390 [] (w_no4, [], [], 2, 0, 0, 3) false 7 u_no4)
theorem k_no4 : chkS D_no4 4000 0 0 4 = true := by decide +kernel
theorem s_no4 {X0 : zC0} {E : zCx} (H : ∀ j, j < 390 → CMj X0 j) (hE : zOk E X0 RX12 cX12_nextOrder 7 (zrm 2 0 0)) {K : Nat → Nat} {B : Int} {L : List Nat} {f : Nat → va_E} (hh : hok X0.2.2.1 K B L f) {v0 v1 : Int} {r0 : Nat} (hb0 : 1 ≤ v0 ∧ v0 ≤ 6) (hb1 : 0 ≤ v1 ∧ v1 ≤ 4) (hq0 : 0 ≤ ((-2) + (v0 + ((-1) * v1)))) (hr0 : r0 ∈ L ∧ K r0 = 200) (k25 : ∀ (K' : Nat → Nat) (B' : Int) (L' : List Nat) (f' : Nat → va_E) (v2 v3 : Int), hok X0.2.2.1 K' B' L' f' → extC [] K B L f K' B' L' f' → (2 ≤ v0 ∧ v0 ≤ 6) → (0 ≤ v1 ∧ v1 ≤ 4) → (0 ≤ v2 ∧ v2 ≤ 4) → (1 ≤ v3 ∧ v3 ≤ 5) → (0 ≤ ((-1) + (v3 + ((-1) * v2)))) → (0 ≤ ((-2) + ((-1) * v1 + v0))) → (r0 ∈ L' ∧ K' r0 = 200) → (∀ b ∈ L', K' b = 222 → (0 : Int) ≤ (1 + v1) ∧ gi (f' b) (((1 + v1) : Int)).toNat = v2) → (∀ b ∈ L', K' b = 222 → (0 : Int) ≤ v1 ∧ gi (f' b) ((v1 : Int)).toNat = v3) → eW E 0 0 L' f' 25 [(0, .ref r0), (1, .int (Int32.ofInt v0)), (2, .int (Int32.ofInt v1))] []) (k37 : ∀ (K' : Nat → Nat) (B' : Int) (L' : List Nat) (f' : Nat → va_E) (v2 v3 : Int), hok X0.2.2.1 K' B' L' f' → extC [] K B L f K' B' L' f' → (2 ≤ v0 ∧ v0 ≤ 6) → (0 ≤ v1 ∧ v1 ≤ 4) → (0 ≤ v2 ∧ v2 ≤ 5) → (0 ≤ v3 ∧ v3 ≤ 5) → (0 ≤ ((-1) * v3 + v2)) → (0 ≤ ((-2) + ((-1) * v1 + v0))) → (r0 ∈ L' ∧ K' r0 = 200) → (∀ b ∈ L', K' b = 222 → (0 : Int) ≤ (1 + v1) ∧ gi (f' b) (((1 + v1) : Int)).toNat = v2) → (∀ b ∈ L', K' b = 222 → (0 : Int) ≤ v1 ∧ gi (f' b) ((v1 : Int)).toNat = v3) → eW E 0 0 L' f' 37 [(0, .ref r0), (1, .int (Int32.ofInt v0)), (2, .int (Int32.ofInt v1))] []) : eW E 0 0 L f 4 [(0, .ref r0), (1, .int (Int32.ofInt v0)), (2, .int (Int32.ofInt v1))] [] := by
  obtain ⟨l0, D0, cy0, ax0⟩ := X0
  have hraw : eW E 0 0 L f 4 [(0, .ref r0), (1, .int (Int32.ofInt (0 + (1 * v0 + 0)))), (2, .int (Int32.ofInt (0 + (1 * v1 + 0))))] [] := ?_
  · simpa only [Int.zero_add, Int.one_mul, Int.add_zero] using hraw
  have rq0 : 0 ≤ ((-2) + (1 * v0 + ((-1) * v1 + 0))) := by simpa only [Int.zero_add, Int.one_mul, Int.add_zero] using hq0
  refine seg_ok (D := D_no4) (νi := fun i => [v0, v1].getD i 0) (μi := fun i => [r0].getD i 0) k_no4 hE (mk_ok (ins := iX12_nextOrder) jX12_nextOrder fX12_ok lX12_ok kX12_ok kkX12_ok H) (by decide) rfl rfl rfl rfl hh ?_ ?_
  · refine ⟨(eok_of (fun i q hq => ?_) (fun i hi => ?_)), (fa_cons (rq0) fa0), fa0, ?_, fa0, fa0, fa0⟩
    · match i, hq with
      | 0, hq => cases hq; exact hb0
      | 1, hq => cases hq; exact hb1
      | i + 2, hq => cases hq
    · match i, hi with
      | 0, hi => exact absurd hi (by decide)
      | 1, hi => exact absurd hi (by decide)
      | i + 2, _ => rfl
    · intro i k hk
      match i, hk with
      | 0, hk => cases hk; exact hr0
      | i + 1, hk => cases hk
  · intro q hq hst K' B' L' f' ν μ h1 h2 h3 h4 h5
    have e0 : ν 0 = v0 := h4 0 (by decide)
    have e1 : ν 1 = v1 := h4 1 (by decide)
    have d0 : μ 0 = r0 := h5 0 (by decide)
    subst e0
    subst e1
    subst d0
    replace hq : q ∈ u_no4 := hq
    unfold u_no4 at hq
    simp only [List.mem_cons, List.not_mem_nil, or_false] at hq
    rcases hq with rfl | rfl
    · have hst2 : eW E 0 0 L' f' 25 [(0, .ref (μ 0)), (1, .int (Int32.ofInt (0 + (1 * ν 0 + 0)))), (2, .int (Int32.ofInt (0 + (1 * ν 1 + 0))))] [] := ?_
      · exact hst2
      try simp only [Int.zero_add, Int.one_mul, Int.add_zero]
      exact k25 K' B' L' f' (ν 2) (ν 3)  h1 h2 (h3.1 0) (h3.1 1) (h3.1 2) (h3.1 3) (by simpa only [xv, xvT, Int.zero_add, Int.one_mul, Int.add_zero] using (h3.2.1 _ (List.mem_of_getElem? (i := 0) rfl))) (by simpa only [xv, xvT, Int.zero_add, Int.one_mul, Int.add_zero] using (h3.2.1 _ (List.mem_of_getElem? (i := 1) rfl))) (h3.2.2.2.1 0 200 rfl) (by simpa only [xv, xvT, Int.zero_add, Int.one_mul, Int.add_zero] using (mokA h1 (show (zkd 222).1 = 2 by decide) (by decide) (h3.2.2.2.2.1 _ (List.mem_of_getElem? (i := 0) rfl)))) (by simpa only [xv, xvT, Int.zero_add, Int.one_mul, Int.add_zero] using (mokA h1 (show (zkd 222).1 = 2 by decide) (by decide) (h3.2.2.2.2.1 _ (List.mem_of_getElem? (i := 1) rfl))))
    · have hst2 : eW E 0 0 L' f' 37 [(0, .ref (μ 0)), (1, .int (Int32.ofInt (0 + (1 * ν 0 + 0)))), (2, .int (Int32.ofInt (0 + (1 * ν 1 + 0))))] [] := ?_
      · exact hst2
      try simp only [Int.zero_add, Int.one_mul, Int.add_zero]
      exact k37 K' B' L' f' (ν 2) (ν 3)  h1 h2 (h3.1 0) (h3.1 1) (h3.1 2) (h3.1 3) (by simpa only [xv, xvT, Int.zero_add, Int.one_mul, Int.add_zero] using (h3.2.1 _ (List.mem_of_getElem? (i := 0) rfl))) (by simpa only [xv, xvT, Int.zero_add, Int.one_mul, Int.add_zero] using (h3.2.1 _ (List.mem_of_getElem? (i := 1) rfl))) (h3.2.2.2.1 0 200 rfl) (by simpa only [xv, xvT, Int.zero_add, Int.one_mul, Int.add_zero] using (mokA h1 (show (zkd 222).1 = 2 by decide) (by decide) (h3.2.2.2.2.1 _ (List.mem_of_getElem? (i := 0) rfl)))) (by simpa only [xv, xvT, Int.zero_add, Int.one_mul, Int.add_zero] using (mokA h1 (show (zkd 222).1 = 2 by decide) (by decide) (h3.2.2.2.2.1 _ (List.mem_of_getElem? (i := 1) rfl))))

/-! no4x: from 4 to [36] -/
def w_no4x : TP := ([(0, (2, 0, (0, []))), (1, (0, 0, (0, [(1, 0)]))), (2, (0, 0, ((-1), [])))], [], ([(1, 6)], [], [], [200], [], [], []), [], [])
def u_no4x : List (Nat × TP × EX × Nat × Nat) := [(36, ([(0, (2, 0, (0, []))), (1, (0, 0, (0, [(1, 0)]))), (2, (0, 0, ((-1), [])))], [(0, 0, (0, []))], ([(1, 6)], [], [], [200], [], [], []), [], []), ((-1), []), 0, 0)]
def D_no4x : DT := (mkD iX12_nextOrder fX12 lX12 kX12 kkX12 390 [] (w_no4x, [], [], 2, 0, 0, 3) false 7 u_no4x)
theorem k_no4x : chkS D_no4x 4000 0 0 4 = true := by decide +kernel
theorem s_no4x {X0 : zC0} {E : zCx} (H : ∀ j, j < 390 → CMj X0 j) (hE : zOk E X0 RX12 cX12_nextOrder 7 (zrm 2 0 0)) {K : Nat → Nat} {B : Int} {L : List Nat} {f : Nat → va_E} (hh : hok X0.2.2.1 K B L f) {v0 : Int} {r0 : Nat} (hb0 : 1 ≤ v0 ∧ v0 ≤ 6) (hr0 : r0 ∈ L ∧ K r0 = 200) (k36 : ∀ (K' : Nat → Nat) (B' : Int) (L' : List Nat) (f' : Nat → va_E), hok X0.2.2.1 K' B' L' f' → extC [] K B L f K' B' L' f' → (1 ≤ v0 ∧ v0 ≤ 6) → (r0 ∈ L' ∧ K' r0 = 200) → eW E 0 0 L' f' 36 [(0, .ref r0), (1, .int (Int32.ofInt v0)), (2, .int (Int32.ofInt (-1)))] [.int (Int32.ofInt 0)]) : eW E 0 0 L f 4 [(0, .ref r0), (1, .int (Int32.ofInt v0)), (2, .int (Int32.ofInt (-1)))] [] := by
  obtain ⟨l0, D0, cy0, ax0⟩ := X0
  have hraw : eW E 0 0 L f 4 [(0, .ref r0), (1, .int (Int32.ofInt (0 + (1 * v0 + 0)))), (2, .int (Int32.ofInt ((-1) + 0)))] [] := ?_
  · simpa only [Int.zero_add, Int.one_mul, Int.add_zero] using hraw
  refine seg_ok (D := D_no4x) (νi := fun i => [v0].getD i 0) (μi := fun i => [r0].getD i 0) k_no4x hE (mk_ok (ins := iX12_nextOrder) jX12_nextOrder fX12_ok lX12_ok kX12_ok kkX12_ok H) (by decide) rfl rfl rfl rfl hh ?_ ?_
  · refine ⟨(eok_of (fun i q hq => ?_) (fun i hi => ?_)), fa0, fa0, ?_, fa0, fa0, fa0⟩
    · match i, hq with
      | 0, hq => cases hq; exact hb0
      | i + 1, hq => cases hq
    · match i, hi with
      | 0, hi => exact absurd hi (by decide)
      | i + 1, _ => rfl
    · intro i k hk
      match i, hk with
      | 0, hk => cases hk; exact hr0
      | i + 1, hk => cases hk
  · intro q hq hst K' B' L' f' ν μ h1 h2 h3 h4 h5
    have e0 : ν 0 = v0 := h4 0 (by decide)
    have d0 : μ 0 = r0 := h5 0 (by decide)
    subst e0
    subst d0
    replace hq : q ∈ u_no4x := hq
    unfold u_no4x at hq
    simp only [List.mem_cons, List.not_mem_nil, or_false] at hq
    rcases hq with rfl
    · have hst2 : eW E 0 0 L' f' 36 [(0, .ref (μ 0)), (1, .int (Int32.ofInt (0 + (1 * ν 0 + 0)))), (2, .int (Int32.ofInt ((-1) + 0)))] [.int (Int32.ofInt (0 + 0))] := ?_
      · exact hst2
      try simp only [Int.zero_add, Int.one_mul, Int.add_zero]
      exact k36 K' B' L' f'   h1 h2 (h3.1 0) (h3.2.2.2.1 0 200 rfl)

/-! no25: from 25 to [4] -/
def w_no25 : TP := ([(0, (2, 0, (0, []))), (1, (0, 0, (0, [(1, 0)]))), (2, (0, 0, (0, [(1, 1)])))], [], ([(1, 6), (0, 4)], [], [], [200], [], [], []), [], [])
def u_no25 : List (Nat × TP × EX × Nat × Nat) := [(4, ([(0, (2, 0, (0, []))), (1, (0, 0, (0, [(1, 0)]))), (2, (0, 0, ((-1), [(1, 1)])))], [], ([(1, 6), (0, 4)], [], [], [200], [], [], []), [], []), ((-1), []), 0, 0)]
def D_no25 : DT := (mkD iX12_nextOrder fX12 lX12 kX12 kkX12 390 [] (w_no25, [], [], 2, 0, 0, 3) false 7 u_no25)
theorem k_no25 : chkS D_no25 4000 0 0 25 = true := by decide +kernel
theorem s_no25 {X0 : zC0} {E : zCx} (H : ∀ j, j < 390 → CMj X0 j) (hE : zOk E X0 RX12 cX12_nextOrder 7 (zrm 2 0 0)) {K : Nat → Nat} {B : Int} {L : List Nat} {f : Nat → va_E} (hh : hok X0.2.2.1 K B L f) {v0 v1 : Int} {r0 : Nat} (hb0 : 1 ≤ v0 ∧ v0 ≤ 6) (hb1 : 0 ≤ v1 ∧ v1 ≤ 4) (hr0 : r0 ∈ L ∧ K r0 = 200) (k4 : ∀ (K' : Nat → Nat) (B' : Int) (L' : List Nat) (f' : Nat → va_E), hok X0.2.2.1 K' B' L' f' → extC [] K B L f K' B' L' f' → (1 ≤ v0 ∧ v0 ≤ 6) → (0 ≤ v1 ∧ v1 ≤ 4) → (r0 ∈ L' ∧ K' r0 = 200) → eW E 0 0 L' f' 4 [(0, .ref r0), (1, .int (Int32.ofInt v0)), (2, .int (Int32.ofInt ((-1) + v1)))] []) : eW E 0 0 L f 25 [(0, .ref r0), (1, .int (Int32.ofInt v0)), (2, .int (Int32.ofInt v1))] [] := by
  obtain ⟨l0, D0, cy0, ax0⟩ := X0
  have hraw : eW E 0 0 L f 25 [(0, .ref r0), (1, .int (Int32.ofInt (0 + (1 * v0 + 0)))), (2, .int (Int32.ofInt (0 + (1 * v1 + 0))))] [] := ?_
  · simpa only [Int.zero_add, Int.one_mul, Int.add_zero] using hraw
  refine seg_ok (D := D_no25) (νi := fun i => [v0, v1].getD i 0) (μi := fun i => [r0].getD i 0) k_no25 hE (mk_ok (ins := iX12_nextOrder) jX12_nextOrder fX12_ok lX12_ok kX12_ok kkX12_ok H) (by decide) rfl rfl rfl rfl hh ?_ ?_
  · refine ⟨(eok_of (fun i q hq => ?_) (fun i hi => ?_)), fa0, fa0, ?_, fa0, fa0, fa0⟩
    · match i, hq with
      | 0, hq => cases hq; exact hb0
      | 1, hq => cases hq; exact hb1
      | i + 2, hq => cases hq
    · match i, hi with
      | 0, hi => exact absurd hi (by decide)
      | 1, hi => exact absurd hi (by decide)
      | i + 2, _ => rfl
    · intro i k hk
      match i, hk with
      | 0, hk => cases hk; exact hr0
      | i + 1, hk => cases hk
  · intro q hq hst K' B' L' f' ν μ h1 h2 h3 h4 h5
    have e0 : ν 0 = v0 := h4 0 (by decide)
    have e1 : ν 1 = v1 := h4 1 (by decide)
    have d0 : μ 0 = r0 := h5 0 (by decide)
    subst e0
    subst e1
    subst d0
    replace hq : q ∈ u_no25 := hq
    unfold u_no25 at hq
    simp only [List.mem_cons, List.not_mem_nil, or_false] at hq
    rcases hq with rfl
    · have hst2 : eW E 0 0 L' f' 4 [(0, .ref (μ 0)), (1, .int (Int32.ofInt (0 + (1 * ν 0 + 0)))), (2, .int (Int32.ofInt ((-1) + (1 * ν 1 + 0))))] [] := ?_
      · exact hst2
      try simp only [Int.zero_add, Int.one_mul, Int.add_zero]
      exact k4 K' B' L' f'   h1 h2 (h3.1 0) (h3.1 1) (h3.2.2.2.1 0 200 rfl)

/-! no37: from 37 to [41] -/
def w_no37 : TP := ([(0, (2, 0, (0, []))), (1, (0, 0, (0, [(1, 0)]))), (2, (0, 0, (0, [(1, 1)])))], [], ([(1, 6), (0, 4)], [], [], [200], [], [], []), [], [])
def u_no37 : List (Nat × TP × EX × Nat × Nat) := [(41, ([(0, (2, 0, (0, []))), (1, (0, 0, (0, [(1, 0)]))), (2, (0, 0, (0, [(1, 1)]))), (3, (0, 0, ((-1), [(1, 0)])))], [], ([(1, 6), (0, 4)], [], [], [200], [], [], []), [], []), ((-1), []), 0, 0)]
def D_no37 : DT := (mkD iX12_nextOrder fX12 lX12 kX12 kkX12 390 [] (w_no37, [], [], 2, 0, 0, 3) false 7 u_no37)
theorem k_no37 : chkS D_no37 4000 0 0 37 = true := by decide +kernel
theorem s_no37 {X0 : zC0} {E : zCx} (H : ∀ j, j < 390 → CMj X0 j) (hE : zOk E X0 RX12 cX12_nextOrder 7 (zrm 2 0 0)) {K : Nat → Nat} {B : Int} {L : List Nat} {f : Nat → va_E} (hh : hok X0.2.2.1 K B L f) {v0 v1 : Int} {r0 : Nat} (hb0 : 1 ≤ v0 ∧ v0 ≤ 6) (hb1 : 0 ≤ v1 ∧ v1 ≤ 4) (hr0 : r0 ∈ L ∧ K r0 = 200) (k41 : ∀ (K' : Nat → Nat) (B' : Int) (L' : List Nat) (f' : Nat → va_E), hok X0.2.2.1 K' B' L' f' → extC [] K B L f K' B' L' f' → (1 ≤ v0 ∧ v0 ≤ 6) → (0 ≤ v1 ∧ v1 ≤ 4) → (r0 ∈ L' ∧ K' r0 = 200) → eW E 0 0 L' f' 41 [(0, .ref r0), (1, .int (Int32.ofInt v0)), (2, .int (Int32.ofInt v1)), (3, .int (Int32.ofInt ((-1) + v0)))] []) : eW E 0 0 L f 37 [(0, .ref r0), (1, .int (Int32.ofInt v0)), (2, .int (Int32.ofInt v1))] [] := by
  obtain ⟨l0, D0, cy0, ax0⟩ := X0
  have hraw : eW E 0 0 L f 37 [(0, .ref r0), (1, .int (Int32.ofInt (0 + (1 * v0 + 0)))), (2, .int (Int32.ofInt (0 + (1 * v1 + 0))))] [] := ?_
  · simpa only [Int.zero_add, Int.one_mul, Int.add_zero] using hraw
  refine seg_ok (D := D_no37) (νi := fun i => [v0, v1].getD i 0) (μi := fun i => [r0].getD i 0) k_no37 hE (mk_ok (ins := iX12_nextOrder) jX12_nextOrder fX12_ok lX12_ok kX12_ok kkX12_ok H) (by decide) rfl rfl rfl rfl hh ?_ ?_
  · refine ⟨(eok_of (fun i q hq => ?_) (fun i hi => ?_)), fa0, fa0, ?_, fa0, fa0, fa0⟩
    · match i, hq with
      | 0, hq => cases hq; exact hb0
      | 1, hq => cases hq; exact hb1
      | i + 2, hq => cases hq
    · match i, hi with
      | 0, hi => exact absurd hi (by decide)
      | 1, hi => exact absurd hi (by decide)
      | i + 2, _ => rfl
    · intro i k hk
      match i, hk with
      | 0, hk => cases hk; exact hr0
      | i + 1, hk => cases hk
  · intro q hq hst K' B' L' f' ν μ h1 h2 h3 h4 h5
    have e0 : ν 0 = v0 := h4 0 (by decide)
    have e1 : ν 1 = v1 := h4 1 (by decide)
    have d0 : μ 0 = r0 := h5 0 (by decide)
    subst e0
    subst e1
    subst d0
    replace hq : q ∈ u_no37 := hq
    unfold u_no37 at hq
    simp only [List.mem_cons, List.not_mem_nil, or_false] at hq
    rcases hq with rfl
    · have hst2 : eW E 0 0 L' f' 41 [(0, .ref (μ 0)), (1, .int (Int32.ofInt (0 + (1 * ν 0 + 0)))), (2, .int (Int32.ofInt (0 + (1 * ν 1 + 0)))), (3, .int (Int32.ofInt ((-1) + (1 * ν 0 + 0))))] [] := ?_
      · exact hst2
      try simp only [Int.zero_add, Int.one_mul, Int.add_zero]
      exact k41 K' B' L' f'   h1 h2 (h3.1 0) (h3.1 1) (h3.2.2.2.1 0 200 rfl)

/-! no41: from 41 to [56, 62] -/
def w_no41 : TP := ([(0, (2, 0, (0, []))), (1, (0, 0, (0, [(1, 0)]))), (2, (0, 0, (0, [(1, 1)]))), (3, (0, 0, (0, [(1, 2)])))], [], ([(1, 6), (0, 4), (0, 5)], [], [], [200], [], [], []), [], [])
def u_no41 : List (Nat × TP × EX × Nat × Nat) := [(56, ([(0, (2, 0, (0, []))), (1, (0, 0, (0, [(1, 0)]))), (2, (0, 0, (0, [(1, 1)]))), (3, (0, 0, (0, [(1, 2)])))], [], ([(1, 6), (0, 4), (0, 5), (1, 5), (0, 4)], [((-1), [((-1), 4), (1, 3)])], [], [200], [((222, (0, [(1, 1)])), (0, [(1, 3)])), ((222, (0, [(1, 2)])), (0, [(1, 4)]))], [], []), [(2, 222, (0, [(1, 1)])), (2, 222, (0, [(1, 2)]))], []), ((-1), []), 0, 0), (62, ([(0, (2, 0, (0, []))), (1, (0, 0, (0, [(1, 0)]))), (2, (0, 0, (0, [(1, 1)]))), (3, (0, 0, (0, [(1, 2)])))], [], ([(1, 6), (0, 4), (0, 5), (0, 5), (0, 5)], [(0, [(1, 4), ((-1), 3)])], [], [200], [((222, (0, [(1, 1)])), (0, [(1, 3)])), ((222, (0, [(1, 2)])), (0, [(1, 4)]))], [], []), [(2, 222, (0, [(1, 1)])), (2, 222, (0, [(1, 2)]))], []), ((-1), []), 0, 0)]
def D_no41 : DT := (mkD iX12_nextOrder fX12 lX12 kX12 kkX12 390 [] (w_no41, [], [], 2, 0, 0, 3) false 7 u_no41)
theorem k_no41 : chkS D_no41 4000 0 0 41 = true := by decide +kernel
theorem s_no41 {X0 : zC0} {E : zCx} (H : ∀ j, j < 390 → CMj X0 j) (hE : zOk E X0 RX12 cX12_nextOrder 7 (zrm 2 0 0)) {K : Nat → Nat} {B : Int} {L : List Nat} {f : Nat → va_E} (hh : hok X0.2.2.1 K B L f) {v0 v1 v2 : Int} {r0 : Nat} (hb0 : 1 ≤ v0 ∧ v0 ≤ 6) (hb1 : 0 ≤ v1 ∧ v1 ≤ 4) (hb2 : 0 ≤ v2 ∧ v2 ≤ 5) (hr0 : r0 ∈ L ∧ K r0 = 200) (k56 : ∀ (K' : Nat → Nat) (B' : Int) (L' : List Nat) (f' : Nat → va_E) (v3 v4 : Int), hok X0.2.2.1 K' B' L' f' → extC [] K B L f K' B' L' f' → (1 ≤ v0 ∧ v0 ≤ 6) → (0 ≤ v1 ∧ v1 ≤ 4) → (0 ≤ v2 ∧ v2 ≤ 5) → (1 ≤ v3 ∧ v3 ≤ 5) → (0 ≤ v4 ∧ v4 ≤ 4) → (0 ≤ ((-1) + ((-1) * v4 + v3))) → (r0 ∈ L' ∧ K' r0 = 200) → (∀ b ∈ L', K' b = 222 → (0 : Int) ≤ v1 ∧ gi (f' b) ((v1 : Int)).toNat = v3) → (∀ b ∈ L', K' b = 222 → (0 : Int) ≤ v2 ∧ gi (f' b) ((v2 : Int)).toNat = v4) → eW E 0 0 L' f' 56 [(0, .ref r0), (1, .int (Int32.ofInt v0)), (2, .int (Int32.ofInt v1)), (3, .int (Int32.ofInt v2))] []) (k62 : ∀ (K' : Nat → Nat) (B' : Int) (L' : List Nat) (f' : Nat → va_E) (v3 v4 : Int), hok X0.2.2.1 K' B' L' f' → extC [] K B L f K' B' L' f' → (1 ≤ v0 ∧ v0 ≤ 6) → (0 ≤ v1 ∧ v1 ≤ 4) → (0 ≤ v2 ∧ v2 ≤ 5) → (0 ≤ v3 ∧ v3 ≤ 5) → (0 ≤ v4 ∧ v4 ≤ 5) → (0 ≤ (v4 + ((-1) * v3))) → (r0 ∈ L' ∧ K' r0 = 200) → (∀ b ∈ L', K' b = 222 → (0 : Int) ≤ v1 ∧ gi (f' b) ((v1 : Int)).toNat = v3) → (∀ b ∈ L', K' b = 222 → (0 : Int) ≤ v2 ∧ gi (f' b) ((v2 : Int)).toNat = v4) → eW E 0 0 L' f' 62 [(0, .ref r0), (1, .int (Int32.ofInt v0)), (2, .int (Int32.ofInt v1)), (3, .int (Int32.ofInt v2))] []) : eW E 0 0 L f 41 [(0, .ref r0), (1, .int (Int32.ofInt v0)), (2, .int (Int32.ofInt v1)), (3, .int (Int32.ofInt v2))] [] := by
  obtain ⟨l0, D0, cy0, ax0⟩ := X0
  have hraw : eW E 0 0 L f 41 [(0, .ref r0), (1, .int (Int32.ofInt (0 + (1 * v0 + 0)))), (2, .int (Int32.ofInt (0 + (1 * v1 + 0)))), (3, .int (Int32.ofInt (0 + (1 * v2 + 0))))] [] := ?_
  · simpa only [Int.zero_add, Int.one_mul, Int.add_zero] using hraw
  refine seg_ok (D := D_no41) (νi := fun i => [v0, v1, v2].getD i 0) (μi := fun i => [r0].getD i 0) k_no41 hE (mk_ok (ins := iX12_nextOrder) jX12_nextOrder fX12_ok lX12_ok kX12_ok kkX12_ok H) (by decide) rfl rfl rfl rfl hh ?_ ?_
  · refine ⟨(eok_of (fun i q hq => ?_) (fun i hi => ?_)), fa0, fa0, ?_, fa0, fa0, fa0⟩
    · match i, hq with
      | 0, hq => cases hq; exact hb0
      | 1, hq => cases hq; exact hb1
      | 2, hq => cases hq; exact hb2
      | i + 3, hq => cases hq
    · match i, hi with
      | 0, hi => exact absurd hi (by decide)
      | 1, hi => exact absurd hi (by decide)
      | 2, hi => exact absurd hi (by decide)
      | i + 3, _ => rfl
    · intro i k hk
      match i, hk with
      | 0, hk => cases hk; exact hr0
      | i + 1, hk => cases hk
  · intro q hq hst K' B' L' f' ν μ h1 h2 h3 h4 h5
    have e0 : ν 0 = v0 := h4 0 (by decide)
    have e1 : ν 1 = v1 := h4 1 (by decide)
    have e2 : ν 2 = v2 := h4 2 (by decide)
    have d0 : μ 0 = r0 := h5 0 (by decide)
    subst e0
    subst e1
    subst e2
    subst d0
    replace hq : q ∈ u_no41 := hq
    unfold u_no41 at hq
    simp only [List.mem_cons, List.not_mem_nil, or_false] at hq
    rcases hq with rfl | rfl
    · have hst2 : eW E 0 0 L' f' 56 [(0, .ref (μ 0)), (1, .int (Int32.ofInt (0 + (1 * ν 0 + 0)))), (2, .int (Int32.ofInt (0 + (1 * ν 1 + 0)))), (3, .int (Int32.ofInt (0 + (1 * ν 2 + 0))))] [] := ?_
      · exact hst2
      try simp only [Int.zero_add, Int.one_mul, Int.add_zero]
      exact k56 K' B' L' f' (ν 3) (ν 4)  h1 h2 (h3.1 0) (h3.1 1) (h3.1 2) (h3.1 3) (h3.1 4) (by simpa only [xv, xvT, Int.zero_add, Int.one_mul, Int.add_zero] using (h3.2.1 _ (List.mem_of_getElem? (i := 0) rfl))) (h3.2.2.2.1 0 200 rfl) (by simpa only [xv, xvT, Int.zero_add, Int.one_mul, Int.add_zero] using (mokA h1 (show (zkd 222).1 = 2 by decide) (by decide) (h3.2.2.2.2.1 _ (List.mem_of_getElem? (i := 0) rfl)))) (by simpa only [xv, xvT, Int.zero_add, Int.one_mul, Int.add_zero] using (mokA h1 (show (zkd 222).1 = 2 by decide) (by decide) (h3.2.2.2.2.1 _ (List.mem_of_getElem? (i := 1) rfl))))
    · have hst2 : eW E 0 0 L' f' 62 [(0, .ref (μ 0)), (1, .int (Int32.ofInt (0 + (1 * ν 0 + 0)))), (2, .int (Int32.ofInt (0 + (1 * ν 1 + 0)))), (3, .int (Int32.ofInt (0 + (1 * ν 2 + 0))))] [] := ?_
      · exact hst2
      try simp only [Int.zero_add, Int.one_mul, Int.add_zero]
      exact k62 K' B' L' f' (ν 3) (ν 4)  h1 h2 (h3.1 0) (h3.1 1) (h3.1 2) (h3.1 3) (h3.1 4) (by simpa only [xv, xvT, Int.zero_add, Int.one_mul, Int.add_zero] using (h3.2.1 _ (List.mem_of_getElem? (i := 0) rfl))) (h3.2.2.2.1 0 200 rfl) (by simpa only [xv, xvT, Int.zero_add, Int.one_mul, Int.add_zero] using (mokA h1 (show (zkd 222).1 = 2 by decide) (by decide) (h3.2.2.2.2.1 _ (List.mem_of_getElem? (i := 0) rfl)))) (by simpa only [xv, xvT, Int.zero_add, Int.one_mul, Int.add_zero] using (mokA h1 (show (zkd 222).1 = 2 by decide) (by decide) (h3.2.2.2.2.1 _ (List.mem_of_getElem? (i := 1) rfl))))

/-! no56: from 56 to [41] -/
def w_no56 : TP := ([(0, (2, 0, (0, []))), (1, (0, 0, (0, [(1, 0)]))), (2, (0, 0, (0, [(1, 1)]))), (3, (0, 0, (0, [(1, 2)])))], [], ([(1, 6), (0, 4), (0, 5)], [], [], [200], [], [], []), [], [])
def u_no56 : List (Nat × TP × EX × Nat × Nat) := [(41, ([(0, (2, 0, (0, []))), (1, (0, 0, (0, [(1, 0)]))), (2, (0, 0, (0, [(1, 1)]))), (3, (0, 0, ((-1), [(1, 2)])))], [], ([(1, 6), (0, 4), (0, 5)], [], [], [200], [], [], []), [], []), ((-1), []), 0, 0)]
def D_no56 : DT := (mkD iX12_nextOrder fX12 lX12 kX12 kkX12 390 [] (w_no56, [], [], 2, 0, 0, 3) false 7 u_no56)
theorem k_no56 : chkS D_no56 4000 0 0 56 = true := by decide +kernel
theorem s_no56 {X0 : zC0} {E : zCx} (H : ∀ j, j < 390 → CMj X0 j) (hE : zOk E X0 RX12 cX12_nextOrder 7 (zrm 2 0 0)) {K : Nat → Nat} {B : Int} {L : List Nat} {f : Nat → va_E} (hh : hok X0.2.2.1 K B L f) {v0 v1 v2 : Int} {r0 : Nat} (hb0 : 1 ≤ v0 ∧ v0 ≤ 6) (hb1 : 0 ≤ v1 ∧ v1 ≤ 4) (hb2 : 0 ≤ v2 ∧ v2 ≤ 5) (hr0 : r0 ∈ L ∧ K r0 = 200) (k41 : ∀ (K' : Nat → Nat) (B' : Int) (L' : List Nat) (f' : Nat → va_E), hok X0.2.2.1 K' B' L' f' → extC [] K B L f K' B' L' f' → (1 ≤ v0 ∧ v0 ≤ 6) → (0 ≤ v1 ∧ v1 ≤ 4) → (0 ≤ v2 ∧ v2 ≤ 5) → (r0 ∈ L' ∧ K' r0 = 200) → eW E 0 0 L' f' 41 [(0, .ref r0), (1, .int (Int32.ofInt v0)), (2, .int (Int32.ofInt v1)), (3, .int (Int32.ofInt ((-1) + v2)))] []) : eW E 0 0 L f 56 [(0, .ref r0), (1, .int (Int32.ofInt v0)), (2, .int (Int32.ofInt v1)), (3, .int (Int32.ofInt v2))] [] := by
  obtain ⟨l0, D0, cy0, ax0⟩ := X0
  have hraw : eW E 0 0 L f 56 [(0, .ref r0), (1, .int (Int32.ofInt (0 + (1 * v0 + 0)))), (2, .int (Int32.ofInt (0 + (1 * v1 + 0)))), (3, .int (Int32.ofInt (0 + (1 * v2 + 0))))] [] := ?_
  · simpa only [Int.zero_add, Int.one_mul, Int.add_zero] using hraw
  refine seg_ok (D := D_no56) (νi := fun i => [v0, v1, v2].getD i 0) (μi := fun i => [r0].getD i 0) k_no56 hE (mk_ok (ins := iX12_nextOrder) jX12_nextOrder fX12_ok lX12_ok kX12_ok kkX12_ok H) (by decide) rfl rfl rfl rfl hh ?_ ?_
  · refine ⟨(eok_of (fun i q hq => ?_) (fun i hi => ?_)), fa0, fa0, ?_, fa0, fa0, fa0⟩
    · match i, hq with
      | 0, hq => cases hq; exact hb0
      | 1, hq => cases hq; exact hb1
      | 2, hq => cases hq; exact hb2
      | i + 3, hq => cases hq
    · match i, hi with
      | 0, hi => exact absurd hi (by decide)
      | 1, hi => exact absurd hi (by decide)
      | 2, hi => exact absurd hi (by decide)
      | i + 3, _ => rfl
    · intro i k hk
      match i, hk with
      | 0, hk => cases hk; exact hr0
      | i + 1, hk => cases hk
  · intro q hq hst K' B' L' f' ν μ h1 h2 h3 h4 h5
    have e0 : ν 0 = v0 := h4 0 (by decide)
    have e1 : ν 1 = v1 := h4 1 (by decide)
    have e2 : ν 2 = v2 := h4 2 (by decide)
    have d0 : μ 0 = r0 := h5 0 (by decide)
    subst e0
    subst e1
    subst e2
    subst d0
    replace hq : q ∈ u_no56 := hq
    unfold u_no56 at hq
    simp only [List.mem_cons, List.not_mem_nil, or_false] at hq
    rcases hq with rfl
    · have hst2 : eW E 0 0 L' f' 41 [(0, .ref (μ 0)), (1, .int (Int32.ofInt (0 + (1 * ν 0 + 0)))), (2, .int (Int32.ofInt (0 + (1 * ν 1 + 0)))), (3, .int (Int32.ofInt ((-1) + (1 * ν 2 + 0))))] [] := ?_
      · exact hst2
      try simp only [Int.zero_add, Int.one_mul, Int.add_zero]
      exact k41 K' B' L' f'   h1 h2 (h3.1 0) (h3.1 1) (h3.1 2) (h3.2.2.2.1 0 200 rfl)

/-! no62: from 62 to [81] -/
def w_no62 : TP := ([(0, (2, 0, (0, []))), (1, (0, 0, (0, [(1, 0)]))), (2, (0, 0, (0, [(1, 1)]))), (3, (0, 0, (0, [(1, 2)])))], [], ([(1, 6), (0, 4), (0, 5)], [], [], [200], [], [], []), [], [])
def u_no62 : List (Nat × TP × EX × Nat × Nat) := [(81, ([(0, (2, 0, (0, []))), (1, (0, 0, (0, [(1, 0)]))), (2, (0, 0, (0, [(1, 1)]))), (3, (0, 0, (0, [(1, 2)]))), (4, (0, 0, (0, [(1, 3)])))], [(0, 0, (0, [(1, 4)])), (0, 0, (0, [(1, 1)])), (2, 1, (0, []))], ([(1, 6), (0, 4), (0, 5), (0, 5), (0, 5)], [], [], [200, 222], [((222, (0, [(1, 2)])), (0, [(1, 4)])), ((222, (0, [(1, 1)])), (0, [(1, 3)]))], [], []), [(0, 4, (0, [])), (1, 0, (0, []))], [(1, 2)]), ((-1), []), 0, 0)]
def D_no62 : DT := (mkD iX12_nextOrder fX12 lX12 kX12 kkX12 390 [] (w_no62, [], [], 2, 0, 0, 3) false 7 u_no62)
theorem k_no62 : chkS D_no62 4000 0 0 62 = true := by decide +kernel
theorem s_no62 {X0 : zC0} {E : zCx} (H : ∀ j, j < 390 → CMj X0 j) (hE : zOk E X0 RX12 cX12_nextOrder 7 (zrm 2 0 0)) {K : Nat → Nat} {B : Int} {L : List Nat} {f : Nat → va_E} (hh : hok X0.2.2.1 K B L f) {v0 v1 v2 : Int} {r0 : Nat} (hb0 : 1 ≤ v0 ∧ v0 ≤ 6) (hb1 : 0 ≤ v1 ∧ v1 ≤ 4) (hb2 : 0 ≤ v2 ∧ v2 ≤ 5) (hr0 : r0 ∈ L ∧ K r0 = 200) (k81 : ∀ (K' : Nat → Nat) (B' : Int) (L' : List Nat) (f' : Nat → va_E) (v3 v4 : Int) (r1 : Nat), hok X0.2.2.1 K' B' L' f' → extC [] K B L f K' B' L' f' → (1 ≤ v0 ∧ v0 ≤ 6) → (0 ≤ v1 ∧ v1 ≤ 4) → (0 ≤ v2 ∧ v2 ≤ 5) → (0 ≤ v3 ∧ v3 ≤ 5) → (0 ≤ v4 ∧ v4 ≤ 5) → (r0 ∈ L' ∧ K' r0 = 200) → (r1 ∈ L' ∧ K' r1 = 222) → (∀ b ∈ L', K' b = 222 → (0 : Int) ≤ v2 ∧ gi (f' b) ((v2 : Int)).toNat = v4) → (∀ b ∈ L', K' b = 222 → (0 : Int) ≤ v1 ∧ gi (f' b) ((v1 : Int)).toNat = v3) → eW E 0 0 L' f' 81 [(0, .ref r0), (1, .int (Int32.ofInt v0)), (2, .int (Int32.ofInt v1)), (3, .int (Int32.ofInt v2)), (4, .int (Int32.ofInt v3))] [.int (Int32.ofInt v4), .int (Int32.ofInt v1), .ref r1]) : eW E 0 0 L f 62 [(0, .ref r0), (1, .int (Int32.ofInt v0)), (2, .int (Int32.ofInt v1)), (3, .int (Int32.ofInt v2))] [] := by
  obtain ⟨l0, D0, cy0, ax0⟩ := X0
  have hraw : eW E 0 0 L f 62 [(0, .ref r0), (1, .int (Int32.ofInt (0 + (1 * v0 + 0)))), (2, .int (Int32.ofInt (0 + (1 * v1 + 0)))), (3, .int (Int32.ofInt (0 + (1 * v2 + 0))))] [] := ?_
  · simpa only [Int.zero_add, Int.one_mul, Int.add_zero] using hraw
  refine seg_ok (D := D_no62) (νi := fun i => [v0, v1, v2].getD i 0) (μi := fun i => [r0].getD i 0) k_no62 hE (mk_ok (ins := iX12_nextOrder) jX12_nextOrder fX12_ok lX12_ok kX12_ok kkX12_ok H) (by decide) rfl rfl rfl rfl hh ?_ ?_
  · refine ⟨(eok_of (fun i q hq => ?_) (fun i hi => ?_)), fa0, fa0, ?_, fa0, fa0, fa0⟩
    · match i, hq with
      | 0, hq => cases hq; exact hb0
      | 1, hq => cases hq; exact hb1
      | 2, hq => cases hq; exact hb2
      | i + 3, hq => cases hq
    · match i, hi with
      | 0, hi => exact absurd hi (by decide)
      | 1, hi => exact absurd hi (by decide)
      | 2, hi => exact absurd hi (by decide)
      | i + 3, _ => rfl
    · intro i k hk
      match i, hk with
      | 0, hk => cases hk; exact hr0
      | i + 1, hk => cases hk
  · intro q hq hst K' B' L' f' ν μ h1 h2 h3 h4 h5
    have e0 : ν 0 = v0 := h4 0 (by decide)
    have e1 : ν 1 = v1 := h4 1 (by decide)
    have e2 : ν 2 = v2 := h4 2 (by decide)
    have d0 : μ 0 = r0 := h5 0 (by decide)
    subst e0
    subst e1
    subst e2
    subst d0
    replace hq : q ∈ u_no62 := hq
    unfold u_no62 at hq
    simp only [List.mem_cons, List.not_mem_nil, or_false] at hq
    rcases hq with rfl
    · have hst2 : eW E 0 0 L' f' 81 [(0, .ref (μ 0)), (1, .int (Int32.ofInt (0 + (1 * ν 0 + 0)))), (2, .int (Int32.ofInt (0 + (1 * ν 1 + 0)))), (3, .int (Int32.ofInt (0 + (1 * ν 2 + 0)))), (4, .int (Int32.ofInt (0 + (1 * ν 3 + 0))))] [.int (Int32.ofInt (0 + (1 * ν 4 + 0))), .int (Int32.ofInt (0 + (1 * ν 1 + 0))), .ref (μ 1)] := ?_
      · exact hst2
      try simp only [Int.zero_add, Int.one_mul, Int.add_zero]
      exact k81 K' B' L' f' (ν 3) (ν 4) (μ 1) h1 h2 (h3.1 0) (h3.1 1) (h3.1 2) (h3.1 3) (h3.1 4) (h3.2.2.2.1 0 200 rfl) (h3.2.2.2.1 1 222 rfl) (by simpa only [xv, xvT, Int.zero_add, Int.one_mul, Int.add_zero] using (mokA h1 (show (zkd 222).1 = 2 by decide) (by decide) (h3.2.2.2.2.1 _ (List.mem_of_getElem? (i := 0) rfl)))) (by simpa only [xv, xvT, Int.zero_add, Int.one_mul, Int.add_zero] using (mokA h1 (show (zkd 222).1 = 2 by decide) (by decide) (h3.2.2.2.2.1 _ (List.mem_of_getElem? (i := 1) rfl))))

/-! no82: from 82 to [89] -/
def w_no82 : TP := ([(0, (2, 0, (0, []))), (1, (0, 0, (0, [(1, 0)]))), (2, (0, 0, (0, [(1, 1)]))), (3, (0, 0, (0, [(1, 2)]))), (4, (0, 0, (0, [(1, 3)])))], [], ([(1, 6), (0, 4), (0, 5), (0, 5)], [], [], [200], [], [], []), [], [])
def u_no82 : List (Nat × TP × EX × Nat × Nat) := [(89, ([(0, (2, 0, (0, []))), (1, (0, 0, (0, [(1, 0)]))), (2, (0, 0, (0, [(1, 1)]))), (3, (0, 0, (0, [(1, 2)]))), (4, (0, 0, (0, [(1, 3)])))], [(0, 0, (0, [(1, 3)])), (0, 0, (0, [(1, 2)])), (2, 1, (0, []))], ([(1, 6), (0, 4), (0, 5), (0, 5)], [], [], [200, 222], [], [], []), [], [(1, 2)]), ((-1), []), 0, 0)]
def D_no82 : DT := (mkD iX12_nextOrder fX12 lX12 kX12 kkX12 390 [] (w_no82, [], [], 2, 0, 0, 3) false 7 u_no82)
theorem k_no82 : chkS D_no82 4000 0 0 82 = true := by decide +kernel
theorem s_no82 {X0 : zC0} {E : zCx} (H : ∀ j, j < 390 → CMj X0 j) (hE : zOk E X0 RX12 cX12_nextOrder 7 (zrm 2 0 0)) {K : Nat → Nat} {B : Int} {L : List Nat} {f : Nat → va_E} (hh : hok X0.2.2.1 K B L f) {v0 v1 v2 v3 : Int} {r0 : Nat} (hb0 : 1 ≤ v0 ∧ v0 ≤ 6) (hb1 : 0 ≤ v1 ∧ v1 ≤ 4) (hb2 : 0 ≤ v2 ∧ v2 ≤ 5) (hb3 : 0 ≤ v3 ∧ v3 ≤ 5) (hr0 : r0 ∈ L ∧ K r0 = 200) (k89 : ∀ (K' : Nat → Nat) (B' : Int) (L' : List Nat) (f' : Nat → va_E) (r1 : Nat), hok X0.2.2.1 K' B' L' f' → extC [] K B L f K' B' L' f' → (1 ≤ v0 ∧ v0 ≤ 6) → (0 ≤ v1 ∧ v1 ≤ 4) → (0 ≤ v2 ∧ v2 ≤ 5) → (0 ≤ v3 ∧ v3 ≤ 5) → (r0 ∈ L' ∧ K' r0 = 200) → (r1 ∈ L' ∧ K' r1 = 222) → eW E 0 0 L' f' 89 [(0, .ref r0), (1, .int (Int32.ofInt v0)), (2, .int (Int32.ofInt v1)), (3, .int (Int32.ofInt v2)), (4, .int (Int32.ofInt v3))] [.int (Int32.ofInt v3), .int (Int32.ofInt v2), .ref r1]) : eW E 0 0 L f 82 [(0, .ref r0), (1, .int (Int32.ofInt v0)), (2, .int (Int32.ofInt v1)), (3, .int (Int32.ofInt v2)), (4, .int (Int32.ofInt v3))] [] := by
  obtain ⟨l0, D0, cy0, ax0⟩ := X0
  have hraw : eW E 0 0 L f 82 [(0, .ref r0), (1, .int (Int32.ofInt (0 + (1 * v0 + 0)))), (2, .int (Int32.ofInt (0 + (1 * v1 + 0)))), (3, .int (Int32.ofInt (0 + (1 * v2 + 0)))), (4, .int (Int32.ofInt (0 + (1 * v3 + 0))))] [] := ?_
  · simpa only [Int.zero_add, Int.one_mul, Int.add_zero] using hraw
  refine seg_ok (D := D_no82) (νi := fun i => [v0, v1, v2, v3].getD i 0) (μi := fun i => [r0].getD i 0) k_no82 hE (mk_ok (ins := iX12_nextOrder) jX12_nextOrder fX12_ok lX12_ok kX12_ok kkX12_ok H) (by decide) rfl rfl rfl rfl hh ?_ ?_
  · refine ⟨(eok_of (fun i q hq => ?_) (fun i hi => ?_)), fa0, fa0, ?_, fa0, fa0, fa0⟩
    · match i, hq with
      | 0, hq => cases hq; exact hb0
      | 1, hq => cases hq; exact hb1
      | 2, hq => cases hq; exact hb2
      | 3, hq => cases hq; exact hb3
      | i + 4, hq => cases hq
    · match i, hi with
      | 0, hi => exact absurd hi (by decide)
      | 1, hi => exact absurd hi (by decide)
      | 2, hi => exact absurd hi (by decide)
      | 3, hi => exact absurd hi (by decide)
      | i + 4, _ => rfl
    · intro i k hk
      match i, hk with
      | 0, hk => cases hk; exact hr0
      | i + 1, hk => cases hk
  · intro q hq hst K' B' L' f' ν μ h1 h2 h3 h4 h5
    have e0 : ν 0 = v0 := h4 0 (by decide)
    have e1 : ν 1 = v1 := h4 1 (by decide)
    have e2 : ν 2 = v2 := h4 2 (by decide)
    have e3 : ν 3 = v3 := h4 3 (by decide)
    have d0 : μ 0 = r0 := h5 0 (by decide)
    subst e0
    subst e1
    subst e2
    subst e3
    subst d0
    replace hq : q ∈ u_no82 := hq
    unfold u_no82 at hq
    simp only [List.mem_cons, List.not_mem_nil, or_false] at hq
    rcases hq with rfl
    · have hst2 : eW E 0 0 L' f' 89 [(0, .ref (μ 0)), (1, .int (Int32.ofInt (0 + (1 * ν 0 + 0)))), (2, .int (Int32.ofInt (0 + (1 * ν 1 + 0)))), (3, .int (Int32.ofInt (0 + (1 * ν 2 + 0)))), (4, .int (Int32.ofInt (0 + (1 * ν 3 + 0))))] [.int (Int32.ofInt (0 + (1 * ν 3 + 0))), .int (Int32.ofInt (0 + (1 * ν 2 + 0))), .ref (μ 1)] := ?_
      · exact hst2
      try simp only [Int.zero_add, Int.one_mul, Int.add_zero]
      exact k89 K' B' L' f'  (μ 1) h1 h2 (h3.1 0) (h3.1 1) (h3.1 2) (h3.1 3) (h3.2.2.2.1 0 200 rfl) (h3.2.2.2.1 1 222 rfl)

/-! no90: from 90 to [100] -/
def w_no90 : TP := ([(0, (2, 0, (0, []))), (1, (0, 0, (0, [(1, 0)]))), (2, (0, 0, (0, [(1, 1)]))), (3, (0, 0, (0, [(1, 2)]))), (4, (0, 0, (0, [(1, 3)])))], [], ([(1, 6), (0, 4), (0, 5), (0, 5)], [], [], [200], [], [], []), [], [])
def u_no90 : List (Nat × TP × EX × Nat × Nat) := [(100, ([(0, (2, 0, (0, []))), (1, (0, 0, (0, [(1, 0)]))), (2, (0, 0, (0, [(1, 1)]))), (3, (0, 0, (0, [(1, 2)]))), (4, (0, 0, (0, [(1, 3)]))), (5, (0, 0, (1, [(1, 1)]))), (6, (0, 0, ((-1), [(1, 0)])))], [], ([(1, 6), (0, 4), (0, 5), (0, 5)], [], [], [200], [], [], []), [], []), ((-1), []), 0, 0)]
def D_no90 : DT := (mkD iX12_nextOrder fX12 lX12 kX12 kkX12 390 [] (w_no90, [], [], 2, 0, 0, 3) false 7 u_no90)
theorem k_no90 : chkS D_no90 4000 0 0 90 = true := by decide +kernel
theorem s_no90 {X0 : zC0} {E : zCx} (H : ∀ j, j < 390 → CMj X0 j) (hE : zOk E X0 RX12 cX12_nextOrder 7 (zrm 2 0 0)) {K : Nat → Nat} {B : Int} {L : List Nat} {f : Nat → va_E} (hh : hok X0.2.2.1 K B L f) {v0 v1 v2 v3 : Int} {r0 : Nat} (hb0 : 1 ≤ v0 ∧ v0 ≤ 6) (hb1 : 0 ≤ v1 ∧ v1 ≤ 4) (hb2 : 0 ≤ v2 ∧ v2 ≤ 5) (hb3 : 0 ≤ v3 ∧ v3 ≤ 5) (hr0 : r0 ∈ L ∧ K r0 = 200) (k100 : ∀ (K' : Nat → Nat) (B' : Int) (L' : List Nat) (f' : Nat → va_E), hok X0.2.2.1 K' B' L' f' → extC [] K B L f K' B' L' f' → (1 ≤ v0 ∧ v0 ≤ 6) → (0 ≤ v1 ∧ v1 ≤ 4) → (0 ≤ v2 ∧ v2 ≤ 5) → (0 ≤ v3 ∧ v3 ≤ 5) → (r0 ∈ L' ∧ K' r0 = 200) → eW E 0 0 L' f' 100 [(0, .ref r0), (1, .int (Int32.ofInt v0)), (2, .int (Int32.ofInt v1)), (3, .int (Int32.ofInt v2)), (4, .int (Int32.ofInt v3)), (5, .int (Int32.ofInt (1 + v1))), (6, .int (Int32.ofInt ((-1) + v0)))] []) : eW E 0 0 L f 90 [(0, .ref r0), (1, .int (Int32.ofInt v0)), (2, .int (Int32.ofInt v1)), (3, .int (Int32.ofInt v2)), (4, .int (Int32.ofInt v3))] [] := by
  obtain ⟨l0, D0, cy0, ax0⟩ := X0
  have hraw : eW E 0 0 L f 90 [(0, .ref r0), (1, .int (Int32.ofInt (0 + (1 * v0 + 0)))), (2, .int (Int32.ofInt (0 + (1 * v1 + 0)))), (3, .int (Int32.ofInt (0 + (1 * v2 + 0)))), (4, .int (Int32.ofInt (0 + (1 * v3 + 0))))] [] := ?_
  · simpa only [Int.zero_add, Int.one_mul, Int.add_zero] using hraw
  refine seg_ok (D := D_no90) (νi := fun i => [v0, v1, v2, v3].getD i 0) (μi := fun i => [r0].getD i 0) k_no90 hE (mk_ok (ins := iX12_nextOrder) jX12_nextOrder fX12_ok lX12_ok kX12_ok kkX12_ok H) (by decide) rfl rfl rfl rfl hh ?_ ?_
  · refine ⟨(eok_of (fun i q hq => ?_) (fun i hi => ?_)), fa0, fa0, ?_, fa0, fa0, fa0⟩
    · match i, hq with
      | 0, hq => cases hq; exact hb0
      | 1, hq => cases hq; exact hb1
      | 2, hq => cases hq; exact hb2
      | 3, hq => cases hq; exact hb3
      | i + 4, hq => cases hq
    · match i, hi with
      | 0, hi => exact absurd hi (by decide)
      | 1, hi => exact absurd hi (by decide)
      | 2, hi => exact absurd hi (by decide)
      | 3, hi => exact absurd hi (by decide)
      | i + 4, _ => rfl
    · intro i k hk
      match i, hk with
      | 0, hk => cases hk; exact hr0
      | i + 1, hk => cases hk
  · intro q hq hst K' B' L' f' ν μ h1 h2 h3 h4 h5
    have e0 : ν 0 = v0 := h4 0 (by decide)
    have e1 : ν 1 = v1 := h4 1 (by decide)
    have e2 : ν 2 = v2 := h4 2 (by decide)
    have e3 : ν 3 = v3 := h4 3 (by decide)
    have d0 : μ 0 = r0 := h5 0 (by decide)
    subst e0
    subst e1
    subst e2
    subst e3
    subst d0
    replace hq : q ∈ u_no90 := hq
    unfold u_no90 at hq
    simp only [List.mem_cons, List.not_mem_nil, or_false] at hq
    rcases hq with rfl
    · have hst2 : eW E 0 0 L' f' 100 [(0, .ref (μ 0)), (1, .int (Int32.ofInt (0 + (1 * ν 0 + 0)))), (2, .int (Int32.ofInt (0 + (1 * ν 1 + 0)))), (3, .int (Int32.ofInt (0 + (1 * ν 2 + 0)))), (4, .int (Int32.ofInt (0 + (1 * ν 3 + 0)))), (5, .int (Int32.ofInt (1 + (1 * ν 1 + 0)))), (6, .int (Int32.ofInt ((-1) + (1 * ν 0 + 0))))] [] := ?_
      · exact hst2
      try simp only [Int.zero_add, Int.one_mul, Int.add_zero]
      exact k100 K' B' L' f'   h1 h2 (h3.1 0) (h3.1 1) (h3.1 2) (h3.1 3) (h3.2.2.2.1 0 200 rfl)

/-! no100: from 100 to [129, 149] -/
def w_no100 : TP := ([(0, (2, 0, (0, []))), (1, (0, 0, (0, [(1, 0)]))), (2, (0, 0, (0, [(1, 1)]))), (3, (0, 0, (0, [(1, 2)]))), (4, (0, 0, (0, [(1, 3)]))), (5, (0, 0, (0, [(1, 4)]))), (6, (0, 0, (0, [(1, 5)])))], [], ([(1, 6), (0, 4), (0, 5), (0, 5), (1, 6), ((-1), 5)], [], [], [200], [], [], []), [], [])
def u_no100 : List (Nat × TP × EX × Nat × Nat) := [(129, ([(0, (2, 0, (0, []))), (1, (0, 0, (0, [(1, 0)]))), (2, (0, 0, (0, [(1, 1)]))), (3, (0, 0, (0, [(1, 2)]))), (4, (0, 0, (0, [(1, 6)]))), (5, (0, 0, (0, [(1, 4)]))), (6, (0, 0, (0, [(1, 5)])))], [(0, 0, (0, [(1, 7)])), (0, 0, (0, [(1, 4)])), (2, 1, (0, []))], ([(1, 6), (0, 4), (0, 5), (0, 5), (1, 4), (2, 5), (0, 5), (0, 5)], [((-1), [((-1), 4), (1, 5)])], [], [200, 222], [((222, (0, [(1, 5)])), (0, [(1, 7)])), ((222, (0, [(1, 4)])), (0, [(1, 6)]))], [], []), [(0, 4, (0, [])), (1, 0, (0, []))], [(1, 2)]), ((-1), []), 0, 0), (149, ([(0, (2, 0, (0, []))), (1, (0, 0, (0, [(1, 0)]))), (2, (0, 0, (0, [(1, 1)]))), (3, (0, 0, (0, [(1, 2)]))), (4, (0, 0, (0, [(1, 3)]))), (5, (0, 0, (0, [(1, 4)]))), (6, (0, 0, (0, [(1, 5)])))], [(0, 0, (1, []))], ([(1, 6), (0, 4), (0, 5), (0, 5), (1, 6), ((-1), 5)], [(0, [(1, 4), ((-1), 5)])], [], [200], [], [], []), [], []), ((-1), []), 0, 0)]
def D_no100 : DT := (mkD iX12_nextOrder fX12 lX12 kX12 kkX12 390 [] (w_no100, [], [], 2, 0, 0, 3) false 7 u_no100)
theorem k_no100 : chkS D_no100 4000 0 0 100 = true := by decide +kernel
theorem s_no100 {X0 : zC0} {E : zCx} (H : ∀ j, j < 390 → CMj X0 j) (hE : zOk E X0 RX12 cX12_nextOrder 7 (zrm 2 0 0)) {K : Nat → Nat} {B : Int} {L : List Nat} {f : Nat → va_E} (hh : hok X0.2.2.1 K B L f) {v0 v1 v2 v3 v4 v5 : Int} {r0 : Nat} (hb0 : 1 ≤ v0 ∧ v0 ≤ 6) (hb1 : 0 ≤ v1 ∧ v1 ≤ 4) (hb2 : 0 ≤ v2 ∧ v2 ≤ 5) (hb3 : 0 ≤ v3 ∧ v3 ≤ 5) (hb4 : 1 ≤ v4 ∧ v4 ≤ 6) (hb5 : (-1) ≤ v5 ∧ v5 ≤ 5) (hr0 : r0 ∈ L ∧ K r0 = 200) (k129 : ∀ (K' : Nat → Nat) (B' : Int) (L' : List Nat) (f' : Nat → va_E) (v6 v7 : Int) (r1 : Nat), hok X0.2.2.1 K' B' L' f' → extC [] K B L f K' B' L' f' → (1 ≤ v0 ∧ v0 ≤ 6) → (0 ≤ v1 ∧ v1 ≤ 4) → (0 ≤ v2 ∧ v2 ≤ 5) → (0 ≤ v3 ∧ v3 ≤ 5) → (1 ≤ v4 ∧ v4 ≤ 4) → (2 ≤ v5 ∧ v5 ≤ 5) → (0 ≤ v6 ∧ v6 ≤ 5) → (0 ≤ v7 ∧ v7 ≤ 5) → (0 ≤ ((-1) + ((-1) * v4 + v5))) → (r0 ∈ L' ∧ K' r0 = 200) → (r1 ∈ L' ∧ K' r1 = 222) → (∀ b ∈ L', K' b = 222 → (0 : Int) ≤ v5 ∧ gi (f' b) ((v5 : Int)).toNat = v7) → (∀ b ∈ L', K' b = 222 → (0 : Int) ≤ v4 ∧ gi (f' b) ((v4 : Int)).toNat = v6) → eW E 0 0 L' f' 129 [(0, .ref r0), (1, .int (Int32.ofInt v0)), (2, .int (Int32.ofInt v1)), (3, .int (Int32.ofInt v2)), (4, .int (Int32.ofInt v6)), (5, .int (Int32.ofInt v4)), (6, .int (Int32.ofInt v5))] [.int (Int32.ofInt v7), .int (Int32.ofInt v4), .ref r1]) (k149 : ∀ (K' : Nat → Nat) (B' : Int) (L' : List Nat) (f' : Nat → va_E), hok X0.2.2.1 K' B' L' f' → extC [] K B L f K' B' L' f' → (1 ≤ v0 ∧ v0 ≤ 6) → (0 ≤ v1 ∧ v1 ≤ 4) → (0 ≤ v2 ∧ v2 ≤ 5) → (0 ≤ v3 ∧ v3 ≤ 5) → (1 ≤ v4 ∧ v4 ≤ 6) → ((-1) ≤ v5 ∧ v5 ≤ 5) → (0 ≤ (v4 + ((-1) * v5))) → (r0 ∈ L' ∧ K' r0 = 200) → eW E 0 0 L' f' 149 [(0, .ref r0), (1, .int (Int32.ofInt v0)), (2, .int (Int32.ofInt v1)), (3, .int (Int32.ofInt v2)), (4, .int (Int32.ofInt v3)), (5, .int (Int32.ofInt v4)), (6, .int (Int32.ofInt v5))] [.int (Int32.ofInt 1)]) : eW E 0 0 L f 100 [(0, .ref r0), (1, .int (Int32.ofInt v0)), (2, .int (Int32.ofInt v1)), (3, .int (Int32.ofInt v2)), (4, .int (Int32.ofInt v3)), (5, .int (Int32.ofInt v4)), (6, .int (Int32.ofInt v5))] [] := by
  obtain ⟨l0, D0, cy0, ax0⟩ := X0
  have hraw : eW E 0 0 L f 100 [(0, .ref r0), (1, .int (Int32.ofInt (0 + (1 * v0 + 0)))), (2, .int (Int32.ofInt (0 + (1 * v1 + 0)))), (3, .int (Int32.ofInt (0 + (1 * v2 + 0)))), (4, .int (Int32.ofInt (0 + (1 * v3 + 0)))), (5, .int (Int32.ofInt (0 + (1 * v4 + 0)))), (6, .int (Int32.ofInt (0 + (1 * v5 + 0))))] [] := ?_
  · simpa only [Int.zero_add, Int.one_mul, Int.add_zero] using hraw
  refine seg_ok (D := D_no100) (νi := fun i => [v0, v1, v2, v3, v4, v5].getD i 0) (μi := fun i => [r0].getD i 0) k_no100 hE (mk_ok (ins := iX12_nextOrder) jX12_nextOrder fX12_ok lX12_ok kX12_ok kkX12_ok H) (by decide) rfl rfl rfl rfl hh ?_ ?_
  · refine ⟨(eok_of (fun i q hq => ?_) (fun i hi => ?_)), fa0, fa0, ?_, fa0, fa0, fa0⟩
    · match i, hq with
      | 0, hq => cases hq; exact hb0
      | 1, hq => cases hq; exact hb1
      | 2, hq => cases hq; exact hb2
      | 3, hq => cases hq; exact hb3
      | 4, hq => cases hq; exact hb4
      | 5, hq => cases hq; exact hb5
      | i + 6, hq => cases hq
    · match i, hi with
      | 0, hi => exact absurd hi (by decide)
      | 1, hi => exact absurd hi (by decide)
      | 2, hi => exact absurd hi (by decide)
      | 3, hi => exact absurd hi (by decide)
      | 4, hi => exact absurd hi (by decide)
      | 5, hi => exact absurd hi (by decide)
      | i + 6, _ => rfl
    · intro i k hk
      match i, hk with
      | 0, hk => cases hk; exact hr0
      | i + 1, hk => cases hk
  · intro q hq hst K' B' L' f' ν μ h1 h2 h3 h4 h5
    have e0 : ν 0 = v0 := h4 0 (by decide)
    have e1 : ν 1 = v1 := h4 1 (by decide)
    have e2 : ν 2 = v2 := h4 2 (by decide)
    have e3 : ν 3 = v3 := h4 3 (by decide)
    have e4 : ν 4 = v4 := h4 4 (by decide)
    have e5 : ν 5 = v5 := h4 5 (by decide)
    have d0 : μ 0 = r0 := h5 0 (by decide)
    subst e0
    subst e1
    subst e2
    subst e3
    subst e4
    subst e5
    subst d0
    replace hq : q ∈ u_no100 := hq
    unfold u_no100 at hq
    simp only [List.mem_cons, List.not_mem_nil, or_false] at hq
    rcases hq with rfl | rfl
    · have hst2 : eW E 0 0 L' f' 129 [(0, .ref (μ 0)), (1, .int (Int32.ofInt (0 + (1 * ν 0 + 0)))), (2, .int (Int32.ofInt (0 + (1 * ν 1 + 0)))), (3, .int (Int32.ofInt (0 + (1 * ν 2 + 0)))), (4, .int (Int32.ofInt (0 + (1 * ν 6 + 0)))), (5, .int (Int32.ofInt (0 + (1 * ν 4 + 0)))), (6, .int (Int32.ofInt (0 + (1 * ν 5 + 0))))] [.int (Int32.ofInt (0 + (1 * ν 7 + 0))), .int (Int32.ofInt (0 + (1 * ν 4 + 0))), .ref (μ 1)] := ?_
      · exact hst2
      try simp only [Int.zero_add, Int.one_mul, Int.add_zero]
      exact k129 K' B' L' f' (ν 6) (ν 7) (μ 1) h1 h2 (h3.1 0) (h3.1 1) (h3.1 2) (h3.1 3) (h3.1 4) (h3.1 5) (h3.1 6) (h3.1 7) (by simpa only [xv, xvT, Int.zero_add, Int.one_mul, Int.add_zero] using (h3.2.1 _ (List.mem_of_getElem? (i := 0) rfl))) (h3.2.2.2.1 0 200 rfl) (h3.2.2.2.1 1 222 rfl) (by simpa only [xv, xvT, Int.zero_add, Int.one_mul, Int.add_zero] using (mokA h1 (show (zkd 222).1 = 2 by decide) (by decide) (h3.2.2.2.2.1 _ (List.mem_of_getElem? (i := 0) rfl)))) (by simpa only [xv, xvT, Int.zero_add, Int.one_mul, Int.add_zero] using (mokA h1 (show (zkd 222).1 = 2 by decide) (by decide) (h3.2.2.2.2.1 _ (List.mem_of_getElem? (i := 1) rfl))))
    · have hst2 : eW E 0 0 L' f' 149 [(0, .ref (μ 0)), (1, .int (Int32.ofInt (0 + (1 * ν 0 + 0)))), (2, .int (Int32.ofInt (0 + (1 * ν 1 + 0)))), (3, .int (Int32.ofInt (0 + (1 * ν 2 + 0)))), (4, .int (Int32.ofInt (0 + (1 * ν 3 + 0)))), (5, .int (Int32.ofInt (0 + (1 * ν 4 + 0)))), (6, .int (Int32.ofInt (0 + (1 * ν 5 + 0))))] [.int (Int32.ofInt (1 + 0))] := ?_
      · exact hst2
      try simp only [Int.zero_add, Int.one_mul, Int.add_zero]
      exact k149 K' B' L' f'   h1 h2 (h3.1 0) (h3.1 1) (h3.1 2) (h3.1 3) (h3.1 4) (h3.1 5) (by simpa only [xv, xvT, Int.zero_add, Int.one_mul, Int.add_zero] using (h3.2.1 _ (List.mem_of_getElem? (i := 0) rfl))) (h3.2.2.2.1 0 200 rfl)

/-! no130: from 130 to [138] -/
def w_no130 : TP := ([(0, (2, 0, (0, []))), (1, (0, 0, (0, [(1, 0)]))), (2, (0, 0, (0, [(1, 1)]))), (3, (0, 0, (0, [(1, 2)]))), (4, (0, 0, (0, [(1, 3)]))), (5, (0, 0, (0, [(1, 4)]))), (6, (0, 0, (0, [(1, 5)])))], [], ([(1, 6), (0, 4), (0, 5), (0, 5), (1, 5), (1, 5)], [], [], [200], [], [], []), [], [])
def u_no130 : List (Nat × TP × EX × Nat × Nat) := [(138, ([(0, (2, 0, (0, []))), (1, (0, 0, (0, [(1, 0)]))), (2, (0, 0, (0, [(1, 1)]))), (3, (0, 0, (0, [(1, 2)]))), (4, (0, 0, (0, [(1, 3)]))), (5, (0, 0, (0, [(1, 4)]))), (6, (0, 0, (0, [(1, 5)])))], [(0, 0, (0, [(1, 3)])), (0, 0, (0, [(1, 5)])), (2, 1, (0, []))], ([(1, 6), (0, 4), (0, 5), (0, 5), (1, 5), (1, 5)], [], [], [200, 222], [], [], []), [], [(1, 2)]), ((-1), []), 0, 0)]
def D_no130 : DT := (mkD iX12_nextOrder fX12 lX12 kX12 kkX12 390 [] (w_no130, [], [], 2, 0, 0, 3) false 7 u_no130)
theorem k_no130 : chkS D_no130 4000 0 0 130 = true := by decide +kernel
theorem s_no130 {X0 : zC0} {E : zCx} (H : ∀ j, j < 390 → CMj X0 j) (hE : zOk E X0 RX12 cX12_nextOrder 7 (zrm 2 0 0)) {K : Nat → Nat} {B : Int} {L : List Nat} {f : Nat → va_E} (hh : hok X0.2.2.1 K B L f) {v0 v1 v2 v3 v4 v5 : Int} {r0 : Nat} (hb0 : 1 ≤ v0 ∧ v0 ≤ 6) (hb1 : 0 ≤ v1 ∧ v1 ≤ 4) (hb2 : 0 ≤ v2 ∧ v2 ≤ 5) (hb3 : 0 ≤ v3 ∧ v3 ≤ 5) (hb4 : 1 ≤ v4 ∧ v4 ≤ 5) (hb5 : 1 ≤ v5 ∧ v5 ≤ 5) (hr0 : r0 ∈ L ∧ K r0 = 200) (k138 : ∀ (K' : Nat → Nat) (B' : Int) (L' : List Nat) (f' : Nat → va_E) (r1 : Nat), hok X0.2.2.1 K' B' L' f' → extC [] K B L f K' B' L' f' → (1 ≤ v0 ∧ v0 ≤ 6) → (0 ≤ v1 ∧ v1 ≤ 4) → (0 ≤ v2 ∧ v2 ≤ 5) → (0 ≤ v3 ∧ v3 ≤ 5) → (1 ≤ v4 ∧ v4 ≤ 5) → (1 ≤ v5 ∧ v5 ≤ 5) → (r0 ∈ L' ∧ K' r0 = 200) → (r1 ∈ L' ∧ K' r1 = 222) → eW E 0 0 L' f' 138 [(0, .ref r0), (1, .int (Int32.ofInt v0)), (2, .int (Int32.ofInt v1)), (3, .int (Int32.ofInt v2)), (4, .int (Int32.ofInt v3)), (5, .int (Int32.ofInt v4)), (6, .int (Int32.ofInt v5))] [.int (Int32.ofInt v3), .int (Int32.ofInt v5), .ref r1]) : eW E 0 0 L f 130 [(0, .ref r0), (1, .int (Int32.ofInt v0)), (2, .int (Int32.ofInt v1)), (3, .int (Int32.ofInt v2)), (4, .int (Int32.ofInt v3)), (5, .int (Int32.ofInt v4)), (6, .int (Int32.ofInt v5))] [] := by
  obtain ⟨l0, D0, cy0, ax0⟩ := X0
  have hraw : eW E 0 0 L f 130 [(0, .ref r0), (1, .int (Int32.ofInt (0 + (1 * v0 + 0)))), (2, .int (Int32.ofInt (0 + (1 * v1 + 0)))), (3, .int (Int32.ofInt (0 + (1 * v2 + 0)))), (4, .int (Int32.ofInt (0 + (1 * v3 + 0)))), (5, .int (Int32.ofInt (0 + (1 * v4 + 0)))), (6, .int (Int32.ofInt (0 + (1 * v5 + 0))))] [] := ?_
  · simpa only [Int.zero_add, Int.one_mul, Int.add_zero] using hraw
  refine seg_ok (D := D_no130) (νi := fun i => [v0, v1, v2, v3, v4, v5].getD i 0) (μi := fun i => [r0].getD i 0) k_no130 hE (mk_ok (ins := iX12_nextOrder) jX12_nextOrder fX12_ok lX12_ok kX12_ok kkX12_ok H) (by decide) rfl rfl rfl rfl hh ?_ ?_
  · refine ⟨(eok_of (fun i q hq => ?_) (fun i hi => ?_)), fa0, fa0, ?_, fa0, fa0, fa0⟩
    · match i, hq with
      | 0, hq => cases hq; exact hb0
      | 1, hq => cases hq; exact hb1
      | 2, hq => cases hq; exact hb2
      | 3, hq => cases hq; exact hb3
      | 4, hq => cases hq; exact hb4
      | 5, hq => cases hq; exact hb5
      | i + 6, hq => cases hq
    · match i, hi with
      | 0, hi => exact absurd hi (by decide)
      | 1, hi => exact absurd hi (by decide)
      | 2, hi => exact absurd hi (by decide)
      | 3, hi => exact absurd hi (by decide)
      | 4, hi => exact absurd hi (by decide)
      | 5, hi => exact absurd hi (by decide)
      | i + 6, _ => rfl
    · intro i k hk
      match i, hk with
      | 0, hk => cases hk; exact hr0
      | i + 1, hk => cases hk
  · intro q hq hst K' B' L' f' ν μ h1 h2 h3 h4 h5
    have e0 : ν 0 = v0 := h4 0 (by decide)
    have e1 : ν 1 = v1 := h4 1 (by decide)
    have e2 : ν 2 = v2 := h4 2 (by decide)
    have e3 : ν 3 = v3 := h4 3 (by decide)
    have e4 : ν 4 = v4 := h4 4 (by decide)
    have e5 : ν 5 = v5 := h4 5 (by decide)
    have d0 : μ 0 = r0 := h5 0 (by decide)
    subst e0
    subst e1
    subst e2
    subst e3
    subst e4
    subst e5
    subst d0
    replace hq : q ∈ u_no130 := hq
    unfold u_no130 at hq
    simp only [List.mem_cons, List.not_mem_nil, or_false] at hq
    rcases hq with rfl
    · have hst2 : eW E 0 0 L' f' 138 [(0, .ref (μ 0)), (1, .int (Int32.ofInt (0 + (1 * ν 0 + 0)))), (2, .int (Int32.ofInt (0 + (1 * ν 1 + 0)))), (3, .int (Int32.ofInt (0 + (1 * ν 2 + 0)))), (4, .int (Int32.ofInt (0 + (1 * ν 3 + 0)))), (5, .int (Int32.ofInt (0 + (1 * ν 4 + 0)))), (6, .int (Int32.ofInt (0 + (1 * ν 5 + 0))))] [.int (Int32.ofInt (0 + (1 * ν 3 + 0))), .int (Int32.ofInt (0 + (1 * ν 5 + 0))), .ref (μ 1)] := ?_
      · exact hst2
      try simp only [Int.zero_add, Int.one_mul, Int.add_zero]
      exact k138 K' B' L' f'  (μ 1) h1 h2 (h3.1 0) (h3.1 1) (h3.1 2) (h3.1 3) (h3.1 4) (h3.1 5) (h3.2.2.2.1 0 200 rfl) (h3.2.2.2.1 1 222 rfl)

/-! no139: from 139 to [100] -/
def w_no139 : TP := ([(0, (2, 0, (0, []))), (1, (0, 0, (0, [(1, 0)]))), (2, (0, 0, (0, [(1, 1)]))), (3, (0, 0, (0, [(1, 2)]))), (4, (0, 0, (0, [(1, 3)]))), (5, (0, 0, (0, [(1, 4)]))), (6, (0, 0, (0, [(1, 5)])))], [], ([(1, 6), (0, 4), (0, 5), (0, 5), (1, 5), (1, 5)], [], [], [200], [], [], []), [], [])
def u_no139 : List (Nat × TP × EX × Nat × Nat) := [(100, ([(0, (2, 0, (0, []))), (1, (0, 0, (0, [(1, 0)]))), (2, (0, 0, (0, [(1, 1)]))), (3, (0, 0, (0, [(1, 2)]))), (4, (0, 0, (0, [(1, 3)]))), (5, (0, 0, (1, [(1, 4)]))), (6, (0, 0, ((-1), [(1, 5)])))], [], ([(1, 6), (0, 4), (0, 5), (0, 5), (1, 5), (1, 5)], [], [], [200], [], [], []), [], []), ((-1), []), 0, 0)]
def D_no139 : DT := (mkD iX12_nextOrder fX12 lX12 kX12 kkX12 390 [] (w_no139, [], [], 2, 0, 0, 3) false 7 u_no139)
theorem k_no139 : chkS D_no139 4000 0 0 139 = true := by decide +kernel
theorem s_no139 {X0 : zC0} {E : zCx} (H : ∀ j, j < 390 → CMj X0 j) (hE : zOk E X0 RX12 cX12_nextOrder 7 (zrm 2 0 0)) {K : Nat → Nat} {B : Int} {L : List Nat} {f : Nat → va_E} (hh : hok X0.2.2.1 K B L f) {v0 v1 v2 v3 v4 v5 : Int} {r0 : Nat} (hb0 : 1 ≤ v0 ∧ v0 ≤ 6) (hb1 : 0 ≤ v1 ∧ v1 ≤ 4) (hb2 : 0 ≤ v2 ∧ v2 ≤ 5) (hb3 : 0 ≤ v3 ∧ v3 ≤ 5) (hb4 : 1 ≤ v4 ∧ v4 ≤ 5) (hb5 : 1 ≤ v5 ∧ v5 ≤ 5) (hr0 : r0 ∈ L ∧ K r0 = 200) (k100 : ∀ (K' : Nat → Nat) (B' : Int) (L' : List Nat) (f' : Nat → va_E), hok X0.2.2.1 K' B' L' f' → extC [] K B L f K' B' L' f' → (1 ≤ v0 ∧ v0 ≤ 6) → (0 ≤ v1 ∧ v1 ≤ 4) → (0 ≤ v2 ∧ v2 ≤ 5) → (0 ≤ v3 ∧ v3 ≤ 5) → (1 ≤ v4 ∧ v4 ≤ 5) → (1 ≤ v5 ∧ v5 ≤ 5) → (r0 ∈ L' ∧ K' r0 = 200) → eW E 0 0 L' f' 100 [(0, .ref r0), (1, .int (Int32.ofInt v0)), (2, .int (Int32.ofInt v1)), (3, .int (Int32.ofInt v2)), (4, .int (Int32.ofInt v3)), (5, .int (Int32.ofInt (1 + v4))), (6, .int (Int32.ofInt ((-1) + v5)))] []) : eW E 0 0 L f 139 [(0, .ref r0), (1, .int (Int32.ofInt v0)), (2, .int (Int32.ofInt v1)), (3, .int (Int32.ofInt v2)), (4, .int (Int32.ofInt v3)), (5, .int (Int32.ofInt v4)), (6, .int (Int32.ofInt v5))] [] := by
  obtain ⟨l0, D0, cy0, ax0⟩ := X0
  have hraw : eW E 0 0 L f 139 [(0, .ref r0), (1, .int (Int32.ofInt (0 + (1 * v0 + 0)))), (2, .int (Int32.ofInt (0 + (1 * v1 + 0)))), (3, .int (Int32.ofInt (0 + (1 * v2 + 0)))), (4, .int (Int32.ofInt (0 + (1 * v3 + 0)))), (5, .int (Int32.ofInt (0 + (1 * v4 + 0)))), (6, .int (Int32.ofInt (0 + (1 * v5 + 0))))] [] := ?_
  · simpa only [Int.zero_add, Int.one_mul, Int.add_zero] using hraw
  refine seg_ok (D := D_no139) (νi := fun i => [v0, v1, v2, v3, v4, v5].getD i 0) (μi := fun i => [r0].getD i 0) k_no139 hE (mk_ok (ins := iX12_nextOrder) jX12_nextOrder fX12_ok lX12_ok kX12_ok kkX12_ok H) (by decide) rfl rfl rfl rfl hh ?_ ?_
  · refine ⟨(eok_of (fun i q hq => ?_) (fun i hi => ?_)), fa0, fa0, ?_, fa0, fa0, fa0⟩
    · match i, hq with
      | 0, hq => cases hq; exact hb0
      | 1, hq => cases hq; exact hb1
      | 2, hq => cases hq; exact hb2
      | 3, hq => cases hq; exact hb3
      | 4, hq => cases hq; exact hb4
      | 5, hq => cases hq; exact hb5
      | i + 6, hq => cases hq
    · match i, hi with
      | 0, hi => exact absurd hi (by decide)
      | 1, hi => exact absurd hi (by decide)
      | 2, hi => exact absurd hi (by decide)
      | 3, hi => exact absurd hi (by decide)
      | 4, hi => exact absurd hi (by decide)
      | 5, hi => exact absurd hi (by decide)
      | i + 6, _ => rfl
    · intro i k hk
      match i, hk with
      | 0, hk => cases hk; exact hr0
      | i + 1, hk => cases hk
  · intro q hq hst K' B' L' f' ν μ h1 h2 h3 h4 h5
    have e0 : ν 0 = v0 := h4 0 (by decide)
    have e1 : ν 1 = v1 := h4 1 (by decide)
    have e2 : ν 2 = v2 := h4 2 (by decide)
    have e3 : ν 3 = v3 := h4 3 (by decide)
    have e4 : ν 4 = v4 := h4 4 (by decide)
    have e5 : ν 5 = v5 := h4 5 (by decide)
    have d0 : μ 0 = r0 := h5 0 (by decide)
    subst e0
    subst e1
    subst e2
    subst e3
    subst e4
    subst e5
    subst d0
    replace hq : q ∈ u_no139 := hq
    unfold u_no139 at hq
    simp only [List.mem_cons, List.not_mem_nil, or_false] at hq
    rcases hq with rfl
    · have hst2 : eW E 0 0 L' f' 100 [(0, .ref (μ 0)), (1, .int (Int32.ofInt (0 + (1 * ν 0 + 0)))), (2, .int (Int32.ofInt (0 + (1 * ν 1 + 0)))), (3, .int (Int32.ofInt (0 + (1 * ν 2 + 0)))), (4, .int (Int32.ofInt (0 + (1 * ν 3 + 0)))), (5, .int (Int32.ofInt (1 + (1 * ν 4 + 0)))), (6, .int (Int32.ofInt ((-1) + (1 * ν 5 + 0))))] [] := ?_
      · exact hst2
      try simp only [Int.zero_add, Int.one_mul, Int.add_zero]
      exact k100 K' B' L' f'   h1 h2 (h3.1 0) (h3.1 1) (h3.1 2) (h3.1 3) (h3.1 4) (h3.1 5) (h3.2.2.2.1 0 200 rfl)

/-! mt0: from 0 to [3] -/
def w_mt0 : TP := ([(0, (2, 0, (0, []))), (1, (0, 0, (0, [(1, 0)]))), (2, (0, 0, (0, [(1, 1)]))), (3, (0, 0, (0, [(1, 2)])))], [], ([((-2147483648), 2147483647), ((-2147483648), 2147483647), ((-2147483648), 2147483647)], [], [], [200], [], [], []), [], [])
def u_mt0 : List (Nat × TP × EX × Nat × Nat) := [(3, ([(0, (2, 0, (0, []))), (1, (0, 0, (0, [(1, 0)]))), (2, (0, 0, (0, [(1, 1)]))), (3, (0, 0, (0, [(1, 2)])))], [(0, 0, (0, [(1, 1)])), (0, 0, (0, [(1, 0)])), (2, 0, (0, []))], ([((-2147483648), 2147483647), ((-2147483648), 2147483647), ((-2147483648), 2147483647)], [], [], [200], [], [], []), [], []), ((-1), []), 0, 0)]
def D_mt0 : DT := (mkD iX12_match fX12 lX12 kX12 kkX12 390 [] (w_mt0, [], [], 9, 0, 0, 3) false 9 u_mt0)
theorem k_mt0 : chkS D_mt0 4000 0 0 0 = true := by decide +kernel
theorem s_mt0 {X0 : zC0} {E : zCx} (H : ∀ j, j < 390 → CMj X0 j) (hE : zOk E X0 RX12 cX12_match 9 (zrm 9 0 0)) {K : Nat → Nat} {B : Int} {L : List Nat} {f : Nat → va_E} (hh : hok X0.2.2.1 K B L f) {v0 v1 v2 : Int} {r0 : Nat} (hb0 : (-2147483648) ≤ v0 ∧ v0 ≤ 2147483647) (hb1 : (-2147483648) ≤ v1 ∧ v1 ≤ 2147483647) (hb2 : (-2147483648) ≤ v2 ∧ v2 ≤ 2147483647) (hr0 : r0 ∈ L ∧ K r0 = 200) (k3 : ∀ (K' : Nat → Nat) (B' : Int) (L' : List Nat) (f' : Nat → va_E), hok X0.2.2.1 K' B' L' f' → extC [] K B L f K' B' L' f' → ((-2147483648) ≤ v0 ∧ v0 ≤ 2147483647) → ((-2147483648) ≤ v1 ∧ v1 ≤ 2147483647) → ((-2147483648) ≤ v2 ∧ v2 ≤ 2147483647) → (r0 ∈ L' ∧ K' r0 = 200) → eW E 0 0 L' f' 3 [(0, .ref r0), (1, .int (Int32.ofInt v0)), (2, .int (Int32.ofInt v1)), (3, .int (Int32.ofInt v2))] [.int (Int32.ofInt v1), .int (Int32.ofInt v0), .ref r0]) : eW E 0 0 L f 0 [(0, .ref r0), (1, .int (Int32.ofInt v0)), (2, .int (Int32.ofInt v1)), (3, .int (Int32.ofInt v2))] [] := by
  obtain ⟨l0, D0, cy0, ax0⟩ := X0
  have hraw : eW E 0 0 L f 0 [(0, .ref r0), (1, .int (Int32.ofInt (0 + (1 * v0 + 0)))), (2, .int (Int32.ofInt (0 + (1 * v1 + 0)))), (3, .int (Int32.ofInt (0 + (1 * v2 + 0))))] [] := ?_
  · simpa only [Int.zero_add, Int.one_mul, Int.add_zero] using hraw
  refine seg_ok (D := D_mt0) (νi := fun i => [v0, v1, v2].getD i 0) (μi := fun i => [r0].getD i 0) k_mt0 hE (mk_ok (ins := iX12_match) jX12_match fX12_ok lX12_ok kX12_ok kkX12_ok H) (by decide) rfl rfl rfl rfl hh ?_ ?_
  · refine ⟨(eok_of (fun i q hq => ?_) (fun i hi => ?_)), fa0, fa0, ?_, fa0, fa0, fa0⟩
    · match i, hq with
      | 0, hq => cases hq; exact hb0
      | 1, hq => cases hq; exact hb1
      | 2, hq => cases hq; exact hb2
      | i + 3, hq => cases hq
    · match i, hi with
      | 0, hi => exact absurd hi (by decide)
      | 1, hi => exact absurd hi (by decide)
      | 2, hi => exact absurd hi (by decide)
      | i + 3, _ => rfl
    · intro i k hk
      match i, hk with
      | 0, hk => cases hk; exact hr0
      | i + 1, hk => cases hk
  · intro q hq hst K' B' L' f' ν μ h1 h2 h3 h4 h5
    have e0 : ν 0 = v0 := h4 0 (by decide)
    have e1 : ν 1 = v1 := h4 1 (by decide)
    have e2 : ν 2 = v2 := h4 2 (by decide)
    have d0 : μ 0 = r0 := h5 0 (by decide)
    subst e0
    subst e1
    subst e2
    subst d0
    replace hq : q ∈ u_mt0 := hq
    unfold u_mt0 at hq
    simp only [List.mem_cons, List.not_mem_nil, or_false] at hq
    rcases hq with rfl
    · have hst2 : eW E 0 0 L' f' 3 [(0, .ref (μ 0)), (1, .int (Int32.ofInt (0 + (1 * ν 0 + 0)))), (2, .int (Int32.ofInt (0 + (1 * ν 1 + 0)))), (3, .int (Int32.ofInt (0 + (1 * ν 2 + 0))))] [.int (Int32.ofInt (0 + (1 * ν 1 + 0))), .int (Int32.ofInt (0 + (1 * ν 0 + 0))), .ref (μ 0)] := ?_
      · exact hst2
      try simp only [Int.zero_add, Int.one_mul, Int.add_zero]
      exact k3 K' B' L' f'   h1 h2 (h3.1 0) (h3.1 1) (h3.1 2) (h3.2.2.2.1 0 200 rfl)

/-! mt6: from 6 to [24, 31, 32] -/
def w_mt6 : TP := ([(0, (2, 0, (0, []))), (1, (0, 0, (0, [(1, 0)]))), (2, (0, 0, (0, [(1, 1)]))), (3, (0, 0, (0, [(1, 2)])))], [(0, 0, (0, [(1, 3)]))], ([((-2147483648), 2147483647), ((-2147483648), 2147483647), ((-2147483648), 2147483647), (0, 1)], [], [], [200], [], [], []), [], [])
def u_mt6 : List (Nat × TP × EX × Nat × Nat) := [(24, ([(0, (2, 0, (0, []))), (1, (0, 0, (0, [(1, 0)]))), (2, (0, 0, (0, [(1, 1)]))), (3, (0, 0, (0, [(1, 2)])))], [(0, 0, (0, [(1, 2)])), (0, 0, (0, [(1, 0)]))], ([((-2147483648), 2147483647), ((-2147483648), 2147483647), (0, 7), (1, 1), (1, 8)], [((-1), [((-1), 2), (1, 4)])], [], [200], [((201, (1, [])), (0, [(1, 4)]))], [], []), [(2, 201, (1, []))], []), ((-1), []), 0, 0), (31, ([(0, (2, 0, (0, []))), (1, (0, 0, (0, [(1, 0)]))), (2, (0, 0, (0, [(1, 1)]))), (3, (0, 0, (0, [(1, 2)])))], [(0, 0, ((-1), []))], ([((-2147483648), 2147483647), ((-2147483648), 2147483647), ((-2147483648), 2147483647), (0, 1)], [], [], [200], [], [], []), [], []), ((-1), []), 0, 0), (32, ([(0, (2, 0, (0, []))), (1, (0, 0, (0, [(1, 0)]))), (2, (0, 0, (0, [(1, 1)]))), (3, (0, 0, (0, [(1, 2)])))], [], ([((-2147483648), 2147483647), ((-2147483648), 2147483647), ((-1), (-1)), (1, 1)], [], [], [200], [], [], []), [], []), ((-1), []), 0, 0)]
def D_mt6 : DT := (mkD iX12_match fX12 lX12 kX12 kkX12 390 [(16, [331])] (w_mt6, [], [], 9, 0, 0, 3) false 9 u_mt6)
theorem k_mt6 : chkS D_mt6 4000 0 0 6 = true := by decide +kernel
theorem s_mt6 {X0 : zC0} {E : zCx} (H : ∀ j, j < 390 → CMj X0 j) (hE : zOk E X0 RX12 cX12_match 9 (zrm 9 0 0)) {K : Nat → Nat} {B : Int} {L : List Nat} {f : Nat → va_E} (hh : hok X0.2.2.1 K B L f) {v0 v1 v2 v3 : Int} {r0 : Nat} (hb0 : (-2147483648) ≤ v0 ∧ v0 ≤ 2147483647) (hb1 : (-2147483648) ≤ v1 ∧ v1 ≤ 2147483647) (hb2 : (-2147483648) ≤ v2 ∧ v2 ≤ 2147483647) (hb3 : 0 ≤ v3 ∧ v3 ≤ 1) (hr0 : r0 ∈ L ∧ K r0 = 200) (k24 : ∀ (K' : Nat → Nat) (B' : Int) (L' : List Nat) (f' : Nat → va_E) (v4 : Int), hok X0.2.2.1 K' B' L' f' → extC [] K B L f K' B' L' f' → ((-2147483648) ≤ v0 ∧ v0 ≤ 2147483647) → ((-2147483648) ≤ v1 ∧ v1 ≤ 2147483647) → (0 ≤ v2 ∧ v2 ≤ 7) → (1 ≤ v3 ∧ v3 ≤ 1) → (1 ≤ v4 ∧ v4 ≤ 8) → (0 ≤ ((-1) + ((-1) * v2 + v4))) → (r0 ∈ L' ∧ K' r0 = 200) → (∀ b ∈ L', K' b = 201 → (0 : Int) ≤ 1 ∧ gi (f' b) ((1 : Int)).toNat = v4) → eW E 0 0 L' f' 24 [(0, .ref r0), (1, .int (Int32.ofInt v0)), (2, .int (Int32.ofInt v1)), (3, .int (Int32.ofInt v2))] [.int (Int32.ofInt v2), .int (Int32.ofInt v0)]) (k31 : ∀ (K' : Nat → Nat) (B' : Int) (L' : List Nat) (f' : Nat → va_E), hok X0.2.2.1 K' B' L' f' → extC [] K B L f K' B' L' f' → ((-2147483648) ≤ v0 ∧ v0 ≤ 2147483647) → ((-2147483648) ≤ v1 ∧ v1 ≤ 2147483647) → ((-2147483648) ≤ v2 ∧ v2 ≤ 2147483647) → (0 ≤ v3 ∧ v3 ≤ 1) → (r0 ∈ L' ∧ K' r0 = 200) → eW E 0 0 L' f' 31 [(0, .ref r0), (1, .int (Int32.ofInt v0)), (2, .int (Int32.ofInt v1)), (3, .int (Int32.ofInt v2))] [.int (Int32.ofInt (-1))]) (k32 : ∀ (K' : Nat → Nat) (B' : Int) (L' : List Nat) (f' : Nat → va_E), hok X0.2.2.1 K' B' L' f' → extC [] K B L f K' B' L' f' → ((-2147483648) ≤ v0 ∧ v0 ≤ 2147483647) → ((-2147483648) ≤ v1 ∧ v1 ≤ 2147483647) → ((-1) ≤ v2 ∧ v2 ≤ (-1)) → (1 ≤ v3 ∧ v3 ≤ 1) → (r0 ∈ L' ∧ K' r0 = 200) → eW E 0 0 L' f' 32 [(0, .ref r0), (1, .int (Int32.ofInt v0)), (2, .int (Int32.ofInt v1)), (3, .int (Int32.ofInt v2))] []) : eW E 0 0 L f 6 [(0, .ref r0), (1, .int (Int32.ofInt v0)), (2, .int (Int32.ofInt v1)), (3, .int (Int32.ofInt v2))] [.int (Int32.ofInt v3)] := by
  obtain ⟨l0, D0, cy0, ax0⟩ := X0
  have hraw : eW E 0 0 L f 6 [(0, .ref r0), (1, .int (Int32.ofInt (0 + (1 * v0 + 0)))), (2, .int (Int32.ofInt (0 + (1 * v1 + 0)))), (3, .int (Int32.ofInt (0 + (1 * v2 + 0))))] [.int (Int32.ofInt (0 + (1 * v3 + 0)))] := ?_
  · simpa only [Int.zero_add, Int.one_mul, Int.add_zero] using hraw
  refine seg_ok (D := D_mt6) (νi := fun i => [v0, v1, v2, v3].getD i 0) (μi := fun i => [r0].getD i 0) k_mt6 hE (mk_ok (ins := iX12_match) jX12_match fX12_ok lX12_ok kX12_ok kkX12_ok H) (by decide) rfl rfl rfl rfl hh ?_ ?_
  · refine ⟨(eok_of (fun i q hq => ?_) (fun i hi => ?_)), fa0, fa0, ?_, fa0, fa0, fa0⟩
    · match i, hq with
      | 0, hq => cases hq; exact hb0
      | 1, hq => cases hq; exact hb1
      | 2, hq => cases hq; exact hb2
      | 3, hq => cases hq; exact hb3
      | i + 4, hq => cases hq
    · match i, hi with
      | 0, hi => exact absurd hi (by decide)
      | 1, hi => exact absurd hi (by decide)
      | 2, hi => exact absurd hi (by decide)
      | 3, hi => exact absurd hi (by decide)
      | i + 4, _ => rfl
    · intro i k hk
      match i, hk with
      | 0, hk => cases hk; exact hr0
      | i + 1, hk => cases hk
  · intro q hq hst K' B' L' f' ν μ h1 h2 h3 h4 h5
    have e0 : ν 0 = v0 := h4 0 (by decide)
    have e1 : ν 1 = v1 := h4 1 (by decide)
    have e2 : ν 2 = v2 := h4 2 (by decide)
    have e3 : ν 3 = v3 := h4 3 (by decide)
    have d0 : μ 0 = r0 := h5 0 (by decide)
    subst e0
    subst e1
    subst e2
    subst e3
    subst d0
    replace hq : q ∈ u_mt6 := hq
    unfold u_mt6 at hq
    simp only [List.mem_cons, List.not_mem_nil, or_false] at hq
    rcases hq with rfl | rfl | rfl
    · have hst2 : eW E 0 0 L' f' 24 [(0, .ref (μ 0)), (1, .int (Int32.ofInt (0 + (1 * ν 0 + 0)))), (2, .int (Int32.ofInt (0 + (1 * ν 1 + 0)))), (3, .int (Int32.ofInt (0 + (1 * ν 2 + 0))))] [.int (Int32.ofInt (0 + (1 * ν 2 + 0))), .int (Int32.ofInt (0 + (1 * ν 0 + 0)))] := ?_
      · exact hst2
      try simp only [Int.zero_add, Int.one_mul, Int.add_zero]
      exact k24 K' B' L' f' (ν 4)  h1 h2 (h3.1 0) (h3.1 1) (h3.1 2) (h3.1 3) (h3.1 4) (by simpa only [xv, xvT, Int.zero_add, Int.one_mul, Int.add_zero] using (h3.2.1 _ (List.mem_of_getElem? (i := 0) rfl))) (h3.2.2.2.1 0 200 rfl) (by simpa only [xv, xvT, Int.zero_add, Int.one_mul, Int.add_zero] using (mokA h1 (show (zkd 201).1 = 2 by decide) (by decide) (h3.2.2.2.2.1 _ (List.mem_of_getElem? (i := 0) rfl))))
    · have hst2 : eW E 0 0 L' f' 31 [(0, .ref (μ 0)), (1, .int (Int32.ofInt (0 + (1 * ν 0 + 0)))), (2, .int (Int32.ofInt (0 + (1 * ν 1 + 0)))), (3, .int (Int32.ofInt (0 + (1 * ν 2 + 0))))] [.int (Int32.ofInt ((-1) + 0))] := ?_
      · exact hst2
      try simp only [Int.zero_add, Int.one_mul, Int.add_zero]
      exact k31 K' B' L' f'   h1 h2 (h3.1 0) (h3.1 1) (h3.1 2) (h3.1 3) (h3.2.2.2.1 0 200 rfl)
    · have hst2 : eW E 0 0 L' f' 32 [(0, .ref (μ 0)), (1, .int (Int32.ofInt (0 + (1 * ν 0 + 0)))), (2, .int (Int32.ofInt (0 + (1 * ν 1 + 0)))), (3, .int (Int32.ofInt (0 + (1 * ν 2 + 0))))] [] := ?_
      · exact hst2
      try simp only [Int.zero_add, Int.one_mul, Int.add_zero]
      exact k32 K' B' L' f'   h1 h2 (h3.1 0) (h3.1 1) (h3.1 2) (h3.1 3) (h3.2.2.2.1 0 200 rfl)

/-! mt27: from 27 to [31, 32] -/
def w_mt27 : TP := ([(0, (2, 0, (0, []))), (1, (0, 0, (0, [(1, 0)]))), (2, (0, 0, (0, [(1, 1)]))), (3, (0, 0, (0, [(1, 2)])))], [(0, 0, (0, [(1, 3)]))], ([((-2147483648), 2147483647), ((-2147483648), 2147483647), ((-2147483648), 2147483647), (0, 1)], [], [], [200], [], [], []), [], [])
def u_mt27 : List (Nat × TP × EX × Nat × Nat) := [(31, ([(0, (2, 0, (0, []))), (1, (0, 0, (0, [(1, 0)]))), (2, (0, 0, (0, [(1, 1)]))), (3, (0, 0, (0, [(1, 2)])))], [(0, 0, ((-1), []))], ([((-2147483648), 2147483647), ((-2147483648), 2147483647), ((-2147483648), 2147483647), (0, 0)], [], [], [200], [], [], []), [], []), ((-1), []), 0, 0), (32, ([(0, (2, 0, (0, []))), (1, (0, 0, (0, [(1, 0)]))), (2, (0, 0, (0, [(1, 1)]))), (3, (0, 0, (0, [(1, 2)])))], [], ([((-2147483648), 2147483647), ((-2147483648), 2147483647), ((-2147483648), 2147483647), (1, 1)], [], [], [200], [], [], []), [], []), ((-1), []), 0, 0)]
def D_mt27 : DT := (mkD iX12_match fX12 lX12 kX12 kkX12 390 [] (w_mt27, [], [], 9, 0, 0, 3) false 9 u_mt27)
theorem k_mt27 : chkS D_mt27 4000 0 0 27 = true := by decide +kernel
theorem s_mt27 {X0 : zC0} {E : zCx} (H : ∀ j, j < 390 → CMj X0 j) (hE : zOk E X0 RX12 cX12_match 9 (zrm 9 0 0)) {K : Nat → Nat} {B : Int} {L : List Nat} {f : Nat → va_E} (hh : hok X0.2.2.1 K B L f) {v0 v1 v2 v3 : Int} {r0 : Nat} (hb0 : (-2147483648) ≤ v0 ∧ v0 ≤ 2147483647) (hb1 : (-2147483648) ≤ v1 ∧ v1 ≤ 2147483647) (hb2 : (-2147483648) ≤ v2 ∧ v2 ≤ 2147483647) (hb3 : 0 ≤ v3 ∧ v3 ≤ 1) (hr0 : r0 ∈ L ∧ K r0 = 200) (k31 : ∀ (K' : Nat → Nat) (B' : Int) (L' : List Nat) (f' : Nat → va_E), hok X0.2.2.1 K' B' L' f' → extC [] K B L f K' B' L' f' → ((-2147483648) ≤ v0 ∧ v0 ≤ 2147483647) → ((-2147483648) ≤ v1 ∧ v1 ≤ 2147483647) → ((-2147483648) ≤ v2 ∧ v2 ≤ 2147483647) → (0 ≤ v3 ∧ v3 ≤ 0) → (r0 ∈ L' ∧ K' r0 = 200) → eW E 0 0 L' f' 31 [(0, .ref r0), (1, .int (Int32.ofInt v0)), (2, .int (Int32.ofInt v1)), (3, .int (Int32.ofInt v2))] [.int (Int32.ofInt (-1))]) (k32 : ∀ (K' : Nat → Nat) (B' : Int) (L' : List Nat) (f' : Nat → va_E), hok X0.2.2.1 K' B' L' f' → extC [] K B L f K' B' L' f' → ((-2147483648) ≤ v0 ∧ v0 ≤ 2147483647) → ((-2147483648) ≤ v1 ∧ v1 ≤ 2147483647) → ((-2147483648) ≤ v2 ∧ v2 ≤ 2147483647) → (1 ≤ v3 ∧ v3 ≤ 1) → (r0 ∈ L' ∧ K' r0 = 200) → eW E 0 0 L' f' 32 [(0, .ref r0), (1, .int (Int32.ofInt v0)), (2, .int (Int32.ofInt v1)), (3, .int (Int32.ofInt v2))] []) : eW E 0 0 L f 27 [(0, .ref r0), (1, .int (Int32.ofInt v0)), (2, .int (Int32.ofInt v1)), (3, .int (Int32.ofInt v2))] [.int (Int32.ofInt v3)] := by
  obtain ⟨l0, D0, cy0, ax0⟩ := X0
  have hraw : eW E 0 0 L f 27 [(0, .ref r0), (1, .int (Int32.ofInt (0 + (1 * v0 + 0)))), (2, .int (Int32.ofInt (0 + (1 * v1 + 0)))), (3, .int (Int32.ofInt (0 + (1 * v2 + 0))))] [.int (Int32.ofInt (0 + (1 * v3 + 0)))] := ?_
  · simpa only [Int.zero_add, Int.one_mul, Int.add_zero] using hraw
  refine seg_ok (D := D_mt27) (νi := fun i => [v0, v1, v2, v3].getD i 0) (μi := fun i => [r0].getD i 0) k_mt27 hE (mk_ok (ins := iX12_match) jX12_match fX12_ok lX12_ok kX12_ok kkX12_ok H) (by decide) rfl rfl rfl rfl hh ?_ ?_
  · refine ⟨(eok_of (fun i q hq => ?_) (fun i hi => ?_)), fa0, fa0, ?_, fa0, fa0, fa0⟩
    · match i, hq with
      | 0, hq => cases hq; exact hb0
      | 1, hq => cases hq; exact hb1
      | 2, hq => cases hq; exact hb2
      | 3, hq => cases hq; exact hb3
      | i + 4, hq => cases hq
    · match i, hi with
      | 0, hi => exact absurd hi (by decide)
      | 1, hi => exact absurd hi (by decide)
      | 2, hi => exact absurd hi (by decide)
      | 3, hi => exact absurd hi (by decide)
      | i + 4, _ => rfl
    · intro i k hk
      match i, hk with
      | 0, hk => cases hk; exact hr0
      | i + 1, hk => cases hk
  · intro q hq hst K' B' L' f' ν μ h1 h2 h3 h4 h5
    have e0 : ν 0 = v0 := h4 0 (by decide)
    have e1 : ν 1 = v1 := h4 1 (by decide)
    have e2 : ν 2 = v2 := h4 2 (by decide)
    have e3 : ν 3 = v3 := h4 3 (by decide)
    have d0 : μ 0 = r0 := h5 0 (by decide)
    subst e0
    subst e1
    subst e2
    subst e3
    subst d0
    replace hq : q ∈ u_mt27 := hq
    unfold u_mt27 at hq
    simp only [List.mem_cons, List.not_mem_nil, or_false] at hq
    rcases hq with rfl | rfl
    · have hst2 : eW E 0 0 L' f' 31 [(0, .ref (μ 0)), (1, .int (Int32.ofInt (0 + (1 * ν 0 + 0)))), (2, .int (Int32.ofInt (0 + (1 * ν 1 + 0)))), (3, .int (Int32.ofInt (0 + (1 * ν 2 + 0))))] [.int (Int32.ofInt ((-1) + 0))] := ?_
      · exact hst2
      try simp only [Int.zero_add, Int.one_mul, Int.add_zero]
      exact k31 K' B' L' f'   h1 h2 (h3.1 0) (h3.1 1) (h3.1 2) (h3.1 3) (h3.2.2.2.1 0 200 rfl)
    · have hst2 : eW E 0 0 L' f' 32 [(0, .ref (μ 0)), (1, .int (Int32.ofInt (0 + (1 * ν 0 + 0)))), (2, .int (Int32.ofInt (0 + (1 * ν 1 + 0)))), (3, .int (Int32.ofInt (0 + (1 * ν 2 + 0))))] [] := ?_
      · exact hst2
      try simp only [Int.zero_add, Int.one_mul, Int.add_zero]
      exact k32 K' B' L' f'   h1 h2 (h3.1 0) (h3.1 1) (h3.1 2) (h3.1 3) (h3.2.2.2.1 0 200 rfl)

/-! mt32: from 32 to [33] -/
def w_mt32 : TP := ([(0, (2, 0, (0, []))), (1, (0, 0, (0, [(1, 0)]))), (2, (0, 0, (0, [(1, 1)]))), (3, (0, 0, (0, [(1, 2)])))], [], ([((-2147483648), 2147483647), ((-2147483648), 2147483647), ((-2147483648), 2147483647)], [], [], [200], [], [], []), [], [])
def u_mt32 : List (Nat × TP × EX × Nat × Nat) := [(33, ([(0, (2, 0, (0, []))), (1, (0, 0, (0, [(1, 0)]))), (2, (0, 0, (0, [(1, 1)]))), (3, (0, 0, (0, [(1, 2)])))], [(0, 0, (0, [(1, 0)]))], ([((-2147483648), 2147483647), ((-2147483648), 2147483647), ((-2147483648), 2147483647)], [], [], [200], [], [], []), [], []), ((-1), []), 0, 0)]
def D_mt32 : DT := (mkD iX12_match fX12 lX12 kX12 kkX12 390 [] (w_mt32, [], [], 9, 0, 0, 3) false 9 u_mt32)
theorem k_mt32 : chkS D_mt32 4000 0 0 32 = true := by decide +kernel
theorem s_mt32 {X0 : zC0} {E : zCx} (H : ∀ j, j < 390 → CMj X0 j) (hE : zOk E X0 RX12 cX12_match 9 (zrm 9 0 0)) {K : Nat → Nat} {B : Int} {L : List Nat} {f : Nat → va_E} (hh : hok X0.2.2.1 K B L f) {v0 v1 v2 : Int} {r0 : Nat} (hb0 : (-2147483648) ≤ v0 ∧ v0 ≤ 2147483647) (hb1 : (-2147483648) ≤ v1 ∧ v1 ≤ 2147483647) (hb2 : (-2147483648) ≤ v2 ∧ v2 ≤ 2147483647) (hr0 : r0 ∈ L ∧ K r0 = 200) (k33 : ∀ (K' : Nat → Nat) (B' : Int) (L' : List Nat) (f' : Nat → va_E), hok X0.2.2.1 K' B' L' f' → extC [] K B L f K' B' L' f' → ((-2147483648) ≤ v0 ∧ v0 ≤ 2147483647) → ((-2147483648) ≤ v1 ∧ v1 ≤ 2147483647) → ((-2147483648) ≤ v2 ∧ v2 ≤ 2147483647) → (r0 ∈ L' ∧ K' r0 = 200) → eW E 0 0 L' f' 33 [(0, .ref r0), (1, .int (Int32.ofInt v0)), (2, .int (Int32.ofInt v1)), (3, .int (Int32.ofInt v2))] [.int (Int32.ofInt v0)]) : eW E 0 0 L f 32 [(0, .ref r0), (1, .int (Int32.ofInt v0)), (2, .int (Int32.ofInt v1)), (3, .int (Int32.ofInt v2))] [] := by
  obtain ⟨l0, D0, cy0, ax0⟩ := X0
  have hraw : eW E 0 0 L f 32 [(0, .ref r0), (1, .int (Int32.ofInt (0 + (1 * v0 + 0)))), (2, .int (Int32.ofInt (0 + (1 * v1 + 0)))), (3, .int (Int32.ofInt (0 + (1 * v2 + 0))))] [] := ?_
  · simpa only [Int.zero_add, Int.one_mul, Int.add_zero] using hraw
  refine seg_ok (D := D_mt32) (νi := fun i => [v0, v1, v2].getD i 0) (μi := fun i => [r0].getD i 0) k_mt32 hE (mk_ok (ins := iX12_match) jX12_match fX12_ok lX12_ok kX12_ok kkX12_ok H) (by decide) rfl rfl rfl rfl hh ?_ ?_
  · refine ⟨(eok_of (fun i q hq => ?_) (fun i hi => ?_)), fa0, fa0, ?_, fa0, fa0, fa0⟩
    · match i, hq with
      | 0, hq => cases hq; exact hb0
      | 1, hq => cases hq; exact hb1
      | 2, hq => cases hq; exact hb2
      | i + 3, hq => cases hq
    · match i, hi with
      | 0, hi => exact absurd hi (by decide)
      | 1, hi => exact absurd hi (by decide)
      | 2, hi => exact absurd hi (by decide)
      | i + 3, _ => rfl
    · intro i k hk
      match i, hk with
      | 0, hk => cases hk; exact hr0
      | i + 1, hk => cases hk
  · intro q hq hst K' B' L' f' ν μ h1 h2 h3 h4 h5
    have e0 : ν 0 = v0 := h4 0 (by decide)
    have e1 : ν 1 = v1 := h4 1 (by decide)
    have e2 : ν 2 = v2 := h4 2 (by decide)
    have d0 : μ 0 = r0 := h5 0 (by decide)
    subst e0
    subst e1
    subst e2
    subst d0
    replace hq : q ∈ u_mt32 := hq
    unfold u_mt32 at hq
    simp only [List.mem_cons, List.not_mem_nil, or_false] at hq
    rcases hq with rfl
    · have hst2 : eW E 0 0 L' f' 33 [(0, .ref (μ 0)), (1, .int (Int32.ofInt (0 + (1 * ν 0 + 0)))), (2, .int (Int32.ofInt (0 + (1 * ν 1 + 0)))), (3, .int (Int32.ofInt (0 + (1 * ν 2 + 0))))] [.int (Int32.ofInt (0 + (1 * ν 0 + 0)))] := ?_
      · exact hst2
      try simp only [Int.zero_add, Int.one_mul, Int.add_zero]
      exact k33 K' B' L' f'   h1 h2 (h3.1 0) (h3.1 1) (h3.1 2) (h3.2.2.2.1 0 200 rfl)

/-! mt36: from 36 to [50] -/
def w_mt36 : TP := ([(0, (2, 0, (0, []))), (1, (0, 0, (0, [(1, 0)]))), (2, (0, 0, (0, [(1, 1)]))), (3, (0, 0, (0, [(1, 2)])))], [(0, 0, (0, [(1, 3)]))], ([((-2147483648), 2147483647), ((-2147483648), 2147483647), ((-2147483648), 2147483647), (1, 6)], [], [], [200], [], [], []), [], [])
def u_mt36 : List (Nat × TP × EX × Nat × Nat) := [(50, ([(0, (2, 0, (0, []))), (1, (0, 0, (0, [(1, 0)]))), (2, (0, 0, (0, [(1, 1)]))), (3, (0, 0, (0, [(1, 2)]))), (4, (0, 0, (0, [(1, 3)]))), (5, (0, 0, ((-1), []))), (6, (0, 0, (1, [])))], [], ([((-2147483648), 2147483647), ((-2147483648), 2147483647), ((-2147483648), 2147483647), (1, 6), (0, 999)], [], [], [200], [((201, (2, [])), (0, [(1, 4)])), ((200, (36, [])), (0, [(1, 4)])), ((200, (24, [])), ((-1), []))], [], []), [(2, 201, (2, []))], []), ((-1), []), 0, 0)]
def D_mt36 : DT := (mkD iX12_match fX12 lX12 kX12 kkX12 390 [(41, [352])] (w_mt36, [(200, 23), (200, 24), (200, 30), (200, 31), (200, 35), (200, 36), (207, 0), (208, 0), (209, 0), (210, 0), (211, 0), (212, 0), (213, 0), (214, 0), (215, 0), (221, 0)], [], 9, 0, 0, 3) false 9 u_mt36)
theorem k_mt36 : chkS D_mt36 4000 0 0 36 = true := by decide +kernel
theorem s_mt36 {X0 : zC0} {E : zCx} (H : ∀ j, j < 390 → CMj X0 j) (hE : zOk E X0 RX12 cX12_match 9 (zrm 9 0 0)) {K : Nat → Nat} {B : Int} {L : List Nat} {f : Nat → va_E} (hh : hok X0.2.2.1 K B L f) {v0 v1 v2 v3 : Int} {r0 : Nat} (hb0 : (-2147483648) ≤ v0 ∧ v0 ≤ 2147483647) (hb1 : (-2147483648) ≤ v1 ∧ v1 ≤ 2147483647) (hb2 : (-2147483648) ≤ v2 ∧ v2 ≤ 2147483647) (hb3 : 1 ≤ v3 ∧ v3 ≤ 6) (hr0 : r0 ∈ L ∧ K r0 = 200) (k50 : ∀ (K' : Nat → Nat) (B' : Int) (L' : List Nat) (f' : Nat → va_E) (v4 : Int), hok X0.2.2.1 K' B' L' f' → extC [(200, 23), (200, 24), (200, 30), (200, 31), (200, 35), (200, 36), (207, 0), (208, 0), (209, 0), (210, 0), (211, 0), (212, 0), (213, 0), (214, 0), (215, 0), (221, 0)] K B L f K' B' L' f' → ((-2147483648) ≤ v0 ∧ v0 ≤ 2147483647) → ((-2147483648) ≤ v1 ∧ v1 ≤ 2147483647) → ((-2147483648) ≤ v2 ∧ v2 ≤ 2147483647) → (1 ≤ v3 ∧ v3 ≤ 6) → (0 ≤ v4 ∧ v4 ≤ 999) → (r0 ∈ L' ∧ K' r0 = 200) → (∀ b ∈ L', K' b = 201 → (0 : Int) ≤ 2 ∧ gi (f' b) ((2 : Int)).toNat = v4) → (∀ b ∈ L', K' b = 200 → gi (f' b) 36 = v4) → (∀ b ∈ L', K' b = 200 → gi (f' b) 24 = (-1)) → eW E 0 0 L' f' 50 [(0, .ref r0), (1, .int (Int32.ofInt v0)), (2, .int (Int32.ofInt v1)), (3, .int (Int32.ofInt v2)), (4, .int (Int32.ofInt v3)), (5, .int (Int32.ofInt (-1))), (6, .int (Int32.ofInt 1))] []) : eW E 0 0 L f 36 [(0, .ref r0), (1, .int (Int32.ofInt v0)), (2, .int (Int32.ofInt v1)), (3, .int (Int32.ofInt v2))] [.int (Int32.ofInt v3)] := by
  obtain ⟨l0, D0, cy0, ax0⟩ := X0
  have hraw : eW E 0 0 L f 36 [(0, .ref r0), (1, .int (Int32.ofInt (0 + (1 * v0 + 0)))), (2, .int (Int32.ofInt (0 + (1 * v1 + 0)))), (3, .int (Int32.ofInt (0 + (1 * v2 + 0))))] [.int (Int32.ofInt (0 + (1 * v3 + 0)))] := ?_
  · simpa only [Int.zero_add, Int.one_mul, Int.add_zero] using hraw
  refine seg_ok (D := D_mt36) (νi := fun i => [v0, v1, v2, v3].getD i 0) (μi := fun i => [r0].getD i 0) k_mt36 hE (mk_ok (ins := iX12_match) jX12_match fX12_ok lX12_ok kX12_ok kkX12_ok H) (by decide) rfl rfl rfl rfl hh ?_ ?_
  · refine ⟨(eok_of (fun i q hq => ?_) (fun i hi => ?_)), fa0, fa0, ?_, fa0, fa0, fa0⟩
    · match i, hq with
      | 0, hq => cases hq; exact hb0
      | 1, hq => cases hq; exact hb1
      | 2, hq => cases hq; exact hb2
      | 3, hq => cases hq; exact hb3
      | i + 4, hq => cases hq
    · match i, hi with
      | 0, hi => exact absurd hi (by decide)
      | 1, hi => exact absurd hi (by decide)
      | 2, hi => exact absurd hi (by decide)
      | 3, hi => exact absurd hi (by decide)
      | i + 4, _ => rfl
    · intro i k hk
      match i, hk with
      | 0, hk => cases hk; exact hr0
      | i + 1, hk => cases hk
  · intro q hq hst K' B' L' f' ν μ h1 h2 h3 h4 h5
    have e0 : ν 0 = v0 := h4 0 (by decide)
    have e1 : ν 1 = v1 := h4 1 (by decide)
    have e2 : ν 2 = v2 := h4 2 (by decide)
    have e3 : ν 3 = v3 := h4 3 (by decide)
    have d0 : μ 0 = r0 := h5 0 (by decide)
    subst e0
    subst e1
    subst e2
    subst e3
    subst d0
    replace hq : q ∈ u_mt36 := hq
    unfold u_mt36 at hq
    simp only [List.mem_cons, List.not_mem_nil, or_false] at hq
    rcases hq with rfl
    · have hst2 : eW E 0 0 L' f' 50 [(0, .ref (μ 0)), (1, .int (Int32.ofInt (0 + (1 * ν 0 + 0)))), (2, .int (Int32.ofInt (0 + (1 * ν 1 + 0)))), (3, .int (Int32.ofInt (0 + (1 * ν 2 + 0)))), (4, .int (Int32.ofInt (0 + (1 * ν 3 + 0)))), (5, .int (Int32.ofInt ((-1) + 0))), (6, .int (Int32.ofInt (1 + 0)))] [] := ?_
      · exact hst2
      try simp only [Int.zero_add, Int.one_mul, Int.add_zero]
      exact k50 K' B' L' f' (ν 4)  h1 h2 (h3.1 0) (h3.1 1) (h3.1 2) (h3.1 3) (h3.1 4) (h3.2.2.2.1 0 200 rfl) (by simpa only [xv, xvT, Int.zero_add, Int.one_mul, Int.add_zero] using (mokA h1 (show (zkd 201).1 = 2 by decide) (by decide) (h3.2.2.2.2.1 _ (List.mem_of_getElem? (i := 0) rfl)))) (by simpa only [xv, xvT, Int.zero_add, Int.one_mul, Int.add_zero] using (mokF h1 (show (zkd 200).1 = 1 by decide) (j := 36) rfl (by decide) (h3.2.2.2.2.1 _ (List.mem_of_getElem? (i := 1) rfl)))) (by simpa only [xv, xvT, Int.zero_add, Int.one_mul, Int.add_zero] using (mokF h1 (show (zkd 200).1 = 1 by decide) (j := 24) rfl (by decide) (h3.2.2.2.2.1 _ (List.mem_of_getElem? (i := 2) rfl))))

/-! mt50: from 50 to [61, 161] -/
def w_mt50 : TP := ([(0, (2, 0, (0, []))), (1, (0, 0, (0, [(1, 0)]))), (2, (0, 0, (0, [(1, 1)]))), (3, (0, 0, (0, [(1, 2)]))), (4, (0, 0, (0, [(1, 3)]))), (5, (0, 0, (0, [(1, 4)]))), (6, (0, 0, (0, [(1, 5)])))], [], ([((-2147483648), 2147483647), ((-2147483648), 2147483647), ((-2147483648), 2147483647), (1, 6), ((-2147483648), 2147483647), (0, 1)], [], [], [200], [], [], []), [], [])
def u_mt50 : List (Nat × TP × EX × Nat × Nat) := [(61, ([(0, (2, 0, (0, []))), (1, (0, 0, (0, [(1, 0)]))), (2, (0, 0, (0, [(1, 1)]))), (3, (0, 0, (0, [(1, 2)]))), (4, (0, 0, (0, [(1, 3)]))), (5, (0, 0, (0, [(1, 4)]))), (6, (0, 0, (0, [(1, 5)]))), (7, (0, 0, (0, []))), (8, (0, 0, (0, [])))], [], ([((-2147483648), 2147483647), ((-2147483648), 2147483647), ((-2147483648), 2147483647), (1, 6), ((-2147483648), 2147483647), (1, 1)], [], [], [200], [], [], []), [], []), ((-1), []), 0, 0), (161, ([(0, (2, 0, (0, []))), (1, (0, 0, (0, [(1, 0)]))), (2, (0, 0, (0, [(1, 1)]))), (3, (0, 0, (0, [(1, 2)]))), (4, (0, 0, (0, [(1, 3)]))), (5, (0, 0, (0, [(1, 4)]))), (6, (0, 0, (0, [(1, 5)])))], [], ([((-2147483648), 2147483647), ((-2147483648), 2147483647), ((-2147483648), 2147483647), (1, 6), ((-2147483648), 2147483647), (0, 0)], [], [], [200], [], [], []), [], []), ((-1), []), 0, 0)]
def D_mt50 : DT := (mkD iX12_match fX12 lX12 kX12 kkX12 390 [] (w_mt50, [], [], 9, 0, 0, 3) false 9 u_mt50)
theorem k_mt50 : chkS D_mt50 4000 0 0 50 = true := by decide +kernel
theorem s_mt50 {X0 : zC0} {E : zCx} (H : ∀ j, j < 390 → CMj X0 j) (hE : zOk E X0 RX12 cX12_match 9 (zrm 9 0 0)) {K : Nat → Nat} {B : Int} {L : List Nat} {f : Nat → va_E} (hh : hok X0.2.2.1 K B L f) {v0 v1 v2 v3 v4 v5 : Int} {r0 : Nat} (hb0 : (-2147483648) ≤ v0 ∧ v0 ≤ 2147483647) (hb1 : (-2147483648) ≤ v1 ∧ v1 ≤ 2147483647) (hb2 : (-2147483648) ≤ v2 ∧ v2 ≤ 2147483647) (hb3 : 1 ≤ v3 ∧ v3 ≤ 6) (hb4 : (-2147483648) ≤ v4 ∧ v4 ≤ 2147483647) (hb5 : 0 ≤ v5 ∧ v5 ≤ 1) (hr0 : r0 ∈ L ∧ K r0 = 200) (k61 : ∀ (K' : Nat → Nat) (B' : Int) (L' : List Nat) (f' : Nat → va_E), hok X0.2.2.1 K' B' L' f' → extC [] K B L f K' B' L' f' → ((-2147483648) ≤ v0 ∧ v0 ≤ 2147483647) → ((-2147483648) ≤ v1 ∧ v1 ≤ 2147483647) → ((-2147483648) ≤ v2 ∧ v2 ≤ 2147483647) → (1 ≤ v3 ∧ v3 ≤ 6) → ((-2147483648) ≤ v4 ∧ v4 ≤ 2147483647) → (1 ≤ v5 ∧ v5 ≤ 1) → (r0 ∈ L' ∧ K' r0 = 200) → eW E 0 0 L' f' 61 [(0, .ref r0), (1, .int (Int32.ofInt v0)), (2, .int (Int32.ofInt v1)), (3, .int (Int32.ofInt v2)), (4, .int (Int32.ofInt v3)), (5, .int (Int32.ofInt v4)), (6, .int (Int32.ofInt v5)), (7, .int (Int32.ofInt 0)), (8, .int (Int32.ofInt 0))] []) (k161 : ∀ (K' : Nat → Nat) (B' : Int) (L' : List Nat) (f' : Nat → va_E), hok X0.2.2.1 K' B' L' f' → extC [] K B L f K' B' L' f' → ((-2147483648) ≤ v0 ∧ v0 ≤ 2147483647) → ((-2147483648) ≤ v1 ∧ v1 ≤ 2147483647) → ((-2147483648) ≤ v2 ∧ v2 ≤ 2147483647) → (1 ≤ v3 ∧ v3 ≤ 6) → ((-2147483648) ≤ v4 ∧ v4 ≤ 2147483647) → (0 ≤ v5 ∧ v5 ≤ 0) → (r0 ∈ L' ∧ K' r0 = 200) → eW E 0 0 L' f' 161 [(0, .ref r0), (1, .int (Int32.ofInt v0)), (2, .int (Int32.ofInt v1)), (3, .int (Int32.ofInt v2)), (4, .int (Int32.ofInt v3)), (5, .int (Int32.ofInt v4)), (6, .int (Int32.ofInt v5))] []) : eW E 0 0 L f 50 [(0, .ref r0), (1, .int (Int32.ofInt v0)), (2, .int (Int32.ofInt v1)), (3, .int (Int32.ofInt v2)), (4, .int (Int32.ofInt v3)), (5, .int (Int32.ofInt v4)), (6, .int (Int32.ofInt v5))] [] := by
  obtain ⟨l0, D0, cy0, ax0⟩ := X0
  have hraw : eW E 0 0 L f 50 [(0, .ref r0), (1, .int (Int32.ofInt (0 + (1 * v0 + 0)))), (2, .int (Int32.ofInt (0 + (1 * v1 + 0)))), (3, .int (Int32.ofInt (0 + (1 * v2 + 0)))), (4, .int (Int32.ofInt (0 + (1 * v3 + 0)))), (5, .int (Int32.ofInt (0 + (1 * v4 + 0)))), (6, .int (Int32.ofInt (0 + (1 * v5 + 0))))] [] := ?_
  · simpa only [Int.zero_add, Int.one_mul, Int.add_zero] using hraw
  refine seg_ok (D := D_mt50) (νi := fun i => [v0, v1, v2, v3, v4, v5].getD i 0) (μi := fun i => [r0].getD i 0) k_mt50 hE (mk_ok (ins := iX12_match) jX12_match fX12_ok lX12_ok kX12_ok kkX12_ok H) (by decide) rfl rfl rfl rfl hh ?_ ?_
  · refine ⟨(eok_of (fun i q hq => ?_) (fun i hi => ?_)), fa0, fa0, ?_, fa0, fa0, fa0⟩
    · match i, hq with
      | 0, hq => cases hq; exact hb0
      | 1, hq => cases hq; exact hb1
      | 2, hq => cases hq; exact hb2
      | 3, hq => cases hq; exact hb3
      | 4, hq => cases hq; exact hb4
      | 5, hq => cases hq; exact hb5
      | i + 6, hq => cases hq
    · match i, hi with
      | 0, hi => exact absurd hi (by decide)
      | 1, hi => exact absurd hi (by decide)
      | 2, hi => exact absurd hi (by decide)
      | 3, hi => exact absurd hi (by decide)
      | 4, hi => exact absurd hi (by decide)
      | 5, hi => exact absurd hi (by decide)
      | i + 6, _ => rfl
    · intro i k hk
      match i, hk with
      | 0, hk => cases hk; exact hr0
      | i + 1, hk => cases hk
  · intro q hq hst K' B' L' f' ν μ h1 h2 h3 h4 h5
    have e0 : ν 0 = v0 := h4 0 (by decide)
    have e1 : ν 1 = v1 := h4 1 (by decide)
    have e2 : ν 2 = v2 := h4 2 (by decide)
    have e3 : ν 3 = v3 := h4 3 (by decide)
    have e4 : ν 4 = v4 := h4 4 (by decide)
    have e5 : ν 5 = v5 := h4 5 (by decide)
    have d0 : μ 0 = r0 := h5 0 (by decide)
    subst e0
    subst e1
    subst e2
    subst e3
    subst e4
    subst e5
    subst d0
    replace hq : q ∈ u_mt50 := hq
    unfold u_mt50 at hq
    simp only [List.mem_cons, List.not_mem_nil, or_false] at hq
    rcases hq with rfl | rfl
    · have hst2 : eW E 0 0 L' f' 61 [(0, .ref (μ 0)), (1, .int (Int32.ofInt (0 + (1 * ν 0 + 0)))), (2, .int (Int32.ofInt (0 + (1 * ν 1 + 0)))), (3, .int (Int32.ofInt (0 + (1 * ν 2 + 0)))), (4, .int (Int32.ofInt (0 + (1 * ν 3 + 0)))), (5, .int (Int32.ofInt (0 + (1 * ν 4 + 0)))), (6, .int (Int32.ofInt (0 + (1 * ν 5 + 0)))), (7, .int (Int32.ofInt (0 + 0))), (8, .int (Int32.ofInt (0 + 0)))] [] := ?_
      · exact hst2
      try simp only [Int.zero_add, Int.one_mul, Int.add_zero]
      exact k61 K' B' L' f'   h1 h2 (h3.1 0) (h3.1 1) (h3.1 2) (h3.1 3) (h3.1 4) (h3.1 5) (h3.2.2.2.1 0 200 rfl)
    · have hst2 : eW E 0 0 L' f' 161 [(0, .ref (μ 0)), (1, .int (Int32.ofInt (0 + (1 * ν 0 + 0)))), (2, .int (Int32.ofInt (0 + (1 * ν 1 + 0)))), (3, .int (Int32.ofInt (0 + (1 * ν 2 + 0)))), (4, .int (Int32.ofInt (0 + (1 * ν 3 + 0)))), (5, .int (Int32.ofInt (0 + (1 * ν 4 + 0)))), (6, .int (Int32.ofInt (0 + (1 * ν 5 + 0))))] [] := ?_
      · exact hst2
      try simp only [Int.zero_add, Int.one_mul, Int.add_zero]
      exact k161 K' B' L' f'   h1 h2 (h3.1 0) (h3.1 1) (h3.1 2) (h3.1 3) (h3.1 4) (h3.1 5) (h3.2.2.2.1 0 200 rfl)

/-! mt61: from 61 to [97] -/
def w_mt61 : TP := ([(0, (2, 0, (0, []))), (1, (0, 0, (0, [(1, 0)]))), (2, (0, 0, (0, [(1, 1)]))), (3, (0, 0, (0, [(1, 2)]))), (4, (0, 0, (0, [(1, 3)]))), (5, (0, 0, (0, [(1, 4)]))), (6, (0, 0, (0, [(1, 5)]))), (7, (0, 0, (0, [(1, 6)]))), (8, (0, 0, (0, [(1, 7)])))], [], ([((-2147483648), 2147483647), ((-2147483648), 2147483647), ((-2147483648), 2147483647), (1, 6), ((-2147483648), 2147483647), (0, 1), ((-2147483648), 2147483647), (0, 6)], [], [], [200], [], [], []), [], [])
def u_mt61 : List (Nat × TP × EX × Nat × Nat) := [(61, ([(0, (2, 0, (0, []))), (1, (0, 0, (0, [(1, 0)]))), (2, (0, 0, (0, [(1, 1)]))), (3, (0, 0, (0, [(1, 2)]))), (4, (0, 0, (0, [(1, 3)]))), (5, (0, 0, (0, [(1, 4)]))), (6, (0, 0, (0, [(1, 5)]))), (7, (0, 0, (0, [(1, 8)]))), (8, (0, 0, (0, [(1, 10)])))], [], ([((-2147483648), 2147483647), ((-2147483648), 2147483647), ((-2147483648), 2147483647), (1, 6), ((-2147483648), 2147483647), (0, 1), ((-2147483648), 2147483647), (0, 5), ((-2147483648), 2147483647), (0, 5), (1, 6)], [((-1), [((-1), 7), (1, 3)]), (0, [(1, 3), ((-1), 10)]), (0, [(1, 10), ((-1), 7)]), ((-1), [(1, 10), ((-1), 7)])], [], [200], [((222, (0, [(1, 7)])), (0, [(1, 9)]))], [], []), [(0, 7, (0, [])), (2, 222, (0, [(1, 7)])), (0, 8, (0, []))], []), (6, [((-1), 10)]), 0, 0), (97, ([(0, (2, 0, (0, []))), (1, (0, 0, (0, [(1, 0)]))), (2, (0, 0, (0, [(1, 1)]))), (3, (0, 0, (0, [(1, 2)]))), (4, (0, 0, (0, [(1, 3)]))), (5, (0, 0, (0, [(1, 4)]))), (6, (0, 0, (0, [(1, 5)]))), (7, (0, 0, (0, [(1, 8)]))), (8, (0, 0, (0, [(1, 9)])))], [], ([((-2147483648), 2147483647), ((-2147483648), 2147483647), ((-2147483648), 2147483647), (1, 6), ((-2147483648), 2147483647), (0, 1), ((-2147483648), 2147483647), (0, 6), ((-2147483648), 2147483647), (1, 6)], [(0, [(1, 9), ((-1), 3)]), (0, [(1, 9), ((-1), 7)])], [], [200], [], [], []), [(0, 7, (0, [])), (0, 8, (0, []))], []), ((-1), []), 0, 0)]
def D_mt61 : DT := (mkD iX12_match fX12 lX12 kX12 kkX12 390 [] (w_mt61, [], [], 9, 0, 0, 3) false 9 u_mt61)
theorem k_mt61 : chkS D_mt61 4000 0 0 61 = true := by decide +kernel
theorem s_mt61 {X0 : zC0} {E : zCx} (H : ∀ j, j < 390 → CMj X0 j) (hE : zOk E X0 RX12 cX12_match 9 (zrm 9 0 0)) {K : Nat → Nat} {B : Int} {L : List Nat} {f : Nat → va_E} (hh : hok X0.2.2.1 K B L f) {v0 v1 v2 v3 v4 v5 v6 v7 : Int} {r0 : Nat} (hb0 : (-2147483648) ≤ v0 ∧ v0 ≤ 2147483647) (hb1 : (-2147483648) ≤ v1 ∧ v1 ≤ 2147483647) (hb2 : (-2147483648) ≤ v2 ∧ v2 ≤ 2147483647) (hb3 : 1 ≤ v3 ∧ v3 ≤ 6) (hb4 : (-2147483648) ≤ v4 ∧ v4 ≤ 2147483647) (hb5 : 0 ≤ v5 ∧ v5 ≤ 1) (hb6 : (-2147483648) ≤ v6 ∧ v6 ≤ 2147483647) (hb7 : 0 ≤ v7 ∧ v7 ≤ 6) (hr0 : r0 ∈ L ∧ K r0 = 200) (k97 : ∀ (K' : Nat → Nat) (B' : Int) (L' : List Nat) (f' : Nat → va_E) (v8 v9 : Int), hok X0.2.2.1 K' B' L' f' → extC [] K B L f K' B' L' f' → ((-2147483648) ≤ v0 ∧ v0 ≤ 2147483647) → ((-2147483648) ≤ v1 ∧ v1 ≤ 2147483647) → ((-2147483648) ≤ v2 ∧ v2 ≤ 2147483647) → (1 ≤ v3 ∧ v3 ≤ 6) → ((-2147483648) ≤ v4 ∧ v4 ≤ 2147483647) → (0 ≤ v5 ∧ v5 ≤ 1) → ((-2147483648) ≤ v6 ∧ v6 ≤ 2147483647) → (0 ≤ v7 ∧ v7 ≤ 6) → ((-2147483648) ≤ v8 ∧ v8 ≤ 2147483647) → (1 ≤ v9 ∧ v9 ≤ 6) → (0 ≤ (v9 + ((-1) * v3))) → (0 ≤ (v9 + ((-1) * v7))) → (r0 ∈ L' ∧ K' r0 = 200) → eW E 0 0 L' f' 97 [(0, .ref r0), (1, .int (Int32.ofInt v0)), (2, .int (Int32.ofInt v1)), (3, .int (Int32.ofInt v2)), (4, .int (Int32.ofInt v3)), (5, .int (Int32.ofInt v4)), (6, .int (Int32.ofInt v5)), (7, .int (Int32.ofInt v8)), (8, .int (Int32.ofInt v9))] []) : eW E 0 0 L f 61 [(0, .ref r0), (1, .int (Int32.ofInt v0)), (2, .int (Int32.ofInt v1)), (3, .int (Int32.ofInt v2)), (4, .int (Int32.ofInt v3)), (5, .int (Int32.ofInt v4)), (6, .int (Int32.ofInt v5)), (7, .int (Int32.ofInt v6)), (8, .int (Int32.ofInt v7))] [] := by
  obtain ⟨l0, D0, cy0, ax0⟩ := X0
  have hraw : eW E 0 0 L f 61 [(0, .ref r0), (1, .int (Int32.ofInt (0 + (1 * v0 + 0)))), (2, .int (Int32.ofInt (0 + (1 * v1 + 0)))), (3, .int (Int32.ofInt (0 + (1 * v2 + 0)))), (4, .int (Int32.ofInt (0 + (1 * v3 + 0)))), (5, .int (Int32.ofInt (0 + (1 * v4 + 0)))), (6, .int (Int32.ofInt (0 + (1 * v5 + 0)))), (7, .int (Int32.ofInt (0 + (1 * v6 + 0)))), (8, .int (Int32.ofInt (0 + (1 * v7 + 0))))] [] := ?_
  · simpa only [Int.zero_add, Int.one_mul, Int.add_zero] using hraw
  refine seg_ok (D := D_mt61) (νi := fun i => [v0, v1, v2, v3, v4, v5, v6, v7].getD i 0) (μi := fun i => [r0].getD i 0) k_mt61 hE (mk_ok (ins := iX12_match) jX12_match fX12_ok lX12_ok kX12_ok kkX12_ok H) (by decide) rfl rfl rfl rfl hh ?_ ?_
  · refine ⟨(eok_of (fun i q hq => ?_) (fun i hi => ?_)), fa0, fa0, ?_, fa0, fa0, fa0⟩
    · match i, hq with
      | 0, hq => cases hq; exact hb0
      | 1, hq => cases hq; exact hb1
      | 2, hq => cases hq; exact hb2
      | 3, hq => cases hq; exact hb3
      | 4, hq => cases hq; exact hb4
      | 5, hq => cases hq; exact hb5
      | 6, hq => cases hq; exact hb6
      | 7, hq => cases hq; exact hb7
      | i + 8, hq => cases hq
    · match i, hi with
      | 0, hi => exact absurd hi (by decide)
      | 1, hi => exact absurd hi (by decide)
      | 2, hi => exact absurd hi (by decide)
      | 3, hi => exact absurd hi (by decide)
      | 4, hi => exact absurd hi (by decide)
      | 5, hi => exact absurd hi (by decide)
      | 6, hi => exact absurd hi (by decide)
      | 7, hi => exact absurd hi (by decide)
      | i + 8, _ => rfl
    · intro i k hk
      match i, hk with
      | 0, hk => cases hk; exact hr0
      | i + 1, hk => cases hk
  · intro q hq hst K' B' L' f' ν μ h1 h2 h3 h4 h5
    have e0 : ν 0 = v0 := h4 0 (by decide)
    have e1 : ν 1 = v1 := h4 1 (by decide)
    have e2 : ν 2 = v2 := h4 2 (by decide)
    have e3 : ν 3 = v3 := h4 3 (by decide)
    have e4 : ν 4 = v4 := h4 4 (by decide)
    have e5 : ν 5 = v5 := h4 5 (by decide)
    have e6 : ν 6 = v6 := h4 6 (by decide)
    have e7 : ν 7 = v7 := h4 7 (by decide)
    have d0 : μ 0 = r0 := h5 0 (by decide)
    subst e0
    subst e1
    subst e2
    subst e3
    subst e4
    subst e5
    subst e6
    subst e7
    subst d0
    replace hq : q ∈ u_mt61 := hq
    unfold u_mt61 at hq
    simp only [List.mem_cons, List.not_mem_nil, or_false] at hq
    rcases hq with rfl | rfl
    · exact absurd hst (by decide)
    · have hst2 : eW E 0 0 L' f' 97 [(0, .ref (μ 0)), (1, .int (Int32.ofInt (0 + (1 * ν 0 + 0)))), (2, .int (Int32.ofInt (0 + (1 * ν 1 + 0)))), (3, .int (Int32.ofInt (0 + (1 * ν 2 + 0)))), (4, .int (Int32.ofInt (0 + (1 * ν 3 + 0)))), (5, .int (Int32.ofInt (0 + (1 * ν 4 + 0)))), (6, .int (Int32.ofInt (0 + (1 * ν 5 + 0)))), (7, .int (Int32.ofInt (0 + (1 * ν 8 + 0)))), (8, .int (Int32.ofInt (0 + (1 * ν 9 + 0))))] [] := ?_
      · exact hst2
      try simp only [Int.zero_add, Int.one_mul, Int.add_zero]
      exact k97 K' B' L' f' (ν 8) (ν 9)  h1 h2 (h3.1 0) (h3.1 1) (h3.1 2) (h3.1 3) (h3.1 4) (h3.1 5) (h3.1 6) (h3.1 7) (h3.1 8) (h3.1 9) (by simpa only [xv, xvT, Int.zero_add, Int.one_mul, Int.add_zero] using (h3.2.1 _ (List.mem_of_getElem? (i := 0) rfl))) (by simpa only [xv, xvT, Int.zero_add, Int.one_mul, Int.add_zero] using (h3.2.1 _ (List.mem_of_getElem? (i := 1) rfl))) (h3.2.2.2.1 0 200 rfl)

/-! mt97: from 97 to [134] -/
def w_mt97 : TP := ([(0, (2, 0, (0, []))), (1, (0, 0, (0, [(1, 0)]))), (2, (0, 0, (0, [(1, 1)]))), (3, (0, 0, (0, [(1, 2)]))), (4, (0, 0, (0, [(1, 3)]))), (5, (0, 0, (0, [(1, 4)]))), (6, (0, 0, (0, [(1, 5)]))), (7, (0, 0, (0, [(1, 6)]))), (8, (0, 0, (0, [(1, 7)])))], [], ([((-2147483648), 2147483647), ((-2147483648), 2147483647), ((-2147483648), 2147483647), (1, 6), ((-2147483648), 2147483647), (0, 1), ((-2147483648), 2147483647), (0, 6)], [], [], [200], [], [], []), [], [])
def u_mt97 : List (Nat × TP × EX × Nat × Nat) := [(100, ([(0, (2, 0, (0, []))), (1, (0, 0, (0, [(1, 0)]))), (2, (0, 0, (0, [(1, 1)]))), (3, (0, 0, (0, [(1, 2)]))), (4, (0, 0, (0, [(1, 3)]))), (5, (0, 0, (0, [(1, 4)]))), (6, (0, 0, (0, [(1, 5)]))), (7, (0, 0, (0, [(1, 6)]))), (8, (0, 0, (0, [(1, 8)])))], [], ([((-2147483648), 2147483647), ((-2147483648), 2147483647), ((-2147483648), 2147483647), (1, 6), ((-2147483648), 2147483647), (0, 1), ((-2147483648), 2147483647), (0, 6), (0, 6)], [(0, [(1, 3), ((-1), 8)])], [], [200], [], [], []), [(0, 8, (0, []))], []), (6, [((-1), 8)]), 0, 0), (134, ([(0, (2, 0, (0, []))), (1, (0, 0, (0, [(1, 0)]))), (2, (0, 0, (0, [(1, 1)]))), (3, (0, 0, (0, [(1, 2)]))), (4, (0, 0, (0, [(1, 3)]))), (5, (0, 0, (0, [(1, 4)]))), (6, (0, 0, (0, [(1, 5)]))), (7, (0, 0, (0, [(1, 6)]))), (8, (0, 0, (0, [(1, 8)])))], [], ([((-2147483648), 2147483647), ((-2147483648), 2147483647), ((-2147483648), 2147483647), (1, 6), ((-2147483648), 2147483647), (0, 1), ((-2147483648), 2147483647), (0, 6), (0, 6)], [(0, [((-1), 8), (1, 3)])], [], [200], [], [], []), [(0, 8, (0, []))], []), ((-1), []), 0, 0)]
def D_mt97 : DT := (mkD iX12_match fX12 lX12 kX12 kkX12 390 [] (w_mt97, [(223, 0)], [], 9, 0, 0, 3) false 9 u_mt97)
theorem k_mt97 : chkS D_mt97 4000 0 0 97 = true := by decide +kernel
theorem s_mt97 {X0 : zC0} {E : zCx} (H : ∀ j, j < 390 → CMj X0 j) (hE : zOk E X0 RX12 cX12_match 9 (zrm 9 0 0)) {K : Nat → Nat} {B : Int} {L : List Nat} {f : Nat → va_E} (hh : hok X0.2.2.1 K B L f) {v0 v1 v2 v3 v4 v5 v6 v7 : Int} {r0 : Nat} (hb0 : (-2147483648) ≤ v0 ∧ v0 ≤ 2147483647) (hb1 : (-2147483648) ≤ v1 ∧ v1 ≤ 2147483647) (hb2 : (-2147483648) ≤ v2 ∧ v2 ≤ 2147483647) (hb3 : 1 ≤ v3 ∧ v3 ≤ 6) (hb4 : (-2147483648) ≤ v4 ∧ v4 ≤ 2147483647) (hb5 : 0 ≤ v5 ∧ v5 ≤ 1) (hb6 : (-2147483648) ≤ v6 ∧ v6 ≤ 2147483647) (hb7 : 0 ≤ v7 ∧ v7 ≤ 6) (hr0 : r0 ∈ L ∧ K r0 = 200) (k134 : ∀ (K' : Nat → Nat) (B' : Int) (L' : List Nat) (f' : Nat → va_E) (v8 : Int), hok X0.2.2.1 K' B' L' f' → extC [(223, 0)] K B L f K' B' L' f' → ((-2147483648) ≤ v0 ∧ v0 ≤ 2147483647) → ((-2147483648) ≤ v1 ∧ v1 ≤ 2147483647) → ((-2147483648) ≤ v2 ∧ v2 ≤ 2147483647) → (1 ≤ v3 ∧ v3 ≤ 6) → ((-2147483648) ≤ v4 ∧ v4 ≤ 2147483647) → (0 ≤ v5 ∧ v5 ≤ 1) → ((-2147483648) ≤ v6 ∧ v6 ≤ 2147483647) → (0 ≤ v7 ∧ v7 ≤ 6) → (0 ≤ v8 ∧ v8 ≤ 6) → (0 ≤ ((-1) * v8 + v3)) → (r0 ∈ L' ∧ K' r0 = 200) → eW E 0 0 L' f' 134 [(0, .ref r0), (1, .int (Int32.ofInt v0)), (2, .int (Int32.ofInt v1)), (3, .int (Int32.ofInt v2)), (4, .int (Int32.ofInt v3)), (5, .int (Int32.ofInt v4)), (6, .int (Int32.ofInt v5)), (7, .int (Int32.ofInt v6)), (8, .int (Int32.ofInt v8))] []) : eW E 0 0 L f 97 [(0, .ref r0), (1, .int (Int32.ofInt v0)), (2, .int (Int32.ofInt v1)), (3, .int (Int32.ofInt v2)), (4, .int (Int32.ofInt v3)), (5, .int (Int32.ofInt v4)), (6, .int (Int32.ofInt v5)), (7, .int (Int32.ofInt v6)), (8, .int (Int32.ofInt v7))] [] := by
  obtain ⟨l0, D0, cy0, ax0⟩ := X0
  have hraw : eW E 0 0 L f 97 [(0, .ref r0), (1, .int (Int32.ofInt (0 + (1 * v0 + 0)))), (2, .int (Int32.ofInt (0 + (1 * v1 + 0)))), (3, .int (Int32.ofInt (0 + (1 * v2 + 0)))), (4, .int (Int32.ofInt (0 + (1 * v3 + 0)))), (5, .int (Int32.ofInt (0 + (1 * v4 + 0)))), (6, .int (Int32.ofInt (0 + (1 * v5 + 0)))), (7, .int (Int32.ofInt (0 + (1 * v6 + 0)))), (8, .int (Int32.ofInt (0 + (1 * v7 + 0))))] [] := ?_
  · simpa only [Int.zero_add, Int.one_mul, Int.add_zero] using hraw
  refine seg_ok (D := D_mt97) (νi := fun i => [v0, v1, v2, v3, v4, v5, v6, v7].getD i 0) (μi := fun i => [r0].getD i 0) k_mt97 hE (mk_ok (ins := iX12_match) jX12_match fX12_ok lX12_ok kX12_ok kkX12_ok H) (by decide) rfl rfl rfl rfl hh ?_ ?_
  · refine ⟨(eok_of (fun i q hq => ?_) (fun i hi => ?_)), fa0, fa0, ?_, fa0, fa0, fa0⟩
    · match i, hq with
      | 0, hq => cases hq; exact hb0
      | 1, hq => cases hq; exact hb1
      | 2, hq => cases hq; exact hb2
      | 3, hq => cases hq; exact hb3
      | 4, hq => cases hq; exact hb4
      | 5, hq => cases hq; exact hb5
      | 6, hq => cases hq; exact hb6
      | 7, hq => cases hq; exact hb7
      | i + 8, hq => cases hq
    · match i, hi with
      | 0, hi => exact absurd hi (by decide)
      | 1, hi => exact absurd hi (by decide)
      | 2, hi => exact absurd hi (by decide)
      | 3, hi => exact absurd hi (by decide)
      | 4, hi => exact absurd hi (by decide)
      | 5, hi => exact absurd hi (by decide)
      | 6, hi => exact absurd hi (by decide)
      | 7, hi => exact absurd hi (by decide)
      | i + 8, _ => rfl
    · intro i k hk
      match i, hk with
      | 0, hk => cases hk; exact hr0
      | i + 1, hk => cases hk
  · intro q hq hst K' B' L' f' ν μ h1 h2 h3 h4 h5
    have e0 : ν 0 = v0 := h4 0 (by decide)
    have e1 : ν 1 = v1 := h4 1 (by decide)
    have e2 : ν 2 = v2 := h4 2 (by decide)
    have e3 : ν 3 = v3 := h4 3 (by decide)
    have e4 : ν 4 = v4 := h4 4 (by decide)
    have e5 : ν 5 = v5 := h4 5 (by decide)
    have e6 : ν 6 = v6 := h4 6 (by decide)
    have e7 : ν 7 = v7 := h4 7 (by decide)
    have d0 : μ 0 = r0 := h5 0 (by decide)
    subst e0
    subst e1
    subst e2
    subst e3
    subst e4
    subst e5
    subst e6
    subst e7
    subst d0
    replace hq : q ∈ u_mt97 := hq
    unfold u_mt97 at hq
    simp only [List.mem_cons, List.not_mem_nil, or_false] at hq
    rcases hq with rfl | rfl
    · exact absurd hst (by decide)
    · have hst2 : eW E 0 0 L' f' 134 [(0, .ref (μ 0)), (1, .int (Int32.ofInt (0 + (1 * ν 0 + 0)))), (2, .int (Int32.ofInt (0 + (1 * ν 1 + 0)))), (3, .int (Int32.ofInt (0 + (1 * ν 2 + 0)))), (4, .int (Int32.ofInt (0 + (1 * ν 3 + 0)))), (5, .int (Int32.ofInt (0 + (1 * ν 4 + 0)))), (6, .int (Int32.ofInt (0 + (1 * ν 5 + 0)))), (7, .int (Int32.ofInt (0 + (1 * ν 6 + 0)))), (8, .int (Int32.ofInt (0 + (1 * ν 8 + 0))))] [] := ?_
      · exact hst2
      try simp only [Int.zero_add, Int.one_mul, Int.add_zero]
      exact k134 K' B' L' f' (ν 8)  h1 h2 (h3.1 0) (h3.1 1) (h3.1 2) (h3.1 3) (h3.1 4) (h3.1 5) (h3.1 6) (h3.1 7) (h3.1 8) (by simpa only [xv, xvT, Int.zero_add, Int.one_mul, Int.add_zero] using (h3.2.1 _ (List.mem_of_getElem? (i := 0) rfl))) (h3.2.2.2.1 0 200 rfl)
