/-! ms0: from 0 to [4] -/
def w_ms0 : TP := ([(0, (2, 0, (0, []))), (1, (0, 0, (0, [(1, 0)])))], [], ([((-2147483648), 2147483647)], [], [], [62], [], [], []), [], [])
def u_ms0 : List (Nat × TP × EX × Nat × Nat) := [(4, ([(0, (2, 0, (0, []))), (1, (0, 0, (0, [(1, 0)]))), (2, (0, 0, (0, []))), (3, (0, 0, (0, [])))], [], ([((-2147483648), 2147483647)], [], [], [62], [], [], []), [], []), ((-1), []), 0, 0)]
def D_ms0 : DT := (mkD iX1_misses fX1 lX1 kX1 kkX1 427 [] (w_ms0, [], [], 1, 0, 0, 3) false 4 u_ms0)
theorem k_ms0 : chkS D_ms0 4000 0 0 0 = true := by decide +kernel
theorem s_ms0 {X0 : zC0} {E : zCx} (H : ∀ j, j < 427 → CMj X0 j) (hE : zOk E X0 RX1 cX1_misses 4 (zrm 1 0 0)) {K : Nat → Nat} {B : Int} {L : List Nat} {f : Nat → va_E} (hh : hok X0.2.2.1 K B L f) {v0 : Int} {r0 : Nat} (hb0 : (-2147483648) ≤ v0 ∧ v0 ≤ 2147483647) (hr0 : r0 ∈ L ∧ K r0 = 62) (k4 : ∀ (K' : Nat → Nat) (B' : Int) (L' : List Nat) (f' : Nat → va_E), hok X0.2.2.1 K' B' L' f' → extC [] K B L f K' B' L' f' → ((-2147483648) ≤ v0 ∧ v0 ≤ 2147483647) → (r0 ∈ L' ∧ K' r0 = 62) → eW E 0 0 L' f' 4 [(0, .ref r0), (1, .int (Int32.ofInt v0)), (2, .int (Int32.ofInt 0)), (3, .int (Int32.ofInt 0))] []) : eW E 0 0 L f 0 [(0, .ref r0), (1, .int (Int32.ofInt v0))] [] := by
  obtain ⟨l0, D0, cy0, ax0⟩ := X0
  have hraw : eW E 0 0 L f 0 [(0, .ref r0), (1, .int (Int32.ofInt (0 + (1 * v0 + 0))))] [] := ?_
  · simpa only [Int.zero_add, Int.one_mul, Int.add_zero] using hraw
  refine seg_ok (D := D_ms0) (νi := fun i => [v0].getD i 0) (μi := fun i => [r0].getD i 0) k_ms0 hE (mk_ok (ins := iX1_misses) jX1_misses fX1_ok lX1_ok kX1_ok kkX1_ok H) (by decide) rfl rfl rfl rfl hh ?_ ?_
  · refine ⟨(eok_of (fun i q hq => ?_) (fun i hi => ?_)), fa0, fa0, ?_, fa0, fa0, fa0⟩
    · match i, hq with
      | 0, hq => cases hq; exact hb0
      | i + 1, hq => cases hq
    · match i, hi with
      | 0, hi => exact absurd hi (by decide)
      | i + 1, _ => rfl
    · intro i k hk
      match i, hk with
      | 0, hk => cases hk; exact hr0
      | i + 1, hk => cases hk
  · intro q hq hst K' B' L' f' ν μ h1 h2 h3 h4 h5
    have e0 : ν 0 = v0 := h4 0 (by decide)
    have d0 : μ 0 = r0 := h5 0 (by decide)
    subst e0
    subst d0
    replace hq : q ∈ u_ms0 := hq
    unfold u_ms0 at hq
    simp only [List.mem_cons, List.not_mem_nil, or_false] at hq
    rcases hq with rfl
    · have hst2 : eW E 0 0 L' f' 4 [(0, .ref (μ 0)), (1, .int (Int32.ofInt (0 + (1 * ν 0 + 0)))), (2, .int (Int32.ofInt (0 + 0))), (3, .int (Int32.ofInt (0 + 0)))] [] := ?_
      · exact hst2
      try simp only [Int.zero_add, Int.one_mul, Int.add_zero]
      exact k4 K' B' L' f'   h1 h2 (h3.1 0) (h3.2.2.2.1 0 62 rfl)

/-! ms4: from 4 to [18, 45] -/
def w_ms4 : TP := ([(0, (2, 0, (0, []))), (1, (0, 0, (0, [(1, 0)]))), (2, (0, 0, (0, [(1, 1)]))), (3, (0, 0, (0, [(1, 2)])))], [], ([((-2147483648), 2147483647), (0, 12), (0, 12)], [], [], [62], [], [], []), [], [])
def u_ms4 : List (Nat × TP × EX × Nat × Nat) := [(18, ([(0, (2, 0, (0, []))), (1, (0, 0, (0, [(1, 0)]))), (2, (0, 0, (0, [(1, 1)]))), (3, (0, 0, (0, [(1, 2)])))], [(0, 0, (0, [(1, 2)])), (2, 1, (0, [])), (0, 0, (0, [(1, 1)]))], ([((-2147483648), 2147483647), (0, 12), (0, 11), (1, 12)], [((-1), [((-1), 2), (1, 3)])], [], [62, 67], [((62, (1, [])), (0, [(1, 3)]))], [], []), [(2, 62, (1, []))], [(1, 1)]), ((-1), []), 0, 0), (45, ([(0, (2, 0, (0, []))), (1, (0, 0, (0, [(1, 0)]))), (2, (0, 0, (0, [(1, 1)]))), (3, (0, 0, (0, [(1, 2)])))], [], ([((-2147483648), 2147483647), (0, 12), (0, 12), (0, 12)], [(0, [(1, 2), ((-1), 3)])], [], [62], [((62, (1, [])), (0, [(1, 3)]))], [], []), [(2, 62, (1, []))], []), ((-1), []), 0, 0)]
def D_ms4 : DT := (mkD iX1_misses fX1 lX1 kX1 kkX1 427 [] (w_ms4, [], [], 1, 0, 0, 3) false 4 u_ms4)
theorem k_ms4 : chkS D_ms4 4000 0 0 4 = true := by decide +kernel
theorem s_ms4 {X0 : zC0} {E : zCx} (H : ∀ j, j < 427 → CMj X0 j) (hE : zOk E X0 RX1 cX1_misses 4 (zrm 1 0 0)) {K : Nat → Nat} {B : Int} {L : List Nat} {f : Nat → va_E} (hh : hok X0.2.2.1 K B L f) {v0 v1 v2 : Int} {r0 : Nat} (hb0 : (-2147483648) ≤ v0 ∧ v0 ≤ 2147483647) (hb1 : 0 ≤ v1 ∧ v1 ≤ 12) (hb2 : 0 ≤ v2 ∧ v2 ≤ 12) (hr0 : r0 ∈ L ∧ K r0 = 62) (k18 : ∀ (K' : Nat → Nat) (B' : Int) (L' : List Nat) (f' : Nat → va_E) (v3 : Int) (r1 : Nat), hok X0.2.2.1 K' B' L' f' → extC [] K B L f K' B' L' f' → ((-2147483648) ≤ v0 ∧ v0 ≤ 2147483647) → (0 ≤ v1 ∧ v1 ≤ 12) → (0 ≤ v2 ∧ v2 ≤ 11) → (1 ≤ v3 ∧ v3 ≤ 12) → (0 ≤ ((-1) + ((-1) * v2 + v3))) → (r0 ∈ L' ∧ K' r0 = 62) → (r1 ∈ L' ∧ K' r1 = 67) → (∀ b ∈ L', K' b = 62 → gi (f' b) 1 = v3) → eW E 0 0 L' f' 18 [(0, .ref r0), (1, .int (Int32.ofInt v0)), (2, .int (Int32.ofInt v1)), (3, .int (Int32.ofInt v2))] [.int (Int32.ofInt v2), .ref r1, .int (Int32.ofInt v1)]) (k45 : ∀ (K' : Nat → Nat) (B' : Int) (L' : List Nat) (f' : Nat → va_E) (v3 : Int), hok X0.2.2.1 K' B' L' f' → extC [] K B L f K' B' L' f' → ((-2147483648) ≤ v0 ∧ v0 ≤ 2147483647) → (0 ≤ v1 ∧ v1 ≤ 12) → (0 ≤ v2 ∧ v2 ≤ 12) → (0 ≤ v3 ∧ v3 ≤ 12) → (0 ≤ (v2 + ((-1) * v3))) → (r0 ∈ L' ∧ K' r0 = 62) → (∀ b ∈ L', K' b = 62 → gi (f' b) 1 = v3) → eW E 0 0 L' f' 45 [(0, .ref r0), (1, .int (Int32.ofInt v0)), (2, .int (Int32.ofInt v1)), (3, .int (Int32.ofInt v2))] []) : eW E 0 0 L f 4 [(0, .ref r0), (1, .int (Int32.ofInt v0)), (2, .int (Int32.ofInt v1)), (3, .int (Int32.ofInt v2))] [] := by
  obtain ⟨l0, D0, cy0, ax0⟩ := X0
  have hraw : eW E 0 0 L f 4 [(0, .ref r0), (1, .int (Int32.ofInt (0 + (1 * v0 + 0)))), (2, .int (Int32.ofInt (0 + (1 * v1 + 0)))), (3, .int (Int32.ofInt (0 + (1 * v2 + 0))))] [] := ?_
  · simpa only [Int.zero_add, Int.one_mul, Int.add_zero] using hraw
  refine seg_ok (D := D_ms4) (νi := fun i => [v0, v1, v2].getD i 0) (μi := fun i => [r0].getD i 0) k_ms4 hE (mk_ok (ins := iX1_misses) jX1_misses fX1_ok lX1_ok kX1_ok kkX1_ok H) (by decide) rfl rfl rfl rfl hh ?_ ?_
  · refine ⟨(eok_of (fun i q hq => ?_) (fun i hi => ?_)), fa0, fa0, ?_, fa0, fa0, fa0⟩
    · match i, hq with
      | 0, hq => cases hq; exact hb0
      | 1, hq => cases hq; exact hb1
      | 2, hq => cases hq; exact hb2
      | i + 3, hq => cases hq
    · match i, hi with
      | 0, hi => exact absurd hi (by decide)
      | 1, hi => exact absurd hi (by decide)
      | 2, hi => exact absurd hi (by decide)
      | i + 3, _ => rfl
    · intro i k hk
      match i, hk with
      | 0, hk => cases hk; exact hr0
      | i + 1, hk => cases hk
  · intro q hq hst K' B' L' f' ν μ h1 h2 h3 h4 h5
    have e0 : ν 0 = v0 := h4 0 (by decide)
    have e1 : ν 1 = v1 := h4 1 (by decide)
    have e2 : ν 2 = v2 := h4 2 (by decide)
    have d0 : μ 0 = r0 := h5 0 (by decide)
    subst e0
    subst e1
    subst e2
    subst d0
    replace hq : q ∈ u_ms4 := hq
    unfold u_ms4 at hq
    simp only [List.mem_cons, List.not_mem_nil, or_false] at hq
    rcases hq with rfl | rfl
    · have hst2 : eW E 0 0 L' f' 18 [(0, .ref (μ 0)), (1, .int (Int32.ofInt (0 + (1 * ν 0 + 0)))), (2, .int (Int32.ofInt (0 + (1 * ν 1 + 0)))), (3, .int (Int32.ofInt (0 + (1 * ν 2 + 0))))] [.int (Int32.ofInt (0 + (1 * ν 2 + 0))), .ref (μ 1), .int (Int32.ofInt (0 + (1 * ν 1 + 0)))] := ?_
      · exact hst2
      try simp only [Int.zero_add, Int.one_mul, Int.add_zero]
      exact k18 K' B' L' f' (ν 3) (μ 1) h1 h2 (h3.1 0) (h3.1 1) (h3.1 2) (h3.1 3) (by simpa only [xv, xvT, Int.zero_add, Int.one_mul, Int.add_zero] using (h3.2.1 _ (List.mem_of_getElem? (i := 0) rfl))) (h3.2.2.2.1 0 62 rfl) (h3.2.2.2.1 1 67 rfl) (by simpa only [xv, xvT, Int.zero_add, Int.one_mul, Int.add_zero] using (mokF h1 (show (zkd 62).1 = 1 by decide) (j := 1) rfl (by decide) (h3.2.2.2.2.1 _ (List.mem_of_getElem? (i := 0) rfl))))
    · have hst2 : eW E 0 0 L' f' 45 [(0, .ref (μ 0)), (1, .int (Int32.ofInt (0 + (1 * ν 0 + 0)))), (2, .int (Int32.ofInt (0 + (1 * ν 1 + 0)))), (3, .int (Int32.ofInt (0 + (1 * ν 2 + 0))))] [] := ?_
      · exact hst2
      try simp only [Int.zero_add, Int.one_mul, Int.add_zero]
      exact k45 K' B' L' f' (ν 3)  h1 h2 (h3.1 0) (h3.1 1) (h3.1 2) (h3.1 3) (by simpa only [xv, xvT, Int.zero_add, Int.one_mul, Int.add_zero] using (h3.2.1 _ (List.mem_of_getElem? (i := 0) rfl))) (h3.2.2.2.1 0 62 rfl) (by simpa only [xv, xvT, Int.zero_add, Int.one_mul, Int.add_zero] using (mokF h1 (show (zkd 62).1 = 1 by decide) (j := 1) rfl (by decide) (h3.2.2.2.2.1 _ (List.mem_of_getElem? (i := 0) rfl))))

/-! ms19z: from 19 to [4] -/
def w_ms19z : TP := ([(0, (2, 0, (0, []))), (1, (0, 0, (0, [(1, 0)]))), (2, (0, 0, (0, [(1, 1)]))), (3, (0, 0, (0, [(1, 2)])))], [(0, 0, (0, [])), (0, 0, (0, [(1, 1)]))], ([((-2147483648), 2147483647), (0, 12), (0, 11)], [], [], [62], [], [], []), [], [])
def u_ms19z : List (Nat × TP × EX × Nat × Nat) := [(4, ([(0, (2, 0, (0, []))), (1, (0, 0, (0, [(1, 0)]))), (2, (0, 0, (0, [(1, 1)]))), (3, (0, 0, (1, [(1, 2)])))], [], ([((-2147483648), 2147483647), (0, 12), (0, 11)], [], [], [62], [], [], []), [], []), ((-1), []), 0, 0)]
def D_ms19z : DT := (mkD iX1_misses fX1 lX1 kX1 kkX1 427 [] (w_ms19z, [], [], 1, 0, 0, 3) false 4 u_ms19z)
theorem k_ms19z : chkS D_ms19z 4000 0 0 19 = true := by decide +kernel
theorem s_ms19z {X0 : zC0} {E : zCx} (H : ∀ j, j < 427 → CMj X0 j) (hE : zOk E X0 RX1 cX1_misses 4 (zrm 1 0 0)) {K : Nat → Nat} {B : Int} {L : List Nat} {f : Nat → va_E} (hh : hok X0.2.2.1 K B L f) {v0 v1 v2 : Int} {r0 : Nat} (hb0 : (-2147483648) ≤ v0 ∧ v0 ≤ 2147483647) (hb1 : 0 ≤ v1 ∧ v1 ≤ 12) (hb2 : 0 ≤ v2 ∧ v2 ≤ 11) (hr0 : r0 ∈ L ∧ K r0 = 62) (k4 : ∀ (K' : Nat → Nat) (B' : Int) (L' : List Nat) (f' : Nat → va_E), hok X0.2.2.1 K' B' L' f' → extC [] K B L f K' B' L' f' → ((-2147483648) ≤ v0 ∧ v0 ≤ 2147483647) → (0 ≤ v1 ∧ v1 ≤ 12) → (0 ≤ v2 ∧ v2 ≤ 11) → (r0 ∈ L' ∧ K' r0 = 62) → eW E 0 0 L' f' 4 [(0, .ref r0), (1, .int (Int32.ofInt v0)), (2, .int (Int32.ofInt v1)), (3, .int (Int32.ofInt (1 + v2)))] []) : eW E 0 0 L f 19 [(0, .ref r0), (1, .int (Int32.ofInt v0)), (2, .int (Int32.ofInt v1)), (3, .int (Int32.ofInt v2))] [.int (Int32.ofInt 0), .int (Int32.ofInt v1)] := by
  obtain ⟨l0, D0, cy0, ax0⟩ := X0
  have hraw : eW E 0 0 L f 19 [(0, .ref r0), (1, .int (Int32.ofInt (0 + (1 * v0 + 0)))), (2, .int (Int32.ofInt (0 + (1 * v1 + 0)))), (3, .int (Int32.ofInt (0 + (1 * v2 + 0))))] [.int (Int32.ofInt (0 + 0)), .int (Int32.ofInt (0 + (1 * v1 + 0)))] := ?_
  · simpa only [Int.zero_add, Int.one_mul, Int.add_zero] using hraw
  refine seg_ok (D := D_ms19z) (νi := fun i => [v0, v1, v2].getD i 0) (μi := fun i => [r0].getD i 0) k_ms19z hE (mk_ok (ins := iX1_misses) jX1_misses fX1_ok lX1_ok kX1_ok kkX1_ok H) (by decide) rfl rfl rfl rfl hh ?_ ?_
  · refine ⟨(eok_of (fun i q hq => ?_) (fun i hi => ?_)), fa0, fa0, ?_, fa0, fa0, fa0⟩
    · match i, hq with
      | 0, hq => cases hq; exact hb0
      | 1, hq => cases hq; exact hb1
      | 2, hq => cases hq; exact hb2
      | i + 3, hq => cases hq
    · match i, hi with
      | 0, hi => exact absurd hi (by decide)
      | 1, hi => exact absurd hi (by decide)
      | 2, hi => exact absurd hi (by decide)
      | i + 3, _ => rfl
    · intro i k hk
      match i, hk with
      | 0, hk => cases hk; exact hr0
      | i + 1, hk => cases hk
  · intro q hq hst K' B' L' f' ν μ h1 h2 h3 h4 h5
    have e0 : ν 0 = v0 := h4 0 (by decide)
    have e1 : ν 1 = v1 := h4 1 (by decide)
    have e2 : ν 2 = v2 := h4 2 (by decide)
    have d0 : μ 0 = r0 := h5 0 (by decide)
    subst e0
    subst e1
    subst e2
    subst d0
    replace hq : q ∈ u_ms19z := hq
    unfold u_ms19z at hq
    simp only [List.mem_cons, List.not_mem_nil, or_false] at hq
    rcases hq with rfl
    · have hst2 : eW E 0 0 L' f' 4 [(0, .ref (μ 0)), (1, .int (Int32.ofInt (0 + (1 * ν 0 + 0)))), (2, .int (Int32.ofInt (0 + (1 * ν 1 + 0)))), (3, .int (Int32.ofInt (1 + (1 * ν 2 + 0))))] [] := ?_
      · exact hst2
      try simp only [Int.zero_add, Int.one_mul, Int.add_zero]
      exact k4 K' B' L' f'   h1 h2 (h3.1 0) (h3.1 1) (h3.1 2) (h3.2.2.2.1 0 62 rfl)

/-! ms19a: from 19 to [4] -/
def w_ms19a : TP := ([(0, (2, 0, (0, []))), (1, (0, 0, (0, [(1, 0)]))), (2, (0, 0, (0, [(1, 1)]))), (3, (0, 0, (0, [(1, 2)])))], [(0, 0, (1, [])), (0, 0, (0, [(1, 1)]))], ([((-2147483648), 2147483647), (0, 12), (0, 11), ((-2147483648), 2147483647)], [((-1), [(1, 0), ((-1), 3)])], [], [62], [((66, (0, [(1, 2)])), (0, [(1, 3)]))], [], []), [], [])
def u_ms19a : List (Nat × TP × EX × Nat × Nat) := [(4, ([(0, (2, 0, (0, []))), (1, (0, 0, (0, [(1, 0)]))), (2, (0, 0, (1, [(1, 1)]))), (3, (0, 0, (1, [(1, 2)])))], [], ([((-2147483647), 2147483647), (0, 12), (0, 11), ((-2147483648), 2147483646)], [((-1), [((-1), 3), (1, 0)])], [], [62], [((66, (0, [(1, 2)])), (0, [(1, 3)]))], [], []), [], []), ((-1), []), 0, 0)]
def D_ms19a : DT := (mkD iX1_misses fX1 lX1 kX1 kkX1 427 [] (w_ms19a, [], [], 1, 0, 0, 3) false 4 u_ms19a)
theorem k_ms19a : chkS D_ms19a 4000 0 0 19 = true := by decide +kernel
theorem s_ms19a {X0 : zC0} {E : zCx} (H : ∀ j, j < 427 → CMj X0 j) (hE : zOk E X0 RX1 cX1_misses 4 (zrm 1 0 0)) {K : Nat → Nat} {B : Int} {L : List Nat} {f : Nat → va_E} (hh : hok X0.2.2.1 K B L f) {v0 v1 v2 v3 : Int} {r0 : Nat} (hb0 : (-2147483648) ≤ v0 ∧ v0 ≤ 2147483647) (hb1 : 0 ≤ v1 ∧ v1 ≤ 12) (hb2 : 0 ≤ v2 ∧ v2 ≤ 11) (hb3 : (-2147483648) ≤ v3 ∧ v3 ≤ 2147483647) (hq0 : 0 ≤ ((-1) + (v0 + ((-1) * v3)))) (hr0 : r0 ∈ L ∧ K r0 = 62) (hm0 : (∀ b ∈ L, K b = 66 → (0 : Int) ≤ v2 ∧ gi (f b) ((v2 : Int)).toNat = v3)) (k4 : ∀ (K' : Nat → Nat) (B' : Int) (L' : List Nat) (f' : Nat → va_E), hok X0.2.2.1 K' B' L' f' → extC [] K B L f K' B' L' f' → ((-2147483647) ≤ v0 ∧ v0 ≤ 2147483647) → (0 ≤ v1 ∧ v1 ≤ 12) → (0 ≤ v2 ∧ v2 ≤ 11) → ((-2147483648) ≤ v3 ∧ v3 ≤ 2147483646) → (0 ≤ ((-1) + ((-1) * v3 + v0))) → (r0 ∈ L' ∧ K' r0 = 62) → (∀ b ∈ L', K' b = 66 → (0 : Int) ≤ v2 ∧ gi (f' b) ((v2 : Int)).toNat = v3) → eW E 0 0 L' f' 4 [(0, .ref r0), (1, .int (Int32.ofInt v0)), (2, .int (Int32.ofInt (1 + v1))), (3, .int (Int32.ofInt (1 + v2)))] []) : eW E 0 0 L f 19 [(0, .ref r0), (1, .int (Int32.ofInt v0)), (2, .int (Int32.ofInt v1)), (3, .int (Int32.ofInt v2))] [.int (Int32.ofInt 1), .int (Int32.ofInt v1)] := by
  obtain ⟨l0, D0, cy0, ax0⟩ := X0
  have hraw : eW E 0 0 L f 19 [(0, .ref r0), (1, .int (Int32.ofInt (0 + (1 * v0 + 0)))), (2, .int (Int32.ofInt (0 + (1 * v1 + 0)))), (3, .int (Int32.ofInt (0 + (1 * v2 + 0))))] [.int (Int32.ofInt (1 + 0)), .int (Int32.ofInt (0 + (1 * v1 + 0)))] := ?_
  · simpa only [Int.zero_add, Int.one_mul, Int.add_zero] using hraw
  have rq0 : 0 ≤ ((-1) + (1 * v0 + ((-1) * v3 + 0))) := by simpa only [Int.zero_add, Int.one_mul, Int.add_zero] using hq0
  have rm0 : (∀ b ∈ L, K b = 66 → (0 : Int) ≤ (0 + (1 * v2 + 0)) ∧ gi (f b) (((0 + (1 * v2 + 0)) : Int)).toNat = (0 + (1 * v3 + 0))) := by simpa only [Int.zero_add, Int.one_mul, Int.add_zero] using hm0
  refine seg_ok (D := D_ms19a) (νi := fun i => [v0, v1, v2, v3].getD i 0) (μi := fun i => [r0].getD i 0) k_ms19a hE (mk_ok (ins := iX1_misses) jX1_misses fX1_ok lX1_ok kX1_ok kkX1_ok H) (by decide) rfl rfl rfl rfl hh ?_ ?_
  · refine ⟨(eok_of (fun i q hq => ?_) (fun i hi => ?_)), (fa_cons (rq0) fa0), fa0, ?_, (fa_cons (Amok hh (show (zkd 66).1 = 2 by decide) (by decide) rm0) fa0), fa0, fa0⟩
    · match i, hq with
      | 0, hq => cases hq; exact hb0
      | 1, hq => cases hq; exact hb1
      | 2, hq => cases hq; exact hb2
      | 3, hq => cases hq; exact hb3
      | i + 4, hq => cases hq
    · match i, hi with
      | 0, hi => exact absurd hi (by decide)
      | 1, hi => exact absurd hi (by decide)
      | 2, hi => exact absurd hi (by decide)
      | 3, hi => exact absurd hi (by decide)
      | i + 4, _ => rfl
    · intro i k hk
      match i, hk with
      | 0, hk => cases hk; exact hr0
      | i + 1, hk => cases hk
  · intro q hq hst K' B' L' f' ν μ h1 h2 h3 h4 h5
    have e0 : ν 0 = v0 := h4 0 (by decide)
    have e1 : ν 1 = v1 := h4 1 (by decide)
    have e2 : ν 2 = v2 := h4 2 (by decide)
    have e3 : ν 3 = v3 := h4 3 (by decide)
    have d0 : μ 0 = r0 := h5 0 (by decide)
    subst e0
    subst e1
    subst e2
    subst e3
    subst d0
    replace hq : q ∈ u_ms19a := hq
    unfold u_ms19a at hq
    simp only [List.mem_cons, List.not_mem_nil, or_false] at hq
    rcases hq with rfl
    · have hst2 : eW E 0 0 L' f' 4 [(0, .ref (μ 0)), (1, .int (Int32.ofInt (0 + (1 * ν 0 + 0)))), (2, .int (Int32.ofInt (1 + (1 * ν 1 + 0)))), (3, .int (Int32.ofInt (1 + (1 * ν 2 + 0))))] [] := ?_
      · exact hst2
      try simp only [Int.zero_add, Int.one_mul, Int.add_zero]
      exact k4 K' B' L' f'   h1 h2 (h3.1 0) (h3.1 1) (h3.1 2) (h3.1 3) (by simpa only [xv, xvT, Int.zero_add, Int.one_mul, Int.add_zero] using (h3.2.1 _ (List.mem_of_getElem? (i := 0) rfl))) (h3.2.2.2.1 0 62 rfl) (by simpa only [xv, xvT, Int.zero_add, Int.one_mul, Int.add_zero] using (mokA h1 (show (zkd 66).1 = 2 by decide) (by decide) (h3.2.2.2.2.1 _ (List.mem_of_getElem? (i := 0) rfl))))

/-! ms19b: from 19 to [4] -/
def w_ms19b : TP := ([(0, (2, 0, (0, []))), (1, (0, 0, (0, [(1, 0)]))), (2, (0, 0, (0, [(1, 1)]))), (3, (0, 0, (0, [(1, 2)])))], [(0, 0, (1, [])), (0, 0, (0, [(1, 1)]))], ([((-2147483648), 2147483647), (0, 12), (0, 11), ((-2147483648), 2147483647)], [(0, [(1, 3), ((-1), 0)])], [], [62], [((66, (0, [(1, 2)])), (0, [(1, 3)]))], [], []), [], [])
def u_ms19b : List (Nat × TP × EX × Nat × Nat) := [(4, ([(0, (2, 0, (0, []))), (1, (0, 0, (0, [(1, 0)]))), (2, (0, 0, (0, [(1, 1)]))), (3, (0, 0, (1, [(1, 2)])))], [], ([((-2147483648), 2147483647), (0, 12), (0, 11), ((-2147483648), 2147483647)], [(0, [(1, 3), ((-1), 0)])], [], [62], [((66, (0, [(1, 2)])), (0, [(1, 3)]))], [], []), [], []), ((-1), []), 0, 0)]
def D_ms19b : DT := (mkD iX1_misses fX1 lX1 kX1 kkX1 427 [] (w_ms19b, [], [], 1, 0, 0, 3) false 4 u_ms19b)
theorem k_ms19b : chkS D_ms19b 4000 0 0 19 = true := by decide +kernel
theorem s_ms19b {X0 : zC0} {E : zCx} (H : ∀ j, j < 427 → CMj X0 j) (hE : zOk E X0 RX1 cX1_misses 4 (zrm 1 0 0)) {K : Nat → Nat} {B : Int} {L : List Nat} {f : Nat → va_E} (hh : hok X0.2.2.1 K B L f) {v0 v1 v2 v3 : Int} {r0 : Nat} (hb0 : (-2147483648) ≤ v0 ∧ v0 ≤ 2147483647) (hb1 : 0 ≤ v1 ∧ v1 ≤ 12) (hb2 : 0 ≤ v2 ∧ v2 ≤ 11) (hb3 : (-2147483648) ≤ v3 ∧ v3 ≤ 2147483647) (hq0 : 0 ≤ (v3 + ((-1) * v0))) (hr0 : r0 ∈ L ∧ K r0 = 62) (hm0 : (∀ b ∈ L, K b = 66 → (0 : Int) ≤ v2 ∧ gi (f b) ((v2 : Int)).toNat = v3)) (k4 : ∀ (K' : Nat → Nat) (B' : Int) (L' : List Nat) (f' : Nat → va_E), hok X0.2.2.1 K' B' L' f' → extC [] K B L f K' B' L' f' → ((-2147483648) ≤ v0 ∧ v0 ≤ 2147483647) → (0 ≤ v1 ∧ v1 ≤ 12) → (0 ≤ v2 ∧ v2 ≤ 11) → ((-2147483648) ≤ v3 ∧ v3 ≤ 2147483647) → (0 ≤ (v3 + ((-1) * v0))) → (r0 ∈ L' ∧ K' r0 = 62) → (∀ b ∈ L', K' b = 66 → (0 : Int) ≤ v2 ∧ gi (f' b) ((v2 : Int)).toNat = v3) → eW E 0 0 L' f' 4 [(0, .ref r0), (1, .int (Int32.ofInt v0)), (2, .int (Int32.ofInt v1)), (3, .int (Int32.ofInt (1 + v2)))] []) : eW E 0 0 L f 19 [(0, .ref r0), (1, .int (Int32.ofInt v0)), (2, .int (Int32.ofInt v1)), (3, .int (Int32.ofInt v2))] [.int (Int32.ofInt 1), .int (Int32.ofInt v1)] := by
  obtain ⟨l0, D0, cy0, ax0⟩ := X0
  have hraw : eW E 0 0 L f 19 [(0, .ref r0), (1, .int (Int32.ofInt (0 + (1 * v0 + 0)))), (2, .int (Int32.ofInt (0 + (1 * v1 + 0)))), (3, .int (Int32.ofInt (0 + (1 * v2 + 0))))] [.int (Int32.ofInt (1 + 0)), .int (Int32.ofInt (0 + (1 * v1 + 0)))] := ?_
  · simpa only [Int.zero_add, Int.one_mul, Int.add_zero] using hraw
  have rq0 : 0 ≤ (0 + (1 * v3 + ((-1) * v0 + 0))) := by simpa only [Int.zero_add, Int.one_mul, Int.add_zero] using hq0
  have rm0 : (∀ b ∈ L, K b = 66 → (0 : Int) ≤ (0 + (1 * v2 + 0)) ∧ gi (f b) (((0 + (1 * v2 + 0)) : Int)).toNat = (0 + (1 * v3 + 0))) := by simpa only [Int.zero_add, Int.one_mul, Int.add_zero] using hm0
  refine seg_ok (D := D_ms19b) (νi := fun i => [v0, v1, v2, v3].getD i 0) (μi := fun i => [r0].getD i 0) k_ms19b hE (mk_ok (ins := iX1_misses) jX1_misses fX1_ok lX1_ok kX1_ok kkX1_ok H) (by decide) rfl rfl rfl rfl hh ?_ ?_
  · refine ⟨(eok_of (fun i q hq => ?_) (fun i hi => ?_)), (fa_cons (rq0) fa0), fa0, ?_, (fa_cons (Amok hh (show (zkd 66).1 = 2 by decide) (by decide) rm0) fa0), fa0, fa0⟩
    · match i, hq with
      | 0, hq => cases hq; exact hb0
      | 1, hq => cases hq; exact hb1
      | 2, hq => cases hq; exact hb2
      | 3, hq => cases hq; exact hb3
      | i + 4, hq => cases hq
    · match i, hi with
      | 0, hi => exact absurd hi (by decide)
      | 1, hi => exact absurd hi (by decide)
      | 2, hi => exact absurd hi (by decide)
      | 3, hi => exact absurd hi (by decide)
      | i + 4, _ => rfl
    · intro i k hk
      match i, hk with
      | 0, hk => cases hk; exact hr0
      | i + 1, hk => cases hk
  · intro q hq hst K' B' L' f' ν μ h1 h2 h3 h4 h5
    have e0 : ν 0 = v0 := h4 0 (by decide)
    have e1 : ν 1 = v1 := h4 1 (by decide)
    have e2 : ν 2 = v2 := h4 2 (by decide)
    have e3 : ν 3 = v3 := h4 3 (by decide)
    have d0 : μ 0 = r0 := h5 0 (by decide)
    subst e0
    subst e1
    subst e2
    subst e3
    subst d0
    replace hq : q ∈ u_ms19b := hq
    unfold u_ms19b at hq
    simp only [List.mem_cons, List.not_mem_nil, or_false] at hq
    rcases hq with rfl
    · have hst2 : eW E 0 0 L' f' 4 [(0, .ref (μ 0)), (1, .int (Int32.ofInt (0 + (1 * ν 0 + 0)))), (2, .int (Int32.ofInt (0 + (1 * ν 1 + 0)))), (3, .int (Int32.ofInt (1 + (1 * ν 2 + 0))))] [] := ?_
      · exact hst2
      try simp only [Int.zero_add, Int.one_mul, Int.add_zero]
      exact k4 K' B' L' f'   h1 h2 (h3.1 0) (h3.1 1) (h3.1 2) (h3.1 3) (by simpa only [xv, xvT, Int.zero_add, Int.one_mul, Int.add_zero] using (h3.2.1 _ (List.mem_of_getElem? (i := 0) rfl))) (h3.2.2.2.1 0 62 rfl) (by simpa only [xv, xvT, Int.zero_add, Int.one_mul, Int.add_zero] using (mokA h1 (show (zkd 66).1 = 2 by decide) (by decide) (h3.2.2.2.2.1 _ (List.mem_of_getElem? (i := 0) rfl))))

/-! ms45: from 45 to [46] -/
def w_ms45 : TP := ([(0, (2, 0, (0, []))), (1, (0, 0, (0, [(1, 0)]))), (2, (0, 0, (0, [(1, 1)]))), (3, (0, 0, (0, [(1, 2)])))], [], ([((-2147483648), 2147483647), (0, 12), (0, 12)], [], [], [62], [], [], []), [], [])
def u_ms45 : List (Nat × TP × EX × Nat × Nat) := [(46, ([(0, (2, 0, (0, []))), (1, (0, 0, (0, [(1, 0)]))), (2, (0, 0, (0, [(1, 1)]))), (3, (0, 0, (0, [(1, 2)])))], [(0, 0, (0, [(1, 1)]))], ([((-2147483648), 2147483647), (0, 12), (0, 12)], [], [], [62], [], [], []), [], []), ((-1), []), 0, 0)]
def D_ms45 : DT := (mkD iX1_misses fX1 lX1 kX1 kkX1 427 [] (w_ms45, [], [], 1, 0, 0, 3) false 4 u_ms45)
theorem k_ms45 : chkS D_ms45 4000 0 0 45 = true := by decide +kernel
theorem s_ms45 {X0 : zC0} {E : zCx} (H : ∀ j, j < 427 → CMj X0 j) (hE : zOk E X0 RX1 cX1_misses 4 (zrm 1 0 0)) {K : Nat → Nat} {B : Int} {L : List Nat} {f : Nat → va_E} (hh : hok X0.2.2.1 K B L f) {v0 v1 v2 : Int} {r0 : Nat} (hb0 : (-2147483648) ≤ v0 ∧ v0 ≤ 2147483647) (hb1 : 0 ≤ v1 ∧ v1 ≤ 12) (hb2 : 0 ≤ v2 ∧ v2 ≤ 12) (hr0 : r0 ∈ L ∧ K r0 = 62) (k46 : ∀ (K' : Nat → Nat) (B' : Int) (L' : List Nat) (f' : Nat → va_E), hok X0.2.2.1 K' B' L' f' → extC [] K B L f K' B' L' f' → ((-2147483648) ≤ v0 ∧ v0 ≤ 2147483647) → (0 ≤ v1 ∧ v1 ≤ 12) → (0 ≤ v2 ∧ v2 ≤ 12) → (r0 ∈ L' ∧ K' r0 = 62) → eW E 0 0 L' f' 46 [(0, .ref r0), (1, .int (Int32.ofInt v0)), (2, .int (Int32.ofInt v1)), (3, .int (Int32.ofInt v2))] [.int (Int32.ofInt v1)]) : eW E 0 0 L f 45 [(0, .ref r0), (1, .int (Int32.ofInt v0)), (2, .int (Int32.ofInt v1)), (3, .int (Int32.ofInt v2))] [] := by
  obtain ⟨l0, D0, cy0, ax0⟩ := X0
  have hraw : eW E 0 0 L f 45 [(0, .ref r0), (1, .int (Int32.ofInt (0 + (1 * v0 + 0)))), (2, .int (Int32.ofInt (0 + (1 * v1 + 0)))), (3, .int (Int32.ofInt (0 + (1 * v2 + 0))))] [] := ?_
  · simpa only [Int.zero_add, Int.one_mul, Int.add_zero] using hraw
  refine seg_ok (D := D_ms45) (νi := fun i => [v0, v1, v2].getD i 0) (μi := fun i => [r0].getD i 0) k_ms45 hE (mk_ok (ins := iX1_misses) jX1_misses fX1_ok lX1_ok kX1_ok kkX1_ok H) (by decide) rfl rfl rfl rfl hh ?_ ?_
  · refine ⟨(eok_of (fun i q hq => ?_) (fun i hi => ?_)), fa0, fa0, ?_, fa0, fa0, fa0⟩
    · match i, hq with
      | 0, hq => cases hq; exact hb0
      | 1, hq => cases hq; exact hb1
      | 2, hq => cases hq; exact hb2
      | i + 3, hq => cases hq
    · match i, hi with
      | 0, hi => exact absurd hi (by decide)
      | 1, hi => exact absurd hi (by decide)
      | 2, hi => exact absurd hi (by decide)
      | i + 3, _ => rfl
    · intro i k hk
      match i, hk with
      | 0, hk => cases hk; exact hr0
      | i + 1, hk => cases hk
  · intro q hq hst K' B' L' f' ν μ h1 h2 h3 h4 h5
    have e0 : ν 0 = v0 := h4 0 (by decide)
    have e1 : ν 1 = v1 := h4 1 (by decide)
    have e2 : ν 2 = v2 := h4 2 (by decide)
    have d0 : μ 0 = r0 := h5 0 (by decide)
    subst e0
    subst e1
    subst e2
    subst d0
    replace hq : q ∈ u_ms45 := hq
    unfold u_ms45 at hq
    simp only [List.mem_cons, List.not_mem_nil, or_false] at hq
    rcases hq with rfl
    · have hst2 : eW E 0 0 L' f' 46 [(0, .ref (μ 0)), (1, .int (Int32.ofInt (0 + (1 * ν 0 + 0)))), (2, .int (Int32.ofInt (0 + (1 * ν 1 + 0)))), (3, .int (Int32.ofInt (0 + (1 * ν 2 + 0))))] [.int (Int32.ofInt (0 + (1 * ν 1 + 0)))] := ?_
      · exact hst2
      try simp only [Int.zero_add, Int.one_mul, Int.add_zero]
      exact k46 K' B' L' f'   h1 h2 (h3.1 0) (h3.1 1) (h3.1 2) (h3.2.2.2.1 0 62 rfl)

/-! fa0: from 0 to [4] -/
def w_fa0 : TP := ([(0, (2, 0, (0, []))), (1, (0, 0, (0, [(1, 0)])))], [], ([((-2147483648), 2147483647)], [], [], [62], [], [], []), [], [])
def u_fa0 : List (Nat × TP × EX × Nat × Nat) := [(4, ([(0, (2, 0, (0, []))), (1, (0, 0, (0, [(1, 0)]))), (2, (0, 0, (0, []))), (3, (0, 0, (0, [])))], [], ([((-2147483648), 2147483647)], [], [], [62], [], [], []), [], []), ((-1), []), 0, 0)]
def D_fa0 : DT := (mkD iX1_falseAlarms fX1 lX1 kX1 kkX1 427 [] (w_fa0, [], [], 1, 0, 0, 3) false 4 u_fa0)
theorem k_fa0 : chkS D_fa0 4000 0 0 0 = true := by decide +kernel
theorem s_fa0 {X0 : zC0} {E : zCx} (H : ∀ j, j < 427 → CMj X0 j) (hE : zOk E X0 RX1 cX1_falseAlarms 4 (zrm 1 0 0)) {K : Nat → Nat} {B : Int} {L : List Nat} {f : Nat → va_E} (hh : hok X0.2.2.1 K B L f) {v0 : Int} {r0 : Nat} (hb0 : (-2147483648) ≤ v0 ∧ v0 ≤ 2147483647) (hr0 : r0 ∈ L ∧ K r0 = 62) (k4 : ∀ (K' : Nat → Nat) (B' : Int) (L' : List Nat) (f' : Nat → va_E), hok X0.2.2.1 K' B' L' f' → extC [] K B L f K' B' L' f' → ((-2147483648) ≤ v0 ∧ v0 ≤ 2147483647) → (r0 ∈ L' ∧ K' r0 = 62) → eW E 0 0 L' f' 4 [(0, .ref r0), (1, .int (Int32.ofInt v0)), (2, .int (Int32.ofInt 0)), (3, .int (Int32.ofInt 0))] []) : eW E 0 0 L f 0 [(0, .ref r0), (1, .int (Int32.ofInt v0))] [] := by
  obtain ⟨l0, D0, cy0, ax0⟩ := X0
  have hraw : eW E 0 0 L f 0 [(0, .ref r0), (1, .int (Int32.ofInt (0 + (1 * v0 + 0))))] [] := ?_
  · simpa only [Int.zero_add, Int.one_mul, Int.add_zero] using hraw
  refine seg_ok (D := D_fa0) (νi := fun i => [v0].getD i 0) (μi := fun i => [r0].getD i 0) k_fa0 hE (mk_ok (ins := iX1_falseAlarms) jX1_falseAlarms fX1_ok lX1_ok kX1_ok kkX1_ok H) (by decide) rfl rfl rfl rfl hh ?_ ?_
  · refine ⟨(eok_of (fun i q hq => ?_) (fun i hi => ?_)), fa0, fa0, ?_, fa0, fa0, fa0⟩
    · match i, hq with
      | 0, hq => cases hq; exact hb0
      | i + 1, hq => cases hq
    · match i, hi with
      | 0, hi => exact absurd hi (by decide)
      | i + 1, _ => rfl
    · intro i k hk
      match i, hk with
      | 0, hk => cases hk; exact hr0
      | i + 1, hk => cases hk
  · intro q hq hst K' B' L' f' ν μ h1 h2 h3 h4 h5
    have e0 : ν 0 = v0 := h4 0 (by decide)
    have d0 : μ 0 = r0 := h5 0 (by decide)
    subst e0
    subst d0
    replace hq : q ∈ u_fa0 := hq
    unfold u_fa0 at hq
    simp only [List.mem_cons, List.not_mem_nil, or_false] at hq
    rcases hq with rfl
    · have hst2 : eW E 0 0 L' f' 4 [(0, .ref (μ 0)), (1, .int (Int32.ofInt (0 + (1 * ν 0 + 0)))), (2, .int (Int32.ofInt (0 + 0))), (3, .int (Int32.ofInt (0 + 0)))] [] := ?_
      · exact hst2
      try simp only [Int.zero_add, Int.one_mul, Int.add_zero]
      exact k4 K' B' L' f'   h1 h2 (h3.1 0) (h3.2.2.2.1 0 62 rfl)

/-! fa4: from 4 to [18, 45] -/
def w_fa4 : TP := ([(0, (2, 0, (0, []))), (1, (0, 0, (0, [(1, 0)]))), (2, (0, 0, (0, [(1, 1)]))), (3, (0, 0, (0, [(1, 2)])))], [], ([((-2147483648), 2147483647), (0, 12), (0, 12)], [], [], [62], [], [], []), [], [])
def u_fa4 : List (Nat × TP × EX × Nat × Nat) := [(18, ([(0, (2, 0, (0, []))), (1, (0, 0, (0, [(1, 0)]))), (2, (0, 0, (0, [(1, 1)]))), (3, (0, 0, (0, [(1, 2)])))], [(0, 0, (0, [(1, 2)])), (2, 1, (0, [])), (0, 0, (0, [(1, 1)]))], ([((-2147483648), 2147483647), (0, 12), (0, 11), (1, 12)], [((-1), [((-1), 2), (1, 3)])], [], [62, 67], [((62, (1, [])), (0, [(1, 3)]))], [], []), [(2, 62, (1, []))], [(1, 1)]), ((-1), []), 0, 0), (45, ([(0, (2, 0, (0, []))), (1, (0, 0, (0, [(1, 0)]))), (2, (0, 0, (0, [(1, 1)]))), (3, (0, 0, (0, [(1, 2)])))], [], ([((-2147483648), 2147483647), (0, 12), (0, 12), (0, 12)], [(0, [(1, 2), ((-1), 3)])], [], [62], [((62, (1, [])), (0, [(1, 3)]))], [], []), [(2, 62, (1, []))], []), ((-1), []), 0, 0)]
def D_fa4 : DT := (mkD iX1_falseAlarms fX1 lX1 kX1 kkX1 427 [] (w_fa4, [], [], 1, 0, 0, 3) false 4 u_fa4)
theorem k_fa4 : chkS D_fa4 4000 0 0 4 = true := by decide +kernel
theorem s_fa4 {X0 : zC0} {E : zCx} (H : ∀ j, j < 427 → CMj X0 j) (hE : zOk E X0 RX1 cX1_falseAlarms 4 (zrm 1 0 0)) {K : Nat → Nat} {B : Int} {L : List Nat} {f : Nat → va_E} (hh : hok X0.2.2.1 K B L f) {v0 v1 v2 : Int} {r0 : Nat} (hb0 : (-2147483648) ≤ v0 ∧ v0 ≤ 2147483647) (hb1 : 0 ≤ v1 ∧ v1 ≤ 12) (hb2 : 0 ≤ v2 ∧ v2 ≤ 12) (hr0 : r0 ∈ L ∧ K r0 = 62) (k18 : ∀ (K' : Nat → Nat) (B' : Int) (L' : List Nat) (f' : Nat → va_E) (v3 : Int) (r1 : Nat), hok X0.2.2.1 K' B' L' f' → extC [] K B L f K' B' L' f' → ((-2147483648) ≤ v0 ∧ v0 ≤ 2147483647) → (0 ≤ v1 ∧ v1 ≤ 12) → (0 ≤ v2 ∧ v2 ≤ 11) → (1 ≤ v3 ∧ v3 ≤ 12) → (0 ≤ ((-1) + ((-1) * v2 + v3))) → (r0 ∈ L' ∧ K' r0 = 62) → (r1 ∈ L' ∧ K' r1 = 67) → (∀ b ∈ L', K' b = 62 → gi (f' b) 1 = v3) → eW E 0 0 L' f' 18 [(0, .ref r0), (1, .int (Int32.ofInt v0)), (2, .int (Int32.ofInt v1)), (3, .int (Int32.ofInt v2))] [.int (Int32.ofInt v2), .ref r1, .int (Int32.ofInt v1)]) (k45 : ∀ (K' : Nat → Nat) (B' : Int) (L' : List Nat) (f' : Nat → va_E) (v3 : Int), hok X0.2.2.1 K' B' L' f' → extC [] K B L f K' B' L' f' → ((-2147483648) ≤ v0 ∧ v0 ≤ 2147483647) → (0 ≤ v1 ∧ v1 ≤ 12) → (0 ≤ v2 ∧ v2 ≤ 12) → (0 ≤ v3 ∧ v3 ≤ 12) → (0 ≤ (v2 + ((-1) * v3))) → (r0 ∈ L' ∧ K' r0 = 62) → (∀ b ∈ L', K' b = 62 → gi (f' b) 1 = v3) → eW E 0 0 L' f' 45 [(0, .ref r0), (1, .int (Int32.ofInt v0)), (2, .int (Int32.ofInt v1)), (3, .int (Int32.ofInt v2))] []) : eW E 0 0 L f 4 [(0, .ref r0), (1, .int (Int32.ofInt v0)), (2, .int (Int32.ofInt v1)), (3, .int (Int32.ofInt v2))] [] := by
  obtain ⟨l0, D0, cy0, ax0⟩ := X0
  have hraw : eW E 0 0 L f 4 [(0, .ref r0), (1, .int (Int32.ofInt (0 + (1 * v0 + 0)))), (2, .int (Int32.ofInt (0 + (1 * v1 + 0)))), (3, .int (Int32.ofInt (0 + (1 * v2 + 0))))] [] := ?_
  · simpa only [Int.zero_add, Int.one_mul, Int.add_zero] using hraw
  refine seg_ok (D := D_fa4) (νi := fun i => [v0, v1, v2].getD i 0) (μi := fun i => [r0].getD i 0) k_fa4 hE (mk_ok (ins := iX1_falseAlarms) jX1_falseAlarms fX1_ok lX1_ok kX1_ok kkX1_ok H) (by decide) rfl rfl rfl rfl hh ?_ ?_
  · refine ⟨(eok_of (fun i q hq => ?_) (fun i hi => ?_)), fa0, fa0, ?_, fa0, fa0, fa0⟩
    · match i, hq with
      | 0, hq => cases hq; exact hb0
      | 1, hq => cases hq; exact hb1
      | 2, hq => cases hq; exact hb2
      | i + 3, hq => cases hq
    · match i, hi with
      | 0, hi => exact absurd hi (by decide)
      | 1, hi => exact absurd hi (by decide)
      | 2, hi => exact absurd hi (by decide)
      | i + 3, _ => rfl
    · intro i k hk
      match i, hk with
      | 0, hk => cases hk; exact hr0
      | i + 1, hk => cases hk
  · intro q hq hst K' B' L' f' ν μ h1 h2 h3 h4 h5
    have e0 : ν 0 = v0 := h4 0 (by decide)
    have e1 : ν 1 = v1 := h4 1 (by decide)
    have e2 : ν 2 = v2 := h4 2 (by decide)
    have d0 : μ 0 = r0 := h5 0 (by decide)
    subst e0
    subst e1
    subst e2
    subst d0
    replace hq : q ∈ u_fa4 := hq
    unfold u_fa4 at hq
    simp only [List.mem_cons, List.not_mem_nil, or_false] at hq
    rcases hq with rfl | rfl
    · have hst2 : eW E 0 0 L' f' 18 [(0, .ref (μ 0)), (1, .int (Int32.ofInt (0 + (1 * ν 0 + 0)))), (2, .int (Int32.ofInt (0 + (1 * ν 1 + 0)))), (3, .int (Int32.ofInt (0 + (1 * ν 2 + 0))))] [.int (Int32.ofInt (0 + (1 * ν 2 + 0))), .ref (μ 1), .int (Int32.ofInt (0 + (1 * ν 1 + 0)))] := ?_
      · exact hst2
      try simp only [Int.zero_add, Int.one_mul, Int.add_zero]
      exact k18 K' B' L' f' (ν 3) (μ 1) h1 h2 (h3.1 0) (h3.1 1) (h3.1 2) (h3.1 3) (by simpa only [xv, xvT, Int.zero_add, Int.one_mul, Int.add_zero] using (h3.2.1 _ (List.mem_of_getElem? (i := 0) rfl))) (h3.2.2.2.1 0 62 rfl) (h3.2.2.2.1 1 67 rfl) (by simpa only [xv, xvT, Int.zero_add, Int.one_mul, Int.add_zero] using (mokF h1 (show (zkd 62).1 = 1 by decide) (j := 1) rfl (by decide) (h3.2.2.2.2.1 _ (List.mem_of_getElem? (i := 0) rfl))))
    · have hst2 : eW E 0 0 L' f' 45 [(0, .ref (μ 0)), (1, .int (Int32.ofInt (0 + (1 * ν 0 + 0)))), (2, .int (Int32.ofInt (0 + (1 * ν 1 + 0)))), (3, .int (Int32.ofInt (0 + (1 * ν 2 + 0))))] [] := ?_
      · exact hst2
      try simp only [Int.zero_add, Int.one_mul, Int.add_zero]
      exact k45 K' B' L' f' (ν 3)  h1 h2 (h3.1 0) (h3.1 1) (h3.1 2) (h3.1 3) (by simpa only [xv, xvT, Int.zero_add, Int.one_mul, Int.add_zero] using (h3.2.1 _ (List.mem_of_getElem? (i := 0) rfl))) (h3.2.2.2.1 0 62 rfl) (by simpa only [xv, xvT, Int.zero_add, Int.one_mul, Int.add_zero] using (mokF h1 (show (zkd 62).1 = 1 by decide) (j := 1) rfl (by decide) (h3.2.2.2.2.1 _ (List.mem_of_getElem? (i := 0) rfl))))

/-! fa19z: from 19 to [4] -/
def w_fa19z : TP := ([(0, (2, 0, (0, []))), (1, (0, 0, (0, [(1, 0)]))), (2, (0, 0, (0, [(1, 1)]))), (3, (0, 0, (0, [(1, 2)])))], [(0, 0, (1, [])), (0, 0, (0, [(1, 1)]))], ([((-2147483648), 2147483647), (0, 12), (0, 11)], [], [], [62], [], [], []), [], [])
def u_fa19z : List (Nat × TP × EX × Nat × Nat) := [(4, ([(0, (2, 0, (0, []))), (1, (0, 0, (0, [(1, 0)]))), (2, (0, 0, (0, [(1, 1)]))), (3, (0, 0, (1, [(1, 2)])))], [], ([((-2147483648), 2147483647), (0, 12), (0, 11)], [], [], [62], [], [], []), [], []), ((-1), []), 0, 0)]
def D_fa19z : DT := (mkD iX1_falseAlarms fX1 lX1 kX1 kkX1 427 [] (w_fa19z, [], [], 1, 0, 0, 3) false 4 u_fa19z)
theorem k_fa19z : chkS D_fa19z 4000 0 0 19 = true := by decide +kernel
theorem s_fa19z {X0 : zC0} {E : zCx} (H : ∀ j, j < 427 → CMj X0 j) (hE : zOk E X0 RX1 cX1_falseAlarms 4 (zrm 1 0 0)) {K : Nat → Nat} {B : Int} {L : List Nat} {f : Nat → va_E} (hh : hok X0.2.2.1 K B L f) {v0 v1 v2 : Int} {r0 : Nat} (hb0 : (-2147483648) ≤ v0 ∧ v0 ≤ 2147483647) (hb1 : 0 ≤ v1 ∧ v1 ≤ 12) (hb2 : 0 ≤ v2 ∧ v2 ≤ 11) (hr0 : r0 ∈ L ∧ K r0 = 62) (k4 : ∀ (K' : Nat → Nat) (B' : Int) (L' : List Nat) (f' : Nat → va_E), hok X0.2.2.1 K' B' L' f' → extC [] K B L f K' B' L' f' → ((-2147483648) ≤ v0 ∧ v0 ≤ 2147483647) → (0 ≤ v1 ∧ v1 ≤ 12) → (0 ≤ v2 ∧ v2 ≤ 11) → (r0 ∈ L' ∧ K' r0 = 62) → eW E 0 0 L' f' 4 [(0, .ref r0), (1, .int (Int32.ofInt v0)), (2, .int (Int32.ofInt v1)), (3, .int (Int32.ofInt (1 + v2)))] []) : eW E 0 0 L f 19 [(0, .ref r0), (1, .int (Int32.ofInt v0)), (2, .int (Int32.ofInt v1)), (3, .int (Int32.ofInt v2))] [.int (Int32.ofInt 1), .int (Int32.ofInt v1)] := by
  obtain ⟨l0, D0, cy0, ax0⟩ := X0
  have hraw : eW E 0 0 L f 19 [(0, .ref r0), (1, .int (Int32.ofInt (0 + (1 * v0 + 0)))), (2, .int (Int32.ofInt (0 + (1 * v1 + 0)))), (3, .int (Int32.ofInt (0 + (1 * v2 + 0))))] [.int (Int32.ofInt (1 + 0)), .int (Int32.ofInt (0 + (1 * v1 + 0)))] := ?_
  · simpa only [Int.zero_add, Int.one_mul, Int.add_zero] using hraw
  refine seg_ok (D := D_fa19z) (νi := fun i => [v0, v1, v2].getD i 0) (μi := fun i => [r0].getD i 0) k_fa19z hE (mk_ok (ins := iX1_falseAlarms) jX1_falseAlarms fX1_ok lX1_ok kX1_ok kkX1_ok H) (by decide) rfl rfl rfl rfl hh ?_ ?_
  · refine ⟨(eok_of (fun i q hq => ?_) (fun i hi => ?_)), fa0, fa0, ?_, fa0, fa0, fa0⟩
    · match i, hq with
      | 0, hq => cases hq; exact hb0
      | 1, hq => cases hq; exact hb1
      | 2, hq => cases hq; exact hb2
      | i + 3, hq => cases hq
    · match i, hi with
      | 0, hi => exact absurd hi (by decide)
      | 1, hi => exact absurd hi (by decide)
      | 2, hi => exact absurd hi (by decide)
      | i + 3, _ => rfl
    · intro i k hk
      match i, hk with
      | 0, hk => cases hk; exact hr0
      | i + 1, hk => cases hk
  · intro q hq hst K' B' L' f' ν μ h1 h2 h3 h4 h5
    have e0 : ν 0 = v0 := h4 0 (by decide)
    have e1 : ν 1 = v1 := h4 1 (by decide)
    have e2 : ν 2 = v2 := h4 2 (by decide)
    have d0 : μ 0 = r0 := h5 0 (by decide)
    subst e0
    subst e1
    subst e2
    subst d0
    replace hq : q ∈ u_fa19z := hq
    unfold u_fa19z at hq
    simp only [List.mem_cons, List.not_mem_nil, or_false] at hq
    rcases hq with rfl
    · have hst2 : eW E 0 0 L' f' 4 [(0, .ref (μ 0)), (1, .int (Int32.ofInt (0 + (1 * ν 0 + 0)))), (2, .int (Int32.ofInt (0 + (1 * ν 1 + 0)))), (3, .int (Int32.ofInt (1 + (1 * ν 2 + 0))))] [] := ?_
      · exact hst2
      try simp only [Int.zero_add, Int.one_mul, Int.add_zero]
      exact k4 K' B' L' f'   h1 h2 (h3.1 0) (h3.1 1) (h3.1 2) (h3.2.2.2.1 0 62 rfl)

/-! fa19a: from 19 to [4] -/
def w_fa19a : TP := ([(0, (2, 0, (0, []))), (1, (0, 0, (0, [(1, 0)]))), (2, (0, 0, (0, [(1, 1)]))), (3, (0, 0, (0, [(1, 2)])))], [(0, 0, (0, [])), (0, 0, (0, [(1, 1)]))], ([((-2147483648), 2147483647), (0, 12), (0, 11), ((-2147483648), 2147483647)], [((-1), [(1, 0), ((-1), 3)])], [], [62], [((66, (0, [(1, 2)])), (0, [(1, 3)]))], [], []), [], [])
def u_fa19a : List (Nat × TP × EX × Nat × Nat) := [(4, ([(0, (2, 0, (0, []))), (1, (0, 0, (0, [(1, 0)]))), (2, (0, 0, (0, [(1, 1)]))), (3, (0, 0, (1, [(1, 2)])))], [], ([((-2147483647), 2147483647), (0, 12), (0, 11), ((-2147483648), 2147483646)], [((-1), [((-1), 3), (1, 0)])], [], [62], [((66, (0, [(1, 2)])), (0, [(1, 3)]))], [], []), [], []), ((-1), []), 0, 0)]
def D_fa19a : DT := (mkD iX1_falseAlarms fX1 lX1 kX1 kkX1 427 [] (w_fa19a, [], [], 1, 0, 0, 3) false 4 u_fa19a)
theorem k_fa19a : chkS D_fa19a 4000 0 0 19 = true := by decide +kernel
theorem s_fa19a {X0 : zC0} {E : zCx} (H : ∀ j, j < 427 → CMj X0 j) (hE : zOk E X0 RX1 cX1_falseAlarms 4 (zrm 1 0 0)) {K : Nat → Nat} {B : Int} {L : List Nat} {f : Nat → va_E} (hh : hok X0.2.2.1 K B L f) {v0 v1 v2 v3 : Int} {r0 : Nat} (hb0 : (-2147483648) ≤ v0 ∧ v0 ≤ 2147483647) (hb1 : 0 ≤ v1 ∧ v1 ≤ 12) (hb2 : 0 ≤ v2 ∧ v2 ≤ 11) (hb3 : (-2147483648) ≤ v3 ∧ v3 ≤ 2147483647) (hq0 : 0 ≤ ((-1) + (v0 + ((-1) * v3)))) (hr0 : r0 ∈ L ∧ K r0 = 62) (hm0 : (∀ b ∈ L, K b = 66 → (0 : Int) ≤ v2 ∧ gi (f b) ((v2 : Int)).toNat = v3)) (k4 : ∀ (K' : Nat → Nat) (B' : Int) (L' : List Nat) (f' : Nat → va_E), hok X0.2.2.1 K' B' L' f' → extC [] K B L f K' B' L' f' → ((-2147483647) ≤ v0 ∧ v0 ≤ 2147483647) → (0 ≤ v1 ∧ v1 ≤ 12) → (0 ≤ v2 ∧ v2 ≤ 11) → ((-2147483648) ≤ v3 ∧ v3 ≤ 2147483646) → (0 ≤ ((-1) + ((-1) * v3 + v0))) → (r0 ∈ L' ∧ K' r0 = 62) → (∀ b ∈ L', K' b = 66 → (0 : Int) ≤ v2 ∧ gi (f' b) ((v2 : Int)).toNat = v3) → eW E 0 0 L' f' 4 [(0, .ref r0), (1, .int (Int32.ofInt v0)), (2, .int (Int32.ofInt v1)), (3, .int (Int32.ofInt (1 + v2)))] []) : eW E 0 0 L f 19 [(0, .ref r0), (1, .int (Int32.ofInt v0)), (2, .int (Int32.ofInt v1)), (3, .int (Int32.ofInt v2))] [.int (Int32.ofInt 0), .int (Int32.ofInt v1)] := by
  obtain ⟨l0, D0, cy0, ax0⟩ := X0
  have hraw : eW E 0 0 L f 19 [(0, .ref r0), (1, .int (Int32.ofInt (0 + (1 * v0 + 0)))), (2, .int (Int32.ofInt (0 + (1 * v1 + 0)))), (3, .int (Int32.ofInt (0 + (1 * v2 + 0))))] [.int (Int32.ofInt (0 + 0)), .int (Int32.ofInt (0 + (1 * v1 + 0)))] := ?_
  · simpa only [Int.zero_add, Int.one_mul, Int.add_zero] using hraw
  have rq0 : 0 ≤ ((-1) + (1 * v0 + ((-1) * v3 + 0))) := by simpa only [Int.zero_add, Int.one_mul, Int.add_zero] using hq0
  have rm0 : (∀ b ∈ L, K b = 66 → (0 : Int) ≤ (0 + (1 * v2 + 0)) ∧ gi (f b) (((0 + (1 * v2 + 0)) : Int)).toNat = (0 + (1 * v3 + 0))) := by simpa only [Int.zero_add, Int.one_mul, Int.add_zero] using hm0
  refine seg_ok (D := D_fa19a) (νi := fun i => [v0, v1, v2, v3].getD i 0) (μi := fun i => [r0].getD i 0) k_fa19a hE (mk_ok (ins := iX1_falseAlarms) jX1_falseAlarms fX1_ok lX1_ok kX1_ok kkX1_ok H) (by decide) rfl rfl rfl rfl hh ?_ ?_
  · refine ⟨(eok_of (fun i q hq => ?_) (fun i hi => ?_)), (fa_cons (rq0) fa0), fa0, ?_, (fa_cons (Amok hh (show (zkd 66).1 = 2 by decide) (by decide) rm0) fa0), fa0, fa0⟩
    · match i, hq with
      | 0, hq => cases hq; exact hb0
      | 1, hq => cases hq; exact hb1
      | 2, hq => cases hq; exact hb2
      | 3, hq => cases hq; exact hb3
      | i + 4, hq => cases hq
    · match i, hi with
      | 0, hi => exact absurd hi (by decide)
      | 1, hi => exact absurd hi (by decide)
      | 2, hi => exact absurd hi (by decide)
      | 3, hi => exact absurd hi (by decide)
      | i + 4, _ => rfl
    · intro i k hk
      match i, hk with
      | 0, hk => cases hk; exact hr0
      | i + 1, hk => cases hk
  · intro q hq hst K' B' L' f' ν μ h1 h2 h3 h4 h5
    have e0 : ν 0 = v0 := h4 0 (by decide)
    have e1 : ν 1 = v1 := h4 1 (by decide)
    have e2 : ν 2 = v2 := h4 2 (by decide)
    have e3 : ν 3 = v3 := h4 3 (by decide)
    have d0 : μ 0 = r0 := h5 0 (by decide)
    subst e0
    subst e1
    subst e2
    subst e3
    subst d0
    replace hq : q ∈ u_fa19a := hq
    unfold u_fa19a at hq
    simp only [List.mem_cons, List.not_mem_nil, or_false] at hq
    rcases hq with rfl
    · have hst2 : eW E 0 0 L' f' 4 [(0, .ref (μ 0)), (1, .int (Int32.ofInt (0 + (1 * ν 0 + 0)))), (2, .int (Int32.ofInt (0 + (1 * ν 1 + 0)))), (3, .int (Int32.ofInt (1 + (1 * ν 2 + 0))))] [] := ?_
      · exact hst2
      try simp only [Int.zero_add, Int.one_mul, Int.add_zero]
      exact k4 K' B' L' f'   h1 h2 (h3.1 0) (h3.1 1) (h3.1 2) (h3.1 3) (by simpa only [xv, xvT, Int.zero_add, Int.one_mul, Int.add_zero] using (h3.2.1 _ (List.mem_of_getElem? (i := 0) rfl))) (h3.2.2.2.1 0 62 rfl) (by simpa only [xv, xvT, Int.zero_add, Int.one_mul, Int.add_zero] using (mokA h1 (show (zkd 66).1 = 2 by decide) (by decide) (h3.2.2.2.2.1 _ (List.mem_of_getElem? (i := 0) rfl))))

/-! fa19b: from 19 to [4] -/
def w_fa19b : TP := ([(0, (2, 0, (0, []))), (1, (0, 0, (0, [(1, 0)]))), (2, (0, 0, (0, [(1, 1)]))), (3, (0, 0, (0, [(1, 2)])))], [(0, 0, (0, [])), (0, 0, (0, [(1, 1)]))], ([((-2147483648), 2147483647), (0, 12), (0, 11), ((-2147483648), 2147483647)], [(0, [(1, 3), ((-1), 0)])], [], [62], [((66, (0, [(1, 2)])), (0, [(1, 3)]))], [], []), [], [])
def u_fa19b : List (Nat × TP × EX × Nat × Nat) := [(4, ([(0, (2, 0, (0, []))), (1, (0, 0, (0, [(1, 0)]))), (2, (0, 0, (1, [(1, 1)]))), (3, (0, 0, (1, [(1, 2)])))], [], ([((-2147483648), 2147483647), (0, 12), (0, 11), ((-2147483648), 2147483647)], [(0, [(1, 3), ((-1), 0)])], [], [62], [((66, (0, [(1, 2)])), (0, [(1, 3)]))], [], []), [], []), ((-1), []), 0, 0)]
def D_fa19b : DT := (mkD iX1_falseAlarms fX1 lX1 kX1 kkX1 427 [] (w_fa19b, [], [], 1, 0, 0, 3) false 4 u_fa19b)
theorem k_fa19b : chkS D_fa19b 4000 0 0 19 = true := by decide +kernel
theorem s_fa19b {X0 : zC0} {E : zCx} (H : ∀ j, j < 427 → CMj X0 j) (hE : zOk E X0 RX1 cX1_falseAlarms 4 (zrm 1 0 0)) {K : Nat → Nat} {B : Int} {L : List Nat} {f : Nat → va_E} (hh : hok X0.2.2.1 K B L f) {v0 v1 v2 v3 : Int} {r0 : Nat} (hb0 : (-2147483648) ≤ v0 ∧ v0 ≤ 2147483647) (hb1 : 0 ≤ v1 ∧ v1 ≤ 12) (hb2 : 0 ≤ v2 ∧ v2 ≤ 11) (hb3 : (-2147483648) ≤ v3 ∧ v3 ≤ 2147483647) (hq0 : 0 ≤ (v3 + ((-1) * v0))) (hr0 : r0 ∈ L ∧ K r0 = 62) (hm0 : (∀ b ∈ L, K b = 66 → (0 : Int) ≤ v2 ∧ gi (f b) ((v2 : Int)).toNat = v3)) (k4 : ∀ (K' : Nat → Nat) (B' : Int) (L' : List Nat) (f' : Nat → va_E), hok X0.2.2.1 K' B' L' f' → extC [] K B L f K' B' L' f' → ((-2147483648) ≤ v0 ∧ v0 ≤ 2147483647) → (0 ≤ v1 ∧ v1 ≤ 12) → (0 ≤ v2 ∧ v2 ≤ 11) → ((-2147483648) ≤ v3 ∧ v3 ≤ 2147483647) → (0 ≤ (v3 + ((-1) * v0))) → (r0 ∈ L' ∧ K' r0 = 62) → (∀ b ∈ L', K' b = 66 → (0 : Int) ≤ v2 ∧ gi (f' b) ((v2 : Int)).toNat = v3) → eW E 0 0 L' f' 4 [(0, .ref r0), (1, .int (Int32.ofInt v0)), (2, .int (Int32.ofInt (1 + v1))), (3, .int (Int32.ofInt (1 + v2)))] []) : eW E 0 0 L f 19 [(0, .ref r0), (1, .int (Int32.ofInt v0)), (2, .int (Int32.ofInt v1)), (3, .int (Int32.ofInt v2))] [.int (Int32.ofInt 0), .int (Int32.ofInt v1)] := by
  obtain ⟨l0, D0, cy0, ax0⟩ := X0
  have hraw : eW E 0 0 L f 19 [(0, .ref r0), (1, .int (Int32.ofInt (0 + (1 * v0 + 0)))), (2, .int (Int32.ofInt (0 + (1 * v1 + 0)))), (3, .int (Int32.ofInt (0 + (1 * v2 + 0))))] [.int (Int32.ofInt (0 + 0)), .int (Int32.ofInt (0 + (1 * v1 + 0)))] := ?_
  · simpa only [Int.zero_add, Int.one_mul, Int.add_zero] using hraw
  have rq0 : 0 ≤ (0 + (1 * v3 + ((-1) * v0 + 0))) := by simpa only [Int.zero_add, Int.one_mul, Int.add_zero] using hq0
  have rm0 : (∀ b ∈ L, K b = 66 → (0 : Int) ≤ (0 + (1 * v2 + 0)) ∧ gi (f b) (((0 + (1 * v2 + 0)) : Int)).toNat = (0 + (1 * v3 + 0))) := by simpa only [Int.zero_add, Int.one_mul, Int.add_zero] using hm0
  refine seg_ok (D := D_fa19b) (νi := fun i => [v0, v1, v2, v3].getD i 0) (μi := fun i => [r0].getD i 0) k_fa19b hE (mk_ok (ins := iX1_falseAlarms) jX1_falseAlarms fX1_ok lX1_ok kX1_ok kkX1_ok H) (by decide) rfl rfl rfl rfl hh ?_ ?_
  · refine ⟨(eok_of (fun i q hq => ?_) (fun i hi => ?_)), (fa_cons (rq0) fa0), fa0, ?_, (fa_cons (Amok hh (show (zkd 66).1 = 2 by decide) (by decide) rm0) fa0), fa0, fa0⟩
    · match i, hq with
      | 0, hq => cases hq; exact hb0
      | 1, hq => cases hq; exact hb1
      | 2, hq => cases hq; exact hb2
      | 3, hq => cases hq; exact hb3
      | i + 4, hq => cases hq
    · match i, hi with
      | 0, hi => exact absurd hi (by decide)
      | 1, hi => exact absurd hi (by decide)
      | 2, hi => exact absurd hi (by decide)
      | 3, hi => exact absurd hi (by decide)
      | i + 4, _ => rfl
    · intro i k hk
      match i, hk with
      | 0, hk => cases hk; exact hr0
      | i + 1, hk => cases hk
  · intro q hq hst K' B' L' f' ν μ h1 h2 h3 h4 h5
    have e0 : ν 0 = v0 := h4 0 (by decide)
    have e1 : ν 1 = v1 := h4 1 (by decide)
    have e2 : ν 2 = v2 := h4 2 (by decide)
    have e3 : ν 3 = v3 := h4 3 (by decide)
    have d0 : μ 0 = r0 := h5 0 (by decide)
    subst e0
    subst e1
    subst e2
    subst e3
    subst d0
    replace hq : q ∈ u_fa19b := hq
    unfold u_fa19b at hq
    simp only [List.mem_cons, List.not_mem_nil, or_false] at hq
    rcases hq with rfl
    · have hst2 : eW E 0 0 L' f' 4 [(0, .ref (μ 0)), (1, .int (Int32.ofInt (0 + (1 * ν 0 + 0)))), (2, .int (Int32.ofInt (1 + (1 * ν 1 + 0)))), (3, .int (Int32.ofInt (1 + (1 * ν 2 + 0))))] [] := ?_
      · exact hst2
      try simp only [Int.zero_add, Int.one_mul, Int.add_zero]
      exact k4 K' B' L' f'   h1 h2 (h3.1 0) (h3.1 1) (h3.1 2) (h3.1 3) (by simpa only [xv, xvT, Int.zero_add, Int.one_mul, Int.add_zero] using (h3.2.1 _ (List.mem_of_getElem? (i := 0) rfl))) (h3.2.2.2.1 0 62 rfl) (by simpa only [xv, xvT, Int.zero_add, Int.one_mul, Int.add_zero] using (mokA h1 (show (zkd 66).1 = 2 by decide) (by decide) (h3.2.2.2.2.1 _ (List.mem_of_getElem? (i := 0) rfl))))

/-! fa45: from 45 to [46] -/
def w_fa45 : TP := ([(0, (2, 0, (0, []))), (1, (0, 0, (0, [(1, 0)]))), (2, (0, 0, (0, [(1, 1)]))), (3, (0, 0, (0, [(1, 2)])))], [], ([((-2147483648), 2147483647), (0, 12), (0, 12)], [], [], [62], [], [], []), [], [])
def u_fa45 : List (Nat × TP × EX × Nat × Nat) := [(46, ([(0, (2, 0, (0, []))), (1, (0, 0, (0, [(1, 0)]))), (2, (0, 0, (0, [(1, 1)]))), (3, (0, 0, (0, [(1, 2)])))], [(0, 0, (0, [(1, 1)]))], ([((-2147483648), 2147483647), (0, 12), (0, 12)], [], [], [62], [], [], []), [], []), ((-1), []), 0, 0)]
def D_fa45 : DT := (mkD iX1_falseAlarms fX1 lX1 kX1 kkX1 427 [] (w_fa45, [], [], 1, 0, 0, 3) false 4 u_fa45)
theorem k_fa45 : chkS D_fa45 4000 0 0 45 = true := by decide +kernel
theorem s_fa45 {X0 : zC0} {E : zCx} (H : ∀ j, j < 427 → CMj X0 j) (hE : zOk E X0 RX1 cX1_falseAlarms 4 (zrm 1 0 0)) {K : Nat → Nat} {B : Int} {L : List Nat} {f : Nat → va_E} (hh : hok X0.2.2.1 K B L f) {v0 v1 v2 : Int} {r0 : Nat} (hb0 : (-2147483648) ≤ v0 ∧ v0 ≤ 2147483647) (hb1 : 0 ≤ v1 ∧ v1 ≤ 12) (hb2 : 0 ≤ v2 ∧ v2 ≤ 12) (hr0 : r0 ∈ L ∧ K r0 = 62) (k46 : ∀ (K' : Nat → Nat) (B' : Int) (L' : List Nat) (f' : Nat → va_E), hok X0.2.2.1 K' B' L' f' → extC [] K B L f K' B' L' f' → ((-2147483648) ≤ v0 ∧ v0 ≤ 2147483647) → (0 ≤ v1 ∧ v1 ≤ 12) → (0 ≤ v2 ∧ v2 ≤ 12) → (r0 ∈ L' ∧ K' r0 = 62) → eW E 0 0 L' f' 46 [(0, .ref r0), (1, .int (Int32.ofInt v0)), (2, .int (Int32.ofInt v1)), (3, .int (Int32.ofInt v2))] [.int (Int32.ofInt v1)]) : eW E 0 0 L f 45 [(0, .ref r0), (1, .int (Int32.ofInt v0)), (2, .int (Int32.ofInt v1)), (3, .int (Int32.ofInt v2))] [] := by
  obtain ⟨l0, D0, cy0, ax0⟩ := X0
  have hraw : eW E 0 0 L f 45 [(0, .ref r0), (1, .int (Int32.ofInt (0 + (1 * v0 + 0)))), (2, .int (Int32.ofInt (0 + (1 * v1 + 0)))), (3, .int (Int32.ofInt (0 + (1 * v2 + 0))))] [] := ?_
  · simpa only [Int.zero_add, Int.one_mul, Int.add_zero] using hraw
  refine seg_ok (D := D_fa45) (νi := fun i => [v0, v1, v2].getD i 0) (μi := fun i => [r0].getD i 0) k_fa45 hE (mk_ok (ins := iX1_falseAlarms) jX1_falseAlarms fX1_ok lX1_ok kX1_ok kkX1_ok H) (by decide) rfl rfl rfl rfl hh ?_ ?_
  · refine ⟨(eok_of (fun i q hq => ?_) (fun i hi => ?_)), fa0, fa0, ?_, fa0, fa0, fa0⟩
    · match i, hq with
      | 0, hq => cases hq; exact hb0
      | 1, hq => cases hq; exact hb1
      | 2, hq => cases hq; exact hb2
      | i + 3, hq => cases hq
    · match i, hi with
      | 0, hi => exact absurd hi (by decide)
      | 1, hi => exact absurd hi (by decide)
      | 2, hi => exact absurd hi (by decide)
      | i + 3, _ => rfl
    · intro i k hk
      match i, hk with
      | 0, hk => cases hk; exact hr0
      | i + 1, hk => cases hk
  · intro q hq hst K' B' L' f' ν μ h1 h2 h3 h4 h5
    have e0 : ν 0 = v0 := h4 0 (by decide)
    have e1 : ν 1 = v1 := h4 1 (by decide)
    have e2 : ν 2 = v2 := h4 2 (by decide)
    have d0 : μ 0 = r0 := h5 0 (by decide)
    subst e0
    subst e1
    subst e2
    subst d0
    replace hq : q ∈ u_fa45 := hq
    unfold u_fa45 at hq
    simp only [List.mem_cons, List.not_mem_nil, or_false] at hq
    rcases hq with rfl
    · have hst2 : eW E 0 0 L' f' 46 [(0, .ref (μ 0)), (1, .int (Int32.ofInt (0 + (1 * ν 0 + 0)))), (2, .int (Int32.ofInt (0 + (1 * ν 1 + 0)))), (3, .int (Int32.ofInt (0 + (1 * ν 2 + 0))))] [.int (Int32.ofInt (0 + (1 * ν 1 + 0)))] := ?_
      · exact hst2
      try simp only [Int.zero_add, Int.one_mul, Int.add_zero]
      exact k46 K' B' L' f'   h1 h2 (h3.1 0) (h3.1 1) (h3.1 2) (h3.2.2.2.1 0 62 rfl)

/-! eo0: from 0 to [5] -/
def w_eo0 : TP := ([(0, (2, 0, (0, []))), (1, (0, 0, (0, [(1, 0)]))), (2, (0, 0, (0, [(1, 1)])))], [], ([((-2147483648), 2147483647), (0, 1)], [], [], [200], [], [], []), [], [])
def u_eo0 : List (Nat × TP × EX × Nat × Nat) := [(5, ([(0, (2, 0, (0, []))), (1, (0, 0, (0, [(1, 0)]))), (2, (0, 0, (0, [(1, 1)]))), (3, (0, 0, (0, []))), (4, (0, 0, (0, [])))], [], ([((-2147483648), 2147483647), (0, 1)], [], [], [200], [], [], []), [], []), ((-1), []), 0, 0)]
def D_eo0 : DT := (mkD iX12_errorsOf fX12 lX12 kX12 kkX12 427 [] (w_eo0, [], [], 1, 0, 0, 3) false 7 u_eo0)
theorem k_eo0 : chkS D_eo0 4000 0 0 0 = true := by decide +kernel
theorem s_eo0 {X0 : zC0} {E : zCx} (H : ∀ j, j < 427 → CMj X0 j) (hE : zOk E X0 RX12 cX12_errorsOf 7 (zrm 1 0 0)) {K : Nat → Nat} {B : Int} {L : List Nat} {f : Nat → va_E} (hh : hok X0.2.2.1 K B L f) {v0 v1 : Int} {r0 : Nat} (hb0 : (-2147483648) ≤ v0 ∧ v0 ≤ 2147483647) (hb1 : 0 ≤ v1 ∧ v1 ≤ 1) (hr0 : r0 ∈ L ∧ K r0 = 200) (k5 : ∀ (K' : Nat → Nat) (B' : Int) (L' : List Nat) (f' : Nat → va_E), hok X0.2.2.1 K' B' L' f' → extC [] K B L f K' B' L' f' → ((-2147483648) ≤ v0 ∧ v0 ≤ 2147483647) → (0 ≤ v1 ∧ v1 ≤ 1) → (r0 ∈ L' ∧ K' r0 = 200) → eW E 0 0 L' f' 5 [(0, .ref r0), (1, .int (Int32.ofInt v0)), (2, .int (Int32.ofInt v1)), (3, .int (Int32.ofInt 0)), (4, .int (Int32.ofInt 0))] []) : eW E 0 0 L f 0 [(0, .ref r0), (1, .int (Int32.ofInt v0)), (2, .int (Int32.ofInt v1))] [] := by
  obtain ⟨l0, D0, cy0, ax0⟩ := X0
  have hraw : eW E 0 0 L f 0 [(0, .ref r0), (1, .int (Int32.ofInt (0 + (1 * v0 + 0)))), (2, .int (Int32.ofInt (0 + (1 * v1 + 0))))] [] := ?_
  · simpa only [Int.zero_add, Int.one_mul, Int.add_zero] using hraw
  refine seg_ok (D := D_eo0) (νi := fun i => [v0, v1].getD i 0) (μi := fun i => [r0].getD i 0) k_eo0 hE (mk_ok (ins := iX12_errorsOf) jX12_errorsOf fX12_ok lX12_ok kX12_ok kkX12_ok H) (by decide) rfl rfl rfl rfl hh ?_ ?_
  · refine ⟨(eok_of (fun i q hq => ?_) (fun i hi => ?_)), fa0, fa0, ?_, fa0, fa0, fa0⟩
    · match i, hq with
      | 0, hq => cases hq; exact hb0
      | 1, hq => cases hq; exact hb1
      | i + 2, hq => cases hq
    · match i, hi with
      | 0, hi => exact absurd hi (by decide)
      | 1, hi => exact absurd hi (by decide)
      | i + 2, _ => rfl
    · intro i k hk
      match i, hk with
      | 0, hk => cases hk; exact hr0
      | i + 1, hk => cases hk
  · intro q hq hst K' B' L' f' ν μ h1 h2 h3 h4 h5
    have e0 : ν 0 = v0 := h4 0 (by decide)
    have e1 : ν 1 = v1 := h4 1 (by decide)
    have d0 : μ 0 = r0 := h5 0 (by decide)
    subst e0
    subst e1
    subst d0
    replace hq : q ∈ u_eo0 := hq
    unfold u_eo0 at hq
    simp only [List.mem_cons, List.not_mem_nil, or_false] at hq
    rcases hq with rfl
    · have hst2 : eW E 0 0 L' f' 5 [(0, .ref (μ 0)), (1, .int (Int32.ofInt (0 + (1 * ν 0 + 0)))), (2, .int (Int32.ofInt (0 + (1 * ν 1 + 0)))), (3, .int (Int32.ofInt (0 + 0))), (4, .int (Int32.ofInt (0 + 0)))] [] := ?_
      · exact hst2
      try simp only [Int.zero_add, Int.one_mul, Int.add_zero]
      exact k5 K' B' L' f'   h1 h2 (h3.1 0) (h3.1 1) (h3.2.2.2.1 0 200 rfl)

/-! eo5: from 5 to [17, 113] -/
def w_eo5 : TP := ([(0, (2, 0, (0, []))), (1, (0, 0, (0, [(1, 0)]))), (2, (0, 0, (0, [(1, 1)]))), (3, (0, 0, (0, [(1, 2)]))), (4, (0, 0, (0, [(1, 3)])))], [], ([((-2147483648), 2147483647), (0, 1), (0, 12), (0, 12)], [], [], [200], [], [], []), [], [])
def u_eo5 : List (Nat × TP × EX × Nat × Nat) := [(17, ([(0, (2, 0, (0, []))), (1, (0, 0, (0, [(1, 0)]))), (2, (0, 0, (0, [(1, 1)]))), (3, (0, 0, (0, [(1, 2)]))), (4, (0, 0, (0, [(1, 3)])))], [], ([((-2147483648), 2147483647), (0, 1), (0, 12), (0, 11), (1, 12)], [((-1), [((-1), 3), (1, 4)])], [], [200], [((201, (11, [])), (0, [(1, 4)]))], [], []), [(2, 201, (11, []))], []), ((-1), []), 0, 0), (113, ([(0, (2, 0, (0, []))), (1, (0, 0, (0, [(1, 0)]))), (2, (0, 0, (0, [(1, 1)]))), (3, (0, 0, (0, [(1, 2)]))), (4, (0, 0, (0, [(1, 3)])))], [], ([((-2147483648), 2147483647), (0, 1), (0, 12), (0, 12), (0, 12)], [(0, [(1, 3), ((-1), 4)])], [], [200], [((201, (11, [])), (0, [(1, 4)]))], [], []), [(2, 201, (11, []))], []), ((-1), []), 0, 0)]
def D_eo5 : DT := (mkD iX12_errorsOf fX12 lX12 kX12 kkX12 427 [] (w_eo5, [], [], 1, 0, 0, 3) false 7 u_eo5)
theorem k_eo5 : chkS D_eo5 4000 0 0 5 = true := by decide +kernel
theorem s_eo5 {X0 : zC0} {E : zCx} (H : ∀ j, j < 427 → CMj X0 j) (hE : zOk E X0 RX12 cX12_errorsOf 7 (zrm 1 0 0)) {K : Nat → Nat} {B : Int} {L : List Nat} {f : Nat → va_E} (hh : hok X0.2.2.1 K B L f) {v0 v1 v2 v3 : Int} {r0 : Nat} (hb0 : (-2147483648) ≤ v0 ∧ v0 ≤ 2147483647) (hb1 : 0 ≤ v1 ∧ v1 ≤ 1) (hb2 : 0 ≤ v2 ∧ v2 ≤ 12) (hb3 : 0 ≤ v3 ∧ v3 ≤ 12) (hr0 : r0 ∈ L ∧ K r0 = 200) (k17 : ∀ (K' : Nat → Nat) (B' : Int) (L' : List Nat) (f' : Nat → va_E) (v4 : Int), hok X0.2.2.1 K' B' L' f' → extC [] K B L f K' B' L' f' → ((-2147483648) ≤ v0 ∧ v0 ≤ 2147483647) → (0 ≤ v1 ∧ v1 ≤ 1) → (0 ≤ v2 ∧ v2 ≤ 12) → (0 ≤ v3 ∧ v3 ≤ 11) → (1 ≤ v4 ∧ v4 ≤ 12) → (0 ≤ ((-1) + ((-1) * v3 + v4))) → (r0 ∈ L' ∧ K' r0 = 200) → (∀ b ∈ L', K' b = 201 → (0 : Int) ≤ 11 ∧ gi (f' b) ((11 : Int)).toNat = v4) → eW E 0 0 L' f' 17 [(0, .ref r0), (1, .int (Int32.ofInt v0)), (2, .int (Int32.ofInt v1)), (3, .int (Int32.ofInt v2)), (4, .int (Int32.ofInt v3))] []) (k113 : ∀ (K' : Nat → Nat) (B' : Int) (L' : List Nat) (f' : Nat → va_E) (v4 : Int), hok X0.2.2.1 K' B' L' f' → extC [] K B L f K' B' L' f' → ((-2147483648) ≤ v0 ∧ v0 ≤ 2147483647) → (0 ≤ v1 ∧ v1 ≤ 1) → (0 ≤ v2 ∧ v2 ≤ 12) → (0 ≤ v3 ∧ v3 ≤ 12) → (0 ≤ v4 ∧ v4 ≤ 12) → (0 ≤ (v3 + ((-1) * v4))) → (r0 ∈ L' ∧ K' r0 = 200) → (∀ b ∈ L', K' b = 201 → (0 : Int) ≤ 11 ∧ gi (f' b) ((11 : Int)).toNat = v4) → eW E 0 0 L' f' 113 [(0, .ref r0), (1, .int (Int32.ofInt v0)), (2, .int (Int32.ofInt v1)), (3, .int (Int32.ofInt v2)), (4, .int (Int32.ofInt v3))] []) : eW E 0 0 L f 5 [(0, .ref r0), (1, .int (Int32.ofInt v0)), (2, .int (Int32.ofInt v1)), (3, .int (Int32.ofInt v2)), (4, .int (Int32.ofInt v3))] [] := by
  obtain ⟨l0, D0, cy0, ax0⟩ := X0
  have hraw : eW E 0 0 L f 5 [(0, .ref r0), (1, .int (Int32.ofInt (0 + (1 * v0 + 0)))), (2, .int (Int32.ofInt (0 + (1 * v1 + 0)))), (3, .int (Int32.ofInt (0 + (1 * v2 + 0)))), (4, .int (Int32.ofInt (0 + (1 * v3 + 0))))] [] := ?_
  · simpa only [Int.zero_add, Int.one_mul, Int.add_zero] using hraw
  refine seg_ok (D := D_eo5) (νi := fun i => [v0, v1, v2, v3].getD i 0) (μi := fun i => [r0].getD i 0) k_eo5 hE (mk_ok (ins := iX12_errorsOf) jX12_errorsOf fX12_ok lX12_ok kX12_ok kkX12_ok H) (by decide) rfl rfl rfl rfl hh ?_ ?_
  · refine ⟨(eok_of (fun i q hq => ?_) (fun i hi => ?_)), fa0, fa0, ?_, fa0, fa0, fa0⟩
    · match i, hq with
      | 0, hq => cases hq; exact hb0
      | 1, hq => cases hq; exact hb1
      | 2, hq => cases hq; exact hb2
      | 3, hq => cases hq; exact hb3
      | i + 4, hq => cases hq
    · match i, hi with
      | 0, hi => exact absurd hi (by decide)
      | 1, hi => exact absurd hi (by decide)
      | 2, hi => exact absurd hi (by decide)
      | 3, hi => exact absurd hi (by decide)
      | i + 4, _ => rfl
    · intro i k hk
      match i, hk with
      | 0, hk => cases hk; exact hr0
      | i + 1, hk => cases hk
  · intro q hq hst K' B' L' f' ν μ h1 h2 h3 h4 h5
    have e0 : ν 0 = v0 := h4 0 (by decide)
    have e1 : ν 1 = v1 := h4 1 (by decide)
    have e2 : ν 2 = v2 := h4 2 (by decide)
    have e3 : ν 3 = v3 := h4 3 (by decide)
    have d0 : μ 0 = r0 := h5 0 (by decide)
    subst e0
    subst e1
    subst e2
    subst e3
    subst d0
    replace hq : q ∈ u_eo5 := hq
    unfold u_eo5 at hq
    simp only [List.mem_cons, List.not_mem_nil, or_false] at hq
    rcases hq with rfl | rfl
    · have hst2 : eW E 0 0 L' f' 17 [(0, .ref (μ 0)), (1, .int (Int32.ofInt (0 + (1 * ν 0 + 0)))), (2, .int (Int32.ofInt (0 + (1 * ν 1 + 0)))), (3, .int (Int32.ofInt (0 + (1 * ν 2 + 0)))), (4, .int (Int32.ofInt (0 + (1 * ν 3 + 0))))] [] := ?_
      · exact hst2
      try simp only [Int.zero_add, Int.one_mul, Int.add_zero]
      exact k17 K' B' L' f' (ν 4)  h1 h2 (h3.1 0) (h3.1 1) (h3.1 2) (h3.1 3) (h3.1 4) (by simpa only [xv, xvT, Int.zero_add, Int.one_mul, Int.add_zero] using (h3.2.1 _ (List.mem_of_getElem? (i := 0) rfl))) (h3.2.2.2.1 0 200 rfl) (by simpa only [xv, xvT, Int.zero_add, Int.one_mul, Int.add_zero] using (mokA h1 (show (zkd 201).1 = 2 by decide) (by decide) (h3.2.2.2.2.1 _ (List.mem_of_getElem? (i := 0) rfl))))
    · have hst2 : eW E 0 0 L' f' 113 [(0, .ref (μ 0)), (1, .int (Int32.ofInt (0 + (1 * ν 0 + 0)))), (2, .int (Int32.ofInt (0 + (1 * ν 1 + 0)))), (3, .int (Int32.ofInt (0 + (1 * ν 2 + 0)))), (4, .int (Int32.ofInt (0 + (1 * ν 3 + 0))))] [] := ?_
      · exact hst2
      try simp only [Int.zero_add, Int.one_mul, Int.add_zero]
      exact k113 K' B' L' f' (ν 4)  h1 h2 (h3.1 0) (h3.1 1) (h3.1 2) (h3.1 3) (h3.1 4) (by simpa only [xv, xvT, Int.zero_add, Int.one_mul, Int.add_zero] using (h3.2.1 _ (List.mem_of_getElem? (i := 0) rfl))) (h3.2.2.2.1 0 200 rfl) (by simpa only [xv, xvT, Int.zero_add, Int.one_mul, Int.add_zero] using (mokA h1 (show (zkd 201).1 = 2 by decide) (by decide) (h3.2.2.2.2.1 _ (List.mem_of_getElem? (i := 0) rfl))))

/-! eo1700a: from 17 to [5] -/
def w_eo1700a : TP := ([(0, (2, 0, (0, []))), (1, (0, 0, (0, [(1, 0)]))), (2, (0, 0, (0, []))), (3, (0, 0, (0, [(1, 1)]))), (4, (0, 0, (0, [(1, 2)])))], [], ([((-2147483648), 2147483647), (0, 12), (0, 11), ((-2147483648), 2147483647)], [((-1), [(1, 0), ((-1), 3)])], [], [200], [((201, (132, [(2, 2)])), (0, [(1, 3)])), ((201, (133, [(2, 2)])), (0, []))], [], []), [], [])
def u_eo1700a : List (Nat × TP × EX × Nat × Nat) := [(5, ([(0, (2, 0, (0, []))), (1, (0, 0, (0, [(1, 0)]))), (2, (0, 0, (0, []))), (3, (0, 0, (0, [(1, 1)]))), (4, (0, 0, (1, [(1, 2)]))), (5, (0, 0, (0, []))), (6, (0, 0, (0, [])))], [], ([((-2147483647), 2147483647), (0, 12), (0, 11), ((-2147483648), 2147483646)], [((-1), [((-1), 3), (1, 0)])], [], [200], [((201, (132, [(2, 2)])), (0, [(1, 3)])), ((201, (133, [(2, 2)])), (0, []))], [], []), [], []), ((-1), []), 0, 0)]
def D_eo1700a : DT := (mkD iX12_errorsOf fX12 lX12 kX12 kkX12 427 [] (w_eo1700a, [], [], 1, 0, 0, 3) false 7 u_eo1700a)
theorem k_eo1700a : chkS D_eo1700a 4000 0 0 17 = true := by decide +kernel
theorem s_eo1700a {X0 : zC0} {E : zCx} (H : ∀ j, j < 427 → CMj X0 j) (hE : zOk E X0 RX12 cX12_errorsOf 7 (zrm 1 0 0)) {K : Nat → Nat} {B : Int} {L : List Nat} {f : Nat → va_E} (hh : hok X0.2.2.1 K B L f) {v0 v1 v2 v3 : Int} {r0 : Nat} (hb0 : (-2147483648) ≤ v0 ∧ v0 ≤ 2147483647) (hb1 : 0 ≤ v1 ∧ v1 ≤ 12) (hb2 : 0 ≤ v2 ∧ v2 ≤ 11) (hb3 : (-2147483648) ≤ v3 ∧ v3 ≤ 2147483647) (hq0 : 0 ≤ ((-1) + (v0 + ((-1) * v3)))) (hr0 : r0 ∈ L ∧ K r0 = 200) (hm0 : (∀ b ∈ L, K b = 201 → (0 : Int) ≤ (132 + (2 * v2)) ∧ gi (f b) (((132 + (2 * v2)) : Int)).toNat = v3)) (hm1 : (∀ b ∈ L, K b = 201 → (0 : Int) ≤ (133 + (2 * v2)) ∧ gi (f b) (((133 + (2 * v2)) : Int)).toNat = 0)) (k5 : ∀ (K' : Nat → Nat) (B' : Int) (L' : List Nat) (f' : Nat → va_E), hok X0.2.2.1 K' B' L' f' → extC [] K B L f K' B' L' f' → ((-2147483647) ≤ v0 ∧ v0 ≤ 2147483647) → (0 ≤ v1 ∧ v1 ≤ 12) → (0 ≤ v2 ∧ v2 ≤ 11) → ((-2147483648) ≤ v3 ∧ v3 ≤ 2147483646) → (0 ≤ ((-1) + ((-1) * v3 + v0))) → (r0 ∈ L' ∧ K' r0 = 200) → (∀ b ∈ L', K' b = 201 → (0 : Int) ≤ (132 + (2 * v2)) ∧ gi (f' b) (((132 + (2 * v2)) : Int)).toNat = v3) → (∀ b ∈ L', K' b = 201 → (0 : Int) ≤ (133 + (2 * v2)) ∧ gi (f' b) (((133 + (2 * v2)) : Int)).toNat = 0) → eW E 0 0 L' f' 5 [(0, .ref r0), (1, .int (Int32.ofInt v0)), (2, .int (Int32.ofInt 0)), (3, .int (Int32.ofInt v1)), (4, .int (Int32.ofInt (1 + v2))), (5, .int (Int32.ofInt 0)), (6, .int (Int32.ofInt 0))] []) : eW E 0 0 L f 17 [(0, .ref r0), (1, .int (Int32.ofInt v0)), (2, .int (Int32.ofInt 0)), (3, .int (Int32.ofInt v1)), (4, .int (Int32.ofInt v2))] [] := by
  obtain ⟨l0, D0, cy0, ax0⟩ := X0
  have hraw : eW E 0 0 L f 17 [(0, .ref r0), (1, .int (Int32.ofInt (0 + (1 * v0 + 0)))), (2, .int (Int32.ofInt (0 + 0))), (3, .int (Int32.ofInt (0 + (1 * v1 + 0)))), (4, .int (Int32.ofInt (0 + (1 * v2 + 0))))] [] := ?_
  · simpa only [Int.zero_add, Int.one_mul, Int.add_zero] using hraw
  have rq0 : 0 ≤ ((-1) + (1 * v0 + ((-1) * v3 + 0))) := by simpa only [Int.zero_add, Int.one_mul, Int.add_zero] using hq0
  have rm0 : (∀ b ∈ L, K b = 201 → (0 : Int) ≤ (132 + (2 * v2 + 0)) ∧ gi (f b) (((132 + (2 * v2 + 0)) : Int)).toNat = (0 + (1 * v3 + 0))) := by simpa only [Int.zero_add, Int.one_mul, Int.add_zero] using hm0
  have rm1 : (∀ b ∈ L, K b = 201 → (0 : Int) ≤ (133 + (2 * v2 + 0)) ∧ gi (f b) (((133 + (2 * v2 + 0)) : Int)).toNat = (0 + 0)) := by simpa only [Int.zero_add, Int.one_mul, Int.add_zero] using hm1
  refine seg_ok (D := D_eo1700a) (νi := fun i => [v0, v1, v2, v3].getD i 0) (μi := fun i => [r0].getD i 0) k_eo1700a hE (mk_ok (ins := iX12_errorsOf) jX12_errorsOf fX12_ok lX12_ok kX12_ok kkX12_ok H) (by decide) rfl rfl rfl rfl hh ?_ ?_
  · refine ⟨(eok_of (fun i q hq => ?_) (fun i hi => ?_)), (fa_cons (rq0) fa0), fa0, ?_, (fa_cons (Amok hh (show (zkd 201).1 = 2 by decide) (by decide) rm0) (fa_cons (Amok hh (show (zkd 201).1 = 2 by decide) (by decide) rm1) fa0)), fa0, fa0⟩
    · match i, hq with
      | 0, hq => cases hq; exact hb0
      | 1, hq => cases hq; exact hb1
      | 2, hq => cases hq; exact hb2
      | 3, hq => cases hq; exact hb3
      | i + 4, hq => cases hq
    · match i, hi with
      | 0, hi => exact absurd hi (by decide)
      | 1, hi => exact absurd hi (by decide)
      | 2, hi => exact absurd hi (by decide)
      | 3, hi => exact absurd hi (by decide)
      | i + 4, _ => rfl
    · intro i k hk
      match i, hk with
      | 0, hk => cases hk; exact hr0
      | i + 1, hk => cases hk
  · intro q hq hst K' B' L' f' ν μ h1 h2 h3 h4 h5
    have e0 : ν 0 = v0 := h4 0 (by decide)
    have e1 : ν 1 = v1 := h4 1 (by decide)
    have e2 : ν 2 = v2 := h4 2 (by decide)
    have e3 : ν 3 = v3 := h4 3 (by decide)
    have d0 : μ 0 = r0 := h5 0 (by decide)
    subst e0
    subst e1
    subst e2
    subst e3
    subst d0
    replace hq : q ∈ u_eo1700a := hq
    unfold u_eo1700a at hq
    simp only [List.mem_cons, List.not_mem_nil, or_false] at hq
    rcases hq with rfl
    · have hst2 : eW E 0 0 L' f' 5 [(0, .ref (μ 0)), (1, .int (Int32.ofInt (0 + (1 * ν 0 + 0)))), (2, .int (Int32.ofInt (0 + 0))), (3, .int (Int32.ofInt (0 + (1 * ν 1 + 0)))), (4, .int (Int32.ofInt (1 + (1 * ν 2 + 0)))), (5, .int (Int32.ofInt (0 + 0))), (6, .int (Int32.ofInt (0 + 0)))] [] := ?_
      · exact hst2
      try simp only [Int.zero_add, Int.one_mul, Int.add_zero]
      exact k5 K' B' L' f'   h1 h2 (h3.1 0) (h3.1 1) (h3.1 2) (h3.1 3) (by simpa only [xv, xvT, Int.zero_add, Int.one_mul, Int.add_zero] using (h3.2.1 _ (List.mem_of_getElem? (i := 0) rfl))) (h3.2.2.2.1 0 200 rfl) (by simpa only [xv, xvT, Int.zero_add, Int.one_mul, Int.add_zero] using (mokA h1 (show (zkd 201).1 = 2 by decide) (by decide) (h3.2.2.2.2.1 _ (List.mem_of_getElem? (i := 0) rfl)))) (by simpa only [xv, xvT, Int.zero_add, Int.one_mul, Int.add_zero] using (mokA h1 (show (zkd 201).1 = 2 by decide) (by decide) (h3.2.2.2.2.1 _ (List.mem_of_getElem? (i := 1) rfl))))

/-! eo1700b: from 17 to [5] -/
def w_eo1700b : TP := ([(0, (2, 0, (0, []))), (1, (0, 0, (0, [(1, 0)]))), (2, (0, 0, (0, []))), (3, (0, 0, (0, [(1, 1)]))), (4, (0, 0, (0, [(1, 2)])))], [], ([((-2147483648), 2147483647), (0, 12), (0, 11), ((-2147483648), 2147483647)], [(0, [(1, 3), ((-1), 0)])], [], [200], [((201, (132, [(2, 2)])), (0, [(1, 3)])), ((201, (133, [(2, 2)])), (0, []))], [], []), [], [])
def u_eo1700b : List (Nat × TP × EX × Nat × Nat) := [(5, ([(0, (2, 0, (0, []))), (1, (0, 0, (0, [(1, 0)]))), (2, (0, 0, (0, []))), (3, (0, 0, (1, [(1, 1)]))), (4, (0, 0, (1, [(1, 2)]))), (5, (0, 0, (1, []))), (6, (0, 0, (0, [])))], [], ([((-2147483648), 2147483647), (0, 12), (0, 11), ((-2147483648), 2147483647)], [(0, [(1, 3), ((-1), 0)])], [], [200], [((201, (132, [(2, 2)])), (0, [(1, 3)])), ((201, (133, [(2, 2)])), (0, []))], [], []), [], []), ((-1), []), 0, 0)]
def D_eo1700b : DT := (mkD iX12_errorsOf fX12 lX12 kX12 kkX12 427 [] (w_eo1700b, [], [], 1, 0, 0, 3) false 7 u_eo1700b)
theorem k_eo1700b : chkS D_eo1700b 4000 0 0 17 = true := by decide +kernel
theorem s_eo1700b {X0 : zC0} {E : zCx} (H : ∀ j, j < 427 → CMj X0 j) (hE : zOk E X0 RX12 cX12_errorsOf 7 (zrm 1 0 0)) {K : Nat → Nat} {B : Int} {L : List Nat} {f : Nat → va_E} (hh : hok X0.2.2.1 K B L f) {v0 v1 v2 v3 : Int} {r0 : Nat} (hb0 : (-2147483648) ≤ v0 ∧ v0 ≤ 2147483647) (hb1 : 0 ≤ v1 ∧ v1 ≤ 12) (hb2 : 0 ≤ v2 ∧ v2 ≤ 11) (hb3 : (-2147483648) ≤ v3 ∧ v3 ≤ 2147483647) (hq0 : 0 ≤ (v3 + ((-1) * v0))) (hr0 : r0 ∈ L ∧ K r0 = 200) (hm0 : (∀ b ∈ L, K b = 201 → (0 : Int) ≤ (132 + (2 * v2)) ∧ gi (f b) (((132 + (2 * v2)) : Int)).toNat = v3)) (hm1 : (∀ b ∈ L, K b = 201 → (0 : Int) ≤ (133 + (2 * v2)) ∧ gi (f b) (((133 + (2 * v2)) : Int)).toNat = 0)) (k5 : ∀ (K' : Nat → Nat) (B' : Int) (L' : List Nat) (f' : Nat → va_E), hok X0.2.2.1 K' B' L' f' → extC [] K B L f K' B' L' f' → ((-2147483648) ≤ v0 ∧ v0 ≤ 2147483647) → (0 ≤ v1 ∧ v1 ≤ 12) → (0 ≤ v2 ∧ v2 ≤ 11) → ((-2147483648) ≤ v3 ∧ v3 ≤ 2147483647) → (0 ≤ (v3 + ((-1) * v0))) → (r0 ∈ L' ∧ K' r0 = 200) → (∀ b ∈ L', K' b = 201 → (0 : Int) ≤ (132 + (2 * v2)) ∧ gi (f' b) (((132 + (2 * v2)) : Int)).toNat = v3) → (∀ b ∈ L', K' b = 201 → (0 : Int) ≤ (133 + (2 * v2)) ∧ gi (f' b) (((133 + (2 * v2)) : Int)).toNat = 0) → eW E 0 0 L' f' 5 [(0, .ref r0), (1, .int (Int32.ofInt v0)), (2, .int (Int32.ofInt 0)), (3, .int (Int32.ofInt (1 + v1))), (4, .int (Int32.ofInt (1 + v2))), (5, .int (Int32.ofInt 1)), (6, .int (Int32.ofInt 0))] []) : eW E 0 0 L f 17 [(0, .ref r0), (1, .int (Int32.ofInt v0)), (2, .int (Int32.ofInt 0)), (3, .int (Int32.ofInt v1)), (4, .int (Int32.ofInt v2))] [] := by
  obtain ⟨l0, D0, cy0, ax0⟩ := X0
  have hraw : eW E 0 0 L f 17 [(0, .ref r0), (1, .int (Int32.ofInt (0 + (1 * v0 + 0)))), (2, .int (Int32.ofInt (0 + 0))), (3, .int (Int32.ofInt (0 + (1 * v1 + 0)))), (4, .int (Int32.ofInt (0 + (1 * v2 + 0))))] [] := ?_
  · simpa only [Int.zero_add, Int.one_mul, Int.add_zero] using hraw
  have rq0 : 0 ≤ (0 + (1 * v3 + ((-1) * v0 + 0))) := by simpa only [Int.zero_add, Int.one_mul, Int.add_zero] using hq0
  have rm0 : (∀ b ∈ L, K b = 201 → (0 : Int) ≤ (132 + (2 * v2 + 0)) ∧ gi (f b) (((132 + (2 * v2 + 0)) : Int)).toNat = (0 + (1 * v3 + 0))) := by simpa only [Int.zero_add, Int.one_mul, Int.add_zero] using hm0
  have rm1 : (∀ b ∈ L, K b = 201 → (0 : Int) ≤ (133 + (2 * v2 + 0)) ∧ gi (f b) (((133 + (2 * v2 + 0)) : Int)).toNat = (0 + 0)) := by simpa only [Int.zero_add, Int.one_mul, Int.add_zero] using hm1
  refine seg_ok (D := D_eo1700b) (νi := fun i => [v0, v1, v2, v3].getD i 0) (μi := fun i => [r0].getD i 0) k_eo1700b hE (mk_ok (ins := iX12_errorsOf) jX12_errorsOf fX12_ok lX12_ok kX12_ok kkX12_ok H) (by decide) rfl rfl rfl rfl hh ?_ ?_
  · refine ⟨(eok_of (fun i q hq => ?_) (fun i hi => ?_)), (fa_cons (rq0) fa0), fa0, ?_, (fa_cons (Amok hh (show (zkd 201).1 = 2 by decide) (by decide) rm0) (fa_cons (Amok hh (show (zkd 201).1 = 2 by decide) (by decide) rm1) fa0)), fa0, fa0⟩
    · match i, hq with
      | 0, hq => cases hq; exact hb0
      | 1, hq => cases hq; exact hb1
      | 2, hq => cases hq; exact hb2
      | 3, hq => cases hq; exact hb3
      | i + 4, hq => cases hq
    · match i, hi with
      | 0, hi => exact absurd hi (by decide)
      | 1, hi => exact absurd hi (by decide)
      | 2, hi => exact absurd hi (by decide)
      | 3, hi => exact absurd hi (by decide)
      | i + 4, _ => rfl
    · intro i k hk
      match i, hk with
      | 0, hk => cases hk; exact hr0
      | i + 1, hk => cases hk
  · intro q hq hst K' B' L' f' ν μ h1 h2 h3 h4 h5
    have e0 : ν 0 = v0 := h4 0 (by decide)
    have e1 : ν 1 = v1 := h4 1 (by decide)
    have e2 : ν 2 = v2 := h4 2 (by decide)
    have e3 : ν 3 = v3 := h4 3 (by decide)
    have d0 : μ 0 = r0 := h5 0 (by decide)
    subst e0
    subst e1
    subst e2
    subst e3
    subst d0
    replace hq : q ∈ u_eo1700b := hq
    unfold u_eo1700b at hq
    simp only [List.mem_cons, List.not_mem_nil, or_false] at hq
    rcases hq with rfl
    · have hst2 : eW E 0 0 L' f' 5 [(0, .ref (μ 0)), (1, .int (Int32.ofInt (0 + (1 * ν 0 + 0)))), (2, .int (Int32.ofInt (0 + 0))), (3, .int (Int32.ofInt (1 + (1 * ν 1 + 0)))), (4, .int (Int32.ofInt (1 + (1 * ν 2 + 0)))), (5, .int (Int32.ofInt (1 + 0))), (6, .int (Int32.ofInt (0 + 0)))] [] := ?_
      · exact hst2
      try simp only [Int.zero_add, Int.one_mul, Int.add_zero]
      exact k5 K' B' L' f'   h1 h2 (h3.1 0) (h3.1 1) (h3.1 2) (h3.1 3) (by simpa only [xv, xvT, Int.zero_add, Int.one_mul, Int.add_zero] using (h3.2.1 _ (List.mem_of_getElem? (i := 0) rfl))) (h3.2.2.2.1 0 200 rfl) (by simpa only [xv, xvT, Int.zero_add, Int.one_mul, Int.add_zero] using (mokA h1 (show (zkd 201).1 = 2 by decide) (by decide) (h3.2.2.2.2.1 _ (List.mem_of_getElem? (i := 0) rfl)))) (by simpa only [xv, xvT, Int.zero_add, Int.one_mul, Int.add_zero] using (mokA h1 (show (zkd 201).1 = 2 by decide) (by decide) (h3.2.2.2.2.1 _ (List.mem_of_getElem? (i := 1) rfl))))

/-! eo1701a: from 17 to [5] -/
def w_eo1701a : TP := ([(0, (2, 0, (0, []))), (1, (0, 0, (0, [(1, 0)]))), (2, (0, 0, (0, []))), (3, (0, 0, (0, [(1, 1)]))), (4, (0, 0, (0, [(1, 2)])))], [], ([((-2147483648), 2147483647), (0, 12), (0, 11), ((-2147483648), 2147483647)], [((-1), [(1, 0), ((-1), 3)])], [], [200], [((201, (132, [(2, 2)])), (0, [(1, 3)])), ((201, (133, [(2, 2)])), (1, []))], [], []), [], [])
def u_eo1701a : List (Nat × TP × EX × Nat × Nat) := [(5, ([(0, (2, 0, (0, []))), (1, (0, 0, (0, [(1, 0)]))), (2, (0, 0, (0, []))), (3, (0, 0, (0, [(1, 1)]))), (4, (0, 0, (1, [(1, 2)]))), (5, (0, 0, (0, []))), (6, (0, 0, (1, [])))], [], ([((-2147483647), 2147483647), (0, 12), (0, 11), ((-2147483648), 2147483646)], [((-1), [((-1), 3), (1, 0)])], [], [200], [((201, (132, [(2, 2)])), (0, [(1, 3)])), ((201, (133, [(2, 2)])), (1, []))], [], []), [], []), ((-1), []), 0, 0)]
def D_eo1701a : DT := (mkD iX12_errorsOf fX12 lX12 kX12 kkX12 427 [] (w_eo1701a, [], [], 1, 0, 0, 3) false 7 u_eo1701a)
theorem k_eo1701a : chkS D_eo1701a 4000 0 0 17 = true := by decide +kernel
theorem s_eo1701a {X0 : zC0} {E : zCx} (H : ∀ j, j < 427 → CMj X0 j) (hE : zOk E X0 RX12 cX12_errorsOf 7 (zrm 1 0 0)) {K : Nat → Nat} {B : Int} {L : List Nat} {f : Nat → va_E} (hh : hok X0.2.2.1 K B L f) {v0 v1 v2 v3 : Int} {r0 : Nat} (hb0 : (-2147483648) ≤ v0 ∧ v0 ≤ 2147483647) (hb1 : 0 ≤ v1 ∧ v1 ≤ 12) (hb2 : 0 ≤ v2 ∧ v2 ≤ 11) (hb3 : (-2147483648) ≤ v3 ∧ v3 ≤ 2147483647) (hq0 : 0 ≤ ((-1) + (v0 + ((-1) * v3)))) (hr0 : r0 ∈ L ∧ K r0 = 200) (hm0 : (∀ b ∈ L, K b = 201 → (0 : Int) ≤ (132 + (2 * v2)) ∧ gi (f b) (((132 + (2 * v2)) : Int)).toNat = v3)) (hm1 : (∀ b ∈ L, K b = 201 → (0 : Int) ≤ (133 + (2 * v2)) ∧ gi (f b) (((133 + (2 * v2)) : Int)).toNat = 1)) (k5 : ∀ (K' : Nat → Nat) (B' : Int) (L' : List Nat) (f' : Nat → va_E), hok X0.2.2.1 K' B' L' f' → extC [] K B L f K' B' L' f' → ((-2147483647) ≤ v0 ∧ v0 ≤ 2147483647) → (0 ≤ v1 ∧ v1 ≤ 12) → (0 ≤ v2 ∧ v2 ≤ 11) → ((-2147483648) ≤ v3 ∧ v3 ≤ 2147483646) → (0 ≤ ((-1) + ((-1) * v3 + v0))) → (r0 ∈ L' ∧ K' r0 = 200) → (∀ b ∈ L', K' b = 201 → (0 : Int) ≤ (132 + (2 * v2)) ∧ gi (f' b) (((132 + (2 * v2)) : Int)).toNat = v3) → (∀ b ∈ L', K' b = 201 → (0 : Int) ≤ (133 + (2 * v2)) ∧ gi (f' b) (((133 + (2 * v2)) : Int)).toNat = 1) → eW E 0 0 L' f' 5 [(0, .ref r0), (1, .int (Int32.ofInt v0)), (2, .int (Int32.ofInt 0)), (3, .int (Int32.ofInt v1)), (4, .int (Int32.ofInt (1 + v2))), (5, .int (Int32.ofInt 0)), (6, .int (Int32.ofInt 1))] []) : eW E 0 0 L f 17 [(0, .ref r0), (1, .int (Int32.ofInt v0)), (2, .int (Int32.ofInt 0)), (3, .int (Int32.ofInt v1)), (4, .int (Int32.ofInt v2))] [] := by
  obtain ⟨l0, D0, cy0, ax0⟩ := X0
  have hraw : eW E 0 0 L f 17 [(0, .ref r0), (1, .int (Int32.ofInt (0 + (1 * v0 + 0)))), (2, .int (Int32.ofInt (0 + 0))), (3, .int (Int32.ofInt (0 + (1 * v1 + 0)))), (4, .int (Int32.ofInt (0 + (1 * v2 + 0))))] [] := ?_
  · simpa only [Int.zero_add, Int.one_mul, Int.add_zero] using hraw
  have rq0 : 0 ≤ ((-1) + (1 * v0 + ((-1) * v3 + 0))) := by simpa only [Int.zero_add, Int.one_mul, Int.add_zero] using hq0
  have rm0 : (∀ b ∈ L, K b = 201 → (0 : Int) ≤ (132 + (2 * v2 + 0)) ∧ gi (f b) (((132 + (2 * v2 + 0)) : Int)).toNat = (0 + (1 * v3 + 0))) := by simpa only [Int.zero_add, Int.one_mul, Int.add_zero] using hm0
  have rm1 : (∀ b ∈ L, K b = 201 → (0 : Int) ≤ (133 + (2 * v2 + 0)) ∧ gi (f b) (((133 + (2 * v2 + 0)) : Int)).toNat = (1 + 0)) := by simpa only [Int.zero_add, Int.one_mul, Int.add_zero] using hm1
  refine seg_ok (D := D_eo1701a) (νi := fun i => [v0, v1, v2, v3].getD i 0) (μi := fun i => [r0].getD i 0) k_eo1701a hE (mk_ok (ins := iX12_errorsOf) jX12_errorsOf fX12_ok lX12_ok kX12_ok kkX12_ok H) (by decide) rfl rfl rfl rfl hh ?_ ?_
  · refine ⟨(eok_of (fun i q hq => ?_) (fun i hi => ?_)), (fa_cons (rq0) fa0), fa0, ?_, (fa_cons (Amok hh (show (zkd 201).1 = 2 by decide) (by decide) rm0) (fa_cons (Amok hh (show (zkd 201).1 = 2 by decide) (by decide) rm1) fa0)), fa0, fa0⟩
    · match i, hq with
      | 0, hq => cases hq; exact hb0
      | 1, hq => cases hq; exact hb1
      | 2, hq => cases hq; exact hb2
      | 3, hq => cases hq; exact hb3
      | i + 4, hq => cases hq
    · match i, hi with
      | 0, hi => exact absurd hi (by decide)
      | 1, hi => exact absurd hi (by decide)
      | 2, hi => exact absurd hi (by decide)
      | 3, hi => exact absurd hi (by decide)
      | i + 4, _ => rfl
    · intro i k hk
      match i, hk with
      | 0, hk => cases hk; exact hr0
      | i + 1, hk => cases hk
  · intro q hq hst K' B' L' f' ν μ h1 h2 h3 h4 h5
    have e0 : ν 0 = v0 := h4 0 (by decide)
    have e1 : ν 1 = v1 := h4 1 (by decide)
    have e2 : ν 2 = v2 := h4 2 (by decide)
    have e3 : ν 3 = v3 := h4 3 (by decide)
    have d0 : μ 0 = r0 := h5 0 (by decide)
    subst e0
    subst e1
    subst e2
    subst e3
    subst d0
    replace hq : q ∈ u_eo1701a := hq
    unfold u_eo1701a at hq
    simp only [List.mem_cons, List.not_mem_nil, or_false] at hq
    rcases hq with rfl
    · have hst2 : eW E 0 0 L' f' 5 [(0, .ref (μ 0)), (1, .int (Int32.ofInt (0 + (1 * ν 0 + 0)))), (2, .int (Int32.ofInt (0 + 0))), (3, .int (Int32.ofInt (0 + (1 * ν 1 + 0)))), (4, .int (Int32.ofInt (1 + (1 * ν 2 + 0)))), (5, .int (Int32.ofInt (0 + 0))), (6, .int (Int32.ofInt (1 + 0)))] [] := ?_
      · exact hst2
      try simp only [Int.zero_add, Int.one_mul, Int.add_zero]
      exact k5 K' B' L' f'   h1 h2 (h3.1 0) (h3.1 1) (h3.1 2) (h3.1 3) (by simpa only [xv, xvT, Int.zero_add, Int.one_mul, Int.add_zero] using (h3.2.1 _ (List.mem_of_getElem? (i := 0) rfl))) (h3.2.2.2.1 0 200 rfl) (by simpa only [xv, xvT, Int.zero_add, Int.one_mul, Int.add_zero] using (mokA h1 (show (zkd 201).1 = 2 by decide) (by decide) (h3.2.2.2.2.1 _ (List.mem_of_getElem? (i := 0) rfl)))) (by simpa only [xv, xvT, Int.zero_add, Int.one_mul, Int.add_zero] using (mokA h1 (show (zkd 201).1 = 2 by decide) (by decide) (h3.2.2.2.2.1 _ (List.mem_of_getElem? (i := 1) rfl))))

/-! eo1701b: from 17 to [5] -/
def w_eo1701b : TP := ([(0, (2, 0, (0, []))), (1, (0, 0, (0, [(1, 0)]))), (2, (0, 0, (0, []))), (3, (0, 0, (0, [(1, 1)]))), (4, (0, 0, (0, [(1, 2)])))], [], ([((-2147483648), 2147483647), (0, 12), (0, 11), ((-2147483648), 2147483647)], [(0, [(1, 3), ((-1), 0)])], [], [200], [((201, (132, [(2, 2)])), (0, [(1, 3)])), ((201, (133, [(2, 2)])), (1, []))], [], []), [], [])
def u_eo1701b : List (Nat × TP × EX × Nat × Nat) := [(5, ([(0, (2, 0, (0, []))), (1, (0, 0, (0, [(1, 0)]))), (2, (0, 0, (0, []))), (3, (0, 0, (0, [(1, 1)]))), (4, (0, 0, (1, [(1, 2)]))), (5, (0, 0, (1, []))), (6, (0, 0, (1, [])))], [], ([((-2147483648), 2147483647), (0, 12), (0, 11), ((-2147483648), 2147483647)], [(0, [(1, 3), ((-1), 0)])], [], [200], [((201, (132, [(2, 2)])), (0, [(1, 3)])), ((201, (133, [(2, 2)])), (1, []))], [], []), [], []), ((-1), []), 0, 0)]
def D_eo1701b : DT := (mkD iX12_errorsOf fX12 lX12 kX12 kkX12 427 [] (w_eo1701b, [], [], 1, 0, 0, 3) false 7 u_eo1701b)
theorem k_eo1701b : chkS D_eo1701b 4000 0 0 17 = true := by decide +kernel
theorem s_eo1701b {X0 : zC0} {E : zCx} (H : ∀ j, j < 427 → CMj X0 j) (hE : zOk E X0 RX12 cX12_errorsOf 7 (zrm 1 0 0)) {K : Nat → Nat} {B : Int} {L : List Nat} {f : Nat → va_E} (hh : hok X0.2.2.1 K B L f) {v0 v1 v2 v3 : Int} {r0 : Nat} (hb0 : (-2147483648) ≤ v0 ∧ v0 ≤ 2147483647) (hb1 : 0 ≤ v1 ∧ v1 ≤ 12) (hb2 : 0 ≤ v2 ∧ v2 ≤ 11) (hb3 : (-2147483648) ≤ v3 ∧ v3 ≤ 2147483647) (hq0 : 0 ≤ (v3 + ((-1) * v0))) (hr0 : r0 ∈ L ∧ K r0 = 200) (hm0 : (∀ b ∈ L, K b = 201 → (0 : Int) ≤ (132 + (2 * v2)) ∧ gi (f b) (((132 + (2 * v2)) : Int)).toNat = v3)) (hm1 : (∀ b ∈ L, K b = 201 → (0 : Int) ≤ (133 + (2 * v2)) ∧ gi (f b) (((133 + (2 * v2)) : Int)).toNat = 1)) (k5 : ∀ (K' : Nat → Nat) (B' : Int) (L' : List Nat) (f' : Nat → va_E), hok X0.2.2.1 K' B' L' f' → extC [] K B L f K' B' L' f' → ((-2147483648) ≤ v0 ∧ v0 ≤ 2147483647) → (0 ≤ v1 ∧ v1 ≤ 12) → (0 ≤ v2 ∧ v2 ≤ 11) → ((-2147483648) ≤ v3 ∧ v3 ≤ 2147483647) → (0 ≤ (v3 + ((-1) * v0))) → (r0 ∈ L' ∧ K' r0 = 200) → (∀ b ∈ L', K' b = 201 → (0 : Int) ≤ (132 + (2 * v2)) ∧ gi (f' b) (((132 + (2 * v2)) : Int)).toNat = v3) → (∀ b ∈ L', K' b = 201 → (0 : Int) ≤ (133 + (2 * v2)) ∧ gi (f' b) (((133 + (2 * v2)) : Int)).toNat = 1) → eW E 0 0 L' f' 5 [(0, .ref r0), (1, .int (Int32.ofInt v0)), (2, .int (Int32.ofInt 0)), (3, .int (Int32.ofInt v1)), (4, .int (Int32.ofInt (1 + v2))), (5, .int (Int32.ofInt 1)), (6, .int (Int32.ofInt 1))] []) : eW E 0 0 L f 17 [(0, .ref r0), (1, .int (Int32.ofInt v0)), (2, .int (Int32.ofInt 0)), (3, .int (Int32.ofInt v1)), (4, .int (Int32.ofInt v2))] [] := by
  obtain ⟨l0, D0, cy0, ax0⟩ := X0
  have hraw : eW E 0 0 L f 17 [(0, .ref r0), (1, .int (Int32.ofInt (0 + (1 * v0 + 0)))), (2, .int (Int32.ofInt (0 + 0))), (3, .int (Int32.ofInt (0 + (1 * v1 + 0)))), (4, .int (Int32.ofInt (0 + (1 * v2 + 0))))] [] := ?_
  · simpa only [Int.zero_add, Int.one_mul, Int.add_zero] using hraw
  have rq0 : 0 ≤ (0 + (1 * v3 + ((-1) * v0 + 0))) := by simpa only [Int.zero_add, Int.one_mul, Int.add_zero] using hq0
  have rm0 : (∀ b ∈ L, K b = 201 → (0 : Int) ≤ (132 + (2 * v2 + 0)) ∧ gi (f b) (((132 + (2 * v2 + 0)) : Int)).toNat = (0 + (1 * v3 + 0))) := by simpa only [Int.zero_add, Int.one_mul, Int.add_zero] using hm0
  have rm1 : (∀ b ∈ L, K b = 201 → (0 : Int) ≤ (133 + (2 * v2 + 0)) ∧ gi (f b) (((133 + (2 * v2 + 0)) : Int)).toNat = (1 + 0)) := by simpa only [Int.zero_add, Int.one_mul, Int.add_zero] using hm1
  refine seg_ok (D := D_eo1701b) (νi := fun i => [v0, v1, v2, v3].getD i 0) (μi := fun i => [r0].getD i 0) k_eo1701b hE (mk_ok (ins := iX12_errorsOf) jX12_errorsOf fX12_ok lX12_ok kX12_ok kkX12_ok H) (by decide) rfl rfl rfl rfl hh ?_ ?_
  · refine ⟨(eok_of (fun i q hq => ?_) (fun i hi => ?_)), (fa_cons (rq0) fa0), fa0, ?_, (fa_cons (Amok hh (show (zkd 201).1 = 2 by decide) (by decide) rm0) (fa_cons (Amok hh (show (zkd 201).1 = 2 by decide) (by decide) rm1) fa0)), fa0, fa0⟩
    · match i, hq with
      | 0, hq => cases hq; exact hb0
      | 1, hq => cases hq; exact hb1
      | 2, hq => cases hq; exact hb2
      | 3, hq => cases hq; exact hb3
      | i + 4, hq => cases hq
    · match i, hi with
      | 0, hi => exact absurd hi (by decide)
      | 1, hi => exact absurd hi (by decide)
      | 2, hi => exact absurd hi (by decide)
      | 3, hi => exact absurd hi (by decide)
      | i + 4, _ => rfl
    · intro i k hk
      match i, hk with
      | 0, hk => cases hk; exact hr0
      | i + 1, hk => cases hk
  · intro q hq hst K' B' L' f' ν μ h1 h2 h3 h4 h5
    have e0 : ν 0 = v0 := h4 0 (by decide)
    have e1 : ν 1 = v1 := h4 1 (by decide)
    have e2 : ν 2 = v2 := h4 2 (by decide)
    have e3 : ν 3 = v3 := h4 3 (by decide)
    have d0 : μ 0 = r0 := h5 0 (by decide)
    subst e0
    subst e1
    subst e2
    subst e3
    subst d0
    replace hq : q ∈ u_eo1701b := hq
    unfold u_eo1701b at hq
    simp only [List.mem_cons, List.not_mem_nil, or_false] at hq
    rcases hq with rfl
    · have hst2 : eW E 0 0 L' f' 5 [(0, .ref (μ 0)), (1, .int (Int32.ofInt (0 + (1 * ν 0 + 0)))), (2, .int (Int32.ofInt (0 + 0))), (3, .int (Int32.ofInt (0 + (1 * ν 1 + 0)))), (4, .int (Int32.ofInt (1 + (1 * ν 2 + 0)))), (5, .int (Int32.ofInt (1 + 0))), (6, .int (Int32.ofInt (1 + 0)))] [] := ?_
      · exact hst2
      try simp only [Int.zero_add, Int.one_mul, Int.add_zero]
      exact k5 K' B' L' f'   h1 h2 (h3.1 0) (h3.1 1) (h3.1 2) (h3.1 3) (by simpa only [xv, xvT, Int.zero_add, Int.one_mul, Int.add_zero] using (h3.2.1 _ (List.mem_of_getElem? (i := 0) rfl))) (h3.2.2.2.1 0 200 rfl) (by simpa only [xv, xvT, Int.zero_add, Int.one_mul, Int.add_zero] using (mokA h1 (show (zkd 201).1 = 2 by decide) (by decide) (h3.2.2.2.2.1 _ (List.mem_of_getElem? (i := 0) rfl)))) (by simpa only [xv, xvT, Int.zero_add, Int.one_mul, Int.add_zero] using (mokA h1 (show (zkd 201).1 = 2 by decide) (by decide) (h3.2.2.2.2.1 _ (List.mem_of_getElem? (i := 1) rfl))))

/-! eo1710a: from 17 to [5] -/
def w_eo1710a : TP := ([(0, (2, 0, (0, []))), (1, (0, 0, (0, [(1, 0)]))), (2, (0, 0, (1, []))), (3, (0, 0, (0, [(1, 1)]))), (4, (0, 0, (0, [(1, 2)])))], [], ([((-2147483648), 2147483647), (0, 12), (0, 11), ((-2147483648), 2147483647)], [((-1), [(1, 0), ((-1), 3)])], [], [200], [((201, (132, [(2, 2)])), (0, [(1, 3)])), ((201, (133, [(2, 2)])), (0, []))], [], []), [], [])
def u_eo1710a : List (Nat × TP × EX × Nat × Nat) := [(5, ([(0, (2, 0, (0, []))), (1, (0, 0, (0, [(1, 0)]))), (2, (0, 0, (1, []))), (3, (0, 0, (0, [(1, 1)]))), (4, (0, 0, (1, [(1, 2)]))), (5, (0, 0, (0, []))), (6, (0, 0, (0, [])))], [], ([((-2147483647), 2147483647), (0, 12), (0, 11), ((-2147483648), 2147483646)], [((-1), [((-1), 3), (1, 0)])], [], [200], [((201, (132, [(2, 2)])), (0, [(1, 3)])), ((201, (133, [(2, 2)])), (0, []))], [], []), [], []), ((-1), []), 0, 0)]
def D_eo1710a : DT := (mkD iX12_errorsOf fX12 lX12 kX12 kkX12 427 [] (w_eo1710a, [], [], 1, 0, 0, 3) false 7 u_eo1710a)
theorem k_eo1710a : chkS D_eo1710a 4000 0 0 17 = true := by decide +kernel
theorem s_eo1710a {X0 : zC0} {E : zCx} (H : ∀ j, j < 427 → CMj X0 j) (hE : zOk E X0 RX12 cX12_errorsOf 7 (zrm 1 0 0)) {K : Nat → Nat} {B : Int} {L : List Nat} {f : Nat → va_E} (hh : hok X0.2.2.1 K B L f) {v0 v1 v2 v3 : Int} {r0 : Nat} (hb0 : (-2147483648) ≤ v0 ∧ v0 ≤ 2147483647) (hb1 : 0 ≤ v1 ∧ v1 ≤ 12) (hb2 : 0 ≤ v2 ∧ v2 ≤ 11) (hb3 : (-2147483648) ≤ v3 ∧ v3 ≤ 2147483647) (hq0 : 0 ≤ ((-1) + (v0 + ((-1) * v3)))) (hr0 : r0 ∈ L ∧ K r0 = 200) (hm0 : (∀ b ∈ L, K b = 201 → (0 : Int) ≤ (132 + (2 * v2)) ∧ gi (f b) (((132 + (2 * v2)) : Int)).toNat = v3)) (hm1 : (∀ b ∈ L, K b = 201 → (0 : Int) ≤ (133 + (2 * v2)) ∧ gi (f b) (((133 + (2 * v2)) : Int)).toNat = 0)) (k5 : ∀ (K' : Nat → Nat) (B' : Int) (L' : List Nat) (f' : Nat → va_E), hok X0.2.2.1 K' B' L' f' → extC [] K B L f K' B' L' f' → ((-2147483647) ≤ v0 ∧ v0 ≤ 2147483647) → (0 ≤ v1 ∧ v1 ≤ 12) → (0 ≤ v2 ∧ v2 ≤ 11) → ((-2147483648) ≤ v3 ∧ v3 ≤ 2147483646) → (0 ≤ ((-1) + ((-1) * v3 + v0))) → (r0 ∈ L' ∧ K' r0 = 200) → (∀ b ∈ L', K' b = 201 → (0 : Int) ≤ (132 + (2 * v2)) ∧ gi (f' b) (((132 + (2 * v2)) : Int)).toNat = v3) → (∀ b ∈ L', K' b = 201 → (0 : Int) ≤ (133 + (2 * v2)) ∧ gi (f' b) (((133 + (2 * v2)) : Int)).toNat = 0) → eW E 0 0 L' f' 5 [(0, .ref r0), (1, .int (Int32.ofInt v0)), (2, .int (Int32.ofInt 1)), (3, .int (Int32.ofInt v1)), (4, .int (Int32.ofInt (1 + v2))), (5, .int (Int32.ofInt 0)), (6, .int (Int32.ofInt 0))] []) : eW E 0 0 L f 17 [(0, .ref r0), (1, .int (Int32.ofInt v0)), (2, .int (Int32.ofInt 1)), (3, .int (Int32.ofInt v1)), (4, .int (Int32.ofInt v2))] [] := by
  obtain ⟨l0, D0, cy0, ax0⟩ := X0
  have hraw : eW E 0 0 L f 17 [(0, .ref r0), (1, .int (Int32.ofInt (0 + (1 * v0 + 0)))), (2, .int (Int32.ofInt (1 + 0))), (3, .int (Int32.ofInt (0 + (1 * v1 + 0)))), (4, .int (Int32.ofInt (0 + (1 * v2 + 0))))] [] := ?_
  · simpa only [Int.zero_add, Int.one_mul, Int.add_zero] using hraw
  have rq0 : 0 ≤ ((-1) + (1 * v0 + ((-1) * v3 + 0))) := by simpa only [Int.zero_add, Int.one_mul, Int.add_zero] using hq0
  have rm0 : (∀ b ∈ L, K b = 201 → (0 : Int) ≤ (132 + (2 * v2 + 0)) ∧ gi (f b) (((132 + (2 * v2 + 0)) : Int)).toNat = (0 + (1 * v3 + 0))) := by simpa only [Int.zero_add, Int.one_mul, Int.add_zero] using hm0
  have rm1 : (∀ b ∈ L, K b = 201 → (0 : Int) ≤ (133 + (2 * v2 + 0)) ∧ gi (f b) (((133 + (2 * v2 + 0)) : Int)).toNat = (0 + 0)) := by simpa only [Int.zero_add, Int.one_mul, Int.add_zero] using hm1
  refine seg_ok (D := D_eo1710a) (νi := fun i => [v0, v1, v2, v3].getD i 0) (μi := fun i => [r0].getD i 0) k_eo1710a hE (mk_ok (ins := iX12_errorsOf) jX12_errorsOf fX12_ok lX12_ok kX12_ok kkX12_ok H) (by decide) rfl rfl rfl rfl hh ?_ ?_
  · refine ⟨(eok_of (fun i q hq => ?_) (fun i hi => ?_)), (fa_cons (rq0) fa0), fa0, ?_, (fa_cons (Amok hh (show (zkd 201).1 = 2 by decide) (by decide) rm0) (fa_cons (Amok hh (show (zkd 201).1 = 2 by decide) (by decide) rm1) fa0)), fa0, fa0⟩
    · match i, hq with
      | 0, hq => cases hq; exact hb0
      | 1, hq => cases hq; exact hb1
      | 2, hq => cases hq; exact hb2
      | 3, hq => cases hq; exact hb3
      | i + 4, hq => cases hq
    · match i, hi with
      | 0, hi => exact absurd hi (by decide)
      | 1, hi => exact absurd hi (by decide)
      | 2, hi => exact absurd hi (by decide)
      | 3, hi => exact absurd hi (by decide)
      | i + 4, _ => rfl
    · intro i k hk
      match i, hk with
      | 0, hk => cases hk; exact hr0
      | i + 1, hk => cases hk
  · intro q hq hst K' B' L' f' ν μ h1 h2 h3 h4 h5
    have e0 : ν 0 = v0 := h4 0 (by decide)
    have e1 : ν 1 = v1 := h4 1 (by decide)
    have e2 : ν 2 = v2 := h4 2 (by decide)
    have e3 : ν 3 = v3 := h4 3 (by decide)
    have d0 : μ 0 = r0 := h5 0 (by decide)
    subst e0
    subst e1
    subst e2
    subst e3
    subst d0
    replace hq : q ∈ u_eo1710a := hq
    unfold u_eo1710a at hq
    simp only [List.mem_cons, List.not_mem_nil, or_false] at hq
    rcases hq with rfl
    · have hst2 : eW E 0 0 L' f' 5 [(0, .ref (μ 0)), (1, .int (Int32.ofInt (0 + (1 * ν 0 + 0)))), (2, .int (Int32.ofInt (1 + 0))), (3, .int (Int32.ofInt (0 + (1 * ν 1 + 0)))), (4, .int (Int32.ofInt (1 + (1 * ν 2 + 0)))), (5, .int (Int32.ofInt (0 + 0))), (6, .int (Int32.ofInt (0 + 0)))] [] := ?_
      · exact hst2
      try simp only [Int.zero_add, Int.one_mul, Int.add_zero]
      exact k5 K' B' L' f'   h1 h2 (h3.1 0) (h3.1 1) (h3.1 2) (h3.1 3) (by simpa only [xv, xvT, Int.zero_add, Int.one_mul, Int.add_zero] using (h3.2.1 _ (List.mem_of_getElem? (i := 0) rfl))) (h3.2.2.2.1 0 200 rfl) (by simpa only [xv, xvT, Int.zero_add, Int.one_mul, Int.add_zero] using (mokA h1 (show (zkd 201).1 = 2 by decide) (by decide) (h3.2.2.2.2.1 _ (List.mem_of_getElem? (i := 0) rfl)))) (by simpa only [xv, xvT, Int.zero_add, Int.one_mul, Int.add_zero] using (mokA h1 (show (zkd 201).1 = 2 by decide) (by decide) (h3.2.2.2.2.1 _ (List.mem_of_getElem? (i := 1) rfl))))

/-! eo1710b: from 17 to [5] -/
def w_eo1710b : TP := ([(0, (2, 0, (0, []))), (1, (0, 0, (0, [(1, 0)]))), (2, (0, 0, (1, []))), (3, (0, 0, (0, [(1, 1)]))), (4, (0, 0, (0, [(1, 2)])))], [], ([((-2147483648), 2147483647), (0, 12), (0, 11), ((-2147483648), 2147483647)], [(0, [(1, 3), ((-1), 0)])], [], [200], [((201, (132, [(2, 2)])), (0, [(1, 3)])), ((201, (133, [(2, 2)])), (0, []))], [], []), [], [])
def u_eo1710b : List (Nat × TP × EX × Nat × Nat) := [(5, ([(0, (2, 0, (0, []))), (1, (0, 0, (0, [(1, 0)]))), (2, (0, 0, (1, []))), (3, (0, 0, (0, [(1, 1)]))), (4, (0, 0, (1, [(1, 2)]))), (5, (0, 0, (1, []))), (6, (0, 0, (0, [])))], [], ([((-2147483648), 2147483647), (0, 12), (0, 11), ((-2147483648), 2147483647)], [(0, [(1, 3), ((-1), 0)])], [], [200], [((201, (132, [(2, 2)])), (0, [(1, 3)])), ((201, (133, [(2, 2)])), (0, []))], [], []), [], []), ((-1), []), 0, 0)]
def D_eo1710b : DT := (mkD iX12_errorsOf fX12 lX12 kX12 kkX12 427 [] (w_eo1710b, [], [], 1, 0, 0, 3) false 7 u_eo1710b)
theorem k_eo1710b : chkS D_eo1710b 4000 0 0 17 = true := by decide +kernel
theorem s_eo1710b {X0 : zC0} {E : zCx} (H : ∀ j, j < 427 → CMj X0 j) (hE : zOk E X0 RX12 cX12_errorsOf 7 (zrm 1 0 0)) {K : Nat → Nat} {B : Int} {L : List Nat} {f : Nat → va_E} (hh : hok X0.2.2.1 K B L f) {v0 v1 v2 v3 : Int} {r0 : Nat} (hb0 : (-2147483648) ≤ v0 ∧ v0 ≤ 2147483647) (hb1 : 0 ≤ v1 ∧ v1 ≤ 12) (hb2 : 0 ≤ v2 ∧ v2 ≤ 11) (hb3 : (-2147483648) ≤ v3 ∧ v3 ≤ 2147483647) (hq0 : 0 ≤ (v3 + ((-1) * v0))) (hr0 : r0 ∈ L ∧ K r0 = 200) (hm0 : (∀ b ∈ L, K b = 201 → (0 : Int) ≤ (132 + (2 * v2)) ∧ gi (f b) (((132 + (2 * v2)) : Int)).toNat = v3)) (hm1 : (∀ b ∈ L, K b = 201 → (0 : Int) ≤ (133 + (2 * v2)) ∧ gi (f b) (((133 + (2 * v2)) : Int)).toNat = 0)) (k5 : ∀ (K' : Nat → Nat) (B' : Int) (L' : List Nat) (f' : Nat → va_E), hok X0.2.2.1 K' B' L' f' → extC [] K B L f K' B' L' f' → ((-2147483648) ≤ v0 ∧ v0 ≤ 2147483647) → (0 ≤ v1 ∧ v1 ≤ 12) → (0 ≤ v2 ∧ v2 ≤ 11) → ((-2147483648) ≤ v3 ∧ v3 ≤ 2147483647) → (0 ≤ (v3 + ((-1) * v0))) → (r0 ∈ L' ∧ K' r0 = 200) → (∀ b ∈ L', K' b = 201 → (0 : Int) ≤ (132 + (2 * v2)) ∧ gi (f' b) (((132 + (2 * v2)) : Int)).toNat = v3) → (∀ b ∈ L', K' b = 201 → (0 : Int) ≤ (133 + (2 * v2)) ∧ gi (f' b) (((133 + (2 * v2)) : Int)).toNat = 0) → eW E 0 0 L' f' 5 [(0, .ref r0), (1, .int (Int32.ofInt v0)), (2, .int (Int32.ofInt 1)), (3, .int (Int32.ofInt v1)), (4, .int (Int32.ofInt (1 + v2))), (5, .int (Int32.ofInt 1)), (6, .int (Int32.ofInt 0))] []) : eW E 0 0 L f 17 [(0, .ref r0), (1, .int (Int32.ofInt v0)), (2, .int (Int32.ofInt 1)), (3, .int (Int32.ofInt v1)), (4, .int (Int32.ofInt v2))] [] := by
  obtain ⟨l0, D0, cy0, ax0⟩ := X0
  have hraw : eW E 0 0 L f 17 [(0, .ref r0), (1, .int (Int32.ofInt (0 + (1 * v0 + 0)))), (2, .int (Int32.ofInt (1 + 0))), (3, .int (Int32.ofInt (0 + (1 * v1 + 0)))), (4, .int (Int32.ofInt (0 + (1 * v2 + 0))))] [] := ?_
  · simpa only [Int.zero_add, Int.one_mul, Int.add_zero] using hraw
  have rq0 : 0 ≤ (0 + (1 * v3 + ((-1) * v0 + 0))) := by simpa only [Int.zero_add, Int.one_mul, Int.add_zero] using hq0
  have rm0 : (∀ b ∈ L, K b = 201 → (0 : Int) ≤ (132 + (2 * v2 + 0)) ∧ gi (f b) (((132 + (2 * v2 + 0)) : Int)).toNat = (0 + (1 * v3 + 0))) := by simpa only [Int.zero_add, Int.one_mul, Int.add_zero] using hm0
  have rm1 : (∀ b ∈ L, K b = 201 → (0 : Int) ≤ (133 + (2 * v2 + 0)) ∧ gi (f b) (((133 + (2 * v2 + 0)) : Int)).toNat = (0 + 0)) := by simpa only [Int.zero_add, Int.one_mul, Int.add_zero] using hm1
  refine seg_ok (D := D_eo1710b) (νi := fun i => [v0, v1, v2, v3].getD i 0) (μi := fun i => [r0].getD i 0) k_eo1710b hE (mk_ok (ins := iX12_errorsOf) jX12_errorsOf fX12_ok lX12_ok kX12_ok kkX12_ok H) (by decide) rfl rfl rfl rfl hh ?_ ?_
  · refine ⟨(eok_of (fun i q hq => ?_) (fun i hi => ?_)), (fa_cons (rq0) fa0), fa0, ?_, (fa_cons (Amok hh (show (zkd 201).1 = 2 by decide) (by decide) rm0) (fa_cons (Amok hh (show (zkd 201).1 = 2 by decide) (by decide) rm1) fa0)), fa0, fa0⟩
    · match i, hq with
      | 0, hq => cases hq; exact hb0
      | 1, hq => cases hq; exact hb1
      | 2, hq => cases hq; exact hb2
      | 3, hq => cases hq; exact hb3
      | i + 4, hq => cases hq
    · match i, hi with
      | 0, hi => exact absurd hi (by decide)
      | 1, hi => exact absurd hi (by decide)
      | 2, hi => exact absurd hi (by decide)
      | 3, hi => exact absurd hi (by decide)
      | i + 4, _ => rfl
    · intro i k hk
      match i, hk with
      | 0, hk => cases hk; exact hr0
      | i + 1, hk => cases hk
  · intro q hq hst K' B' L' f' ν μ h1 h2 h3 h4 h5
    have e0 : ν 0 = v0 := h4 0 (by decide)
    have e1 : ν 1 = v1 := h4 1 (by decide)
    have e2 : ν 2 = v2 := h4 2 (by decide)
    have e3 : ν 3 = v3 := h4 3 (by decide)
    have d0 : μ 0 = r0 := h5 0 (by decide)
    subst e0
    subst e1
    subst e2
    subst e3
    subst d0
    replace hq : q ∈ u_eo1710b := hq
    unfold u_eo1710b at hq
    simp only [List.mem_cons, List.not_mem_nil, or_false] at hq
    rcases hq with rfl
    · have hst2 : eW E 0 0 L' f' 5 [(0, .ref (μ 0)), (1, .int (Int32.ofInt (0 + (1 * ν 0 + 0)))), (2, .int (Int32.ofInt (1 + 0))), (3, .int (Int32.ofInt (0 + (1 * ν 1 + 0)))), (4, .int (Int32.ofInt (1 + (1 * ν 2 + 0)))), (5, .int (Int32.ofInt (1 + 0))), (6, .int (Int32.ofInt (0 + 0)))] [] := ?_
      · exact hst2
      try simp only [Int.zero_add, Int.one_mul, Int.add_zero]
      exact k5 K' B' L' f'   h1 h2 (h3.1 0) (h3.1 1) (h3.1 2) (h3.1 3) (by simpa only [xv, xvT, Int.zero_add, Int.one_mul, Int.add_zero] using (h3.2.1 _ (List.mem_of_getElem? (i := 0) rfl))) (h3.2.2.2.1 0 200 rfl) (by simpa only [xv, xvT, Int.zero_add, Int.one_mul, Int.add_zero] using (mokA h1 (show (zkd 201).1 = 2 by decide) (by decide) (h3.2.2.2.2.1 _ (List.mem_of_getElem? (i := 0) rfl)))) (by simpa only [xv, xvT, Int.zero_add, Int.one_mul, Int.add_zero] using (mokA h1 (show (zkd 201).1 = 2 by decide) (by decide) (h3.2.2.2.2.1 _ (List.mem_of_getElem? (i := 1) rfl))))

/-! eo1711a: from 17 to [5] -/
def w_eo1711a : TP := ([(0, (2, 0, (0, []))), (1, (0, 0, (0, [(1, 0)]))), (2, (0, 0, (1, []))), (3, (0, 0, (0, [(1, 1)]))), (4, (0, 0, (0, [(1, 2)])))], [], ([((-2147483648), 2147483647), (0, 12), (0, 11), ((-2147483648), 2147483647)], [((-1), [(1, 0), ((-1), 3)])], [], [200], [((201, (132, [(2, 2)])), (0, [(1, 3)])), ((201, (133, [(2, 2)])), (1, []))], [], []), [], [])
def u_eo1711a : List (Nat × TP × EX × Nat × Nat) := [(5, ([(0, (2, 0, (0, []))), (1, (0, 0, (0, [(1, 0)]))), (2, (0, 0, (1, []))), (3, (0, 0, (1, [(1, 1)]))), (4, (0, 0, (1, [(1, 2)]))), (5, (0, 0, (0, []))), (6, (0, 0, (1, [])))], [], ([((-2147483647), 2147483647), (0, 12), (0, 11), ((-2147483648), 2147483646)], [((-1), [((-1), 3), (1, 0)])], [], [200], [((201, (132, [(2, 2)])), (0, [(1, 3)])), ((201, (133, [(2, 2)])), (1, []))], [], []), [], []), ((-1), []), 0, 0)]
def D_eo1711a : DT := (mkD iX12_errorsOf fX12 lX12 kX12 kkX12 427 [] (w_eo1711a, [], [], 1, 0, 0, 3) false 7 u_eo1711a)
theorem k_eo1711a : chkS D_eo1711a 4000 0 0 17 = true := by decide +kernel
theorem s_eo1711a {X0 : zC0} {E : zCx} (H : ∀ j, j < 427 → CMj X0 j) (hE : zOk E X0 RX12 cX12_errorsOf 7 (zrm 1 0 0)) {K : Nat → Nat} {B : Int} {L : List Nat} {f : Nat → va_E} (hh : hok X0.2.2.1 K B L f) {v0 v1 v2 v3 : Int} {r0 : Nat} (hb0 : (-2147483648) ≤ v0 ∧ v0 ≤ 2147483647) (hb1 : 0 ≤ v1 ∧ v1 ≤ 12) (hb2 : 0 ≤ v2 ∧ v2 ≤ 11) (hb3 : (-2147483648) ≤ v3 ∧ v3 ≤ 2147483647) (hq0 : 0 ≤ ((-1) + (v0 + ((-1) * v3)))) (hr0 : r0 ∈ L ∧ K r0 = 200) (hm0 : (∀ b ∈ L, K b = 201 → (0 : Int) ≤ (132 + (2 * v2)) ∧ gi (f b) (((132 + (2 * v2)) : Int)).toNat = v3)) (hm1 : (∀ b ∈ L, K b = 201 → (0 : Int) ≤ (133 + (2 * v2)) ∧ gi (f b) (((133 + (2 * v2)) : Int)).toNat = 1)) (k5 : ∀ (K' : Nat → Nat) (B' : Int) (L' : List Nat) (f' : Nat → va_E), hok X0.2.2.1 K' B' L' f' → extC [] K B L f K' B' L' f' → ((-2147483647) ≤ v0 ∧ v0 ≤ 2147483647) → (0 ≤ v1 ∧ v1 ≤ 12) → (0 ≤ v2 ∧ v2 ≤ 11) → ((-2147483648) ≤ v3 ∧ v3 ≤ 2147483646) → (0 ≤ ((-1) + ((-1) * v3 + v0))) → (r0 ∈ L' ∧ K' r0 = 200) → (∀ b ∈ L', K' b = 201 → (0 : Int) ≤ (132 + (2 * v2)) ∧ gi (f' b) (((132 + (2 * v2)) : Int)).toNat = v3) → (∀ b ∈ L', K' b = 201 → (0 : Int) ≤ (133 + (2 * v2)) ∧ gi (f' b) (((133 + (2 * v2)) : Int)).toNat = 1) → eW E 0 0 L' f' 5 [(0, .ref r0), (1, .int (Int32.ofInt v0)), (2, .int (Int32.ofInt 1)), (3, .int (Int32.ofInt (1 + v1))), (4, .int (Int32.ofInt (1 + v2))), (5, .int (Int32.ofInt 0)), (6, .int (Int32.ofInt 1))] []) : eW E 0 0 L f 17 [(0, .ref r0), (1, .int (Int32.ofInt v0)), (2, .int (Int32.ofInt 1)), (3, .int (Int32.ofInt v1)), (4, .int (Int32.ofInt v2))] [] := by
  obtain ⟨l0, D0, cy0, ax0⟩ := X0
  have hraw : eW E 0 0 L f 17 [(0, .ref r0), (1, .int (Int32.ofInt (0 + (1 * v0 + 0)))), (2, .int (Int32.ofInt (1 + 0))), (3, .int (Int32.ofInt (0 + (1 * v1 + 0)))), (4, .int (Int32.ofInt (0 + (1 * v2 + 0))))] [] := ?_
  · simpa only [Int.zero_add, Int.one_mul, Int.add_zero] using hraw
  have rq0 : 0 ≤ ((-1) + (1 * v0 + ((-1) * v3 + 0))) := by simpa only [Int.zero_add, Int.one_mul, Int.add_zero] using hq0
  have rm0 : (∀ b ∈ L, K b = 201 → (0 : Int) ≤ (132 + (2 * v2 + 0)) ∧ gi (f b) (((132 + (2 * v2 + 0)) : Int)).toNat = (0 + (1 * v3 + 0))) := by simpa only [Int.zero_add, Int.one_mul, Int.add_zero] using hm0
  have rm1 : (∀ b ∈ L, K b = 201 → (0 : Int) ≤ (133 + (2 * v2 + 0)) ∧ gi (f b) (((133 + (2 * v2 + 0)) : Int)).toNat = (1 + 0)) := by simpa only [Int.zero_add, Int.one_mul, Int.add_zero] using hm1
  refine seg_ok (D := D_eo1711a) (νi := fun i => [v0, v1, v2, v3].getD i 0) (μi := fun i => [r0].getD i 0) k_eo1711a hE (mk_ok (ins := iX12_errorsOf) jX12_errorsOf fX12_ok lX12_ok kX12_ok kkX12_ok H) (by decide) rfl rfl rfl rfl hh ?_ ?_
  · refine ⟨(eok_of (fun i q hq => ?_) (fun i hi => ?_)), (fa_cons (rq0) fa0), fa0, ?_, (fa_cons (Amok hh (show (zkd 201).1 = 2 by decide) (by decide) rm0) (fa_cons (Amok hh (show (zkd 201).1 = 2 by decide) (by decide) rm1) fa0)), fa0, fa0⟩
    · match i, hq with
      | 0, hq => cases hq; exact hb0
      | 1, hq => cases hq; exact hb1
      | 2, hq => cases hq; exact hb2
      | 3, hq => cases hq; exact hb3
      | i + 4, hq => cases hq
    · match i, hi with
      | 0, hi => exact absurd hi (by decide)
      | 1, hi => exact absurd hi (by decide)
      | 2, hi => exact absurd hi (by decide)
      | 3, hi => exact absurd hi (by decide)
      | i + 4, _ => rfl
    · intro i k hk
      match i, hk with
      | 0, hk => cases hk; exact hr0
      | i + 1, hk => cases hk
  · intro q hq hst K' B' L' f' ν μ h1 h2 h3 h4 h5
    have e0 : ν 0 = v0 := h4 0 (by decide)
    have e1 : ν 1 = v1 := h4 1 (by decide)
    have e2 : ν 2 = v2 := h4 2 (by decide)
    have e3 : ν 3 = v3 := h4 3 (by decide)
    have d0 : μ 0 = r0 := h5 0 (by decide)
    subst e0
    subst e1
    subst e2
    subst e3
    subst d0
    replace hq : q ∈ u_eo1711a := hq
    unfold u_eo1711a at hq
    simp only [List.mem_cons, List.not_mem_nil, or_false] at hq
    rcases hq with rfl
    · have hst2 : eW E 0 0 L' f' 5 [(0, .ref (μ 0)), (1, .int (Int32.ofInt (0 + (1 * ν 0 + 0)))), (2, .int (Int32.ofInt (1 + 0))), (3, .int (Int32.ofInt (1 + (1 * ν 1 + 0)))), (4, .int (Int32.ofInt (1 + (1 * ν 2 + 0)))), (5, .int (Int32.ofInt (0 + 0))), (6, .int (Int32.ofInt (1 + 0)))] [] := ?_
      · exact hst2
      try simp only [Int.zero_add, Int.one_mul, Int.add_zero]
      exact k5 K' B' L' f'   h1 h2 (h3.1 0) (h3.1 1) (h3.1 2) (h3.1 3) (by simpa only [xv, xvT, Int.zero_add, Int.one_mul, Int.add_zero] using (h3.2.1 _ (List.mem_of_getElem? (i := 0) rfl))) (h3.2.2.2.1 0 200 rfl) (by simpa only [xv, xvT, Int.zero_add, Int.one_mul, Int.add_zero] using (mokA h1 (show (zkd 201).1 = 2 by decide) (by decide) (h3.2.2.2.2.1 _ (List.mem_of_getElem? (i := 0) rfl)))) (by simpa only [xv, xvT, Int.zero_add, Int.one_mul, Int.add_zero] using (mokA h1 (show (zkd 201).1 = 2 by decide) (by decide) (h3.2.2.2.2.1 _ (List.mem_of_getElem? (i := 1) rfl))))

/-! eo1711b: from 17 to [5] -/
def w_eo1711b : TP := ([(0, (2, 0, (0, []))), (1, (0, 0, (0, [(1, 0)]))), (2, (0, 0, (1, []))), (3, (0, 0, (0, [(1, 1)]))), (4, (0, 0, (0, [(1, 2)])))], [], ([((-2147483648), 2147483647), (0, 12), (0, 11), ((-2147483648), 2147483647)], [(0, [(1, 3), ((-1), 0)])], [], [200], [((201, (132, [(2, 2)])), (0, [(1, 3)])), ((201, (133, [(2, 2)])), (1, []))], [], []), [], [])
def u_eo1711b : List (Nat × TP × EX × Nat × Nat) := [(5, ([(0, (2, 0, (0, []))), (1, (0, 0, (0, [(1, 0)]))), (2, (0, 0, (1, []))), (3, (0, 0, (0, [(1, 1)]))), (4, (0, 0, (1, [(1, 2)]))), (5, (0, 0, (1, []))), (6, (0, 0, (1, [])))], [], ([((-2147483648), 2147483647), (0, 12), (0, 11), ((-2147483648), 2147483647)], [(0, [(1, 3), ((-1), 0)])], [], [200], [((201, (132, [(2, 2)])), (0, [(1, 3)])), ((201, (133, [(2, 2)])), (1, []))], [], []), [], []), ((-1), []), 0, 0)]
def D_eo1711b : DT := (mkD iX12_errorsOf fX12 lX12 kX12 kkX12 427 [] (w_eo1711b, [], [], 1, 0, 0, 3) false 7 u_eo1711b)
theorem k_eo1711b : chkS D_eo1711b 4000 0 0 17 = true := by decide +kernel
theorem s_eo1711b {X0 : zC0} {E : zCx} (H : ∀ j, j < 427 → CMj X0 j) (hE : zOk E X0 RX12 cX12_errorsOf 7 (zrm 1 0 0)) {K : Nat → Nat} {B : Int} {L : List Nat} {f : Nat → va_E} (hh : hok X0.2.2.1 K B L f) {v0 v1 v2 v3 : Int} {r0 : Nat} (hb0 : (-2147483648) ≤ v0 ∧ v0 ≤ 2147483647) (hb1 : 0 ≤ v1 ∧ v1 ≤ 12) (hb2 : 0 ≤ v2 ∧ v2 ≤ 11) (hb3 : (-2147483648) ≤ v3 ∧ v3 ≤ 2147483647) (hq0 : 0 ≤ (v3 + ((-1) * v0))) (hr0 : r0 ∈ L ∧ K r0 = 200) (hm0 : (∀ b ∈ L, K b = 201 → (0 : Int) ≤ (132 + (2 * v2)) ∧ gi (f b) (((132 + (2 * v2)) : Int)).toNat = v3)) (hm1 : (∀ b ∈ L, K b = 201 → (0 : Int) ≤ (133 + (2 * v2)) ∧ gi (f b) (((133 + (2 * v2)) : Int)).toNat = 1)) (k5 : ∀ (K' : Nat → Nat) (B' : Int) (L' : List Nat) (f' : Nat → va_E), hok X0.2.2.1 K' B' L' f' → extC [] K B L f K' B' L' f' → ((-2147483648) ≤ v0 ∧ v0 ≤ 2147483647) → (0 ≤ v1 ∧ v1 ≤ 12) → (0 ≤ v2 ∧ v2 ≤ 11) → ((-2147483648) ≤ v3 ∧ v3 ≤ 2147483647) → (0 ≤ (v3 + ((-1) * v0))) → (r0 ∈ L' ∧ K' r0 = 200) → (∀ b ∈ L', K' b = 201 → (0 : Int) ≤ (132 + (2 * v2)) ∧ gi (f' b) (((132 + (2 * v2)) : Int)).toNat = v3) → (∀ b ∈ L', K' b = 201 → (0 : Int) ≤ (133 + (2 * v2)) ∧ gi (f' b) (((133 + (2 * v2)) : Int)).toNat = 1) → eW E 0 0 L' f' 5 [(0, .ref r0), (1, .int (Int32.ofInt v0)), (2, .int (Int32.ofInt 1)), (3, .int (Int32.ofInt v1)), (4, .int (Int32.ofInt (1 + v2))), (5, .int (Int32.ofInt 1)), (6, .int (Int32.ofInt 1))] []) : eW E 0 0 L f 17 [(0, .ref r0), (1, .int (Int32.ofInt v0)), (2, .int (Int32.ofInt 1)), (3, .int (Int32.ofInt v1)), (4, .int (Int32.ofInt v2))] [] := by
  obtain ⟨l0, D0, cy0, ax0⟩ := X0
  have hraw : eW E 0 0 L f 17 [(0, .ref r0), (1, .int (Int32.ofInt (0 + (1 * v0 + 0)))), (2, .int (Int32.ofInt (1 + 0))), (3, .int (Int32.ofInt (0 + (1 * v1 + 0)))), (4, .int (Int32.ofInt (0 + (1 * v2 + 0))))] [] := ?_
  · simpa only [Int.zero_add, Int.one_mul, Int.add_zero] using hraw
  have rq0 : 0 ≤ (0 + (1 * v3 + ((-1) * v0 + 0))) := by simpa only [Int.zero_add, Int.one_mul, Int.add_zero] using hq0
  have rm0 : (∀ b ∈ L, K b = 201 → (0 : Int) ≤ (132 + (2 * v2 + 0)) ∧ gi (f b) (((132 + (2 * v2 + 0)) : Int)).toNat = (0 + (1 * v3 + 0))) := by simpa only [Int.zero_add, Int.one_mul, Int.add_zero] using hm0
  have rm1 : (∀ b ∈ L, K b = 201 → (0 : Int) ≤ (133 + (2 * v2 + 0)) ∧ gi (f b) (((133 + (2 * v2 + 0)) : Int)).toNat = (1 + 0)) := by simpa only [Int.zero_add, Int.one_mul, Int.add_zero] using hm1
  refine seg_ok (D := D_eo1711b) (νi := fun i => [v0, v1, v2, v3].getD i 0) (μi := fun i => [r0].getD i 0) k_eo1711b hE (mk_ok (ins := iX12_errorsOf) jX12_errorsOf fX12_ok lX12_ok kX12_ok kkX12_ok H) (by decide) rfl rfl rfl rfl hh ?_ ?_
  · refine ⟨(eok_of (fun i q hq => ?_) (fun i hi => ?_)), (fa_cons (rq0) fa0), fa0, ?_, (fa_cons (Amok hh (show (zkd 201).1 = 2 by decide) (by decide) rm0) (fa_cons (Amok hh (show (zkd 201).1 = 2 by decide) (by decide) rm1) fa0)), fa0, fa0⟩
    · match i, hq with
      | 0, hq => cases hq; exact hb0
      | 1, hq => cases hq; exact hb1
      | 2, hq => cases hq; exact hb2
      | 3, hq => cases hq; exact hb3
      | i + 4, hq => cases hq
    · match i, hi with
      | 0, hi => exact absurd hi (by decide)
      | 1, hi => exact absurd hi (by decide)
      | 2, hi => exact absurd hi (by decide)
      | 3, hi => exact absurd hi (by decide)
      | i + 4, _ => rfl
    · intro i k hk
      match i, hk with
      | 0, hk => cases hk; exact hr0
      | i + 1, hk => cases hk
  · intro q hq hst K' B' L' f' ν μ h1 h2 h3 h4 h5
    have e0 : ν 0 = v0 := h4 0 (by decide)
    have e1 : ν 1 = v1 := h4 1 (by decide)
    have e2 : ν 2 = v2 := h4 2 (by decide)
    have e3 : ν 3 = v3 := h4 3 (by decide)
    have d0 : μ 0 = r0 := h5 0 (by decide)
    subst e0
    subst e1
    subst e2
    subst e3
    subst d0
    replace hq : q ∈ u_eo1711b := hq
    unfold u_eo1711b at hq
    simp only [List.mem_cons, List.not_mem_nil, or_false] at hq
    rcases hq with rfl
    · have hst2 : eW E 0 0 L' f' 5 [(0, .ref (μ 0)), (1, .int (Int32.ofInt (0 + (1 * ν 0 + 0)))), (2, .int (Int32.ofInt (1 + 0))), (3, .int (Int32.ofInt (0 + (1 * ν 1 + 0)))), (4, .int (Int32.ofInt (1 + (1 * ν 2 + 0)))), (5, .int (Int32.ofInt (1 + 0))), (6, .int (Int32.ofInt (1 + 0)))] [] := ?_
      · exact hst2
      try simp only [Int.zero_add, Int.one_mul, Int.add_zero]
      exact k5 K' B' L' f'   h1 h2 (h3.1 0) (h3.1 1) (h3.1 2) (h3.1 3) (by simpa only [xv, xvT, Int.zero_add, Int.one_mul, Int.add_zero] using (h3.2.1 _ (List.mem_of_getElem? (i := 0) rfl))) (h3.2.2.2.1 0 200 rfl) (by simpa only [xv, xvT, Int.zero_add, Int.one_mul, Int.add_zero] using (mokA h1 (show (zkd 201).1 = 2 by decide) (by decide) (h3.2.2.2.2.1 _ (List.mem_of_getElem? (i := 0) rfl)))) (by simpa only [xv, xvT, Int.zero_add, Int.one_mul, Int.add_zero] using (mokA h1 (show (zkd 201).1 = 2 by decide) (by decide) (h3.2.2.2.2.1 _ (List.mem_of_getElem? (i := 1) rfl))))

/-! eo113: from 113 to [114] -/
def w_eo113 : TP := ([(0, (2, 0, (0, []))), (1, (0, 0, (0, [(1, 0)]))), (2, (0, 0, (0, [(1, 1)]))), (3, (0, 0, (0, [(1, 2)]))), (4, (0, 0, (0, [(1, 3)])))], [], ([((-2147483648), 2147483647), (0, 1), (0, 12), (0, 12)], [], [], [200], [], [], []), [], [])
def u_eo113 : List (Nat × TP × EX × Nat × Nat) := [(114, ([(0, (2, 0, (0, []))), (1, (0, 0, (0, [(1, 0)]))), (2, (0, 0, (0, [(1, 1)]))), (3, (0, 0, (0, [(1, 2)]))), (4, (0, 0, (0, [(1, 3)])))], [(0, 0, (0, [(1, 2)]))], ([((-2147483648), 2147483647), (0, 1), (0, 12), (0, 12)], [], [], [200], [], [], []), [], []), ((-1), []), 0, 0)]
def D_eo113 : DT := (mkD iX12_errorsOf fX12 lX12 kX12 kkX12 427 [] (w_eo113, [], [], 1, 0, 0, 3) false 7 u_eo113)
theorem k_eo113 : chkS D_eo113 4000 0 0 113 = true := by decide +kernel
theorem s_eo113 {X0 : zC0} {E : zCx} (H : ∀ j, j < 427 → CMj X0 j) (hE : zOk E X0 RX12 cX12_errorsOf 7 (zrm 1 0 0)) {K : Nat → Nat} {B : Int} {L : List Nat} {f : Nat → va_E} (hh : hok X0.2.2.1 K B L f) {v0 v1 v2 v3 : Int} {r0 : Nat} (hb0 : (-2147483648) ≤ v0 ∧ v0 ≤ 2147483647) (hb1 : 0 ≤ v1 ∧ v1 ≤ 1) (hb2 : 0 ≤ v2 ∧ v2 ≤ 12) (hb3 : 0 ≤ v3 ∧ v3 ≤ 12) (hr0 : r0 ∈ L ∧ K r0 = 200) (k114 : ∀ (K' : Nat → Nat) (B' : Int) (L' : List Nat) (f' : Nat → va_E), hok X0.2.2.1 K' B' L' f' → extC [] K B L f K' B' L' f' → ((-2147483648) ≤ v0 ∧ v0 ≤ 2147483647) → (0 ≤ v1 ∧ v1 ≤ 1) → (0 ≤ v2 ∧ v2 ≤ 12) → (0 ≤ v3 ∧ v3 ≤ 12) → (r0 ∈ L' ∧ K' r0 = 200) → eW E 0 0 L' f' 114 [(0, .ref r0), (1, .int (Int32.ofInt v0)), (2, .int (Int32.ofInt v1)), (3, .int (Int32.ofInt v2)), (4, .int (Int32.ofInt v3))] [.int (Int32.ofInt v2)]) : eW E 0 0 L f 113 [(0, .ref r0), (1, .int (Int32.ofInt v0)), (2, .int (Int32.ofInt v1)), (3, .int (Int32.ofInt v2)), (4, .int (Int32.ofInt v3))] [] := by
  obtain ⟨l0, D0, cy0, ax0⟩ := X0
  have hraw : eW E 0 0 L f 113 [(0, .ref r0), (1, .int (Int32.ofInt (0 + (1 * v0 + 0)))), (2, .int (Int32.ofInt (0 + (1 * v1 + 0)))), (3, .int (Int32.ofInt (0 + (1 * v2 + 0)))), (4, .int (Int32.ofInt (0 + (1 * v3 + 0))))] [] := ?_
  · simpa only [Int.zero_add, Int.one_mul, Int.add_zero] using hraw
  refine seg_ok (D := D_eo113) (νi := fun i => [v0, v1, v2, v3].getD i 0) (μi := fun i => [r0].getD i 0) k_eo113 hE (mk_ok (ins := iX12_errorsOf) jX12_errorsOf fX12_ok lX12_ok kX12_ok kkX12_ok H) (by decide) rfl rfl rfl rfl hh ?_ ?_
  · refine ⟨(eok_of (fun i q hq => ?_) (fun i hi => ?_)), fa0, fa0, ?_, fa0, fa0, fa0⟩
    · match i, hq with
      | 0, hq => cases hq; exact hb0
      | 1, hq => cases hq; exact hb1
      | 2, hq => cases hq; exact hb2
      | 3, hq => cases hq; exact hb3
      | i + 4, hq => cases hq
    · match i, hi with
      | 0, hi => exact absurd hi (by decide)
      | 1, hi => exact absurd hi (by decide)
      | 2, hi => exact absurd hi (by decide)
      | 3, hi => exact absurd hi (by decide)
      | i + 4, _ => rfl
    · intro i k hk
      match i, hk with
      | 0, hk => cases hk; exact hr0
      | i + 1, hk => cases hk
  · intro q hq hst K' B' L' f' ν μ h1 h2 h3 h4 h5
    have e0 : ν 0 = v0 := h4 0 (by decide)
    have e1 : ν 1 = v1 := h4 1 (by decide)
    have e2 : ν 2 = v2 := h4 2 (by decide)
    have e3 : ν 3 = v3 := h4 3 (by decide)
    have d0 : μ 0 = r0 := h5 0 (by decide)
    subst e0
    subst e1
    subst e2
    subst e3
    subst d0
    replace hq : q ∈ u_eo113 := hq
    unfold u_eo113 at hq
    simp only [List.mem_cons, List.not_mem_nil, or_false] at hq
    rcases hq with rfl
    · have hst2 : eW E 0 0 L' f' 114 [(0, .ref (μ 0)), (1, .int (Int32.ofInt (0 + (1 * ν 0 + 0)))), (2, .int (Int32.ofInt (0 + (1 * ν 1 + 0)))), (3, .int (Int32.ofInt (0 + (1 * ν 2 + 0)))), (4, .int (Int32.ofInt (0 + (1 * ν 3 + 0))))] [.int (Int32.ofInt (0 + (1 * ν 2 + 0)))] := ?_
      · exact hst2
      try simp only [Int.zero_add, Int.one_mul, Int.add_zero]
      exact k114 K' B' L' f'   h1 h2 (h3.1 0) (h3.1 1) (h3.1 2) (h3.1 3) (h3.2.2.2.1 0 200 rfl)

/-! erA: from 0 to [11] -/
def w_erA : TP := ([(0, (2, 0, (0, []))), (1, (0, 0, (0, [(1, 0)]))), (2, (0, 0, (0, [(1, 1)])))], [], ([((-2147483648), (-1)), (0, 1)], [], [], [197], [], [], []), [], [])
def u_erA : List (Nat × TP × EX × Nat × Nat) := [(11, ([(0, (2, 0, (0, []))), (1, (0, 0, (0, [(1, 0)]))), (2, (0, 0, (0, [(1, 1)])))], [(0, 0, ((-1), []))], ([((-2147483648), (-1)), (0, 1)], [], [], [197], [], [], []), [], []), ((-1), []), 0, 0)]
def D_erA : DT := (mkD iX11_errors fX11 lX11 kX11 kkX11 427 [(4, [420])] (w_erA, [], [], 2, 0, 0, 3) false 3 u_erA)
theorem k_erA : chkS D_erA 4000 0 0 0 = true := by decide +kernel
theorem s_erA {X0 : zC0} {E : zCx} (H : ∀ j, j < 427 → CMj X0 j) (hE : zOk E X0 RX11 cX11_errors 3 (zrm 2 0 0)) {K : Nat → Nat} {B : Int} {L : List Nat} {f : Nat → va_E} (hh : hok X0.2.2.1 K B L f) {v0 v1 : Int} {r0 : Nat} (hb0 : (-2147483648) ≤ v0 ∧ v0 ≤ (-1)) (hb1 : 0 ≤ v1 ∧ v1 ≤ 1) (hr0 : r0 ∈ L ∧ K r0 = 197) (k11 : ∀ (K' : Nat → Nat) (B' : Int) (L' : List Nat) (f' : Nat → va_E), hok X0.2.2.1 K' B' L' f' → extC [] K B L f K' B' L' f' → ((-2147483648) ≤ v0 ∧ v0 ≤ (-1)) → (0 ≤ v1 ∧ v1 ≤ 1) → (r0 ∈ L' ∧ K' r0 = 197) → eW E 0 0 L' f' 11 [(0, .ref r0), (1, .int (Int32.ofInt v0)), (2, .int (Int32.ofInt v1))] [.int (Int32.ofInt (-1))]) : eW E 0 0 L f 0 [(0, .ref r0), (1, .int (Int32.ofInt v0)), (2, .int (Int32.ofInt v1))] [] := by
  obtain ⟨l0, D0, cy0, ax0⟩ := X0
  have hraw : eW E 0 0 L f 0 [(0, .ref r0), (1, .int (Int32.ofInt (0 + (1 * v0 + 0)))), (2, .int (Int32.ofInt (0 + (1 * v1 + 0))))] [] := ?_
  · simpa only [Int.zero_add, Int.one_mul, Int.add_zero] using hraw
  refine seg_ok (D := D_erA) (νi := fun i => [v0, v1].getD i 0) (μi := fun i => [r0].getD i 0) k_erA hE (mk_ok (ins := iX11_errors) jX11_errors fX11_ok lX11_ok kX11_ok kkX11_ok H) (by decide) rfl rfl rfl rfl hh ?_ ?_
  · refine ⟨(eok_of (fun i q hq => ?_) (fun i hi => ?_)), fa0, fa0, ?_, fa0, fa0, fa0⟩
    · match i, hq with
      | 0, hq => cases hq; exact hb0
      | 1, hq => cases hq; exact hb1
      | i + 2, hq => cases hq
    · match i, hi with
      | 0, hi => exact absurd hi (by decide)
      | 1, hi => exact absurd hi (by decide)
      | i + 2, _ => rfl
    · intro i k hk
      match i, hk with
      | 0, hk => cases hk; exact hr0
      | i + 1, hk => cases hk
  · intro q hq hst K' B' L' f' ν μ h1 h2 h3 h4 h5
    have e0 : ν 0 = v0 := h4 0 (by decide)
    have e1 : ν 1 = v1 := h4 1 (by decide)
    have d0 : μ 0 = r0 := h5 0 (by decide)
    subst e0
    subst e1
    subst d0
    replace hq : q ∈ u_erA := hq
    unfold u_erA at hq
    simp only [List.mem_cons, List.not_mem_nil, or_false] at hq
    rcases hq with rfl
    · have hst2 : eW E 0 0 L' f' 11 [(0, .ref (μ 0)), (1, .int (Int32.ofInt (0 + (1 * ν 0 + 0)))), (2, .int (Int32.ofInt (0 + (1 * ν 1 + 0))))] [.int (Int32.ofInt ((-1) + 0))] := ?_
      · exact hst2
      try simp only [Int.zero_add, Int.one_mul, Int.add_zero]
      exact k11 K' B' L' f'   h1 h2 (h3.1 0) (h3.1 1) (h3.2.2.2.1 0 197 rfl)

/-! erB: from 0 to [11] -/
def w_erB : TP := ([(0, (2, 0, (0, []))), (1, (0, 0, (0, [(1, 0)]))), (2, (0, 0, (0, [(1, 1)])))], [], ([(11, 2147483647), (0, 1)], [], [], [197], [], [], []), [], [])
def u_erB : List (Nat × TP × EX × Nat × Nat) := [(11, ([(0, (2, 0, (0, []))), (1, (0, 0, (0, [(1, 0)]))), (2, (0, 0, (0, [(1, 1)])))], [(0, 0, ((-1), []))], ([(11, 2147483647), (0, 1)], [], [], [197], [], [], []), [], []), ((-1), []), 0, 0)]
def D_erB : DT := (mkD iX11_errors fX11 lX11 kX11 kkX11 427 [(4, [420])] (w_erB, [], [], 2, 0, 0, 3) false 3 u_erB)
theorem k_erB : chkS D_erB 4000 0 0 0 = true := by decide +kernel
theorem s_erB {X0 : zC0} {E : zCx} (H : ∀ j, j < 427 → CMj X0 j) (hE : zOk E X0 RX11 cX11_errors 3 (zrm 2 0 0)) {K : Nat → Nat} {B : Int} {L : List Nat} {f : Nat → va_E} (hh : hok X0.2.2.1 K B L f) {v0 v1 : Int} {r0 : Nat} (hb0 : 11 ≤ v0 ∧ v0 ≤ 2147483647) (hb1 : 0 ≤ v1 ∧ v1 ≤ 1) (hr0 : r0 ∈ L ∧ K r0 = 197) (k11 : ∀ (K' : Nat → Nat) (B' : Int) (L' : List Nat) (f' : Nat → va_E), hok X0.2.2.1 K' B' L' f' → extC [] K B L f K' B' L' f' → (11 ≤ v0 ∧ v0 ≤ 2147483647) → (0 ≤ v1 ∧ v1 ≤ 1) → (r0 ∈ L' ∧ K' r0 = 197) → eW E 0 0 L' f' 11 [(0, .ref r0), (1, .int (Int32.ofInt v0)), (2, .int (Int32.ofInt v1))] [.int (Int32.ofInt (-1))]) : eW E 0 0 L f 0 [(0, .ref r0), (1, .int (Int32.ofInt v0)), (2, .int (Int32.ofInt v1))] [] := by
  obtain ⟨l0, D0, cy0, ax0⟩ := X0
  have hraw : eW E 0 0 L f 0 [(0, .ref r0), (1, .int (Int32.ofInt (0 + (1 * v0 + 0)))), (2, .int (Int32.ofInt (0 + (1 * v1 + 0))))] [] := ?_
  · simpa only [Int.zero_add, Int.one_mul, Int.add_zero] using hraw
  refine seg_ok (D := D_erB) (νi := fun i => [v0, v1].getD i 0) (μi := fun i => [r0].getD i 0) k_erB hE (mk_ok (ins := iX11_errors) jX11_errors fX11_ok lX11_ok kX11_ok kkX11_ok H) (by decide) rfl rfl rfl rfl hh ?_ ?_
  · refine ⟨(eok_of (fun i q hq => ?_) (fun i hi => ?_)), fa0, fa0, ?_, fa0, fa0, fa0⟩
    · match i, hq with
      | 0, hq => cases hq; exact hb0
      | 1, hq => cases hq; exact hb1
      | i + 2, hq => cases hq
    · match i, hi with
      | 0, hi => exact absurd hi (by decide)
      | 1, hi => exact absurd hi (by decide)
      | i + 2, _ => rfl
    · intro i k hk
      match i, hk with
      | 0, hk => cases hk; exact hr0
      | i + 1, hk => cases hk
  · intro q hq hst K' B' L' f' ν μ h1 h2 h3 h4 h5
    have e0 : ν 0 = v0 := h4 0 (by decide)
    have e1 : ν 1 = v1 := h4 1 (by decide)
    have d0 : μ 0 = r0 := h5 0 (by decide)
    subst e0
    subst e1
    subst d0
    replace hq : q ∈ u_erB := hq
    unfold u_erB at hq
    simp only [List.mem_cons, List.not_mem_nil, or_false] at hq
    rcases hq with rfl
    · have hst2 : eW E 0 0 L' f' 11 [(0, .ref (μ 0)), (1, .int (Int32.ofInt (0 + (1 * ν 0 + 0)))), (2, .int (Int32.ofInt (0 + (1 * ν 1 + 0))))] [.int (Int32.ofInt ((-1) + 0))] := ?_
      · exact hst2
      try simp only [Int.zero_add, Int.one_mul, Int.add_zero]
      exact k11 K' B' L' f'   h1 h2 (h3.1 0) (h3.1 1) (h3.2.2.2.1 0 197 rfl)

/-! erC: from 0 to [24] -/
def w_erC : TP := ([(0, (2, 0, (0, []))), (1, (0, 0, (0, [(1, 0)]))), (2, (0, 0, (1, [])))], [], ([(0, 10)], [], [], [197], [], [], []), [], [])
def u_erC : List (Nat × TP × EX × Nat × Nat) := [(24, ([(0, (2, 0, (0, []))), (1, (0, 0, (0, [(1, 0)]))), (2, (0, 0, (1, [])))], [(0, 0, (0, [(1, 0)])), (2, 1, (0, []))], ([(0, 10)], [], [], [197, 62], [], [], []), [], [(1, 1)]), ((-1), []), 0, 0)]
def D_erC : DT := (mkD iX11_errors fX11 lX11 kX11 kkX11 427 [(4, [420])] (w_erC, [], [], 2, 0, 0, 3) false 3 u_erC)
theorem k_erC : chkS D_erC 4000 0 0 0 = true := by decide +kernel
theorem s_erC {X0 : zC0} {E : zCx} (H : ∀ j, j < 427 → CMj X0 j) (hE : zOk E X0 RX11 cX11_errors 3 (zrm 2 0 0)) {K : Nat → Nat} {B : Int} {L : List Nat} {f : Nat → va_E} (hh : hok X0.2.2.1 K B L f) {v0 : Int} {r0 : Nat} (hb0 : 0 ≤ v0 ∧ v0 ≤ 10) (hr0 : r0 ∈ L ∧ K r0 = 197) (k24 : ∀ (K' : Nat → Nat) (B' : Int) (L' : List Nat) (f' : Nat → va_E) (r1 : Nat), hok X0.2.2.1 K' B' L' f' → extC [] K B L f K' B' L' f' → (0 ≤ v0 ∧ v0 ≤ 10) → (r0 ∈ L' ∧ K' r0 = 197) → (r1 ∈ L' ∧ K' r1 = 62) → eW E 0 0 L' f' 24 [(0, .ref r0), (1, .int (Int32.ofInt v0)), (2, .int (Int32.ofInt 1))] [.int (Int32.ofInt v0), .ref r1]) : eW E 0 0 L f 0 [(0, .ref r0), (1, .int (Int32.ofInt v0)), (2, .int (Int32.ofInt 1))] [] := by
  obtain ⟨l0, D0, cy0, ax0⟩ := X0
  have hraw : eW E 0 0 L f 0 [(0, .ref r0), (1, .int (Int32.ofInt (0 + (1 * v0 + 0)))), (2, .int (Int32.ofInt (1 + 0)))] [] := ?_
  · simpa only [Int.zero_add, Int.one_mul, Int.add_zero] using hraw
  refine seg_ok (D := D_erC) (νi := fun i => [v0].getD i 0) (μi := fun i => [r0].getD i 0) k_erC hE (mk_ok (ins := iX11_errors) jX11_errors fX11_ok lX11_ok kX11_ok kkX11_ok H) (by decide) rfl rfl rfl rfl hh ?_ ?_
  · refine ⟨(eok_of (fun i q hq => ?_) (fun i hi => ?_)), fa0, fa0, ?_, fa0, fa0, fa0⟩
    · match i, hq with
      | 0, hq => cases hq; exact hb0
      | i + 1, hq => cases hq
    · match i, hi with
      | 0, hi => exact absurd hi (by decide)
      | i + 1, _ => rfl
    · intro i k hk
      match i, hk with
      | 0, hk => cases hk; exact hr0
      | i + 1, hk => cases hk
  · intro q hq hst K' B' L' f' ν μ h1 h2 h3 h4 h5
    have e0 : ν 0 = v0 := h4 0 (by decide)
    have d0 : μ 0 = r0 := h5 0 (by decide)
    subst e0
    subst d0
    replace hq : q ∈ u_erC := hq
    unfold u_erC at hq
    simp only [List.mem_cons, List.not_mem_nil, or_false] at hq
    rcases hq with rfl
    · have hst2 : eW E 0 0 L' f' 24 [(0, .ref (μ 0)), (1, .int (Int32.ofInt (0 + (1 * ν 0 + 0)))), (2, .int (Int32.ofInt (1 + 0)))] [.int (Int32.ofInt (0 + (1 * ν 0 + 0))), .ref (μ 1)] := ?_
      · exact hst2
      try simp only [Int.zero_add, Int.one_mul, Int.add_zero]
      exact k24 K' B' L' f'  (μ 1) h1 h2 (h3.1 0) (h3.2.2.2.1 0 197 rfl) (h3.2.2.2.1 1 62 rfl)

/-! erD: from 0 to [38] -/
def w_erD : TP := ([(0, (2, 0, (0, []))), (1, (0, 0, (0, [(1, 0)]))), (2, (0, 0, (0, [])))], [], ([(0, 10)], [], [], [197], [], [], []), [], [])
def u_erD : List (Nat × TP × EX × Nat × Nat) := [(38, ([(0, (2, 0, (0, []))), (1, (0, 0, (0, [(1, 0)]))), (2, (0, 0, (0, [])))], [(0, 0, (0, [(1, 0)])), (2, 1, (0, []))], ([(0, 10)], [], [], [197, 62], [], [], []), [], [(1, 1)]), ((-1), []), 0, 0)]
def D_erD : DT := (mkD iX11_errors fX11 lX11 kX11 kkX11 427 [(4, [420])] (w_erD, [], [], 2, 0, 0, 3) false 3 u_erD)
theorem k_erD : chkS D_erD 4000 0 0 0 = true := by decide +kernel
theorem s_erD {X0 : zC0} {E : zCx} (H : ∀ j, j < 427 → CMj X0 j) (hE : zOk E X0 RX11 cX11_errors 3 (zrm 2 0 0)) {K : Nat → Nat} {B : Int} {L : List Nat} {f : Nat → va_E} (hh : hok X0.2.2.1 K B L f) {v0 : Int} {r0 : Nat} (hb0 : 0 ≤ v0 ∧ v0 ≤ 10) (hr0 : r0 ∈ L ∧ K r0 = 197) (k38 : ∀ (K' : Nat → Nat) (B' : Int) (L' : List Nat) (f' : Nat → va_E) (r1 : Nat), hok X0.2.2.1 K' B' L' f' → extC [] K B L f K' B' L' f' → (0 ≤ v0 ∧ v0 ≤ 10) → (r0 ∈ L' ∧ K' r0 = 197) → (r1 ∈ L' ∧ K' r1 = 62) → eW E 0 0 L' f' 38 [(0, .ref r0), (1, .int (Int32.ofInt v0)), (2, .int (Int32.ofInt 0))] [.int (Int32.ofInt v0), .ref r1]) : eW E 0 0 L f 0 [(0, .ref r0), (1, .int (Int32.ofInt v0)), (2, .int (Int32.ofInt 0))] [] := by
  obtain ⟨l0, D0, cy0, ax0⟩ := X0
  have hraw : eW E 0 0 L f 0 [(0, .ref r0), (1, .int (Int32.ofInt (0 + (1 * v0 + 0)))), (2, .int (Int32.ofInt (0 + 0)))] [] := ?_
  · simpa only [Int.zero_add, Int.one_mul, Int.add_zero] using hraw
  refine seg_ok (D := D_erD) (νi := fun i => [v0].getD i 0) (μi := fun i => [r0].getD i 0) k_erD hE (mk_ok (ins := iX11_errors) jX11_errors fX11_ok lX11_ok kX11_ok kkX11_ok H) (by decide) rfl rfl rfl rfl hh ?_ ?_
  · refine ⟨(eok_of (fun i q hq => ?_) (fun i hi => ?_)), fa0, fa0, ?_, fa0, fa0, fa0⟩
    · match i, hq with
      | 0, hq => cases hq; exact hb0
      | i + 1, hq => cases hq
    · match i, hi with
      | 0, hi => exact absurd hi (by decide)
      | i + 1, _ => rfl
    · intro i k hk
      match i, hk with
      | 0, hk => cases hk; exact hr0
      | i + 1, hk => cases hk
  · intro q hq hst K' B' L' f' ν μ h1 h2 h3 h4 h5
    have e0 : ν 0 = v0 := h4 0 (by decide)
    have d0 : μ 0 = r0 := h5 0 (by decide)
    subst e0
    subst d0
    replace hq : q ∈ u_erD := hq
    unfold u_erD at hq
    simp only [List.mem_cons, List.not_mem_nil, or_false] at hq
    rcases hq with rfl
    · have hst2 : eW E 0 0 L' f' 38 [(0, .ref (μ 0)), (1, .int (Int32.ofInt (0 + (1 * ν 0 + 0)))), (2, .int (Int32.ofInt (0 + 0)))] [.int (Int32.ofInt (0 + (1 * ν 0 + 0))), .ref (μ 1)] := ?_
      · exact hst2
      try simp only [Int.zero_add, Int.one_mul, Int.add_zero]
      exact k38 K' B' L' f'  (μ 1) h1 h2 (h3.1 0) (h3.2.2.2.1 0 197 rfl) (h3.2.2.2.1 1 62 rfl)

/-! er27: from 27 to [41] -/
def w_er27 : TP := ([(0, (2, 0, (0, []))), (1, (0, 0, (0, [(1, 0)]))), (2, (0, 0, (0, [(1, 1)])))], [(0, 0, (0, [(1, 2)]))], ([(0, 10), (0, 1), ((-2147483648), 2147483647)], [], [], [197], [], [], []), [], [])
def u_er27 : List (Nat × TP × EX × Nat × Nat) := [(41, ([(0, (2, 0, (0, []))), (1, (0, 0, (0, [(1, 0)]))), (2, (0, 0, (0, [(1, 1)])))], [(0, 0, (0, [(1, 2)]))], ([(0, 10), (0, 1), ((-2147483648), 2147483647)], [], [], [197], [], [], []), [], []), ((-1), []), 0, 0)]
def D_er27 : DT := (mkD iX11_errors fX11 lX11 kX11 kkX11 427 [] (w_er27, [], [], 2, 0, 0, 3) false 3 u_er27)
theorem k_er27 : chkS D_er27 4000 0 0 27 = true := by decide +kernel
theorem s_er27 {X0 : zC0} {E : zCx} (H : ∀ j, j < 427 → CMj X0 j) (hE : zOk E X0 RX11 cX11_errors 3 (zrm 2 0 0)) {K : Nat → Nat} {B : Int} {L : List Nat} {f : Nat → va_E} (hh : hok X0.2.2.1 K B L f) {v0 v1 v2 : Int} {r0 : Nat} (hb0 : 0 ≤ v0 ∧ v0 ≤ 10) (hb1 : 0 ≤ v1 ∧ v1 ≤ 1) (hb2 : (-2147483648) ≤ v2 ∧ v2 ≤ 2147483647) (hr0 : r0 ∈ L ∧ K r0 = 197) (k41 : ∀ (K' : Nat → Nat) (B' : Int) (L' : List Nat) (f' : Nat → va_E), hok X0.2.2.1 K' B' L' f' → extC [] K B L f K' B' L' f' → (0 ≤ v0 ∧ v0 ≤ 10) → (0 ≤ v1 ∧ v1 ≤ 1) → ((-2147483648) ≤ v2 ∧ v2 ≤ 2147483647) → (r0 ∈ L' ∧ K' r0 = 197) → eW E 0 0 L' f' 41 [(0, .ref r0), (1, .int (Int32.ofInt v0)), (2, .int (Int32.ofInt v1))] [.int (Int32.ofInt v2)]) : eW E 0 0 L f 27 [(0, .ref r0), (1, .int (Int32.ofInt v0)), (2, .int (Int32.ofInt v1))] [.int (Int32.ofInt v2)] := by
  obtain ⟨l0, D0, cy0, ax0⟩ := X0
  have hraw : eW E 0 0 L f 27 [(0, .ref r0), (1, .int (Int32.ofInt (0 + (1 * v0 + 0)))), (2, .int (Int32.ofInt (0 + (1 * v1 + 0))))] [.int (Int32.ofInt (0 + (1 * v2 + 0)))] := ?_
  · simpa only [Int.zero_add, Int.one_mul, Int.add_zero] using hraw
  refine seg_ok (D := D_er27) (νi := fun i => [v0, v1, v2].getD i 0) (μi := fun i => [r0].getD i 0) k_er27 hE (mk_ok (ins := iX11_errors) jX11_errors fX11_ok lX11_ok kX11_ok kkX11_ok H) (by decide) rfl rfl rfl rfl hh ?_ ?_
  · refine ⟨(eok_of (fun i q hq => ?_) (fun i hi => ?_)), fa0, fa0, ?_, fa0, fa0, fa0⟩
    · match i, hq with
      | 0, hq => cases hq; exact hb0
      | 1, hq => cases hq; exact hb1
      | 2, hq => cases hq; exact hb2
      | i + 3, hq => cases hq
    · match i, hi with
      | 0, hi => exact absurd hi (by decide)
      | 1, hi => exact absurd hi (by decide)
      | 2, hi => exact absurd hi (by decide)
      | i + 3, _ => rfl
    · intro i k hk
      match i, hk with
      | 0, hk => cases hk; exact hr0
      | i + 1, hk => cases hk
  · intro q hq hst K' B' L' f' ν μ h1 h2 h3 h4 h5
    have e0 : ν 0 = v0 := h4 0 (by decide)
    have e1 : ν 1 = v1 := h4 1 (by decide)
    have e2 : ν 2 = v2 := h4 2 (by decide)
    have d0 : μ 0 = r0 := h5 0 (by decide)
    subst e0
    subst e1
    subst e2
    subst d0
    replace hq : q ∈ u_er27 := hq
    unfold u_er27 at hq
    simp only [List.mem_cons, List.not_mem_nil, or_false] at hq
    rcases hq with rfl
    · have hst2 : eW E 0 0 L' f' 41 [(0, .ref (μ 0)), (1, .int (Int32.ofInt (0 + (1 * ν 0 + 0)))), (2, .int (Int32.ofInt (0 + (1 * ν 1 + 0))))] [.int (Int32.ofInt (0 + (1 * ν 2 + 0)))] := ?_
      · exact hst2
      try simp only [Int.zero_add, Int.one_mul, Int.add_zero]
      exact k41 K' B' L' f'   h1 h2 (h3.1 0) (h3.1 1) (h3.1 2) (h3.2.2.2.1 0 197 rfl)

/-! esA: from 0 to [20] -/
def w_esA : TP := ([(0, (2, 0, (0, []))), (1, (0, 0, (0, [(1, 0)]))), (2, (0, 0, (0, [(1, 1)])))], [], ([((-2147483648), (-1)), (0, 1)], [], [], [200], [], [], []), [], [])
def u_esA : List (Nat × TP × EX × Nat × Nat) := [(20, ([(0, (2, 0, (0, []))), (1, (0, 0, (0, [(1, 0)]))), (2, (0, 0, (0, [(1, 1)])))], [(0, 0, ((-1), []))], ([((-2147483648), (-1)), (0, 1)], [], [], [200], [], [], []), [], []), ((-1), []), 0, 0)]
def D_esA : DT := (mkD iX12_errors fX12 lX12 kX12 kkX12 427 [(4, [424])] (w_esA, [], [], 2, 0, 0, 3) false 3 u_esA)
theorem k_esA : chkS D_esA 4000 0 0 0 = true := by decide +kernel
theorem s_esA {X0 : zC0} {E : zCx} (H : ∀ j, j < 427 → CMj X0 j) (hE : zOk E X0 RX12 cX12_errors 3 (zrm 2 0 0)) {K : Nat → Nat} {B : Int} {L : List Nat} {f : Nat → va_E} (hh : hok X0.2.2.1 K B L f) {v0 v1 : Int} {r0 : Nat} (hb0 : (-2147483648) ≤ v0 ∧ v0 ≤ (-1)) (hb1 : 0 ≤ v1 ∧ v1 ≤ 1) (hr0 : r0 ∈ L ∧ K r0 = 200) (k20 : ∀ (K' : Nat → Nat) (B' : Int) (L' : List Nat) (f' : Nat → va_E), hok X0.2.2.1 K' B' L' f' → extC [] K B L f K' B' L' f' → ((-2147483648) ≤ v0 ∧ v0 ≤ (-1)) → (0 ≤ v1 ∧ v1 ≤ 1) → (r0 ∈ L' ∧ K' r0 = 200) → eW E 0 0 L' f' 20 [(0, .ref r0), (1, .int (Int32.ofInt v0)), (2, .int (Int32.ofInt v1))] [.int (Int32.ofInt (-1))]) : eW E 0 0 L f 0 [(0, .ref r0), (1, .int (Int32.ofInt v0)), (2, .int (Int32.ofInt v1))] [] := by
  obtain ⟨l0, D0, cy0, ax0⟩ := X0
  have hraw : eW E 0 0 L f 0 [(0, .ref r0), (1, .int (Int32.ofInt (0 + (1 * v0 + 0)))), (2, .int (Int32.ofInt (0 + (1 * v1 + 0))))] [] := ?_
  · simpa only [Int.zero_add, Int.one_mul, Int.add_zero] using hraw
  refine seg_ok (D := D_esA) (νi := fun i => [v0, v1].getD i 0) (μi := fun i => [r0].getD i 0) k_esA hE (mk_ok (ins := iX12_errors) jX12_errors fX12_ok lX12_ok kX12_ok kkX12_ok H) (by decide) rfl rfl rfl rfl hh ?_ ?_
  · refine ⟨(eok_of (fun i q hq => ?_) (fun i hi => ?_)), fa0, fa0, ?_, fa0, fa0, fa0⟩
    · match i, hq with
      | 0, hq => cases hq; exact hb0
      | 1, hq => cases hq; exact hb1
      | i + 2, hq => cases hq
    · match i, hi with
      | 0, hi => exact absurd hi (by decide)
      | 1, hi => exact absurd hi (by decide)
      | i + 2, _ => rfl
    · intro i k hk
      match i, hk with
      | 0, hk => cases hk; exact hr0
      | i + 1, hk => cases hk
  · intro q hq hst K' B' L' f' ν μ h1 h2 h3 h4 h5
    have e0 : ν 0 = v0 := h4 0 (by decide)
    have e1 : ν 1 = v1 := h4 1 (by decide)
    have d0 : μ 0 = r0 := h5 0 (by decide)
    subst e0
    subst e1
    subst d0
    replace hq : q ∈ u_esA := hq
    unfold u_esA at hq
    simp only [List.mem_cons, List.not_mem_nil, or_false] at hq
    rcases hq with rfl
    · have hst2 : eW E 0 0 L' f' 20 [(0, .ref (μ 0)), (1, .int (Int32.ofInt (0 + (1 * ν 0 + 0)))), (2, .int (Int32.ofInt (0 + (1 * ν 1 + 0))))] [.int (Int32.ofInt ((-1) + 0))] := ?_
      · exact hst2
      try simp only [Int.zero_add, Int.one_mul, Int.add_zero]
      exact k20 K' B' L' f'   h1 h2 (h3.1 0) (h3.1 1) (h3.2.2.2.1 0 200 rfl)

/-! esB: from 0 to [20] -/
def w_esB : TP := ([(0, (2, 0, (0, []))), (1, (0, 0, (0, [(1, 0)]))), (2, (0, 0, (0, [(1, 1)])))], [], ([(11, 2147483647), (0, 1)], [], [], [200], [], [], []), [], [])
def u_esB : List (Nat × TP × EX × Nat × Nat) := [(20, ([(0, (2, 0, (0, []))), (1, (0, 0, (0, [(1, 0)]))), (2, (0, 0, (0, [(1, 1)])))], [(0, 0, ((-1), []))], ([(11, 2147483647), (0, 1)], [], [], [200], [], [], []), [], []), ((-1), []), 0, 0)]
def D_esB : DT := (mkD iX12_errors fX12 lX12 kX12 kkX12 427 [(4, [424])] (w_esB, [], [], 2, 0, 0, 3) false 3 u_esB)
theorem k_esB : chkS D_esB 4000 0 0 0 = true := by decide +kernel
theorem s_esB {X0 : zC0} {E : zCx} (H : ∀ j, j < 427 → CMj X0 j) (hE : zOk E X0 RX12 cX12_errors 3 (zrm 2 0 0)) {K : Nat → Nat} {B : Int} {L : List Nat} {f : Nat → va_E} (hh : hok X0.2.2.1 K B L f) {v0 v1 : Int} {r0 : Nat} (hb0 : 11 ≤ v0 ∧ v0 ≤ 2147483647) (hb1 : 0 ≤ v1 ∧ v1 ≤ 1) (hr0 : r0 ∈ L ∧ K r0 = 200) (k20 : ∀ (K' : Nat → Nat) (B' : Int) (L' : List Nat) (f' : Nat → va_E), hok X0.2.2.1 K' B' L' f' → extC [] K B L f K' B' L' f' → (11 ≤ v0 ∧ v0 ≤ 2147483647) → (0 ≤ v1 ∧ v1 ≤ 1) → (r0 ∈ L' ∧ K' r0 = 200) → eW E 0 0 L' f' 20 [(0, .ref r0), (1, .int (Int32.ofInt v0)), (2, .int (Int32.ofInt v1))] [.int (Int32.ofInt (-1))]) : eW E 0 0 L f 0 [(0, .ref r0), (1, .int (Int32.ofInt v0)), (2, .int (Int32.ofInt v1))] [] := by
  obtain ⟨l0, D0, cy0, ax0⟩ := X0
  have hraw : eW E 0 0 L f 0 [(0, .ref r0), (1, .int (Int32.ofInt (0 + (1 * v0 + 0)))), (2, .int (Int32.ofInt (0 + (1 * v1 + 0))))] [] := ?_
  · simpa only [Int.zero_add, Int.one_mul, Int.add_zero] using hraw
  refine seg_ok (D := D_esB) (νi := fun i => [v0, v1].getD i 0) (μi := fun i => [r0].getD i 0) k_esB hE (mk_ok (ins := iX12_errors) jX12_errors fX12_ok lX12_ok kX12_ok kkX12_ok H) (by decide) rfl rfl rfl rfl hh ?_ ?_
  · refine ⟨(eok_of (fun i q hq => ?_) (fun i hi => ?_)), fa0, fa0, ?_, fa0, fa0, fa0⟩
    · match i, hq with
      | 0, hq => cases hq; exact hb0
      | 1, hq => cases hq; exact hb1
      | i + 2, hq => cases hq
    · match i, hi with
      | 0, hi => exact absurd hi (by decide)
      | 1, hi => exact absurd hi (by decide)
      | i + 2, _ => rfl
    · intro i k hk
      match i, hk with
      | 0, hk => cases hk; exact hr0
      | i + 1, hk => cases hk
  · intro q hq hst K' B' L' f' ν μ h1 h2 h3 h4 h5
    have e0 : ν 0 = v0 := h4 0 (by decide)
    have e1 : ν 1 = v1 := h4 1 (by decide)
    have d0 : μ 0 = r0 := h5 0 (by decide)
    subst e0
    subst e1
    subst d0
    replace hq : q ∈ u_esB := hq
    unfold u_esB at hq
    simp only [List.mem_cons, List.not_mem_nil, or_false] at hq
    rcases hq with rfl
    · have hst2 : eW E 0 0 L' f' 20 [(0, .ref (μ 0)), (1, .int (Int32.ofInt (0 + (1 * ν 0 + 0)))), (2, .int (Int32.ofInt (0 + (1 * ν 1 + 0))))] [.int (Int32.ofInt ((-1) + 0))] := ?_
      · exact hst2
      try simp only [Int.zero_add, Int.one_mul, Int.add_zero]
      exact k20 K' B' L' f'   h1 h2 (h3.1 0) (h3.1 1) (h3.2.2.2.1 0 200 rfl)

/-! esC: from 0 to [13] -/
def w_esC : TP := ([(0, (2, 0, (0, []))), (1, (0, 0, (0, [(1, 0)]))), (2, (0, 0, (0, [(1, 1)])))], [], ([(0, 10), (0, 1)], [], [], [200], [], [], []), [], [])
def u_esC : List (Nat × TP × EX × Nat × Nat) := [(13, ([(0, (2, 0, (0, []))), (1, (0, 0, (0, [(1, 0)]))), (2, (0, 0, (0, [(1, 1)])))], [(0, 0, (0, [(1, 1)])), (0, 0, (0, [(1, 0)])), (2, 0, (0, []))], ([(0, 10), (0, 1)], [], [], [200], [], [], []), [], []), ((-1), []), 0, 0)]
def D_esC : DT := (mkD iX12_errors fX12 lX12 kX12 kkX12 427 [(4, [424])] (w_esC, [], [], 2, 0, 0, 3) false 3 u_esC)
theorem k_esC : chkS D_esC 4000 0 0 0 = true := by decide +kernel
theorem s_esC {X0 : zC0} {E : zCx} (H : ∀ j, j < 427 → CMj X0 j) (hE : zOk E X0 RX12 cX12_errors 3 (zrm 2 0 0)) {K : Nat → Nat} {B : Int} {L : List Nat} {f : Nat → va_E} (hh : hok X0.2.2.1 K B L f) {v0 v1 : Int} {r0 : Nat} (hb0 : 0 ≤ v0 ∧ v0 ≤ 10) (hb1 : 0 ≤ v1 ∧ v1 ≤ 1) (hr0 : r0 ∈ L ∧ K r0 = 200) (k13 : ∀ (K' : Nat → Nat) (B' : Int) (L' : List Nat) (f' : Nat → va_E), hok X0.2.2.1 K' B' L' f' → extC [] K B L f K' B' L' f' → (0 ≤ v0 ∧ v0 ≤ 10) → (0 ≤ v1 ∧ v1 ≤ 1) → (r0 ∈ L' ∧ K' r0 = 200) → eW E 0 0 L' f' 13 [(0, .ref r0), (1, .int (Int32.ofInt v0)), (2, .int (Int32.ofInt v1))] [.int (Int32.ofInt v1), .int (Int32.ofInt v0), .ref r0]) : eW E 0 0 L f 0 [(0, .ref r0), (1, .int (Int32.ofInt v0)), (2, .int (Int32.ofInt v1))] [] := by
  obtain ⟨l0, D0, cy0, ax0⟩ := X0
  have hraw : eW E 0 0 L f 0 [(0, .ref r0), (1, .int (Int32.ofInt (0 + (1 * v0 + 0)))), (2, .int (Int32.ofInt (0 + (1 * v1 + 0))))] [] := ?_
  · simpa only [Int.zero_add, Int.one_mul, Int.add_zero] using hraw
  refine seg_ok (D := D_esC) (νi := fun i => [v0, v1].getD i 0) (μi := fun i => [r0].getD i 0) k_esC hE (mk_ok (ins := iX12_errors) jX12_errors fX12_ok lX12_ok kX12_ok kkX12_ok H) (by decide) rfl rfl rfl rfl hh ?_ ?_
  · refine ⟨(eok_of (fun i q hq => ?_) (fun i hi => ?_)), fa0, fa0, ?_, fa0, fa0, fa0⟩
    · match i, hq with
      | 0, hq => cases hq; exact hb0
      | 1, hq => cases hq; exact hb1
      | i + 2, hq => cases hq
    · match i, hi with
      | 0, hi => exact absurd hi (by decide)
      | 1, hi => exact absurd hi (by decide)
      | i + 2, _ => rfl
    · intro i k hk
      match i, hk with
      | 0, hk => cases hk; exact hr0
      | i + 1, hk => cases hk
  · intro q hq hst K' B' L' f' ν μ h1 h2 h3 h4 h5
    have e0 : ν 0 = v0 := h4 0 (by decide)
    have e1 : ν 1 = v1 := h4 1 (by decide)
    have d0 : μ 0 = r0 := h5 0 (by decide)
    subst e0
    subst e1
    subst d0
    replace hq : q ∈ u_esC := hq
    unfold u_esC at hq
    simp only [List.mem_cons, List.not_mem_nil, or_false] at hq
    rcases hq with rfl
    · have hst2 : eW E 0 0 L' f' 13 [(0, .ref (μ 0)), (1, .int (Int32.ofInt (0 + (1 * ν 0 + 0)))), (2, .int (Int32.ofInt (0 + (1 * ν 1 + 0))))] [.int (Int32.ofInt (0 + (1 * ν 1 + 0))), .int (Int32.ofInt (0 + (1 * ν 0 + 0))), .ref (μ 0)] := ?_
      · exact hst2
      try simp only [Int.zero_add, Int.one_mul, Int.add_zero]
      exact k13 K' B' L' f'   h1 h2 (h3.1 0) (h3.1 1) (h3.2.2.2.1 0 200 rfl)

/-! es16: from 16 to [20] -/
def w_es16 : TP := ([(0, (2, 0, (0, []))), (1, (0, 0, (0, [(1, 0)]))), (2, (0, 0, (0, [(1, 1)])))], [(0, 0, (0, [(1, 2)]))], ([(0, 10), (0, 1), ((-2147483648), 2147483647)], [], [], [200], [], [], []), [], [])
def u_es16 : List (Nat × TP × EX × Nat × Nat) := [(20, ([(0, (2, 0, (0, []))), (1, (0, 0, (0, [(1, 0)]))), (2, (0, 0, (0, [(1, 1)])))], [(0, 0, (0, [(1, 2)]))], ([(0, 10), (0, 1), ((-2147483648), 2147483647)], [], [], [200], [], [], []), [], []), ((-1), []), 0, 0)]
def D_es16 : DT := (mkD iX12_errors fX12 lX12 kX12 kkX12 427 [] (w_es16, [], [], 2, 0, 0, 3) false 3 u_es16)
theorem k_es16 : chkS D_es16 4000 0 0 16 = true := by decide +kernel
theorem s_es16 {X0 : zC0} {E : zCx} (H : ∀ j, j < 427 → CMj X0 j) (hE : zOk E X0 RX12 cX12_errors 3 (zrm 2 0 0)) {K : Nat → Nat} {B : Int} {L : List Nat} {f : Nat → va_E} (hh : hok X0.2.2.1 K B L f) {v0 v1 v2 : Int} {r0 : Nat} (hb0 : 0 ≤ v0 ∧ v0 ≤ 10) (hb1 : 0 ≤ v1 ∧ v1 ≤ 1) (hb2 : (-2147483648) ≤ v2 ∧ v2 ≤ 2147483647) (hr0 : r0 ∈ L ∧ K r0 = 200) (k20 : ∀ (K' : Nat → Nat) (B' : Int) (L' : List Nat) (f' : Nat → va_E), hok X0.2.2.1 K' B' L' f' → extC [] K B L f K' B' L' f' → (0 ≤ v0 ∧ v0 ≤ 10) → (0 ≤ v1 ∧ v1 ≤ 1) → ((-2147483648) ≤ v2 ∧ v2 ≤ 2147483647) → (r0 ∈ L' ∧ K' r0 = 200) → eW E 0 0 L' f' 20 [(0, .ref r0), (1, .int (Int32.ofInt v0)), (2, .int (Int32.ofInt v1))] [.int (Int32.ofInt v2)]) : eW E 0 0 L f 16 [(0, .ref r0), (1, .int (Int32.ofInt v0)), (2, .int (Int32.ofInt v1))] [.int (Int32.ofInt v2)] := by
  obtain ⟨l0, D0, cy0, ax0⟩ := X0
  have hraw : eW E 0 0 L f 16 [(0, .ref r0), (1, .int (Int32.ofInt (0 + (1 * v0 + 0)))), (2, .int (Int32.ofInt (0 + (1 * v1 + 0))))] [.int (Int32.ofInt (0 + (1 * v2 + 0)))] := ?_
  · simpa only [Int.zero_add, Int.one_mul, Int.add_zero] using hraw
  refine seg_ok (D := D_es16) (νi := fun i => [v0, v1, v2].getD i 0) (μi := fun i => [r0].getD i 0) k_es16 hE (mk_ok (ins := iX12_errors) jX12_errors fX12_ok lX12_ok kX12_ok kkX12_ok H) (by decide) rfl rfl rfl rfl hh ?_ ?_
  · refine ⟨(eok_of (fun i q hq => ?_) (fun i hi => ?_)), fa0, fa0, ?_, fa0, fa0, fa0⟩
    · match i, hq with
      | 0, hq => cases hq; exact hb0
      | 1, hq => cases hq; exact hb1
      | 2, hq => cases hq; exact hb2
      | i + 3, hq => cases hq
    · match i, hi with
      | 0, hi => exact absurd hi (by decide)
      | 1, hi => exact absurd hi (by decide)
      | 2, hi => exact absurd hi (by decide)
      | i + 3, _ => rfl
    · intro i k hk
      match i, hk with
      | 0, hk => cases hk; exact hr0
      | i + 1, hk => cases hk
  · intro q hq hst K' B' L' f' ν μ h1 h2 h3 h4 h5
    have e0 : ν 0 = v0 := h4 0 (by decide)
    have e1 : ν 1 = v1 := h4 1 (by decide)
    have e2 : ν 2 = v2 := h4 2 (by decide)
    have d0 : μ 0 = r0 := h5 0 (by decide)
    subst e0
    subst e1
    subst e2
    subst d0
    replace hq : q ∈ u_es16 := hq
    unfold u_es16 at hq
    simp only [List.mem_cons, List.not_mem_nil, or_false] at hq
    rcases hq with rfl
    · have hst2 : eW E 0 0 L' f' 20 [(0, .ref (μ 0)), (1, .int (Int32.ofInt (0 + (1 * ν 0 + 0)))), (2, .int (Int32.ofInt (0 + (1 * ν 1 + 0))))] [.int (Int32.ofInt (0 + (1 * ν 2 + 0)))] := ?_
      · exact hst2
      try simp only [Int.zero_add, Int.one_mul, Int.add_zero]
      exact k20 K' B' L' f'   h1 h2 (h3.1 0) (h3.1 1) (h3.1 2) (h3.2.2.2.1 0 200 rfl)

/-! bn0: from 0 to [12] -/
def w_bn0 : TP := ([(0, (2, 0, (0, [])))], [], ([], [], [], [197], [], [], []), [], [])
def u_bn0 : List (Nat × TP × EX × Nat × Nat) := [(12, ([(0, (2, 0, (0, []))), (1, (2, 1, (0, []))), (2, (0, 0, (0, []))), (3, (0, 0, (1, [])))], [], ([], [], [], [197, 62], [], [], []), [], [(0, 1)]), ((-1), []), 0, 0)]
def D_bn0 : DT := (mkD iX11_bound fX11 lX11 kX11 kkX11 427 [] (w_bn0, [], [], 2, 0, 0, 3) false 4 u_bn0)
theorem k_bn0 : chkS D_bn0 4000 0 0 0 = true := by decide +kernel
theorem s_bn0 {X0 : zC0} {E : zCx} (H : ∀ j, j < 427 → CMj X0 j) (hE : zOk E X0 RX11 cX11_bound 4 (zrm 2 0 0)) {K : Nat → Nat} {B : Int} {L : List Nat} {f : Nat → va_E} (hh : hok X0.2.2.1 K B L f) {r0 : Nat} (hr0 : r0 ∈ L ∧ K r0 = 197) (k12 : ∀ (K' : Nat → Nat) (B' : Int) (L' : List Nat) (f' : Nat → va_E) (r1 : Nat), hok X0.2.2.1 K' B' L' f' → extC [] K B L f K' B' L' f' → (r0 ∈ L' ∧ K' r0 = 197) → (r1 ∈ L' ∧ K' r1 = 62) → eW E 0 0 L' f' 12 [(0, .ref r0), (1, .ref r1), (2, .int (Int32.ofInt 0)), (3, .int (Int32.ofInt 1))] []) : eW E 0 0 L f 0 [(0, .ref r0)] [] := by
  obtain ⟨l0, D0, cy0, ax0⟩ := X0
  have hraw : eW E 0 0 L f 0 [(0, .ref r0)] [] := ?_
  · simpa only [Int.zero_add, Int.one_mul, Int.add_zero] using hraw
  refine seg_ok (D := D_bn0) (νi := fun i => [].getD i 0) (μi := fun i => [r0].getD i 0) k_bn0 hE (mk_ok (ins := iX11_bound) jX11_bound fX11_ok lX11_ok kX11_ok kkX11_ok H) (by decide) rfl rfl rfl rfl hh ?_ ?_
  · refine ⟨(eok_of (fun i q hq => by cases hq) (fun i _ => rfl)), fa0, fa0, ?_, fa0, fa0, fa0⟩
    · intro i k hk
      match i, hk with
      | 0, hk => cases hk; exact hr0
      | i + 1, hk => cases hk
  · intro q hq hst K' B' L' f' ν μ h1 h2 h3 h4 h5
    have d0 : μ 0 = r0 := h5 0 (by decide)
    subst d0
    replace hq : q ∈ u_bn0 := hq
    unfold u_bn0 at hq
    simp only [List.mem_cons, List.not_mem_nil, or_false] at hq
    rcases hq with rfl
    · have hst2 : eW E 0 0 L' f' 12 [(0, .ref (μ 0)), (1, .ref (μ 1)), (2, .int (Int32.ofInt (0 + 0))), (3, .int (Int32.ofInt (1 + 0)))] [] := ?_
      · exact hst2
      try simp only [Int.zero_add, Int.one_mul, Int.add_zero]
      exact k12 K' B' L' f'  (μ 1) h1 h2 (h3.2.2.2.1 0 197 rfl) (h3.2.2.2.1 1 62 rfl)

/-! bn12: from 12 to [20, 51] -/
def w_bn12 : TP := ([(0, (2, 0, (0, []))), (1, (2, 1, (0, []))), (2, (0, 0, (0, [(1, 0)]))), (3, (0, 0, (0, [(1, 1)])))], [], ([(0, 10), (1, 11)], [], [], [197, 62], [], [], []), [], [])
def u_bn12 : List (Nat × TP × EX × Nat × Nat) := [(20, ([(0, (2, 0, (0, []))), (1, (2, 1, (0, []))), (2, (0, 0, (0, [(1, 0)]))), (3, (0, 0, (0, [(1, 1)])))], [(0, 0, (0, [(1, 1)])), (2, 1, (0, []))], ([(0, 10), (1, 10)], [], [], [197, 62], [], [], []), [], []), ((-1), []), 0, 0), (51, ([(0, (2, 0, (0, []))), (1, (2, 1, (0, []))), (2, (0, 0, (0, [(1, 0)]))), (3, (0, 0, (0, [(1, 1)])))], [], ([(0, 10), (11, 11)], [], [], [197, 62], [], [], []), [], []), ((-1), []), 0, 0)]
def D_bn12 : DT := (mkD iX11_bound fX11 lX11 kX11 kkX11 427 [] (w_bn12, [], [], 2, 0, 0, 3) false 4 u_bn12)
theorem k_bn12 : chkS D_bn12 4000 0 0 12 = true := by decide +kernel
theorem s_bn12 {X0 : zC0} {E : zCx} (H : ∀ j, j < 427 → CMj X0 j) (hE : zOk E X0 RX11 cX11_bound 4 (zrm 2 0 0)) {K : Nat → Nat} {B : Int} {L : List Nat} {f : Nat → va_E} (hh : hok X0.2.2.1 K B L f) {v0 v1 : Int} {r0 r1 : Nat} (hb0 : 0 ≤ v0 ∧ v0 ≤ 10) (hb1 : 1 ≤ v1 ∧ v1 ≤ 11) (hr0 : r0 ∈ L ∧ K r0 = 197) (hr1 : r1 ∈ L ∧ K r1 = 62) (k20 : ∀ (K' : Nat → Nat) (B' : Int) (L' : List Nat) (f' : Nat → va_E), hok X0.2.2.1 K' B' L' f' → extC [] K B L f K' B' L' f' → (0 ≤ v0 ∧ v0 ≤ 10) → (1 ≤ v1 ∧ v1 ≤ 10) → (r0 ∈ L' ∧ K' r0 = 197) → (r1 ∈ L' ∧ K' r1 = 62) → eW E 0 0 L' f' 20 [(0, .ref r0), (1, .ref r1), (2, .int (Int32.ofInt v0)), (3, .int (Int32.ofInt v1))] [.int (Int32.ofInt v1), .ref r1]) (k51 : ∀ (K' : Nat → Nat) (B' : Int) (L' : List Nat) (f' : Nat → va_E), hok X0.2.2.1 K' B' L' f' → extC [] K B L f K' B' L' f' → (0 ≤ v0 ∧ v0 ≤ 10) → (11 ≤ v1 ∧ v1 ≤ 11) → (r0 ∈ L' ∧ K' r0 = 197) → (r1 ∈ L' ∧ K' r1 = 62) → eW E 0 0 L' f' 51 [(0, .ref r0), (1, .ref r1), (2, .int (Int32.ofInt v0)), (3, .int (Int32.ofInt v1))] []) : eW E 0 0 L f 12 [(0, .ref r0), (1, .ref r1), (2, .int (Int32.ofInt v0)), (3, .int (Int32.ofInt v1))] [] := by
  obtain ⟨l0, D0, cy0, ax0⟩ := X0
  have hraw : eW E 0 0 L f 12 [(0, .ref r0), (1, .ref r1), (2, .int (Int32.ofInt (0 + (1 * v0 + 0)))), (3, .int (Int32.ofInt (0 + (1 * v1 + 0))))] [] := ?_
  · simpa only [Int.zero_add, Int.one_mul, Int.add_zero] using hraw
  refine seg_ok (D := D_bn12) (νi := fun i => [v0, v1].getD i 0) (μi := fun i => [r0, r1].getD i 0) k_bn12 hE (mk_ok (ins := iX11_bound) jX11_bound fX11_ok lX11_ok kX11_ok kkX11_ok H) (by decide) rfl rfl rfl rfl hh ?_ ?_
  · refine ⟨(eok_of (fun i q hq => ?_) (fun i hi => ?_)), fa0, fa0, ?_, fa0, fa0, fa0⟩
    · match i, hq with
      | 0, hq => cases hq; exact hb0
      | 1, hq => cases hq; exact hb1
      | i + 2, hq => cases hq
    · match i, hi with
      | 0, hi => exact absurd hi (by decide)
      | 1, hi => exact absurd hi (by decide)
      | i + 2, _ => rfl
    · intro i k hk
      match i, hk with
      | 0, hk => cases hk; exact hr0
      | 1, hk => cases hk; exact hr1
      | i + 2, hk => cases hk
  · intro q hq hst K' B' L' f' ν μ h1 h2 h3 h4 h5
    have e0 : ν 0 = v0 := h4 0 (by decide)
    have e1 : ν 1 = v1 := h4 1 (by decide)
    have d0 : μ 0 = r0 := h5 0 (by decide)
    have d1 : μ 1 = r1 := h5 1 (by decide)
    subst e0
    subst e1
    subst d0
    subst d1
    replace hq : q ∈ u_bn12 := hq
    unfold u_bn12 at hq
    simp only [List.mem_cons, List.not_mem_nil, or_false] at hq
    rcases hq with rfl | rfl
    · have hst2 : eW E 0 0 L' f' 20 [(0, .ref (μ 0)), (1, .ref (μ 1)), (2, .int (Int32.ofInt (0 + (1 * ν 0 + 0)))), (3, .int (Int32.ofInt (0 + (1 * ν 1 + 0))))] [.int (Int32.ofInt (0 + (1 * ν 1 + 0))), .ref (μ 1)] := ?_
      · exact hst2
      try simp only [Int.zero_add, Int.one_mul, Int.add_zero]
      exact k20 K' B' L' f'   h1 h2 (h3.1 0) (h3.1 1) (h3.2.2.2.1 0 197 rfl) (h3.2.2.2.1 1 62 rfl)
    · have hst2 : eW E 0 0 L' f' 51 [(0, .ref (μ 0)), (1, .ref (μ 1)), (2, .int (Int32.ofInt (0 + (1 * ν 0 + 0)))), (3, .int (Int32.ofInt (0 + (1 * ν 1 + 0))))] [] := ?_
      · exact hst2
      try simp only [Int.zero_add, Int.one_mul, Int.add_zero]
      exact k51 K' B' L' f'   h1 h2 (h3.1 0) (h3.1 1) (h3.2.2.2.1 0 197 rfl) (h3.2.2.2.1 1 62 rfl)

/-! bn23: from 23 to [25] -/
def w_bn23 : TP := ([(0, (2, 0, (0, []))), (1, (2, 1, (0, []))), (2, (0, 0, (0, [(1, 0)]))), (3, (0, 0, (0, [(1, 1)])))], [(0, 0, (0, [(1, 2)]))], ([(0, 10), (1, 10), (0, 12)], [], [], [197, 62], [], [], []), [], [])
def u_bn23 : List (Nat × TP × EX × Nat × Nat) := [(25, ([(0, (2, 0, (0, []))), (1, (2, 1, (0, []))), (2, (0, 0, (0, [(1, 0)]))), (3, (0, 0, (0, [(1, 1)])))], [(0, 0, (0, [(1, 1)])), (2, 1, (0, [])), (0, 0, (0, [(1, 2)]))], ([(0, 10), (1, 10), (0, 12)], [], [], [197, 62], [], [], []), [], []), ((-1), []), 0, 0)]
def D_bn23 : DT := (mkD iX11_bound fX11 lX11 kX11 kkX11 427 [] (w_bn23, [], [], 2, 0, 0, 3) false 4 u_bn23)
theorem k_bn23 : chkS D_bn23 4000 0 0 23 = true := by decide +kernel
theorem s_bn23 {X0 : zC0} {E : zCx} (H : ∀ j, j < 427 → CMj X0 j) (hE : zOk E X0 RX11 cX11_bound 4 (zrm 2 0 0)) {K : Nat → Nat} {B : Int} {L : List Nat} {f : Nat → va_E} (hh : hok X0.2.2.1 K B L f) {v0 v1 v2 : Int} {r0 r1 : Nat} (hb0 : 0 ≤ v0 ∧ v0 ≤ 10) (hb1 : 1 ≤ v1 ∧ v1 ≤ 10) (hb2 : 0 ≤ v2 ∧ v2 ≤ 12) (hr0 : r0 ∈ L ∧ K r0 = 197) (hr1 : r1 ∈ L ∧ K r1 = 62) (k25 : ∀ (K' : Nat → Nat) (B' : Int) (L' : List Nat) (f' : Nat → va_E), hok X0.2.2.1 K' B' L' f' → extC [] K B L f K' B' L' f' → (0 ≤ v0 ∧ v0 ≤ 10) → (1 ≤ v1 ∧ v1 ≤ 10) → (0 ≤ v2 ∧ v2 ≤ 12) → (r0 ∈ L' ∧ K' r0 = 197) → (r1 ∈ L' ∧ K' r1 = 62) → eW E 0 0 L' f' 25 [(0, .ref r0), (1, .ref r1), (2, .int (Int32.ofInt v0)), (3, .int (Int32.ofInt v1))] [.int (Int32.ofInt v1), .ref r1, .int (Int32.ofInt v2)]) : eW E 0 0 L f 23 [(0, .ref r0), (1, .ref r1), (2, .int (Int32.ofInt v0)), (3, .int (Int32.ofInt v1))] [.int (Int32.ofInt v2)] := by
  obtain ⟨l0, D0, cy0, ax0⟩ := X0
  have hraw : eW E 0 0 L f 23 [(0, .ref r0), (1, .ref r1), (2, .int (Int32.ofInt (0 + (1 * v0 + 0)))), (3, .int (Int32.ofInt (0 + (1 * v1 + 0))))] [.int (Int32.ofInt (0 + (1 * v2 + 0)))] := ?_
  · simpa only [Int.zero_add, Int.one_mul, Int.add_zero] using hraw
  refine seg_ok (D := D_bn23) (νi := fun i => [v0, v1, v2].getD i 0) (μi := fun i => [r0, r1].getD i 0) k_bn23 hE (mk_ok (ins := iX11_bound) jX11_bound fX11_ok lX11_ok kX11_ok kkX11_ok H) (by decide) rfl rfl rfl rfl hh ?_ ?_
  · refine ⟨(eok_of (fun i q hq => ?_) (fun i hi => ?_)), fa0, fa0, ?_, fa0, fa0, fa0⟩
    · match i, hq with
      | 0, hq => cases hq; exact hb0
      | 1, hq => cases hq; exact hb1
      | 2, hq => cases hq; exact hb2
      | i + 3, hq => cases hq
    · match i, hi with
      | 0, hi => exact absurd hi (by decide)
      | 1, hi => exact absurd hi (by decide)
      | 2, hi => exact absurd hi (by decide)
      | i + 3, _ => rfl
    · intro i k hk
      match i, hk with
      | 0, hk => cases hk; exact hr0
      | 1, hk => cases hk; exact hr1
      | i + 2, hk => cases hk
  · intro q hq hst K' B' L' f' ν μ h1 h2 h3 h4 h5
    have e0 : ν 0 = v0 := h4 0 (by decide)
    have e1 : ν 1 = v1 := h4 1 (by decide)
    have e2 : ν 2 = v2 := h4 2 (by decide)
    have d0 : μ 0 = r0 := h5 0 (by decide)
    have d1 : μ 1 = r1 := h5 1 (by decide)
    subst e0
    subst e1
    subst e2
    subst d0
    subst d1
    replace hq : q ∈ u_bn23 := hq
    unfold u_bn23 at hq
    simp only [List.mem_cons, List.not_mem_nil, or_false] at hq
    rcases hq with rfl
    · have hst2 : eW E 0 0 L' f' 25 [(0, .ref (μ 0)), (1, .ref (μ 1)), (2, .int (Int32.ofInt (0 + (1 * ν 0 + 0)))), (3, .int (Int32.ofInt (0 + (1 * ν 1 + 0))))] [.int (Int32.ofInt (0 + (1 * ν 1 + 0))), .ref (μ 1), .int (Int32.ofInt (0 + (1 * ν 2 + 0)))] := ?_
      · exact hst2
      try simp only [Int.zero_add, Int.one_mul, Int.add_zero]
      exact k25 K' B' L' f'   h1 h2 (h3.1 0) (h3.1 1) (h3.1 2) (h3.2.2.2.1 0 197 rfl) (h3.2.2.2.1 1 62 rfl)

/-! bn28: from 28 to [31] -/
def w_bn28 : TP := ([(0, (2, 0, (0, []))), (1, (2, 1, (0, []))), (2, (0, 0, (0, [(1, 0)]))), (3, (0, 0, (0, [(1, 1)])))], [(0, 0, (0, [(1, 2)])), (0, 0, (0, [(1, 3)]))], ([(0, 10), (1, 10), (0, 12), (0, 12)], [], [], [197, 62], [], [], []), [], [])
def u_bn28 : List (Nat × TP × EX × Nat × Nat) := [(31, ([(0, (2, 0, (0, []))), (1, (2, 1, (0, []))), (2, (0, 0, (0, [(1, 0)]))), (3, (0, 0, (0, [(1, 1)])))], [(0, 0, (0, [(1, 0)])), (2, 1, (0, [])), (0, 0, (0, [(1, 2), (1, 3)]))], ([(0, 10), (1, 10), (0, 12), (0, 12)], [], [], [197, 62], [], [], []), [], []), ((-1), []), 0, 0)]
def D_bn28 : DT := (mkD iX11_bound fX11 lX11 kX11 kkX11 427 [] (w_bn28, [], [], 2, 0, 0, 3) false 4 u_bn28)
theorem k_bn28 : chkS D_bn28 4000 0 0 28 = true := by decide +kernel
theorem s_bn28 {X0 : zC0} {E : zCx} (H : ∀ j, j < 427 → CMj X0 j) (hE : zOk E X0 RX11 cX11_bound 4 (zrm 2 0 0)) {K : Nat → Nat} {B : Int} {L : List Nat} {f : Nat → va_E} (hh : hok X0.2.2.1 K B L f) {v0 v1 v2 v3 : Int} {r0 r1 : Nat} (hb0 : 0 ≤ v0 ∧ v0 ≤ 10) (hb1 : 1 ≤ v1 ∧ v1 ≤ 10) (hb2 : 0 ≤ v2 ∧ v2 ≤ 12) (hb3 : 0 ≤ v3 ∧ v3 ≤ 12) (hr0 : r0 ∈ L ∧ K r0 = 197) (hr1 : r1 ∈ L ∧ K r1 = 62) (k31 : ∀ (K' : Nat → Nat) (B' : Int) (L' : List Nat) (f' : Nat → va_E), hok X0.2.2.1 K' B' L' f' → extC [] K B L f K' B' L' f' → (0 ≤ v0 ∧ v0 ≤ 10) → (1 ≤ v1 ∧ v1 ≤ 10) → (0 ≤ v2 ∧ v2 ≤ 12) → (0 ≤ v3 ∧ v3 ≤ 12) → (r0 ∈ L' ∧ K' r0 = 197) → (r1 ∈ L' ∧ K' r1 = 62) → eW E 0 0 L' f' 31 [(0, .ref r0), (1, .ref r1), (2, .int (Int32.ofInt v0)), (3, .int (Int32.ofInt v1))] [.int (Int32.ofInt v0), .ref r1, .int (Int32.ofInt (v2 + v3))]) : eW E 0 0 L f 28 [(0, .ref r0), (1, .ref r1), (2, .int (Int32.ofInt v0)), (3, .int (Int32.ofInt v1))] [.int (Int32.ofInt v2), .int (Int32.ofInt v3)] := by
  obtain ⟨l0, D0, cy0, ax0⟩ := X0
  have hraw : eW E 0 0 L f 28 [(0, .ref r0), (1, .ref r1), (2, .int (Int32.ofInt (0 + (1 * v0 + 0)))), (3, .int (Int32.ofInt (0 + (1 * v1 + 0))))] [.int (Int32.ofInt (0 + (1 * v2 + 0))), .int (Int32.ofInt (0 + (1 * v3 + 0)))] := ?_
  · simpa only [Int.zero_add, Int.one_mul, Int.add_zero] using hraw
  refine seg_ok (D := D_bn28) (νi := fun i => [v0, v1, v2, v3].getD i 0) (μi := fun i => [r0, r1].getD i 0) k_bn28 hE (mk_ok (ins := iX11_bound) jX11_bound fX11_ok lX11_ok kX11_ok kkX11_ok H) (by decide) rfl rfl rfl rfl hh ?_ ?_
  · refine ⟨(eok_of (fun i q hq => ?_) (fun i hi => ?_)), fa0, fa0, ?_, fa0, fa0, fa0⟩
    · match i, hq with
      | 0, hq => cases hq; exact hb0
      | 1, hq => cases hq; exact hb1
      | 2, hq => cases hq; exact hb2
      | 3, hq => cases hq; exact hb3
      | i + 4, hq => cases hq
    · match i, hi with
      | 0, hi => exact absurd hi (by decide)
      | 1, hi => exact absurd hi (by decide)
      | 2, hi => exact absurd hi (by decide)
      | 3, hi => exact absurd hi (by decide)
      | i + 4, _ => rfl
    · intro i k hk
      match i, hk with
      | 0, hk => cases hk; exact hr0
      | 1, hk => cases hk; exact hr1
      | i + 2, hk => cases hk
  · intro q hq hst K' B' L' f' ν μ h1 h2 h3 h4 h5
    have e0 : ν 0 = v0 := h4 0 (by decide)
    have e1 : ν 1 = v1 := h4 1 (by decide)
    have e2 : ν 2 = v2 := h4 2 (by decide)
    have e3 : ν 3 = v3 := h4 3 (by decide)
    have d0 : μ 0 = r0 := h5 0 (by decide)
    have d1 : μ 1 = r1 := h5 1 (by decide)
    subst e0
    subst e1
    subst e2
    subst e3
    subst d0
    subst d1
    replace hq : q ∈ u_bn28 := hq
    unfold u_bn28 at hq
    simp only [List.mem_cons, List.not_mem_nil, or_false] at hq
    rcases hq with rfl
    · have hst2 : eW E 0 0 L' f' 31 [(0, .ref (μ 0)), (1, .ref (μ 1)), (2, .int (Int32.ofInt (0 + (1 * ν 0 + 0)))), (3, .int (Int32.ofInt (0 + (1 * ν 1 + 0))))] [.int (Int32.ofInt (0 + (1 * ν 0 + 0))), .ref (μ 1), .int (Int32.ofInt (0 + (1 * ν 2 + (1 * ν 3 + 0))))] := ?_
      · exact hst2
      try simp only [Int.zero_add, Int.one_mul, Int.add_zero]
      exact k31 K' B' L' f'   h1 h2 (h3.1 0) (h3.1 1) (h3.1 2) (h3.1 3) (h3.2.2.2.1 0 197 rfl) (h3.2.2.2.1 1 62 rfl)

/-! bn34: from 34 to [36] -/
def w_bn34 : TP := ([(0, (2, 0, (0, []))), (1, (2, 1, (0, []))), (2, (0, 0, (0, [(1, 0)]))), (3, (0, 0, (0, [(1, 1)])))], [(0, 0, (0, [(1, 2)])), (0, 0, (0, [(1, 3)]))], ([(0, 10), (1, 10), (0, 12), (0, 24)], [], [], [197, 62], [], [], []), [], [])
def u_bn34 : List (Nat × TP × EX × Nat × Nat) := [(36, ([(0, (2, 0, (0, []))), (1, (2, 1, (0, []))), (2, (0, 0, (0, [(1, 0)]))), (3, (0, 0, (0, [(1, 1)])))], [(0, 0, (0, [(1, 0)])), (2, 1, (0, [])), (0, 0, (0, [(1, 2)])), (0, 0, (0, [(1, 3)]))], ([(0, 10), (1, 10), (0, 12), (0, 24)], [], [], [197, 62], [], [], []), [], []), ((-1), []), 0, 0)]
def D_bn34 : DT := (mkD iX11_bound fX11 lX11 kX11 kkX11 427 [] (w_bn34, [], [], 2, 0, 0, 3) false 4 u_bn34)
theorem k_bn34 : chkS D_bn34 4000 0 0 34 = true := by decide +kernel
theorem s_bn34 {X0 : zC0} {E : zCx} (H : ∀ j, j < 427 → CMj X0 j) (hE : zOk E X0 RX11 cX11_bound 4 (zrm 2 0 0)) {K : Nat → Nat} {B : Int} {L : List Nat} {f : Nat → va_E} (hh : hok X0.2.2.1 K B L f) {v0 v1 v2 v3 : Int} {r0 r1 : Nat} (hb0 : 0 ≤ v0 ∧ v0 ≤ 10) (hb1 : 1 ≤ v1 ∧ v1 ≤ 10) (hb2 : 0 ≤ v2 ∧ v2 ≤ 12) (hb3 : 0 ≤ v3 ∧ v3 ≤ 24) (hr0 : r0 ∈ L ∧ K r0 = 197) (hr1 : r1 ∈ L ∧ K r1 = 62) (k36 : ∀ (K' : Nat → Nat) (B' : Int) (L' : List Nat) (f' : Nat → va_E), hok X0.2.2.1 K' B' L' f' → extC [] K B L f K' B' L' f' → (0 ≤ v0 ∧ v0 ≤ 10) → (1 ≤ v1 ∧ v1 ≤ 10) → (0 ≤ v2 ∧ v2 ≤ 12) → (0 ≤ v3 ∧ v3 ≤ 24) → (r0 ∈ L' ∧ K' r0 = 197) → (r1 ∈ L' ∧ K' r1 = 62) → eW E 0 0 L' f' 36 [(0, .ref r0), (1, .ref r1), (2, .int (Int32.ofInt v0)), (3, .int (Int32.ofInt v1))] [.int (Int32.ofInt v0), .ref r1, .int (Int32.ofInt v2), .int (Int32.ofInt v3)]) : eW E 0 0 L f 34 [(0, .ref r0), (1, .ref r1), (2, .int (Int32.ofInt v0)), (3, .int (Int32.ofInt v1))] [.int (Int32.ofInt v2), .int (Int32.ofInt v3)] := by
  obtain ⟨l0, D0, cy0, ax0⟩ := X0
  have hraw : eW E 0 0 L f 34 [(0, .ref r0), (1, .ref r1), (2, .int (Int32.ofInt (0 + (1 * v0 + 0)))), (3, .int (Int32.ofInt (0 + (1 * v1 + 0))))] [.int (Int32.ofInt (0 + (1 * v2 + 0))), .int (Int32.ofInt (0 + (1 * v3 + 0)))] := ?_
  · simpa only [Int.zero_add, Int.one_mul, Int.add_zero] using hraw
  refine seg_ok (D := D_bn34) (νi := fun i => [v0, v1, v2, v3].getD i 0) (μi := fun i => [r0, r1].getD i 0) k_bn34 hE (mk_ok (ins := iX11_bound) jX11_bound fX11_ok lX11_ok kX11_ok kkX11_ok H) (by decide) rfl rfl rfl rfl hh ?_ ?_
  · refine ⟨(eok_of (fun i q hq => ?_) (fun i hi => ?_)), fa0, fa0, ?_, fa0, fa0, fa0⟩
    · match i, hq with
      | 0, hq => cases hq; exact hb0
      | 1, hq => cases hq; exact hb1
      | 2, hq => cases hq; exact hb2
      | 3, hq => cases hq; exact hb3
      | i + 4, hq => cases hq
    · match i, hi with
      | 0, hi => exact absurd hi (by decide)
      | 1, hi => exact absurd hi (by decide)
      | 2, hi => exact absurd hi (by decide)
      | 3, hi => exact absurd hi (by decide)
      | i + 4, _ => rfl
    · intro i k hk
      match i, hk with
      | 0, hk => cases hk; exact hr0
      | 1, hk => cases hk; exact hr1
      | i + 2, hk => cases hk
  · intro q hq hst K' B' L' f' ν μ h1 h2 h3 h4 h5
    have e0 : ν 0 = v0 := h4 0 (by decide)
    have e1 : ν 1 = v1 := h4 1 (by decide)
    have e2 : ν 2 = v2 := h4 2 (by decide)
    have e3 : ν 3 = v3 := h4 3 (by decide)
    have d0 : μ 0 = r0 := h5 0 (by decide)
    have d1 : μ 1 = r1 := h5 1 (by decide)
    subst e0
    subst e1
    subst e2
    subst e3
    subst d0
    subst d1
    replace hq : q ∈ u_bn34 := hq
    unfold u_bn34 at hq
    simp only [List.mem_cons, List.not_mem_nil, or_false] at hq
    rcases hq with rfl
    · have hst2 : eW E 0 0 L' f' 36 [(0, .ref (μ 0)), (1, .ref (μ 1)), (2, .int (Int32.ofInt (0 + (1 * ν 0 + 0)))), (3, .int (Int32.ofInt (0 + (1 * ν 1 + 0))))] [.int (Int32.ofInt (0 + (1 * ν 0 + 0))), .ref (μ 1), .int (Int32.ofInt (0 + (1 * ν 2 + 0))), .int (Int32.ofInt (0 + (1 * ν 3 + 0)))] := ?_
      · exact hst2
      try simp only [Int.zero_add, Int.one_mul, Int.add_zero]
      exact k36 K' B' L' f'   h1 h2 (h3.1 0) (h3.1 1) (h3.1 2) (h3.1 3) (h3.2.2.2.1 0 197 rfl) (h3.2.2.2.1 1 62 rfl)

/-! bn39a: from 39 to [12] -/
def w_bn39a : TP := ([(0, (2, 0, (0, []))), (1, (2, 1, (0, []))), (2, (0, 0, (0, [(1, 0)]))), (3, (0, 0, (0, [(1, 1)])))], [(0, 0, (0, [(1, 2)])), (0, 0, (0, [(1, 3)])), (0, 0, (0, [(1, 4)]))], ([(0, 10), (1, 10), (0, 12), (0, 12), (0, 24)], [((-1), [(1, 2), (1, 3), ((-1), 4)])], [], [197, 62], [], [], []), [], [])
def u_bn39a : List (Nat × TP × EX × Nat × Nat) := [(12, ([(0, (2, 0, (0, []))), (1, (2, 1, (0, []))), (2, (0, 0, (0, [(1, 1)]))), (3, (0, 0, (1, [(1, 1)])))], [], ([(0, 10), (1, 10), (0, 12), (0, 12), (0, 23)], [((-1), [((-1), 4), (1, 2), (1, 3)])], [], [197, 62], [], [], []), [], []), ((-1), []), 0, 0)]
def D_bn39a : DT := (mkD iX11_bound fX11 lX11 kX11 kkX11 427 [] (w_bn39a, [], [], 2, 0, 0, 3) false 4 u_bn39a)
theorem k_bn39a : chkS D_bn39a 4000 0 0 39 = true := by decide +kernel
theorem s_bn39a {X0 : zC0} {E : zCx} (H : ∀ j, j < 427 → CMj X0 j) (hE : zOk E X0 RX11 cX11_bound 4 (zrm 2 0 0)) {K : Nat → Nat} {B : Int} {L : List Nat} {f : Nat → va_E} (hh : hok X0.2.2.1 K B L f) {v0 v1 v2 v3 v4 : Int} {r0 r1 : Nat} (hb0 : 0 ≤ v0 ∧ v0 ≤ 10) (hb1 : 1 ≤ v1 ∧ v1 ≤ 10) (hb2 : 0 ≤ v2 ∧ v2 ≤ 12) (hb3 : 0 ≤ v3 ∧ v3 ≤ 12) (hb4 : 0 ≤ v4 ∧ v4 ≤ 24) (hq0 : 0 ≤ ((-1) + (v2 + (v3 + ((-1) * v4))))) (hr0 : r0 ∈ L ∧ K r0 = 197) (hr1 : r1 ∈ L ∧ K r1 = 62) (k12 : ∀ (K' : Nat → Nat) (B' : Int) (L' : List Nat) (f' : Nat → va_E), hok X0.2.2.1 K' B' L' f' → extC [] K B L f K' B' L' f' → (0 ≤ v0 ∧ v0 ≤ 10) → (1 ≤ v1 ∧ v1 ≤ 10) → (0 ≤ v2 ∧ v2 ≤ 12) → (0 ≤ v3 ∧ v3 ≤ 12) → (0 ≤ v4 ∧ v4 ≤ 23) → (0 ≤ ((-1) + ((-1) * v4 + (v2 + v3)))) → (r0 ∈ L' ∧ K' r0 = 197) → (r1 ∈ L' ∧ K' r1 = 62) → eW E 0 0 L' f' 12 [(0, .ref r0), (1, .ref r1), (2, .int (Int32.ofInt v1)), (3, .int (Int32.ofInt (1 + v1)))] []) : eW E 0 0 L f 39 [(0, .ref r0), (1, .ref r1), (2, .int (Int32.ofInt v0)), (3, .int (Int32.ofInt v1))] [.int (Int32.ofInt v2), .int (Int32.ofInt v3), .int (Int32.ofInt v4)] := by
  obtain ⟨l0, D0, cy0, ax0⟩ := X0
  have hraw : eW E 0 0 L f 39 [(0, .ref r0), (1, .ref r1), (2, .int (Int32.ofInt (0 + (1 * v0 + 0)))), (3, .int (Int32.ofInt (0 + (1 * v1 + 0))))] [.int (Int32.ofInt (0 + (1 * v2 + 0))), .int (Int32.ofInt (0 + (1 * v3 + 0))), .int (Int32.ofInt (0 + (1 * v4 + 0)))] := ?_
  · simpa only [Int.zero_add, Int.one_mul, Int.add_zero] using hraw
  have rq0 : 0 ≤ ((-1) + (1 * v2 + (1 * v3 + ((-1) * v4 + 0)))) := by simpa only [Int.zero_add, Int.one_mul, Int.add_zero] using hq0
  refine seg_ok (D := D_bn39a) (νi := fun i => [v0, v1, v2, v3, v4].getD i 0) (μi := fun i => [r0, r1].getD i 0) k_bn39a hE (mk_ok (ins := iX11_bound) jX11_bound fX11_ok lX11_ok kX11_ok kkX11_ok H) (by decide) rfl rfl rfl rfl hh ?_ ?_
  · refine ⟨(eok_of (fun i q hq => ?_) (fun i hi => ?_)), (fa_cons (rq0) fa0), fa0, ?_, fa0, fa0, fa0⟩
    · match i, hq with
      | 0, hq => cases hq; exact hb0
      | 1, hq => cases hq; exact hb1
      | 2, hq => cases hq; exact hb2
      | 3, hq => cases hq; exact hb3
      | 4, hq => cases hq; exact hb4
      | i + 5, hq => cases hq
    · match i, hi with
      | 0, hi => exact absurd hi (by decide)
      | 1, hi => exact absurd hi (by decide)
      | 2, hi => exact absurd hi (by decide)
      | 3, hi => exact absurd hi (by decide)
      | 4, hi => exact absurd hi (by decide)
      | i + 5, _ => rfl
    · intro i k hk
      match i, hk with
      | 0, hk => cases hk; exact hr0
      | 1, hk => cases hk; exact hr1
      | i + 2, hk => cases hk
  · intro q hq hst K' B' L' f' ν μ h1 h2 h3 h4 h5
    have e0 : ν 0 = v0 := h4 0 (by decide)
    have e1 : ν 1 = v1 := h4 1 (by decide)
    have e2 : ν 2 = v2 := h4 2 (by decide)
    have e3 : ν 3 = v3 := h4 3 (by decide)
    have e4 : ν 4 = v4 := h4 4 (by decide)
    have d0 : μ 0 = r0 := h5 0 (by decide)
    have d1 : μ 1 = r1 := h5 1 (by decide)
    subst e0
    subst e1
    subst e2
    subst e3
    subst e4
    subst d0
    subst d1
    replace hq : q ∈ u_bn39a := hq
    unfold u_bn39a at hq
    simp only [List.mem_cons, List.not_mem_nil, or_false] at hq
    rcases hq with rfl
    · have hst2 : eW E 0 0 L' f' 12 [(0, .ref (μ 0)), (1, .ref (μ 1)), (2, .int (Int32.ofInt (0 + (1 * ν 1 + 0)))), (3, .int (Int32.ofInt (1 + (1 * ν 1 + 0))))] [] := ?_
      · exact hst2
      try simp only [Int.zero_add, Int.one_mul, Int.add_zero]
      exact k12 K' B' L' f'   h1 h2 (h3.1 0) (h3.1 1) (h3.1 2) (h3.1 3) (h3.1 4) (by simpa only [xv, xvT, Int.zero_add, Int.one_mul, Int.add_zero] using (h3.2.1 _ (List.mem_of_getElem? (i := 0) rfl))) (h3.2.2.2.1 0 197 rfl) (h3.2.2.2.1 1 62 rfl)

/-! bn39b: from 39 to [12] -/
def w_bn39b : TP := ([(0, (2, 0, (0, []))), (1, (2, 1, (0, []))), (2, (0, 0, (0, [(1, 0)]))), (3, (0, 0, (0, [(1, 1)])))], [(0, 0, (0, [(1, 2)])), (0, 0, (0, [(1, 3)])), (0, 0, (0, [(1, 4)]))], ([(0, 10), (1, 10), (0, 12), (0, 12), (0, 24)], [(0, [(1, 4), ((-1), 2), ((-1), 3)])], [], [197, 62], [], [], []), [], [])
def u_bn39b : List (Nat × TP × EX × Nat × Nat) := [(12, ([(0, (2, 0, (0, []))), (1, (2, 1, (0, []))), (2, (0, 0, (0, [(1, 0)]))), (3, (0, 0, (1, [(1, 1)])))], [], ([(0, 10), (1, 10), (0, 12), (0, 12), (0, 24)], [(0, [(1, 4), ((-1), 2), ((-1), 3)]), (0, [(1, 4), ((-1), 2)]), (0, [(1, 4), ((-1), 3)])], [], [197, 62], [], [], []), [], []), ((-1), []), 0, 0)]
def D_bn39b : DT := (mkD iX11_bound fX11 lX11 kX11 kkX11 427 [] (w_bn39b, [], [], 2, 0, 0, 3) false 4 u_bn39b)
theorem k_bn39b : chkS D_bn39b 4000 0 0 39 = true := by decide +kernel
theorem s_bn39b {X0 : zC0} {E : zCx} (H : ∀ j, j < 427 → CMj X0 j) (hE : zOk E X0 RX11 cX11_bound 4 (zrm 2 0 0)) {K : Nat → Nat} {B : Int} {L : List Nat} {f : Nat → va_E} (hh : hok X0.2.2.1 K B L f) {v0 v1 v2 v3 v4 : Int} {r0 r1 : Nat} (hb0 : 0 ≤ v0 ∧ v0 ≤ 10) (hb1 : 1 ≤ v1 ∧ v1 ≤ 10) (hb2 : 0 ≤ v2 ∧ v2 ≤ 12) (hb3 : 0 ≤ v3 ∧ v3 ≤ 12) (hb4 : 0 ≤ v4 ∧ v4 ≤ 24) (hq0 : 0 ≤ (v4 + ((-1) * v2 + ((-1) * v3)))) (hr0 : r0 ∈ L ∧ K r0 = 197) (hr1 : r1 ∈ L ∧ K r1 = 62) (k12 : ∀ (K' : Nat → Nat) (B' : Int) (L' : List Nat) (f' : Nat → va_E), hok X0.2.2.1 K' B' L' f' → extC [] K B L f K' B' L' f' → (0 ≤ v0 ∧ v0 ≤ 10) → (1 ≤ v1 ∧ v1 ≤ 10) → (0 ≤ v2 ∧ v2 ≤ 12) → (0 ≤ v3 ∧ v3 ≤ 12) → (0 ≤ v4 ∧ v4 ≤ 24) → (0 ≤ (v4 + ((-1) * v2 + ((-1) * v3)))) → (0 ≤ (v4 + ((-1) * v2))) → (0 ≤ (v4 + ((-1) * v3))) → (r0 ∈ L' ∧ K' r0 = 197) → (r1 ∈ L' ∧ K' r1 = 62) → eW E 0 0 L' f' 12 [(0, .ref r0), (1, .ref r1), (2, .int (Int32.ofInt v0)), (3, .int (Int32.ofInt (1 + v1)))] []) : eW E 0 0 L f 39 [(0, .ref r0), (1, .ref r1), (2, .int (Int32.ofInt v0)), (3, .int (Int32.ofInt v1))] [.int (Int32.ofInt v2), .int (Int32.ofInt v3), .int (Int32.ofInt v4)] := by
  obtain ⟨l0, D0, cy0, ax0⟩ := X0
  have hraw : eW E 0 0 L f 39 [(0, .ref r0), (1, .ref r1), (2, .int (Int32.ofInt (0 + (1 * v0 + 0)))), (3, .int (Int32.ofInt (0 + (1 * v1 + 0))))] [.int (Int32.ofInt (0 + (1 * v2 + 0))), .int (Int32.ofInt (0 + (1 * v3 + 0))), .int (Int32.ofInt (0 + (1 * v4 + 0)))] := ?_
  · simpa only [Int.zero_add, Int.one_mul, Int.add_zero] using hraw
  have rq0 : 0 ≤ (0 + (1 * v4 + ((-1) * v2 + ((-1) * v3 + 0)))) := by simpa only [Int.zero_add, Int.one_mul, Int.add_zero] using hq0
  refine seg_ok (D := D_bn39b) (νi := fun i => [v0, v1, v2, v3, v4].getD i 0) (μi := fun i => [r0, r1].getD i 0) k_bn39b hE (mk_ok (ins := iX11_bound) jX11_bound fX11_ok lX11_ok kX11_ok kkX11_ok H) (by decide) rfl rfl rfl rfl hh ?_ ?_
  · refine ⟨(eok_of (fun i q hq => ?_) (fun i hi => ?_)), (fa_cons (rq0) fa0), fa0, ?_, fa0, fa0, fa0⟩
    · match i, hq with
      | 0, hq => cases hq; exact hb0
      | 1, hq => cases hq; exact hb1
      | 2, hq => cases hq; exact hb2
      | 3, hq => cases hq; exact hb3
      | 4, hq => cases hq; exact hb4
      | i + 5, hq => cases hq
    · match i, hi with
      | 0, hi => exact absurd hi (by decide)
      | 1, hi => exact absurd hi (by decide)
      | 2, hi => exact absurd hi (by decide)
      | 3, hi => exact absurd hi (by decide)
      | 4, hi => exact absurd hi (by decide)
      | i + 5, _ => rfl
    · intro i k hk
      match i, hk with
      | 0, hk => cases hk; exact hr0
      | 1, hk => cases hk; exact hr1
      | i + 2, hk => cases hk
  · intro q hq hst K' B' L' f' ν μ h1 h2 h3 h4 h5
    have e0 : ν 0 = v0 := h4 0 (by decide)
    have e1 : ν 1 = v1 := h4 1 (by decide)
    have e2 : ν 2 = v2 := h4 2 (by decide)
    have e3 : ν 3 = v3 := h4 3 (by decide)
    have e4 : ν 4 = v4 := h4 4 (by decide)
    have d0 : μ 0 = r0 := h5 0 (by decide)
    have d1 : μ 1 = r1 := h5 1 (by decide)
    subst e0
    subst e1
    subst e2
    subst e3
    subst e4
    subst d0
    subst d1
    replace hq : q ∈ u_bn39b := hq
    unfold u_bn39b at hq
    simp only [List.mem_cons, List.not_mem_nil, or_false] at hq
    rcases hq with rfl
    · have hst2 : eW E 0 0 L' f' 12 [(0, .ref (μ 0)), (1, .ref (μ 1)), (2, .int (Int32.ofInt (0 + (1 * ν 0 + 0)))), (3, .int (Int32.ofInt (1 + (1 * ν 1 + 0))))] [] := ?_
      · exact hst2
      try simp only [Int.zero_add, Int.one_mul, Int.add_zero]
      exact k12 K' B' L' f'   h1 h2 (h3.1 0) (h3.1 1) (h3.1 2) (h3.1 3) (h3.1 4) (by simpa only [xv, xvT, Int.zero_add, Int.one_mul, Int.add_zero] using (h3.2.1 _ (List.mem_of_getElem? (i := 0) rfl))) (by simpa only [xv, xvT, Int.zero_add, Int.one_mul, Int.add_zero] using (h3.2.1 _ (List.mem_of_getElem? (i := 1) rfl))) (by simpa only [xv, xvT, Int.zero_add, Int.one_mul, Int.add_zero] using (h3.2.1 _ (List.mem_of_getElem? (i := 2) rfl))) (h3.2.2.2.1 0 197 rfl) (h3.2.2.2.1 1 62 rfl)

/-! bn51: from 51 to [52] -/
def w_bn51 : TP := ([(0, (2, 0, (0, []))), (1, (2, 1, (0, []))), (2, (0, 0, (0, [(1, 0)]))), (3, (0, 0, (0, [(1, 1)])))], [], ([(0, 10), (1, 11)], [], [], [197, 62], [], [], []), [], [])
def u_bn51 : List (Nat × TP × EX × Nat × Nat) := [(52, ([(0, (2, 0, (0, []))), (1, (2, 1, (0, []))), (2, (0, 0, (0, [(1, 0)]))), (3, (0, 0, (0, [(1, 1)])))], [(0, 0, (0, [(1, 0)]))], ([(0, 10), (1, 11)], [], [], [197, 62], [], [], []), [], []), ((-1), []), 0, 0)]
def D_bn51 : DT := (mkD iX11_bound fX11 lX11 kX11 kkX11 427 [] (w_bn51, [], [], 2, 0, 0, 3) false 4 u_bn51)
theorem k_bn51 : chkS D_bn51 4000 0 0 51 = true := by decide +kernel
theorem s_bn51 {X0 : zC0} {E : zCx} (H : ∀ j, j < 427 → CMj X0 j) (hE : zOk E X0 RX11 cX11_bound 4 (zrm 2 0 0)) {K : Nat → Nat} {B : Int} {L : List Nat} {f : Nat → va_E} (hh : hok X0.2.2.1 K B L f) {v0 v1 : Int} {r0 r1 : Nat} (hb0 : 0 ≤ v0 ∧ v0 ≤ 10) (hb1 : 1 ≤ v1 ∧ v1 ≤ 11) (hr0 : r0 ∈ L ∧ K r0 = 197) (hr1 : r1 ∈ L ∧ K r1 = 62) (k52 : ∀ (K' : Nat → Nat) (B' : Int) (L' : List Nat) (f' : Nat → va_E), hok X0.2.2.1 K' B' L' f' → extC [] K B L f K' B' L' f' → (0 ≤ v0 ∧ v0 ≤ 10) → (1 ≤ v1 ∧ v1 ≤ 11) → (r0 ∈ L' ∧ K' r0 = 197) → (r1 ∈ L' ∧ K' r1 = 62) → eW E 0 0 L' f' 52 [(0, .ref r0), (1, .ref r1), (2, .int (Int32.ofInt v0)), (3, .int (Int32.ofInt v1))] [.int (Int32.ofInt v0)]) : eW E 0 0 L f 51 [(0, .ref r0), (1, .ref r1), (2, .int (Int32.ofInt v0)), (3, .int (Int32.ofInt v1))] [] := by
  obtain ⟨l0, D0, cy0, ax0⟩ := X0
  have hraw : eW E 0 0 L f 51 [(0, .ref r0), (1, .ref r1), (2, .int (Int32.ofInt (0 + (1 * v0 + 0)))), (3, .int (Int32.ofInt (0 + (1 * v1 + 0))))] [] := ?_
  · simpa only [Int.zero_add, Int.one_mul, Int.add_zero] using hraw
  refine seg_ok (D := D_bn51) (νi := fun i => [v0, v1].getD i 0) (μi := fun i => [r0, r1].getD i 0) k_bn51 hE (mk_ok (ins := iX11_bound) jX11_bound fX11_ok lX11_ok kX11_ok kkX11_ok H) (by decide) rfl rfl rfl rfl hh ?_ ?_
  · refine ⟨(eok_of (fun i q hq => ?_) (fun i hi => ?_)), fa0, fa0, ?_, fa0, fa0, fa0⟩
    · match i, hq with
      | 0, hq => cases hq; exact hb0
      | 1, hq => cases hq; exact hb1
      | i + 2, hq => cases hq
    · match i, hi with
      | 0, hi => exact absurd hi (by decide)
      | 1, hi => exact absurd hi (by decide)
      | i + 2, _ => rfl
    · intro i k hk
      match i, hk with
      | 0, hk => cases hk; exact hr0
      | 1, hk => cases hk; exact hr1
      | i + 2, hk => cases hk
  · intro q hq hst K' B' L' f' ν μ h1 h2 h3 h4 h5
    have e0 : ν 0 = v0 := h4 0 (by decide)
    have e1 : ν 1 = v1 := h4 1 (by decide)
    have d0 : μ 0 = r0 := h5 0 (by decide)
    have d1 : μ 1 = r1 := h5 1 (by decide)
    subst e0
    subst e1
    subst d0
    subst d1
    replace hq : q ∈ u_bn51 := hq
    unfold u_bn51 at hq
    simp only [List.mem_cons, List.not_mem_nil, or_false] at hq
    rcases hq with rfl
    · have hst2 : eW E 0 0 L' f' 52 [(0, .ref (μ 0)), (1, .ref (μ 1)), (2, .int (Int32.ofInt (0 + (1 * ν 0 + 0)))), (3, .int (Int32.ofInt (0 + (1 * ν 1 + 0))))] [.int (Int32.ofInt (0 + (1 * ν 0 + 0)))] := ?_
      · exact hst2
      try simp only [Int.zero_add, Int.one_mul, Int.add_zero]
      exact k52 K' B' L' f'   h1 h2 (h3.1 0) (h3.1 1) (h3.2.2.2.1 0 197 rfl) (h3.2.2.2.1 1 62 rfl)

/-! bm0: from 0 to [4] -/
def w_bm0 : TP := ([(0, (2, 0, (0, [])))], [], ([], [], [], [200], [], [], []), [], [])
def u_bm0 : List (Nat × TP × EX × Nat × Nat) := [(4, ([(0, (2, 0, (0, []))), (1, (0, 0, (0, []))), (2, (0, 0, (1, [])))], [], ([], [], [], [200], [], [], []), [], []), ((-1), []), 0, 0)]
def D_bm0 : DT := (mkD iX12_bound fX12 lX12 kX12 kkX12 427 [] (w_bm0, [], [], 2, 0, 0, 3) false 3 u_bm0)
theorem k_bm0 : chkS D_bm0 4000 0 0 0 = true := by decide +kernel
theorem s_bm0 {X0 : zC0} {E : zCx} (H : ∀ j, j < 427 → CMj X0 j) (hE : zOk E X0 RX12 cX12_bound 3 (zrm 2 0 0)) {K : Nat → Nat} {B : Int} {L : List Nat} {f : Nat → va_E} (hh : hok X0.2.2.1 K B L f) {r0 : Nat} (hr0 : r0 ∈ L ∧ K r0 = 200) (k4 : ∀ (K' : Nat → Nat) (B' : Int) (L' : List Nat) (f' : Nat → va_E), hok X0.2.2.1 K' B' L' f' → extC [] K B L f K' B' L' f' → (r0 ∈ L' ∧ K' r0 = 200) → eW E 0 0 L' f' 4 [(0, .ref r0), (1, .int (Int32.ofInt 0)), (2, .int (Int32.ofInt 1))] []) : eW E 0 0 L f 0 [(0, .ref r0)] [] := by
  obtain ⟨l0, D0, cy0, ax0⟩ := X0
  have hraw : eW E 0 0 L f 0 [(0, .ref r0)] [] := ?_
  · simpa only [Int.zero_add, Int.one_mul, Int.add_zero] using hraw
  refine seg_ok (D := D_bm0) (νi := fun i => [].getD i 0) (μi := fun i => [r0].getD i 0) k_bm0 hE (mk_ok (ins := iX12_bound) jX12_bound fX12_ok lX12_ok kX12_ok kkX12_ok H) (by decide) rfl rfl rfl rfl hh ?_ ?_
  · refine ⟨(eok_of (fun i q hq => by cases hq) (fun i _ => rfl)), fa0, fa0, ?_, fa0, fa0, fa0⟩
    · intro i k hk
      match i, hk with
      | 0, hk => cases hk; exact hr0
      | i + 1, hk => cases hk
  · intro q hq hst K' B' L' f' ν μ h1 h2 h3 h4 h5
    have d0 : μ 0 = r0 := h5 0 (by decide)
    subst d0
    replace hq : q ∈ u_bm0 := hq
    unfold u_bm0 at hq
    simp only [List.mem_cons, List.not_mem_nil, or_false] at hq
    rcases hq with rfl
    · have hst2 : eW E 0 0 L' f' 4 [(0, .ref (μ 0)), (1, .int (Int32.ofInt (0 + 0))), (2, .int (Int32.ofInt (1 + 0)))] [] := ?_
      · exact hst2
      try simp only [Int.zero_add, Int.one_mul, Int.add_zero]
      exact k4 K' B' L' f'   h1 h2 (h3.2.2.2.1 0 200 rfl)

/-! bm4: from 4 to [13, 47] -/
def w_bm4 : TP := ([(0, (2, 0, (0, []))), (1, (0, 0, (0, [(1, 0)]))), (2, (0, 0, (0, [(1, 1)])))], [], ([(0, 10), (1, 11)], [], [], [200], [], [], []), [], [])
def u_bm4 : List (Nat × TP × EX × Nat × Nat) := [(13, ([(0, (2, 0, (0, []))), (1, (0, 0, (0, [(1, 0)]))), (2, (0, 0, (0, [(1, 1)])))], [(0, 0, (0, [])), (0, 0, (0, [(1, 1)])), (2, 0, (0, []))], ([(0, 10), (1, 10)], [], [], [200], [], [], []), [], []), ((-1), []), 0, 0), (47, ([(0, (2, 0, (0, []))), (1, (0, 0, (0, [(1, 0)]))), (2, (0, 0, (0, [(1, 1)])))], [], ([(0, 10), (11, 11)], [], [], [200], [], [], []), [], []), ((-1), []), 0, 0)]
def D_bm4 : DT := (mkD iX12_bound fX12 lX12 kX12 kkX12 427 [] (w_bm4, [], [], 2, 0, 0, 3) false 3 u_bm4)
theorem k_bm4 : chkS D_bm4 4000 0 0 4 = true := by decide +kernel
theorem s_bm4 {X0 : zC0} {E : zCx} (H : ∀ j, j < 427 → CMj X0 j) (hE : zOk E X0 RX12 cX12_bound 3 (zrm 2 0 0)) {K : Nat → Nat} {B : Int} {L : List Nat} {f : Nat → va_E} (hh : hok X0.2.2.1 K B L f) {v0 v1 : Int} {r0 : Nat} (hb0 : 0 ≤ v0 ∧ v0 ≤ 10) (hb1 : 1 ≤ v1 ∧ v1 ≤ 11) (hr0 : r0 ∈ L ∧ K r0 = 200) (k13 : ∀ (K' : Nat → Nat) (B' : Int) (L' : List Nat) (f' : Nat → va_E), hok X0.2.2.1 K' B' L' f' → extC [] K B L f K' B' L' f' → (0 ≤ v0 ∧ v0 ≤ 10) → (1 ≤ v1 ∧ v1 ≤ 10) → (r0 ∈ L' ∧ K' r0 = 200) → eW E 0 0 L' f' 13 [(0, .ref r0), (1, .int (Int32.ofInt v0)), (2, .int (Int32.ofInt v1))] [.int (Int32.ofInt 0), .int (Int32.ofInt v1), .ref r0]) (k47 : ∀ (K' : Nat → Nat) (B' : Int) (L' : List Nat) (f' : Nat → va_E), hok X0.2.2.1 K' B' L' f' → extC [] K B L f K' B' L' f' → (0 ≤ v0 ∧ v0 ≤ 10) → (11 ≤ v1 ∧ v1 ≤ 11) → (r0 ∈ L' ∧ K' r0 = 200) → eW E 0 0 L' f' 47 [(0, .ref r0), (1, .int (Int32.ofInt v0)), (2, .int (Int32.ofInt v1))] []) : eW E 0 0 L f 4 [(0, .ref r0), (1, .int (Int32.ofInt v0)), (2, .int (Int32.ofInt v1))] [] := by
  obtain ⟨l0, D0, cy0, ax0⟩ := X0
  have hraw : eW E 0 0 L f 4 [(0, .ref r0), (1, .int (Int32.ofInt (0 + (1 * v0 + 0)))), (2, .int (Int32.ofInt (0 + (1 * v1 + 0))))] [] := ?_
  · simpa only [Int.zero_add, Int.one_mul, Int.add_zero] using hraw
  refine seg_ok (D := D_bm4) (νi := fun i => [v0, v1].getD i 0) (μi := fun i => [r0].getD i 0) k_bm4 hE (mk_ok (ins := iX12_bound) jX12_bound fX12_ok lX12_ok kX12_ok kkX12_ok H) (by decide) rfl rfl rfl rfl hh ?_ ?_
  · refine ⟨(eok_of (fun i q hq => ?_) (fun i hi => ?_)), fa0, fa0, ?_, fa0, fa0, fa0⟩
    · match i, hq with
      | 0, hq => cases hq; exact hb0
      | 1, hq => cases hq; exact hb1
      | i + 2, hq => cases hq
    · match i, hi with
      | 0, hi => exact absurd hi (by decide)
      | 1, hi => exact absurd hi (by decide)
      | i + 2, _ => rfl
    · intro i k hk
      match i, hk with
      | 0, hk => cases hk; exact hr0
      | i + 1, hk => cases hk
  · intro q hq hst K' B' L' f' ν μ h1 h2 h3 h4 h5
    have e0 : ν 0 = v0 := h4 0 (by decide)
    have e1 : ν 1 = v1 := h4 1 (by decide)
    have d0 : μ 0 = r0 := h5 0 (by decide)
    subst e0
    subst e1
    subst d0
    replace hq : q ∈ u_bm4 := hq
    unfold u_bm4 at hq
    simp only [List.mem_cons, List.not_mem_nil, or_false] at hq
    rcases hq with rfl | rfl
    · have hst2 : eW E 0 0 L' f' 13 [(0, .ref (μ 0)), (1, .int (Int32.ofInt (0 + (1 * ν 0 + 0)))), (2, .int (Int32.ofInt (0 + (1 * ν 1 + 0))))] [.int (Int32.ofInt (0 + 0)), .int (Int32.ofInt (0 + (1 * ν 1 + 0))), .ref (μ 0)] := ?_
      · exact hst2
      try simp only [Int.zero_add, Int.one_mul, Int.add_zero]
      exact k13 K' B' L' f'   h1 h2 (h3.1 0) (h3.1 1) (h3.2.2.2.1 0 200 rfl)
    · have hst2 : eW E 0 0 L' f' 47 [(0, .ref (μ 0)), (1, .int (Int32.ofInt (0 + (1 * ν 0 + 0)))), (2, .int (Int32.ofInt (0 + (1 * ν 1 + 0))))] [] := ?_
      · exact hst2
      try simp only [Int.zero_add, Int.one_mul, Int.add_zero]
      exact k47 K' B' L' f'   h1 h2 (h3.1 0) (h3.1 1) (h3.2.2.2.1 0 200 rfl)

/-! bm16: from 16 to [19] -/
def w_bm16 : TP := ([(0, (2, 0, (0, []))), (1, (0, 0, (0, [(1, 0)]))), (2, (0, 0, (0, [(1, 1)])))], [(0, 0, (0, [(1, 2)]))], ([(0, 10), (1, 10), (0, 12)], [], [], [200], [], [], []), [], [])
def u_bm16 : List (Nat × TP × EX × Nat × Nat) := [(19, ([(0, (2, 0, (0, []))), (1, (0, 0, (0, [(1, 0)]))), (2, (0, 0, (0, [(1, 1)])))], [(0, 0, (1, [])), (0, 0, (0, [(1, 1)])), (2, 0, (0, [])), (0, 0, (0, [(1, 2)]))], ([(0, 10), (1, 10), (0, 12)], [], [], [200], [], [], []), [], []), ((-1), []), 0, 0)]
def D_bm16 : DT := (mkD iX12_bound fX12 lX12 kX12 kkX12 427 [] (w_bm16, [], [], 2, 0, 0, 3) false 3 u_bm16)
theorem k_bm16 : chkS D_bm16 4000 0 0 16 = true := by decide +kernel
theorem s_bm16 {X0 : zC0} {E : zCx} (H : ∀ j, j < 427 → CMj X0 j) (hE : zOk E X0 RX12 cX12_bound 3 (zrm 2 0 0)) {K : Nat → Nat} {B : Int} {L : List Nat} {f : Nat → va_E} (hh : hok X0.2.2.1 K B L f) {v0 v1 v2 : Int} {r0 : Nat} (hb0 : 0 ≤ v0 ∧ v0 ≤ 10) (hb1 : 1 ≤ v1 ∧ v1 ≤ 10) (hb2 : 0 ≤ v2 ∧ v2 ≤ 12) (hr0 : r0 ∈ L ∧ K r0 = 200) (k19 : ∀ (K' : Nat → Nat) (B' : Int) (L' : List Nat) (f' : Nat → va_E), hok X0.2.2.1 K' B' L' f' → extC [] K B L f K' B' L' f' → (0 ≤ v0 ∧ v0 ≤ 10) → (1 ≤ v1 ∧ v1 ≤ 10) → (0 ≤ v2 ∧ v2 ≤ 12) → (r0 ∈ L' ∧ K' r0 = 200) → eW E 0 0 L' f' 19 [(0, .ref r0), (1, .int (Int32.ofInt v0)), (2, .int (Int32.ofInt v1))] [.int (Int32.ofInt 1), .int (Int32.ofInt v1), .ref r0, .int (Int32.ofInt v2)]) : eW E 0 0 L f 16 [(0, .ref r0), (1, .int (Int32.ofInt v0)), (2, .int (Int32.ofInt v1))] [.int (Int32.ofInt v2)] := by
  obtain ⟨l0, D0, cy0, ax0⟩ := X0
  have hraw : eW E 0 0 L f 16 [(0, .ref r0), (1, .int (Int32.ofInt (0 + (1 * v0 + 0)))), (2, .int (Int32.ofInt (0 + (1 * v1 + 0))))] [.int (Int32.ofInt (0 + (1 * v2 + 0)))] := ?_
  · simpa only [Int.zero_add, Int.one_mul, Int.add_zero] using hraw
  refine seg_ok (D := D_bm16) (νi := fun i => [v0, v1, v2].getD i 0) (μi := fun i => [r0].getD i 0) k_bm16 hE (mk_ok (ins := iX12_bound) jX12_bound fX12_ok lX12_ok kX12_ok kkX12_ok H) (by decide) rfl rfl rfl rfl hh ?_ ?_
  · refine ⟨(eok_of (fun i q hq => ?_) (fun i hi => ?_)), fa0, fa0, ?_, fa0, fa0, fa0⟩
    · match i, hq with
      | 0, hq => cases hq; exact hb0
      | 1, hq => cases hq; exact hb1
      | 2, hq => cases hq; exact hb2
      | i + 3, hq => cases hq
    · match i, hi with
      | 0, hi => exact absurd hi (by decide)
      | 1, hi => exact absurd hi (by decide)
      | 2, hi => exact absurd hi (by decide)
      | i + 3, _ => rfl
    · intro i k hk
      match i, hk with
      | 0, hk => cases hk; exact hr0
      | i + 1, hk => cases hk
  · intro q hq hst K' B' L' f' ν μ h1 h2 h3 h4 h5
    have e0 : ν 0 = v0 := h4 0 (by decide)
    have e1 : ν 1 = v1 := h4 1 (by decide)
    have e2 : ν 2 = v2 := h4 2 (by decide)
    have d0 : μ 0 = r0 := h5 0 (by decide)
    subst e0
    subst e1
    subst e2
    subst d0
    replace hq : q ∈ u_bm16 := hq
    unfold u_bm16 at hq
    simp only [List.mem_cons, List.not_mem_nil, or_false] at hq
    rcases hq with rfl
    · have hst2 : eW E 0 0 L' f' 19 [(0, .ref (μ 0)), (1, .int (Int32.ofInt (0 + (1 * ν 0 + 0)))), (2, .int (Int32.ofInt (0 + (1 * ν 1 + 0))))] [.int (Int32.ofInt (1 + 0)), .int (Int32.ofInt (0 + (1 * ν 1 + 0))), .ref (μ 0), .int (Int32.ofInt (0 + (1 * ν 2 + 0)))] := ?_
      · exact hst2
      try simp only [Int.zero_add, Int.one_mul, Int.add_zero]
      exact k19 K' B' L' f'   h1 h2 (h3.1 0) (h3.1 1) (h3.1 2) (h3.2.2.2.1 0 200 rfl)

/-! bm22: from 22 to [26] -/
def w_bm22 : TP := ([(0, (2, 0, (0, []))), (1, (0, 0, (0, [(1, 0)]))), (2, (0, 0, (0, [(1, 1)])))], [(0, 0, (0, [(1, 2)])), (0, 0, (0, [(1, 3)]))], ([(0, 10), (1, 10), (0, 12), (0, 12)], [], [], [200], [], [], []), [], [])
def u_bm22 : List (Nat × TP × EX × Nat × Nat) := [(26, ([(0, (2, 0, (0, []))), (1, (0, 0, (0, [(1, 0)]))), (2, (0, 0, (0, [(1, 1)])))], [(0, 0, (0, [])), (0, 0, (0, [(1, 0)])), (2, 0, (0, [])), (0, 0, (0, [(1, 2), (1, 3)]))], ([(0, 10), (1, 10), (0, 12), (0, 12)], [], [], [200], [], [], []), [], []), ((-1), []), 0, 0)]
def D_bm22 : DT := (mkD iX12_bound fX12 lX12 kX12 kkX12 427 [] (w_bm22, [], [], 2, 0, 0, 3) false 3 u_bm22)
theorem k_bm22 : chkS D_bm22 4000 0 0 22 = true := by decide +kernel
theorem s_bm22 {X0 : zC0} {E : zCx} (H : ∀ j, j < 427 → CMj X0 j) (hE : zOk E X0 RX12 cX12_bound 3 (zrm 2 0 0)) {K : Nat → Nat} {B : Int} {L : List Nat} {f : Nat → va_E} (hh : hok X0.2.2.1 K B L f) {v0 v1 v2 v3 : Int} {r0 : Nat} (hb0 : 0 ≤ v0 ∧ v0 ≤ 10) (hb1 : 1 ≤ v1 ∧ v1 ≤ 10) (hb2 : 0 ≤ v2 ∧ v2 ≤ 12) (hb3 : 0 ≤ v3 ∧ v3 ≤ 12) (hr0 : r0 ∈ L ∧ K r0 = 200) (k26 : ∀ (K' : Nat → Nat) (B' : Int) (L' : List Nat) (f' : Nat → va_E), hok X0.2.2.1 K' B' L' f' → extC [] K B L f K' B' L' f' → (0 ≤ v0 ∧ v0 ≤ 10) → (1 ≤ v1 ∧ v1 ≤ 10) → (0 ≤ v2 ∧ v2 ≤ 12) → (0 ≤ v3 ∧ v3 ≤ 12) → (r0 ∈ L' ∧ K' r0 = 200) → eW E 0 0 L' f' 26 [(0, .ref r0), (1, .int (Int32.ofInt v0)), (2, .int (Int32.ofInt v1))] [.int (Int32.ofInt 0), .int (Int32.ofInt v0), .ref r0, .int (Int32.ofInt (v2 + v3))]) : eW E 0 0 L f 22 [(0, .ref r0), (1, .int (Int32.ofInt v0)), (2, .int (Int32.ofInt v1))] [.int (Int32.ofInt v2), .int (Int32.ofInt v3)] := by
  obtain ⟨l0, D0, cy0, ax0⟩ := X0
  have hraw : eW E 0 0 L f 22 [(0, .ref r0), (1, .int (Int32.ofInt (0 + (1 * v0 + 0)))), (2, .int (Int32.ofInt (0 + (1 * v1 + 0))))] [.int (Int32.ofInt (0 + (1 * v2 + 0))), .int (Int32.ofInt (0 + (1 * v3 + 0)))] := ?_
  · simpa only [Int.zero_add, Int.one_mul, Int.add_zero] using hraw
  refine seg_ok (D := D_bm22) (νi := fun i => [v0, v1, v2, v3].getD i 0) (μi := fun i => [r0].getD i 0) k_bm22 hE (mk_ok (ins := iX12_bound) jX12_bound fX12_ok lX12_ok kX12_ok kkX12_ok H) (by decide) rfl rfl rfl rfl hh ?_ ?_
  · refine ⟨(eok_of (fun i q hq => ?_) (fun i hi => ?_)), fa0, fa0, ?_, fa0, fa0, fa0⟩
    · match i, hq with
      | 0, hq => cases hq; exact hb0
      | 1, hq => cases hq; exact hb1
      | 2, hq => cases hq; exact hb2
      | 3, hq => cases hq; exact hb3
      | i + 4, hq => cases hq
    · match i, hi with
      | 0, hi => exact absurd hi (by decide)
      | 1, hi => exact absurd hi (by decide)
      | 2, hi => exact absurd hi (by decide)
      | 3, hi => exact absurd hi (by decide)
      | i + 4, _ => rfl
    · intro i k hk
      match i, hk with
      | 0, hk => cases hk; exact hr0
      | i + 1, hk => cases hk
  · intro q hq hst K' B' L' f' ν μ h1 h2 h3 h4 h5
    have e0 : ν 0 = v0 := h4 0 (by decide)
    have e1 : ν 1 = v1 := h4 1 (by decide)
    have e2 : ν 2 = v2 := h4 2 (by decide)
    have e3 : ν 3 = v3 := h4 3 (by decide)
    have d0 : μ 0 = r0 := h5 0 (by decide)
    subst e0
    subst e1
    subst e2
    subst e3
    subst d0
    replace hq : q ∈ u_bm22 := hq
    unfold u_bm22 at hq
    simp only [List.mem_cons, List.not_mem_nil, or_false] at hq
    rcases hq with rfl
    · have hst2 : eW E 0 0 L' f' 26 [(0, .ref (μ 0)), (1, .int (Int32.ofInt (0 + (1 * ν 0 + 0)))), (2, .int (Int32.ofInt (0 + (1 * ν 1 + 0))))] [.int (Int32.ofInt (0 + 0)), .int (Int32.ofInt (0 + (1 * ν 0 + 0))), .ref (μ 0), .int (Int32.ofInt (0 + (1 * ν 2 + (1 * ν 3 + 0))))] := ?_
      · exact hst2
      try simp only [Int.zero_add, Int.one_mul, Int.add_zero]
      exact k26 K' B' L' f'   h1 h2 (h3.1 0) (h3.1 1) (h3.1 2) (h3.1 3) (h3.2.2.2.1 0 200 rfl)

/-! bm29: from 29 to [32] -/
def w_bm29 : TP := ([(0, (2, 0, (0, []))), (1, (0, 0, (0, [(1, 0)]))), (2, (0, 0, (0, [(1, 1)])))], [(0, 0, (0, [(1, 2)])), (0, 0, (0, [(1, 3)]))], ([(0, 10), (1, 10), (0, 12), (0, 24)], [], [], [200], [], [], []), [], [])
def u_bm29 : List (Nat × TP × EX × Nat × Nat) := [(32, ([(0, (2, 0, (0, []))), (1, (0, 0, (0, [(1, 0)]))), (2, (0, 0, (0, [(1, 1)])))], [(0, 0, (1, [])), (0, 0, (0, [(1, 0)])), (2, 0, (0, [])), (0, 0, (0, [(1, 2)])), (0, 0, (0, [(1, 3)]))], ([(0, 10), (1, 10), (0, 12), (0, 24)], [], [], [200], [], [], []), [], []), ((-1), []), 0, 0)]
def D_bm29 : DT := (mkD iX12_bound fX12 lX12 kX12 kkX12 427 [] (w_bm29, [], [], 2, 0, 0, 3) false 3 u_bm29)
theorem k_bm29 : chkS D_bm29 4000 0 0 29 = true := by decide +kernel
theorem s_bm29 {X0 : zC0} {E : zCx} (H : ∀ j, j < 427 → CMj X0 j) (hE : zOk E X0 RX12 cX12_bound 3 (zrm 2 0 0)) {K : Nat → Nat} {B : Int} {L : List Nat} {f : Nat → va_E} (hh : hok X0.2.2.1 K B L f) {v0 v1 v2 v3 : Int} {r0 : Nat} (hb0 : 0 ≤ v0 ∧ v0 ≤ 10) (hb1 : 1 ≤ v1 ∧ v1 ≤ 10) (hb2 : 0 ≤ v2 ∧ v2 ≤ 12) (hb3 : 0 ≤ v3 ∧ v3 ≤ 24) (hr0 : r0 ∈ L ∧ K r0 = 200) (k32 : ∀ (K' : Nat → Nat) (B' : Int) (L' : List Nat) (f' : Nat → va_E), hok X0.2.2.1 K' B' L' f' → extC [] K B L f K' B' L' f' → (0 ≤ v0 ∧ v0 ≤ 10) → (1 ≤ v1 ∧ v1 ≤ 10) → (0 ≤ v2 ∧ v2 ≤ 12) → (0 ≤ v3 ∧ v3 ≤ 24) → (r0 ∈ L' ∧ K' r0 = 200) → eW E 0 0 L' f' 32 [(0, .ref r0), (1, .int (Int32.ofInt v0)), (2, .int (Int32.ofInt v1))] [.int (Int32.ofInt 1), .int (Int32.ofInt v0), .ref r0, .int (Int32.ofInt v2), .int (Int32.ofInt v3)]) : eW E 0 0 L f 29 [(0, .ref r0), (1, .int (Int32.ofInt v0)), (2, .int (Int32.ofInt v1))] [.int (Int32.ofInt v2), .int (Int32.ofInt v3)] := by
  obtain ⟨l0, D0, cy0, ax0⟩ := X0
  have hraw : eW E 0 0 L f 29 [(0, .ref r0), (1, .int (Int32.ofInt (0 + (1 * v0 + 0)))), (2, .int (Int32.ofInt (0 + (1 * v1 + 0))))] [.int (Int32.ofInt (0 + (1 * v2 + 0))), .int (Int32.ofInt (0 + (1 * v3 + 0)))] := ?_
  · simpa only [Int.zero_add, Int.one_mul, Int.add_zero] using hraw
  refine seg_ok (D := D_bm29) (νi := fun i => [v0, v1, v2, v3].getD i 0) (μi := fun i => [r0].getD i 0) k_bm29 hE (mk_ok (ins := iX12_bound) jX12_bound fX12_ok lX12_ok kX12_ok kkX12_ok H) (by decide) rfl rfl rfl rfl hh ?_ ?_
  · refine ⟨(eok_of (fun i q hq => ?_) (fun i hi => ?_)), fa0, fa0, ?_, fa0, fa0, fa0⟩
    · match i, hq with
      | 0, hq => cases hq; exact hb0
      | 1, hq => cases hq; exact hb1
      | 2, hq => cases hq; exact hb2
      | 3, hq => cases hq; exact hb3
      | i + 4, hq => cases hq
    · match i, hi with
      | 0, hi => exact absurd hi (by decide)
      | 1, hi => exact absurd hi (by decide)
      | 2, hi => exact absurd hi (by decide)
      | 3, hi => exact absurd hi (by decide)
      | i + 4, _ => rfl
    · intro i k hk
      match i, hk with
      | 0, hk => cases hk; exact hr0
      | i + 1, hk => cases hk
  · intro q hq hst K' B' L' f' ν μ h1 h2 h3 h4 h5
    have e0 : ν 0 = v0 := h4 0 (by decide)
    have e1 : ν 1 = v1 := h4 1 (by decide)
    have e2 : ν 2 = v2 := h4 2 (by decide)
    have e3 : ν 3 = v3 := h4 3 (by decide)
    have d0 : μ 0 = r0 := h5 0 (by decide)
    subst e0
    subst e1
    subst e2
    subst e3
    subst d0
    replace hq : q ∈ u_bm29 := hq
    unfold u_bm29 at hq
    simp only [List.mem_cons, List.not_mem_nil, or_false] at hq
    rcases hq with rfl
    · have hst2 : eW E 0 0 L' f' 32 [(0, .ref (μ 0)), (1, .int (Int32.ofInt (0 + (1 * ν 0 + 0)))), (2, .int (Int32.ofInt (0 + (1 * ν 1 + 0))))] [.int (Int32.ofInt (1 + 0)), .int (Int32.ofInt (0 + (1 * ν 0 + 0))), .ref (μ 0), .int (Int32.ofInt (0 + (1 * ν 2 + 0))), .int (Int32.ofInt (0 + (1 * ν 3 + 0)))] := ?_
      · exact hst2
      try simp only [Int.zero_add, Int.one_mul, Int.add_zero]
      exact k32 K' B' L' f'   h1 h2 (h3.1 0) (h3.1 1) (h3.1 2) (h3.1 3) (h3.2.2.2.1 0 200 rfl)

/-! bm35a: from 35 to [4] -/
def w_bm35a : TP := ([(0, (2, 0, (0, []))), (1, (0, 0, (0, [(1, 0)]))), (2, (0, 0, (0, [(1, 1)])))], [(0, 0, (0, [(1, 2)])), (0, 0, (0, [(1, 3)])), (0, 0, (0, [(1, 4)]))], ([(0, 10), (1, 10), (0, 12), (0, 12), (0, 24)], [((-1), [(1, 2), (1, 3), ((-1), 4)])], [], [200], [], [], []), [], [])
def u_bm35a : List (Nat × TP × EX × Nat × Nat) := [(4, ([(0, (2, 0, (0, []))), (1, (0, 0, (0, [(1, 1)]))), (2, (0, 0, (1, [(1, 1)])))], [], ([(0, 10), (1, 10), (0, 12), (0, 12), (0, 23)], [((-1), [((-1), 4), (1, 2), (1, 3)])], [], [200], [], [], []), [], []), ((-1), []), 0, 0)]
def D_bm35a : DT := (mkD iX12_bound fX12 lX12 kX12 kkX12 427 [] (w_bm35a, [], [], 2, 0, 0, 3) false 3 u_bm35a)
theorem k_bm35a : chkS D_bm35a 4000 0 0 35 = true := by decide +kernel
theorem s_bm35a {X0 : zC0} {E : zCx} (H : ∀ j, j < 427 → CMj X0 j) (hE : zOk E X0 RX12 cX12_bound 3 (zrm 2 0 0)) {K : Nat → Nat} {B : Int} {L : List Nat} {f : Nat → va_E} (hh : hok X0.2.2.1 K B L f) {v0 v1 v2 v3 v4 : Int} {r0 : Nat} (hb0 : 0 ≤ v0 ∧ v0 ≤ 10) (hb1 : 1 ≤ v1 ∧ v1 ≤ 10) (hb2 : 0 ≤ v2 ∧ v2 ≤ 12) (hb3 : 0 ≤ v3 ∧ v3 ≤ 12) (hb4 : 0 ≤ v4 ∧ v4 ≤ 24) (hq0 : 0 ≤ ((-1) + (v2 + (v3 + ((-1) * v4))))) (hr0 : r0 ∈ L ∧ K r0 = 200) (k4 : ∀ (K' : Nat → Nat) (B' : Int) (L' : List Nat) (f' : Nat → va_E), hok X0.2.2.1 K' B' L' f' → extC [] K B L f K' B' L' f' → (0 ≤ v0 ∧ v0 ≤ 10) → (1 ≤ v1 ∧ v1 ≤ 10) → (0 ≤ v2 ∧ v2 ≤ 12) → (0 ≤ v3 ∧ v3 ≤ 12) → (0 ≤ v4 ∧ v4 ≤ 23) → (0 ≤ ((-1) + ((-1) * v4 + (v2 + v3)))) → (r0 ∈ L' ∧ K' r0 = 200) → eW E 0 0 L' f' 4 [(0, .ref r0), (1, .int (Int32.ofInt v1)), (2, .int (Int32.ofInt (1 + v1)))] []) : eW E 0 0 L f 35 [(0, .ref r0), (1, .int (Int32.ofInt v0)), (2, .int (Int32.ofInt v1))] [.int (Int32.ofInt v2), .int (Int32.ofInt v3), .int (Int32.ofInt v4)] := by
  obtain ⟨l0, D0, cy0, ax0⟩ := X0
  have hraw : eW E 0 0 L f 35 [(0, .ref r0), (1, .int (Int32.ofInt (0 + (1 * v0 + 0)))), (2, .int (Int32.ofInt (0 + (1 * v1 + 0))))] [.int (Int32.ofInt (0 + (1 * v2 + 0))), .int (Int32.ofInt (0 + (1 * v3 + 0))), .int (Int32.ofInt (0 + (1 * v4 + 0)))] := ?_
  · simpa only [Int.zero_add, Int.one_mul, Int.add_zero] using hraw
  have rq0 : 0 ≤ ((-1) + (1 * v2 + (1 * v3 + ((-1) * v4 + 0)))) := by simpa only [Int.zero_add, Int.one_mul, Int.add_zero] using hq0
  refine seg_ok (D := D_bm35a) (νi := fun i => [v0, v1, v2, v3, v4].getD i 0) (μi := fun i => [r0].getD i 0) k_bm35a hE (mk_ok (ins := iX12_bound) jX12_bound fX12_ok lX12_ok kX12_ok kkX12_ok H) (by decide) rfl rfl rfl rfl hh ?_ ?_
  · refine ⟨(eok_of (fun i q hq => ?_) (fun i hi => ?_)), (fa_cons (rq0) fa0), fa0, ?_, fa0, fa0, fa0⟩
    · match i, hq with
      | 0, hq => cases hq; exact hb0
      | 1, hq => cases hq; exact hb1
      | 2, hq => cases hq; exact hb2
      | 3, hq => cases hq; exact hb3
      | 4, hq => cases hq; exact hb4
      | i + 5, hq => cases hq
    · match i, hi with
      | 0, hi => exact absurd hi (by decide)
      | 1, hi => exact absurd hi (by decide)
      | 2, hi => exact absurd hi (by decide)
      | 3, hi => exact absurd hi (by decide)
      | 4, hi => exact absurd hi (by decide)
      | i + 5, _ => rfl
    · intro i k hk
      match i, hk with
      | 0, hk => cases hk; exact hr0
      | i + 1, hk => cases hk
  · intro q hq hst K' B' L' f' ν μ h1 h2 h3 h4 h5
    have e0 : ν 0 = v0 := h4 0 (by decide)
    have e1 : ν 1 = v1 := h4 1 (by decide)
    have e2 : ν 2 = v2 := h4 2 (by decide)
    have e3 : ν 3 = v3 := h4 3 (by decide)
    have e4 : ν 4 = v4 := h4 4 (by decide)
    have d0 : μ 0 = r0 := h5 0 (by decide)
    subst e0
    subst e1
    subst e2
    subst e3
    subst e4
    subst d0
    replace hq : q ∈ u_bm35a := hq
    unfold u_bm35a at hq
    simp only [List.mem_cons, List.not_mem_nil, or_false] at hq
    rcases hq with rfl
    · have hst2 : eW E 0 0 L' f' 4 [(0, .ref (μ 0)), (1, .int (Int32.ofInt (0 + (1 * ν 1 + 0)))), (2, .int (Int32.ofInt (1 + (1 * ν 1 + 0))))] [] := ?_
      · exact hst2
      try simp only [Int.zero_add, Int.one_mul, Int.add_zero]
      exact k4 K' B' L' f'   h1 h2 (h3.1 0) (h3.1 1) (h3.1 2) (h3.1 3) (h3.1 4) (by simpa only [xv, xvT, Int.zero_add, Int.one_mul, Int.add_zero] using (h3.2.1 _ (List.mem_of_getElem? (i := 0) rfl))) (h3.2.2.2.1 0 200 rfl)

/-! bm35b: from 35 to [4] -/
def w_bm35b : TP := ([(0, (2, 0, (0, []))), (1, (0, 0, (0, [(1, 0)]))), (2, (0, 0, (0, [(1, 1)])))], [(0, 0, (0, [(1, 2)])), (0, 0, (0, [(1, 3)])), (0, 0, (0, [(1, 4)]))], ([(0, 10), (1, 10), (0, 12), (0, 12), (0, 24)], [(0, [(1, 4), ((-1), 2), ((-1), 3)])], [], [200], [], [], []), [], [])
def u_bm35b : List (Nat × TP × EX × Nat × Nat) := [(4, ([(0, (2, 0, (0, []))), (1, (0, 0, (0, [(1, 0)]))), (2, (0, 0, (1, [(1, 1)])))], [], ([(0, 10), (1, 10), (0, 12), (0, 12), (0, 24)], [(0, [(1, 4), ((-1), 2), ((-1), 3)]), (0, [(1, 4), ((-1), 2)]), (0, [(1, 4), ((-1), 3)])], [], [200], [], [], []), [], []), ((-1), []), 0, 0)]
def D_bm35b : DT := (mkD iX12_bound fX12 lX12 kX12 kkX12 427 [] (w_bm35b, [], [], 2, 0, 0, 3) false 3 u_bm35b)
theorem k_bm35b : chkS D_bm35b 4000 0 0 35 = true := by decide +kernel
theorem s_bm35b {X0 : zC0} {E : zCx} (H : ∀ j, j < 427 → CMj X0 j) (hE : zOk E X0 RX12 cX12_bound 3 (zrm 2 0 0)) {K : Nat → Nat} {B : Int} {L : List Nat} {f : Nat → va_E} (hh : hok X0.2.2.1 K B L f) {v0 v1 v2 v3 v4 : Int} {r0 : Nat} (hb0 : 0 ≤ v0 ∧ v0 ≤ 10) (hb1 : 1 ≤ v1 ∧ v1 ≤ 10) (hb2 : 0 ≤ v2 ∧ v2 ≤ 12) (hb3 : 0 ≤ v3 ∧ v3 ≤ 12) (hb4 : 0 ≤ v4 ∧ v4 ≤ 24) (hq0 : 0 ≤ (v4 + ((-1) * v2 + ((-1) * v3)))) (hr0 : r0 ∈ L ∧ K r0 = 200) (k4 : ∀ (K' : Nat → Nat) (B' : Int) (L' : List Nat) (f' : Nat → va_E), hok X0.2.2.1 K' B' L' f' → extC [] K B L f K' B' L' f' → (0 ≤ v0 ∧ v0 ≤ 10) → (1 ≤ v1 ∧ v1 ≤ 10) → (0 ≤ v2 ∧ v2 ≤ 12) → (0 ≤ v3 ∧ v3 ≤ 12) → (0 ≤ v4 ∧ v4 ≤ 24) → (0 ≤ (v4 + ((-1) * v2 + ((-1) * v3)))) → (0 ≤ (v4 + ((-1) * v2))) → (0 ≤ (v4 + ((-1) * v3))) → (r0 ∈ L' ∧ K' r0 = 200) → eW E 0 0 L' f' 4 [(0, .ref r0), (1, .int (Int32.ofInt v0)), (2, .int (Int32.ofInt (1 + v1)))] []) : eW E 0 0 L f 35 [(0, .ref r0), (1, .int (Int32.ofInt v0)), (2, .int (Int32.ofInt v1))] [.int (Int32.ofInt v2), .int (Int32.ofInt v3), .int (Int32.ofInt v4)] := by
  obtain ⟨l0, D0, cy0, ax0⟩ := X0
  have hraw : eW E 0 0 L f 35 [(0, .ref r0), (1, .int (Int32.ofInt (0 + (1 * v0 + 0)))), (2, .int (Int32.ofInt (0 + (1 * v1 + 0))))] [.int (Int32.ofInt (0 + (1 * v2 + 0))), .int (Int32.ofInt (0 + (1 * v3 + 0))), .int (Int32.ofInt (0 + (1 * v4 + 0)))] := ?_
  · simpa only [Int.zero_add, Int.one_mul, Int.add_zero] using hraw
  have rq0 : 0 ≤ (0 + (1 * v4 + ((-1) * v2 + ((-1) * v3 + 0)))) := by simpa only [Int.zero_add, Int.one_mul, Int.add_zero] using hq0
  refine seg_ok (D := D_bm35b) (νi := fun i => [v0, v1, v2, v3, v4].getD i 0) (μi := fun i => [r0].getD i 0) k_bm35b hE (mk_ok (ins := iX12_bound) jX12_bound fX12_ok lX12_ok kX12_ok kkX12_ok H) (by decide) rfl rfl rfl rfl hh ?_ ?_
  · refine ⟨(eok_of (fun i q hq => ?_) (fun i hi => ?_)), (fa_cons (rq0) fa0), fa0, ?_, fa0, fa0, fa0⟩
    · match i, hq with
      | 0, hq => cases hq; exact hb0
      | 1, hq => cases hq; exact hb1
      | 2, hq => cases hq; exact hb2
      | 3, hq => cases hq; exact hb3
      | 4, hq => cases hq; exact hb4
      | i + 5, hq => cases hq
    · match i, hi with
      | 0, hi => exact absurd hi (by decide)
      | 1, hi => exact absurd hi (by decide)
      | 2, hi => exact absurd hi (by decide)
      | 3, hi => exact absurd hi (by decide)
      | 4, hi => exact absurd hi (by decide)
      | i + 5, _ => rfl
    · intro i k hk
      match i, hk with
      | 0, hk => cases hk; exact hr0
      | i + 1, hk => cases hk
  · intro q hq hst K' B' L' f' ν μ h1 h2 h3 h4 h5
    have e0 : ν 0 = v0 := h4 0 (by decide)
    have e1 : ν 1 = v1 := h4 1 (by decide)
    have e2 : ν 2 = v2 := h4 2 (by decide)
    have e3 : ν 3 = v3 := h4 3 (by decide)
    have e4 : ν 4 = v4 := h4 4 (by decide)
    have d0 : μ 0 = r0 := h5 0 (by decide)
    subst e0
    subst e1
    subst e2
    subst e3
    subst e4
    subst d0
    replace hq : q ∈ u_bm35b := hq
    unfold u_bm35b at hq
    simp only [List.mem_cons, List.not_mem_nil, or_false] at hq
    rcases hq with rfl
    · have hst2 : eW E 0 0 L' f' 4 [(0, .ref (μ 0)), (1, .int (Int32.ofInt (0 + (1 * ν 0 + 0)))), (2, .int (Int32.ofInt (1 + (1 * ν 1 + 0))))] [] := ?_
      · exact hst2
      try simp only [Int.zero_add, Int.one_mul, Int.add_zero]
      exact k4 K' B' L' f'   h1 h2 (h3.1 0) (h3.1 1) (h3.1 2) (h3.1 3) (h3.1 4) (by simpa only [xv, xvT, Int.zero_add, Int.one_mul, Int.add_zero] using (h3.2.1 _ (List.mem_of_getElem? (i := 0) rfl))) (by simpa only [xv, xvT, Int.zero_add, Int.one_mul, Int.add_zero] using (h3.2.1 _ (List.mem_of_getElem? (i := 1) rfl))) (by simpa only [xv, xvT, Int.zero_add, Int.one_mul, Int.add_zero] using (h3.2.1 _ (List.mem_of_getElem? (i := 2) rfl))) (h3.2.2.2.1 0 200 rfl)

/-! bm47: from 47 to [48] -/
def w_bm47 : TP := ([(0, (2, 0, (0, []))), (1, (0, 0, (0, [(1, 0)]))), (2, (0, 0, (0, [(1, 1)])))], [], ([(0, 10), (1, 11)], [], [], [200], [], [], []), [], [])
def u_bm47 : List (Nat × TP × EX × Nat × Nat) := [(48, ([(0, (2, 0, (0, []))), (1, (0, 0, (0, [(1, 0)]))), (2, (0, 0, (0, [(1, 1)])))], [(0, 0, (0, [(1, 0)]))], ([(0, 10), (1, 11)], [], [], [200], [], [], []), [], []), ((-1), []), 0, 0)]
def D_bm47 : DT := (mkD iX12_bound fX12 lX12 kX12 kkX12 427 [] (w_bm47, [], [], 2, 0, 0, 3) false 3 u_bm47)
theorem k_bm47 : chkS D_bm47 4000 0 0 47 = true := by decide +kernel
theorem s_bm47 {X0 : zC0} {E : zCx} (H : ∀ j, j < 427 → CMj X0 j) (hE : zOk E X0 RX12 cX12_bound 3 (zrm 2 0 0)) {K : Nat → Nat} {B : Int} {L : List Nat} {f : Nat → va_E} (hh : hok X0.2.2.1 K B L f) {v0 v1 : Int} {r0 : Nat} (hb0 : 0 ≤ v0 ∧ v0 ≤ 10) (hb1 : 1 ≤ v1 ∧ v1 ≤ 11) (hr0 : r0 ∈ L ∧ K r0 = 200) (k48 : ∀ (K' : Nat → Nat) (B' : Int) (L' : List Nat) (f' : Nat → va_E), hok X0.2.2.1 K' B' L' f' → extC [] K B L f K' B' L' f' → (0 ≤ v0 ∧ v0 ≤ 10) → (1 ≤ v1 ∧ v1 ≤ 11) → (r0 ∈ L' ∧ K' r0 = 200) → eW E 0 0 L' f' 48 [(0, .ref r0), (1, .int (Int32.ofInt v0)), (2, .int (Int32.ofInt v1))] [.int (Int32.ofInt v0)]) : eW E 0 0 L f 47 [(0, .ref r0), (1, .int (Int32.ofInt v0)), (2, .int (Int32.ofInt v1))] [] := by
  obtain ⟨l0, D0, cy0, ax0⟩ := X0
  have hraw : eW E 0 0 L f 47 [(0, .ref r0), (1, .int (Int32.ofInt (0 + (1 * v0 + 0)))), (2, .int (Int32.ofInt (0 + (1 * v1 + 0))))] [] := ?_
  · simpa only [Int.zero_add, Int.one_mul, Int.add_zero] using hraw
  refine seg_ok (D := D_bm47) (νi := fun i => [v0, v1].getD i 0) (μi := fun i => [r0].getD i 0) k_bm47 hE (mk_ok (ins := iX12_bound) jX12_bound fX12_ok lX12_ok kX12_ok kkX12_ok H) (by decide) rfl rfl rfl rfl hh ?_ ?_
  · refine ⟨(eok_of (fun i q hq => ?_) (fun i hi => ?_)), fa0, fa0, ?_, fa0, fa0, fa0⟩
    · match i, hq with
      | 0, hq => cases hq; exact hb0
      | 1, hq => cases hq; exact hb1
      | i + 2, hq => cases hq
    · match i, hi with
      | 0, hi => exact absurd hi (by decide)
      | 1, hi => exact absurd hi (by decide)
      | i + 2, _ => rfl
    · intro i k hk
      match i, hk with
      | 0, hk => cases hk; exact hr0
      | i + 1, hk => cases hk
  · intro q hq hst K' B' L' f' ν μ h1 h2 h3 h4 h5
    have e0 : ν 0 = v0 := h4 0 (by decide)
    have e1 : ν 1 = v1 := h4 1 (by decide)
    have d0 : μ 0 = r0 := h5 0 (by decide)
    subst e0
    subst e1
    subst d0
    replace hq : q ∈ u_bm47 := hq
    unfold u_bm47 at hq
    simp only [List.mem_cons, List.not_mem_nil, or_false] at hq
    rcases hq with rfl
    · have hst2 : eW E 0 0 L' f' 48 [(0, .ref (μ 0)), (1, .int (Int32.ofInt (0 + (1 * ν 0 + 0)))), (2, .int (Int32.ofInt (0 + (1 * ν 1 + 0))))] [.int (Int32.ofInt (0 + (1 * ν 0 + 0)))] := ?_
      · exact hst2
      try simp only [Int.zero_add, Int.one_mul, Int.add_zero]
      exact k48 K' B' L' f'   h1 h2 (h3.1 0) (h3.1 1) (h3.2.2.2.1 0 200 rfl)

/-! fkA: from 0 to [14] -/
def w_fkA : TP := ([(0, (2, 0, (0, []))), (1, (0, 0, ((-1), []))), (2, (0, 0, (0, [(1, 0)])))], [], ([(0, 1)], [], [], [200], [], [], []), [], [])
def u_fkA : List (Nat × TP × EX × Nat × Nat) := [(14, ([(0, (2, 0, (0, []))), (1, (0, 0, ((-1), []))), (2, (0, 0, (0, [(1, 0)])))], [(0, 0, (0, []))], ([(0, 1)], [], [], [200], [((201, (11, [])), (0, []))], [], []), [], []), ((-1), []), 0, 0)]
def D_fkA : DT := (mkD iX12_forecast fX12 lX12 kX12 kkX12 427 [] (w_fkA, [(201, 11)], [], 2, 0, 0, 3) false 3 u_fkA)
theorem k_fkA : chkS D_fkA 4000 0 0 0 = true := by decide +kernel
theorem s_fkA {X0 : zC0} {E : zCx} (H : ∀ j, j < 427 → CMj X0 j) (hE : zOk E X0 RX12 cX12_forecast 3 (zrm 2 0 0)) {K : Nat → Nat} {B : Int} {L : List Nat} {f : Nat → va_E} (hh : hok X0.2.2.1 K B L f) {v0 : Int} {r0 : Nat} (hb0 : 0 ≤ v0 ∧ v0 ≤ 1) (hr0 : r0 ∈ L ∧ K r0 = 200) (k14 : ∀ (K' : Nat → Nat) (B' : Int) (L' : List Nat) (f' : Nat → va_E), hok X0.2.2.1 K' B' L' f' → extC [(201, 11)] K B L f K' B' L' f' → (0 ≤ v0 ∧ v0 ≤ 1) → (r0 ∈ L' ∧ K' r0 = 200) → (∀ b ∈ L', K' b = 201 → (0 : Int) ≤ 11 ∧ gi (f' b) ((11 : Int)).toNat = 0) → eW E 0 0 L' f' 14 [(0, .ref r0), (1, .int (Int32.ofInt (-1))), (2, .int (Int32.ofInt v0))] [.int (Int32.ofInt 0)]) : eW E 0 0 L f 0 [(0, .ref r0), (1, .int (Int32.ofInt (-1))), (2, .int (Int32.ofInt v0))] [] := by
  obtain ⟨l0, D0, cy0, ax0⟩ := X0
  have hraw : eW E 0 0 L f 0 [(0, .ref r0), (1, .int (Int32.ofInt ((-1) + 0))), (2, .int (Int32.ofInt (0 + (1 * v0 + 0))))] [] := ?_
  · simpa only [Int.zero_add, Int.one_mul, Int.add_zero] using hraw
  refine seg_ok (D := D_fkA) (νi := fun i => [v0].getD i 0) (μi := fun i => [r0].getD i 0) k_fkA hE (mk_ok (ins := iX12_forecast) jX12_forecast fX12_ok lX12_ok kX12_ok kkX12_ok H) (by decide) rfl rfl rfl rfl hh ?_ ?_
  · refine ⟨(eok_of (fun i q hq => ?_) (fun i hi => ?_)), fa0, fa0, ?_, fa0, fa0, fa0⟩
    · match i, hq with
      | 0, hq => cases hq; exact hb0
      | i + 1, hq => cases hq
    · match i, hi with
      | 0, hi => exact absurd hi (by decide)
      | i + 1, _ => rfl
    · intro i k hk
      match i, hk with
      | 0, hk => cases hk; exact hr0
      | i + 1, hk => cases hk
  · intro q hq hst K' B' L' f' ν μ h1 h2 h3 h4 h5
    have e0 : ν 0 = v0 := h4 0 (by decide)
    have d0 : μ 0 = r0 := h5 0 (by decide)
    subst e0
    subst d0
    replace hq : q ∈ u_fkA := hq
    unfold u_fkA at hq
    simp only [List.mem_cons, List.not_mem_nil, or_false] at hq
    rcases hq with rfl
    · have hst2 : eW E 0 0 L' f' 14 [(0, .ref (μ 0)), (1, .int (Int32.ofInt ((-1) + 0))), (2, .int (Int32.ofInt (0 + (1 * ν 0 + 0))))] [.int (Int32.ofInt (0 + 0))] := ?_
      · exact hst2
      try simp only [Int.zero_add, Int.one_mul, Int.add_zero]
      exact k14 K' B' L' f'   h1 h2 (h3.1 0) (h3.2.2.2.1 0 200 rfl) (by simpa only [xv, xvT, Int.zero_add, Int.one_mul, Int.add_zero] using (mokA h1 (show (zkd 201).1 = 2 by decide) (by decide) (h3.2.2.2.2.1 _ (List.mem_of_getElem? (i := 0) rfl))))

/-! fkB: from 0 to [39] -/
def w_fkB : TP := ([(0, (2, 0, (0, []))), (1, (0, 0, (0, [(1, 0)]))), (2, (0, 0, (0, [(1, 1)])))], [], ([((-2147483648), (-2)), (0, 1)], [], [], [200], [], [], []), [], [])
def u_fkB : List (Nat × TP × EX × Nat × Nat) := [(39, ([(0, (2, 0, (0, []))), (1, (0, 0, (0, [(1, 0)]))), (2, (0, 0, (0, [(1, 1)])))], [(0, 0, ((-2), []))], ([((-2147483648), (-2)), (0, 1)], [], [], [200], [], [], []), [], []), ((-1), []), 0, 0)]
def D_fkB : DT := (mkD iX12_forecast fX12 lX12 kX12 kkX12 427 [(19, [348])] (w_fkB, [], [], 2, 0, 0, 3) false 3 u_fkB)
theorem k_fkB : chkS D_fkB 4000 0 0 0 = true := by decide +kernel
theorem s_fkB {X0 : zC0} {E : zCx} (H : ∀ j, j < 427 → CMj X0 j) (hE : zOk E X0 RX12 cX12_forecast 3 (zrm 2 0 0)) {K : Nat → Nat} {B : Int} {L : List Nat} {f : Nat → va_E} (hh : hok X0.2.2.1 K B L f) {v0 v1 : Int} {r0 : Nat} (hb0 : (-2147483648) ≤ v0 ∧ v0 ≤ (-2)) (hb1 : 0 ≤ v1 ∧ v1 ≤ 1) (hr0 : r0 ∈ L ∧ K r0 = 200) (k39 : ∀ (K' : Nat → Nat) (B' : Int) (L' : List Nat) (f' : Nat → va_E), hok X0.2.2.1 K' B' L' f' → extC [] K B L f K' B' L' f' → ((-2147483648) ≤ v0 ∧ v0 ≤ (-2)) → (0 ≤ v1 ∧ v1 ≤ 1) → (r0 ∈ L' ∧ K' r0 = 200) → eW E 0 0 L' f' 39 [(0, .ref r0), (1, .int (Int32.ofInt v0)), (2, .int (Int32.ofInt v1))] [.int (Int32.ofInt (-2))]) : eW E 0 0 L f 0 [(0, .ref r0), (1, .int (Int32.ofInt v0)), (2, .int (Int32.ofInt v1))] [] := by
  obtain ⟨l0, D0, cy0, ax0⟩ := X0
  have hraw : eW E 0 0 L f 0 [(0, .ref r0), (1, .int (Int32.ofInt (0 + (1 * v0 + 0)))), (2, .int (Int32.ofInt (0 + (1 * v1 + 0))))] [] := ?_
  · simpa only [Int.zero_add, Int.one_mul, Int.add_zero] using hraw
  refine seg_ok (D := D_fkB) (νi := fun i => [v0, v1].getD i 0) (μi := fun i => [r0].getD i 0) k_fkB hE (mk_ok (ins := iX12_forecast) jX12_forecast fX12_ok lX12_ok kX12_ok kkX12_ok H) (by decide) rfl rfl rfl rfl hh ?_ ?_
  · refine ⟨(eok_of (fun i q hq => ?_) (fun i hi => ?_)), fa0, fa0, ?_, fa0, fa0, fa0⟩
    · match i, hq with
      | 0, hq => cases hq; exact hb0
      | 1, hq => cases hq; exact hb1
      | i + 2, hq => cases hq
    · match i, hi with
      | 0, hi => exact absurd hi (by decide)
      | 1, hi => exact absurd hi (by decide)
      | i + 2, _ => rfl
    · intro i k hk
      match i, hk with
      | 0, hk => cases hk; exact hr0
      | i + 1, hk => cases hk
  · intro q hq hst K' B' L' f' ν μ h1 h2 h3 h4 h5
    have e0 : ν 0 = v0 := h4 0 (by decide)
    have e1 : ν 1 = v1 := h4 1 (by decide)
    have d0 : μ 0 = r0 := h5 0 (by decide)
    subst e0
    subst e1
    subst d0
    replace hq : q ∈ u_fkB := hq
    unfold u_fkB at hq
    simp only [List.mem_cons, List.not_mem_nil, or_false] at hq
    rcases hq with rfl
    · have hst2 : eW E 0 0 L' f' 39 [(0, .ref (μ 0)), (1, .int (Int32.ofInt (0 + (1 * ν 0 + 0)))), (2, .int (Int32.ofInt (0 + (1 * ν 1 + 0))))] [.int (Int32.ofInt ((-2) + 0))] := ?_
      · exact hst2
      try simp only [Int.zero_add, Int.one_mul, Int.add_zero]
      exact k39 K' B' L' f'   h1 h2 (h3.1 0) (h3.1 1) (h3.2.2.2.1 0 200 rfl)

/-! fkC: from 0 to [39] -/
def w_fkC : TP := ([(0, (2, 0, (0, []))), (1, (0, 0, (0, [(1, 0)]))), (2, (0, 0, (0, [(1, 1)])))], [], ([(10, 2147483647), (0, 1)], [], [], [200], [], [], []), [], [])
def u_fkC : List (Nat × TP × EX × Nat × Nat) := [(39, ([(0, (2, 0, (0, []))), (1, (0, 0, (0, [(1, 0)]))), (2, (0, 0, (0, [(1, 1)])))], [(0, 0, ((-2), []))], ([(10, 2147483647), (0, 1)], [], [], [200], [], [], []), [], []), ((-1), []), 0, 0)]
def D_fkC : DT := (mkD iX12_forecast fX12 lX12 kX12 kkX12 427 [(19, [348])] (w_fkC, [], [], 2, 0, 0, 3) false 3 u_fkC)
theorem k_fkC : chkS D_fkC 4000 0 0 0 = true := by decide +kernel
theorem s_fkC {X0 : zC0} {E : zCx} (H : ∀ j, j < 427 → CMj X0 j) (hE : zOk E X0 RX12 cX12_forecast 3 (zrm 2 0 0)) {K : Nat → Nat} {B : Int} {L : List Nat} {f : Nat → va_E} (hh : hok X0.2.2.1 K B L f) {v0 v1 : Int} {r0 : Nat} (hb0 : 10 ≤ v0 ∧ v0 ≤ 2147483647) (hb1 : 0 ≤ v1 ∧ v1 ≤ 1) (hr0 : r0 ∈ L ∧ K r0 = 200) (k39 : ∀ (K' : Nat → Nat) (B' : Int) (L' : List Nat) (f' : Nat → va_E), hok X0.2.2.1 K' B' L' f' → extC [] K B L f K' B' L' f' → (10 ≤ v0 ∧ v0 ≤ 2147483647) → (0 ≤ v1 ∧ v1 ≤ 1) → (r0 ∈ L' ∧ K' r0 = 200) → eW E 0 0 L' f' 39 [(0, .ref r0), (1, .int (Int32.ofInt v0)), (2, .int (Int32.ofInt v1))] [.int (Int32.ofInt (-2))]) : eW E 0 0 L f 0 [(0, .ref r0), (1, .int (Int32.ofInt v0)), (2, .int (Int32.ofInt v1))] [] := by
  obtain ⟨l0, D0, cy0, ax0⟩ := X0
  have hraw : eW E 0 0 L f 0 [(0, .ref r0), (1, .int (Int32.ofInt (0 + (1 * v0 + 0)))), (2, .int (Int32.ofInt (0 + (1 * v1 + 0))))] [] := ?_
  · simpa only [Int.zero_add, Int.one_mul, Int.add_zero] using hraw
  refine seg_ok (D := D_fkC) (νi := fun i => [v0, v1].getD i 0) (μi := fun i => [r0].getD i 0) k_fkC hE (mk_ok (ins := iX12_forecast) jX12_forecast fX12_ok lX12_ok kX12_ok kkX12_ok H) (by decide) rfl rfl rfl rfl hh ?_ ?_
  · refine ⟨(eok_of (fun i q hq => ?_) (fun i hi => ?_)), fa0, fa0, ?_, fa0, fa0, fa0⟩
    · match i, hq with
      | 0, hq => cases hq; exact hb0
      | 1, hq => cases hq; exact hb1
      | i + 2, hq => cases hq
    · match i, hi with
      | 0, hi => exact absurd hi (by decide)
      | 1, hi => exact absurd hi (by decide)
      | i + 2, _ => rfl
    · intro i k hk
      match i, hk with
      | 0, hk => cases hk; exact hr0
      | i + 1, hk => cases hk
  · intro q hq hst K' B' L' f' ν μ h1 h2 h3 h4 h5
    have e0 : ν 0 = v0 := h4 0 (by decide)
    have e1 : ν 1 = v1 := h4 1 (by decide)
    have d0 : μ 0 = r0 := h5 0 (by decide)
    subst e0
    subst e1
    subst d0
    replace hq : q ∈ u_fkC := hq
    unfold u_fkC at hq
    simp only [List.mem_cons, List.not_mem_nil, or_false] at hq
    rcases hq with rfl
    · have hst2 : eW E 0 0 L' f' 39 [(0, .ref (μ 0)), (1, .int (Int32.ofInt (0 + (1 * ν 0 + 0)))), (2, .int (Int32.ofInt (0 + (1 * ν 1 + 0))))] [.int (Int32.ofInt ((-2) + 0))] := ?_
      · exact hst2
      try simp only [Int.zero_add, Int.one_mul, Int.add_zero]
      exact k39 K' B' L' f'   h1 h2 (h3.1 0) (h3.1 1) (h3.2.2.2.1 0 200 rfl)

/-! fkD: from 0 to [39] -/
def w_fkD : TP := ([(0, (2, 0, (0, []))), (1, (0, 0, (0, [(1, 0)]))), (2, (0, 0, (0, [(1, 1)])))], [], ([(0, 9), (0, 1)], [], [], [200], [((201, (11, [])), (12, []))], [], []), [], [])
def u_fkD : List (Nat × TP × EX × Nat × Nat) := [(39, ([(0, (2, 0, (0, []))), (1, (0, 0, (0, [(1, 0)]))), (2, (0, 0, (0, [(1, 1)])))], [(0, 0, ((-2), []))], ([(0, 9), (0, 1)], [], [], [200], [((201, (11, [])), (12, []))], [], []), [], []), ((-1), []), 0, 0)]
def D_fkD : DT := (mkD iX12_forecast fX12 lX12 kX12 kkX12 427 [(19, [348])] (w_fkD, [], [], 2, 0, 0, 3) false 3 u_fkD)
theorem k_fkD : chkS D_fkD 4000 0 0 0 = true := by decide +kernel
theorem s_fkD {X0 : zC0} {E : zCx} (H : ∀ j, j < 427 → CMj X0 j) (hE : zOk E X0 RX12 cX12_forecast 3 (zrm 2 0 0)) {K : Nat → Nat} {B : Int} {L : List Nat} {f : Nat → va_E} (hh : hok X0.2.2.1 K B L f) {v0 v1 : Int} {r0 : Nat} (hb0 : 0 ≤ v0 ∧ v0 ≤ 9) (hb1 : 0 ≤ v1 ∧ v1 ≤ 1) (hr0 : r0 ∈ L ∧ K r0 = 200) (hm0 : (∀ b ∈ L, K b = 201 → (0 : Int) ≤ 11 ∧ gi (f b) ((11 : Int)).toNat = 12)) (k39 : ∀ (K' : Nat → Nat) (B' : Int) (L' : List Nat) (f' : Nat → va_E), hok X0.2.2.1 K' B' L' f' → extC [] K B L f K' B' L' f' → (0 ≤ v0 ∧ v0 ≤ 9) → (0 ≤ v1 ∧ v1 ≤ 1) → (r0 ∈ L' ∧ K' r0 = 200) → (∀ b ∈ L', K' b = 201 → (0 : Int) ≤ 11 ∧ gi (f' b) ((11 : Int)).toNat = 12) → eW E 0 0 L' f' 39 [(0, .ref r0), (1, .int (Int32.ofInt v0)), (2, .int (Int32.ofInt v1))] [.int (Int32.ofInt (-2))]) : eW E 0 0 L f 0 [(0, .ref r0), (1, .int (Int32.ofInt v0)), (2, .int (Int32.ofInt v1))] [] := by
  obtain ⟨l0, D0, cy0, ax0⟩ := X0
  have hraw : eW E 0 0 L f 0 [(0, .ref r0), (1, .int (Int32.ofInt (0 + (1 * v0 + 0)))), (2, .int (Int32.ofInt (0 + (1 * v1 + 0))))] [] := ?_
  · simpa only [Int.zero_add, Int.one_mul, Int.add_zero] using hraw
  have rm0 : (∀ b ∈ L, K b = 201 → (0 : Int) ≤ (11 + 0) ∧ gi (f b) (((11 + 0) : Int)).toNat = (12 + 0)) := by simpa only [Int.zero_add, Int.one_mul, Int.add_zero] using hm0
  refine seg_ok (D := D_fkD) (νi := fun i => [v0, v1].getD i 0) (μi := fun i => [r0].getD i 0) k_fkD hE (mk_ok (ins := iX12_forecast) jX12_forecast fX12_ok lX12_ok kX12_ok kkX12_ok H) (by decide) rfl rfl rfl rfl hh ?_ ?_
  · refine ⟨(eok_of (fun i q hq => ?_) (fun i hi => ?_)), fa0, fa0, ?_, (fa_cons (Amok hh (show (zkd 201).1 = 2 by decide) (by decide) rm0) fa0), fa0, fa0⟩
    · match i, hq with
      | 0, hq => cases hq; exact hb0
      | 1, hq => cases hq; exact hb1
      | i + 2, hq => cases hq
    · match i, hi with
      | 0, hi => exact absurd hi (by decide)
      | 1, hi => exact absurd hi (by decide)
      | i + 2, _ => rfl
    · intro i k hk
      match i, hk with
      | 0, hk => cases hk; exact hr0
      | i + 1, hk => cases hk
  · intro q hq hst K' B' L' f' ν μ h1 h2 h3 h4 h5
    have e0 : ν 0 = v0 := h4 0 (by decide)
    have e1 : ν 1 = v1 := h4 1 (by decide)
    have d0 : μ 0 = r0 := h5 0 (by decide)
    subst e0
    subst e1
    subst d0
    replace hq : q ∈ u_fkD := hq
    unfold u_fkD at hq
    simp only [List.mem_cons, List.not_mem_nil, or_false] at hq
    rcases hq with rfl
    · have hst2 : eW E 0 0 L' f' 39 [(0, .ref (μ 0)), (1, .int (Int32.ofInt (0 + (1 * ν 0 + 0)))), (2, .int (Int32.ofInt (0 + (1 * ν 1 + 0))))] [.int (Int32.ofInt ((-2) + 0))] := ?_
      · exact hst2
      try simp only [Int.zero_add, Int.one_mul, Int.add_zero]
      exact k39 K' B' L' f'   h1 h2 (h3.1 0) (h3.1 1) (h3.2.2.2.1 0 200 rfl) (by simpa only [xv, xvT, Int.zero_add, Int.one_mul, Int.add_zero] using (mokA h1 (show (zkd 201).1 = 2 by decide) (by decide) (h3.2.2.2.2.1 _ (List.mem_of_getElem? (i := 0) rfl))))

/-! fkE: from 0 to [58] -/
def w_fkE : TP := ([(0, (2, 0, (0, []))), (1, (0, 0, (0, [(1, 0)]))), (2, (0, 0, (0, [(1, 1)])))], [], ([(0, 9), (0, 1), (0, 11)], [], [], [200], [((201, (11, [])), (0, [(1, 2)]))], [], []), [], [])
def u_fkE : List (Nat × TP × EX × Nat × Nat) := [(58, ([(0, (2, 0, (0, []))), (1, (0, 0, (0, [(1, 0)]))), (2, (0, 0, (0, [(1, 1)])))], [(0, 0, (0, [(1, 0)])), (0, 0, (132, [(2, 2)])), (2, 1, (0, []))], ([(0, 9), (0, 1), (0, 11)], [], [], [200, 201], [((201, (11, [])), (0, [(1, 2)]))], [], []), [], [(1, 2)]), ((-1), []), 0, 0)]
def D_fkE : DT := (mkD iX12_forecast fX12 lX12 kX12 kkX12 427 [(19, [348])] (w_fkE, [], [], 2, 0, 0, 3) false 3 u_fkE)
theorem k_fkE : chkS D_fkE 4000 0 0 0 = true := by decide +kernel
theorem s_fkE {X0 : zC0} {E : zCx} (H : ∀ j, j < 427 → CMj X0 j) (hE : zOk E X0 RX12 cX12_forecast 3 (zrm 2 0 0)) {K : Nat → Nat} {B : Int} {L : List Nat} {f : Nat → va_E} (hh : hok X0.2.2.1 K B L f) {v0 v1 v2 : Int} {r0 : Nat} (hb0 : 0 ≤ v0 ∧ v0 ≤ 9) (hb1 : 0 ≤ v1 ∧ v1 ≤ 1) (hb2 : 0 ≤ v2 ∧ v2 ≤ 11) (hr0 : r0 ∈ L ∧ K r0 = 200) (hm0 : (∀ b ∈ L, K b = 201 → (0 : Int) ≤ 11 ∧ gi (f b) ((11 : Int)).toNat = v2)) (k58 : ∀ (K' : Nat → Nat) (B' : Int) (L' : List Nat) (f' : Nat → va_E) (r1 : Nat), hok X0.2.2.1 K' B' L' f' → extC [] K B L f K' B' L' f' → (0 ≤ v0 ∧ v0 ≤ 9) → (0 ≤ v1 ∧ v1 ≤ 1) → (0 ≤ v2 ∧ v2 ≤ 11) → (r0 ∈ L' ∧ K' r0 = 200) → (r1 ∈ L' ∧ K' r1 = 201) → (∀ b ∈ L', K' b = 201 → (0 : Int) ≤ 11 ∧ gi (f' b) ((11 : Int)).toNat = v2) → eW E 0 0 L' f' 58 [(0, .ref r0), (1, .int (Int32.ofInt v0)), (2, .int (Int32.ofInt v1))] [.int (Int32.ofInt v0), .int (Int32.ofInt (132 + (2 * v2))), .ref r1]) : eW E 0 0 L f 0 [(0, .ref r0), (1, .int (Int32.ofInt v0)), (2, .int (Int32.ofInt v1))] [] := by
  obtain ⟨l0, D0, cy0, ax0⟩ := X0
  have hraw : eW E 0 0 L f 0 [(0, .ref r0), (1, .int (Int32.ofInt (0 + (1 * v0 + 0)))), (2, .int (Int32.ofInt (0 + (1 * v1 + 0))))] [] := ?_
  · simpa only [Int.zero_add, Int.one_mul, Int.add_zero] using hraw
  have rm0 : (∀ b ∈ L, K b = 201 → (0 : Int) ≤ (11 + 0) ∧ gi (f b) (((11 + 0) : Int)).toNat = (0 + (1 * v2 + 0))) := by simpa only [Int.zero_add, Int.one_mul, Int.add_zero] using hm0
  refine seg_ok (D := D_fkE) (νi := fun i => [v0, v1, v2].getD i 0) (μi := fun i => [r0].getD i 0) k_fkE hE (mk_ok (ins := iX12_forecast) jX12_forecast fX12_ok lX12_ok kX12_ok kkX12_ok H) (by decide) rfl rfl rfl rfl hh ?_ ?_
  · refine ⟨(eok_of (fun i q hq => ?_) (fun i hi => ?_)), fa0, fa0, ?_, (fa_cons (Amok hh (show (zkd 201).1 = 2 by decide) (by decide) rm0) fa0), fa0, fa0⟩
    · match i, hq with
      | 0, hq => cases hq; exact hb0
      | 1, hq => cases hq; exact hb1
      | 2, hq => cases hq; exact hb2
      | i + 3, hq => cases hq
    · match i, hi with
      | 0, hi => exact absurd hi (by decide)
      | 1, hi => exact absurd hi (by decide)
      | 2, hi => exact absurd hi (by decide)
      | i + 3, _ => rfl
    · intro i k hk
      match i, hk with
      | 0, hk => cases hk; exact hr0
      | i + 1, hk => cases hk
  · intro q hq hst K' B' L' f' ν μ h1 h2 h3 h4 h5
    have e0 : ν 0 = v0 := h4 0 (by decide)
    have e1 : ν 1 = v1 := h4 1 (by decide)
    have e2 : ν 2 = v2 := h4 2 (by decide)
    have d0 : μ 0 = r0 := h5 0 (by decide)
    subst e0
    subst e1
    subst e2
    subst d0
    replace hq : q ∈ u_fkE := hq
    unfold u_fkE at hq
    simp only [List.mem_cons, List.not_mem_nil, or_false] at hq
    rcases hq with rfl
    · have hst2 : eW E 0 0 L' f' 58 [(0, .ref (μ 0)), (1, .int (Int32.ofInt (0 + (1 * ν 0 + 0)))), (2, .int (Int32.ofInt (0 + (1 * ν 1 + 0))))] [.int (Int32.ofInt (0 + (1 * ν 0 + 0))), .int (Int32.ofInt (132 + (2 * ν 2 + 0))), .ref (μ 1)] := ?_
      · exact hst2
      try simp only [Int.zero_add, Int.one_mul, Int.add_zero]
      exact k58 K' B' L' f'  (μ 1) h1 h2 (h3.1 0) (h3.1 1) (h3.1 2) (h3.2.2.2.1 0 200 rfl) (h3.2.2.2.1 1 201 rfl) (by simpa only [xv, xvT, Int.zero_add, Int.one_mul, Int.add_zero] using (mokA h1 (show (zkd 201).1 = 2 by decide) (by decide) (h3.2.2.2.2.1 _ (List.mem_of_getElem? (i := 0) rfl))))

/-! fk590: from 59 to [87] -/
def w_fk590 : TP := ([(0, (2, 0, (0, []))), (1, (0, 0, (0, [(1, 0)]))), (2, (0, 0, (0, [])))], [], ([(0, 9), (0, 11)], [], [], [200], [((201, (11, [])), (0, [(1, 1)]))], [], []), [], [])
def u_fk590 : List (Nat × TP × EX × Nat × Nat) := [(87, ([(0, (2, 0, (0, []))), (1, (0, 0, (0, [(1, 0)]))), (2, (0, 0, (0, [])))], [(0, 0, (0, [])), (0, 0, (133, [(2, 1)])), (2, 1, (0, []))], ([(0, 9), (0, 11)], [], [], [200, 201], [((201, (11, [])), (0, [(1, 1)]))], [], []), [], [(1, 2)]), ((-1), []), 0, 0)]
def D_fk590 : DT := (mkD iX12_forecast fX12 lX12 kX12 kkX12 427 [] (w_fk590, [], [], 2, 0, 0, 3) false 3 u_fk590)
theorem k_fk590 : chkS D_fk590 4000 0 0 59 = true := by decide +kernel
theorem s_fk590 {X0 : zC0} {E : zCx} (H : ∀ j, j < 427 → CMj X0 j) (hE : zOk E X0 RX12 cX12_forecast 3 (zrm 2 0 0)) {K : Nat → Nat} {B : Int} {L : List Nat} {f : Nat → va_E} (hh : hok X0.2.2.1 K B L f) {v0 v1 : Int} {r0 : Nat} (hb0 : 0 ≤ v0 ∧ v0 ≤ 9) (hb1 : 0 ≤ v1 ∧ v1 ≤ 11) (hr0 : r0 ∈ L ∧ K r0 = 200) (hm0 : (∀ b ∈ L, K b = 201 → (0 : Int) ≤ 11 ∧ gi (f b) ((11 : Int)).toNat = v1)) (k87 : ∀ (K' : Nat → Nat) (B' : Int) (L' : List Nat) (f' : Nat → va_E) (r1 : Nat), hok X0.2.2.1 K' B' L' f' → extC [] K B L f K' B' L' f' → (0 ≤ v0 ∧ v0 ≤ 9) → (0 ≤ v1 ∧ v1 ≤ 11) → (r0 ∈ L' ∧ K' r0 = 200) → (r1 ∈ L' ∧ K' r1 = 201) → (∀ b ∈ L', K' b = 201 → (0 : Int) ≤ 11 ∧ gi (f' b) ((11 : Int)).toNat = v1) → eW E 0 0 L' f' 87 [(0, .ref r0), (1, .int (Int32.ofInt v0)), (2, .int (Int32.ofInt 0))] [.int (Int32.ofInt 0), .int (Int32.ofInt (133 + (2 * v1))), .ref r1]) : eW E 0 0 L f 59 [(0, .ref r0), (1, .int (Int32.ofInt v0)), (2, .int (Int32.ofInt 0))] [] := by
  obtain ⟨l0, D0, cy0, ax0⟩ := X0
  have hraw : eW E 0 0 L f 59 [(0, .ref r0), (1, .int (Int32.ofInt (0 + (1 * v0 + 0)))), (2, .int (Int32.ofInt (0 + 0)))] [] := ?_
  · simpa only [Int.zero_add, Int.one_mul, Int.add_zero] using hraw
  have rm0 : (∀ b ∈ L, K b = 201 → (0 : Int) ≤ (11 + 0) ∧ gi (f b) (((11 + 0) : Int)).toNat = (0 + (1 * v1 + 0))) := by simpa only [Int.zero_add, Int.one_mul, Int.add_zero] using hm0
  refine seg_ok (D := D_fk590) (νi := fun i => [v0, v1].getD i 0) (μi := fun i => [r0].getD i 0) k_fk590 hE (mk_ok (ins := iX12_forecast) jX12_forecast fX12_ok lX12_ok kX12_ok kkX12_ok H) (by decide) rfl rfl rfl rfl hh ?_ ?_
  · refine ⟨(eok_of (fun i q hq => ?_) (fun i hi => ?_)), fa0, fa0, ?_, (fa_cons (Amok hh (show (zkd 201).1 = 2 by decide) (by decide) rm0) fa0), fa0, fa0⟩
    · match i, hq with
      | 0, hq => cases hq; exact hb0
      | 1, hq => cases hq; exact hb1
      | i + 2, hq => cases hq
    · match i, hi with
      | 0, hi => exact absurd hi (by decide)
      | 1, hi => exact absurd hi (by decide)
      | i + 2, _ => rfl
    · intro i k hk
      match i, hk with
      | 0, hk => cases hk; exact hr0
      | i + 1, hk => cases hk
  · intro q hq hst K' B' L' f' ν μ h1 h2 h3 h4 h5
    have e0 : ν 0 = v0 := h4 0 (by decide)
    have e1 : ν 1 = v1 := h4 1 (by decide)
    have d0 : μ 0 = r0 := h5 0 (by decide)
    subst e0
    subst e1
    subst d0
    replace hq : q ∈ u_fk590 := hq
    unfold u_fk590 at hq
    simp only [List.mem_cons, List.not_mem_nil, or_false] at hq
    rcases hq with rfl
    · have hst2 : eW E 0 0 L' f' 87 [(0, .ref (μ 0)), (1, .int (Int32.ofInt (0 + (1 * ν 0 + 0)))), (2, .int (Int32.ofInt (0 + 0)))] [.int (Int32.ofInt (0 + 0)), .int (Int32.ofInt (133 + (2 * ν 1 + 0))), .ref (μ 1)] := ?_
      · exact hst2
      try simp only [Int.zero_add, Int.one_mul, Int.add_zero]
      exact k87 K' B' L' f'  (μ 1) h1 h2 (h3.1 0) (h3.1 1) (h3.2.2.2.1 0 200 rfl) (h3.2.2.2.1 1 201 rfl) (by simpa only [xv, xvT, Int.zero_add, Int.one_mul, Int.add_zero] using (mokA h1 (show (zkd 201).1 = 2 by decide) (by decide) (h3.2.2.2.2.1 _ (List.mem_of_getElem? (i := 0) rfl))))

/-! fk591: from 59 to [87] -/
def w_fk591 : TP := ([(0, (2, 0, (0, []))), (1, (0, 0, (0, [(1, 0)]))), (2, (0, 0, (1, [])))], [], ([(0, 9), (0, 11)], [], [], [200], [((201, (11, [])), (0, [(1, 1)]))], [], []), [], [])
def u_fk591 : List (Nat × TP × EX × Nat × Nat) := [(87, ([(0, (2, 0, (0, []))), (1, (0, 0, (0, [(1, 0)]))), (2, (0, 0, (1, [])))], [(0, 0, (1, [])), (0, 0, (133, [(2, 1)])), (2, 1, (0, []))], ([(0, 9), (0, 11)], [], [], [200, 201], [((201, (11, [])), (0, [(1, 1)]))], [], []), [], [(1, 2)]), ((-1), []), 0, 0)]
def D_fk591 : DT := (mkD iX12_forecast fX12 lX12 kX12 kkX12 427 [] (w_fk591, [], [], 2, 0, 0, 3) false 3 u_fk591)
theorem k_fk591 : chkS D_fk591 4000 0 0 59 = true := by decide +kernel
theorem s_fk591 {X0 : zC0} {E : zCx} (H : ∀ j, j < 427 → CMj X0 j) (hE : zOk E X0 RX12 cX12_forecast 3 (zrm 2 0 0)) {K : Nat → Nat} {B : Int} {L : List Nat} {f : Nat → va_E} (hh : hok X0.2.2.1 K B L f) {v0 v1 : Int} {r0 : Nat} (hb0 : 0 ≤ v0 ∧ v0 ≤ 9) (hb1 : 0 ≤ v1 ∧ v1 ≤ 11) (hr0 : r0 ∈ L ∧ K r0 = 200) (hm0 : (∀ b ∈ L, K b = 201 → (0 : Int) ≤ 11 ∧ gi (f b) ((11 : Int)).toNat = v1)) (k87 : ∀ (K' : Nat → Nat) (B' : Int) (L' : List Nat) (f' : Nat → va_E) (r1 : Nat), hok X0.2.2.1 K' B' L' f' → extC [] K B L f K' B' L' f' → (0 ≤ v0 ∧ v0 ≤ 9) → (0 ≤ v1 ∧ v1 ≤ 11) → (r0 ∈ L' ∧ K' r0 = 200) → (r1 ∈ L' ∧ K' r1 = 201) → (∀ b ∈ L', K' b = 201 → (0 : Int) ≤ 11 ∧ gi (f' b) ((11 : Int)).toNat = v1) → eW E 0 0 L' f' 87 [(0, .ref r0), (1, .int (Int32.ofInt v0)), (2, .int (Int32.ofInt 1))] [.int (Int32.ofInt 1), .int (Int32.ofInt (133 + (2 * v1))), .ref r1]) : eW E 0 0 L f 59 [(0, .ref r0), (1, .int (Int32.ofInt v0)), (2, .int (Int32.ofInt 1))] [] := by
  obtain ⟨l0, D0, cy0, ax0⟩ := X0
  have hraw : eW E 0 0 L f 59 [(0, .ref r0), (1, .int (Int32.ofInt (0 + (1 * v0 + 0)))), (2, .int (Int32.ofInt (1 + 0)))] [] := ?_
  · simpa only [Int.zero_add, Int.one_mul, Int.add_zero] using hraw
  have rm0 : (∀ b ∈ L, K b = 201 → (0 : Int) ≤ (11 + 0) ∧ gi (f b) (((11 + 0) : Int)).toNat = (0 + (1 * v1 + 0))) := by simpa only [Int.zero_add, Int.one_mul, Int.add_zero] using hm0
  refine seg_ok (D := D_fk591) (νi := fun i => [v0, v1].getD i 0) (μi := fun i => [r0].getD i 0) k_fk591 hE (mk_ok (ins := iX12_forecast) jX12_forecast fX12_ok lX12_ok kX12_ok kkX12_ok H) (by decide) rfl rfl rfl rfl hh ?_ ?_
  · refine ⟨(eok_of (fun i q hq => ?_) (fun i hi => ?_)), fa0, fa0, ?_, (fa_cons (Amok hh (show (zkd 201).1 = 2 by decide) (by decide) rm0) fa0), fa0, fa0⟩
    · match i, hq with
      | 0, hq => cases hq; exact hb0
      | 1, hq => cases hq; exact hb1
      | i + 2, hq => cases hq
    · match i, hi with
      | 0, hi => exact absurd hi (by decide)
      | 1, hi => exact absurd hi (by decide)
      | i + 2, _ => rfl
    · intro i k hk
      match i, hk with
      | 0, hk => cases hk; exact hr0
      | i + 1, hk => cases hk
  · intro q hq hst K' B' L' f' ν μ h1 h2 h3 h4 h5
    have e0 : ν 0 = v0 := h4 0 (by decide)
    have e1 : ν 1 = v1 := h4 1 (by decide)
    have d0 : μ 0 = r0 := h5 0 (by decide)
    subst e0
    subst e1
    subst d0
    replace hq : q ∈ u_fk591 := hq
    unfold u_fk591 at hq
    simp only [List.mem_cons, List.not_mem_nil, or_false] at hq
    rcases hq with rfl
    · have hst2 : eW E 0 0 L' f' 87 [(0, .ref (μ 0)), (1, .int (Int32.ofInt (0 + (1 * ν 0 + 0)))), (2, .int (Int32.ofInt (1 + 0)))] [.int (Int32.ofInt (1 + 0)), .int (Int32.ofInt (133 + (2 * ν 1 + 0))), .ref (μ 1)] := ?_
      · exact hst2
      try simp only [Int.zero_add, Int.one_mul, Int.add_zero]
      exact k87 K' B' L' f'  (μ 1) h1 h2 (h3.1 0) (h3.1 1) (h3.2.2.2.1 0 200 rfl) (h3.2.2.2.1 1 201 rfl) (by simpa only [xv, xvT, Int.zero_add, Int.one_mul, Int.add_zero] using (mokA h1 (show (zkd 201).1 = 2 by decide) (by decide) (h3.2.2.2.2.1 _ (List.mem_of_getElem? (i := 0) rfl))))

/-! fk88: from 88 to [106] -/
def w_fk88 : TP := ([(0, (2, 0, (0, []))), (1, (0, 0, (0, [(1, 0)]))), (2, (0, 0, (0, [(1, 1)])))], [], ([(0, 9), (0, 1), (0, 11)], [], [], [200], [((201, (11, [])), (0, [(1, 2)]))], [], []), [], [])
def u_fk88 : List (Nat × TP × EX × Nat × Nat) := [(106, ([(0, (2, 0, (0, []))), (1, (0, 0, (0, [(1, 0)]))), (2, (0, 0, (0, [(1, 1)])))], [(0, 0, (1, [(1, 2)]))], ([(0, 9), (0, 1), (0, 11)], [], [], [200], [((201, (11, [])), (1, [(1, 2)]))], [], []), [], []), ((-1), []), 0, 0)]
def D_fk88 : DT := (mkD iX12_forecast fX12 lX12 kX12 kkX12 427 [] (w_fk88, [(201, 11)], [], 2, 0, 0, 3) false 3 u_fk88)
theorem k_fk88 : chkS D_fk88 4000 0 0 88 = true := by decide +kernel
theorem s_fk88 {X0 : zC0} {E : zCx} (H : ∀ j, j < 427 → CMj X0 j) (hE : zOk E X0 RX12 cX12_forecast 3 (zrm 2 0 0)) {K : Nat → Nat} {B : Int} {L : List Nat} {f : Nat → va_E} (hh : hok X0.2.2.1 K B L f) {v0 v1 v2 : Int} {r0 : Nat} (hb0 : 0 ≤ v0 ∧ v0 ≤ 9) (hb1 : 0 ≤ v1 ∧ v1 ≤ 1) (hb2 : 0 ≤ v2 ∧ v2 ≤ 11) (hr0 : r0 ∈ L ∧ K r0 = 200) (hm0 : (∀ b ∈ L, K b = 201 → (0 : Int) ≤ 11 ∧ gi (f b) ((11 : Int)).toNat = v2)) (k106 : ∀ (K' : Nat → Nat) (B' : Int) (L' : List Nat) (f' : Nat → va_E), hok X0.2.2.1 K' B' L' f' → extC [(201, 11)] K B L f K' B' L' f' → (0 ≤ v0 ∧ v0 ≤ 9) → (0 ≤ v1 ∧ v1 ≤ 1) → (0 ≤ v2 ∧ v2 ≤ 11) → (r0 ∈ L' ∧ K' r0 = 200) → (∀ b ∈ L', K' b = 201 → (0 : Int) ≤ 11 ∧ gi (f' b) ((11 : Int)).toNat = (1 + v2)) → eW E 0 0 L' f' 106 [(0, .ref r0), (1, .int (Int32.ofInt v0)), (2, .int (Int32.ofInt v1))] [.int (Int32.ofInt (1 + v2))]) : eW E 0 0 L f 88 [(0, .ref r0), (1, .int (Int32.ofInt v0)), (2, .int (Int32.ofInt v1))] [] := by
  obtain ⟨l0, D0, cy0, ax0⟩ := X0
  have hraw : eW E 0 0 L f 88 [(0, .ref r0), (1, .int (Int32.ofInt (0 + (1 * v0 + 0)))), (2, .int (Int32.ofInt (0 + (1 * v1 + 0))))] [] := ?_
  · simpa only [Int.zero_add, Int.one_mul, Int.add_zero] using hraw
  have rm0 : (∀ b ∈ L, K b = 201 → (0 : Int) ≤ (11 + 0) ∧ gi (f b) (((11 + 0) : Int)).toNat = (0 + (1 * v2 + 0))) := by simpa only [Int.zero_add, Int.one_mul, Int.add_zero] using hm0
  refine seg_ok (D := D_fk88) (νi := fun i => [v0, v1, v2].getD i 0) (μi := fun i => [r0].getD i 0) k_fk88 hE (mk_ok (ins := iX12_forecast) jX12_forecast fX12_ok lX12_ok kX12_ok kkX12_ok H) (by decide) rfl rfl rfl rfl hh ?_ ?_
  · refine ⟨(eok_of (fun i q hq => ?_) (fun i hi => ?_)), fa0, fa0, ?_, (fa_cons (Amok hh (show (zkd 201).1 = 2 by decide) (by decide) rm0) fa0), fa0, fa0⟩
    · match i, hq with
      | 0, hq => cases hq; exact hb0
      | 1, hq => cases hq; exact hb1
      | 2, hq => cases hq; exact hb2
      | i + 3, hq => cases hq
    · match i, hi with
      | 0, hi => exact absurd hi (by decide)
      | 1, hi => exact absurd hi (by decide)
      | 2, hi => exact absurd hi (by decide)
      | i + 3, _ => rfl
    · intro i k hk
      match i, hk with
      | 0, hk => cases hk; exact hr0
      | i + 1, hk => cases hk
  · intro q hq hst K' B' L' f' ν μ h1 h2 h3 h4 h5
    have e0 : ν 0 = v0 := h4 0 (by decide)
    have e1 : ν 1 = v1 := h4 1 (by decide)
    have e2 : ν 2 = v2 := h4 2 (by decide)
    have d0 : μ 0 = r0 := h5 0 (by decide)
    subst e0
    subst e1
    subst e2
    subst d0
    replace hq : q ∈ u_fk88 := hq
    unfold u_fk88 at hq
    simp only [List.mem_cons, List.not_mem_nil, or_false] at hq
    rcases hq with rfl
    · have hst2 : eW E 0 0 L' f' 106 [(0, .ref (μ 0)), (1, .int (Int32.ofInt (0 + (1 * ν 0 + 0)))), (2, .int (Int32.ofInt (0 + (1 * ν 1 + 0))))] [.int (Int32.ofInt (1 + (1 * ν 2 + 0)))] := ?_
      · exact hst2
      try simp only [Int.zero_add, Int.one_mul, Int.add_zero]
      exact k106 K' B' L' f'   h1 h2 (h3.1 0) (h3.1 1) (h3.1 2) (h3.2.2.2.1 0 200 rfl) (by simpa only [xv, xvT, Int.zero_add, Int.one_mul, Int.add_zero] using (mokA h1 (show (zkd 201).1 = 2 by decide) (by decide) (h3.2.2.2.2.1 _ (List.mem_of_getElem? (i := 0) rfl))))

/-! fcA: from 0 to [19] -/
def w_fcA : TP := ([(0, (2, 0, (0, []))), (1, (0, 0, ((-1), []))), (2, (0, 0, (0, [(1, 0)])))], [], ([(0, 1)], [], [], [197], [], [], []), [], [])
def u_fcA : List (Nat × TP × EX × Nat × Nat) := [(19, ([(0, (2, 0, (0, []))), (1, (0, 0, ((-1), []))), (2, (0, 0, (0, [(1, 0)]))), (3, (2, 1, (0, [])))], [(0, 0, (0, []))], ([(0, 1)], [], [], [197, 62], [((62, (1, [])), (0, []))], [], []), [], [(0, 3)]), ((-1), []), 0, 0)]
def D_fcA : DT := (mkD iX11_forecast fX11 lX11 kX11 kkX11 427 [] (w_fcA, [(62, 1)], [], 2, 0, 0, 3) false 4 u_fcA)
theorem k_fcA : chkS D_fcA 4000 0 0 0 = true := by decide +kernel
theorem s_fcA {X0 : zC0} {E : zCx} (H : ∀ j, j < 427 → CMj X0 j) (hE : zOk E X0 RX11 cX11_forecast 4 (zrm 2 0 0)) {K : Nat → Nat} {B : Int} {L : List Nat} {f : Nat → va_E} (hh : hok X0.2.2.1 K B L f) {v0 : Int} {r0 : Nat} (hb0 : 0 ≤ v0 ∧ v0 ≤ 1) (hr0 : r0 ∈ L ∧ K r0 = 197) (k19 : ∀ (K' : Nat → Nat) (B' : Int) (L' : List Nat) (f' : Nat → va_E) (r1 : Nat), hok X0.2.2.1 K' B' L' f' → extC [(62, 1)] K B L f K' B' L' f' → (0 ≤ v0 ∧ v0 ≤ 1) → (r0 ∈ L' ∧ K' r0 = 197) → (r1 ∈ L' ∧ K' r1 = 62) → (∀ b ∈ L', K' b = 62 → gi (f' b) 1 = 0) → eW E 0 0 L' f' 19 [(0, .ref r0), (1, .int (Int32.ofInt (-1))), (2, .int (Int32.ofInt v0)), (3, .ref r1)] [.int (Int32.ofInt 0)]) : eW E 0 0 L f 0 [(0, .ref r0), (1, .int (Int32.ofInt (-1))), (2, .int (Int32.ofInt v0))] [] := by
  obtain ⟨l0, D0, cy0, ax0⟩ := X0
  have hraw : eW E 0 0 L f 0 [(0, .ref r0), (1, .int (Int32.ofInt ((-1) + 0))), (2, .int (Int32.ofInt (0 + (1 * v0 + 0))))] [] := ?_
  · simpa only [Int.zero_add, Int.one_mul, Int.add_zero] using hraw
  refine seg_ok (D := D_fcA) (νi := fun i => [v0].getD i 0) (μi := fun i => [r0].getD i 0) k_fcA hE (mk_ok (ins := iX11_forecast) jX11_forecast fX11_ok lX11_ok kX11_ok kkX11_ok H) (by decide) rfl rfl rfl rfl hh ?_ ?_
  · refine ⟨(eok_of (fun i q hq => ?_) (fun i hi => ?_)), fa0, fa0, ?_, fa0, fa0, fa0⟩
    · match i, hq with
      | 0, hq => cases hq; exact hb0
      | i + 1, hq => cases hq
    · match i, hi with
      | 0, hi => exact absurd hi (by decide)
      | i + 1, _ => rfl
    · intro i k hk
      match i, hk with
      | 0, hk => cases hk; exact hr0
      | i + 1, hk => cases hk
  · intro q hq hst K' B' L' f' ν μ h1 h2 h3 h4 h5
    have e0 : ν 0 = v0 := h4 0 (by decide)
    have d0 : μ 0 = r0 := h5 0 (by decide)
    subst e0
    subst d0
    replace hq : q ∈ u_fcA := hq
    unfold u_fcA at hq
    simp only [List.mem_cons, List.not_mem_nil, or_false] at hq
    rcases hq with rfl
    · have hst2 : eW E 0 0 L' f' 19 [(0, .ref (μ 0)), (1, .int (Int32.ofInt ((-1) + 0))), (2, .int (Int32.ofInt (0 + (1 * ν 0 + 0)))), (3, .ref (μ 1))] [.int (Int32.ofInt (0 + 0))] := ?_
      · exact hst2
      try simp only [Int.zero_add, Int.one_mul, Int.add_zero]
      exact k19 K' B' L' f'  (μ 1) h1 h2 (h3.1 0) (h3.2.2.2.1 0 197 rfl) (h3.2.2.2.1 1 62 rfl) (by simpa only [xv, xvT, Int.zero_add, Int.one_mul, Int.add_zero] using (mokF h1 (show (zkd 62).1 = 1 by decide) (j := 1) rfl (by decide) (h3.2.2.2.2.1 _ (List.mem_of_getElem? (i := 0) rfl))))

/-! fcB: from 0 to [41] -/
def w_fcB : TP := ([(0, (2, 0, (0, []))), (1, (0, 0, (0, [(1, 0)]))), (2, (0, 0, (0, [(1, 1)])))], [], ([((-2147483648), (-2)), (0, 1)], [], [], [197], [], [], []), [], [])
def u_fcB : List (Nat × TP × EX × Nat × Nat) := [(41, ([(0, (2, 0, (0, []))), (1, (0, 0, (0, [(1, 0)]))), (2, (0, 0, (0, [(1, 1)]))), (3, (2, 1, (0, [])))], [(0, 0, ((-2), []))], ([((-2147483648), (-2)), (0, 1)], [], [], [197, 62], [], [], []), [], [(0, 3)]), ((-1), []), 0, 0)]
def D_fcB : DT := (mkD iX11_forecast fX11 lX11 kX11 kkX11 427 [(24, [71])] (w_fcB, [], [], 2, 0, 0, 3) false 4 u_fcB)
theorem k_fcB : chkS D_fcB 4000 0 0 0 = true := by decide +kernel
theorem s_fcB {X0 : zC0} {E : zCx} (H : ∀ j, j < 427 → CMj X0 j) (hE : zOk E X0 RX11 cX11_forecast 4 (zrm 2 0 0)) {K : Nat → Nat} {B : Int} {L : List Nat} {f : Nat → va_E} (hh : hok X0.2.2.1 K B L f) {v0 v1 : Int} {r0 : Nat} (hb0 : (-2147483648) ≤ v0 ∧ v0 ≤ (-2)) (hb1 : 0 ≤ v1 ∧ v1 ≤ 1) (hr0 : r0 ∈ L ∧ K r0 = 197) (k41 : ∀ (K' : Nat → Nat) (B' : Int) (L' : List Nat) (f' : Nat → va_E) (r1 : Nat), hok X0.2.2.1 K' B' L' f' → extC [] K B L f K' B' L' f' → ((-2147483648) ≤ v0 ∧ v0 ≤ (-2)) → (0 ≤ v1 ∧ v1 ≤ 1) → (r0 ∈ L' ∧ K' r0 = 197) → (r1 ∈ L' ∧ K' r1 = 62) → eW E 0 0 L' f' 41 [(0, .ref r0), (1, .int (Int32.ofInt v0)), (2, .int (Int32.ofInt v1)), (3, .ref r1)] [.int (Int32.ofInt (-2))]) : eW E 0 0 L f 0 [(0, .ref r0), (1, .int (Int32.ofInt v0)), (2, .int (Int32.ofInt v1))] [] := by
  obtain ⟨l0, D0, cy0, ax0⟩ := X0
  have hraw : eW E 0 0 L f 0 [(0, .ref r0), (1, .int (Int32.ofInt (0 + (1 * v0 + 0)))), (2, .int (Int32.ofInt (0 + (1 * v1 + 0))))] [] := ?_
  · simpa only [Int.zero_add, Int.one_mul, Int.add_zero] using hraw
  refine seg_ok (D := D_fcB) (νi := fun i => [v0, v1].getD i 0) (μi := fun i => [r0].getD i 0) k_fcB hE (mk_ok (ins := iX11_forecast) jX11_forecast fX11_ok lX11_ok kX11_ok kkX11_ok H) (by decide) rfl rfl rfl rfl hh ?_ ?_
  · refine ⟨(eok_of (fun i q hq => ?_) (fun i hi => ?_)), fa0, fa0, ?_, fa0, fa0, fa0⟩
    · match i, hq with
      | 0, hq => cases hq; exact hb0
      | 1, hq => cases hq; exact hb1
      | i + 2, hq => cases hq
    · match i, hi with
      | 0, hi => exact absurd hi (by decide)
      | 1, hi => exact absurd hi (by decide)
      | i + 2, _ => rfl
    · intro i k hk
      match i, hk with
      | 0, hk => cases hk; exact hr0
      | i + 1, hk => cases hk
  · intro q hq hst K' B' L' f' ν μ h1 h2 h3 h4 h5
    have e0 : ν 0 = v0 := h4 0 (by decide)
    have e1 : ν 1 = v1 := h4 1 (by decide)
    have d0 : μ 0 = r0 := h5 0 (by decide)
    subst e0
    subst e1
    subst d0
    replace hq : q ∈ u_fcB := hq
    unfold u_fcB at hq
    simp only [List.mem_cons, List.not_mem_nil, or_false] at hq
    rcases hq with rfl
    · have hst2 : eW E 0 0 L' f' 41 [(0, .ref (μ 0)), (1, .int (Int32.ofInt (0 + (1 * ν 0 + 0)))), (2, .int (Int32.ofInt (0 + (1 * ν 1 + 0)))), (3, .ref (μ 1))] [.int (Int32.ofInt ((-2) + 0))] := ?_
      · exact hst2
      try simp only [Int.zero_add, Int.one_mul, Int.add_zero]
      exact k41 K' B' L' f'  (μ 1) h1 h2 (h3.1 0) (h3.1 1) (h3.2.2.2.1 0 197 rfl) (h3.2.2.2.1 1 62 rfl)

/-! fcC: from 0 to [41] -/
def w_fcC : TP := ([(0, (2, 0, (0, []))), (1, (0, 0, (0, [(1, 0)]))), (2, (0, 0, (0, [(1, 1)])))], [], ([(10, 2147483647), (0, 1)], [], [], [197], [], [], []), [], [])
def u_fcC : List (Nat × TP × EX × Nat × Nat) := [(41, ([(0, (2, 0, (0, []))), (1, (0, 0, (0, [(1, 0)]))), (2, (0, 0, (0, [(1, 1)]))), (3, (2, 1, (0, [])))], [(0, 0, ((-2), []))], ([(10, 2147483647), (0, 1)], [], [], [197, 62], [], [], []), [], [(0, 3)]), ((-1), []), 0, 0)]
def D_fcC : DT := (mkD iX11_forecast fX11 lX11 kX11 kkX11 427 [(24, [71])] (w_fcC, [], [], 2, 0, 0, 3) false 4 u_fcC)
theorem k_fcC : chkS D_fcC 4000 0 0 0 = true := by decide +kernel
theorem s_fcC {X0 : zC0} {E : zCx} (H : ∀ j, j < 427 → CMj X0 j) (hE : zOk E X0 RX11 cX11_forecast 4 (zrm 2 0 0)) {K : Nat → Nat} {B : Int} {L : List Nat} {f : Nat → va_E} (hh : hok X0.2.2.1 K B L f) {v0 v1 : Int} {r0 : Nat} (hb0 : 10 ≤ v0 ∧ v0 ≤ 2147483647) (hb1 : 0 ≤ v1 ∧ v1 ≤ 1) (hr0 : r0 ∈ L ∧ K r0 = 197) (k41 : ∀ (K' : Nat → Nat) (B' : Int) (L' : List Nat) (f' : Nat → va_E) (r1 : Nat), hok X0.2.2.1 K' B' L' f' → extC [] K B L f K' B' L' f' → (10 ≤ v0 ∧ v0 ≤ 2147483647) → (0 ≤ v1 ∧ v1 ≤ 1) → (r0 ∈ L' ∧ K' r0 = 197) → (r1 ∈ L' ∧ K' r1 = 62) → eW E 0 0 L' f' 41 [(0, .ref r0), (1, .int (Int32.ofInt v0)), (2, .int (Int32.ofInt v1)), (3, .ref r1)] [.int (Int32.ofInt (-2))]) : eW E 0 0 L f 0 [(0, .ref r0), (1, .int (Int32.ofInt v0)), (2, .int (Int32.ofInt v1))] [] := by
  obtain ⟨l0, D0, cy0, ax0⟩ := X0
  have hraw : eW E 0 0 L f 0 [(0, .ref r0), (1, .int (Int32.ofInt (0 + (1 * v0 + 0)))), (2, .int (Int32.ofInt (0 + (1 * v1 + 0))))] [] := ?_
  · simpa only [Int.zero_add, Int.one_mul, Int.add_zero] using hraw
  refine seg_ok (D := D_fcC) (νi := fun i => [v0, v1].getD i 0) (μi := fun i => [r0].getD i 0) k_fcC hE (mk_ok (ins := iX11_forecast) jX11_forecast fX11_ok lX11_ok kX11_ok kkX11_ok H) (by decide) rfl rfl rfl rfl hh ?_ ?_
  · refine ⟨(eok_of (fun i q hq => ?_) (fun i hi => ?_)), fa0, fa0, ?_, fa0, fa0, fa0⟩
    · match i, hq with
      | 0, hq => cases hq; exact hb0
      | 1, hq => cases hq; exact hb1
      | i + 2, hq => cases hq
    · match i, hi with
      | 0, hi => exact absurd hi (by decide)
      | 1, hi => exact absurd hi (by decide)
      | i + 2, _ => rfl
    · intro i k hk
      match i, hk with
      | 0, hk => cases hk; exact hr0
      | i + 1, hk => cases hk
  · intro q hq hst K' B' L' f' ν μ h1 h2 h3 h4 h5
    have e0 : ν 0 = v0 := h4 0 (by decide)
    have e1 : ν 1 = v1 := h4 1 (by decide)
    have d0 : μ 0 = r0 := h5 0 (by decide)
    subst e0
    subst e1
    subst d0
    replace hq : q ∈ u_fcC := hq
    unfold u_fcC at hq
    simp only [List.mem_cons, List.not_mem_nil, or_false] at hq
    rcases hq with rfl
    · have hst2 : eW E 0 0 L' f' 41 [(0, .ref (μ 0)), (1, .int (Int32.ofInt (0 + (1 * ν 0 + 0)))), (2, .int (Int32.ofInt (0 + (1 * ν 1 + 0)))), (3, .ref (μ 1))] [.int (Int32.ofInt ((-2) + 0))] := ?_
      · exact hst2
      try simp only [Int.zero_add, Int.one_mul, Int.add_zero]
      exact k41 K' B' L' f'  (μ 1) h1 h2 (h3.1 0) (h3.1 1) (h3.2.2.2.1 0 197 rfl) (h3.2.2.2.1 1 62 rfl)

/-! fcD: from 0 to [41] -/
def w_fcD : TP := ([(0, (2, 0, (0, []))), (1, (0, 0, (0, [(1, 0)]))), (2, (0, 0, (0, [(1, 1)])))], [], ([(0, 9), (0, 1)], [], [], [197], [((62, (1, [])), (12, []))], [], []), [], [])
def u_fcD : List (Nat × TP × EX × Nat × Nat) := [(41, ([(0, (2, 0, (0, []))), (1, (0, 0, (0, [(1, 0)]))), (2, (0, 0, (0, [(1, 1)]))), (3, (2, 1, (0, [])))], [(0, 0, ((-2), []))], ([(0, 9), (0, 1)], [], [], [197, 62], [((62, (1, [])), (12, []))], [], []), [], [(0, 3)]), ((-1), []), 0, 0)]
def D_fcD : DT := (mkD iX11_forecast fX11 lX11 kX11 kkX11 427 [(24, [71])] (w_fcD, [], [], 2, 0, 0, 3) false 4 u_fcD)
theorem k_fcD : chkS D_fcD 4000 0 0 0 = true := by decide +kernel
theorem s_fcD {X0 : zC0} {E : zCx} (H : ∀ j, j < 427 → CMj X0 j) (hE : zOk E X0 RX11 cX11_forecast 4 (zrm 2 0 0)) {K : Nat → Nat} {B : Int} {L : List Nat} {f : Nat → va_E} (hh : hok X0.2.2.1 K B L f) {v0 v1 : Int} {r0 : Nat} (hb0 : 0 ≤ v0 ∧ v0 ≤ 9) (hb1 : 0 ≤ v1 ∧ v1 ≤ 1) (hr0 : r0 ∈ L ∧ K r0 = 197) (hm0 : (∀ b ∈ L, K b = 62 → gi (f b) 1 = 12)) (k41 : ∀ (K' : Nat → Nat) (B' : Int) (L' : List Nat) (f' : Nat → va_E) (r1 : Nat), hok X0.2.2.1 K' B' L' f' → extC [] K B L f K' B' L' f' → (0 ≤ v0 ∧ v0 ≤ 9) → (0 ≤ v1 ∧ v1 ≤ 1) → (r0 ∈ L' ∧ K' r0 = 197) → (r1 ∈ L' ∧ K' r1 = 62) → (∀ b ∈ L', K' b = 62 → gi (f' b) 1 = 12) → eW E 0 0 L' f' 41 [(0, .ref r0), (1, .int (Int32.ofInt v0)), (2, .int (Int32.ofInt v1)), (3, .ref r1)] [.int (Int32.ofInt (-2))]) : eW E 0 0 L f 0 [(0, .ref r0), (1, .int (Int32.ofInt v0)), (2, .int (Int32.ofInt v1))] [] := by
  obtain ⟨l0, D0, cy0, ax0⟩ := X0
  have hraw : eW E 0 0 L f 0 [(0, .ref r0), (1, .int (Int32.ofInt (0 + (1 * v0 + 0)))), (2, .int (Int32.ofInt (0 + (1 * v1 + 0))))] [] := ?_
  · simpa only [Int.zero_add, Int.one_mul, Int.add_zero] using hraw
  have rm0 : (∀ b ∈ L, K b = 62 → gi (f b) 1 = (12 + 0)) := by simpa only [Int.zero_add, Int.one_mul, Int.add_zero] using hm0
  refine seg_ok (D := D_fcD) (νi := fun i => [v0, v1].getD i 0) (μi := fun i => [r0].getD i 0) k_fcD hE (mk_ok (ins := iX11_forecast) jX11_forecast fX11_ok lX11_ok kX11_ok kkX11_ok H) (by decide) rfl rfl rfl rfl hh ?_ ?_
  · refine ⟨(eok_of (fun i q hq => ?_) (fun i hi => ?_)), fa0, fa0, ?_, (fa_cons (Fmok hh (show (zkd 62).1 = 1 by decide) (j := 1) rfl (by decide) rm0) fa0), fa0, fa0⟩
    · match i, hq with
      | 0, hq => cases hq; exact hb0
      | 1, hq => cases hq; exact hb1
      | i + 2, hq => cases hq
    · match i, hi with
      | 0, hi => exact absurd hi (by decide)
      | 1, hi => exact absurd hi (by decide)
      | i + 2, _ => rfl
    · intro i k hk
      match i, hk with
      | 0, hk => cases hk; exact hr0
      | i + 1, hk => cases hk
  · intro q hq hst K' B' L' f' ν μ h1 h2 h3 h4 h5
    have e0 : ν 0 = v0 := h4 0 (by decide)
    have e1 : ν 1 = v1 := h4 1 (by decide)
    have d0 : μ 0 = r0 := h5 0 (by decide)
    subst e0
    subst e1
    subst d0
    replace hq : q ∈ u_fcD := hq
    unfold u_fcD at hq
    simp only [List.mem_cons, List.not_mem_nil, or_false] at hq
    rcases hq with rfl
    · have hst2 : eW E 0 0 L' f' 41 [(0, .ref (μ 0)), (1, .int (Int32.ofInt (0 + (1 * ν 0 + 0)))), (2, .int (Int32.ofInt (0 + (1 * ν 1 + 0)))), (3, .ref (μ 1))] [.int (Int32.ofInt ((-2) + 0))] := ?_
      · exact hst2
      try simp only [Int.zero_add, Int.one_mul, Int.add_zero]
      exact k41 K' B' L' f'  (μ 1) h1 h2 (h3.1 0) (h3.1 1) (h3.2.2.2.1 0 197 rfl) (h3.2.2.2.1 1 62 rfl) (by simpa only [xv, xvT, Int.zero_add, Int.one_mul, Int.add_zero] using (mokF h1 (show (zkd 62).1 = 1 by decide) (j := 1) rfl (by decide) (h3.2.2.2.2.1 _ (List.mem_of_getElem? (i := 0) rfl))))

/-! fcE: from 0 to [45] -/
def w_fcE : TP := ([(0, (2, 0, (0, []))), (1, (0, 0, (0, [(1, 0)]))), (2, (0, 0, (0, [(1, 1)])))], [], ([(0, 9), (0, 1), (0, 11)], [], [], [197], [((62, (1, [])), (0, [(1, 2)]))], [], []), [], [])
def u_fcE : List (Nat × TP × EX × Nat × Nat) := [(45, ([(0, (2, 0, (0, []))), (1, (0, 0, (0, [(1, 0)]))), (2, (0, 0, (0, [(1, 1)]))), (3, (2, 1, (0, [])))], [(0, 0, (0, [(1, 1)])), (0, 0, (0, [(1, 0)])), (2, 1, (0, []))], ([(0, 9), (0, 1), (0, 11)], [], [], [197, 62], [((62, (1, [])), (0, [(1, 2)]))], [], []), [], [(0, 3)]), ((-1), []), 0, 0)]
def D_fcE : DT := (mkD iX11_forecast fX11 lX11 kX11 kkX11 427 [(24, [71])] (w_fcE, [], [], 2, 0, 0, 3) false 4 u_fcE)
theorem k_fcE : chkS D_fcE 4000 0 0 0 = true := by decide +kernel
theorem s_fcE {X0 : zC0} {E : zCx} (H : ∀ j, j < 427 → CMj X0 j) (hE : zOk E X0 RX11 cX11_forecast 4 (zrm 2 0 0)) {K : Nat → Nat} {B : Int} {L : List Nat} {f : Nat → va_E} (hh : hok X0.2.2.1 K B L f) {v0 v1 v2 : Int} {r0 : Nat} (hb0 : 0 ≤ v0 ∧ v0 ≤ 9) (hb1 : 0 ≤ v1 ∧ v1 ≤ 1) (hb2 : 0 ≤ v2 ∧ v2 ≤ 11) (hr0 : r0 ∈ L ∧ K r0 = 197) (hm0 : (∀ b ∈ L, K b = 62 → gi (f b) 1 = v2)) (k45 : ∀ (K' : Nat → Nat) (B' : Int) (L' : List Nat) (f' : Nat → va_E) (r1 : Nat), hok X0.2.2.1 K' B' L' f' → extC [] K B L f K' B' L' f' → (0 ≤ v0 ∧ v0 ≤ 9) → (0 ≤ v1 ∧ v1 ≤ 1) → (0 ≤ v2 ∧ v2 ≤ 11) → (r0 ∈ L' ∧ K' r0 = 197) → (r1 ∈ L' ∧ K' r1 = 62) → (∀ b ∈ L', K' b = 62 → gi (f' b) 1 = v2) → eW E 0 0 L' f' 45 [(0, .ref r0), (1, .int (Int32.ofInt v0)), (2, .int (Int32.ofInt v1)), (3, .ref r1)] [.int (Int32.ofInt v1), .int (Int32.ofInt v0), .ref r1]) : eW E 0 0 L f 0 [(0, .ref r0), (1, .int (Int32.ofInt v0)), (2, .int (Int32.ofInt v1))] [] := by
  obtain ⟨l0, D0, cy0, ax0⟩ := X0
  have hraw : eW E 0 0 L f 0 [(0, .ref r0), (1, .int (Int32.ofInt (0 + (1 * v0 + 0)))), (2, .int (Int32.ofInt (0 + (1 * v1 + 0))))] [] := ?_
  · simpa only [Int.zero_add, Int.one_mul, Int.add_zero] using hraw
  have rm0 : (∀ b ∈ L, K b = 62 → gi (f b) 1 = (0 + (1 * v2 + 0))) := by simpa only [Int.zero_add, Int.one_mul, Int.add_zero] using hm0
  refine seg_ok (D := D_fcE) (νi := fun i => [v0, v1, v2].getD i 0) (μi := fun i => [r0].getD i 0) k_fcE hE (mk_ok (ins := iX11_forecast) jX11_forecast fX11_ok lX11_ok kX11_ok kkX11_ok H) (by decide) rfl rfl rfl rfl hh ?_ ?_
  · refine ⟨(eok_of (fun i q hq => ?_) (fun i hi => ?_)), fa0, fa0, ?_, (fa_cons (Fmok hh (show (zkd 62).1 = 1 by decide) (j := 1) rfl (by decide) rm0) fa0), fa0, fa0⟩
    · match i, hq with
      | 0, hq => cases hq; exact hb0
      | 1, hq => cases hq; exact hb1
      | 2, hq => cases hq; exact hb2
      | i + 3, hq => cases hq
    · match i, hi with
      | 0, hi => exact absurd hi (by decide)
      | 1, hi => exact absurd hi (by decide)
      | 2, hi => exact absurd hi (by decide)
      | i + 3, _ => rfl
    · intro i k hk
      match i, hk with
      | 0, hk => cases hk; exact hr0
      | i + 1, hk => cases hk
  · intro q hq hst K' B' L' f' ν μ h1 h2 h3 h4 h5
    have e0 : ν 0 = v0 := h4 0 (by decide)
    have e1 : ν 1 = v1 := h4 1 (by decide)
    have e2 : ν 2 = v2 := h4 2 (by decide)
    have d0 : μ 0 = r0 := h5 0 (by decide)
    subst e0
    subst e1
    subst e2
    subst d0
    replace hq : q ∈ u_fcE := hq
    unfold u_fcE at hq
    simp only [List.mem_cons, List.not_mem_nil, or_false] at hq
    rcases hq with rfl
    · have hst2 : eW E 0 0 L' f' 45 [(0, .ref (μ 0)), (1, .int (Int32.ofInt (0 + (1 * ν 0 + 0)))), (2, .int (Int32.ofInt (0 + (1 * ν 1 + 0)))), (3, .ref (μ 1))] [.int (Int32.ofInt (0 + (1 * ν 1 + 0))), .int (Int32.ofInt (0 + (1 * ν 0 + 0))), .ref (μ 1)] := ?_
      · exact hst2
      try simp only [Int.zero_add, Int.one_mul, Int.add_zero]
      exact k45 K' B' L' f'  (μ 1) h1 h2 (h3.1 0) (h3.1 1) (h3.1 2) (h3.2.2.2.1 0 197 rfl) (h3.2.2.2.1 1 62 rfl) (by simpa only [xv, xvT, Int.zero_add, Int.one_mul, Int.add_zero] using (mokF h1 (show (zkd 62).1 = 1 by decide) (j := 1) rfl (by decide) (h3.2.2.2.2.1 _ (List.mem_of_getElem? (i := 0) rfl))))

/-! af0: from 0 to [9] -/
def w_af0 : TP := ([(0, (2, 0, (0, []))), (1, (0, 0, (0, [(1, 0)]))), (2, (0, 0, (0, [(1, 1)])))], [], ([(0, 9), (0, 1), (0, 11)], [], [], [62], [((62, (1, [])), (0, [(1, 2)]))], [], []), [], [])
def u_af0 : List (Nat × TP × EX × Nat × Nat) := [(9, ([(0, (2, 0, (0, []))), (1, (0, 0, (0, [(1, 0)]))), (2, (0, 0, (0, [(1, 1)])))], [(0, 0, (0, [(1, 0)])), (0, 0, (0, [(1, 2)])), (2, 1, (0, []))], ([(0, 9), (0, 1), (0, 11)], [], [], [62, 66], [((62, (1, [])), (0, [(1, 2)]))], [], []), [], [(1, 2)]), ((-1), []), 0, 0)]
def D_af0 : DT := (mkD iX1_addForecast fX1 lX1 kX1 kkX1 427 [] (w_af0, [], [], 1, 0, 0, 3) false 3 u_af0)
theorem k_af0 : chkS D_af0 4000 0 0 0 = true := by decide +kernel
theorem s_af0 {X0 : zC0} {E : zCx} (H : ∀ j, j < 427 → CMj X0 j) (hE : zOk E X0 RX1 cX1_addForecast 3 (zrm 1 0 0)) {K : Nat → Nat} {B : Int} {L : List Nat} {f : Nat → va_E} (hh : hok X0.2.2.1 K B L f) {v0 v1 v2 : Int} {r0 : Nat} (hb0 : 0 ≤ v0 ∧ v0 ≤ 9) (hb1 : 0 ≤ v1 ∧ v1 ≤ 1) (hb2 : 0 ≤ v2 ∧ v2 ≤ 11) (hr0 : r0 ∈ L ∧ K r0 = 62) (hm0 : (∀ b ∈ L, K b = 62 → gi (f b) 1 = v2)) (k9 : ∀ (K' : Nat → Nat) (B' : Int) (L' : List Nat) (f' : Nat → va_E) (r1 : Nat), hok X0.2.2.1 K' B' L' f' → extC [] K B L f K' B' L' f' → (0 ≤ v0 ∧ v0 ≤ 9) → (0 ≤ v1 ∧ v1 ≤ 1) → (0 ≤ v2 ∧ v2 ≤ 11) → (r0 ∈ L' ∧ K' r0 = 62) → (r1 ∈ L' ∧ K' r1 = 66) → (∀ b ∈ L', K' b = 62 → gi (f' b) 1 = v2) → eW E 0 0 L' f' 9 [(0, .ref r0), (1, .int (Int32.ofInt v0)), (2, .int (Int32.ofInt v1))] [.int (Int32.ofInt v0), .int (Int32.ofInt v2), .ref r1]) : eW E 0 0 L f 0 [(0, .ref r0), (1, .int (Int32.ofInt v0)), (2, .int (Int32.ofInt v1))] [] := by
  obtain ⟨l0, D0, cy0, ax0⟩ := X0
  have hraw : eW E 0 0 L f 0 [(0, .ref r0), (1, .int (Int32.ofInt (0 + (1 * v0 + 0)))), (2, .int (Int32.ofInt (0 + (1 * v1 + 0))))] [] := ?_
  · simpa only [Int.zero_add, Int.one_mul, Int.add_zero] using hraw
  have rm0 : (∀ b ∈ L, K b = 62 → gi (f b) 1 = (0 + (1 * v2 + 0))) := by simpa only [Int.zero_add, Int.one_mul, Int.add_zero] using hm0
  refine seg_ok (D := D_af0) (νi := fun i => [v0, v1, v2].getD i 0) (μi := fun i => [r0].getD i 0) k_af0 hE (mk_ok (ins := iX1_addForecast) jX1_addForecast fX1_ok lX1_ok kX1_ok kkX1_ok H) (by decide) rfl rfl rfl rfl hh ?_ ?_
  · refine ⟨(eok_of (fun i q hq => ?_) (fun i hi => ?_)), fa0, fa0, ?_, (fa_cons (Fmok hh (show (zkd 62).1 = 1 by decide) (j := 1) rfl (by decide) rm0) fa0), fa0, fa0⟩
    · match i, hq with
      | 0, hq => cases hq; exact hb0
      | 1, hq => cases hq; exact hb1
      | 2, hq => cases hq; exact hb2
      | i + 3, hq => cases hq
    · match i, hi with
      | 0, hi => exact absurd hi (by decide)
      | 1, hi => exact absurd hi (by decide)
      | 2, hi => exact absurd hi (by decide)
      | i + 3, _ => rfl
    · intro i k hk
      match i, hk with
      | 0, hk => cases hk; exact hr0
      | i + 1, hk => cases hk
  · intro q hq hst K' B' L' f' ν μ h1 h2 h3 h4 h5
    have e0 : ν 0 = v0 := h4 0 (by decide)
    have e1 : ν 1 = v1 := h4 1 (by decide)
    have e2 : ν 2 = v2 := h4 2 (by decide)
    have d0 : μ 0 = r0 := h5 0 (by decide)
    subst e0
    subst e1
    subst e2
    subst d0
    replace hq : q ∈ u_af0 := hq
    unfold u_af0 at hq
    simp only [List.mem_cons, List.not_mem_nil, or_false] at hq
    rcases hq with rfl
    · have hst2 : eW E 0 0 L' f' 9 [(0, .ref (μ 0)), (1, .int (Int32.ofInt (0 + (1 * ν 0 + 0)))), (2, .int (Int32.ofInt (0 + (1 * ν 1 + 0))))] [.int (Int32.ofInt (0 + (1 * ν 0 + 0))), .int (Int32.ofInt (0 + (1 * ν 2 + 0))), .ref (μ 1)] := ?_
      · exact hst2
      try simp only [Int.zero_add, Int.one_mul, Int.add_zero]
      exact k9 K' B' L' f'  (μ 1) h1 h2 (h3.1 0) (h3.1 1) (h3.1 2) (h3.2.2.2.1 0 62 rfl) (h3.2.2.2.1 1 66 rfl) (by simpa only [xv, xvT, Int.zero_add, Int.one_mul, Int.add_zero] using (mokF h1 (show (zkd 62).1 = 1 by decide) (j := 1) rfl (by decide) (h3.2.2.2.2.1 _ (List.mem_of_getElem? (i := 0) rfl))))

/-! af10: from 10 to [19] -/
def w_af10 : TP := ([(0, (2, 0, (0, []))), (1, (0, 0, (0, [(1, 0)]))), (2, (0, 0, (0, [(1, 1)])))], [], ([(0, 9), (0, 1), (0, 11)], [], [], [62], [((62, (1, [])), (0, [(1, 2)]))], [], []), [], [])
def u_af10 : List (Nat × TP × EX × Nat × Nat) := [(19, ([(0, (2, 0, (0, []))), (1, (0, 0, (0, [(1, 0)]))), (2, (0, 0, (0, [(1, 1)])))], [(0, 0, (0, [(1, 1)])), (0, 0, (0, [(1, 2)])), (2, 1, (0, []))], ([(0, 9), (0, 1), (0, 11)], [], [], [62, 67], [((62, (1, [])), (0, [(1, 2)]))], [], []), [], [(1, 2)]), ((-1), []), 0, 0)]
def D_af10 : DT := (mkD iX1_addForecast fX1 lX1 kX1 kkX1 427 [] (w_af10, [], [], 1, 0, 0, 3) false 3 u_af10)
theorem k_af10 : chkS D_af10 4000 0 0 10 = true := by decide +kernel
theorem s_af10 {X0 : zC0} {E : zCx} (H : ∀ j, j < 427 → CMj X0 j) (hE : zOk E X0 RX1 cX1_addForecast 3 (zrm 1 0 0)) {K : Nat → Nat} {B : Int} {L : List Nat} {f : Nat → va_E} (hh : hok X0.2.2.1 K B L f) {v0 v1 v2 : Int} {r0 : Nat} (hb0 : 0 ≤ v0 ∧ v0 ≤ 9) (hb1 : 0 ≤ v1 ∧ v1 ≤ 1) (hb2 : 0 ≤ v2 ∧ v2 ≤ 11) (hr0 : r0 ∈ L ∧ K r0 = 62) (hm0 : (∀ b ∈ L, K b = 62 → gi (f b) 1 = v2)) (k19 : ∀ (K' : Nat → Nat) (B' : Int) (L' : List Nat) (f' : Nat → va_E) (r1 : Nat), hok X0.2.2.1 K' B' L' f' → extC [] K B L f K' B' L' f' → (0 ≤ v0 ∧ v0 ≤ 9) → (0 ≤ v1 ∧ v1 ≤ 1) → (0 ≤ v2 ∧ v2 ≤ 11) → (r0 ∈ L' ∧ K' r0 = 62) → (r1 ∈ L' ∧ K' r1 = 67) → (∀ b ∈ L', K' b = 62 → gi (f' b) 1 = v2) → eW E 0 0 L' f' 19 [(0, .ref r0), (1, .int (Int32.ofInt v0)), (2, .int (Int32.ofInt v1))] [.int (Int32.ofInt v1), .int (Int32.ofInt v2), .ref r1]) : eW E 0 0 L f 10 [(0, .ref r0), (1, .int (Int32.ofInt v0)), (2, .int (Int32.ofInt v1))] [] := by
  obtain ⟨l0, D0, cy0, ax0⟩ := X0
  have hraw : eW E 0 0 L f 10 [(0, .ref r0), (1, .int (Int32.ofInt (0 + (1 * v0 + 0)))), (2, .int (Int32.ofInt (0 + (1 * v1 + 0))))] [] := ?_
  · simpa only [Int.zero_add, Int.one_mul, Int.add_zero] using hraw
  have rm0 : (∀ b ∈ L, K b = 62 → gi (f b) 1 = (0 + (1 * v2 + 0))) := by simpa only [Int.zero_add, Int.one_mul, Int.add_zero] using hm0
  refine seg_ok (D := D_af10) (νi := fun i => [v0, v1, v2].getD i 0) (μi := fun i => [r0].getD i 0) k_af10 hE (mk_ok (ins := iX1_addForecast) jX1_addForecast fX1_ok lX1_ok kX1_ok kkX1_ok H) (by decide) rfl rfl rfl rfl hh ?_ ?_
  · refine ⟨(eok_of (fun i q hq => ?_) (fun i hi => ?_)), fa0, fa0, ?_, (fa_cons (Fmok hh (show (zkd 62).1 = 1 by decide) (j := 1) rfl (by decide) rm0) fa0), fa0, fa0⟩
    · match i, hq with
      | 0, hq => cases hq; exact hb0
      | 1, hq => cases hq; exact hb1
      | 2, hq => cases hq; exact hb2
      | i + 3, hq => cases hq
    · match i, hi with
      | 0, hi => exact absurd hi (by decide)
      | 1, hi => exact absurd hi (by decide)
      | 2, hi => exact absurd hi (by decide)
      | i + 3, _ => rfl
    · intro i k hk
      match i, hk with
      | 0, hk => cases hk; exact hr0
      | i + 1, hk => cases hk
  · intro q hq hst K' B' L' f' ν μ h1 h2 h3 h4 h5
    have e0 : ν 0 = v0 := h4 0 (by decide)
    have e1 : ν 1 = v1 := h4 1 (by decide)
    have e2 : ν 2 = v2 := h4 2 (by decide)
    have d0 : μ 0 = r0 := h5 0 (by decide)
    subst e0
    subst e1
    subst e2
    subst d0
    replace hq : q ∈ u_af10 := hq
    unfold u_af10 at hq
    simp only [List.mem_cons, List.not_mem_nil, or_false] at hq
    rcases hq with rfl
    · have hst2 : eW E 0 0 L' f' 19 [(0, .ref (μ 0)), (1, .int (Int32.ofInt (0 + (1 * ν 0 + 0)))), (2, .int (Int32.ofInt (0 + (1 * ν 1 + 0))))] [.int (Int32.ofInt (0 + (1 * ν 1 + 0))), .int (Int32.ofInt (0 + (1 * ν 2 + 0))), .ref (μ 1)] := ?_
      · exact hst2
      try simp only [Int.zero_add, Int.one_mul, Int.add_zero]
      exact k19 K' B' L' f'  (μ 1) h1 h2 (h3.1 0) (h3.1 1) (h3.1 2) (h3.2.2.2.1 0 62 rfl) (h3.2.2.2.1 1 67 rfl) (by simpa only [xv, xvT, Int.zero_add, Int.one_mul, Int.add_zero] using (mokF h1 (show (zkd 62).1 = 1 by decide) (j := 1) rfl (by decide) (h3.2.2.2.2.1 _ (List.mem_of_getElem? (i := 0) rfl))))

/-! af20: from 20 to [31] -/
def w_af20 : TP := ([(0, (2, 0, (0, []))), (1, (0, 0, (0, [(1, 0)]))), (2, (0, 0, (0, [(1, 1)])))], [], ([(0, 9), (0, 1), (0, 11)], [], [], [62], [((62, (1, [])), (0, [(1, 2)]))], [], []), [], [])
def u_af20 : List (Nat × TP × EX × Nat × Nat) := [(31, ([(0, (2, 0, (0, []))), (1, (0, 0, (0, [(1, 0)]))), (2, (0, 0, (0, [(1, 1)])))], [(0, 0, (1, [(1, 2)]))], ([(0, 9), (0, 1), (0, 11)], [], [], [62], [((62, (1, [])), (1, [(1, 2)]))], [], []), [], []), ((-1), []), 0, 0)]
def D_af20 : DT := (mkD iX1_addForecast fX1 lX1 kX1 kkX1 427 [] (w_af20, [(62, 1)], [], 1, 0, 0, 3) false 3 u_af20)
theorem k_af20 : chkS D_af20 4000 0 0 20 = true := by decide +kernel
theorem s_af20 {X0 : zC0} {E : zCx} (H : ∀ j, j < 427 → CMj X0 j) (hE : zOk E X0 RX1 cX1_addForecast 3 (zrm 1 0 0)) {K : Nat → Nat} {B : Int} {L : List Nat} {f : Nat → va_E} (hh : hok X0.2.2.1 K B L f) {v0 v1 v2 : Int} {r0 : Nat} (hb0 : 0 ≤ v0 ∧ v0 ≤ 9) (hb1 : 0 ≤ v1 ∧ v1 ≤ 1) (hb2 : 0 ≤ v2 ∧ v2 ≤ 11) (hr0 : r0 ∈ L ∧ K r0 = 62) (hm0 : (∀ b ∈ L, K b = 62 → gi (f b) 1 = v2)) (k31 : ∀ (K' : Nat → Nat) (B' : Int) (L' : List Nat) (f' : Nat → va_E), hok X0.2.2.1 K' B' L' f' → extC [(62, 1)] K B L f K' B' L' f' → (0 ≤ v0 ∧ v0 ≤ 9) → (0 ≤ v1 ∧ v1 ≤ 1) → (0 ≤ v2 ∧ v2 ≤ 11) → (r0 ∈ L' ∧ K' r0 = 62) → (∀ b ∈ L', K' b = 62 → gi (f' b) 1 = (1 + v2)) → eW E 0 0 L' f' 31 [(0, .ref r0), (1, .int (Int32.ofInt v0)), (2, .int (Int32.ofInt v1))] [.int (Int32.ofInt (1 + v2))]) : eW E 0 0 L f 20 [(0, .ref r0), (1, .int (Int32.ofInt v0)), (2, .int (Int32.ofInt v1))] [] := by
  obtain ⟨l0, D0, cy0, ax0⟩ := X0
  have hraw : eW E 0 0 L f 20 [(0, .ref r0), (1, .int (Int32.ofInt (0 + (1 * v0 + 0)))), (2, .int (Int32.ofInt (0 + (1 * v1 + 0))))] [] := ?_
  · simpa only [Int.zero_add, Int.one_mul, Int.add_zero] using hraw
  have rm0 : (∀ b ∈ L, K b = 62 → gi (f b) 1 = (0 + (1 * v2 + 0))) := by simpa only [Int.zero_add, Int.one_mul, Int.add_zero] using hm0
  refine seg_ok (D := D_af20) (νi := fun i => [v0, v1, v2].getD i 0) (μi := fun i => [r0].getD i 0) k_af20 hE (mk_ok (ins := iX1_addForecast) jX1_addForecast fX1_ok lX1_ok kX1_ok kkX1_ok H) (by decide) rfl rfl rfl rfl hh ?_ ?_
  · refine ⟨(eok_of (fun i q hq => ?_) (fun i hi => ?_)), fa0, fa0, ?_, (fa_cons (Fmok hh (show (zkd 62).1 = 1 by decide) (j := 1) rfl (by decide) rm0) fa0), fa0, fa0⟩
    · match i, hq with
      | 0, hq => cases hq; exact hb0
      | 1, hq => cases hq; exact hb1
      | 2, hq => cases hq; exact hb2
      | i + 3, hq => cases hq
    · match i, hi with
      | 0, hi => exact absurd hi (by decide)
      | 1, hi => exact absurd hi (by decide)
      | 2, hi => exact absurd hi (by decide)
      | i + 3, _ => rfl
    · intro i k hk
      match i, hk with
      | 0, hk => cases hk; exact hr0
      | i + 1, hk => cases hk
  · intro q hq hst K' B' L' f' ν μ h1 h2 h3 h4 h5
    have e0 : ν 0 = v0 := h4 0 (by decide)
    have e1 : ν 1 = v1 := h4 1 (by decide)
    have e2 : ν 2 = v2 := h4 2 (by decide)
    have d0 : μ 0 = r0 := h5 0 (by decide)
    subst e0
    subst e1
    subst e2
    subst d0
    replace hq : q ∈ u_af20 := hq
    unfold u_af20 at hq
    simp only [List.mem_cons, List.not_mem_nil, or_false] at hq
    rcases hq with rfl
    · have hst2 : eW E 0 0 L' f' 31 [(0, .ref (μ 0)), (1, .int (Int32.ofInt (0 + (1 * ν 0 + 0)))), (2, .int (Int32.ofInt (0 + (1 * ν 1 + 0))))] [.int (Int32.ofInt (1 + (1 * ν 2 + 0)))] := ?_
      · exact hst2
      try simp only [Int.zero_add, Int.one_mul, Int.add_zero]
      exact k31 K' B' L' f'   h1 h2 (h3.1 0) (h3.1 1) (h3.1 2) (h3.2.2.2.1 0 62 rfl) (by simpa only [xv, xvT, Int.zero_add, Int.one_mul, Int.add_zero] using (mokF h1 (show (zkd 62).1 = 1 by decide) (j := 1) rfl (by decide) (h3.2.2.2.2.1 _ (List.mem_of_getElem? (i := 0) rfl))))
