/-! pb0: from 0 to [2] -/
def w_pb0 : TP := ([(0, (2, 0, (0, [])))], [], ([], [], [], [200], [], [], []), [], [])
def u_pb0 : List (Nat × TP × EX × Nat × Nat) := [(2, ([(0, (2, 0, (0, []))), (1, (0, 0, (0, [])))], [], ([], [], [], [200], [], [], []), [], []), ((-1), []), 0, 0)]
def D_pb0 : DT := (mkD iX12_putBack fX12 lX12 kX12 kkX12 355 [] (w_pb0, [], [], 2, 0, 0, 3) false 2 u_pb0)
theorem k_pb0 : chkS D_pb0 4000 0 0 0 = true := by decide +kernel
theorem s_pb0 {X0 : zC0} {E : zCx} (H : ∀ j, j < 355 → CMj X0 j) (hE : zOk E X0 RX12 cX12_putBack 2 (zrm 2 0 0)) {K : Nat → Nat} {B : Int} {L : List Nat} {f : Nat → va_E} (hh : hok X0.2.2.1 K B L f) {r0 : Nat} (hr0 : r0 ∈ L ∧ K r0 = 200) (k2 : ∀ (K' : Nat → Nat) (B' : Int) (L' : List Nat) (f' : Nat → va_E), hok X0.2.2.1 K' B' L' f' → extC [] K B L f K' B' L' f' → (r0 ∈ L' ∧ K' r0 = 200) → eW E 0 0 L' f' 2 [(0, .ref r0), (1, .int (Int32.ofInt 0))] []) : eW E 0 0 L f 0 [(0, .ref r0)] [] := by
  obtain ⟨l0, D0, cy0, ax0⟩ := X0
  have hraw : eW E 0 0 L f 0 [(0, .ref r0)] [] := ?_
  · simpa only [Int.zero_add, Int.one_mul, Int.add_zero] using hraw
  refine seg_ok (D := D_pb0) (νi := fun i => [].getD i 0) (μi := fun i => [r0].getD i 0) k_pb0 hE (mk_ok (ins := iX12_putBack) jX12_putBack fX12_ok lX12_ok kX12_ok kkX12_ok H) (by decide) rfl rfl rfl rfl hh ?_ ?_
  · refine ⟨(eok_of (fun i q hq => by cases hq) (fun i _ => rfl)), fa0, fa0, ?_, fa0, fa0, fa0⟩
    · intro i k hk
      match i, hk with
      | 0, hk => cases hk; exact hr0
      | i + 1, hk => cases hk
  · intro q hq hst K' B' L' f' ν μ h1 h2 h3 h4 h5
    have d0 : μ 0 = r0 := h5 0 (by decide)
    subst d0
    replace hq : q ∈ u_pb0 := hq
    unfold u_pb0 at hq
    simp only [List.mem_cons, List.not_mem_nil, or_false] at hq
    rcases hq with rfl
    · have hst2 : eW E 0 0 L' f' 2 [(0, .ref (μ 0)), (1, .int (Int32.ofInt (0 + 0)))] [] := ?_
      · exact hst2
      try simp only [Int.zero_add, Int.one_mul, Int.add_zero]
      exact k2 K' B' L' f'   h1 h2 (h3.2.2.2.1 0 200 rfl)

/-! pb2: from 2 to [19, 26] -/
def w_pb2 : TP := ([(0, (2, 0, (0, []))), (1, (0, 0, (0, [(1, 0)])))], [], ([(0, 114)], [], [], [200], [], [], []), [], [])
def u_pb2 : List (Nat × TP × EX × Nat × Nat) := [(19, ([(0, (2, 0, (0, []))), (1, (0, 0, (0, [(1, 0)])))], [(0, 0, (0, [(1, 1)])), (0, 0, (0, [(1, 0)])), (2, 1, (0, []))], ([(0, 113), ((-2147483648), 2147483647)], [], [], [200, 201], [((217, (0, [(1, 0)])), (0, [(1, 1)]))], [], []), [(1, 0, (0, []))], [(1, 2)]), ((-1), []), 0, 0), (26, ([(0, (2, 0, (0, []))), (1, (0, 0, (0, [(1, 0)])))], [], ([(114, 114)], [], [], [200], [], [], []), [], []), ((-1), []), 0, 0)]
def D_pb2 : DT := (mkD iX12_putBack fX12 lX12 kX12 kkX12 355 [] (w_pb2, [], [], 2, 0, 0, 3) false 2 u_pb2)
theorem k_pb2 : chkS D_pb2 4000 0 0 2 = true := by decide +kernel
theorem s_pb2 {X0 : zC0} {E : zCx} (H : ∀ j, j < 355 → CMj X0 j) (hE : zOk E X0 RX12 cX12_putBack 2 (zrm 2 0 0)) {K : Nat → Nat} {B : Int} {L : List Nat} {f : Nat → va_E} (hh : hok X0.2.2.1 K B L f) {v0 : Int} {r0 : Nat} (hb0 : 0 ≤ v0 ∧ v0 ≤ 114) (hr0 : r0 ∈ L ∧ K r0 = 200) (k19 : ∀ (K' : Nat → Nat) (B' : Int) (L' : List Nat) (f' : Nat → va_E) (v1 : Int) (r1 : Nat), hok X0.2.2.1 K' B' L' f' → extC [] K B L f K' B' L' f' → (0 ≤ v0 ∧ v0 ≤ 113) → ((-2147483648) ≤ v1 ∧ v1 ≤ 2147483647) → (r0 ∈ L' ∧ K' r0 = 200) → (r1 ∈ L' ∧ K' r1 = 201) → (∀ b ∈ L', K' b = 217 → (0 : Int) ≤ v0 ∧ gi (f' b) ((v0 : Int)).toNat = v1) → eW E 0 0 L' f' 19 [(0, .ref r0), (1, .int (Int32.ofInt v0))] [.int (Int32.ofInt v1), .int (Int32.ofInt v0), .ref r1]) (k26 : ∀ (K' : Nat → Nat) (B' : Int) (L' : List Nat) (f' : Nat → va_E), hok X0.2.2.1 K' B' L' f' → extC [] K B L f K' B' L' f' → (114 ≤ v0 ∧ v0 ≤ 114) → (r0 ∈ L' ∧ K' r0 = 200) → eW E 0 0 L' f' 26 [(0, .ref r0), (1, .int (Int32.ofInt v0))] []) : eW E 0 0 L f 2 [(0, .ref r0), (1, .int (Int32.ofInt v0))] [] := by
  obtain ⟨l0, D0, cy0, ax0⟩ := X0
  have hraw : eW E 0 0 L f 2 [(0, .ref r0), (1, .int (Int32.ofInt (0 + (1 * v0 + 0))))] [] := ?_
  · simpa only [Int.zero_add, Int.one_mul, Int.add_zero] using hraw
  refine seg_ok (D := D_pb2) (νi := fun i => [v0].getD i 0) (μi := fun i => [r0].getD i 0) k_pb2 hE (mk_ok (ins := iX12_putBack) jX12_putBack fX12_ok lX12_ok kX12_ok kkX12_ok H) (by decide) rfl rfl rfl rfl hh ?_ ?_
  · refine ⟨(eok_of (fun i q hq => ?_) (fun i hi => ?_)), fa0, fa0, ?_, fa0, fa0, fa0⟩
    · match i, hq with
      | 0, hq => cases hq; exact hb0
      | i + 1, hq => cases hq
    · match i, hi with
      | 0, hi => exact absurd hi (by decide)
      | i + 1, _ => rfl
    · intro i k hk
      match i, hk with
      | 0, hk => cases hk; exact hr0
      | i + 1, hk => cases hk
  · intro q hq hst K' B' L' f' ν μ h1 h2 h3 h4 h5
    have e0 : ν 0 = v0 := h4 0 (by decide)
    have d0 : μ 0 = r0 := h5 0 (by decide)
    subst e0
    subst d0
    replace hq : q ∈ u_pb2 := hq
    unfold u_pb2 at hq
    simp only [List.mem_cons, List.not_mem_nil, or_false] at hq
    rcases hq with rfl | rfl
    · have hst2 : eW E 0 0 L' f' 19 [(0, .ref (μ 0)), (1, .int (Int32.ofInt (0 + (1 * ν 0 + 0))))] [.int (Int32.ofInt (0 + (1 * ν 1 + 0))), .int (Int32.ofInt (0 + (1 * ν 0 + 0))), .ref (μ 1)] := ?_
      · exact hst2
      try simp only [Int.zero_add, Int.one_mul, Int.add_zero]
      exact k19 K' B' L' f' (ν 1) (μ 1) h1 h2 (h3.1 0) (h3.1 1) (h3.2.2.2.1 0 200 rfl) (h3.2.2.2.1 1 201 rfl) (by simpa only [xv, xvT, Int.zero_add, Int.one_mul, Int.add_zero] using (mokA h1 (show (zkd 217).1 = 2 by decide) (by decide) (h3.2.2.2.2.1 _ (List.mem_of_getElem? (i := 0) rfl))))
    · have hst2 : eW E 0 0 L' f' 26 [(0, .ref (μ 0)), (1, .int (Int32.ofInt (0 + (1 * ν 0 + 0))))] [] := ?_
      · exact hst2
      try simp only [Int.zero_add, Int.one_mul, Int.add_zero]
      exact k26 K' B' L' f'   h1 h2 (h3.1 0) (h3.2.2.2.1 0 200 rfl)

/-! pb20: from 20 to [2] -/
def w_pb20 : TP := ([(0, (2, 0, (0, []))), (1, (0, 0, (0, [(1, 0)])))], [], ([(0, 113)], [], [], [200], [], [], []), [], [])
def u_pb20 : List (Nat × TP × EX × Nat × Nat) := [(2, ([(0, (2, 0, (0, []))), (1, (0, 0, (1, [(1, 0)])))], [], ([(0, 113)], [], [], [200], [], [], []), [], []), ((-1), []), 0, 0)]
def D_pb20 : DT := (mkD iX12_putBack fX12 lX12 kX12 kkX12 355 [] (w_pb20, [], [], 2, 0, 0, 3) false 2 u_pb20)
theorem k_pb20 : chkS D_pb20 4000 0 0 20 = true := by decide +kernel
theorem s_pb20 {X0 : zC0} {E : zCx} (H : ∀ j, j < 355 → CMj X0 j) (hE : zOk E X0 RX12 cX12_putBack 2 (zrm 2 0 0)) {K : Nat → Nat} {B : Int} {L : List Nat} {f : Nat → va_E} (hh : hok X0.2.2.1 K B L f) {v0 : Int} {r0 : Nat} (hb0 : 0 ≤ v0 ∧ v0 ≤ 113) (hr0 : r0 ∈ L ∧ K r0 = 200) (k2 : ∀ (K' : Nat → Nat) (B' : Int) (L' : List Nat) (f' : Nat → va_E), hok X0.2.2.1 K' B' L' f' → extC [] K B L f K' B' L' f' → (0 ≤ v0 ∧ v0 ≤ 113) → (r0 ∈ L' ∧ K' r0 = 200) → eW E 0 0 L' f' 2 [(0, .ref r0), (1, .int (Int32.ofInt (1 + v0)))] []) : eW E 0 0 L f 20 [(0, .ref r0), (1, .int (Int32.ofInt v0))] [] := by
  obtain ⟨l0, D0, cy0, ax0⟩ := X0
  have hraw : eW E 0 0 L f 20 [(0, .ref r0), (1, .int (Int32.ofInt (0 + (1 * v0 + 0))))] [] := ?_
  · simpa only [Int.zero_add, Int.one_mul, Int.add_zero] using hraw
  refine seg_ok (D := D_pb20) (νi := fun i => [v0].getD i 0) (μi := fun i => [r0].getD i 0) k_pb20 hE (mk_ok (ins := iX12_putBack) jX12_putBack fX12_ok lX12_ok kX12_ok kkX12_ok H) (by decide) rfl rfl rfl rfl hh ?_ ?_
  · refine ⟨(eok_of (fun i q hq => ?_) (fun i hi => ?_)), fa0, fa0, ?_, fa0, fa0, fa0⟩
    · match i, hq with
      | 0, hq => cases hq; exact hb0
      | i + 1, hq => cases hq
    · match i, hi with
      | 0, hi => exact absurd hi (by decide)
      | i + 1, _ => rfl
    · intro i k hk
      match i, hk with
      | 0, hk => cases hk; exact hr0
      | i + 1, hk => cases hk
  · intro q hq hst K' B' L' f' ν μ h1 h2 h3 h4 h5
    have e0 : ν 0 = v0 := h4 0 (by decide)
    have d0 : μ 0 = r0 := h5 0 (by decide)
    subst e0
    subst d0
    replace hq : q ∈ u_pb20 := hq
    unfold u_pb20 at hq
    simp only [List.mem_cons, List.not_mem_nil, or_false] at hq
    rcases hq with rfl
    · have hst2 : eW E 0 0 L' f' 2 [(0, .ref (μ 0)), (1, .int (Int32.ofInt (1 + (1 * ν 0 + 0))))] [] := ?_
      · exact hst2
      try simp only [Int.zero_add, Int.one_mul, Int.add_zero]
      exact k2 K' B' L' f'   h1 h2 (h3.1 0) (h3.2.2.2.1 0 200 rfl)
