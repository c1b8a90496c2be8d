/-! bh52d: from 52 to [103, 113] -/
def w_bh52d : TP := ([(0, (2, 0, (0, []))), (1, (0, 0, ((-1), [])))], [(0, 0, (42, []))], ([], [], [], [200], [], [], []), [], [])
def u_bh52d : List (Nat × TP × EX × Nat × Nat) := [(103, ([(0, (2, 0, (0, []))), (1, (0, 0, ((-1), []))), (2, (0, 0, (42, [])))], [(2, 0, (0, []))], ([(2, 2)], [], [], [200], [((200, (9, [])), (0, [(1, 0)]))], [], []), [(2, 200, (9, []))], []), ((-1), []), 0, 0), (113, ([(0, (2, 0, (0, []))), (1, (0, 0, ((-1), []))), (2, (0, 0, (42, [])))], [], ([], [], [], [200], [], [], []), [], []), ((-1), []), 0, 0)]
def D_bh52d : DT := (mkD iX12_behindOne fX12 lX12 kX12 kkX12 412 [(87, [393]), (90, [386])] (w_bh52d, [], [], 8, 0, 0, 3) false 4 u_bh52d)
theorem k_bh52d : chkS D_bh52d 4000 0 0 52 = true := by decide +kernel
theorem s_bh52d {X0 : zC0} {E : zCx} (H : ∀ j, j < 412 → CMj X0 j) (hE : zOk E X0 RX12 cX12_behindOne 4 (zrm 8 0 0)) {K : Nat → Nat} {B : Int} {L : List Nat} {f : Nat → va_E} (hh : hok X0.2.2.1 K B L f) {r0 : Nat} (hr0 : r0 ∈ L ∧ K r0 = 200) (k103 : ∀ (K' : Nat → Nat) (B' : Int) (L' : List Nat) (f' : Nat → va_E) (v0 : Int), hok X0.2.2.1 K' B' L' f' → extC [] K B L f K' B' L' f' → (2 ≤ v0 ∧ v0 ≤ 2) → (r0 ∈ L' ∧ K' r0 = 200) → (∀ b ∈ L', K' b = 200 → gi (f' b) 9 = v0) → eW E 0 0 L' f' 103 [(0, .ref r0), (1, .int (Int32.ofInt (-1))), (2, .int (Int32.ofInt 42))] [.ref r0]) (k113 : ∀ (K' : Nat → Nat) (B' : Int) (L' : List Nat) (f' : Nat → va_E), hok X0.2.2.1 K' B' L' f' → extC [] K B L f K' B' L' f' → (r0 ∈ L' ∧ K' r0 = 200) → eW E 0 0 L' f' 113 [(0, .ref r0), (1, .int (Int32.ofInt (-1))), (2, .int (Int32.ofInt 42))] []) : eW E 0 0 L f 52 [(0, .ref r0), (1, .int (Int32.ofInt (-1)))] [.int (Int32.ofInt 42)] := by
  obtain ⟨l0, D0, cy0, ax0⟩ := X0
  have hraw : eW E 0 0 L f 52 [(0, .ref r0), (1, .int (Int32.ofInt ((-1) + 0)))] [.int (Int32.ofInt (42 + 0))] := ?_
  · simpa only [Int.zero_add, Int.one_mul, Int.add_zero] using hraw
  refine seg_ok (D := D_bh52d) (νi := fun i => [].getD i 0) (μi := fun i => [r0].getD i 0) k_bh52d hE (mk_ok (ins := iX12_behindOne) jX12_behindOne fX12_ok lX12_ok kX12_ok kkX12_ok H) (by decide) rfl rfl rfl rfl hh ?_ ?_
  · refine ⟨(eok_of (fun i q hq => by cases hq) (fun i _ => rfl)), fa0, fa0, ?_, fa0, fa0, fa0⟩
    · intro i k hk
      match i, hk with
      | 0, hk => cases hk; exact hr0
      | i + 1, hk => cases hk
  · intro q hq hst K' B' L' f' ν μ h1 h2 h3 h4 h5
    have d0 : μ 0 = r0 := h5 0 (by decide)
    subst d0
    replace hq : q ∈ u_bh52d := hq
    unfold u_bh52d at hq
    simp only [List.mem_cons, List.not_mem_nil, or_false] at hq
    rcases hq with rfl | rfl
    · have hst2 : eW E 0 0 L' f' 103 [(0, .ref (μ 0)), (1, .int (Int32.ofInt ((-1) + 0))), (2, .int (Int32.ofInt (42 + 0)))] [.ref (μ 0)] := ?_
      · exact hst2
      try simp only [Int.zero_add, Int.one_mul, Int.add_zero]
      exact k103 K' B' L' f' (ν 0)  h1 h2 (h3.1 0) (h3.2.2.2.1 0 200 rfl) (by simpa only [xv, xvT, Int.zero_add, Int.one_mul, Int.add_zero] using (mokF h1 (show (zkd 200).1 = 1 by decide) (j := 9) rfl (by decide) (h3.2.2.2.2.1 _ (List.mem_of_getElem? (i := 0) rfl))))
    · have hst2 : eW E 0 0 L' f' 113 [(0, .ref (μ 0)), (1, .int (Int32.ofInt ((-1) + 0))), (2, .int (Int32.ofInt (42 + 0)))] [] := ?_
      · exact hst2
      try simp only [Int.zero_add, Int.one_mul, Int.add_zero]
      exact k113 K' B' L' f'   h1 h2 (h3.2.2.2.1 0 200 rfl)

/-! bh106: from 106 to [109, 113] -/
def w_bh106 : TP := ([(0, (2, 0, (0, []))), (1, (0, 0, ((-1), []))), (2, (0, 0, (0, [(1, 0)])))], [(0, 0, (0, [(1, 1)]))], ([(41, 2147483647), (0, 1)], [], [], [200], [], [], []), [], [])
def u_bh106 : List (Nat × TP × EX × Nat × Nat) := [(109, ([(0, (2, 0, (0, []))), (1, (0, 0, ((-1), []))), (2, (0, 0, (0, [(1, 0)])))], [], ([(41, 2147483647), (1, 1)], [], [], [200], [], [], []), [], []), ((-1), []), 0, 0), (113, ([(0, (2, 0, (0, []))), (1, (0, 0, ((-1), []))), (2, (0, 0, (0, [(1, 0)])))], [], ([(41, 2147483647), (0, 0)], [], [], [200], [], [], []), [], []), ((-1), []), 0, 0)]
def D_bh106 : DT := (mkD iX12_behindOne fX12 lX12 kX12 kkX12 412 [] (w_bh106, [], [], 8, 0, 0, 3) false 4 u_bh106)
theorem k_bh106 : chkS D_bh106 4000 0 0 106 = true := by decide +kernel
theorem s_bh106 {X0 : zC0} {E : zCx} (H : ∀ j, j < 412 → CMj X0 j) (hE : zOk E X0 RX12 cX12_behindOne 4 (zrm 8 0 0)) {K : Nat → Nat} {B : Int} {L : List Nat} {f : Nat → va_E} (hh : hok X0.2.2.1 K B L f) {v0 v1 : Int} {r0 : Nat} (hb0 : 41 ≤ v0 ∧ v0 ≤ 2147483647) (hb1 : 0 ≤ v1 ∧ v1 ≤ 1) (hr0 : r0 ∈ L ∧ K r0 = 200) (k109 : ∀ (K' : Nat → Nat) (B' : Int) (L' : List Nat) (f' : Nat → va_E), hok X0.2.2.1 K' B' L' f' → extC [] K B L f K' B' L' f' → (41 ≤ v0 ∧ v0 ≤ 2147483647) → (1 ≤ v1 ∧ v1 ≤ 1) → (r0 ∈ L' ∧ K' r0 = 200) → eW E 0 0 L' f' 109 [(0, .ref r0), (1, .int (Int32.ofInt (-1))), (2, .int (Int32.ofInt v0))] []) (k113 : ∀ (K' : Nat → Nat) (B' : Int) (L' : List Nat) (f' : Nat → va_E), hok X0.2.2.1 K' B' L' f' → extC [] K B L f K' B' L' f' → (41 ≤ v0 ∧ v0 ≤ 2147483647) → (0 ≤ v1 ∧ v1 ≤ 0) → (r0 ∈ L' ∧ K' r0 = 200) → eW E 0 0 L' f' 113 [(0, .ref r0), (1, .int (Int32.ofInt (-1))), (2, .int (Int32.ofInt v0))] []) : eW E 0 0 L f 106 [(0, .ref r0), (1, .int (Int32.ofInt (-1))), (2, .int (Int32.ofInt v0))] [.int (Int32.ofInt v1)] := by
  obtain ⟨l0, D0, cy0, ax0⟩ := X0
  have hraw : eW E 0 0 L f 106 [(0, .ref r0), (1, .int (Int32.ofInt ((-1) + 0))), (2, .int (Int32.ofInt (0 + (1 * v0 + 0))))] [.int (Int32.ofInt (0 + (1 * v1 + 0)))] := ?_
  · simpa only [Int.zero_add, Int.one_mul, Int.add_zero] using hraw
  refine seg_ok (D := D_bh106) (νi := fun i => [v0, v1].getD i 0) (μi := fun i => [r0].getD i 0) k_bh106 hE (mk_ok (ins := iX12_behindOne) jX12_behindOne fX12_ok lX12_ok kX12_ok kkX12_ok H) (by decide) rfl rfl rfl rfl hh ?_ ?_
  · refine ⟨(eok_of (fun i q hq => ?_) (fun i hi => ?_)), fa0, fa0, ?_, fa0, fa0, fa0⟩
    · match i, hq with
      | 0, hq => cases hq; exact hb0
      | 1, hq => cases hq; exact hb1
      | i + 2, hq => cases hq
    · match i, hi with
      | 0, hi => exact absurd hi (by decide)
      | 1, hi => exact absurd hi (by decide)
      | i + 2, _ => rfl
    · intro i k hk
      match i, hk with
      | 0, hk => cases hk; exact hr0
      | i + 1, hk => cases hk
  · intro q hq hst K' B' L' f' ν μ h1 h2 h3 h4 h5
    have e0 : ν 0 = v0 := h4 0 (by decide)
    have e1 : ν 1 = v1 := h4 1 (by decide)
    have d0 : μ 0 = r0 := h5 0 (by decide)
    subst e0
    subst e1
    subst d0
    replace hq : q ∈ u_bh106 := hq
    unfold u_bh106 at hq
    simp only [List.mem_cons, List.not_mem_nil, or_false] at hq
    rcases hq with rfl | rfl
    · have hst2 : eW E 0 0 L' f' 109 [(0, .ref (μ 0)), (1, .int (Int32.ofInt ((-1) + 0))), (2, .int (Int32.ofInt (0 + (1 * ν 0 + 0))))] [] := ?_
      · exact hst2
      try simp only [Int.zero_add, Int.one_mul, Int.add_zero]
      exact k109 K' B' L' f'   h1 h2 (h3.1 0) (h3.1 1) (h3.2.2.2.1 0 200 rfl)
    · have hst2 : eW E 0 0 L' f' 113 [(0, .ref (μ 0)), (1, .int (Int32.ofInt ((-1) + 0))), (2, .int (Int32.ofInt (0 + (1 * ν 0 + 0))))] [] := ?_
      · exact hst2
      try simp only [Int.zero_add, Int.one_mul, Int.add_zero]
      exact k113 K' B' L' f'   h1 h2 (h3.1 0) (h3.1 1) (h3.2.2.2.1 0 200 rfl)

/-! bh68: from 68 to [121] -/
def w_bh68 : TP := ([(0, (2, 0, (0, []))), (1, (0, 0, ((-1), []))), (2, (0, 0, (0, [(1, 0)])))], [], ([((-2147483648), 2147483647)], [], [], [200], [], [], []), [], [])
def u_bh68 : List (Nat × TP × EX × Nat × Nat) := [(121, ([(0, (2, 0, (0, []))), (1, (0, 0, ((-1), []))), (2, (0, 0, (0, [(1, 0)]))), (3, (0, 0, (1, [])))], [(0, 0, (0, [(1, 0)])), (2, 0, (0, []))], ([((-2147483648), 2147483647)], [], [], [200], [], [], []), [], []), ((-1), []), 0, 0)]
def D_bh68 : DT := (mkD iX12_behindOne fX12 lX12 kX12 kkX12 412 [] (w_bh68, [], [], 8, 0, 0, 3) false 4 u_bh68)
theorem k_bh68 : chkS D_bh68 4000 0 0 68 = true := by decide +kernel
theorem s_bh68 {X0 : zC0} {E : zCx} (H : ∀ j, j < 412 → CMj X0 j) (hE : zOk E X0 RX12 cX12_behindOne 4 (zrm 8 0 0)) {K : Nat → Nat} {B : Int} {L : List Nat} {f : Nat → va_E} (hh : hok X0.2.2.1 K B L f) {v0 : Int} {r0 : Nat} (hb0 : (-2147483648) ≤ v0 ∧ v0 ≤ 2147483647) (hr0 : r0 ∈ L ∧ K r0 = 200) (k121 : ∀ (K' : Nat → Nat) (B' : Int) (L' : List Nat) (f' : Nat → va_E), hok X0.2.2.1 K' B' L' f' → extC [] K B L f K' B' L' f' → ((-2147483648) ≤ v0 ∧ v0 ≤ 2147483647) → (r0 ∈ L' ∧ K' r0 = 200) → eW E 0 0 L' f' 121 [(0, .ref r0), (1, .int (Int32.ofInt (-1))), (2, .int (Int32.ofInt v0)), (3, .int (Int32.ofInt 1))] [.int (Int32.ofInt v0), .ref r0]) : eW E 0 0 L f 68 [(0, .ref r0), (1, .int (Int32.ofInt (-1))), (2, .int (Int32.ofInt v0))] [] := by
  obtain ⟨l0, D0, cy0, ax0⟩ := X0
  have hraw : eW E 0 0 L f 68 [(0, .ref r0), (1, .int (Int32.ofInt ((-1) + 0))), (2, .int (Int32.ofInt (0 + (1 * v0 + 0))))] [] := ?_
  · simpa only [Int.zero_add, Int.one_mul, Int.add_zero] using hraw
  refine seg_ok (D := D_bh68) (νi := fun i => [v0].getD i 0) (μi := fun i => [r0].getD i 0) k_bh68 hE (mk_ok (ins := iX12_behindOne) jX12_behindOne fX12_ok lX12_ok kX12_ok kkX12_ok H) (by decide) rfl rfl rfl rfl hh ?_ ?_
  · refine ⟨(eok_of (fun i q hq => ?_) (fun i hi => ?_)), fa0, fa0, ?_, fa0, fa0, fa0⟩
    · match i, hq with
      | 0, hq => cases hq; exact hb0
      | i + 1, hq => cases hq
    · match i, hi with
      | 0, hi => exact absurd hi (by decide)
      | i + 1, _ => rfl
    · intro i k hk
      match i, hk with
      | 0, hk => cases hk; exact hr0
      | i + 1, hk => cases hk
  · intro q hq hst K' B' L' f' ν μ h1 h2 h3 h4 h5
    have e0 : ν 0 = v0 := h4 0 (by decide)
    have d0 : μ 0 = r0 := h5 0 (by decide)
    subst e0
    subst d0
    replace hq : q ∈ u_bh68 := hq
    unfold u_bh68 at hq
    simp only [List.mem_cons, List.not_mem_nil, or_false] at hq
    rcases hq with rfl
    · have hst2 : eW E 0 0 L' f' 121 [(0, .ref (μ 0)), (1, .int (Int32.ofInt ((-1) + 0))), (2, .int (Int32.ofInt (0 + (1 * ν 0 + 0)))), (3, .int (Int32.ofInt (1 + 0)))] [.int (Int32.ofInt (0 + (1 * ν 0 + 0))), .ref (μ 0)] := ?_
      · exact hst2
      try simp only [Int.zero_add, Int.one_mul, Int.add_zero]
      exact k121 K' B' L' f'   h1 h2 (h3.1 0) (h3.2.2.2.1 0 200 rfl)

/-! bh109: from 109 to [121] -/
def w_bh109 : TP := ([(0, (2, 0, (0, []))), (1, (0, 0, ((-1), []))), (2, (0, 0, (0, [(1, 0)])))], [], ([((-2147483648), 2147483647)], [], [], [200], [], [], []), [], [])
def u_bh109 : List (Nat × TP × EX × Nat × Nat) := [(121, ([(0, (2, 0, (0, []))), (1, (0, 0, ((-1), []))), (2, (0, 0, (0, [(1, 0)]))), (3, (0, 0, (1, [])))], [(0, 0, (0, [(1, 0)])), (2, 0, (0, []))], ([((-2147483648), 2147483647)], [], [], [200], [], [], []), [], []), ((-1), []), 0, 0)]
def D_bh109 : DT := (mkD iX12_behindOne fX12 lX12 kX12 kkX12 412 [] (w_bh109, [], [], 8, 0, 0, 3) false 4 u_bh109)
theorem k_bh109 : chkS D_bh109 4000 0 0 109 = true := by decide +kernel
theorem s_bh109 {X0 : zC0} {E : zCx} (H : ∀ j, j < 412 → CMj X0 j) (hE : zOk E X0 RX12 cX12_behindOne 4 (zrm 8 0 0)) {K : Nat → Nat} {B : Int} {L : List Nat} {f : Nat → va_E} (hh : hok X0.2.2.1 K B L f) {v0 : Int} {r0 : Nat} (hb0 : (-2147483648) ≤ v0 ∧ v0 ≤ 2147483647) (hr0 : r0 ∈ L ∧ K r0 = 200) (k121 : ∀ (K' : Nat → Nat) (B' : Int) (L' : List Nat) (f' : Nat → va_E), hok X0.2.2.1 K' B' L' f' → extC [] K B L f K' B' L' f' → ((-2147483648) ≤ v0 ∧ v0 ≤ 2147483647) → (r0 ∈ L' ∧ K' r0 = 200) → eW E 0 0 L' f' 121 [(0, .ref r0), (1, .int (Int32.ofInt (-1))), (2, .int (Int32.ofInt v0)), (3, .int (Int32.ofInt 1))] [.int (Int32.ofInt v0), .ref r0]) : eW E 0 0 L f 109 [(0, .ref r0), (1, .int (Int32.ofInt (-1))), (2, .int (Int32.ofInt v0))] [] := by
  obtain ⟨l0, D0, cy0, ax0⟩ := X0
  have hraw : eW E 0 0 L f 109 [(0, .ref r0), (1, .int (Int32.ofInt ((-1) + 0))), (2, .int (Int32.ofInt (0 + (1 * v0 + 0))))] [] := ?_
  · simpa only [Int.zero_add, Int.one_mul, Int.add_zero] using hraw
  refine seg_ok (D := D_bh109) (νi := fun i => [v0].getD i 0) (μi := fun i => [r0].getD i 0) k_bh109 hE (mk_ok (ins := iX12_behindOne) jX12_behindOne fX12_ok lX12_ok kX12_ok kkX12_ok H) (by decide) rfl rfl rfl rfl hh ?_ ?_
  · refine ⟨(eok_of (fun i q hq => ?_) (fun i hi => ?_)), fa0, fa0, ?_, fa0, fa0, fa0⟩
    · match i, hq with
      | 0, hq => cases hq; exact hb0
      | i + 1, hq => cases hq
    · match i, hi with
      | 0, hi => exact absurd hi (by decide)
      | i + 1, _ => rfl
    · intro i k hk
      match i, hk with
      | 0, hk => cases hk; exact hr0
      | i + 1, hk => cases hk
  · intro q hq hst K' B' L' f' ν μ h1 h2 h3 h4 h5
    have e0 : ν 0 = v0 := h4 0 (by decide)
    have d0 : μ 0 = r0 := h5 0 (by decide)
    subst e0
    subst d0
    replace hq : q ∈ u_bh109 := hq
    unfold u_bh109 at hq
    simp only [List.mem_cons, List.not_mem_nil, or_false] at hq
    rcases hq with rfl
    · have hst2 : eW E 0 0 L' f' 121 [(0, .ref (μ 0)), (1, .int (Int32.ofInt ((-1) + 0))), (2, .int (Int32.ofInt (0 + (1 * ν 0 + 0)))), (3, .int (Int32.ofInt (1 + 0)))] [.int (Int32.ofInt (0 + (1 * ν 0 + 0))), .ref (μ 0)] := ?_
      · exact hst2
      try simp only [Int.zero_add, Int.one_mul, Int.add_zero]
      exact k121 K' B' L' f'   h1 h2 (h3.1 0) (h3.2.2.2.1 0 200 rfl)

/-! bh72: from 72 to [125] -/
def w_bh72 : TP := ([(0, (2, 0, (0, []))), (1, (0, 0, ((-1), []))), (2, (0, 0, (0, [(1, 0)])))], [], ([((-2147483648), 2147483647)], [], [], [200], [], [], []), [], [])
def u_bh72 : List (Nat × TP × EX × Nat × Nat) := [(125, ([(0, (2, 0, (0, []))), (1, (0, 0, ((-1), []))), (2, (0, 0, (0, [(1, 0)]))), (3, (0, 0, (0, [])))], [(0, 0, (0, []))], ([((-2147483648), 2147483647)], [], [], [200], [], [], []), [], []), ((-1), []), 0, 0)]
def D_bh72 : DT := (mkD iX12_behindOne fX12 lX12 kX12 kkX12 412 [] (w_bh72, [], [], 8, 0, 0, 3) false 4 u_bh72)
theorem k_bh72 : chkS D_bh72 4000 0 0 72 = true := by decide +kernel
theorem s_bh72 {X0 : zC0} {E : zCx} (H : ∀ j, j < 412 → CMj X0 j) (hE : zOk E X0 RX12 cX12_behindOne 4 (zrm 8 0 0)) {K : Nat → Nat} {B : Int} {L : List Nat} {f : Nat → va_E} (hh : hok X0.2.2.1 K B L f) {v0 : Int} {r0 : Nat} (hb0 : (-2147483648) ≤ v0 ∧ v0 ≤ 2147483647) (hr0 : r0 ∈ L ∧ K r0 = 200) (k125 : ∀ (K' : Nat → Nat) (B' : Int) (L' : List Nat) (f' : Nat → va_E), hok X0.2.2.1 K' B' L' f' → extC [] K B L f K' B' L' f' → ((-2147483648) ≤ v0 ∧ v0 ≤ 2147483647) → (r0 ∈ L' ∧ K' r0 = 200) → eW E 0 0 L' f' 125 [(0, .ref r0), (1, .int (Int32.ofInt (-1))), (2, .int (Int32.ofInt v0)), (3, .int (Int32.ofInt 0))] [.int (Int32.ofInt 0)]) : eW E 0 0 L f 72 [(0, .ref r0), (1, .int (Int32.ofInt (-1))), (2, .int (Int32.ofInt v0))] [] := by
  obtain ⟨l0, D0, cy0, ax0⟩ := X0
  have hraw : eW E 0 0 L f 72 [(0, .ref r0), (1, .int (Int32.ofInt ((-1) + 0))), (2, .int (Int32.ofInt (0 + (1 * v0 + 0))))] [] := ?_
  · simpa only [Int.zero_add, Int.one_mul, Int.add_zero] using hraw
  refine seg_ok (D := D_bh72) (νi := fun i => [v0].getD i 0) (μi := fun i => [r0].getD i 0) k_bh72 hE (mk_ok (ins := iX12_behindOne) jX12_behindOne fX12_ok lX12_ok kX12_ok kkX12_ok H) (by decide) rfl rfl rfl rfl hh ?_ ?_
  · refine ⟨(eok_of (fun i q hq => ?_) (fun i hi => ?_)), fa0, fa0, ?_, fa0, fa0, fa0⟩
    · match i, hq with
      | 0, hq => cases hq; exact hb0
      | i + 1, hq => cases hq
    · match i, hi with
      | 0, hi => exact absurd hi (by decide)
      | i + 1, _ => rfl
    · intro i k hk
      match i, hk with
      | 0, hk => cases hk; exact hr0
      | i + 1, hk => cases hk
  · intro q hq hst K' B' L' f' ν μ h1 h2 h3 h4 h5
    have e0 : ν 0 = v0 := h4 0 (by decide)
    have d0 : μ 0 = r0 := h5 0 (by decide)
    subst e0
    subst d0
    replace hq : q ∈ u_bh72 := hq
    unfold u_bh72 at hq
    simp only [List.mem_cons, List.not_mem_nil, or_false] at hq
    rcases hq with rfl
    · have hst2 : eW E 0 0 L' f' 125 [(0, .ref (μ 0)), (1, .int (Int32.ofInt ((-1) + 0))), (2, .int (Int32.ofInt (0 + (1 * ν 0 + 0)))), (3, .int (Int32.ofInt (0 + 0)))] [.int (Int32.ofInt (0 + 0))] := ?_
      · exact hst2
      try simp only [Int.zero_add, Int.one_mul, Int.add_zero]
      exact k125 K' B' L' f'   h1 h2 (h3.1 0) (h3.2.2.2.1 0 200 rfl)

/-! bh113: from 113 to [125] -/
def w_bh113 : TP := ([(0, (2, 0, (0, []))), (1, (0, 0, ((-1), []))), (2, (0, 0, (0, [(1, 0)])))], [], ([((-2147483648), 2147483647)], [], [], [200], [], [], []), [], [])
def u_bh113 : List (Nat × TP × EX × Nat × Nat) := [(125, ([(0, (2, 0, (0, []))), (1, (0, 0, ((-1), []))), (2, (0, 0, (0, [(1, 0)]))), (3, (0, 0, (0, [])))], [(0, 0, (0, []))], ([((-2147483648), 2147483647)], [], [], [200], [], [], []), [], []), ((-1), []), 0, 0)]
def D_bh113 : DT := (mkD iX12_behindOne fX12 lX12 kX12 kkX12 412 [] (w_bh113, [], [], 8, 0, 0, 3) false 4 u_bh113)
theorem k_bh113 : chkS D_bh113 4000 0 0 113 = true := by decide +kernel
theorem s_bh113 {X0 : zC0} {E : zCx} (H : ∀ j, j < 412 → CMj X0 j) (hE : zOk E X0 RX12 cX12_behindOne 4 (zrm 8 0 0)) {K : Nat → Nat} {B : Int} {L : List Nat} {f : Nat → va_E} (hh : hok X0.2.2.1 K B L f) {v0 : Int} {r0 : Nat} (hb0 : (-2147483648) ≤ v0 ∧ v0 ≤ 2147483647) (hr0 : r0 ∈ L ∧ K r0 = 200) (k125 : ∀ (K' : Nat → Nat) (B' : Int) (L' : List Nat) (f' : Nat → va_E), hok X0.2.2.1 K' B' L' f' → extC [] K B L f K' B' L' f' → ((-2147483648) ≤ v0 ∧ v0 ≤ 2147483647) → (r0 ∈ L' ∧ K' r0 = 200) → eW E 0 0 L' f' 125 [(0, .ref r0), (1, .int (Int32.ofInt (-1))), (2, .int (Int32.ofInt v0)), (3, .int (Int32.ofInt 0))] [.int (Int32.ofInt 0)]) : eW E 0 0 L f 113 [(0, .ref r0), (1, .int (Int32.ofInt (-1))), (2, .int (Int32.ofInt v0))] [] := by
  obtain ⟨l0, D0, cy0, ax0⟩ := X0
  have hraw : eW E 0 0 L f 113 [(0, .ref r0), (1, .int (Int32.ofInt ((-1) + 0))), (2, .int (Int32.ofInt (0 + (1 * v0 + 0))))] [] := ?_
  · simpa only [Int.zero_add, Int.one_mul, Int.add_zero] using hraw
  refine seg_ok (D := D_bh113) (νi := fun i => [v0].getD i 0) (μi := fun i => [r0].getD i 0) k_bh113 hE (mk_ok (ins := iX12_behindOne) jX12_behindOne fX12_ok lX12_ok kX12_ok kkX12_ok H) (by decide) rfl rfl rfl rfl hh ?_ ?_
  · refine ⟨(eok_of (fun i q hq => ?_) (fun i hi => ?_)), fa0, fa0, ?_, fa0, fa0, fa0⟩
    · match i, hq with
      | 0, hq => cases hq; exact hb0
      | i + 1, hq => cases hq
    · match i, hi with
      | 0, hi => exact absurd hi (by decide)
      | i + 1, _ => rfl
    · intro i k hk
      match i, hk with
      | 0, hk => cases hk; exact hr0
      | i + 1, hk => cases hk
  · intro q hq hst K' B' L' f' ν μ h1 h2 h3 h4 h5
    have e0 : ν 0 = v0 := h4 0 (by decide)
    have d0 : μ 0 = r0 := h5 0 (by decide)
    subst e0
    subst d0
    replace hq : q ∈ u_bh113 := hq
    unfold u_bh113 at hq
    simp only [List.mem_cons, List.not_mem_nil, or_false] at hq
    rcases hq with rfl
    · have hst2 : eW E 0 0 L' f' 125 [(0, .ref (μ 0)), (1, .int (Int32.ofInt ((-1) + 0))), (2, .int (Int32.ofInt (0 + (1 * ν 0 + 0)))), (3, .int (Int32.ofInt (0 + 0)))] [.int (Int32.ofInt (0 + 0))] := ?_
      · exact hst2
      try simp only [Int.zero_add, Int.one_mul, Int.add_zero]
      exact k125 K' B' L' f'   h1 h2 (h3.1 0) (h3.2.2.2.1 0 200 rfl)

/-! bh124: from 124 to [125] -/
def w_bh124 : TP := ([(0, (2, 0, (0, []))), (1, (0, 0, ((-1), []))), (2, (0, 0, (0, [(1, 0)]))), (3, (0, 0, (1, [])))], [], ([((-2147483648), 2147483647)], [], [], [200], [], [], []), [], [])
def u_bh124 : List (Nat × TP × EX × Nat × Nat) := [(125, ([(0, (2, 0, (0, []))), (1, (0, 0, ((-1), []))), (2, (0, 0, (0, [(1, 0)]))), (3, (0, 0, (1, [])))], [(0, 0, (1, []))], ([((-2147483648), 2147483647)], [], [], [200], [], [], []), [], []), ((-1), []), 0, 0)]
def D_bh124 : DT := (mkD iX12_behindOne fX12 lX12 kX12 kkX12 412 [] (w_bh124, [], [], 8, 0, 0, 3) false 4 u_bh124)
theorem k_bh124 : chkS D_bh124 4000 0 0 124 = true := by decide +kernel
theorem s_bh124 {X0 : zC0} {E : zCx} (H : ∀ j, j < 412 → CMj X0 j) (hE : zOk E X0 RX12 cX12_behindOne 4 (zrm 8 0 0)) {K : Nat → Nat} {B : Int} {L : List Nat} {f : Nat → va_E} (hh : hok X0.2.2.1 K B L f) {v0 : Int} {r0 : Nat} (hb0 : (-2147483648) ≤ v0 ∧ v0 ≤ 2147483647) (hr0 : r0 ∈ L ∧ K r0 = 200) (k125 : ∀ (K' : Nat → Nat) (B' : Int) (L' : List Nat) (f' : Nat → va_E), hok X0.2.2.1 K' B' L' f' → extC [] K B L f K' B' L' f' → ((-2147483648) ≤ v0 ∧ v0 ≤ 2147483647) → (r0 ∈ L' ∧ K' r0 = 200) → eW E 0 0 L' f' 125 [(0, .ref r0), (1, .int (Int32.ofInt (-1))), (2, .int (Int32.ofInt v0)), (3, .int (Int32.ofInt 1))] [.int (Int32.ofInt 1)]) : eW E 0 0 L f 124 [(0, .ref r0), (1, .int (Int32.ofInt (-1))), (2, .int (Int32.ofInt v0)), (3, .int (Int32.ofInt 1))] [] := by
  obtain ⟨l0, D0, cy0, ax0⟩ := X0
  have hraw : eW E 0 0 L f 124 [(0, .ref r0), (1, .int (Int32.ofInt ((-1) + 0))), (2, .int (Int32.ofInt (0 + (1 * v0 + 0)))), (3, .int (Int32.ofInt (1 + 0)))] [] := ?_
  · simpa only [Int.zero_add, Int.one_mul, Int.add_zero] using hraw
  refine seg_ok (D := D_bh124) (νi := fun i => [v0].getD i 0) (μi := fun i => [r0].getD i 0) k_bh124 hE (mk_ok (ins := iX12_behindOne) jX12_behindOne fX12_ok lX12_ok kX12_ok kkX12_ok H) (by decide) rfl rfl rfl rfl hh ?_ ?_
  · refine ⟨(eok_of (fun i q hq => ?_) (fun i hi => ?_)), fa0, fa0, ?_, fa0, fa0, fa0⟩
    · match i, hq with
      | 0, hq => cases hq; exact hb0
      | i + 1, hq => cases hq
    · match i, hi with
      | 0, hi => exact absurd hi (by decide)
      | i + 1, _ => rfl
    · intro i k hk
      match i, hk with
      | 0, hk => cases hk; exact hr0
      | i + 1, hk => cases hk
  · intro q hq hst K' B' L' f' ν μ h1 h2 h3 h4 h5
    have e0 : ν 0 = v0 := h4 0 (by decide)
    have d0 : μ 0 = r0 := h5 0 (by decide)
    subst e0
    subst d0
    replace hq : q ∈ u_bh124 := hq
    unfold u_bh124 at hq
    simp only [List.mem_cons, List.not_mem_nil, or_false] at hq
    rcases hq with rfl
    · have hst2 : eW E 0 0 L' f' 125 [(0, .ref (μ 0)), (1, .int (Int32.ofInt ((-1) + 0))), (2, .int (Int32.ofInt (0 + (1 * ν 0 + 0)))), (3, .int (Int32.ofInt (1 + 0)))] [.int (Int32.ofInt (1 + 0))] := ?_
      · exact hst2
      try simp only [Int.zero_add, Int.one_mul, Int.add_zero]
      exact k125 K' B' L' f'   h1 h2 (h3.1 0) (h3.2.2.2.1 0 200 rfl)

/-! sm0: from 0 to [20] -/
def w_sm0 : TP := ([(0, (2, 0, (0, [])))], [], ([], [], [], [200], [], [], []), [], [])
def u_sm0 : List (Nat × TP × EX × Nat × Nat) := [(20, ([(0, (2, 0, (0, [])))], [], ([], [], [], [200], [((200, (20, [])), (0, [])), ((200, (19, [])), (0, [])), ((200, (18, [])), (0, [])), ((200, (17, [])), (0, []))], [], []), [], []), ((-1), []), 0, 0)]
def D_sm0 : DT := (mkD iX12_summed fX12 lX12 kX12 kkX12 412 [] (w_sm0, [(200, 17), (200, 18), (200, 19), (200, 20)], [], 9, 0, 0, 3) false 2 u_sm0)
theorem k_sm0 : chkS D_sm0 4000 0 0 0 = true := by decide +kernel
theorem s_sm0 {X0 : zC0} {E : zCx} (H : ∀ j, j < 412 → CMj X0 j) (hE : zOk E X0 RX12 cX12_summed 2 (zrm 9 0 0)) {K : Nat → Nat} {B : Int} {L : List Nat} {f : Nat → va_E} (hh : hok X0.2.2.1 K B L f) {r0 : Nat} (hr0 : r0 ∈ L ∧ K r0 = 200) (k20 : ∀ (K' : Nat → Nat) (B' : Int) (L' : List Nat) (f' : Nat → va_E), hok X0.2.2.1 K' B' L' f' → extC [(200, 17), (200, 18), (200, 19), (200, 20)] K B L f K' B' L' f' → (r0 ∈ L' ∧ K' r0 = 200) → (∀ b ∈ L', K' b = 200 → gi (f' b) 20 = 0) → (∀ b ∈ L', K' b = 200 → gi (f' b) 19 = 0) → (∀ b ∈ L', K' b = 200 → gi (f' b) 18 = 0) → (∀ b ∈ L', K' b = 200 → gi (f' b) 17 = 0) → eW E 0 0 L' f' 20 [(0, .ref r0)] []) : eW E 0 0 L f 0 [(0, .ref r0)] [] := by
  obtain ⟨l0, D0, cy0, ax0⟩ := X0
  have hraw : eW E 0 0 L f 0 [(0, .ref r0)] [] := ?_
  · simpa only [Int.zero_add, Int.one_mul, Int.add_zero] using hraw
  refine seg_ok (D := D_sm0) (νi := fun i => [].getD i 0) (μi := fun i => [r0].getD i 0) k_sm0 hE (mk_ok (ins := iX12_summed) jX12_summed fX12_ok lX12_ok kX12_ok kkX12_ok H) (by decide) rfl rfl rfl rfl hh ?_ ?_
  · refine ⟨(eok_of (fun i q hq => by cases hq) (fun i _ => rfl)), fa0, fa0, ?_, fa0, fa0, fa0⟩
    · intro i k hk
      match i, hk with
      | 0, hk => cases hk; exact hr0
      | i + 1, hk => cases hk
  · intro q hq hst K' B' L' f' ν μ h1 h2 h3 h4 h5
    have d0 : μ 0 = r0 := h5 0 (by decide)
    subst d0
    replace hq : q ∈ u_sm0 := hq
    unfold u_sm0 at hq
    simp only [List.mem_cons, List.not_mem_nil, or_false] at hq
    rcases hq with rfl
    · have hst2 : eW E 0 0 L' f' 20 [(0, .ref (μ 0))] [] := ?_
      · exact hst2
      try simp only [Int.zero_add, Int.one_mul, Int.add_zero]
      exact k20 K' B' L' f'   h1 h2 (h3.2.2.2.1 0 200 rfl) (by simpa only [xv, xvT, Int.zero_add, Int.one_mul, Int.add_zero] using (mokF h1 (show (zkd 200).1 = 1 by decide) (j := 20) rfl (by decide) (h3.2.2.2.2.1 _ (List.mem_of_getElem? (i := 0) rfl)))) (by simpa only [xv, xvT, Int.zero_add, Int.one_mul, Int.add_zero] using (mokF h1 (show (zkd 200).1 = 1 by decide) (j := 19) rfl (by decide) (h3.2.2.2.2.1 _ (List.mem_of_getElem? (i := 1) rfl)))) (by simpa only [xv, xvT, Int.zero_add, Int.one_mul, Int.add_zero] using (mokF h1 (show (zkd 200).1 = 1 by decide) (j := 18) rfl (by decide) (h3.2.2.2.2.1 _ (List.mem_of_getElem? (i := 2) rfl)))) (by simpa only [xv, xvT, Int.zero_add, Int.one_mul, Int.add_zero] using (mokF h1 (show (zkd 200).1 = 1 by decide) (j := 17) rfl (by decide) (h3.2.2.2.2.1 _ (List.mem_of_getElem? (i := 3) rfl))))

/-! sm20: from 20 to [28, 54] -/
def w_sm20 : TP := ([(0, (2, 0, (0, [])))], [], ([], [], [], [200], [], [], []), [], [])
def u_sm20 : List (Nat × TP × EX × Nat × Nat) := [(28, ([(0, (2, 0, (0, [])))], [(2, 0, (0, []))], ([(1, 1)], [], [], [200], [((200, (20, [])), (0, [(1, 0)]))], [], []), [(2, 200, (20, []))], []), ((-1), []), 0, 0), (54, ([(0, (2, 0, (0, [])))], [(2, 0, (0, []))], ([(0, 0)], [], [], [200], [((200, (20, [])), (0, [(1, 0)]))], [], []), [(2, 200, (20, []))], []), ((-1), []), 0, 0)]
def D_sm20 : DT := (mkD iX12_summed fX12 lX12 kX12 kkX12 412 [] (w_sm20, [], [], 9, 0, 0, 3) false 2 u_sm20)
theorem k_sm20 : chkS D_sm20 4000 0 0 20 = true := by decide +kernel
theorem s_sm20 {X0 : zC0} {E : zCx} (H : ∀ j, j < 412 → CMj X0 j) (hE : zOk E X0 RX12 cX12_summed 2 (zrm 9 0 0)) {K : Nat → Nat} {B : Int} {L : List Nat} {f : Nat → va_E} (hh : hok X0.2.2.1 K B L f) {r0 : Nat} (hr0 : r0 ∈ L ∧ K r0 = 200) (k28 : ∀ (K' : Nat → Nat) (B' : Int) (L' : List Nat) (f' : Nat → va_E) (v0 : Int), hok X0.2.2.1 K' B' L' f' → extC [] K B L f K' B' L' f' → (1 ≤ v0 ∧ v0 ≤ 1) → (r0 ∈ L' ∧ K' r0 = 200) → (∀ b ∈ L', K' b = 200 → gi (f' b) 20 = v0) → eW E 0 0 L' f' 28 [(0, .ref r0)] [.ref r0]) (k54 : ∀ (K' : Nat → Nat) (B' : Int) (L' : List Nat) (f' : Nat → va_E) (v0 : Int), hok X0.2.2.1 K' B' L' f' → extC [] K B L f K' B' L' f' → (0 ≤ v0 ∧ v0 ≤ 0) → (r0 ∈ L' ∧ K' r0 = 200) → (∀ b ∈ L', K' b = 200 → gi (f' b) 20 = v0) → eW E 0 0 L' f' 54 [(0, .ref r0)] [.ref r0]) : eW E 0 0 L f 20 [(0, .ref r0)] [] := by
  obtain ⟨l0, D0, cy0, ax0⟩ := X0
  have hraw : eW E 0 0 L f 20 [(0, .ref r0)] [] := ?_
  · simpa only [Int.zero_add, Int.one_mul, Int.add_zero] using hraw
  refine seg_ok (D := D_sm20) (νi := fun i => [].getD i 0) (μi := fun i => [r0].getD i 0) k_sm20 hE (mk_ok (ins := iX12_summed) jX12_summed fX12_ok lX12_ok kX12_ok kkX12_ok H) (by decide) rfl rfl rfl rfl hh ?_ ?_
  · refine ⟨(eok_of (fun i q hq => by cases hq) (fun i _ => rfl)), fa0, fa0, ?_, fa0, fa0, fa0⟩
    · intro i k hk
      match i, hk with
      | 0, hk => cases hk; exact hr0
      | i + 1, hk => cases hk
  · intro q hq hst K' B' L' f' ν μ h1 h2 h3 h4 h5
    have d0 : μ 0 = r0 := h5 0 (by decide)
    subst d0
    replace hq : q ∈ u_sm20 := hq
    unfold u_sm20 at hq
    simp only [List.mem_cons, List.not_mem_nil, or_false] at hq
    rcases hq with rfl | rfl
    · have hst2 : eW E 0 0 L' f' 28 [(0, .ref (μ 0))] [.ref (μ 0)] := ?_
      · exact hst2
      try simp only [Int.zero_add, Int.one_mul, Int.add_zero]
      exact k28 K' B' L' f' (ν 0)  h1 h2 (h3.1 0) (h3.2.2.2.1 0 200 rfl) (by simpa only [xv, xvT, Int.zero_add, Int.one_mul, Int.add_zero] using (mokF h1 (show (zkd 200).1 = 1 by decide) (j := 20) rfl (by decide) (h3.2.2.2.2.1 _ (List.mem_of_getElem? (i := 0) rfl))))
    · have hst2 : eW E 0 0 L' f' 54 [(0, .ref (μ 0))] [.ref (μ 0)] := ?_
      · exact hst2
      try simp only [Int.zero_add, Int.one_mul, Int.add_zero]
      exact k54 K' B' L' f' (ν 0)  h1 h2 (h3.1 0) (h3.2.2.2.1 0 200 rfl) (by simpa only [xv, xvT, Int.zero_add, Int.one_mul, Int.add_zero] using (mokF h1 (show (zkd 200).1 = 1 by decide) (j := 20) rfl (by decide) (h3.2.2.2.2.1 _ (List.mem_of_getElem? (i := 0) rfl))))

/-! sm31: from 31 to [20, 38] -/
def w_sm31 : TP := ([(0, (2, 0, (0, [])))], [(0, 0, (0, [(1, 0)]))], ([(0, 1)], [], [], [200], [], [], []), [], [])
def u_sm31 : List (Nat × TP × EX × Nat × Nat) := [(20, ([(0, (2, 0, (0, [])))], [], ([(1, 1)], [], [], [200], [], [], []), [], []), ((-1), []), 0, 0), (38, ([(0, (2, 0, (0, [])))], [(2, 0, (0, []))], ([(0, 0)], [], [], [200], [], [], []), [], []), ((-1), []), 0, 0)]
def D_sm31 : DT := (mkD iX12_summed fX12 lX12 kX12 kkX12 412 [] (w_sm31, [], [], 9, 0, 0, 3) false 2 u_sm31)
theorem k_sm31 : chkS D_sm31 4000 0 0 31 = true := by decide +kernel
theorem s_sm31 {X0 : zC0} {E : zCx} (H : ∀ j, j < 412 → CMj X0 j) (hE : zOk E X0 RX12 cX12_summed 2 (zrm 9 0 0)) {K : Nat → Nat} {B : Int} {L : List Nat} {f : Nat → va_E} (hh : hok X0.2.2.1 K B L f) {v0 : Int} {r0 : Nat} (hb0 : 0 ≤ v0 ∧ v0 ≤ 1) (hr0 : r0 ∈ L ∧ K r0 = 200) (k20 : ∀ (K' : Nat → Nat) (B' : Int) (L' : List Nat) (f' : Nat → va_E), hok X0.2.2.1 K' B' L' f' → extC [] K B L f K' B' L' f' → (1 ≤ v0 ∧ v0 ≤ 1) → (r0 ∈ L' ∧ K' r0 = 200) → eW E 0 0 L' f' 20 [(0, .ref r0)] []) (k38 : ∀ (K' : Nat → Nat) (B' : Int) (L' : List Nat) (f' : Nat → va_E), hok X0.2.2.1 K' B' L' f' → extC [] K B L f K' B' L' f' → (0 ≤ v0 ∧ v0 ≤ 0) → (r0 ∈ L' ∧ K' r0 = 200) → eW E 0 0 L' f' 38 [(0, .ref r0)] [.ref r0]) : eW E 0 0 L f 31 [(0, .ref r0)] [.int (Int32.ofInt v0)] := by
  obtain ⟨l0, D0, cy0, ax0⟩ := X0
  have hraw : eW E 0 0 L f 31 [(0, .ref r0)] [.int (Int32.ofInt (0 + (1 * v0 + 0)))] := ?_
  · simpa only [Int.zero_add, Int.one_mul, Int.add_zero] using hraw
  refine seg_ok (D := D_sm31) (νi := fun i => [v0].getD i 0) (μi := fun i => [r0].getD i 0) k_sm31 hE (mk_ok (ins := iX12_summed) jX12_summed fX12_ok lX12_ok kX12_ok kkX12_ok H) (by decide) rfl rfl rfl rfl hh ?_ ?_
  · refine ⟨(eok_of (fun i q hq => ?_) (fun i hi => ?_)), fa0, fa0, ?_, fa0, fa0, fa0⟩
    · match i, hq with
      | 0, hq => cases hq; exact hb0
      | i + 1, hq => cases hq
    · match i, hi with
      | 0, hi => exact absurd hi (by decide)
      | i + 1, _ => rfl
    · intro i k hk
      match i, hk with
      | 0, hk => cases hk; exact hr0
      | i + 1, hk => cases hk
  · intro q hq hst K' B' L' f' ν μ h1 h2 h3 h4 h5
    have e0 : ν 0 = v0 := h4 0 (by decide)
    have d0 : μ 0 = r0 := h5 0 (by decide)
    subst e0
    subst d0
    replace hq : q ∈ u_sm31 := hq
    unfold u_sm31 at hq
    simp only [List.mem_cons, List.not_mem_nil, or_false] at hq
    rcases hq with rfl | rfl
    · have hst2 : eW E 0 0 L' f' 20 [(0, .ref (μ 0))] [] := ?_
      · exact hst2
      try simp only [Int.zero_add, Int.one_mul, Int.add_zero]
      exact k20 K' B' L' f'   h1 h2 (h3.1 0) (h3.2.2.2.1 0 200 rfl)
    · have hst2 : eW E 0 0 L' f' 38 [(0, .ref (μ 0))] [.ref (μ 0)] := ?_
      · exact hst2
      try simp only [Int.zero_add, Int.one_mul, Int.add_zero]
      exact k38 K' B' L' f'   h1 h2 (h3.1 0) (h3.2.2.2.1 0 200 rfl)

/-! sm41: from 41 to [45, 48] -/
def w_sm41 : TP := ([(0, (2, 0, (0, [])))], [(0, 0, (0, [(1, 0)]))], ([((-2147483648), 2147483647)], [], [], [200], [], [], []), [], [])
def u_sm41 : List (Nat × TP × EX × Nat × Nat) := [(45, ([(0, (2, 0, (0, [])))], [(0, 0, (1, []))], ([(0, 2147483647)], [], [], [200], [], [], []), [], []), ((-1), []), 0, 0), (48, ([(0, (2, 0, (0, [])))], [(0, 0, (1, [])), (2, 0, (0, []))], ([((-2147483648), (-1))], [], [], [200], [], [], []), [], []), ((-1), []), 0, 0)]
def D_sm41 : DT := (mkD iX12_summed fX12 lX12 kX12 kkX12 412 [] (w_sm41, [], [], 9, 0, 0, 3) false 2 u_sm41)
theorem k_sm41 : chkS D_sm41 4000 0 0 41 = true := by decide +kernel
theorem s_sm41 {X0 : zC0} {E : zCx} (H : ∀ j, j < 412 → CMj X0 j) (hE : zOk E X0 RX12 cX12_summed 2 (zrm 9 0 0)) {K : Nat → Nat} {B : Int} {L : List Nat} {f : Nat → va_E} (hh : hok X0.2.2.1 K B L f) {v0 : Int} {r0 : Nat} (hb0 : (-2147483648) ≤ v0 ∧ v0 ≤ 2147483647) (hr0 : r0 ∈ L ∧ K r0 = 200) (k45 : ∀ (K' : Nat → Nat) (B' : Int) (L' : List Nat) (f' : Nat → va_E), hok X0.2.2.1 K' B' L' f' → extC [] K B L f K' B' L' f' → (0 ≤ v0 ∧ v0 ≤ 2147483647) → (r0 ∈ L' ∧ K' r0 = 200) → eW E 0 0 L' f' 45 [(0, .ref r0)] [.int (Int32.ofInt 1)]) (k48 : ∀ (K' : Nat → Nat) (B' : Int) (L' : List Nat) (f' : Nat → va_E), hok X0.2.2.1 K' B' L' f' → extC [] K B L f K' B' L' f' → ((-2147483648) ≤ v0 ∧ v0 ≤ (-1)) → (r0 ∈ L' ∧ K' r0 = 200) → eW E 0 0 L' f' 48 [(0, .ref r0)] [.int (Int32.ofInt 1), .ref r0]) : eW E 0 0 L f 41 [(0, .ref r0)] [.int (Int32.ofInt v0)] := by
  obtain ⟨l0, D0, cy0, ax0⟩ := X0
  have hraw : eW E 0 0 L f 41 [(0, .ref r0)] [.int (Int32.ofInt (0 + (1 * v0 + 0)))] := ?_
  · simpa only [Int.zero_add, Int.one_mul, Int.add_zero] using hraw
  refine seg_ok (D := D_sm41) (νi := fun i => [v0].getD i 0) (μi := fun i => [r0].getD i 0) k_sm41 hE (mk_ok (ins := iX12_summed) jX12_summed fX12_ok lX12_ok kX12_ok kkX12_ok H) (by decide) rfl rfl rfl rfl hh ?_ ?_
  · refine ⟨(eok_of (fun i q hq => ?_) (fun i hi => ?_)), fa0, fa0, ?_, fa0, fa0, fa0⟩
    · match i, hq with
      | 0, hq => cases hq; exact hb0
      | i + 1, hq => cases hq
    · match i, hi with
      | 0, hi => exact absurd hi (by decide)
      | i + 1, _ => rfl
    · intro i k hk
      match i, hk with
      | 0, hk => cases hk; exact hr0
      | i + 1, hk => cases hk
  · intro q hq hst K' B' L' f' ν μ h1 h2 h3 h4 h5
    have e0 : ν 0 = v0 := h4 0 (by decide)
    have d0 : μ 0 = r0 := h5 0 (by decide)
    subst e0
    subst d0
    replace hq : q ∈ u_sm41 := hq
    unfold u_sm41 at hq
    simp only [List.mem_cons, List.not_mem_nil, or_false] at hq
    rcases hq with rfl | rfl
    · have hst2 : eW E 0 0 L' f' 45 [(0, .ref (μ 0))] [.int (Int32.ofInt (1 + 0))] := ?_
      · exact hst2
      try simp only [Int.zero_add, Int.one_mul, Int.add_zero]
      exact k45 K' B' L' f'   h1 h2 (h3.1 0) (h3.2.2.2.1 0 200 rfl)
    · have hst2 : eW E 0 0 L' f' 48 [(0, .ref (μ 0))] [.int (Int32.ofInt (1 + 0)), .ref (μ 0)] := ?_
      · exact hst2
      try simp only [Int.zero_add, Int.one_mul, Int.add_zero]
      exact k48 K' B' L' f'   h1 h2 (h3.1 0) (h3.2.2.2.1 0 200 rfl)

/-! sm51: from 51 to [52] -/
def w_sm51 : TP := ([(0, (2, 0, (0, [])))], [], ([], [], [], [200], [], [], []), [], [])
def u_sm51 : List (Nat × TP × EX × Nat × Nat) := [(52, ([(0, (2, 0, (0, [])))], [(0, 0, (0, []))], ([], [], [], [200], [], [], []), [], []), ((-1), []), 0, 0)]
def D_sm51 : DT := (mkD iX12_summed fX12 lX12 kX12 kkX12 412 [] (w_sm51, [], [], 9, 0, 0, 3) false 2 u_sm51)
theorem k_sm51 : chkS D_sm51 4000 0 0 51 = true := by decide +kernel
theorem s_sm51 {X0 : zC0} {E : zCx} (H : ∀ j, j < 412 → CMj X0 j) (hE : zOk E X0 RX12 cX12_summed 2 (zrm 9 0 0)) {K : Nat → Nat} {B : Int} {L : List Nat} {f : Nat → va_E} (hh : hok X0.2.2.1 K B L f) {r0 : Nat} (hr0 : r0 ∈ L ∧ K r0 = 200) (k52 : ∀ (K' : Nat → Nat) (B' : Int) (L' : List Nat) (f' : Nat → va_E), hok X0.2.2.1 K' B' L' f' → extC [] K B L f K' B' L' f' → (r0 ∈ L' ∧ K' r0 = 200) → eW E 0 0 L' f' 52 [(0, .ref r0)] [.int (Int32.ofInt 0)]) : eW E 0 0 L f 51 [(0, .ref r0)] [] := by
  obtain ⟨l0, D0, cy0, ax0⟩ := X0
  have hraw : eW E 0 0 L f 51 [(0, .ref r0)] [] := ?_
  · simpa only [Int.zero_add, Int.one_mul, Int.add_zero] using hraw
  refine seg_ok (D := D_sm51) (νi := fun i => [].getD i 0) (μi := fun i => [r0].getD i 0) k_sm51 hE (mk_ok (ins := iX12_summed) jX12_summed fX12_ok lX12_ok kX12_ok kkX12_ok H) (by decide) rfl rfl rfl rfl hh ?_ ?_
  · refine ⟨(eok_of (fun i q hq => by cases hq) (fun i _ => rfl)), fa0, fa0, ?_, fa0, fa0, fa0⟩
    · intro i k hk
      match i, hk with
      | 0, hk => cases hk; exact hr0
      | i + 1, hk => cases hk
  · intro q hq hst K' B' L' f' ν μ h1 h2 h3 h4 h5
    have d0 : μ 0 = r0 := h5 0 (by decide)
    subst d0
    replace hq : q ∈ u_sm51 := hq
    unfold u_sm51 at hq
    simp only [List.mem_cons, List.not_mem_nil, or_false] at hq
    rcases hq with rfl
    · have hst2 : eW E 0 0 L' f' 52 [(0, .ref (μ 0))] [.int (Int32.ofInt (0 + 0))] := ?_
      · exact hst2
      try simp only [Int.zero_add, Int.one_mul, Int.add_zero]
      exact k52 K' B' L' f'   h1 h2 (h3.2.2.2.1 0 200 rfl)

/-! sm57: from 57 to [20, 63] -/
def w_sm57 : TP := ([(0, (2, 0, (0, [])))], [(0, 0, (0, [(1, 0)]))], ([(0, 6)], [], [], [200], [], [], []), [], [])
def u_sm57 : List (Nat × TP × EX × Nat × Nat) := [(20, ([(0, (2, 0, (0, []))), (1, (0, 0, (0, [(1, 0)])))], [], ([(0, 0)], [], [], [200], [], [], []), [], []), ((-1), []), 0, 0), (63, ([(0, (2, 0, (0, []))), (1, (0, 0, (0, [(1, 0)])))], [(0, 0, (0, [(1, 0)]))], ([(1, 6)], [], [], [200], [], [], []), [], []), ((-1), []), 0, 0)]
def D_sm57 : DT := (mkD iX12_summed fX12 lX12 kX12 kkX12 412 [] (w_sm57, [], [], 9, 0, 0, 3) false 2 u_sm57)
theorem k_sm57 : chkS D_sm57 4000 0 0 57 = true := by decide +kernel
theorem s_sm57 {X0 : zC0} {E : zCx} (H : ∀ j, j < 412 → CMj X0 j) (hE : zOk E X0 RX12 cX12_summed 2 (zrm 9 0 0)) {K : Nat → Nat} {B : Int} {L : List Nat} {f : Nat → va_E} (hh : hok X0.2.2.1 K B L f) {v0 : Int} {r0 : Nat} (hb0 : 0 ≤ v0 ∧ v0 ≤ 6) (hr0 : r0 ∈ L ∧ K r0 = 200) (k20 : ∀ (K' : Nat → Nat) (B' : Int) (L' : List Nat) (f' : Nat → va_E), hok X0.2.2.1 K' B' L' f' → extC [] K B L f K' B' L' f' → (0 ≤ v0 ∧ v0 ≤ 0) → (r0 ∈ L' ∧ K' r0 = 200) → eW E 0 0 L' f' 20 [(0, .ref r0), (1, .int (Int32.ofInt v0))] []) (k63 : ∀ (K' : Nat → Nat) (B' : Int) (L' : List Nat) (f' : Nat → va_E), hok X0.2.2.1 K' B' L' f' → extC [] K B L f K' B' L' f' → (1 ≤ v0 ∧ v0 ≤ 6) → (r0 ∈ L' ∧ K' r0 = 200) → eW E 0 0 L' f' 63 [(0, .ref r0), (1, .int (Int32.ofInt v0))] [.int (Int32.ofInt v0)]) : eW E 0 0 L f 57 [(0, .ref r0)] [.int (Int32.ofInt v0)] := by
  obtain ⟨l0, D0, cy0, ax0⟩ := X0
  have hraw : eW E 0 0 L f 57 [(0, .ref r0)] [.int (Int32.ofInt (0 + (1 * v0 + 0)))] := ?_
  · simpa only [Int.zero_add, Int.one_mul, Int.add_zero] using hraw
  refine seg_ok (D := D_sm57) (νi := fun i => [v0].getD i 0) (μi := fun i => [r0].getD i 0) k_sm57 hE (mk_ok (ins := iX12_summed) jX12_summed fX12_ok lX12_ok kX12_ok kkX12_ok H) (by decide) rfl rfl rfl rfl hh ?_ ?_
  · refine ⟨(eok_of (fun i q hq => ?_) (fun i hi => ?_)), fa0, fa0, ?_, fa0, fa0, fa0⟩
    · match i, hq with
      | 0, hq => cases hq; exact hb0
      | i + 1, hq => cases hq
    · match i, hi with
      | 0, hi => exact absurd hi (by decide)
      | i + 1, _ => rfl
    · intro i k hk
      match i, hk with
      | 0, hk => cases hk; exact hr0
      | i + 1, hk => cases hk
  · intro q hq hst K' B' L' f' ν μ h1 h2 h3 h4 h5
    have e0 : ν 0 = v0 := h4 0 (by decide)
    have d0 : μ 0 = r0 := h5 0 (by decide)
    subst e0
    subst d0
    replace hq : q ∈ u_sm57 := hq
    unfold u_sm57 at hq
    simp only [List.mem_cons, List.not_mem_nil, or_false] at hq
    rcases hq with rfl | rfl
    · have hst2 : eW E 0 0 L' f' 20 [(0, .ref (μ 0)), (1, .int (Int32.ofInt (0 + (1 * ν 0 + 0))))] [] := ?_
      · exact hst2
      try simp only [Int.zero_add, Int.one_mul, Int.add_zero]
      exact k20 K' B' L' f'   h1 h2 (h3.1 0) (h3.2.2.2.1 0 200 rfl)
    · have hst2 : eW E 0 0 L' f' 63 [(0, .ref (μ 0)), (1, .int (Int32.ofInt (0 + (1 * ν 0 + 0))))] [.int (Int32.ofInt (0 + (1 * ν 0 + 0)))] := ?_
      · exact hst2
      try simp only [Int.zero_add, Int.one_mul, Int.add_zero]
      exact k63 K' B' L' f'   h1 h2 (h3.1 0) (h3.2.2.2.1 0 200 rfl)

/-! fg0: from 0 to [9, 23, 33] -/
def w_fg0 : TP := ([(0, (2, 0, (0, []))), (1, (0, 0, (0, [(1, 0)]))), (2, (0, 0, (0, [(1, 1)]))), (3, (0, 0, (0, [(1, 2)])))], [], ([(0, 2819), ((-2147483648), 2147483647), ((-2147483648), 2147483647)], [], [], [200], [], [], []), [], [])
def u_fg0 : List (Nat × TP × EX × Nat × Nat) := [(9, ([(0, (2, 0, (0, []))), (1, (0, 0, (0, [(1, 0)]))), (2, (0, 0, (0, [(1, 1)]))), (3, (0, 0, (0, [(1, 2)])))], [(0, 0, (1, []))], ([(0, 2819), ((-2147483648), 2147483647), ((-2147483648), 2147483647), ((-2147483648), 2147483647)], [], [], [200], [((200, (9, [])), (0, [(1, 3)]))], [], []), [(2, 200, (9, []))], []), ((-1), []), 0, 0), (23, ([(0, (2, 0, (0, []))), (1, (0, 0, (0, [(1, 0)]))), (2, (0, 0, (0, [(1, 1)]))), (3, (0, 0, (0, [(1, 2)])))], [(0, 0, (2, []))], ([(0, 2819), ((-2147483648), 2147483647), ((-2147483648), 2147483647), ((-2147483648), 2147483647), (1, 1)], [], [], [200], [((200, (10, [])), (0, [(1, 3)])), ((200, (9, [])), (0, [(1, 4)]))], [], []), [(2, 200, (10, [])), (2, 200, (9, []))], []), ((-1), []), 0, 0), (33, ([(0, (2, 0, (0, []))), (1, (0, 0, (0, [(1, 0)]))), (2, (0, 0, (0, [(1, 1)]))), (3, (0, 0, (0, [(1, 2)])))], [(0, 0, (0, [(1, 3)])), (0, 0, (0, [(1, 0)])), (2, 1, (0, []))], ([(0, 2819), ((-2147483648), 2147483647), ((-2147483648), 2147483647), ((-2147483648), 2147483647), (1, 1)], [(0, [((-1), 1), (1, 2)]), (0, [((-1), 1), (1, 3)]), (0, [(1, 2), ((-1), 3)])], [], [200, 203], [((200, (10, [])), (0, [(1, 3)])), ((200, (9, [])), (0, [(1, 4)]))], [], []), [(1, 0, (0, [])), (2, 200, (9, []))], [(1, 2)]), ((-1), []), 0, 0)]
def D_fg0 : DT := (mkD iX12_figure fX12 lX12 kX12 kkX12 412 [(16, [290])] (w_fg0, [], [], 6, 0, 0, 3) false 4 u_fg0)
theorem k_fg0 : chkS D_fg0 4000 0 0 0 = true := by decide +kernel
theorem s_fg0 {X0 : zC0} {E : zCx} (H : ∀ j, j < 412 → CMj X0 j) (hE : zOk E X0 RX12 cX12_figure 4 (zrm 6 0 0)) {K : Nat → Nat} {B : Int} {L : List Nat} {f : Nat → va_E} (hh : hok X0.2.2.1 K B L f) {v0 v1 v2 : Int} {r0 : Nat} (hb0 : 0 ≤ v0 ∧ v0 ≤ 2819) (hb1 : (-2147483648) ≤ v1 ∧ v1 ≤ 2147483647) (hb2 : (-2147483648) ≤ v2 ∧ v2 ≤ 2147483647) (hr0 : r0 ∈ L ∧ K r0 = 200) (k9 : ∀ (K' : Nat → Nat) (B' : Int) (L' : List Nat) (f' : Nat → va_E) (v3 : Int), hok X0.2.2.1 K' B' L' f' → extC [] K B L f K' B' L' f' → (0 ≤ v0 ∧ v0 ≤ 2819) → ((-2147483648) ≤ v1 ∧ v1 ≤ 2147483647) → ((-2147483648) ≤ v2 ∧ v2 ≤ 2147483647) → ((-2147483648) ≤ v3 ∧ v3 ≤ 2147483647) → (r0 ∈ L' ∧ K' r0 = 200) → (∀ b ∈ L', K' b = 200 → gi (f' b) 9 = v3) → eW E 0 0 L' f' 9 [(0, .ref r0), (1, .int (Int32.ofInt v0)), (2, .int (Int32.ofInt v1)), (3, .int (Int32.ofInt v2))] [.int (Int32.ofInt 1)]) (k23 : ∀ (K' : Nat → Nat) (B' : Int) (L' : List Nat) (f' : Nat → va_E) (v3 v4 : Int), hok X0.2.2.1 K' B' L' f' → extC [] K B L f K' B' L' f' → (0 ≤ v0 ∧ v0 ≤ 2819) → ((-2147483648) ≤ v1 ∧ v1 ≤ 2147483647) → ((-2147483648) ≤ v2 ∧ v2 ≤ 2147483647) → ((-2147483648) ≤ v3 ∧ v3 ≤ 2147483647) → (1 ≤ v4 ∧ v4 ≤ 1) → (r0 ∈ L' ∧ K' r0 = 200) → (∀ b ∈ L', K' b = 200 → gi (f' b) 10 = v3) → (∀ b ∈ L', K' b = 200 → gi (f' b) 9 = v4) → eW E 0 0 L' f' 23 [(0, .ref r0), (1, .int (Int32.ofInt v0)), (2, .int (Int32.ofInt v1)), (3, .int (Int32.ofInt v2))] [.int (Int32.ofInt 2)]) (k33 : ∀ (K' : Nat → Nat) (B' : Int) (L' : List Nat) (f' : Nat → va_E) (v3 v4 : Int) (r1 : Nat), hok X0.2.2.1 K' B' L' f' → extC [] K B L f K' B' L' f' → (0 ≤ v0 ∧ v0 ≤ 2819) → ((-2147483648) ≤ v1 ∧ v1 ≤ 2147483647) → ((-2147483648) ≤ v2 ∧ v2 ≤ 2147483647) → ((-2147483648) ≤ v3 ∧ v3 ≤ 2147483647) → (1 ≤ v4 ∧ v4 ≤ 1) → (0 ≤ ((-1) * v1 + v2)) → (0 ≤ ((-1) * v1 + v3)) → (0 ≤ (v2 + ((-1) * v3))) → (r0 ∈ L' ∧ K' r0 = 200) → (r1 ∈ L' ∧ K' r1 = 203) → (∀ b ∈ L', K' b = 200 → gi (f' b) 10 = v3) → (∀ b ∈ L', K' b = 200 → gi (f' b) 9 = v4) → eW E 0 0 L' f' 33 [(0, .ref r0), (1, .int (Int32.ofInt v0)), (2, .int (Int32.ofInt v1)), (3, .int (Int32.ofInt v2))] [.int (Int32.ofInt v3), .int (Int32.ofInt v0), .ref r1]) : eW E 0 0 L f 0 [(0, .ref r0), (1, .int (Int32.ofInt v0)), (2, .int (Int32.ofInt v1)), (3, .int (Int32.ofInt v2))] [] := by
  obtain ⟨l0, D0, cy0, ax0⟩ := X0
  have hraw : eW E 0 0 L f 0 [(0, .ref r0), (1, .int (Int32.ofInt (0 + (1 * v0 + 0)))), (2, .int (Int32.ofInt (0 + (1 * v1 + 0)))), (3, .int (Int32.ofInt (0 + (1 * v2 + 0))))] [] := ?_
  · simpa only [Int.zero_add, Int.one_mul, Int.add_zero] using hraw
  refine seg_ok (D := D_fg0) (νi := fun i => [v0, v1, v2].getD i 0) (μi := fun i => [r0].getD i 0) k_fg0 hE (mk_ok (ins := iX12_figure) jX12_figure fX12_ok lX12_ok kX12_ok kkX12_ok H) (by decide) rfl rfl rfl rfl hh ?_ ?_
  · refine ⟨(eok_of (fun i q hq => ?_) (fun i hi => ?_)), fa0, fa0, ?_, fa0, fa0, fa0⟩
    · match i, hq with
      | 0, hq => cases hq; exact hb0
      | 1, hq => cases hq; exact hb1
      | 2, hq => cases hq; exact hb2
      | i + 3, hq => cases hq
    · match i, hi with
      | 0, hi => exact absurd hi (by decide)
      | 1, hi => exact absurd hi (by decide)
      | 2, hi => exact absurd hi (by decide)
      | i + 3, _ => rfl
    · intro i k hk
      match i, hk with
      | 0, hk => cases hk; exact hr0
      | i + 1, hk => cases hk
  · intro q hq hst K' B' L' f' ν μ h1 h2 h3 h4 h5
    have e0 : ν 0 = v0 := h4 0 (by decide)
    have e1 : ν 1 = v1 := h4 1 (by decide)
    have e2 : ν 2 = v2 := h4 2 (by decide)
    have d0 : μ 0 = r0 := h5 0 (by decide)
    subst e0
    subst e1
    subst e2
    subst d0
    replace hq : q ∈ u_fg0 := hq
    unfold u_fg0 at hq
    simp only [List.mem_cons, List.not_mem_nil, or_false] at hq
    rcases hq with rfl | rfl | rfl
    · have hst2 : eW E 0 0 L' f' 9 [(0, .ref (μ 0)), (1, .int (Int32.ofInt (0 + (1 * ν 0 + 0)))), (2, .int (Int32.ofInt (0 + (1 * ν 1 + 0)))), (3, .int (Int32.ofInt (0 + (1 * ν 2 + 0))))] [.int (Int32.ofInt (1 + 0))] := ?_
      · exact hst2
      try simp only [Int.zero_add, Int.one_mul, Int.add_zero]
      exact k9 K' B' L' f' (ν 3)  h1 h2 (h3.1 0) (h3.1 1) (h3.1 2) (h3.1 3) (h3.2.2.2.1 0 200 rfl) (by simpa only [xv, xvT, Int.zero_add, Int.one_mul, Int.add_zero] using (mokF h1 (show (zkd 200).1 = 1 by decide) (j := 9) rfl (by decide) (h3.2.2.2.2.1 _ (List.mem_of_getElem? (i := 0) rfl))))
    · have hst2 : eW E 0 0 L' f' 23 [(0, .ref (μ 0)), (1, .int (Int32.ofInt (0 + (1 * ν 0 + 0)))), (2, .int (Int32.ofInt (0 + (1 * ν 1 + 0)))), (3, .int (Int32.ofInt (0 + (1 * ν 2 + 0))))] [.int (Int32.ofInt (2 + 0))] := ?_
      · exact hst2
      try simp only [Int.zero_add, Int.one_mul, Int.add_zero]
      exact k23 K' B' L' f' (ν 3) (ν 4)  h1 h2 (h3.1 0) (h3.1 1) (h3.1 2) (h3.1 3) (h3.1 4) (h3.2.2.2.1 0 200 rfl) (by simpa only [xv, xvT, Int.zero_add, Int.one_mul, Int.add_zero] using (mokF h1 (show (zkd 200).1 = 1 by decide) (j := 10) rfl (by decide) (h3.2.2.2.2.1 _ (List.mem_of_getElem? (i := 0) rfl)))) (by simpa only [xv, xvT, Int.zero_add, Int.one_mul, Int.add_zero] using (mokF h1 (show (zkd 200).1 = 1 by decide) (j := 9) rfl (by decide) (h3.2.2.2.2.1 _ (List.mem_of_getElem? (i := 1) rfl))))
    · have hst2 : eW E 0 0 L' f' 33 [(0, .ref (μ 0)), (1, .int (Int32.ofInt (0 + (1 * ν 0 + 0)))), (2, .int (Int32.ofInt (0 + (1 * ν 1 + 0)))), (3, .int (Int32.ofInt (0 + (1 * ν 2 + 0))))] [.int (Int32.ofInt (0 + (1 * ν 3 + 0))), .int (Int32.ofInt (0 + (1 * ν 0 + 0))), .ref (μ 1)] := ?_
      · exact hst2
      try simp only [Int.zero_add, Int.one_mul, Int.add_zero]
      exact k33 K' B' L' f' (ν 3) (ν 4) (μ 1) h1 h2 (h3.1 0) (h3.1 1) (h3.1 2) (h3.1 3) (h3.1 4) (by simpa only [xv, xvT, Int.zero_add, Int.one_mul, Int.add_zero] using (h3.2.1 _ (List.mem_of_getElem? (i := 0) rfl))) (by simpa only [xv, xvT, Int.zero_add, Int.one_mul, Int.add_zero] using (h3.2.1 _ (List.mem_of_getElem? (i := 1) rfl))) (by simpa only [xv, xvT, Int.zero_add, Int.one_mul, Int.add_zero] using (h3.2.1 _ (List.mem_of_getElem? (i := 2) rfl))) (h3.2.2.2.1 0 200 rfl) (h3.2.2.2.1 1 203 rfl) (by simpa only [xv, xvT, Int.zero_add, Int.one_mul, Int.add_zero] using (mokF h1 (show (zkd 200).1 = 1 by decide) (j := 10) rfl (by decide) (h3.2.2.2.2.1 _ (List.mem_of_getElem? (i := 0) rfl)))) (by simpa only [xv, xvT, Int.zero_add, Int.one_mul, Int.add_zero] using (mokF h1 (show (zkd 200).1 = 1 by decide) (j := 9) rfl (by decide) (h3.2.2.2.2.1 _ (List.mem_of_getElem? (i := 1) rfl))))

/-! fg34: from 34 to [35] -/
def w_fg34 : TP := ([(0, (2, 0, (0, []))), (1, (0, 0, (0, [(1, 0)]))), (2, (0, 0, (0, [(1, 1)]))), (3, (0, 0, (0, [(1, 2)])))], [], ([(0, 2819), ((-2147483648), 2147483647), ((-2147483648), 2147483647)], [], [], [200], [], [], []), [], [])
def u_fg34 : List (Nat × TP × EX × Nat × Nat) := [(35, ([(0, (2, 0, (0, []))), (1, (0, 0, (0, [(1, 0)]))), (2, (0, 0, (0, [(1, 1)]))), (3, (0, 0, (0, [(1, 2)])))], [(2, 0, (0, []))], ([(0, 2819), ((-2147483648), 2147483647), ((-2147483648), 2147483647)], [], [], [200], [], [], []), [], []), ((-1), []), 0, 0)]
def D_fg34 : DT := (mkD iX12_figure fX12 lX12 kX12 kkX12 412 [] (w_fg34, [], [], 6, 0, 0, 3) false 4 u_fg34)
theorem k_fg34 : chkS D_fg34 4000 0 0 34 = true := by decide +kernel
theorem s_fg34 {X0 : zC0} {E : zCx} (H : ∀ j, j < 412 → CMj X0 j) (hE : zOk E X0 RX12 cX12_figure 4 (zrm 6 0 0)) {K : Nat → Nat} {B : Int} {L : List Nat} {f : Nat → va_E} (hh : hok X0.2.2.1 K B L f) {v0 v1 v2 : Int} {r0 : Nat} (hb0 : 0 ≤ v0 ∧ v0 ≤ 2819) (hb1 : (-2147483648) ≤ v1 ∧ v1 ≤ 2147483647) (hb2 : (-2147483648) ≤ v2 ∧ v2 ≤ 2147483647) (hr0 : r0 ∈ L ∧ K r0 = 200) (k35 : ∀ (K' : Nat → Nat) (B' : Int) (L' : List Nat) (f' : Nat → va_E), hok X0.2.2.1 K' B' L' f' → extC [] K B L f K' B' L' f' → (0 ≤ v0 ∧ v0 ≤ 2819) → ((-2147483648) ≤ v1 ∧ v1 ≤ 2147483647) → ((-2147483648) ≤ v2 ∧ v2 ≤ 2147483647) → (r0 ∈ L' ∧ K' r0 = 200) → eW E 0 0 L' f' 35 [(0, .ref r0), (1, .int (Int32.ofInt v0)), (2, .int (Int32.ofInt v1)), (3, .int (Int32.ofInt v2))] [.ref r0]) : eW E 0 0 L f 34 [(0, .ref r0), (1, .int (Int32.ofInt v0)), (2, .int (Int32.ofInt v1)), (3, .int (Int32.ofInt v2))] [] := by
  obtain ⟨l0, D0, cy0, ax0⟩ := X0
  have hraw : eW E 0 0 L f 34 [(0, .ref r0), (1, .int (Int32.ofInt (0 + (1 * v0 + 0)))), (2, .int (Int32.ofInt (0 + (1 * v1 + 0)))), (3, .int (Int32.ofInt (0 + (1 * v2 + 0))))] [] := ?_
  · simpa only [Int.zero_add, Int.one_mul, Int.add_zero] using hraw
  refine seg_ok (D := D_fg34) (νi := fun i => [v0, v1, v2].getD i 0) (μi := fun i => [r0].getD i 0) k_fg34 hE (mk_ok (ins := iX12_figure) jX12_figure fX12_ok lX12_ok kX12_ok kkX12_ok H) (by decide) rfl rfl rfl rfl hh ?_ ?_
  · refine ⟨(eok_of (fun i q hq => ?_) (fun i hi => ?_)), fa0, fa0, ?_, fa0, fa0, fa0⟩
    · match i, hq with
      | 0, hq => cases hq; exact hb0
      | 1, hq => cases hq; exact hb1
      | 2, hq => cases hq; exact hb2
      | i + 3, hq => cases hq
    · match i, hi with
      | 0, hi => exact absurd hi (by decide)
      | 1, hi => exact absurd hi (by decide)
      | 2, hi => exact absurd hi (by decide)
      | i + 3, _ => rfl
    · intro i k hk
      match i, hk with
      | 0, hk => cases hk; exact hr0
      | i + 1, hk => cases hk
  · intro q hq hst K' B' L' f' ν μ h1 h2 h3 h4 h5
    have e0 : ν 0 = v0 := h4 0 (by decide)
    have e1 : ν 1 = v1 := h4 1 (by decide)
    have e2 : ν 2 = v2 := h4 2 (by decide)
    have d0 : μ 0 = r0 := h5 0 (by decide)
    subst e0
    subst e1
    subst e2
    subst d0
    replace hq : q ∈ u_fg34 := hq
    unfold u_fg34 at hq
    simp only [List.mem_cons, List.not_mem_nil, or_false] at hq
    rcases hq with rfl
    · have hst2 : eW E 0 0 L' f' 35 [(0, .ref (μ 0)), (1, .int (Int32.ofInt (0 + (1 * ν 0 + 0)))), (2, .int (Int32.ofInt (0 + (1 * ν 1 + 0)))), (3, .int (Int32.ofInt (0 + (1 * ν 2 + 0))))] [.ref (μ 0)] := ?_
      · exact hst2
      try simp only [Int.zero_add, Int.one_mul, Int.add_zero]
      exact k35 K' B' L' f'   h1 h2 (h3.1 0) (h3.1 1) (h3.1 2) (h3.2.2.2.1 0 200 rfl)

/-! fg38: from 38 to [39] -/
def w_fg38 : TP := ([(0, (2, 0, (0, []))), (1, (0, 0, (0, [(1, 0)]))), (2, (0, 0, (0, [(1, 1)]))), (3, (0, 0, (0, [(1, 2)])))], [], ([(0, 2819), ((-2147483648), 2147483647), ((-2147483648), 2147483647)], [], [], [200], [], [], []), [], [])
def u_fg38 : List (Nat × TP × EX × Nat × Nat) := [(39, ([(0, (2, 0, (0, []))), (1, (0, 0, (0, [(1, 0)]))), (2, (0, 0, (0, [(1, 1)]))), (3, (0, 0, (0, [(1, 2)])))], [(0, 0, (0, []))], ([(0, 2819), ((-2147483648), 2147483647), ((-2147483648), 2147483647)], [], [], [200], [], [], []), [], []), ((-1), []), 0, 0)]
def D_fg38 : DT := (mkD iX12_figure fX12 lX12 kX12 kkX12 412 [] (w_fg38, [], [], 6, 0, 0, 3) false 4 u_fg38)
theorem k_fg38 : chkS D_fg38 4000 0 0 38 = true := by decide +kernel
theorem s_fg38 {X0 : zC0} {E : zCx} (H : ∀ j, j < 412 → CMj X0 j) (hE : zOk E X0 RX12 cX12_figure 4 (zrm 6 0 0)) {K : Nat → Nat} {B : Int} {L : List Nat} {f : Nat → va_E} (hh : hok X0.2.2.1 K B L f) {v0 v1 v2 : Int} {r0 : Nat} (hb0 : 0 ≤ v0 ∧ v0 ≤ 2819) (hb1 : (-2147483648) ≤ v1 ∧ v1 ≤ 2147483647) (hb2 : (-2147483648) ≤ v2 ∧ v2 ≤ 2147483647) (hr0 : r0 ∈ L ∧ K r0 = 200) (k39 : ∀ (K' : Nat → Nat) (B' : Int) (L' : List Nat) (f' : Nat → va_E), hok X0.2.2.1 K' B' L' f' → extC [] K B L f K' B' L' f' → (0 ≤ v0 ∧ v0 ≤ 2819) → ((-2147483648) ≤ v1 ∧ v1 ≤ 2147483647) → ((-2147483648) ≤ v2 ∧ v2 ≤ 2147483647) → (r0 ∈ L' ∧ K' r0 = 200) → eW E 0 0 L' f' 39 [(0, .ref r0), (1, .int (Int32.ofInt v0)), (2, .int (Int32.ofInt v1)), (3, .int (Int32.ofInt v2))] [.int (Int32.ofInt 0)]) : eW E 0 0 L f 38 [(0, .ref r0), (1, .int (Int32.ofInt v0)), (2, .int (Int32.ofInt v1)), (3, .int (Int32.ofInt v2))] [] := by
  obtain ⟨l0, D0, cy0, ax0⟩ := X0
  have hraw : eW E 0 0 L f 38 [(0, .ref r0), (1, .int (Int32.ofInt (0 + (1 * v0 + 0)))), (2, .int (Int32.ofInt (0 + (1 * v1 + 0)))), (3, .int (Int32.ofInt (0 + (1 * v2 + 0))))] [] := ?_
  · simpa only [Int.zero_add, Int.one_mul, Int.add_zero] using hraw
  refine seg_ok (D := D_fg38) (νi := fun i => [v0, v1, v2].getD i 0) (μi := fun i => [r0].getD i 0) k_fg38 hE (mk_ok (ins := iX12_figure) jX12_figure fX12_ok lX12_ok kX12_ok kkX12_ok H) (by decide) rfl rfl rfl rfl hh ?_ ?_
  · refine ⟨(eok_of (fun i q hq => ?_) (fun i hi => ?_)), fa0, fa0, ?_, fa0, fa0, fa0⟩
    · match i, hq with
      | 0, hq => cases hq; exact hb0
      | 1, hq => cases hq; exact hb1
      | 2, hq => cases hq; exact hb2
      | i + 3, hq => cases hq
    · match i, hi with
      | 0, hi => exact absurd hi (by decide)
      | 1, hi => exact absurd hi (by decide)
      | 2, hi => exact absurd hi (by decide)
      | i + 3, _ => rfl
    · intro i k hk
      match i, hk with
      | 0, hk => cases hk; exact hr0
      | i + 1, hk => cases hk
  · intro q hq hst K' B' L' f' ν μ h1 h2 h3 h4 h5
    have e0 : ν 0 = v0 := h4 0 (by decide)
    have e1 : ν 1 = v1 := h4 1 (by decide)
    have e2 : ν 2 = v2 := h4 2 (by decide)
    have d0 : μ 0 = r0 := h5 0 (by decide)
    subst e0
    subst e1
    subst e2
    subst d0
    replace hq : q ∈ u_fg38 := hq
    unfold u_fg38 at hq
    simp only [List.mem_cons, List.not_mem_nil, or_false] at hq
    rcases hq with rfl
    · have hst2 : eW E 0 0 L' f' 39 [(0, .ref (μ 0)), (1, .int (Int32.ofInt (0 + (1 * ν 0 + 0)))), (2, .int (Int32.ofInt (0 + (1 * ν 1 + 0)))), (3, .int (Int32.ofInt (0 + (1 * ν 2 + 0))))] [.int (Int32.ofInt (0 + 0))] := ?_
      · exact hst2
      try simp only [Int.zero_add, Int.one_mul, Int.add_zero]
      exact k39 K' B' L' f'   h1 h2 (h3.1 0) (h3.1 1) (h3.1 2) (h3.2.2.2.1 0 200 rfl)

/-! wd0: from 0 to [9, 11] -/
def w_wd0 : TP := ([(0, (2, 0, (0, []))), (1, (1, 0, (0, [(1, 0)]))), (3, (0, 0, (0, [(1, 1)]))), (4, (0, 0, (0, [(1, 2)]))), (5, (0, 0, (0, [(1, 3)])))], [], ([((-9223372036854775808), 9223372036854775807), (0, 2819), ((-2147483648), 2147483647), ((-2147483648), 2147483647)], [], [], [200], [], [], []), [], [])
def u_wd0 : List (Nat × TP × EX × Nat × Nat) := [(9, ([(0, (2, 0, (0, []))), (1, (1, 0, (0, [(1, 0)]))), (3, (0, 0, (0, [(1, 1)]))), (4, (0, 0, (0, [(1, 2)]))), (5, (0, 0, (0, [(1, 3)])))], [(0, 0, (1, []))], ([((-9223372036854775808), 9223372036854775807), (0, 2819), ((-2147483648), 2147483647), ((-2147483648), 2147483647)], [], [], [200], [], [], []), [], []), ((-1), []), 0, 0), (11, ([(0, (2, 0, (0, []))), (1, (1, 0, (0, [(1, 0)]))), (3, (0, 0, (0, [(1, 1)]))), (4, (0, 0, (0, [(1, 2)]))), (5, (0, 0, (0, [(1, 3)])))], [(2, 0, (0, []))], ([((-9223372036854775808), 9223372036854775807), (0, 2819), ((-2147483648), 2147483647), ((-2147483648), 2147483647), (2, 2)], [], [], [200], [((200, (9, [])), (0, [(1, 4)]))], [], []), [(2, 200, (9, []))], []), ((-1), []), 0, 0)]
def D_wd0 : DT := (mkD iX12_worded fX12 lX12 kX12 kkX12 412 [(2, [386])] (w_wd0, [], [], 7, 0, 0, 3) false 6 u_wd0)
theorem k_wd0 : chkS D_wd0 4000 0 0 0 = true := by decide +kernel
theorem s_wd0 {X0 : zC0} {E : zCx} (H : ∀ j, j < 412 → CMj X0 j) (hE : zOk E X0 RX12 cX12_worded 6 (zrm 7 0 0)) {K : Nat → Nat} {B : Int} {L : List Nat} {f : Nat → va_E} (hh : hok X0.2.2.1 K B L f) {v0 v1 v2 v3 : Int} {r0 : Nat} (hb0 : (-9223372036854775808) ≤ v0 ∧ v0 ≤ 9223372036854775807) (hb1 : 0 ≤ v1 ∧ v1 ≤ 2819) (hb2 : (-2147483648) ≤ v2 ∧ v2 ≤ 2147483647) (hb3 : (-2147483648) ≤ v3 ∧ v3 ≤ 2147483647) (hr0 : r0 ∈ L ∧ K r0 = 200) (k9 : ∀ (K' : Nat → Nat) (B' : Int) (L' : List Nat) (f' : Nat → va_E), hok X0.2.2.1 K' B' L' f' → extC [] K B L f K' B' L' f' → ((-9223372036854775808) ≤ v0 ∧ v0 ≤ 9223372036854775807) → (0 ≤ v1 ∧ v1 ≤ 2819) → ((-2147483648) ≤ v2 ∧ v2 ≤ 2147483647) → ((-2147483648) ≤ v3 ∧ v3 ≤ 2147483647) → (r0 ∈ L' ∧ K' r0 = 200) → eW E 0 0 L' f' 9 [(0, .ref r0), (1, .long (Int64.ofInt v0)), (3, .int (Int32.ofInt v1)), (4, .int (Int32.ofInt v2)), (5, .int (Int32.ofInt v3))] [.int (Int32.ofInt 1)]) (k11 : ∀ (K' : Nat → Nat) (B' : Int) (L' : List Nat) (f' : Nat → va_E) (v4 : Int), hok X0.2.2.1 K' B' L' f' → extC [] K B L f K' B' L' f' → ((-9223372036854775808) ≤ v0 ∧ v0 ≤ 9223372036854775807) → (0 ≤ v1 ∧ v1 ≤ 2819) → ((-2147483648) ≤ v2 ∧ v2 ≤ 2147483647) → ((-2147483648) ≤ v3 ∧ v3 ≤ 2147483647) → (2 ≤ v4 ∧ v4 ≤ 2) → (r0 ∈ L' ∧ K' r0 = 200) → (∀ b ∈ L', K' b = 200 → gi (f' b) 9 = v4) → eW E 0 0 L' f' 11 [(0, .ref r0), (1, .long (Int64.ofInt v0)), (3, .int (Int32.ofInt v1)), (4, .int (Int32.ofInt v2)), (5, .int (Int32.ofInt v3))] [.ref r0]) : eW E 0 0 L f 0 [(0, .ref r0), (1, .long (Int64.ofInt v0)), (3, .int (Int32.ofInt v1)), (4, .int (Int32.ofInt v2)), (5, .int (Int32.ofInt v3))] [] := by
  obtain ⟨l0, D0, cy0, ax0⟩ := X0
  have hraw : eW E 0 0 L f 0 [(0, .ref r0), (1, .long (Int64.ofInt (0 + (1 * v0 + 0)))), (3, .int (Int32.ofInt (0 + (1 * v1 + 0)))), (4, .int (Int32.ofInt (0 + (1 * v2 + 0)))), (5, .int (Int32.ofInt (0 + (1 * v3 + 0))))] [] := ?_
  · simpa only [Int.zero_add, Int.one_mul, Int.add_zero] using hraw
  refine seg_ok (D := D_wd0) (νi := fun i => [v0, v1, v2, v3].getD i 0) (μi := fun i => [r0].getD i 0) k_wd0 hE (mk_ok (ins := iX12_worded) jX12_worded fX12_ok lX12_ok kX12_ok kkX12_ok H) (by decide) rfl rfl rfl rfl hh ?_ ?_
  · refine ⟨(eok_of (fun i q hq => ?_) (fun i hi => ?_)), fa0, fa0, ?_, fa0, fa0, fa0⟩
    · match i, hq with
      | 0, hq => cases hq; exact hb0
      | 1, hq => cases hq; exact hb1
      | 2, hq => cases hq; exact hb2
      | 3, hq => cases hq; exact hb3
      | i + 4, hq => cases hq
    · match i, hi with
      | 0, hi => exact absurd hi (by decide)
      | 1, hi => exact absurd hi (by decide)
      | 2, hi => exact absurd hi (by decide)
      | 3, hi => exact absurd hi (by decide)
      | i + 4, _ => rfl
    · intro i k hk
      match i, hk with
      | 0, hk => cases hk; exact hr0
      | i + 1, hk => cases hk
  · intro q hq hst K' B' L' f' ν μ h1 h2 h3 h4 h5
    have e0 : ν 0 = v0 := h4 0 (by decide)
    have e1 : ν 1 = v1 := h4 1 (by decide)
    have e2 : ν 2 = v2 := h4 2 (by decide)
    have e3 : ν 3 = v3 := h4 3 (by decide)
    have d0 : μ 0 = r0 := h5 0 (by decide)
    subst e0
    subst e1
    subst e2
    subst e3
    subst d0
    replace hq : q ∈ u_wd0 := hq
    unfold u_wd0 at hq
    simp only [List.mem_cons, List.not_mem_nil, or_false] at hq
    rcases hq with rfl | rfl
    · have hst2 : eW E 0 0 L' f' 9 [(0, .ref (μ 0)), (1, .long (Int64.ofInt (0 + (1 * ν 0 + 0)))), (3, .int (Int32.ofInt (0 + (1 * ν 1 + 0)))), (4, .int (Int32.ofInt (0 + (1 * ν 2 + 0)))), (5, .int (Int32.ofInt (0 + (1 * ν 3 + 0))))] [.int (Int32.ofInt (1 + 0))] := ?_
      · exact hst2
      try simp only [Int.zero_add, Int.one_mul, Int.add_zero]
      exact k9 K' B' L' f'   h1 h2 (h3.1 0) (h3.1 1) (h3.1 2) (h3.1 3) (h3.2.2.2.1 0 200 rfl)
    · have hst2 : eW E 0 0 L' f' 11 [(0, .ref (μ 0)), (1, .long (Int64.ofInt (0 + (1 * ν 0 + 0)))), (3, .int (Int32.ofInt (0 + (1 * ν 1 + 0)))), (4, .int (Int32.ofInt (0 + (1 * ν 2 + 0)))), (5, .int (Int32.ofInt (0 + (1 * ν 3 + 0))))] [.ref (μ 0)] := ?_
      · exact hst2
      try simp only [Int.zero_add, Int.one_mul, Int.add_zero]
      exact k11 K' B' L' f' (ν 4)  h1 h2 (h3.1 0) (h3.1 1) (h3.1 2) (h3.1 3) (h3.1 4) (h3.2.2.2.1 0 200 rfl) (by simpa only [xv, xvT, Int.zero_add, Int.one_mul, Int.add_zero] using (mokF h1 (show (zkd 200).1 = 1 by decide) (j := 9) rfl (by decide) (h3.2.2.2.2.1 _ (List.mem_of_getElem? (i := 0) rfl))))

/-! wd14: from 14 to [20] -/
def w_wd14 : TP := ([(0, (2, 0, (0, []))), (1, (1, 0, (0, [(1, 0)]))), (3, (0, 0, (0, [(1, 1)]))), (4, (0, 0, (0, [(1, 2)]))), (5, (0, 0, (0, [(1, 3)])))], [], ([((-9223372036854775808), 9223372036854775807), (0, 2819), ((-2147483648), 2147483647), ((-2147483648), 2147483647)], [], [], [200], [], [], []), [], [])
def u_wd14 : List (Nat × TP × EX × Nat × Nat) := [(20, ([(0, (2, 0, (0, []))), (1, (1, 0, (0, [(1, 0)]))), (3, (0, 0, (0, [(1, 1)]))), (4, (0, 0, (0, [(1, 2)]))), (5, (0, 0, (0, [(1, 3)])))], [(0, 0, (0, [(1, 3)])), (0, 0, (0, [(1, 2)])), (0, 0, (0, [(1, 1)])), (2, 0, (0, []))], ([((-9223372036854775808), 9223372036854775807), (0, 2819), ((-2147483648), 2147483647), ((-2147483648), 2147483647)], [], [], [200], [], [], []), [], []), ((-1), []), 0, 0)]
def D_wd14 : DT := (mkD iX12_worded fX12 lX12 kX12 kkX12 412 [] (w_wd14, [], [], 7, 0, 0, 3) false 6 u_wd14)
theorem k_wd14 : chkS D_wd14 4000 0 0 14 = true := by decide +kernel
theorem s_wd14 {X0 : zC0} {E : zCx} (H : ∀ j, j < 412 → CMj X0 j) (hE : zOk E X0 RX12 cX12_worded 6 (zrm 7 0 0)) {K : Nat → Nat} {B : Int} {L : List Nat} {f : Nat → va_E} (hh : hok X0.2.2.1 K B L f) {v0 v1 v2 v3 : Int} {r0 : Nat} (hb0 : (-9223372036854775808) ≤ v0 ∧ v0 ≤ 9223372036854775807) (hb1 : 0 ≤ v1 ∧ v1 ≤ 2819) (hb2 : (-2147483648) ≤ v2 ∧ v2 ≤ 2147483647) (hb3 : (-2147483648) ≤ v3 ∧ v3 ≤ 2147483647) (hr0 : r0 ∈ L ∧ K r0 = 200) (k20 : ∀ (K' : Nat → Nat) (B' : Int) (L' : List Nat) (f' : Nat → va_E), hok X0.2.2.1 K' B' L' f' → extC [] K B L f K' B' L' f' → ((-9223372036854775808) ≤ v0 ∧ v0 ≤ 9223372036854775807) → (0 ≤ v1 ∧ v1 ≤ 2819) → ((-2147483648) ≤ v2 ∧ v2 ≤ 2147483647) → ((-2147483648) ≤ v3 ∧ v3 ≤ 2147483647) → (r0 ∈ L' ∧ K' r0 = 200) → eW E 0 0 L' f' 20 [(0, .ref r0), (1, .long (Int64.ofInt v0)), (3, .int (Int32.ofInt v1)), (4, .int (Int32.ofInt v2)), (5, .int (Int32.ofInt v3))] [.int (Int32.ofInt v3), .int (Int32.ofInt v2), .int (Int32.ofInt v1), .ref r0]) : eW E 0 0 L f 14 [(0, .ref r0), (1, .long (Int64.ofInt v0)), (3, .int (Int32.ofInt v1)), (4, .int (Int32.ofInt v2)), (5, .int (Int32.ofInt v3))] [] := by
  obtain ⟨l0, D0, cy0, ax0⟩ := X0
  have hraw : eW E 0 0 L f 14 [(0, .ref r0), (1, .long (Int64.ofInt (0 + (1 * v0 + 0)))), (3, .int (Int32.ofInt (0 + (1 * v1 + 0)))), (4, .int (Int32.ofInt (0 + (1 * v2 + 0)))), (5, .int (Int32.ofInt (0 + (1 * v3 + 0))))] [] := ?_
  · simpa only [Int.zero_add, Int.one_mul, Int.add_zero] using hraw
  refine seg_ok (D := D_wd14) (νi := fun i => [v0, v1, v2, v3].getD i 0) (μi := fun i => [r0].getD i 0) k_wd14 hE (mk_ok (ins := iX12_worded) jX12_worded fX12_ok lX12_ok kX12_ok kkX12_ok H) (by decide) rfl rfl rfl rfl hh ?_ ?_
  · refine ⟨(eok_of (fun i q hq => ?_) (fun i hi => ?_)), fa0, fa0, ?_, fa0, fa0, fa0⟩
    · match i, hq with
      | 0, hq => cases hq; exact hb0
      | 1, hq => cases hq; exact hb1
      | 2, hq => cases hq; exact hb2
      | 3, hq => cases hq; exact hb3
      | i + 4, hq => cases hq
    · match i, hi with
      | 0, hi => exact absurd hi (by decide)
      | 1, hi => exact absurd hi (by decide)
      | 2, hi => exact absurd hi (by decide)
      | 3, hi => exact absurd hi (by decide)
      | i + 4, _ => rfl
    · intro i k hk
      match i, hk with
      | 0, hk => cases hk; exact hr0
      | i + 1, hk => cases hk
  · intro q hq hst K' B' L' f' ν μ h1 h2 h3 h4 h5
    have e0 : ν 0 = v0 := h4 0 (by decide)
    have e1 : ν 1 = v1 := h4 1 (by decide)
    have e2 : ν 2 = v2 := h4 2 (by decide)
    have e3 : ν 3 = v3 := h4 3 (by decide)
    have d0 : μ 0 = r0 := h5 0 (by decide)
    subst e0
    subst e1
    subst e2
    subst e3
    subst d0
    replace hq : q ∈ u_wd14 := hq
    unfold u_wd14 at hq
    simp only [List.mem_cons, List.not_mem_nil, or_false] at hq
    rcases hq with rfl
    · have hst2 : eW E 0 0 L' f' 20 [(0, .ref (μ 0)), (1, .long (Int64.ofInt (0 + (1 * ν 0 + 0)))), (3, .int (Int32.ofInt (0 + (1 * ν 1 + 0)))), (4, .int (Int32.ofInt (0 + (1 * ν 2 + 0)))), (5, .int (Int32.ofInt (0 + (1 * ν 3 + 0))))] [.int (Int32.ofInt (0 + (1 * ν 3 + 0))), .int (Int32.ofInt (0 + (1 * ν 2 + 0))), .int (Int32.ofInt (0 + (1 * ν 1 + 0))), .ref (μ 0)] := ?_
      · exact hst2
      try simp only [Int.zero_add, Int.one_mul, Int.add_zero]
      exact k20 K' B' L' f'   h1 h2 (h3.1 0) (h3.1 1) (h3.1 2) (h3.1 3) (h3.2.2.2.1 0 200 rfl)

/-! lc0: from 0 to [11] -/
def w_lc0 : TP := ([(0, (2, 0, (0, []))), (1, (0, 0, (0, [(1, 0)])))], [], ([(0, 2800)], [], [], [200], [], [], []), [], [])
def u_lc0 : List (Nat × TP × EX × Nat × Nat) := [(11, ([(0, (2, 0, (0, []))), (1, (0, 0, (0, [(1, 0)])))], [(0, 0, (0, [(1, 1)])), (0, 0, (1, [(1, 0)])), (2, 1, (0, []))], ([(0, 2800), (0, 304)], [], [], [200, 203], [((200, (13, [])), (0, [(1, 1)]))], [], []), [(1, 0, (0, []))], [(1, 2)]), ((-1), []), 0, 0)]
def D_lc0 : DT := (mkD iX12_lawClause fX12 lX12 kX12 kkX12 412 [] (w_lc0, [], [], 10, 0, 0, 3) false 3 u_lc0)
theorem k_lc0 : chkS D_lc0 4000 0 0 0 = true := by decide +kernel
theorem s_lc0 {X0 : zC0} {E : zCx} (H : ∀ j, j < 412 → CMj X0 j) (hE : zOk E X0 RX12 cX12_lawClause 3 (zrm 10 0 0)) {K : Nat → Nat} {B : Int} {L : List Nat} {f : Nat → va_E} (hh : hok X0.2.2.1 K B L f) {v0 : Int} {r0 : Nat} (hb0 : 0 ≤ v0 ∧ v0 ≤ 2800) (hr0 : r0 ∈ L ∧ K r0 = 200) (k11 : ∀ (K' : Nat → Nat) (B' : Int) (L' : List Nat) (f' : Nat → va_E) (v1 : Int) (r1 : Nat), hok X0.2.2.1 K' B' L' f' → extC [] K B L f K' B' L' f' → (0 ≤ v0 ∧ v0 ≤ 2800) → (0 ≤ v1 ∧ v1 ≤ 304) → (r0 ∈ L' ∧ K' r0 = 200) → (r1 ∈ L' ∧ K' r1 = 203) → (∀ b ∈ L', K' b = 200 → gi (f' b) 13 = v1) → eW E 0 0 L' f' 11 [(0, .ref r0), (1, .int (Int32.ofInt v0))] [.int (Int32.ofInt v1), .int (Int32.ofInt (1 + v0)), .ref r1]) : eW E 0 0 L f 0 [(0, .ref r0), (1, .int (Int32.ofInt v0))] [] := by
  obtain ⟨l0, D0, cy0, ax0⟩ := X0
  have hraw : eW E 0 0 L f 0 [(0, .ref r0), (1, .int (Int32.ofInt (0 + (1 * v0 + 0))))] [] := ?_
  · simpa only [Int.zero_add, Int.one_mul, Int.add_zero] using hraw
  refine seg_ok (D := D_lc0) (νi := fun i => [v0].getD i 0) (μi := fun i => [r0].getD i 0) k_lc0 hE (mk_ok (ins := iX12_lawClause) jX12_lawClause fX12_ok lX12_ok kX12_ok kkX12_ok H) (by decide) rfl rfl rfl rfl hh ?_ ?_
  · refine ⟨(eok_of (fun i q hq => ?_) (fun i hi => ?_)), fa0, fa0, ?_, fa0, fa0, fa0⟩
    · match i, hq with
      | 0, hq => cases hq; exact hb0
      | i + 1, hq => cases hq
    · match i, hi with
      | 0, hi => exact absurd hi (by decide)
      | i + 1, _ => rfl
    · intro i k hk
      match i, hk with
      | 0, hk => cases hk; exact hr0
      | i + 1, hk => cases hk
  · intro q hq hst K' B' L' f' ν μ h1 h2 h3 h4 h5
    have e0 : ν 0 = v0 := h4 0 (by decide)
    have d0 : μ 0 = r0 := h5 0 (by decide)
    subst e0
    subst d0
    replace hq : q ∈ u_lc0 := hq
    unfold u_lc0 at hq
    simp only [List.mem_cons, List.not_mem_nil, or_false] at hq
    rcases hq with rfl
    · have hst2 : eW E 0 0 L' f' 11 [(0, .ref (μ 0)), (1, .int (Int32.ofInt (0 + (1 * ν 0 + 0))))] [.int (Int32.ofInt (0 + (1 * ν 1 + 0))), .int (Int32.ofInt (1 + (1 * ν 0 + 0))), .ref (μ 1)] := ?_
      · exact hst2
      try simp only [Int.zero_add, Int.one_mul, Int.add_zero]
      exact k11 K' B' L' f' (ν 1) (μ 1) h1 h2 (h3.1 0) (h3.1 1) (h3.2.2.2.1 0 200 rfl) (h3.2.2.2.1 1 203 rfl) (by simpa only [xv, xvT, Int.zero_add, Int.one_mul, Int.add_zero] using (mokF h1 (show (zkd 200).1 = 1 by decide) (j := 13) rfl (by decide) (h3.2.2.2.2.1 _ (List.mem_of_getElem? (i := 0) rfl))))

/-! lc12: from 12 to [13] -/
def w_lc12 : TP := ([(0, (2, 0, (0, []))), (1, (0, 0, (0, [(1, 0)])))], [], ([(0, 2800)], [], [], [200], [], [], []), [], [])
def u_lc12 : List (Nat × TP × EX × Nat × Nat) := [(13, ([(0, (2, 0, (0, []))), (1, (0, 0, (0, [(1, 0)])))], [(2, 0, (0, []))], ([(0, 2800)], [], [], [200], [], [], []), [], []), ((-1), []), 0, 0)]
def D_lc12 : DT := (mkD iX12_lawClause fX12 lX12 kX12 kkX12 412 [] (w_lc12, [], [], 10, 0, 0, 3) false 3 u_lc12)
theorem k_lc12 : chkS D_lc12 4000 0 0 12 = true := by decide +kernel
theorem s_lc12 {X0 : zC0} {E : zCx} (H : ∀ j, j < 412 → CMj X0 j) (hE : zOk E X0 RX12 cX12_lawClause 3 (zrm 10 0 0)) {K : Nat → Nat} {B : Int} {L : List Nat} {f : Nat → va_E} (hh : hok X0.2.2.1 K B L f) {v0 : Int} {r0 : Nat} (hb0 : 0 ≤ v0 ∧ v0 ≤ 2800) (hr0 : r0 ∈ L ∧ K r0 = 200) (k13 : ∀ (K' : Nat → Nat) (B' : Int) (L' : List Nat) (f' : Nat → va_E), hok X0.2.2.1 K' B' L' f' → extC [] K B L f K' B' L' f' → (0 ≤ v0 ∧ v0 ≤ 2800) → (r0 ∈ L' ∧ K' r0 = 200) → eW E 0 0 L' f' 13 [(0, .ref r0), (1, .int (Int32.ofInt v0))] [.ref r0]) : eW E 0 0 L f 12 [(0, .ref r0), (1, .int (Int32.ofInt v0))] [] := by
  obtain ⟨l0, D0, cy0, ax0⟩ := X0
  have hraw : eW E 0 0 L f 12 [(0, .ref r0), (1, .int (Int32.ofInt (0 + (1 * v0 + 0))))] [] := ?_
  · simpa only [Int.zero_add, Int.one_mul, Int.add_zero] using hraw
  refine seg_ok (D := D_lc12) (νi := fun i => [v0].getD i 0) (μi := fun i => [r0].getD i 0) k_lc12 hE (mk_ok (ins := iX12_lawClause) jX12_lawClause fX12_ok lX12_ok kX12_ok kkX12_ok H) (by decide) rfl rfl rfl rfl hh ?_ ?_
  · refine ⟨(eok_of (fun i q hq => ?_) (fun i hi => ?_)), fa0, fa0, ?_, fa0, fa0, fa0⟩
    · match i, hq with
      | 0, hq => cases hq; exact hb0
      | i + 1, hq => cases hq
    · match i, hi with
      | 0, hi => exact absurd hi (by decide)
      | i + 1, _ => rfl
    · intro i k hk
      match i, hk with
      | 0, hk => cases hk; exact hr0
      | i + 1, hk => cases hk
  · intro q hq hst K' B' L' f' ν μ h1 h2 h3 h4 h5
    have e0 : ν 0 = v0 := h4 0 (by decide)
    have d0 : μ 0 = r0 := h5 0 (by decide)
    subst e0
    subst d0
    replace hq : q ∈ u_lc12 := hq
    unfold u_lc12 at hq
    simp only [List.mem_cons, List.not_mem_nil, or_false] at hq
    rcases hq with rfl
    · have hst2 : eW E 0 0 L' f' 13 [(0, .ref (μ 0)), (1, .int (Int32.ofInt (0 + (1 * ν 0 + 0))))] [.ref (μ 0)] := ?_
      · exact hst2
      try simp only [Int.zero_add, Int.one_mul, Int.add_zero]
      exact k13 K' B' L' f'   h1 h2 (h3.1 0) (h3.2.2.2.1 0 200 rfl)

/-! lc16: from 16 to [28] -/
def w_lc16 : TP := ([(0, (2, 0, (0, []))), (1, (0, 0, (0, [(1, 0)])))], [(0, 0, (0, [(1, 1)]))], ([(0, 2800), (0, 6)], [], [], [200], [], [], []), [], [])
def u_lc16 : List (Nat × TP × EX × Nat × Nat) := [(28, ([(0, (2, 0, (0, []))), (1, (0, 0, (0, [(1, 0)]))), (2, (0, 0, (0, [(1, 1)])))], [(0, 0, (0, [(1, 2)])), (0, 0, (2, [(1, 0)])), (2, 1, (0, []))], ([(0, 2800), (0, 6), (0, 304)], [], [], [200, 203], [((200, (13, [])), (0, [(1, 2)]))], [], []), [(1, 0, (0, []))], [(1, 2)]), ((-1), []), 0, 0)]
def D_lc16 : DT := (mkD iX12_lawClause fX12 lX12 kX12 kkX12 412 [] (w_lc16, [], [], 10, 0, 0, 3) false 3 u_lc16)
theorem k_lc16 : chkS D_lc16 4000 0 0 16 = true := by decide +kernel
theorem s_lc16 {X0 : zC0} {E : zCx} (H : ∀ j, j < 412 → CMj X0 j) (hE : zOk E X0 RX12 cX12_lawClause 3 (zrm 10 0 0)) {K : Nat → Nat} {B : Int} {L : List Nat} {f : Nat → va_E} (hh : hok X0.2.2.1 K B L f) {v0 v1 : Int} {r0 : Nat} (hb0 : 0 ≤ v0 ∧ v0 ≤ 2800) (hb1 : 0 ≤ v1 ∧ v1 ≤ 6) (hr0 : r0 ∈ L ∧ K r0 = 200) (k28 : ∀ (K' : Nat → Nat) (B' : Int) (L' : List Nat) (f' : Nat → va_E) (v2 : Int) (r1 : Nat), hok X0.2.2.1 K' B' L' f' → extC [] K B L f K' B' L' f' → (0 ≤ v0 ∧ v0 ≤ 2800) → (0 ≤ v1 ∧ v1 ≤ 6) → (0 ≤ v2 ∧ v2 ≤ 304) → (r0 ∈ L' ∧ K' r0 = 200) → (r1 ∈ L' ∧ K' r1 = 203) → (∀ b ∈ L', K' b = 200 → gi (f' b) 13 = v2) → eW E 0 0 L' f' 28 [(0, .ref r0), (1, .int (Int32.ofInt v0)), (2, .int (Int32.ofInt v1))] [.int (Int32.ofInt v2), .int (Int32.ofInt (2 + v0)), .ref r1]) : eW E 0 0 L f 16 [(0, .ref r0), (1, .int (Int32.ofInt v0))] [.int (Int32.ofInt v1)] := by
  obtain ⟨l0, D0, cy0, ax0⟩ := X0
  have hraw : eW E 0 0 L f 16 [(0, .ref r0), (1, .int (Int32.ofInt (0 + (1 * v0 + 0))))] [.int (Int32.ofInt (0 + (1 * v1 + 0)))] := ?_
  · simpa only [Int.zero_add, Int.one_mul, Int.add_zero] using hraw
  refine seg_ok (D := D_lc16) (νi := fun i => [v0, v1].getD i 0) (μi := fun i => [r0].getD i 0) k_lc16 hE (mk_ok (ins := iX12_lawClause) jX12_lawClause fX12_ok lX12_ok kX12_ok kkX12_ok H) (by decide) rfl rfl rfl rfl hh ?_ ?_
  · refine ⟨(eok_of (fun i q hq => ?_) (fun i hi => ?_)), fa0, fa0, ?_, fa0, fa0, fa0⟩
    · match i, hq with
      | 0, hq => cases hq; exact hb0
      | 1, hq => cases hq; exact hb1
      | i + 2, hq => cases hq
    · match i, hi with
      | 0, hi => exact absurd hi (by decide)
      | 1, hi => exact absurd hi (by decide)
      | i + 2, _ => rfl
    · intro i k hk
      match i, hk with
      | 0, hk => cases hk; exact hr0
      | i + 1, hk => cases hk
  · intro q hq hst K' B' L' f' ν μ h1 h2 h3 h4 h5
    have e0 : ν 0 = v0 := h4 0 (by decide)
    have e1 : ν 1 = v1 := h4 1 (by decide)
    have d0 : μ 0 = r0 := h5 0 (by decide)
    subst e0
    subst e1
    subst d0
    replace hq : q ∈ u_lc16 := hq
    unfold u_lc16 at hq
    simp only [List.mem_cons, List.not_mem_nil, or_false] at hq
    rcases hq with rfl
    · have hst2 : eW E 0 0 L' f' 28 [(0, .ref (μ 0)), (1, .int (Int32.ofInt (0 + (1 * ν 0 + 0)))), (2, .int (Int32.ofInt (0 + (1 * ν 1 + 0))))] [.int (Int32.ofInt (0 + (1 * ν 2 + 0))), .int (Int32.ofInt (2 + (1 * ν 0 + 0))), .ref (μ 1)] := ?_
      · exact hst2
      try simp only [Int.zero_add, Int.one_mul, Int.add_zero]
      exact k28 K' B' L' f' (ν 2) (μ 1) h1 h2 (h3.1 0) (h3.1 1) (h3.1 2) (h3.2.2.2.1 0 200 rfl) (h3.2.2.2.1 1 203 rfl) (by simpa only [xv, xvT, Int.zero_add, Int.one_mul, Int.add_zero] using (mokF h1 (show (zkd 200).1 = 1 by decide) (j := 13) rfl (by decide) (h3.2.2.2.2.1 _ (List.mem_of_getElem? (i := 0) rfl))))

/-! lc29: from 29 to [30] -/
def w_lc29 : TP := ([(0, (2, 0, (0, []))), (1, (0, 0, (0, [(1, 0)]))), (2, (0, 0, (0, [(1, 1)])))], [], ([(0, 2800), (0, 6)], [], [], [200], [], [], []), [], [])
def u_lc29 : List (Nat × TP × EX × Nat × Nat) := [(30, ([(0, (2, 0, (0, []))), (1, (0, 0, (0, [(1, 0)]))), (2, (0, 0, (0, [(1, 1)])))], [(0, 0, (0, [(1, 1)]))], ([(0, 2800), (0, 6)], [], [], [200], [], [], []), [], []), ((-1), []), 0, 0)]
def D_lc29 : DT := (mkD iX12_lawClause fX12 lX12 kX12 kkX12 412 [] (w_lc29, [], [], 10, 0, 0, 3) false 3 u_lc29)
theorem k_lc29 : chkS D_lc29 4000 0 0 29 = true := by decide +kernel
theorem s_lc29 {X0 : zC0} {E : zCx} (H : ∀ j, j < 412 → CMj X0 j) (hE : zOk E X0 RX12 cX12_lawClause 3 (zrm 10 0 0)) {K : Nat → Nat} {B : Int} {L : List Nat} {f : Nat → va_E} (hh : hok X0.2.2.1 K B L f) {v0 v1 : Int} {r0 : Nat} (hb0 : 0 ≤ v0 ∧ v0 ≤ 2800) (hb1 : 0 ≤ v1 ∧ v1 ≤ 6) (hr0 : r0 ∈ L ∧ K r0 = 200) (k30 : ∀ (K' : Nat → Nat) (B' : Int) (L' : List Nat) (f' : Nat → va_E), hok X0.2.2.1 K' B' L' f' → extC [] K B L f K' B' L' f' → (0 ≤ v0 ∧ v0 ≤ 2800) → (0 ≤ v1 ∧ v1 ≤ 6) → (r0 ∈ L' ∧ K' r0 = 200) → eW E 0 0 L' f' 30 [(0, .ref r0), (1, .int (Int32.ofInt v0)), (2, .int (Int32.ofInt v1))] [.int (Int32.ofInt v1)]) : eW E 0 0 L f 29 [(0, .ref r0), (1, .int (Int32.ofInt v0)), (2, .int (Int32.ofInt v1))] [] := by
  obtain ⟨l0, D0, cy0, ax0⟩ := X0
  have hraw : eW E 0 0 L f 29 [(0, .ref r0), (1, .int (Int32.ofInt (0 + (1 * v0 + 0)))), (2, .int (Int32.ofInt (0 + (1 * v1 + 0))))] [] := ?_
  · simpa only [Int.zero_add, Int.one_mul, Int.add_zero] using hraw
  refine seg_ok (D := D_lc29) (νi := fun i => [v0, v1].getD i 0) (μi := fun i => [r0].getD i 0) k_lc29 hE (mk_ok (ins := iX12_lawClause) jX12_lawClause fX12_ok lX12_ok kX12_ok kkX12_ok H) (by decide) rfl rfl rfl rfl hh ?_ ?_
  · refine ⟨(eok_of (fun i q hq => ?_) (fun i hi => ?_)), fa0, fa0, ?_, fa0, fa0, fa0⟩
    · match i, hq with
      | 0, hq => cases hq; exact hb0
      | 1, hq => cases hq; exact hb1
      | i + 2, hq => cases hq
    · match i, hi with
      | 0, hi => exact absurd hi (by decide)
      | 1, hi => exact absurd hi (by decide)
      | i + 2, _ => rfl
    · intro i k hk
      match i, hk with
      | 0, hk => cases hk; exact hr0
      | i + 1, hk => cases hk
  · intro q hq hst K' B' L' f' ν μ h1 h2 h3 h4 h5
    have e0 : ν 0 = v0 := h4 0 (by decide)
    have e1 : ν 1 = v1 := h4 1 (by decide)
    have d0 : μ 0 = r0 := h5 0 (by decide)
    subst e0
    subst e1
    subst d0
    replace hq : q ∈ u_lc29 := hq
    unfold u_lc29 at hq
    simp only [List.mem_cons, List.not_mem_nil, or_false] at hq
    rcases hq with rfl
    · have hst2 : eW E 0 0 L' f' 30 [(0, .ref (μ 0)), (1, .int (Int32.ofInt (0 + (1 * ν 0 + 0)))), (2, .int (Int32.ofInt (0 + (1 * ν 1 + 0))))] [.int (Int32.ofInt (0 + (1 * ν 1 + 0)))] := ?_
      · exact hst2
      try simp only [Int.zero_add, Int.one_mul, Int.add_zero]
      exact k30 K' B' L' f'   h1 h2 (h3.1 0) (h3.1 1) (h3.2.2.2.1 0 200 rfl)

/-! fc0: from 0 to [7] -/
def w_fc0 : TP := ([(0, (2, 0, (0, []))), (1, (0, 0, (0, [(1, 0)])))], [], ([(0, 2800)], [], [], [200], [], [], []), [], [])
def u_fc0 : List (Nat × TP × EX × Nat × Nat) := [(7, ([(0, (2, 0, (0, []))), (1, (0, 0, (0, [(1, 0)])))], [(0, 0, (9, [])), (0, 0, (0, [])), (0, 0, (1, [(1, 0)])), (2, 0, (0, []))], ([(0, 2800)], [], [], [200], [], [], []), [], []), ((-1), []), 0, 0)]
def D_fc0 : DT := (mkD iX12_fieldClause fX12 lX12 kX12 kkX12 412 [] (w_fc0, [], [], 8, 0, 0, 3) false 3 u_fc0)
theorem k_fc0 : chkS D_fc0 4000 0 0 0 = true := by decide +kernel
theorem s_fc0 {X0 : zC0} {E : zCx} (H : ∀ j, j < 412 → CMj X0 j) (hE : zOk E X0 RX12 cX12_fieldClause 3 (zrm 8 0 0)) {K : Nat → Nat} {B : Int} {L : List Nat} {f : Nat → va_E} (hh : hok X0.2.2.1 K B L f) {v0 : Int} {r0 : Nat} (hb0 : 0 ≤ v0 ∧ v0 ≤ 2800) (hr0 : r0 ∈ L ∧ K r0 = 200) (k7 : ∀ (K' : Nat → Nat) (B' : Int) (L' : List Nat) (f' : Nat → va_E), hok X0.2.2.1 K' B' L' f' → extC [] K B L f K' B' L' f' → (0 ≤ v0 ∧ v0 ≤ 2800) → (r0 ∈ L' ∧ K' r0 = 200) → eW E 0 0 L' f' 7 [(0, .ref r0), (1, .int (Int32.ofInt v0))] [.int (Int32.ofInt 9), .int (Int32.ofInt 0), .int (Int32.ofInt (1 + v0)), .ref r0]) : eW E 0 0 L f 0 [(0, .ref r0), (1, .int (Int32.ofInt v0))] [] := by
  obtain ⟨l0, D0, cy0, ax0⟩ := X0
  have hraw : eW E 0 0 L f 0 [(0, .ref r0), (1, .int (Int32.ofInt (0 + (1 * v0 + 0))))] [] := ?_
  · simpa only [Int.zero_add, Int.one_mul, Int.add_zero] using hraw
  refine seg_ok (D := D_fc0) (νi := fun i => [v0].getD i 0) (μi := fun i => [r0].getD i 0) k_fc0 hE (mk_ok (ins := iX12_fieldClause) jX12_fieldClause fX12_ok lX12_ok kX12_ok kkX12_ok H) (by decide) rfl rfl rfl rfl hh ?_ ?_
  · refine ⟨(eok_of (fun i q hq => ?_) (fun i hi => ?_)), fa0, fa0, ?_, fa0, fa0, fa0⟩
    · match i, hq with
      | 0, hq => cases hq; exact hb0
      | i + 1, hq => cases hq
    · match i, hi with
      | 0, hi => exact absurd hi (by decide)
      | i + 1, _ => rfl
    · intro i k hk
      match i, hk with
      | 0, hk => cases hk; exact hr0
      | i + 1, hk => cases hk
  · intro q hq hst K' B' L' f' ν μ h1 h2 h3 h4 h5
    have e0 : ν 0 = v0 := h4 0 (by decide)
    have d0 : μ 0 = r0 := h5 0 (by decide)
    subst e0
    subst d0
    replace hq : q ∈ u_fc0 := hq
    unfold u_fc0 at hq
    simp only [List.mem_cons, List.not_mem_nil, or_false] at hq
    rcases hq with rfl
    · have hst2 : eW E 0 0 L' f' 7 [(0, .ref (μ 0)), (1, .int (Int32.ofInt (0 + (1 * ν 0 + 0))))] [.int (Int32.ofInt (9 + 0)), .int (Int32.ofInt (0 + 0)), .int (Int32.ofInt (1 + (1 * ν 0 + 0))), .ref (μ 0)] := ?_
      · exact hst2
      try simp only [Int.zero_add, Int.one_mul, Int.add_zero]
      exact k7 K' B' L' f'   h1 h2 (h3.1 0) (h3.2.2.2.1 0 200 rfl)

/-! fc10: from 10 to [36, 74] -/
def w_fc10 : TP := ([(0, (2, 0, (0, []))), (1, (0, 0, (0, [(1, 0)])))], [(0, 0, (0, [(1, 1)]))], ([(0, 2800), (0, 6)], [], [], [200], [], [], []), [], [])
def u_fc10 : List (Nat × TP × EX × Nat × Nat) := [(36, ([(0, (2, 0, (0, []))), (1, (0, 0, (0, [(1, 0)]))), (2, (0, 0, (0, [(1, 1)])))], [(0, 0, (999, [])), (0, 0, (0, [])), (0, 0, (2, [(1, 0)])), (1, 0, (0, [(1, 2)])), (2, 0, (0, []))], ([(0, 2800), (0, 0), ((-9223372036854775808), 9223372036854775807)], [], [], [200], [], [], []), [(1, 3, (0, []))], []), ((-1), []), 0, 0), (74, ([(0, (2, 0, (0, []))), (1, (0, 0, (0, [(1, 0)]))), (2, (0, 0, (0, [(1, 1)])))], [(0, 0, (0, [(1, 1)]))], ([(0, 2800), (1, 6)], [], [], [200], [], [], []), [], []), ((-1), []), 0, 0)]
def D_fc10 : DT := (mkD iX12_fieldClause fX12 lX12 kX12 kkX12 412 [(26, [395])] (w_fc10, [], [], 8, 0, 0, 3) false 3 u_fc10)
theorem k_fc10 : chkS D_fc10 4000 0 0 10 = true := by decide +kernel
theorem s_fc10 {X0 : zC0} {E : zCx} (H : ∀ j, j < 412 → CMj X0 j) (hE : zOk E X0 RX12 cX12_fieldClause 3 (zrm 8 0 0)) {K : Nat → Nat} {B : Int} {L : List Nat} {f : Nat → va_E} (hh : hok X0.2.2.1 K B L f) {v0 v1 : Int} {r0 : Nat} (hb0 : 0 ≤ v0 ∧ v0 ≤ 2800) (hb1 : 0 ≤ v1 ∧ v1 ≤ 6) (hr0 : r0 ∈ L ∧ K r0 = 200) (k36 : ∀ (K' : Nat → Nat) (B' : Int) (L' : List Nat) (f' : Nat → va_E) (v2 : Int), hok X0.2.2.1 K' B' L' f' → extC [] K B L f K' B' L' f' → (0 ≤ v0 ∧ v0 ≤ 2800) → (0 ≤ v1 ∧ v1 ≤ 0) → ((-9223372036854775808) ≤ v2 ∧ v2 ≤ 9223372036854775807) → (r0 ∈ L' ∧ K' r0 = 200) → eW E 0 0 L' f' 36 [(0, .ref r0), (1, .int (Int32.ofInt v0)), (2, .int (Int32.ofInt v1))] [.int (Int32.ofInt 999), .int (Int32.ofInt 0), .int (Int32.ofInt (2 + v0)), .long (Int64.ofInt v2), .ref r0]) (k74 : ∀ (K' : Nat → Nat) (B' : Int) (L' : List Nat) (f' : Nat → va_E), hok X0.2.2.1 K' B' L' f' → extC [] K B L f K' B' L' f' → (0 ≤ v0 ∧ v0 ≤ 2800) → (1 ≤ v1 ∧ v1 ≤ 6) → (r0 ∈ L' ∧ K' r0 = 200) → eW E 0 0 L' f' 74 [(0, .ref r0), (1, .int (Int32.ofInt v0)), (2, .int (Int32.ofInt v1))] [.int (Int32.ofInt v1)]) : eW E 0 0 L f 10 [(0, .ref r0), (1, .int (Int32.ofInt v0))] [.int (Int32.ofInt v1)] := by
  obtain ⟨l0, D0, cy0, ax0⟩ := X0
  have hraw : eW E 0 0 L f 10 [(0, .ref r0), (1, .int (Int32.ofInt (0 + (1 * v0 + 0))))] [.int (Int32.ofInt (0 + (1 * v1 + 0)))] := ?_
  · simpa only [Int.zero_add, Int.one_mul, Int.add_zero] using hraw
  refine seg_ok (D := D_fc10) (νi := fun i => [v0, v1].getD i 0) (μi := fun i => [r0].getD i 0) k_fc10 hE (mk_ok (ins := iX12_fieldClause) jX12_fieldClause fX12_ok lX12_ok kX12_ok kkX12_ok H) (by decide) rfl rfl rfl rfl hh ?_ ?_
  · refine ⟨(eok_of (fun i q hq => ?_) (fun i hi => ?_)), fa0, fa0, ?_, fa0, fa0, fa0⟩
    · match i, hq with
      | 0, hq => cases hq; exact hb0
      | 1, hq => cases hq; exact hb1
      | i + 2, hq => cases hq
    · match i, hi with
      | 0, hi => exact absurd hi (by decide)
      | 1, hi => exact absurd hi (by decide)
      | i + 2, _ => rfl
    · intro i k hk
      match i, hk with
      | 0, hk => cases hk; exact hr0
      | i + 1, hk => cases hk
  · intro q hq hst K' B' L' f' ν μ h1 h2 h3 h4 h5
    have e0 : ν 0 = v0 := h4 0 (by decide)
    have e1 : ν 1 = v1 := h4 1 (by decide)
    have d0 : μ 0 = r0 := h5 0 (by decide)
    subst e0
    subst e1
    subst d0
    replace hq : q ∈ u_fc10 := hq
    unfold u_fc10 at hq
    simp only [List.mem_cons, List.not_mem_nil, or_false] at hq
    rcases hq with rfl | rfl
    · have hst2 : eW E 0 0 L' f' 36 [(0, .ref (μ 0)), (1, .int (Int32.ofInt (0 + (1 * ν 0 + 0)))), (2, .int (Int32.ofInt (0 + (1 * ν 1 + 0))))] [.int (Int32.ofInt (999 + 0)), .int (Int32.ofInt (0 + 0)), .int (Int32.ofInt (2 + (1 * ν 0 + 0))), .long (Int64.ofInt (0 + (1 * ν 2 + 0))), .ref (μ 0)] := ?_
      · exact hst2
      try simp only [Int.zero_add, Int.one_mul, Int.add_zero]
      exact k36 K' B' L' f' (ν 2)  h1 h2 (h3.1 0) (h3.1 1) (h3.1 2) (h3.2.2.2.1 0 200 rfl)
    · have hst2 : eW E 0 0 L' f' 74 [(0, .ref (μ 0)), (1, .int (Int32.ofInt (0 + (1 * ν 0 + 0)))), (2, .int (Int32.ofInt (0 + (1 * ν 1 + 0))))] [.int (Int32.ofInt (0 + (1 * ν 1 + 0)))] := ?_
      · exact hst2
      try simp only [Int.zero_add, Int.one_mul, Int.add_zero]
      exact k74 K' B' L' f'   h1 h2 (h3.1 0) (h3.1 1) (h3.2.2.2.1 0 200 rfl)

/-! fc39: from 39 to [71, 74] -/
def w_fc39 : TP := ([(0, (2, 0, (0, []))), (1, (0, 0, (0, [(1, 0)])))], [(0, 0, (0, [(1, 1)]))], ([(0, 2800), (0, 6)], [], [], [200], [], [], []), [], [])
def u_fc39 : List (Nat × TP × EX × Nat × Nat) := [(71, ([(0, (2, 0, (0, []))), (1, (0, 0, (0, [(1, 0)]))), (2, (0, 0, (0, [(1, 1)])))], [(0, 0, (999, [])), (0, 0, (1, [])), (0, 0, (3, [(1, 0)])), (1, 0, (0, [(1, 2)])), (2, 0, (0, []))], ([(0, 2800), (0, 0), ((-9223372036854775808), 9223372036854775807)], [], [], [200], [], [], []), [(1, 3, (0, []))], []), ((-1), []), 0, 0), (74, ([(0, (2, 0, (0, []))), (1, (0, 0, (0, [(1, 0)]))), (2, (0, 0, (0, [(1, 1)])))], [(0, 0, (0, [(1, 1)]))], ([(0, 2800), (1, 6)], [], [], [200], [], [], []), [], []), ((-1), []), 0, 0)]
def D_fc39 : DT := (mkD iX12_fieldClause fX12 lX12 kX12 kkX12 412 [(61, [411])] (w_fc39, [], [], 8, 0, 0, 3) false 3 u_fc39)
theorem k_fc39 : chkS D_fc39 4000 0 0 39 = true := by decide +kernel
theorem s_fc39 {X0 : zC0} {E : zCx} (H : ∀ j, j < 412 → CMj X0 j) (hE : zOk E X0 RX12 cX12_fieldClause 3 (zrm 8 0 0)) {K : Nat → Nat} {B : Int} {L : List Nat} {f : Nat → va_E} (hh : hok X0.2.2.1 K B L f) {v0 v1 : Int} {r0 : Nat} (hb0 : 0 ≤ v0 ∧ v0 ≤ 2800) (hb1 : 0 ≤ v1 ∧ v1 ≤ 6) (hr0 : r0 ∈ L ∧ K r0 = 200) (k71 : ∀ (K' : Nat → Nat) (B' : Int) (L' : List Nat) (f' : Nat → va_E) (v2 : Int), hok X0.2.2.1 K' B' L' f' → extC [] K B L f K' B' L' f' → (0 ≤ v0 ∧ v0 ≤ 2800) → (0 ≤ v1 ∧ v1 ≤ 0) → ((-9223372036854775808) ≤ v2 ∧ v2 ≤ 9223372036854775807) → (r0 ∈ L' ∧ K' r0 = 200) → eW E 0 0 L' f' 71 [(0, .ref r0), (1, .int (Int32.ofInt v0)), (2, .int (Int32.ofInt v1))] [.int (Int32.ofInt 999), .int (Int32.ofInt 1), .int (Int32.ofInt (3 + v0)), .long (Int64.ofInt v2), .ref r0]) (k74 : ∀ (K' : Nat → Nat) (B' : Int) (L' : List Nat) (f' : Nat → va_E), hok X0.2.2.1 K' B' L' f' → extC [] K B L f K' B' L' f' → (0 ≤ v0 ∧ v0 ≤ 2800) → (1 ≤ v1 ∧ v1 ≤ 6) → (r0 ∈ L' ∧ K' r0 = 200) → eW E 0 0 L' f' 74 [(0, .ref r0), (1, .int (Int32.ofInt v0)), (2, .int (Int32.ofInt v1))] [.int (Int32.ofInt v1)]) : eW E 0 0 L f 39 [(0, .ref r0), (1, .int (Int32.ofInt v0))] [.int (Int32.ofInt v1)] := by
  obtain ⟨l0, D0, cy0, ax0⟩ := X0
  have hraw : eW E 0 0 L f 39 [(0, .ref r0), (1, .int (Int32.ofInt (0 + (1 * v0 + 0))))] [.int (Int32.ofInt (0 + (1 * v1 + 0)))] := ?_
  · simpa only [Int.zero_add, Int.one_mul, Int.add_zero] using hraw
  refine seg_ok (D := D_fc39) (νi := fun i => [v0, v1].getD i 0) (μi := fun i => [r0].getD i 0) k_fc39 hE (mk_ok (ins := iX12_fieldClause) jX12_fieldClause fX12_ok lX12_ok kX12_ok kkX12_ok H) (by decide) rfl rfl rfl rfl hh ?_ ?_
  · refine ⟨(eok_of (fun i q hq => ?_) (fun i hi => ?_)), fa0, fa0, ?_, fa0, fa0, fa0⟩
    · match i, hq with
      | 0, hq => cases hq; exact hb0
      | 1, hq => cases hq; exact hb1
      | i + 2, hq => cases hq
    · match i, hi with
      | 0, hi => exact absurd hi (by decide)
      | 1, hi => exact absurd hi (by decide)
      | i + 2, _ => rfl
    · intro i k hk
      match i, hk with
      | 0, hk => cases hk; exact hr0
      | i + 1, hk => cases hk
  · intro q hq hst K' B' L' f' ν μ h1 h2 h3 h4 h5
    have e0 : ν 0 = v0 := h4 0 (by decide)
    have e1 : ν 1 = v1 := h4 1 (by decide)
    have d0 : μ 0 = r0 := h5 0 (by decide)
    subst e0
    subst e1
    subst d0
    replace hq : q ∈ u_fc39 := hq
    unfold u_fc39 at hq
    simp only [List.mem_cons, List.not_mem_nil, or_false] at hq
    rcases hq with rfl | rfl
    · have hst2 : eW E 0 0 L' f' 71 [(0, .ref (μ 0)), (1, .int (Int32.ofInt (0 + (1 * ν 0 + 0)))), (2, .int (Int32.ofInt (0 + (1 * ν 1 + 0))))] [.int (Int32.ofInt (999 + 0)), .int (Int32.ofInt (1 + 0)), .int (Int32.ofInt (3 + (1 * ν 0 + 0))), .long (Int64.ofInt (0 + (1 * ν 2 + 0))), .ref (μ 0)] := ?_
      · exact hst2
      try simp only [Int.zero_add, Int.one_mul, Int.add_zero]
      exact k71 K' B' L' f' (ν 2)  h1 h2 (h3.1 0) (h3.1 1) (h3.1 2) (h3.2.2.2.1 0 200 rfl)
    · have hst2 : eW E 0 0 L' f' 74 [(0, .ref (μ 0)), (1, .int (Int32.ofInt (0 + (1 * ν 0 + 0)))), (2, .int (Int32.ofInt (0 + (1 * ν 1 + 0))))] [.int (Int32.ofInt (0 + (1 * ν 1 + 0)))] := ?_
      · exact hst2
      try simp only [Int.zero_add, Int.one_mul, Int.add_zero]
      exact k74 K' B' L' f'   h1 h2 (h3.1 0) (h3.1 1) (h3.2.2.2.1 0 200 rfl)

/-! oc0: from 0 to [7] -/
def w_oc0 : TP := ([(0, (2, 0, (0, []))), (1, (0, 0, (0, [(1, 0)])))], [], ([(0, 2800)], [], [], [200], [], [], []), [], [])
def u_oc0 : List (Nat × TP × EX × Nat × Nat) := [(7, ([(0, (2, 0, (0, []))), (1, (0, 0, (0, [(1, 0)])))], [(0, 0, (99, [])), (0, 0, (1, [])), (0, 0, (1, [(1, 0)])), (2, 0, (0, []))], ([(0, 2800)], [], [], [200], [], [], []), [], []), ((-1), []), 0, 0)]
def D_oc0 : DT := (mkD iX12_oneClause fX12 lX12 kX12 kkX12 412 [] (w_oc0, [], [], 8, 0, 0, 3) false 3 u_oc0)
theorem k_oc0 : chkS D_oc0 4000 0 0 0 = true := by decide +kernel
theorem s_oc0 {X0 : zC0} {E : zCx} (H : ∀ j, j < 412 → CMj X0 j) (hE : zOk E X0 RX12 cX12_oneClause 3 (zrm 8 0 0)) {K : Nat → Nat} {B : Int} {L : List Nat} {f : Nat → va_E} (hh : hok X0.2.2.1 K B L f) {v0 : Int} {r0 : Nat} (hb0 : 0 ≤ v0 ∧ v0 ≤ 2800) (hr0 : r0 ∈ L ∧ K r0 = 200) (k7 : ∀ (K' : Nat → Nat) (B' : Int) (L' : List Nat) (f' : Nat → va_E), hok X0.2.2.1 K' B' L' f' → extC [] K B L f K' B' L' f' → (0 ≤ v0 ∧ v0 ≤ 2800) → (r0 ∈ L' ∧ K' r0 = 200) → eW E 0 0 L' f' 7 [(0, .ref r0), (1, .int (Int32.ofInt v0))] [.int (Int32.ofInt 99), .int (Int32.ofInt 1), .int (Int32.ofInt (1 + v0)), .ref r0]) : eW E 0 0 L f 0 [(0, .ref r0), (1, .int (Int32.ofInt v0))] [] := by
  obtain ⟨l0, D0, cy0, ax0⟩ := X0
  have hraw : eW E 0 0 L f 0 [(0, .ref r0), (1, .int (Int32.ofInt (0 + (1 * v0 + 0))))] [] := ?_
  · simpa only [Int.zero_add, Int.one_mul, Int.add_zero] using hraw
  refine seg_ok (D := D_oc0) (νi := fun i => [v0].getD i 0) (μi := fun i => [r0].getD i 0) k_oc0 hE (mk_ok (ins := iX12_oneClause) jX12_oneClause fX12_ok lX12_ok kX12_ok kkX12_ok H) (by decide) rfl rfl rfl rfl hh ?_ ?_
  · refine ⟨(eok_of (fun i q hq => ?_) (fun i hi => ?_)), fa0, fa0, ?_, fa0, fa0, fa0⟩
    · match i, hq with
      | 0, hq => cases hq; exact hb0
      | i + 1, hq => cases hq
    · match i, hi with
      | 0, hi => exact absurd hi (by decide)
      | i + 1, _ => rfl
    · intro i k hk
      match i, hk with
      | 0, hk => cases hk; exact hr0
      | i + 1, hk => cases hk
  · intro q hq hst K' B' L' f' ν μ h1 h2 h3 h4 h5
    have e0 : ν 0 = v0 := h4 0 (by decide)
    have d0 : μ 0 = r0 := h5 0 (by decide)
    subst e0
    subst d0
    replace hq : q ∈ u_oc0 := hq
    unfold u_oc0 at hq
    simp only [List.mem_cons, List.not_mem_nil, or_false] at hq
    rcases hq with rfl
    · have hst2 : eW E 0 0 L' f' 7 [(0, .ref (μ 0)), (1, .int (Int32.ofInt (0 + (1 * ν 0 + 0))))] [.int (Int32.ofInt (99 + 0)), .int (Int32.ofInt (1 + 0)), .int (Int32.ofInt (1 + (1 * ν 0 + 0))), .ref (μ 0)] := ?_
      · exact hst2
      try simp only [Int.zero_add, Int.one_mul, Int.add_zero]
      exact k7 K' B' L' f'   h1 h2 (h3.1 0) (h3.2.2.2.1 0 200 rfl)

/-! oc10: from 10 to [31, 59] -/
def w_oc10 : TP := ([(0, (2, 0, (0, []))), (1, (0, 0, (0, [(1, 0)])))], [(0, 0, (0, [(1, 1)]))], ([(0, 2800), (0, 6)], [], [], [200], [], [], []), [], [])
def u_oc10 : List (Nat × TP × EX × Nat × Nat) := [(31, ([(0, (2, 0, (0, []))), (1, (0, 0, (0, [(1, 0)]))), (2, (0, 0, (0, [(1, 1)])))], [(0, 0, (99, [])), (0, 0, (0, [])), (0, 0, (2, [(1, 0)])), (1, 0, (0, [(1, 2)])), (2, 0, (0, []))], ([(0, 2800), (0, 0), ((-9223372036854775808), 9223372036854775807)], [], [], [200], [], [], []), [(1, 3, (0, []))], []), ((-1), []), 0, 0), (59, ([(0, (2, 0, (0, []))), (1, (0, 0, (0, [(1, 0)]))), (2, (0, 0, (0, [(1, 1)])))], [(0, 0, (0, [(1, 1)]))], ([(0, 2800), (1, 6)], [], [], [200], [], [], []), [], []), ((-1), []), 0, 0)]
def D_oc10 : DT := (mkD iX12_oneClause fX12 lX12 kX12 kkX12 412 [(22, [393])] (w_oc10, [], [], 8, 0, 0, 3) false 3 u_oc10)
theorem k_oc10 : chkS D_oc10 4000 0 0 10 = true := by decide +kernel
theorem s_oc10 {X0 : zC0} {E : zCx} (H : ∀ j, j < 412 → CMj X0 j) (hE : zOk E X0 RX12 cX12_oneClause 3 (zrm 8 0 0)) {K : Nat → Nat} {B : Int} {L : List Nat} {f : Nat → va_E} (hh : hok X0.2.2.1 K B L f) {v0 v1 : Int} {r0 : Nat} (hb0 : 0 ≤ v0 ∧ v0 ≤ 2800) (hb1 : 0 ≤ v1 ∧ v1 ≤ 6) (hr0 : r0 ∈ L ∧ K r0 = 200) (k31 : ∀ (K' : Nat → Nat) (B' : Int) (L' : List Nat) (f' : Nat → va_E) (v2 : Int), hok X0.2.2.1 K' B' L' f' → extC [] K B L f K' B' L' f' → (0 ≤ v0 ∧ v0 ≤ 2800) → (0 ≤ v1 ∧ v1 ≤ 0) → ((-9223372036854775808) ≤ v2 ∧ v2 ≤ 9223372036854775807) → (r0 ∈ L' ∧ K' r0 = 200) → eW E 0 0 L' f' 31 [(0, .ref r0), (1, .int (Int32.ofInt v0)), (2, .int (Int32.ofInt v1))] [.int (Int32.ofInt 99), .int (Int32.ofInt 0), .int (Int32.ofInt (2 + v0)), .long (Int64.ofInt v2), .ref r0]) (k59 : ∀ (K' : Nat → Nat) (B' : Int) (L' : List Nat) (f' : Nat → va_E), hok X0.2.2.1 K' B' L' f' → extC [] K B L f K' B' L' f' → (0 ≤ v0 ∧ v0 ≤ 2800) → (1 ≤ v1 ∧ v1 ≤ 6) → (r0 ∈ L' ∧ K' r0 = 200) → eW E 0 0 L' f' 59 [(0, .ref r0), (1, .int (Int32.ofInt v0)), (2, .int (Int32.ofInt v1))] [.int (Int32.ofInt v1)]) : eW E 0 0 L f 10 [(0, .ref r0), (1, .int (Int32.ofInt v0))] [.int (Int32.ofInt v1)] := by
  obtain ⟨l0, D0, cy0, ax0⟩ := X0
  have hraw : eW E 0 0 L f 10 [(0, .ref r0), (1, .int (Int32.ofInt (0 + (1 * v0 + 0))))] [.int (Int32.ofInt (0 + (1 * v1 + 0)))] := ?_
  · simpa only [Int.zero_add, Int.one_mul, Int.add_zero] using hraw
  refine seg_ok (D := D_oc10) (νi := fun i => [v0, v1].getD i 0) (μi := fun i => [r0].getD i 0) k_oc10 hE (mk_ok (ins := iX12_oneClause) jX12_oneClause fX12_ok lX12_ok kX12_ok kkX12_ok H) (by decide) rfl rfl rfl rfl hh ?_ ?_
  · refine ⟨(eok_of (fun i q hq => ?_) (fun i hi => ?_)), fa0, fa0, ?_, fa0, fa0, fa0⟩
    · match i, hq with
      | 0, hq => cases hq; exact hb0
      | 1, hq => cases hq; exact hb1
      | i + 2, hq => cases hq
    · match i, hi with
      | 0, hi => exact absurd hi (by decide)
      | 1, hi => exact absurd hi (by decide)
      | i + 2, _ => rfl
    · intro i k hk
      match i, hk with
      | 0, hk => cases hk; exact hr0
      | i + 1, hk => cases hk
  · intro q hq hst K' B' L' f' ν μ h1 h2 h3 h4 h5
    have e0 : ν 0 = v0 := h4 0 (by decide)
    have e1 : ν 1 = v1 := h4 1 (by decide)
    have d0 : μ 0 = r0 := h5 0 (by decide)
    subst e0
    subst e1
    subst d0
    replace hq : q ∈ u_oc10 := hq
    unfold u_oc10 at hq
    simp only [List.mem_cons, List.not_mem_nil, or_false] at hq
    rcases hq with rfl | rfl
    · have hst2 : eW E 0 0 L' f' 31 [(0, .ref (μ 0)), (1, .int (Int32.ofInt (0 + (1 * ν 0 + 0)))), (2, .int (Int32.ofInt (0 + (1 * ν 1 + 0))))] [.int (Int32.ofInt (99 + 0)), .int (Int32.ofInt (0 + 0)), .int (Int32.ofInt (2 + (1 * ν 0 + 0))), .long (Int64.ofInt (0 + (1 * ν 2 + 0))), .ref (μ 0)] := ?_
      · exact hst2
      try simp only [Int.zero_add, Int.one_mul, Int.add_zero]
      exact k31 K' B' L' f' (ν 2)  h1 h2 (h3.1 0) (h3.1 1) (h3.1 2) (h3.2.2.2.1 0 200 rfl)
    · have hst2 : eW E 0 0 L' f' 59 [(0, .ref (μ 0)), (1, .int (Int32.ofInt (0 + (1 * ν 0 + 0)))), (2, .int (Int32.ofInt (0 + (1 * ν 1 + 0))))] [.int (Int32.ofInt (0 + (1 * ν 1 + 0)))] := ?_
      · exact hst2
      try simp only [Int.zero_add, Int.one_mul, Int.add_zero]
      exact k59 K' B' L' f'   h1 h2 (h3.1 0) (h3.1 1) (h3.2.2.2.1 0 200 rfl)

/-! oc39: from 34 to [56, 59] -/
def w_oc39 : TP := ([(0, (2, 0, (0, []))), (1, (0, 0, (0, [(1, 0)])))], [(0, 0, (0, [(1, 1)]))], ([(0, 2800), (0, 6)], [], [], [200], [], [], []), [], [])
def u_oc39 : List (Nat × TP × EX × Nat × Nat) := [(56, ([(0, (2, 0, (0, []))), (1, (0, 0, (0, [(1, 0)]))), (2, (0, 0, (0, [(1, 1)])))], [(0, 0, (5, [])), (0, 0, (0, [])), (0, 0, (3, [(1, 0)])), (1, 0, (0, [(1, 2)])), (2, 0, (0, []))], ([(0, 2800), (0, 0), ((-9223372036854775808), 9223372036854775807)], [], [], [200], [], [], []), [(1, 3, (0, []))], []), ((-1), []), 0, 0), (59, ([(0, (2, 0, (0, []))), (1, (0, 0, (0, [(1, 0)]))), (2, (0, 0, (0, [(1, 1)])))], [(0, 0, (0, [(1, 1)]))], ([(0, 2800), (1, 6)], [], [], [200], [], [], []), [], []), ((-1), []), 0, 0)]
def D_oc39 : DT := (mkD iX12_oneClause fX12 lX12 kX12 kkX12 412 [(48, [392])] (w_oc39, [], [], 8, 0, 0, 3) false 3 u_oc39)
theorem k_oc39 : chkS D_oc39 4000 0 0 34 = true := by decide +kernel
theorem s_oc39 {X0 : zC0} {E : zCx} (H : ∀ j, j < 412 → CMj X0 j) (hE : zOk E X0 RX12 cX12_oneClause 3 (zrm 8 0 0)) {K : Nat → Nat} {B : Int} {L : List Nat} {f : Nat → va_E} (hh : hok X0.2.2.1 K B L f) {v0 v1 : Int} {r0 : Nat} (hb0 : 0 ≤ v0 ∧ v0 ≤ 2800) (hb1 : 0 ≤ v1 ∧ v1 ≤ 6) (hr0 : r0 ∈ L ∧ K r0 = 200) (k56 : ∀ (K' : Nat → Nat) (B' : Int) (L' : List Nat) (f' : Nat → va_E) (v2 : Int), hok X0.2.2.1 K' B' L' f' → extC [] K B L f K' B' L' f' → (0 ≤ v0 ∧ v0 ≤ 2800) → (0 ≤ v1 ∧ v1 ≤ 0) → ((-9223372036854775808) ≤ v2 ∧ v2 ≤ 9223372036854775807) → (r0 ∈ L' ∧ K' r0 = 200) → eW E 0 0 L' f' 56 [(0, .ref r0), (1, .int (Int32.ofInt v0)), (2, .int (Int32.ofInt v1))] [.int (Int32.ofInt 5), .int (Int32.ofInt 0), .int (Int32.ofInt (3 + v0)), .long (Int64.ofInt v2), .ref r0]) (k59 : ∀ (K' : Nat → Nat) (B' : Int) (L' : List Nat) (f' : Nat → va_E), hok X0.2.2.1 K' B' L' f' → extC [] K B L f K' B' L' f' → (0 ≤ v0 ∧ v0 ≤ 2800) → (1 ≤ v1 ∧ v1 ≤ 6) → (r0 ∈ L' ∧ K' r0 = 200) → eW E 0 0 L' f' 59 [(0, .ref r0), (1, .int (Int32.ofInt v0)), (2, .int (Int32.ofInt v1))] [.int (Int32.ofInt v1)]) : eW E 0 0 L f 34 [(0, .ref r0), (1, .int (Int32.ofInt v0))] [.int (Int32.ofInt v1)] := by
  obtain ⟨l0, D0, cy0, ax0⟩ := X0
  have hraw : eW E 0 0 L f 34 [(0, .ref r0), (1, .int (Int32.ofInt (0 + (1 * v0 + 0))))] [.int (Int32.ofInt (0 + (1 * v1 + 0)))] := ?_
  · simpa only [Int.zero_add, Int.one_mul, Int.add_zero] using hraw
  refine seg_ok (D := D_oc39) (νi := fun i => [v0, v1].getD i 0) (μi := fun i => [r0].getD i 0) k_oc39 hE (mk_ok (ins := iX12_oneClause) jX12_oneClause fX12_ok lX12_ok kX12_ok kkX12_ok H) (by decide) rfl rfl rfl rfl hh ?_ ?_
  · refine ⟨(eok_of (fun i q hq => ?_) (fun i hi => ?_)), fa0, fa0, ?_, fa0, fa0, fa0⟩
    · match i, hq with
      | 0, hq => cases hq; exact hb0
      | 1, hq => cases hq; exact hb1
      | i + 2, hq => cases hq
    · match i, hi with
      | 0, hi => exact absurd hi (by decide)
      | 1, hi => exact absurd hi (by decide)
      | i + 2, _ => rfl
    · intro i k hk
      match i, hk with
      | 0, hk => cases hk; exact hr0
      | i + 1, hk => cases hk
  · intro q hq hst K' B' L' f' ν μ h1 h2 h3 h4 h5
    have e0 : ν 0 = v0 := h4 0 (by decide)
    have e1 : ν 1 = v1 := h4 1 (by decide)
    have d0 : μ 0 = r0 := h5 0 (by decide)
    subst e0
    subst e1
    subst d0
    replace hq : q ∈ u_oc39 := hq
    unfold u_oc39 at hq
    simp only [List.mem_cons, List.not_mem_nil, or_false] at hq
    rcases hq with rfl | rfl
    · have hst2 : eW E 0 0 L' f' 56 [(0, .ref (μ 0)), (1, .int (Int32.ofInt (0 + (1 * ν 0 + 0)))), (2, .int (Int32.ofInt (0 + (1 * ν 1 + 0))))] [.int (Int32.ofInt (5 + 0)), .int (Int32.ofInt (0 + 0)), .int (Int32.ofInt (3 + (1 * ν 0 + 0))), .long (Int64.ofInt (0 + (1 * ν 2 + 0))), .ref (μ 0)] := ?_
      · exact hst2
      try simp only [Int.zero_add, Int.one_mul, Int.add_zero]
      exact k56 K' B' L' f' (ν 2)  h1 h2 (h3.1 0) (h3.1 1) (h3.1 2) (h3.2.2.2.1 0 200 rfl)
    · have hst2 : eW E 0 0 L' f' 59 [(0, .ref (μ 0)), (1, .int (Int32.ofInt (0 + (1 * ν 0 + 0)))), (2, .int (Int32.ofInt (0 + (1 * ν 1 + 0))))] [.int (Int32.ofInt (0 + (1 * ν 1 + 0)))] := ?_
      · exact hst2
      try simp only [Int.zero_add, Int.one_mul, Int.add_zero]
      exact k59 K' B' L' f'   h1 h2 (h3.1 0) (h3.1 1) (h3.2.2.2.1 0 200 rfl)

/-! sc0: from 0 to [7] -/
def w_sc0 : TP := ([(0, (2, 0, (0, []))), (1, (0, 0, (0, [(1, 0)])))], [], ([(0, 2800)], [], [], [200], [], [], []), [], [])
def u_sc0 : List (Nat × TP × EX × Nat × Nat) := [(7, ([(0, (2, 0, (0, []))), (1, (0, 0, (0, [(1, 0)])))], [(0, 0, (7, [])), (0, 0, (0, [])), (0, 0, (1, [(1, 0)])), (2, 0, (0, []))], ([(0, 2800)], [], [], [200], [], [], []), [], []), ((-1), []), 0, 0)]
def D_sc0 : DT := (mkD iX12_stealClause fX12 lX12 kX12 kkX12 412 [] (w_sc0, [], [], 8, 0, 0, 3) false 3 u_sc0)
theorem k_sc0 : chkS D_sc0 4000 0 0 0 = true := by decide +kernel
theorem s_sc0 {X0 : zC0} {E : zCx} (H : ∀ j, j < 412 → CMj X0 j) (hE : zOk E X0 RX12 cX12_stealClause 3 (zrm 8 0 0)) {K : Nat → Nat} {B : Int} {L : List Nat} {f : Nat → va_E} (hh : hok X0.2.2.1 K B L f) {v0 : Int} {r0 : Nat} (hb0 : 0 ≤ v0 ∧ v0 ≤ 2800) (hr0 : r0 ∈ L ∧ K r0 = 200) (k7 : ∀ (K' : Nat → Nat) (B' : Int) (L' : List Nat) (f' : Nat → va_E), hok X0.2.2.1 K' B' L' f' → extC [] K B L f K' B' L' f' → (0 ≤ v0 ∧ v0 ≤ 2800) → (r0 ∈ L' ∧ K' r0 = 200) → eW E 0 0 L' f' 7 [(0, .ref r0), (1, .int (Int32.ofInt v0))] [.int (Int32.ofInt 7), .int (Int32.ofInt 0), .int (Int32.ofInt (1 + v0)), .ref r0]) : eW E 0 0 L f 0 [(0, .ref r0), (1, .int (Int32.ofInt v0))] [] := by
  obtain ⟨l0, D0, cy0, ax0⟩ := X0
  have hraw : eW E 0 0 L f 0 [(0, .ref r0), (1, .int (Int32.ofInt (0 + (1 * v0 + 0))))] [] := ?_
  · simpa only [Int.zero_add, Int.one_mul, Int.add_zero] using hraw
  refine seg_ok (D := D_sc0) (νi := fun i => [v0].getD i 0) (μi := fun i => [r0].getD i 0) k_sc0 hE (mk_ok (ins := iX12_stealClause) jX12_stealClause fX12_ok lX12_ok kX12_ok kkX12_ok H) (by decide) rfl rfl rfl rfl hh ?_ ?_
  · refine ⟨(eok_of (fun i q hq => ?_) (fun i hi => ?_)), fa0, fa0, ?_, fa0, fa0, fa0⟩
    · match i, hq with
      | 0, hq => cases hq; exact hb0
      | i + 1, hq => cases hq
    · match i, hi with
      | 0, hi => exact absurd hi (by decide)
      | i + 1, _ => rfl
    · intro i k hk
      match i, hk with
      | 0, hk => cases hk; exact hr0
      | i + 1, hk => cases hk
  · intro q hq hst K' B' L' f' ν μ h1 h2 h3 h4 h5
    have e0 : ν 0 = v0 := h4 0 (by decide)
    have d0 : μ 0 = r0 := h5 0 (by decide)
    subst e0
    subst d0
    replace hq : q ∈ u_sc0 := hq
    unfold u_sc0 at hq
    simp only [List.mem_cons, List.not_mem_nil, or_false] at hq
    rcases hq with rfl
    · have hst2 : eW E 0 0 L' f' 7 [(0, .ref (μ 0)), (1, .int (Int32.ofInt (0 + (1 * ν 0 + 0))))] [.int (Int32.ofInt (7 + 0)), .int (Int32.ofInt (0 + 0)), .int (Int32.ofInt (1 + (1 * ν 0 + 0))), .ref (μ 0)] := ?_
      · exact hst2
      try simp only [Int.zero_add, Int.one_mul, Int.add_zero]
      exact k7 K' B' L' f'   h1 h2 (h3.1 0) (h3.2.2.2.1 0 200 rfl)

/-! sc10: from 10 to [33, 62] -/
def w_sc10 : TP := ([(0, (2, 0, (0, []))), (1, (0, 0, (0, [(1, 0)])))], [(0, 0, (0, [(1, 1)]))], ([(0, 2800), (0, 6)], [], [], [200], [], [], []), [], [])
def u_sc10 : List (Nat × TP × EX × Nat × Nat) := [(33, ([(0, (2, 0, (0, []))), (1, (0, 0, (0, [(1, 0)]))), (2, (0, 0, (0, [(1, 1)])))], [(0, 0, (7, [])), (0, 0, (0, [])), (0, 0, (2, [(1, 0)])), (1, 0, (0, [(1, 2)])), (2, 0, (0, []))], ([(0, 2800), (0, 0), ((-9223372036854775808), 9223372036854775807)], [], [], [200], [], [], []), [(1, 3, (0, []))], []), ((-1), []), 0, 0), (62, ([(0, (2, 0, (0, []))), (1, (0, 0, (0, [(1, 0)]))), (2, (0, 0, (0, [(1, 1)])))], [(0, 0, (0, [(1, 1)]))], ([(0, 2800), (1, 6)], [], [], [200], [], [], []), [], []), ((-1), []), 0, 0)]
def D_sc10 : DT := (mkD iX12_stealClause fX12 lX12 kX12 kkX12 412 [(24, [394])] (w_sc10, [], [], 8, 0, 0, 3) false 3 u_sc10)
theorem k_sc10 : chkS D_sc10 4000 0 0 10 = true := by decide +kernel
theorem s_sc10 {X0 : zC0} {E : zCx} (H : ∀ j, j < 412 → CMj X0 j) (hE : zOk E X0 RX12 cX12_stealClause 3 (zrm 8 0 0)) {K : Nat → Nat} {B : Int} {L : List Nat} {f : Nat → va_E} (hh : hok X0.2.2.1 K B L f) {v0 v1 : Int} {r0 : Nat} (hb0 : 0 ≤ v0 ∧ v0 ≤ 2800) (hb1 : 0 ≤ v1 ∧ v1 ≤ 6) (hr0 : r0 ∈ L ∧ K r0 = 200) (k33 : ∀ (K' : Nat → Nat) (B' : Int) (L' : List Nat) (f' : Nat → va_E) (v2 : Int), hok X0.2.2.1 K' B' L' f' → extC [] K B L f K' B' L' f' → (0 ≤ v0 ∧ v0 ≤ 2800) → (0 ≤ v1 ∧ v1 ≤ 0) → ((-9223372036854775808) ≤ v2 ∧ v2 ≤ 9223372036854775807) → (r0 ∈ L' ∧ K' r0 = 200) → eW E 0 0 L' f' 33 [(0, .ref r0), (1, .int (Int32.ofInt v0)), (2, .int (Int32.ofInt v1))] [.int (Int32.ofInt 7), .int (Int32.ofInt 0), .int (Int32.ofInt (2 + v0)), .long (Int64.ofInt v2), .ref r0]) (k62 : ∀ (K' : Nat → Nat) (B' : Int) (L' : List Nat) (f' : Nat → va_E), hok X0.2.2.1 K' B' L' f' → extC [] K B L f K' B' L' f' → (0 ≤ v0 ∧ v0 ≤ 2800) → (1 ≤ v1 ∧ v1 ≤ 6) → (r0 ∈ L' ∧ K' r0 = 200) → eW E 0 0 L' f' 62 [(0, .ref r0), (1, .int (Int32.ofInt v0)), (2, .int (Int32.ofInt v1))] [.int (Int32.ofInt v1)]) : eW E 0 0 L f 10 [(0, .ref r0), (1, .int (Int32.ofInt v0))] [.int (Int32.ofInt v1)] := by
  obtain ⟨l0, D0, cy0, ax0⟩ := X0
  have hraw : eW E 0 0 L f 10 [(0, .ref r0), (1, .int (Int32.ofInt (0 + (1 * v0 + 0))))] [.int (Int32.ofInt (0 + (1 * v1 + 0)))] := ?_
  · simpa only [Int.zero_add, Int.one_mul, Int.add_zero] using hraw
  refine seg_ok (D := D_sc10) (νi := fun i => [v0, v1].getD i 0) (μi := fun i => [r0].getD i 0) k_sc10 hE (mk_ok (ins := iX12_stealClause) jX12_stealClause fX12_ok lX12_ok kX12_ok kkX12_ok H) (by decide) rfl rfl rfl rfl hh ?_ ?_
  · refine ⟨(eok_of (fun i q hq => ?_) (fun i hi => ?_)), fa0, fa0, ?_, fa0, fa0, fa0⟩
    · match i, hq with
      | 0, hq => cases hq; exact hb0
      | 1, hq => cases hq; exact hb1
      | i + 2, hq => cases hq
    · match i, hi with
      | 0, hi => exact absurd hi (by decide)
      | 1, hi => exact absurd hi (by decide)
      | i + 2, _ => rfl
    · intro i k hk
      match i, hk with
      | 0, hk => cases hk; exact hr0
      | i + 1, hk => cases hk
  · intro q hq hst K' B' L' f' ν μ h1 h2 h3 h4 h5
    have e0 : ν 0 = v0 := h4 0 (by decide)
    have e1 : ν 1 = v1 := h4 1 (by decide)
    have d0 : μ 0 = r0 := h5 0 (by decide)
    subst e0
    subst e1
    subst d0
    replace hq : q ∈ u_sc10 := hq
    unfold u_sc10 at hq
    simp only [List.mem_cons, List.not_mem_nil, or_false] at hq
    rcases hq with rfl | rfl
    · have hst2 : eW E 0 0 L' f' 33 [(0, .ref (μ 0)), (1, .int (Int32.ofInt (0 + (1 * ν 0 + 0)))), (2, .int (Int32.ofInt (0 + (1 * ν 1 + 0))))] [.int (Int32.ofInt (7 + 0)), .int (Int32.ofInt (0 + 0)), .int (Int32.ofInt (2 + (1 * ν 0 + 0))), .long (Int64.ofInt (0 + (1 * ν 2 + 0))), .ref (μ 0)] := ?_
      · exact hst2
      try simp only [Int.zero_add, Int.one_mul, Int.add_zero]
      exact k33 K' B' L' f' (ν 2)  h1 h2 (h3.1 0) (h3.1 1) (h3.1 2) (h3.2.2.2.1 0 200 rfl)
    · have hst2 : eW E 0 0 L' f' 62 [(0, .ref (μ 0)), (1, .int (Int32.ofInt (0 + (1 * ν 0 + 0)))), (2, .int (Int32.ofInt (0 + (1 * ν 1 + 0))))] [.int (Int32.ofInt (0 + (1 * ν 1 + 0)))] := ?_
      · exact hst2
      try simp only [Int.zero_add, Int.one_mul, Int.add_zero]
      exact k62 K' B' L' f'   h1 h2 (h3.1 0) (h3.1 1) (h3.2.2.2.1 0 200 rfl)

/-! sc39: from 36 to [59, 62] -/
def w_sc39 : TP := ([(0, (2, 0, (0, []))), (1, (0, 0, (0, [(1, 0)])))], [(0, 0, (0, [(1, 1)]))], ([(0, 2800), (0, 6)], [], [], [200], [], [], []), [], [])
def u_sc39 : List (Nat × TP × EX × Nat × Nat) := [(59, ([(0, (2, 0, (0, []))), (1, (0, 0, (0, [(1, 0)]))), (2, (0, 0, (0, [(1, 1)])))], [(0, 0, (99, [])), (0, 0, (1, [])), (0, 0, (3, [(1, 0)])), (1, 0, (0, [(1, 2)])), (2, 0, (0, []))], ([(0, 2800), (0, 0), ((-9223372036854775808), 9223372036854775807)], [], [], [200], [], [], []), [(1, 3, (0, []))], []), ((-1), []), 0, 0), (62, ([(0, (2, 0, (0, []))), (1, (0, 0, (0, [(1, 0)]))), (2, (0, 0, (0, [(1, 1)])))], [(0, 0, (0, [(1, 1)]))], ([(0, 2800), (1, 6)], [], [], [200], [], [], []), [], []), ((-1), []), 0, 0)]
def D_sc39 : DT := (mkD iX12_stealClause fX12 lX12 kX12 kkX12 412 [(50, [392])] (w_sc39, [], [], 8, 0, 0, 3) false 3 u_sc39)
theorem k_sc39 : chkS D_sc39 4000 0 0 36 = true := by decide +kernel
theorem s_sc39 {X0 : zC0} {E : zCx} (H : ∀ j, j < 412 → CMj X0 j) (hE : zOk E X0 RX12 cX12_stealClause 3 (zrm 8 0 0)) {K : Nat → Nat} {B : Int} {L : List Nat} {f : Nat → va_E} (hh : hok X0.2.2.1 K B L f) {v0 v1 : Int} {r0 : Nat} (hb0 : 0 ≤ v0 ∧ v0 ≤ 2800) (hb1 : 0 ≤ v1 ∧ v1 ≤ 6) (hr0 : r0 ∈ L ∧ K r0 = 200) (k59 : ∀ (K' : Nat → Nat) (B' : Int) (L' : List Nat) (f' : Nat → va_E) (v2 : Int), hok X0.2.2.1 K' B' L' f' → extC [] K B L f K' B' L' f' → (0 ≤ v0 ∧ v0 ≤ 2800) → (0 ≤ v1 ∧ v1 ≤ 0) → ((-9223372036854775808) ≤ v2 ∧ v2 ≤ 9223372036854775807) → (r0 ∈ L' ∧ K' r0 = 200) → eW E 0 0 L' f' 59 [(0, .ref r0), (1, .int (Int32.ofInt v0)), (2, .int (Int32.ofInt v1))] [.int (Int32.ofInt 99), .int (Int32.ofInt 1), .int (Int32.ofInt (3 + v0)), .long (Int64.ofInt v2), .ref r0]) (k62 : ∀ (K' : Nat → Nat) (B' : Int) (L' : List Nat) (f' : Nat → va_E), hok X0.2.2.1 K' B' L' f' → extC [] K B L f K' B' L' f' → (0 ≤ v0 ∧ v0 ≤ 2800) → (1 ≤ v1 ∧ v1 ≤ 6) → (r0 ∈ L' ∧ K' r0 = 200) → eW E 0 0 L' f' 62 [(0, .ref r0), (1, .int (Int32.ofInt v0)), (2, .int (Int32.ofInt v1))] [.int (Int32.ofInt v1)]) : eW E 0 0 L f 36 [(0, .ref r0), (1, .int (Int32.ofInt v0))] [.int (Int32.ofInt v1)] := by
  obtain ⟨l0, D0, cy0, ax0⟩ := X0
  have hraw : eW E 0 0 L f 36 [(0, .ref r0), (1, .int (Int32.ofInt (0 + (1 * v0 + 0))))] [.int (Int32.ofInt (0 + (1 * v1 + 0)))] := ?_
  · simpa only [Int.zero_add, Int.one_mul, Int.add_zero] using hraw
  refine seg_ok (D := D_sc39) (νi := fun i => [v0, v1].getD i 0) (μi := fun i => [r0].getD i 0) k_sc39 hE (mk_ok (ins := iX12_stealClause) jX12_stealClause fX12_ok lX12_ok kX12_ok kkX12_ok H) (by decide) rfl rfl rfl rfl hh ?_ ?_
  · refine ⟨(eok_of (fun i q hq => ?_) (fun i hi => ?_)), fa0, fa0, ?_, fa0, fa0, fa0⟩
    · match i, hq with
      | 0, hq => cases hq; exact hb0
      | 1, hq => cases hq; exact hb1
      | i + 2, hq => cases hq
    · match i, hi with
      | 0, hi => exact absurd hi (by decide)
      | 1, hi => exact absurd hi (by decide)
      | i + 2, _ => rfl
    · intro i k hk
      match i, hk with
      | 0, hk => cases hk; exact hr0
      | i + 1, hk => cases hk
  · intro q hq hst K' B' L' f' ν μ h1 h2 h3 h4 h5
    have e0 : ν 0 = v0 := h4 0 (by decide)
    have e1 : ν 1 = v1 := h4 1 (by decide)
    have d0 : μ 0 = r0 := h5 0 (by decide)
    subst e0
    subst e1
    subst d0
    replace hq : q ∈ u_sc39 := hq
    unfold u_sc39 at hq
    simp only [List.mem_cons, List.not_mem_nil, or_false] at hq
    rcases hq with rfl | rfl
    · have hst2 : eW E 0 0 L' f' 59 [(0, .ref (μ 0)), (1, .int (Int32.ofInt (0 + (1 * ν 0 + 0)))), (2, .int (Int32.ofInt (0 + (1 * ν 1 + 0))))] [.int (Int32.ofInt (99 + 0)), .int (Int32.ofInt (1 + 0)), .int (Int32.ofInt (3 + (1 * ν 0 + 0))), .long (Int64.ofInt (0 + (1 * ν 2 + 0))), .ref (μ 0)] := ?_
      · exact hst2
      try simp only [Int.zero_add, Int.one_mul, Int.add_zero]
      exact k59 K' B' L' f' (ν 2)  h1 h2 (h3.1 0) (h3.1 1) (h3.1 2) (h3.2.2.2.1 0 200 rfl)
    · have hst2 : eW E 0 0 L' f' 62 [(0, .ref (μ 0)), (1, .int (Int32.ofInt (0 + (1 * ν 0 + 0)))), (2, .int (Int32.ofInt (0 + (1 * ν 1 + 0))))] [.int (Int32.ofInt (0 + (1 * ν 1 + 0)))] := ?_
      · exact hst2
      try simp only [Int.zero_add, Int.one_mul, Int.add_zero]
      exact k62 K' B' L' f'   h1 h2 (h3.1 0) (h3.1 1) (h3.2.2.2.1 0 200 rfl)

/-! pr0: from 0 to [6] -/
def w_pr0 : TP := ([(0, (2, 0, (0, []))), (1, (0, 0, (0, [(1, 0)]))), (2, (0, 0, (0, [(1, 1)]))), (3, (0, 0, (0, [(1, 2)]))), (4, (1, 0, (0, [(1, 3)]))), (6, (0, 0, (0, [(1, 4)])))], [], ([(0, 2800), ((-2147483648), 2147483647), ((-2147483648), 2147483647), ((-9223372036854775808), 9223372036854775807), ((-2147483648), 2147483647)], [], [], [200], [], [], []), [], [])
def u_pr0 : List (Nat × TP × EX × Nat × Nat) := [(6, ([(0, (2, 0, (0, []))), (1, (0, 0, (0, [(1, 0)]))), (2, (0, 0, (0, [(1, 1)]))), (3, (0, 0, (0, [(1, 2)]))), (4, (1, 0, (0, [(1, 3)]))), (6, (0, 0, (0, [(1, 4)])))], [(0, 0, (0, [(1, 2)])), (0, 0, (0, [(1, 1)])), (0, 0, (1, [(1, 0)])), (2, 0, (0, []))], ([(0, 2800), ((-2147483648), 2147483647), ((-2147483648), 2147483647), ((-9223372036854775808), 9223372036854775807), ((-2147483648), 2147483647)], [], [], [200], [], [], []), [], []), ((-1), []), 0, 0)]
def D_pr0 : DT := (mkD iX12_pair fX12 lX12 kX12 kkX12 412 [] (w_pr0, [], [], 8, 0, 0, 3) false 8 u_pr0)
theorem k_pr0 : chkS D_pr0 4000 0 0 0 = true := by decide +kernel
theorem s_pr0 {X0 : zC0} {E : zCx} (H : ∀ j, j < 412 → CMj X0 j) (hE : zOk E X0 RX12 cX12_pair 8 (zrm 8 0 0)) {K : Nat → Nat} {B : Int} {L : List Nat} {f : Nat → va_E} (hh : hok X0.2.2.1 K B L f) {v0 v1 v2 v3 v4 : Int} {r0 : Nat} (hb0 : 0 ≤ v0 ∧ v0 ≤ 2800) (hb1 : (-2147483648) ≤ v1 ∧ v1 ≤ 2147483647) (hb2 : (-2147483648) ≤ v2 ∧ v2 ≤ 2147483647) (hb3 : (-9223372036854775808) ≤ v3 ∧ v3 ≤ 9223372036854775807) (hb4 : (-2147483648) ≤ v4 ∧ v4 ≤ 2147483647) (hr0 : r0 ∈ L ∧ K r0 = 200) (k6 : ∀ (K' : Nat → Nat) (B' : Int) (L' : List Nat) (f' : Nat → va_E), hok X0.2.2.1 K' B' L' f' → extC [] K B L f K' B' L' f' → (0 ≤ v0 ∧ v0 ≤ 2800) → ((-2147483648) ≤ v1 ∧ v1 ≤ 2147483647) → ((-2147483648) ≤ v2 ∧ v2 ≤ 2147483647) → ((-9223372036854775808) ≤ v3 ∧ v3 ≤ 9223372036854775807) → ((-2147483648) ≤ v4 ∧ v4 ≤ 2147483647) → (r0 ∈ L' ∧ K' r0 = 200) → eW E 0 0 L' f' 6 [(0, .ref r0), (1, .int (Int32.ofInt v0)), (2, .int (Int32.ofInt v1)), (3, .int (Int32.ofInt v2)), (4, .long (Int64.ofInt v3)), (6, .int (Int32.ofInt v4))] [.int (Int32.ofInt v2), .int (Int32.ofInt v1), .int (Int32.ofInt (1 + v0)), .ref r0]) : eW E 0 0 L f 0 [(0, .ref r0), (1, .int (Int32.ofInt v0)), (2, .int (Int32.ofInt v1)), (3, .int (Int32.ofInt v2)), (4, .long (Int64.ofInt v3)), (6, .int (Int32.ofInt v4))] [] := by
  obtain ⟨l0, D0, cy0, ax0⟩ := X0
  have hraw : eW E 0 0 L f 0 [(0, .ref r0), (1, .int (Int32.ofInt (0 + (1 * v0 + 0)))), (2, .int (Int32.ofInt (0 + (1 * v1 + 0)))), (3, .int (Int32.ofInt (0 + (1 * v2 + 0)))), (4, .long (Int64.ofInt (0 + (1 * v3 + 0)))), (6, .int (Int32.ofInt (0 + (1 * v4 + 0))))] [] := ?_
  · simpa only [Int.zero_add, Int.one_mul, Int.add_zero] using hraw
  refine seg_ok (D := D_pr0) (νi := fun i => [v0, v1, v2, v3, v4].getD i 0) (μi := fun i => [r0].getD i 0) k_pr0 hE (mk_ok (ins := iX12_pair) jX12_pair fX12_ok lX12_ok kX12_ok kkX12_ok H) (by decide) rfl rfl rfl rfl hh ?_ ?_
  · refine ⟨(eok_of (fun i q hq => ?_) (fun i hi => ?_)), fa0, fa0, ?_, fa0, fa0, fa0⟩
    · match i, hq with
      | 0, hq => cases hq; exact hb0
      | 1, hq => cases hq; exact hb1
      | 2, hq => cases hq; exact hb2
      | 3, hq => cases hq; exact hb3
      | 4, hq => cases hq; exact hb4
      | i + 5, hq => cases hq
    · match i, hi with
      | 0, hi => exact absurd hi (by decide)
      | 1, hi => exact absurd hi (by decide)
      | 2, hi => exact absurd hi (by decide)
      | 3, hi => exact absurd hi (by decide)
      | 4, hi => exact absurd hi (by decide)
      | i + 5, _ => rfl
    · intro i k hk
      match i, hk with
      | 0, hk => cases hk; exact hr0
      | i + 1, hk => cases hk
  · intro q hq hst K' B' L' f' ν μ h1 h2 h3 h4 h5
    have e0 : ν 0 = v0 := h4 0 (by decide)
    have e1 : ν 1 = v1 := h4 1 (by decide)
    have e2 : ν 2 = v2 := h4 2 (by decide)
    have e3 : ν 3 = v3 := h4 3 (by decide)
    have e4 : ν 4 = v4 := h4 4 (by decide)
    have d0 : μ 0 = r0 := h5 0 (by decide)
    subst e0
    subst e1
    subst e2
    subst e3
    subst e4
    subst d0
    replace hq : q ∈ u_pr0 := hq
    unfold u_pr0 at hq
    simp only [List.mem_cons, List.not_mem_nil, or_false] at hq
    rcases hq with rfl
    · have hst2 : eW E 0 0 L' f' 6 [(0, .ref (μ 0)), (1, .int (Int32.ofInt (0 + (1 * ν 0 + 0)))), (2, .int (Int32.ofInt (0 + (1 * ν 1 + 0)))), (3, .int (Int32.ofInt (0 + (1 * ν 2 + 0)))), (4, .long (Int64.ofInt (0 + (1 * ν 3 + 0)))), (6, .int (Int32.ofInt (0 + (1 * ν 4 + 0))))] [.int (Int32.ofInt (0 + (1 * ν 2 + 0))), .int (Int32.ofInt (0 + (1 * ν 1 + 0))), .int (Int32.ofInt (1 + (1 * ν 0 + 0))), .ref (μ 0)] := ?_
      · exact hst2
      try simp only [Int.zero_add, Int.one_mul, Int.add_zero]
      exact k6 K' B' L' f'   h1 h2 (h3.1 0) (h3.1 1) (h3.1 2) (h3.1 3) (h3.1 4) (h3.2.2.2.1 0 200 rfl)

/-! pr9: from 9 to [30, 33] -/
def w_pr9 : TP := ([(0, (2, 0, (0, []))), (1, (0, 0, (0, [(1, 0)]))), (2, (0, 0, (0, [(1, 1)]))), (3, (0, 0, (0, [(1, 2)]))), (4, (1, 0, (0, [(1, 3)]))), (6, (0, 0, (0, [(1, 4)])))], [(0, 0, (0, [(1, 5)]))], ([(0, 2800), ((-2147483648), 2147483647), ((-2147483648), 2147483647), ((-9223372036854775808), 9223372036854775807), ((-2147483648), 2147483647), (0, 6)], [], [], [200], [], [], []), [], [])
def u_pr9 : List (Nat × TP × EX × Nat × Nat) := [(30, ([(0, (2, 0, (0, []))), (1, (0, 0, (0, [(1, 0)]))), (2, (0, 0, (0, [(1, 1)]))), (3, (0, 0, (0, [(1, 2)]))), (4, (1, 0, (0, [(1, 3)]))), (6, (0, 0, (0, [(1, 4)]))), (7, (0, 0, (0, [(1, 5)])))], [(0, 0, (0, [(1, 4)])), (0, 0, (0, [])), (0, 0, (2, [(1, 0)])), (1, 0, (0, [(1, 3)])), (2, 0, (0, []))], ([(0, 2800), ((-2147483648), 2147483647), ((-2147483648), 2147483647), ((-9223372036854775808), 9223372036854775807), ((-2147483648), 2147483647), (0, 0)], [], [], [200], [], [], []), [], []), ((-1), []), 0, 0), (33, ([(0, (2, 0, (0, []))), (1, (0, 0, (0, [(1, 0)]))), (2, (0, 0, (0, [(1, 1)]))), (3, (0, 0, (0, [(1, 2)]))), (4, (1, 0, (0, [(1, 3)]))), (6, (0, 0, (0, [(1, 4)]))), (7, (0, 0, (0, [(1, 5)])))], [(0, 0, (0, [(1, 5)]))], ([(0, 2800), ((-2147483648), 2147483647), ((-2147483648), 2147483647), ((-9223372036854775808), 9223372036854775807), ((-2147483648), 2147483647), (1, 6)], [], [], [200], [], [], []), [], []), ((-1), []), 0, 0)]
def D_pr9 : DT := (mkD iX12_pair fX12 lX12 kX12 kkX12 412 [] (w_pr9, [], [], 8, 0, 0, 3) false 8 u_pr9)
theorem k_pr9 : chkS D_pr9 4000 0 0 9 = true := by decide +kernel
theorem s_pr9 {X0 : zC0} {E : zCx} (H : ∀ j, j < 412 → CMj X0 j) (hE : zOk E X0 RX12 cX12_pair 8 (zrm 8 0 0)) {K : Nat → Nat} {B : Int} {L : List Nat} {f : Nat → va_E} (hh : hok X0.2.2.1 K B L f) {v0 v1 v2 v3 v4 v5 : Int} {r0 : Nat} (hb0 : 0 ≤ v0 ∧ v0 ≤ 2800) (hb1 : (-2147483648) ≤ v1 ∧ v1 ≤ 2147483647) (hb2 : (-2147483648) ≤ v2 ∧ v2 ≤ 2147483647) (hb3 : (-9223372036854775808) ≤ v3 ∧ v3 ≤ 9223372036854775807) (hb4 : (-2147483648) ≤ v4 ∧ v4 ≤ 2147483647) (hb5 : 0 ≤ v5 ∧ v5 ≤ 6) (hr0 : r0 ∈ L ∧ K r0 = 200) (k30 : ∀ (K' : Nat → Nat) (B' : Int) (L' : List Nat) (f' : Nat → va_E), hok X0.2.2.1 K' B' L' f' → extC [] K B L f K' B' L' f' → (0 ≤ v0 ∧ v0 ≤ 2800) → ((-2147483648) ≤ v1 ∧ v1 ≤ 2147483647) → ((-2147483648) ≤ v2 ∧ v2 ≤ 2147483647) → ((-9223372036854775808) ≤ v3 ∧ v3 ≤ 9223372036854775807) → ((-2147483648) ≤ v4 ∧ v4 ≤ 2147483647) → (0 ≤ v5 ∧ v5 ≤ 0) → (r0 ∈ L' ∧ K' r0 = 200) → eW E 0 0 L' f' 30 [(0, .ref r0), (1, .int (Int32.ofInt v0)), (2, .int (Int32.ofInt v1)), (3, .int (Int32.ofInt v2)), (4, .long (Int64.ofInt v3)), (6, .int (Int32.ofInt v4)), (7, .int (Int32.ofInt v5))] [.int (Int32.ofInt v4), .int (Int32.ofInt 0), .int (Int32.ofInt (2 + v0)), .long (Int64.ofInt v3), .ref r0]) (k33 : ∀ (K' : Nat → Nat) (B' : Int) (L' : List Nat) (f' : Nat → va_E), hok X0.2.2.1 K' B' L' f' → extC [] K B L f K' B' L' f' → (0 ≤ v0 ∧ v0 ≤ 2800) → ((-2147483648) ≤ v1 ∧ v1 ≤ 2147483647) → ((-2147483648) ≤ v2 ∧ v2 ≤ 2147483647) → ((-9223372036854775808) ≤ v3 ∧ v3 ≤ 9223372036854775807) → ((-2147483648) ≤ v4 ∧ v4 ≤ 2147483647) → (1 ≤ v5 ∧ v5 ≤ 6) → (r0 ∈ L' ∧ K' r0 = 200) → eW E 0 0 L' f' 33 [(0, .ref r0), (1, .int (Int32.ofInt v0)), (2, .int (Int32.ofInt v1)), (3, .int (Int32.ofInt v2)), (4, .long (Int64.ofInt v3)), (6, .int (Int32.ofInt v4)), (7, .int (Int32.ofInt v5))] [.int (Int32.ofInt v5)]) : eW E 0 0 L f 9 [(0, .ref r0), (1, .int (Int32.ofInt v0)), (2, .int (Int32.ofInt v1)), (3, .int (Int32.ofInt v2)), (4, .long (Int64.ofInt v3)), (6, .int (Int32.ofInt v4))] [.int (Int32.ofInt v5)] := by
  obtain ⟨l0, D0, cy0, ax0⟩ := X0
  have hraw : eW E 0 0 L f 9 [(0, .ref r0), (1, .int (Int32.ofInt (0 + (1 * v0 + 0)))), (2, .int (Int32.ofInt (0 + (1 * v1 + 0)))), (3, .int (Int32.ofInt (0 + (1 * v2 + 0)))), (4, .long (Int64.ofInt (0 + (1 * v3 + 0)))), (6, .int (Int32.ofInt (0 + (1 * v4 + 0))))] [.int (Int32.ofInt (0 + (1 * v5 + 0)))] := ?_
  · simpa only [Int.zero_add, Int.one_mul, Int.add_zero] using hraw
  refine seg_ok (D := D_pr9) (νi := fun i => [v0, v1, v2, v3, v4, v5].getD i 0) (μi := fun i => [r0].getD i 0) k_pr9 hE (mk_ok (ins := iX12_pair) jX12_pair fX12_ok lX12_ok kX12_ok kkX12_ok H) (by decide) rfl rfl rfl rfl hh ?_ ?_
  · refine ⟨(eok_of (fun i q hq => ?_) (fun i hi => ?_)), fa0, fa0, ?_, fa0, fa0, fa0⟩
    · match i, hq with
      | 0, hq => cases hq; exact hb0
      | 1, hq => cases hq; exact hb1
      | 2, hq => cases hq; exact hb2
      | 3, hq => cases hq; exact hb3
      | 4, hq => cases hq; exact hb4
      | 5, hq => cases hq; exact hb5
      | i + 6, hq => cases hq
    · match i, hi with
      | 0, hi => exact absurd hi (by decide)
      | 1, hi => exact absurd hi (by decide)
      | 2, hi => exact absurd hi (by decide)
      | 3, hi => exact absurd hi (by decide)
      | 4, hi => exact absurd hi (by decide)
      | 5, hi => exact absurd hi (by decide)
      | i + 6, _ => rfl
    · intro i k hk
      match i, hk with
      | 0, hk => cases hk; exact hr0
      | i + 1, hk => cases hk
  · intro q hq hst K' B' L' f' ν μ h1 h2 h3 h4 h5
    have e0 : ν 0 = v0 := h4 0 (by decide)
    have e1 : ν 1 = v1 := h4 1 (by decide)
    have e2 : ν 2 = v2 := h4 2 (by decide)
    have e3 : ν 3 = v3 := h4 3 (by decide)
    have e4 : ν 4 = v4 := h4 4 (by decide)
    have e5 : ν 5 = v5 := h4 5 (by decide)
    have d0 : μ 0 = r0 := h5 0 (by decide)
    subst e0
    subst e1
    subst e2
    subst e3
    subst e4
    subst e5
    subst d0
    replace hq : q ∈ u_pr9 := hq
    unfold u_pr9 at hq
    simp only [List.mem_cons, List.not_mem_nil, or_false] at hq
    rcases hq with rfl | rfl
    · have hst2 : eW E 0 0 L' f' 30 [(0, .ref (μ 0)), (1, .int (Int32.ofInt (0 + (1 * ν 0 + 0)))), (2, .int (Int32.ofInt (0 + (1 * ν 1 + 0)))), (3, .int (Int32.ofInt (0 + (1 * ν 2 + 0)))), (4, .long (Int64.ofInt (0 + (1 * ν 3 + 0)))), (6, .int (Int32.ofInt (0 + (1 * ν 4 + 0)))), (7, .int (Int32.ofInt (0 + (1 * ν 5 + 0))))] [.int (Int32.ofInt (0 + (1 * ν 4 + 0))), .int (Int32.ofInt (0 + 0)), .int (Int32.ofInt (2 + (1 * ν 0 + 0))), .long (Int64.ofInt (0 + (1 * ν 3 + 0))), .ref (μ 0)] := ?_
      · exact hst2
      try simp only [Int.zero_add, Int.one_mul, Int.add_zero]
      exact k30 K' B' L' f'   h1 h2 (h3.1 0) (h3.1 1) (h3.1 2) (h3.1 3) (h3.1 4) (h3.1 5) (h3.2.2.2.1 0 200 rfl)
    · have hst2 : eW E 0 0 L' f' 33 [(0, .ref (μ 0)), (1, .int (Int32.ofInt (0 + (1 * ν 0 + 0)))), (2, .int (Int32.ofInt (0 + (1 * ν 1 + 0)))), (3, .int (Int32.ofInt (0 + (1 * ν 2 + 0)))), (4, .long (Int64.ofInt (0 + (1 * ν 3 + 0)))), (6, .int (Int32.ofInt (0 + (1 * ν 4 + 0)))), (7, .int (Int32.ofInt (0 + (1 * ν 5 + 0))))] [.int (Int32.ofInt (0 + (1 * ν 5 + 0)))] := ?_
      · exact hst2
      try simp only [Int.zero_add, Int.one_mul, Int.add_zero]
      exact k33 K' B' L' f'   h1 h2 (h3.1 0) (h3.1 1) (h3.1 2) (h3.1 3) (h3.1 4) (h3.1 5) (h3.2.2.2.1 0 200 rfl)

/-! bd0: from 0 to [54, 70, 76, 94, 111, 129, 135, 153, 164, 170] -/
def w_bd0 : TP := ([(0, (2, 0, (0, []))), (1, (0, 0, (0, [(1, 0)]))), (2, (0, 0, (0, [(1, 1)])))], [], ([(0, 13), (0, 2800)], [], [], [200], [], [], []), [], [])
def u_bd0 : List (Nat × TP × EX × Nat × Nat) := [(54, ([(0, (2, 0, (0, []))), (1, (0, 0, (0, [(1, 0)]))), (2, (0, 0, (0, [(1, 1)])))], [(0, 0, (0, [(1, 1)])), (2, 0, (0, []))], ([(5, 5), (0, 2800)], [], [], [200], [], [], []), [], []), ((-1), []), 0, 0), (70, ([(0, (2, 0, (0, []))), (1, (0, 0, (0, [(1, 0)]))), (2, (0, 0, (0, [(1, 1)])))], [(0, 0, (5, [])), (1, 0, (0, [(1, 2)])), (0, 0, (5, [])), (0, 0, (0, [])), (0, 0, (0, [(1, 1)])), (2, 0, (0, []))], ([(6, 6), (0, 2800), ((-9223372036854775808), 9223372036854775807)], [], [], [200], [], [], []), [(1, 1, (0, []))], []), ((-1), []), 0, 0), (76, ([(0, (2, 0, (0, []))), (1, (0, 0, (0, [(1, 0)]))), (2, (0, 0, (0, [(1, 1)])))], [(0, 0, (0, [(1, 1)])), (2, 0, (0, []))], ([(7, 7), (0, 2800)], [], [], [200], [], [], []), [], []), ((-1), []), 0, 0), (94, ([(0, (2, 0, (0, []))), (1, (0, 0, (0, [(1, 0)]))), (2, (0, 0, (0, [(1, 1)])))], [(0, 0, (9, [])), (1, 0, (0, [(1, 2)])), (0, 0, (7, [])), (0, 0, (0, [])), (0, 0, (0, [(1, 1)])), (2, 0, (0, []))], ([(8, 8), (0, 2800), ((-9223372036854775808), 9223372036854775807)], [], [], [200], [], [], []), [(1, 1, (0, []))], []), ((-1), []), 0, 0), (111, ([(0, (2, 0, (0, []))), (1, (0, 0, (0, [(1, 0)]))), (2, (0, 0, (0, [(1, 1)])))], [(0, 0, (5, [])), (1, 0, (0, [(1, 2)])), (0, 0, (7, [])), (0, 0, (0, [])), (0, 0, (0, [(1, 1)])), (2, 0, (0, []))], ([(9, 9), (0, 2800), ((-9223372036854775808), 9223372036854775807)], [], [], [200], [], [], []), [(1, 1, (0, []))], []), ((-1), []), 0, 0), (129, ([(0, (2, 0, (0, []))), (1, (0, 0, (0, [(1, 0)]))), (2, (0, 0, (0, [(1, 1)])))], [(0, 0, (7, [])), (1, 0, (0, [(1, 2)])), (0, 0, (7, [])), (0, 0, (0, [])), (0, 0, (0, [(1, 1)])), (2, 0, (0, []))], ([(10, 10), (0, 2800), ((-9223372036854775808), 9223372036854775807)], [], [], [200], [], [], []), [(1, 1, (0, []))], []), ((-1), []), 0, 0), (135, ([(0, (2, 0, (0, []))), (1, (0, 0, (0, [(1, 0)]))), (2, (0, 0, (0, [(1, 1)])))], [(0, 0, (0, [(1, 1)])), (2, 0, (0, []))], ([(11, 11), (0, 2800)], [], [], [200], [], [], []), [], []), ((-1), []), 0, 0), (153, ([(0, (2, 0, (0, []))), (1, (0, 0, (0, [(1, 0)]))), (2, (0, 0, (0, [(1, 1)])))], [(0, 0, (5, [])), (1, 0, (0, [(1, 2)])), (0, 0, (999, [])), (0, 0, (1, [])), (0, 0, (0, [(1, 1)])), (2, 0, (0, []))], ([(12, 12), (0, 2800), ((-9223372036854775808), 9223372036854775807)], [], [], [200], [], [], []), [(1, 1, (0, []))], []), ((-1), []), 0, 0), (164, ([(0, (2, 0, (0, []))), (1, (0, 0, (0, [(1, 0)]))), (2, (0, 0, (0, [(1, 1)])))], [(0, 0, (30, [])), (0, 0, (1, [])), (0, 0, (1, [(1, 1)])), (2, 0, (0, []))], ([(13, 13), (0, 2800)], [], [], [200], [], [], []), [], []), ((-1), []), 0, 0), (170, ([(0, (2, 0, (0, []))), (1, (0, 0, (0, [(1, 0)]))), (2, (0, 0, (0, [(1, 1)])))], [(0, 0, (0, [(1, 1)])), (2, 0, (0, []))], ([(0, 4), (0, 2800)], [], [], [200], [], [], []), [], []), ((-1), []), 0, 0)]
def D_bd0 : DT := (mkD iX12_body fX12 lX12 kX12 kkX12 412 [(66, [392]), (89, [392]), (107, [392]), (124, [392]), (149, [392])] (w_bd0, [], [], 11, 0, 0, 3) false 3 u_bd0)
theorem k_bd0 : chkS D_bd0 4000 0 0 0 = true := by decide +kernel
theorem s_bd0 {X0 : zC0} {E : zCx} (H : ∀ j, j < 412 → CMj X0 j) (hE : zOk E X0 RX12 cX12_body 3 (zrm 11 0 0)) {K : Nat → Nat} {B : Int} {L : List Nat} {f : Nat → va_E} (hh : hok X0.2.2.1 K B L f) {v0 v1 : Int} {r0 : Nat} (hb0 : 0 ≤ v0 ∧ v0 ≤ 13) (hb1 : 0 ≤ v1 ∧ v1 ≤ 2800) (hr0 : r0 ∈ L ∧ K r0 = 200) (k54 : ∀ (K' : Nat → Nat) (B' : Int) (L' : List Nat) (f' : Nat → va_E), hok X0.2.2.1 K' B' L' f' → extC [] K B L f K' B' L' f' → (5 ≤ v0 ∧ v0 ≤ 5) → (0 ≤ v1 ∧ v1 ≤ 2800) → (r0 ∈ L' ∧ K' r0 = 200) → eW E 0 0 L' f' 54 [(0, .ref r0), (1, .int (Int32.ofInt v0)), (2, .int (Int32.ofInt v1))] [.int (Int32.ofInt v1), .ref r0]) (k70 : ∀ (K' : Nat → Nat) (B' : Int) (L' : List Nat) (f' : Nat → va_E) (v2 : Int), hok X0.2.2.1 K' B' L' f' → extC [] K B L f K' B' L' f' → (6 ≤ v0 ∧ v0 ≤ 6) → (0 ≤ v1 ∧ v1 ≤ 2800) → ((-9223372036854775808) ≤ v2 ∧ v2 ≤ 9223372036854775807) → (r0 ∈ L' ∧ K' r0 = 200) → eW E 0 0 L' f' 70 [(0, .ref r0), (1, .int (Int32.ofInt v0)), (2, .int (Int32.ofInt v1))] [.int (Int32.ofInt 5), .long (Int64.ofInt v2), .int (Int32.ofInt 5), .int (Int32.ofInt 0), .int (Int32.ofInt v1), .ref r0]) (k76 : ∀ (K' : Nat → Nat) (B' : Int) (L' : List Nat) (f' : Nat → va_E), hok X0.2.2.1 K' B' L' f' → extC [] K B L f K' B' L' f' → (7 ≤ v0 ∧ v0 ≤ 7) → (0 ≤ v1 ∧ v1 ≤ 2800) → (r0 ∈ L' ∧ K' r0 = 200) → eW E 0 0 L' f' 76 [(0, .ref r0), (1, .int (Int32.ofInt v0)), (2, .int (Int32.ofInt v1))] [.int (Int32.ofInt v1), .ref r0]) (k94 : ∀ (K' : Nat → Nat) (B' : Int) (L' : List Nat) (f' : Nat → va_E) (v2 : Int), hok X0.2.2.1 K' B' L' f' → extC [] K B L f K' B' L' f' → (8 ≤ v0 ∧ v0 ≤ 8) → (0 ≤ v1 ∧ v1 ≤ 2800) → ((-9223372036854775808) ≤ v2 ∧ v2 ≤ 9223372036854775807) → (r0 ∈ L' ∧ K' r0 = 200) → eW E 0 0 L' f' 94 [(0, .ref r0), (1, .int (Int32.ofInt v0)), (2, .int (Int32.ofInt v1))] [.int (Int32.ofInt 9), .long (Int64.ofInt v2), .int (Int32.ofInt 7), .int (Int32.ofInt 0), .int (Int32.ofInt v1), .ref r0]) (k111 : ∀ (K' : Nat → Nat) (B' : Int) (L' : List Nat) (f' : Nat → va_E) (v2 : Int), hok X0.2.2.1 K' B' L' f' → extC [] K B L f K' B' L' f' → (9 ≤ v0 ∧ v0 ≤ 9) → (0 ≤ v1 ∧ v1 ≤ 2800) → ((-9223372036854775808) ≤ v2 ∧ v2 ≤ 9223372036854775807) → (r0 ∈ L' ∧ K' r0 = 200) → eW E 0 0 L' f' 111 [(0, .ref r0), (1, .int (Int32.ofInt v0)), (2, .int (Int32.ofInt v1))] [.int (Int32.ofInt 5), .long (Int64.ofInt v2), .int (Int32.ofInt 7), .int (Int32.ofInt 0), .int (Int32.ofInt v1), .ref r0]) (k129 : ∀ (K' : Nat → Nat) (B' : Int) (L' : List Nat) (f' : Nat → va_E) (v2 : Int), hok X0.2.2.1 K' B' L' f' → extC [] K B L f K' B' L' f' → (10 ≤ v0 ∧ v0 ≤ 10) → (0 ≤ v1 ∧ v1 ≤ 2800) → ((-9223372036854775808) ≤ v2 ∧ v2 ≤ 9223372036854775807) → (r0 ∈ L' ∧ K' r0 = 200) → eW E 0 0 L' f' 129 [(0, .ref r0), (1, .int (Int32.ofInt v0)), (2, .int (Int32.ofInt v1))] [.int (Int32.ofInt 7), .long (Int64.ofInt v2), .int (Int32.ofInt 7), .int (Int32.ofInt 0), .int (Int32.ofInt v1), .ref r0]) (k135 : ∀ (K' : Nat → Nat) (B' : Int) (L' : List Nat) (f' : Nat → va_E), hok X0.2.2.1 K' B' L' f' → extC [] K B L f K' B' L' f' → (11 ≤ v0 ∧ v0 ≤ 11) → (0 ≤ v1 ∧ v1 ≤ 2800) → (r0 ∈ L' ∧ K' r0 = 200) → eW E 0 0 L' f' 135 [(0, .ref r0), (1, .int (Int32.ofInt v0)), (2, .int (Int32.ofInt v1))] [.int (Int32.ofInt v1), .ref r0]) (k153 : ∀ (K' : Nat → Nat) (B' : Int) (L' : List Nat) (f' : Nat → va_E) (v2 : Int), hok X0.2.2.1 K' B' L' f' → extC [] K B L f K' B' L' f' → (12 ≤ v0 ∧ v0 ≤ 12) → (0 ≤ v1 ∧ v1 ≤ 2800) → ((-9223372036854775808) ≤ v2 ∧ v2 ≤ 9223372036854775807) → (r0 ∈ L' ∧ K' r0 = 200) → eW E 0 0 L' f' 153 [(0, .ref r0), (1, .int (Int32.ofInt v0)), (2, .int (Int32.ofInt v1))] [.int (Int32.ofInt 5), .long (Int64.ofInt v2), .int (Int32.ofInt 999), .int (Int32.ofInt 1), .int (Int32.ofInt v1), .ref r0]) (k164 : ∀ (K' : Nat → Nat) (B' : Int) (L' : List Nat) (f' : Nat → va_E), hok X0.2.2.1 K' B' L' f' → extC [] K B L f K' B' L' f' → (13 ≤ v0 ∧ v0 ≤ 13) → (0 ≤ v1 ∧ v1 ≤ 2800) → (r0 ∈ L' ∧ K' r0 = 200) → eW E 0 0 L' f' 164 [(0, .ref r0), (1, .int (Int32.ofInt v0)), (2, .int (Int32.ofInt v1))] [.int (Int32.ofInt 30), .int (Int32.ofInt 1), .int (Int32.ofInt (1 + v1)), .ref r0]) (k170 : ∀ (K' : Nat → Nat) (B' : Int) (L' : List Nat) (f' : Nat → va_E), hok X0.2.2.1 K' B' L' f' → extC [] K B L f K' B' L' f' → (0 ≤ v0 ∧ v0 ≤ 4) → (0 ≤ v1 ∧ v1 ≤ 2800) → (r0 ∈ L' ∧ K' r0 = 200) → eW E 0 0 L' f' 170 [(0, .ref r0), (1, .int (Int32.ofInt v0)), (2, .int (Int32.ofInt v1))] [.int (Int32.ofInt v1), .ref r0]) : eW E 0 0 L f 0 [(0, .ref r0), (1, .int (Int32.ofInt v0)), (2, .int (Int32.ofInt v1))] [] := by
  obtain ⟨l0, D0, cy0, ax0⟩ := X0
  have hraw : eW E 0 0 L f 0 [(0, .ref r0), (1, .int (Int32.ofInt (0 + (1 * v0 + 0)))), (2, .int (Int32.ofInt (0 + (1 * v1 + 0))))] [] := ?_
  · simpa only [Int.zero_add, Int.one_mul, Int.add_zero] using hraw
  refine seg_ok (D := D_bd0) (νi := fun i => [v0, v1].getD i 0) (μi := fun i => [r0].getD i 0) k_bd0 hE (mk_ok (ins := iX12_body) jX12_body fX12_ok lX12_ok kX12_ok kkX12_ok H) (by decide) rfl rfl rfl rfl hh ?_ ?_
  · refine ⟨(eok_of (fun i q hq => ?_) (fun i hi => ?_)), fa0, fa0, ?_, fa0, fa0, fa0⟩
    · match i, hq with
      | 0, hq => cases hq; exact hb0
      | 1, hq => cases hq; exact hb1
      | i + 2, hq => cases hq
    · match i, hi with
      | 0, hi => exact absurd hi (by decide)
      | 1, hi => exact absurd hi (by decide)
      | i + 2, _ => rfl
    · intro i k hk
      match i, hk with
      | 0, hk => cases hk; exact hr0
      | i + 1, hk => cases hk
  · intro q hq hst K' B' L' f' ν μ h1 h2 h3 h4 h5
    have e0 : ν 0 = v0 := h4 0 (by decide)
    have e1 : ν 1 = v1 := h4 1 (by decide)
    have d0 : μ 0 = r0 := h5 0 (by decide)
    subst e0
    subst e1
    subst d0
    replace hq : q ∈ u_bd0 := hq
    unfold u_bd0 at hq
    simp only [List.mem_cons, List.not_mem_nil, or_false] at hq
    rcases hq with rfl | rfl | rfl | rfl | rfl | rfl | rfl | rfl | rfl | rfl
    · have hst2 : eW E 0 0 L' f' 54 [(0, .ref (μ 0)), (1, .int (Int32.ofInt (0 + (1 * ν 0 + 0)))), (2, .int (Int32.ofInt (0 + (1 * ν 1 + 0))))] [.int (Int32.ofInt (0 + (1 * ν 1 + 0))), .ref (μ 0)] := ?_
      · exact hst2
      try simp only [Int.zero_add, Int.one_mul, Int.add_zero]
      exact k54 K' B' L' f'   h1 h2 (h3.1 0) (h3.1 1) (h3.2.2.2.1 0 200 rfl)
    · have hst2 : eW E 0 0 L' f' 70 [(0, .ref (μ 0)), (1, .int (Int32.ofInt (0 + (1 * ν 0 + 0)))), (2, .int (Int32.ofInt (0 + (1 * ν 1 + 0))))] [.int (Int32.ofInt (5 + 0)), .long (Int64.ofInt (0 + (1 * ν 2 + 0))), .int (Int32.ofInt (5 + 0)), .int (Int32.ofInt (0 + 0)), .int (Int32.ofInt (0 + (1 * ν 1 + 0))), .ref (μ 0)] := ?_
      · exact hst2
      try simp only [Int.zero_add, Int.one_mul, Int.add_zero]
      exact k70 K' B' L' f' (ν 2)  h1 h2 (h3.1 0) (h3.1 1) (h3.1 2) (h3.2.2.2.1 0 200 rfl)
    · have hst2 : eW E 0 0 L' f' 76 [(0, .ref (μ 0)), (1, .int (Int32.ofInt (0 + (1 * ν 0 + 0)))), (2, .int (Int32.ofInt (0 + (1 * ν 1 + 0))))] [.int (Int32.ofInt (0 + (1 * ν 1 + 0))), .ref (μ 0)] := ?_
      · exact hst2
      try simp only [Int.zero_add, Int.one_mul, Int.add_zero]
      exact k76 K' B' L' f'   h1 h2 (h3.1 0) (h3.1 1) (h3.2.2.2.1 0 200 rfl)
    · have hst2 : eW E 0 0 L' f' 94 [(0, .ref (μ 0)), (1, .int (Int32.ofInt (0 + (1 * ν 0 + 0)))), (2, .int (Int32.ofInt (0 + (1 * ν 1 + 0))))] [.int (Int32.ofInt (9 + 0)), .long (Int64.ofInt (0 + (1 * ν 2 + 0))), .int (Int32.ofInt (7 + 0)), .int (Int32.ofInt (0 + 0)), .int (Int32.ofInt (0 + (1 * ν 1 + 0))), .ref (μ 0)] := ?_
      · exact hst2
      try simp only [Int.zero_add, Int.one_mul, Int.add_zero]
      exact k94 K' B' L' f' (ν 2)  h1 h2 (h3.1 0) (h3.1 1) (h3.1 2) (h3.2.2.2.1 0 200 rfl)
    · have hst2 : eW E 0 0 L' f' 111 [(0, .ref (μ 0)), (1, .int (Int32.ofInt (0 + (1 * ν 0 + 0)))), (2, .int (Int32.ofInt (0 + (1 * ν 1 + 0))))] [.int (Int32.ofInt (5 + 0)), .long (Int64.ofInt (0 + (1 * ν 2 + 0))), .int (Int32.ofInt (7 + 0)), .int (Int32.ofInt (0 + 0)), .int (Int32.ofInt (0 + (1 * ν 1 + 0))), .ref (μ 0)] := ?_
      · exact hst2
      try simp only [Int.zero_add, Int.one_mul, Int.add_zero]
      exact k111 K' B' L' f' (ν 2)  h1 h2 (h3.1 0) (h3.1 1) (h3.1 2) (h3.2.2.2.1 0 200 rfl)
    · have hst2 : eW E 0 0 L' f' 129 [(0, .ref (μ 0)), (1, .int (Int32.ofInt (0 + (1 * ν 0 + 0)))), (2, .int (Int32.ofInt (0 + (1 * ν 1 + 0))))] [.int (Int32.ofInt (7 + 0)), .long (Int64.ofInt (0 + (1 * ν 2 + 0))), .int (Int32.ofInt (7 + 0)), .int (Int32.ofInt (0 + 0)), .int (Int32.ofInt (0 + (1 * ν 1 + 0))), .ref (μ 0)] := ?_
      · exact hst2
      try simp only [Int.zero_add, Int.one_mul, Int.add_zero]
      exact k129 K' B' L' f' (ν 2)  h1 h2 (h3.1 0) (h3.1 1) (h3.1 2) (h3.2.2.2.1 0 200 rfl)
    · have hst2 : eW E 0 0 L' f' 135 [(0, .ref (μ 0)), (1, .int (Int32.ofInt (0 + (1 * ν 0 + 0)))), (2, .int (Int32.ofInt (0 + (1 * ν 1 + 0))))] [.int (Int32.ofInt (0 + (1 * ν 1 + 0))), .ref (μ 0)] := ?_
      · exact hst2
      try simp only [Int.zero_add, Int.one_mul, Int.add_zero]
      exact k135 K' B' L' f'   h1 h2 (h3.1 0) (h3.1 1) (h3.2.2.2.1 0 200 rfl)
    · have hst2 : eW E 0 0 L' f' 153 [(0, .ref (μ 0)), (1, .int (Int32.ofInt (0 + (1 * ν 0 + 0)))), (2, .int (Int32.ofInt (0 + (1 * ν 1 + 0))))] [.int (Int32.ofInt (5 + 0)), .long (Int64.ofInt (0 + (1 * ν 2 + 0))), .int (Int32.ofInt (999 + 0)), .int (Int32.ofInt (1 + 0)), .int (Int32.ofInt (0 + (1 * ν 1 + 0))), .ref (μ 0)] := ?_
      · exact hst2
      try simp only [Int.zero_add, Int.one_mul, Int.add_zero]
      exact k153 K' B' L' f' (ν 2)  h1 h2 (h3.1 0) (h3.1 1) (h3.1 2) (h3.2.2.2.1 0 200 rfl)
    · have hst2 : eW E 0 0 L' f' 164 [(0, .ref (μ 0)), (1, .int (Int32.ofInt (0 + (1 * ν 0 + 0)))), (2, .int (Int32.ofInt (0 + (1 * ν 1 + 0))))] [.int (Int32.ofInt (30 + 0)), .int (Int32.ofInt (1 + 0)), .int (Int32.ofInt (1 + (1 * ν 1 + 0))), .ref (μ 0)] := ?_
      · exact hst2
      try simp only [Int.zero_add, Int.one_mul, Int.add_zero]
      exact k164 K' B' L' f'   h1 h2 (h3.1 0) (h3.1 1) (h3.2.2.2.1 0 200 rfl)
    · have hst2 : eW E 0 0 L' f' 170 [(0, .ref (μ 0)), (1, .int (Int32.ofInt (0 + (1 * ν 0 + 0)))), (2, .int (Int32.ofInt (0 + (1 * ν 1 + 0))))] [.int (Int32.ofInt (0 + (1 * ν 1 + 0))), .ref (μ 0)] := ?_
      · exact hst2
      try simp only [Int.zero_add, Int.one_mul, Int.add_zero]
      exact k170 K' B' L' f'   h1 h2 (h3.1 0) (h3.1 1) (h3.2.2.2.1 0 200 rfl)

/-! cl0a: from 0 to [10, 28, 71] -/
def w_cl0a : TP := ([(0, (2, 0, (0, [])))], [], ([(0, 2115), (0, 23)], [], [], [200], [((200, (12, [])), (0, [(1, 0)])), ((203, (0, [(1, 0)])), (0, [(1, 1)]))], [], []), [], [])
def u_cl0a : List (Nat × TP × EX × Nat × Nat) := [(10, ([(0, (2, 0, (0, []))), (1, (0, 0, ((-1), [])))], [(0, 0, (1, []))], ([(0, 2115), (0, 23)], [], [], [200], [((200, (12, [])), (0, [(1, 0)])), ((203, (0, [(1, 0)])), (0, [(1, 1)]))], [], []), [], []), ((-1), []), 0, 0), (28, ([(0, (2, 0, (0, []))), (1, (0, 0, (0, [(1, 2)])))], [(0, 0, (4, []))], ([(0, 2115), (0, 23), (0, 4), ((-2147483648), 2147483647), (2, 2)], [], [], [200], [((200, (21, [])), (0, [(1, 3)])), ((200, (9, [])), (0, [(1, 4)])), ((200, (12, [])), (0, [(1, 0)])), ((203, (0, [(1, 0)])), (0, [(1, 1)]))], [], []), [(0, 1, (0, [])), (2, 200, (21, [])), (2, 200, (9, []))], []), ((-1), []), 0, 0), (71, ([(0, (2, 0, (0, []))), (1, (0, 0, (0, [(1, 2)]))), (2, (0, 0, (0, [(1, 1)])))], [(2, 0, (0, []))], ([(0, 2115), (0, 23), (0, 13), (2, 2)], [], [], [200], [((200, (14, [])), (0, [(1, 2)])), ((200, (9, [])), (0, [(1, 3)])), ((200, (12, [])), (0, [(1, 0)])), ((203, (0, [(1, 0)])), (0, [(1, 1)]))], [], []), [(0, 1, (0, [])), (2, 200, (9, []))], []), ((-1), []), 0, 0)]
def D_cl0a : DT := (mkD iX12_clause fX12 lX12 kX12 kkX12 412 [(1, [410]), (21, [334])] (w_cl0a, [(200, 14), (200, 21)], [], 12, 0, 0, 3) false 5 u_cl0a)
theorem k_cl0a : chkS D_cl0a 4000 0 0 0 = true := by decide +kernel
theorem s_cl0a {X0 : zC0} {E : zCx} (H : ∀ j, j < 412 → CMj X0 j) (hE : zOk E X0 RX12 cX12_clause 5 (zrm 12 0 0)) {K : Nat → Nat} {B : Int} {L : List Nat} {f : Nat → va_E} (hh : hok X0.2.2.1 K B L f) {v0 v1 : Int} {r0 : Nat} (hb0 : 0 ≤ v0 ∧ v0 ≤ 2115) (hb1 : 0 ≤ v1 ∧ v1 ≤ 23) (hr0 : r0 ∈ L ∧ K r0 = 200) (hm0 : (∀ b ∈ L, K b = 200 → gi (f b) 12 = v0)) (hm1 : (∀ b ∈ L, K b = 203 → (0 : Int) ≤ v0 ∧ gi (f b) ((v0 : Int)).toNat = v1)) (k10 : ∀ (K' : Nat → Nat) (B' : Int) (L' : List Nat) (f' : Nat → va_E), hok X0.2.2.1 K' B' L' f' → extC [(200, 14), (200, 21)] K B L f K' B' L' f' → (0 ≤ v0 ∧ v0 ≤ 2115) → (0 ≤ v1 ∧ v1 ≤ 23) → (r0 ∈ L' ∧ K' r0 = 200) → (∀ b ∈ L', K' b = 200 → gi (f' b) 12 = v0) → (∀ b ∈ L', K' b = 203 → (0 : Int) ≤ v0 ∧ gi (f' b) ((v0 : Int)).toNat = v1) → eW E 0 0 L' f' 10 [(0, .ref r0), (1, .int (Int32.ofInt (-1)))] [.int (Int32.ofInt 1)]) (k28 : ∀ (K' : Nat → Nat) (B' : Int) (L' : List Nat) (f' : Nat → va_E) (v2 v3 v4 : Int), hok X0.2.2.1 K' B' L' f' → extC [(200, 14), (200, 21)] K B L f K' B' L' f' → (0 ≤ v0 ∧ v0 ≤ 2115) → (0 ≤ v1 ∧ v1 ≤ 23) → (0 ≤ v2 ∧ v2 ≤ 4) → ((-2147483648) ≤ v3 ∧ v3 ≤ 2147483647) → (2 ≤ v4 ∧ v4 ≤ 2) → (r0 ∈ L' ∧ K' r0 = 200) → (∀ b ∈ L', K' b = 200 → gi (f' b) 21 = v3) → (∀ b ∈ L', K' b = 200 → gi (f' b) 9 = v4) → (∀ b ∈ L', K' b = 200 → gi (f' b) 12 = v0) → (∀ b ∈ L', K' b = 203 → (0 : Int) ≤ v0 ∧ gi (f' b) ((v0 : Int)).toNat = v1) → eW E 0 0 L' f' 28 [(0, .ref r0), (1, .int (Int32.ofInt v2))] [.int (Int32.ofInt 4)]) (k71 : ∀ (K' : Nat → Nat) (B' : Int) (L' : List Nat) (f' : Nat → va_E) (v2 v3 : Int), hok X0.2.2.1 K' B' L' f' → extC [(200, 14), (200, 21)] K B L f K' B' L' f' → (0 ≤ v0 ∧ v0 ≤ 2115) → (0 ≤ v1 ∧ v1 ≤ 23) → (0 ≤ v2 ∧ v2 ≤ 13) → (2 ≤ v3 ∧ v3 ≤ 2) → (r0 ∈ L' ∧ K' r0 = 200) → (∀ b ∈ L', K' b = 200 → gi (f' b) 14 = v2) → (∀ b ∈ L', K' b = 200 → gi (f' b) 9 = v3) → (∀ b ∈ L', K' b = 200 → gi (f' b) 12 = v0) → (∀ b ∈ L', K' b = 203 → (0 : Int) ≤ v0 ∧ gi (f' b) ((v0 : Int)).toNat = v1) → eW E 0 0 L' f' 71 [(0, .ref r0), (1, .int (Int32.ofInt v2)), (2, .int (Int32.ofInt v1))] [.ref r0]) : eW E 0 0 L f 0 [(0, .ref r0)] [] := by
  obtain ⟨l0, D0, cy0, ax0⟩ := X0
  have hraw : eW E 0 0 L f 0 [(0, .ref r0)] [] := ?_
  · simpa only [Int.zero_add, Int.one_mul, Int.add_zero] using hraw
  have rm0 : (∀ b ∈ L, K b = 200 → gi (f b) 12 = (0 + (1 * v0 + 0))) := by simpa only [Int.zero_add, Int.one_mul, Int.add_zero] using hm0
  have rm1 : (∀ b ∈ L, K b = 203 → (0 : Int) ≤ (0 + (1 * v0 + 0)) ∧ gi (f b) (((0 + (1 * v0 + 0)) : Int)).toNat = (0 + (1 * v1 + 0))) := by simpa only [Int.zero_add, Int.one_mul, Int.add_zero] using hm1
  refine seg_ok (D := D_cl0a) (νi := fun i => [v0, v1].getD i 0) (μi := fun i => [r0].getD i 0) k_cl0a hE (mk_ok (ins := iX12_clause) jX12_clause fX12_ok lX12_ok kX12_ok kkX12_ok H) (by decide) rfl rfl rfl rfl hh ?_ ?_
  · refine ⟨(eok_of (fun i q hq => ?_) (fun i hi => ?_)), fa0, fa0, ?_, (fa_cons (Fmok hh (show (zkd 200).1 = 1 by decide) (j := 12) rfl (by decide) rm0) (fa_cons (Amok hh (show (zkd 203).1 = 2 by decide) (by decide) rm1) fa0)), fa0, fa0⟩
    · match i, hq with
      | 0, hq => cases hq; exact hb0
      | 1, hq => cases hq; exact hb1
      | i + 2, hq => cases hq
    · match i, hi with
      | 0, hi => exact absurd hi (by decide)
      | 1, hi => exact absurd hi (by decide)
      | i + 2, _ => rfl
    · intro i k hk
      match i, hk with
      | 0, hk => cases hk; exact hr0
      | i + 1, hk => cases hk
  · intro q hq hst K' B' L' f' ν μ h1 h2 h3 h4 h5
    have e0 : ν 0 = v0 := h4 0 (by decide)
    have e1 : ν 1 = v1 := h4 1 (by decide)
    have d0 : μ 0 = r0 := h5 0 (by decide)
    subst e0
    subst e1
    subst d0
    replace hq : q ∈ u_cl0a := hq
    unfold u_cl0a at hq
    simp only [List.mem_cons, List.not_mem_nil, or_false] at hq
    rcases hq with rfl | rfl | rfl
    · have hst2 : eW E 0 0 L' f' 10 [(0, .ref (μ 0)), (1, .int (Int32.ofInt ((-1) + 0)))] [.int (Int32.ofInt (1 + 0))] := ?_
      · exact hst2
      try simp only [Int.zero_add, Int.one_mul, Int.add_zero]
      exact k10 K' B' L' f'   h1 h2 (h3.1 0) (h3.1 1) (h3.2.2.2.1 0 200 rfl) (by simpa only [xv, xvT, Int.zero_add, Int.one_mul, Int.add_zero] using (mokF h1 (show (zkd 200).1 = 1 by decide) (j := 12) rfl (by decide) (h3.2.2.2.2.1 _ (List.mem_of_getElem? (i := 0) rfl)))) (by simpa only [xv, xvT, Int.zero_add, Int.one_mul, Int.add_zero] using (mokA h1 (show (zkd 203).1 = 2 by decide) (by decide) (h3.2.2.2.2.1 _ (List.mem_of_getElem? (i := 1) rfl))))
    · have hst2 : eW E 0 0 L' f' 28 [(0, .ref (μ 0)), (1, .int (Int32.ofInt (0 + (1 * ν 2 + 0))))] [.int (Int32.ofInt (4 + 0))] := ?_
      · exact hst2
      try simp only [Int.zero_add, Int.one_mul, Int.add_zero]
      exact k28 K' B' L' f' (ν 2) (ν 3) (ν 4)  h1 h2 (h3.1 0) (h3.1 1) (h3.1 2) (h3.1 3) (h3.1 4) (h3.2.2.2.1 0 200 rfl) (by simpa only [xv, xvT, Int.zero_add, Int.one_mul, Int.add_zero] using (mokF h1 (show (zkd 200).1 = 1 by decide) (j := 21) rfl (by decide) (h3.2.2.2.2.1 _ (List.mem_of_getElem? (i := 0) rfl)))) (by simpa only [xv, xvT, Int.zero_add, Int.one_mul, Int.add_zero] using (mokF h1 (show (zkd 200).1 = 1 by decide) (j := 9) rfl (by decide) (h3.2.2.2.2.1 _ (List.mem_of_getElem? (i := 1) rfl)))) (by simpa only [xv, xvT, Int.zero_add, Int.one_mul, Int.add_zero] using (mokF h1 (show (zkd 200).1 = 1 by decide) (j := 12) rfl (by decide) (h3.2.2.2.2.1 _ (List.mem_of_getElem? (i := 2) rfl)))) (by simpa only [xv, xvT, Int.zero_add, Int.one_mul, Int.add_zero] using (mokA h1 (show (zkd 203).1 = 2 by decide) (by decide) (h3.2.2.2.2.1 _ (List.mem_of_getElem? (i := 3) rfl))))
    · have hst2 : eW E 0 0 L' f' 71 [(0, .ref (μ 0)), (1, .int (Int32.ofInt (0 + (1 * ν 2 + 0)))), (2, .int (Int32.ofInt (0 + (1 * ν 1 + 0))))] [.ref (μ 0)] := ?_
      · exact hst2
      try simp only [Int.zero_add, Int.one_mul, Int.add_zero]
      exact k71 K' B' L' f' (ν 2) (ν 3)  h1 h2 (h3.1 0) (h3.1 1) (h3.1 2) (h3.1 3) (h3.2.2.2.1 0 200 rfl) (by simpa only [xv, xvT, Int.zero_add, Int.one_mul, Int.add_zero] using (mokF h1 (show (zkd 200).1 = 1 by decide) (j := 14) rfl (by decide) (h3.2.2.2.2.1 _ (List.mem_of_getElem? (i := 0) rfl)))) (by simpa only [xv, xvT, Int.zero_add, Int.one_mul, Int.add_zero] using (mokF h1 (show (zkd 200).1 = 1 by decide) (j := 9) rfl (by decide) (h3.2.2.2.2.1 _ (List.mem_of_getElem? (i := 1) rfl)))) (by simpa only [xv, xvT, Int.zero_add, Int.one_mul, Int.add_zero] using (mokF h1 (show (zkd 200).1 = 1 by decide) (j := 12) rfl (by decide) (h3.2.2.2.2.1 _ (List.mem_of_getElem? (i := 2) rfl)))) (by simpa only [xv, xvT, Int.zero_add, Int.one_mul, Int.add_zero] using (mokA h1 (show (zkd 203).1 = 2 by decide) (by decide) (h3.2.2.2.2.1 _ (List.mem_of_getElem? (i := 3) rfl))))

/-! cl0b: from 0 to [10, 28, 47] -/
def w_cl0b : TP := ([(0, (2, 0, (0, [])))], [], ([(0, 2115)], [], [], [200], [((200, (12, [])), (0, [(1, 0)])), ((203, (0, [(1, 0)])), (24, []))], [], []), [], [])
def u_cl0b : List (Nat × TP × EX × Nat × Nat) := [(10, ([(0, (2, 0, (0, []))), (1, (0, 0, ((-1), [])))], [(0, 0, (1, []))], ([(0, 2115)], [], [], [200], [((200, (12, [])), (0, [(1, 0)])), ((203, (0, [(1, 0)])), (24, []))], [], []), [], []), ((-1), []), 0, 0), (28, ([(0, (2, 0, (0, []))), (1, (0, 0, (0, [(1, 1)])))], [(0, 0, (4, []))], ([(0, 2115), (0, 4), ((-2147483648), 2147483647), (2, 2)], [], [], [200], [((200, (21, [])), (0, [(1, 2)])), ((200, (9, [])), (0, [(1, 3)])), ((200, (12, [])), (0, [(1, 0)])), ((203, (0, [(1, 0)])), (24, []))], [], []), [(0, 1, (0, [])), (2, 200, (21, [])), (2, 200, (9, []))], []), ((-1), []), 0, 0), (47, ([(0, (2, 0, (0, []))), (1, (0, 0, (0, [(1, 1)]))), (2, (0, 0, (24, [])))], [(0, 0, (6, []))], ([(0, 2115), (0, 13), (2, 2)], [], [], [200], [((200, (9, [])), (0, [(1, 2)])), ((200, (12, [])), (0, [(1, 0)])), ((203, (0, [(1, 0)])), (24, []))], [], []), [(0, 1, (0, [])), (2, 200, (9, []))], []), ((-1), []), 0, 0)]
def D_cl0b : DT := (mkD iX12_clause fX12 lX12 kX12 kkX12 412 [(1, [410]), (21, [334])] (w_cl0b, [], [], 12, 0, 0, 3) false 5 u_cl0b)
theorem k_cl0b : chkS D_cl0b 4000 0 0 0 = true := by decide +kernel
theorem s_cl0b {X0 : zC0} {E : zCx} (H : ∀ j, j < 412 → CMj X0 j) (hE : zOk E X0 RX12 cX12_clause 5 (zrm 12 0 0)) {K : Nat → Nat} {B : Int} {L : List Nat} {f : Nat → va_E} (hh : hok X0.2.2.1 K B L f) {v0 : Int} {r0 : Nat} (hb0 : 0 ≤ v0 ∧ v0 ≤ 2115) (hr0 : r0 ∈ L ∧ K r0 = 200) (hm0 : (∀ b ∈ L, K b = 200 → gi (f b) 12 = v0)) (hm1 : (∀ b ∈ L, K b = 203 → (0 : Int) ≤ v0 ∧ gi (f b) ((v0 : Int)).toNat = 24)) (k10 : ∀ (K' : Nat → Nat) (B' : Int) (L' : List Nat) (f' : Nat → va_E), hok X0.2.2.1 K' B' L' f' → extC [] K B L f K' B' L' f' → (0 ≤ v0 ∧ v0 ≤ 2115) → (r0 ∈ L' ∧ K' r0 = 200) → (∀ b ∈ L', K' b = 200 → gi (f' b) 12 = v0) → (∀ b ∈ L', K' b = 203 → (0 : Int) ≤ v0 ∧ gi (f' b) ((v0 : Int)).toNat = 24) → eW E 0 0 L' f' 10 [(0, .ref r0), (1, .int (Int32.ofInt (-1)))] [.int (Int32.ofInt 1)]) (k28 : ∀ (K' : Nat → Nat) (B' : Int) (L' : List Nat) (f' : Nat → va_E) (v1 v2 v3 : Int), hok X0.2.2.1 K' B' L' f' → extC [] K B L f K' B' L' f' → (0 ≤ v0 ∧ v0 ≤ 2115) → (0 ≤ v1 ∧ v1 ≤ 4) → ((-2147483648) ≤ v2 ∧ v2 ≤ 2147483647) → (2 ≤ v3 ∧ v3 ≤ 2) → (r0 ∈ L' ∧ K' r0 = 200) → (∀ b ∈ L', K' b = 200 → gi (f' b) 21 = v2) → (∀ b ∈ L', K' b = 200 → gi (f' b) 9 = v3) → (∀ b ∈ L', K' b = 200 → gi (f' b) 12 = v0) → (∀ b ∈ L', K' b = 203 → (0 : Int) ≤ v0 ∧ gi (f' b) ((v0 : Int)).toNat = 24) → eW E 0 0 L' f' 28 [(0, .ref r0), (1, .int (Int32.ofInt v1))] [.int (Int32.ofInt 4)]) (k47 : ∀ (K' : Nat → Nat) (B' : Int) (L' : List Nat) (f' : Nat → va_E) (v1 v2 : Int), hok X0.2.2.1 K' B' L' f' → extC [] K B L f K' B' L' f' → (0 ≤ v0 ∧ v0 ≤ 2115) → (0 ≤ v1 ∧ v1 ≤ 13) → (2 ≤ v2 ∧ v2 ≤ 2) → (r0 ∈ L' ∧ K' r0 = 200) → (∀ b ∈ L', K' b = 200 → gi (f' b) 9 = v2) → (∀ b ∈ L', K' b = 200 → gi (f' b) 12 = v0) → (∀ b ∈ L', K' b = 203 → (0 : Int) ≤ v0 ∧ gi (f' b) ((v0 : Int)).toNat = 24) → eW E 0 0 L' f' 47 [(0, .ref r0), (1, .int (Int32.ofInt v1)), (2, .int (Int32.ofInt 24))] [.int (Int32.ofInt 6)]) : eW E 0 0 L f 0 [(0, .ref r0)] [] := by
  obtain ⟨l0, D0, cy0, ax0⟩ := X0
  have hraw : eW E 0 0 L f 0 [(0, .ref r0)] [] := ?_
  · simpa only [Int.zero_add, Int.one_mul, Int.add_zero] using hraw
  have rm0 : (∀ b ∈ L, K b = 200 → gi (f b) 12 = (0 + (1 * v0 + 0))) := by simpa only [Int.zero_add, Int.one_mul, Int.add_zero] using hm0
  have rm1 : (∀ b ∈ L, K b = 203 → (0 : Int) ≤ (0 + (1 * v0 + 0)) ∧ gi (f b) (((0 + (1 * v0 + 0)) : Int)).toNat = (24 + 0)) := by simpa only [Int.zero_add, Int.one_mul, Int.add_zero] using hm1
  refine seg_ok (D := D_cl0b) (νi := fun i => [v0].getD i 0) (μi := fun i => [r0].getD i 0) k_cl0b hE (mk_ok (ins := iX12_clause) jX12_clause fX12_ok lX12_ok kX12_ok kkX12_ok H) (by decide) rfl rfl rfl rfl hh ?_ ?_
  · refine ⟨(eok_of (fun i q hq => ?_) (fun i hi => ?_)), fa0, fa0, ?_, (fa_cons (Fmok hh (show (zkd 200).1 = 1 by decide) (j := 12) rfl (by decide) rm0) (fa_cons (Amok hh (show (zkd 203).1 = 2 by decide) (by decide) rm1) fa0)), fa0, fa0⟩
    · match i, hq with
      | 0, hq => cases hq; exact hb0
      | i + 1, hq => cases hq
    · match i, hi with
      | 0, hi => exact absurd hi (by decide)
      | i + 1, _ => rfl
    · intro i k hk
      match i, hk with
      | 0, hk => cases hk; exact hr0
      | i + 1, hk => cases hk
  · intro q hq hst K' B' L' f' ν μ h1 h2 h3 h4 h5
    have e0 : ν 0 = v0 := h4 0 (by decide)
    have d0 : μ 0 = r0 := h5 0 (by decide)
    subst e0
    subst d0
    replace hq : q ∈ u_cl0b := hq
    unfold u_cl0b at hq
    simp only [List.mem_cons, List.not_mem_nil, or_false] at hq
    rcases hq with rfl | rfl | rfl
    · have hst2 : eW E 0 0 L' f' 10 [(0, .ref (μ 0)), (1, .int (Int32.ofInt ((-1) + 0)))] [.int (Int32.ofInt (1 + 0))] := ?_
      · exact hst2
      try simp only [Int.zero_add, Int.one_mul, Int.add_zero]
      exact k10 K' B' L' f'   h1 h2 (h3.1 0) (h3.2.2.2.1 0 200 rfl) (by simpa only [xv, xvT, Int.zero_add, Int.one_mul, Int.add_zero] using (mokF h1 (show (zkd 200).1 = 1 by decide) (j := 12) rfl (by decide) (h3.2.2.2.2.1 _ (List.mem_of_getElem? (i := 0) rfl)))) (by simpa only [xv, xvT, Int.zero_add, Int.one_mul, Int.add_zero] using (mokA h1 (show (zkd 203).1 = 2 by decide) (by decide) (h3.2.2.2.2.1 _ (List.mem_of_getElem? (i := 1) rfl))))
    · have hst2 : eW E 0 0 L' f' 28 [(0, .ref (μ 0)), (1, .int (Int32.ofInt (0 + (1 * ν 1 + 0))))] [.int (Int32.ofInt (4 + 0))] := ?_
      · exact hst2
      try simp only [Int.zero_add, Int.one_mul, Int.add_zero]
      exact k28 K' B' L' f' (ν 1) (ν 2) (ν 3)  h1 h2 (h3.1 0) (h3.1 1) (h3.1 2) (h3.1 3) (h3.2.2.2.1 0 200 rfl) (by simpa only [xv, xvT, Int.zero_add, Int.one_mul, Int.add_zero] using (mokF h1 (show (zkd 200).1 = 1 by decide) (j := 21) rfl (by decide) (h3.2.2.2.2.1 _ (List.mem_of_getElem? (i := 0) rfl)))) (by simpa only [xv, xvT, Int.zero_add, Int.one_mul, Int.add_zero] using (mokF h1 (show (zkd 200).1 = 1 by decide) (j := 9) rfl (by decide) (h3.2.2.2.2.1 _ (List.mem_of_getElem? (i := 1) rfl)))) (by simpa only [xv, xvT, Int.zero_add, Int.one_mul, Int.add_zero] using (mokF h1 (show (zkd 200).1 = 1 by decide) (j := 12) rfl (by decide) (h3.2.2.2.2.1 _ (List.mem_of_getElem? (i := 2) rfl)))) (by simpa only [xv, xvT, Int.zero_add, Int.one_mul, Int.add_zero] using (mokA h1 (show (zkd 203).1 = 2 by decide) (by decide) (h3.2.2.2.2.1 _ (List.mem_of_getElem? (i := 3) rfl))))
    · have hst2 : eW E 0 0 L' f' 47 [(0, .ref (μ 0)), (1, .int (Int32.ofInt (0 + (1 * ν 1 + 0)))), (2, .int (Int32.ofInt (24 + 0)))] [.int (Int32.ofInt (6 + 0))] := ?_
      · exact hst2
      try simp only [Int.zero_add, Int.one_mul, Int.add_zero]
      exact k47 K' B' L' f' (ν 1) (ν 2)  h1 h2 (h3.1 0) (h3.1 1) (h3.1 2) (h3.2.2.2.1 0 200 rfl) (by simpa only [xv, xvT, Int.zero_add, Int.one_mul, Int.add_zero] using (mokF h1 (show (zkd 200).1 = 1 by decide) (j := 9) rfl (by decide) (h3.2.2.2.2.1 _ (List.mem_of_getElem? (i := 0) rfl)))) (by simpa only [xv, xvT, Int.zero_add, Int.one_mul, Int.add_zero] using (mokF h1 (show (zkd 200).1 = 1 by decide) (j := 12) rfl (by decide) (h3.2.2.2.2.1 _ (List.mem_of_getElem? (i := 1) rfl)))) (by simpa only [xv, xvT, Int.zero_add, Int.one_mul, Int.add_zero] using (mokA h1 (show (zkd 203).1 = 2 by decide) (by decide) (h3.2.2.2.2.1 _ (List.mem_of_getElem? (i := 2) rfl))))

/-! cl74: from 74 to [91] -/
def w_cl74 : TP := ([(0, (2, 0, (0, []))), (1, (0, 0, (0, [(1, 0)]))), (2, (0, 0, (0, [(1, 1)])))], [], ([(0, 13), (0, 23)], [], [], [200], [], [], []), [], [])
def u_cl74 : List (Nat × TP × EX × Nat × Nat) := [(91, ([(0, (2, 0, (0, []))), (1, (0, 0, (0, [(1, 0)]))), (2, (0, 0, (0, [(1, 1)]))), (3, (0, 0, (1, [(1, 2), (4, 1)])))], [(0, 0, (0, [(1, 0)])), (0, 0, (1, [(1, 2), (4, 1)])), (2, 1, (0, []))], ([(0, 13), (0, 23), (0, 2115)], [], [], [200, 203], [((200, (12, [])), (0, [(1, 2)]))], [], []), [(2, 200, (12, []))], [(1, 2)]), ((-1), []), 0, 0)]
def D_cl74 : DT := (mkD iX12_clause fX12 lX12 kX12 kkX12 412 [] (w_cl74, [], [], 12, 0, 0, 3) false 5 u_cl74)
theorem k_cl74 : chkS D_cl74 4000 0 0 74 = true := by decide +kernel
theorem s_cl74 {X0 : zC0} {E : zCx} (H : ∀ j, j < 412 → CMj X0 j) (hE : zOk E X0 RX12 cX12_clause 5 (zrm 12 0 0)) {K : Nat → Nat} {B : Int} {L : List Nat} {f : Nat → va_E} (hh : hok X0.2.2.1 K B L f) {v0 v1 : Int} {r0 : Nat} (hb0 : 0 ≤ v0 ∧ v0 ≤ 13) (hb1 : 0 ≤ v1 ∧ v1 ≤ 23) (hr0 : r0 ∈ L ∧ K r0 = 200) (k91 : ∀ (K' : Nat → Nat) (B' : Int) (L' : List Nat) (f' : Nat → va_E) (v2 : Int) (r1 : Nat), hok X0.2.2.1 K' B' L' f' → extC [] K B L f K' B' L' f' → (0 ≤ v0 ∧ v0 ≤ 13) → (0 ≤ v1 ∧ v1 ≤ 23) → (0 ≤ v2 ∧ v2 ≤ 2115) → (r0 ∈ L' ∧ K' r0 = 200) → (r1 ∈ L' ∧ K' r1 = 203) → (∀ b ∈ L', K' b = 200 → gi (f' b) 12 = v2) → eW E 0 0 L' f' 91 [(0, .ref r0), (1, .int (Int32.ofInt v0)), (2, .int (Int32.ofInt v1)), (3, .int (Int32.ofInt (1 + (v2 + (4 * v1)))))] [.int (Int32.ofInt v0), .int (Int32.ofInt (1 + (v2 + (4 * v1)))), .ref r1]) : eW E 0 0 L f 74 [(0, .ref r0), (1, .int (Int32.ofInt v0)), (2, .int (Int32.ofInt v1))] [] := by
  obtain ⟨l0, D0, cy0, ax0⟩ := X0
  have hraw : eW E 0 0 L f 74 [(0, .ref r0), (1, .int (Int32.ofInt (0 + (1 * v0 + 0)))), (2, .int (Int32.ofInt (0 + (1 * v1 + 0))))] [] := ?_
  · simpa only [Int.zero_add, Int.one_mul, Int.add_zero] using hraw
  refine seg_ok (D := D_cl74) (νi := fun i => [v0, v1].getD i 0) (μi := fun i => [r0].getD i 0) k_cl74 hE (mk_ok (ins := iX12_clause) jX12_clause fX12_ok lX12_ok kX12_ok kkX12_ok H) (by decide) rfl rfl rfl rfl hh ?_ ?_
  · refine ⟨(eok_of (fun i q hq => ?_) (fun i hi => ?_)), fa0, fa0, ?_, fa0, fa0, fa0⟩
    · match i, hq with
      | 0, hq => cases hq; exact hb0
      | 1, hq => cases hq; exact hb1
      | i + 2, hq => cases hq
    · match i, hi with
      | 0, hi => exact absurd hi (by decide)
      | 1, hi => exact absurd hi (by decide)
      | i + 2, _ => rfl
    · intro i k hk
      match i, hk with
      | 0, hk => cases hk; exact hr0
      | i + 1, hk => cases hk
  · intro q hq hst K' B' L' f' ν μ h1 h2 h3 h4 h5
    have e0 : ν 0 = v0 := h4 0 (by decide)
    have e1 : ν 1 = v1 := h4 1 (by decide)
    have d0 : μ 0 = r0 := h5 0 (by decide)
    subst e0
    subst e1
    subst d0
    replace hq : q ∈ u_cl74 := hq
    unfold u_cl74 at hq
    simp only [List.mem_cons, List.not_mem_nil, or_false] at hq
    rcases hq with rfl
    · have hst2 : eW E 0 0 L' f' 91 [(0, .ref (μ 0)), (1, .int (Int32.ofInt (0 + (1 * ν 0 + 0)))), (2, .int (Int32.ofInt (0 + (1 * ν 1 + 0)))), (3, .int (Int32.ofInt (1 + (1 * ν 2 + (4 * ν 1 + 0)))))] [.int (Int32.ofInt (0 + (1 * ν 0 + 0))), .int (Int32.ofInt (1 + (1 * ν 2 + (4 * ν 1 + 0)))), .ref (μ 1)] := ?_
      · exact hst2
      try simp only [Int.zero_add, Int.one_mul, Int.add_zero]
      exact k91 K' B' L' f' (ν 2) (μ 1) h1 h2 (h3.1 0) (h3.1 1) (h3.1 2) (h3.2.2.2.1 0 200 rfl) (h3.2.2.2.1 1 203 rfl) (by simpa only [xv, xvT, Int.zero_add, Int.one_mul, Int.add_zero] using (mokF h1 (show (zkd 200).1 = 1 by decide) (j := 12) rfl (by decide) (h3.2.2.2.2.1 _ (List.mem_of_getElem? (i := 0) rfl))))

/-! cl92: from 92 to [95] -/
def w_cl92 : TP := ([(0, (2, 0, (0, []))), (1, (0, 0, (0, [(1, 0)]))), (2, (0, 0, (0, [(1, 1)]))), (3, (0, 0, (0, [(1, 2)])))], [], ([(0, 13), (0, 23), (0, 2300)], [], [], [200], [], [], []), [], [])
def u_cl92 : List (Nat × TP × EX × Nat × Nat) := [(95, ([(0, (2, 0, (0, []))), (1, (0, 0, (0, [(1, 0)]))), (2, (0, 0, (0, [(1, 1)]))), (3, (0, 0, (0, [(1, 2)])))], [(0, 0, (0, [(1, 2)])), (0, 0, (0, [(1, 0)])), (2, 0, (0, []))], ([(0, 13), (0, 23), (0, 2300)], [], [], [200], [], [], []), [], []), ((-1), []), 0, 0)]
def D_cl92 : DT := (mkD iX12_clause fX12 lX12 kX12 kkX12 412 [] (w_cl92, [], [], 12, 0, 0, 3) false 5 u_cl92)
theorem k_cl92 : chkS D_cl92 4000 0 0 92 = true := by decide +kernel
theorem s_cl92 {X0 : zC0} {E : zCx} (H : ∀ j, j < 412 → CMj X0 j) (hE : zOk E X0 RX12 cX12_clause 5 (zrm 12 0 0)) {K : Nat → Nat} {B : Int} {L : List Nat} {f : Nat → va_E} (hh : hok X0.2.2.1 K B L f) {v0 v1 v2 : Int} {r0 : Nat} (hb0 : 0 ≤ v0 ∧ v0 ≤ 13) (hb1 : 0 ≤ v1 ∧ v1 ≤ 23) (hb2 : 0 ≤ v2 ∧ v2 ≤ 2300) (hr0 : r0 ∈ L ∧ K r0 = 200) (k95 : ∀ (K' : Nat → Nat) (B' : Int) (L' : List Nat) (f' : Nat → va_E), hok X0.2.2.1 K' B' L' f' → extC [] K B L f K' B' L' f' → (0 ≤ v0 ∧ v0 ≤ 13) → (0 ≤ v1 ∧ v1 ≤ 23) → (0 ≤ v2 ∧ v2 ≤ 2300) → (r0 ∈ L' ∧ K' r0 = 200) → eW E 0 0 L' f' 95 [(0, .ref r0), (1, .int (Int32.ofInt v0)), (2, .int (Int32.ofInt v1)), (3, .int (Int32.ofInt v2))] [.int (Int32.ofInt v2), .int (Int32.ofInt v0), .ref r0]) : eW E 0 0 L f 92 [(0, .ref r0), (1, .int (Int32.ofInt v0)), (2, .int (Int32.ofInt v1)), (3, .int (Int32.ofInt v2))] [] := by
  obtain ⟨l0, D0, cy0, ax0⟩ := X0
  have hraw : eW E 0 0 L f 92 [(0, .ref r0), (1, .int (Int32.ofInt (0 + (1 * v0 + 0)))), (2, .int (Int32.ofInt (0 + (1 * v1 + 0)))), (3, .int (Int32.ofInt (0 + (1 * v2 + 0))))] [] := ?_
  · simpa only [Int.zero_add, Int.one_mul, Int.add_zero] using hraw
  refine seg_ok (D := D_cl92) (νi := fun i => [v0, v1, v2].getD i 0) (μi := fun i => [r0].getD i 0) k_cl92 hE (mk_ok (ins := iX12_clause) jX12_clause fX12_ok lX12_ok kX12_ok kkX12_ok H) (by decide) rfl rfl rfl rfl hh ?_ ?_
  · refine ⟨(eok_of (fun i q hq => ?_) (fun i hi => ?_)), fa0, fa0, ?_, fa0, fa0, fa0⟩
    · match i, hq with
      | 0, hq => cases hq; exact hb0
      | 1, hq => cases hq; exact hb1
      | 2, hq => cases hq; exact hb2
      | i + 3, hq => cases hq
    · match i, hi with
      | 0, hi => exact absurd hi (by decide)
      | 1, hi => exact absurd hi (by decide)
      | 2, hi => exact absurd hi (by decide)
      | i + 3, _ => rfl
    · intro i k hk
      match i, hk with
      | 0, hk => cases hk; exact hr0
      | i + 1, hk => cases hk
  · intro q hq hst K' B' L' f' ν μ h1 h2 h3 h4 h5
    have e0 : ν 0 = v0 := h4 0 (by decide)
    have e1 : ν 1 = v1 := h4 1 (by decide)
    have e2 : ν 2 = v2 := h4 2 (by decide)
    have d0 : μ 0 = r0 := h5 0 (by decide)
    subst e0
    subst e1
    subst e2
    subst d0
    replace hq : q ∈ u_cl92 := hq
    unfold u_cl92 at hq
    simp only [List.mem_cons, List.not_mem_nil, or_false] at hq
    rcases hq with rfl
    · have hst2 : eW E 0 0 L' f' 95 [(0, .ref (μ 0)), (1, .int (Int32.ofInt (0 + (1 * ν 0 + 0)))), (2, .int (Int32.ofInt (0 + (1 * ν 1 + 0)))), (3, .int (Int32.ofInt (0 + (1 * ν 2 + 0))))] [.int (Int32.ofInt (0 + (1 * ν 2 + 0))), .int (Int32.ofInt (0 + (1 * ν 0 + 0))), .ref (μ 0)] := ?_
      · exact hst2
      try simp only [Int.zero_add, Int.one_mul, Int.add_zero]
      exact k95 K' B' L' f'   h1 h2 (h3.1 0) (h3.1 1) (h3.1 2) (h3.2.2.2.1 0 200 rfl)

/-! cl98a: from 98 to [107] -/
def w_cl98a : TP := ([(0, (2, 0, (0, []))), (1, (0, 0, (0, [(1, 0)]))), (2, (0, 0, (0, [(1, 1)]))), (3, (0, 0, (0, [(1, 2)])))], [(0, 0, (0, [(1, 3)]))], ([(0, 13), (0, 23), (0, 2300), (1, 6)], [], [], [200], [], [], []), [], [])
def u_cl98a : List (Nat × TP × EX × Nat × Nat) := [(107, ([(0, (2, 0, (0, []))), (1, (0, 0, (0, [(1, 0)]))), (2, (0, 0, (0, [(1, 1)]))), (3, (0, 0, (0, [(1, 2)]))), (4, (0, 0, (0, [(1, 3)])))], [(0, 0, (0, [(1, 3)]))], ([(0, 13), (0, 23), (0, 2300), (1, 6)], [], [], [200], [], [], []), [], []), ((-1), []), 0, 0)]
def D_cl98a : DT := (mkD iX12_clause fX12 lX12 kX12 kkX12 412 [] (w_cl98a, [], [], 12, 0, 0, 3) false 5 u_cl98a)
theorem k_cl98a : chkS D_cl98a 4000 0 0 98 = true := by decide +kernel
theorem s_cl98a {X0 : zC0} {E : zCx} (H : ∀ j, j < 412 → CMj X0 j) (hE : zOk E X0 RX12 cX12_clause 5 (zrm 12 0 0)) {K : Nat → Nat} {B : Int} {L : List Nat} {f : Nat → va_E} (hh : hok X0.2.2.1 K B L f) {v0 v1 v2 v3 : Int} {r0 : Nat} (hb0 : 0 ≤ v0 ∧ v0 ≤ 13) (hb1 : 0 ≤ v1 ∧ v1 ≤ 23) (hb2 : 0 ≤ v2 ∧ v2 ≤ 2300) (hb3 : 1 ≤ v3 ∧ v3 ≤ 6) (hr0 : r0 ∈ L ∧ K r0 = 200) (k107 : ∀ (K' : Nat → Nat) (B' : Int) (L' : List Nat) (f' : Nat → va_E), hok X0.2.2.1 K' B' L' f' → extC [] K B L f K' B' L' f' → (0 ≤ v0 ∧ v0 ≤ 13) → (0 ≤ v1 ∧ v1 ≤ 23) → (0 ≤ v2 ∧ v2 ≤ 2300) → (1 ≤ v3 ∧ v3 ≤ 6) → (r0 ∈ L' ∧ K' r0 = 200) → eW E 0 0 L' f' 107 [(0, .ref r0), (1, .int (Int32.ofInt v0)), (2, .int (Int32.ofInt v1)), (3, .int (Int32.ofInt v2)), (4, .int (Int32.ofInt v3))] [.int (Int32.ofInt v3)]) : eW E 0 0 L f 98 [(0, .ref r0), (1, .int (Int32.ofInt v0)), (2, .int (Int32.ofInt v1)), (3, .int (Int32.ofInt v2))] [.int (Int32.ofInt v3)] := by
  obtain ⟨l0, D0, cy0, ax0⟩ := X0
  have hraw : eW E 0 0 L f 98 [(0, .ref r0), (1, .int (Int32.ofInt (0 + (1 * v0 + 0)))), (2, .int (Int32.ofInt (0 + (1 * v1 + 0)))), (3, .int (Int32.ofInt (0 + (1 * v2 + 0))))] [.int (Int32.ofInt (0 + (1 * v3 + 0)))] := ?_
  · simpa only [Int.zero_add, Int.one_mul, Int.add_zero] using hraw
  refine seg_ok (D := D_cl98a) (νi := fun i => [v0, v1, v2, v3].getD i 0) (μi := fun i => [r0].getD i 0) k_cl98a hE (mk_ok (ins := iX12_clause) jX12_clause fX12_ok lX12_ok kX12_ok kkX12_ok H) (by decide) rfl rfl rfl rfl hh ?_ ?_
  · refine ⟨(eok_of (fun i q hq => ?_) (fun i hi => ?_)), fa0, fa0, ?_, fa0, fa0, fa0⟩
    · match i, hq with
      | 0, hq => cases hq; exact hb0
      | 1, hq => cases hq; exact hb1
      | 2, hq => cases hq; exact hb2
      | 3, hq => cases hq; exact hb3
      | i + 4, hq => cases hq
    · match i, hi with
      | 0, hi => exact absurd hi (by decide)
      | 1, hi => exact absurd hi (by decide)
      | 2, hi => exact absurd hi (by decide)
      | 3, hi => exact absurd hi (by decide)
      | i + 4, _ => rfl
    · intro i k hk
      match i, hk with
      | 0, hk => cases hk; exact hr0
      | i + 1, hk => cases hk
  · intro q hq hst K' B' L' f' ν μ h1 h2 h3 h4 h5
    have e0 : ν 0 = v0 := h4 0 (by decide)
    have e1 : ν 1 = v1 := h4 1 (by decide)
    have e2 : ν 2 = v2 := h4 2 (by decide)
    have e3 : ν 3 = v3 := h4 3 (by decide)
    have d0 : μ 0 = r0 := h5 0 (by decide)
    subst e0
    subst e1
    subst e2
    subst e3
    subst d0
    replace hq : q ∈ u_cl98a := hq
    unfold u_cl98a at hq
    simp only [List.mem_cons, List.not_mem_nil, or_false] at hq
    rcases hq with rfl
    · have hst2 : eW E 0 0 L' f' 107 [(0, .ref (μ 0)), (1, .int (Int32.ofInt (0 + (1 * ν 0 + 0)))), (2, .int (Int32.ofInt (0 + (1 * ν 1 + 0)))), (3, .int (Int32.ofInt (0 + (1 * ν 2 + 0)))), (4, .int (Int32.ofInt (0 + (1 * ν 3 + 0))))] [.int (Int32.ofInt (0 + (1 * ν 3 + 0)))] := ?_
      · exact hst2
      try simp only [Int.zero_add, Int.one_mul, Int.add_zero]
      exact k107 K' B' L' f'   h1 h2 (h3.1 0) (h3.1 1) (h3.1 2) (h3.1 3) (h3.2.2.2.1 0 200 rfl)

/-! cl98b: from 98 to [120] -/
def w_cl98b : TP := ([(0, (2, 0, (0, []))), (1, (0, 0, (0, [(1, 0)]))), (2, (0, 0, (0, [(1, 1)]))), (3, (0, 0, (0, [(1, 2)])))], [(0, 0, (0, []))], ([(0, 13), (0, 23), (0, 2300), (0, 2115), (0, 23)], [], [], [200], [((200, (12, [])), (0, [(1, 3)])), ((203, (0, [(1, 3)])), (0, [(1, 4)]))], [], []), [], [])
def u_cl98b : List (Nat × TP × EX × Nat × Nat) := [(120, ([(0, (2, 0, (0, []))), (1, (0, 0, (0, [(1, 0)]))), (2, (0, 0, (0, [(1, 1)]))), (3, (0, 0, (0, [(1, 2)]))), (4, (0, 0, (0, [])))], [(0, 0, (1, [(1, 4)])), (0, 0, (0, [(1, 3)])), (2, 1, (0, []))], ([(0, 13), (0, 23), (0, 2300), (0, 2115), (0, 23)], [], [], [200, 203], [((200, (12, [])), (0, [(1, 3)])), ((203, (0, [(1, 3)])), (0, [(1, 4)]))], [], []), [], [(1, 2)]), ((-1), []), 0, 0)]
def D_cl98b : DT := (mkD iX12_clause fX12 lX12 kX12 kkX12 412 [] (w_cl98b, [], [], 12, 0, 0, 3) false 5 u_cl98b)
theorem k_cl98b : chkS D_cl98b 4000 0 0 98 = true := by decide +kernel
theorem s_cl98b {X0 : zC0} {E : zCx} (H : ∀ j, j < 412 → CMj X0 j) (hE : zOk E X0 RX12 cX12_clause 5 (zrm 12 0 0)) {K : Nat → Nat} {B : Int} {L : List Nat} {f : Nat → va_E} (hh : hok X0.2.2.1 K B L f) {v0 v1 v2 v3 v4 : Int} {r0 : Nat} (hb0 : 0 ≤ v0 ∧ v0 ≤ 13) (hb1 : 0 ≤ v1 ∧ v1 ≤ 23) (hb2 : 0 ≤ v2 ∧ v2 ≤ 2300) (hb3 : 0 ≤ v3 ∧ v3 ≤ 2115) (hb4 : 0 ≤ v4 ∧ v4 ≤ 23) (hr0 : r0 ∈ L ∧ K r0 = 200) (hm0 : (∀ b ∈ L, K b = 200 → gi (f b) 12 = v3)) (hm1 : (∀ b ∈ L, K b = 203 → (0 : Int) ≤ v3 ∧ gi (f b) ((v3 : Int)).toNat = v4)) (k120 : ∀ (K' : Nat → Nat) (B' : Int) (L' : List Nat) (f' : Nat → va_E) (r1 : Nat), hok X0.2.2.1 K' B' L' f' → extC [] K B L f K' B' L' f' → (0 ≤ v0 ∧ v0 ≤ 13) → (0 ≤ v1 ∧ v1 ≤ 23) → (0 ≤ v2 ∧ v2 ≤ 2300) → (0 ≤ v3 ∧ v3 ≤ 2115) → (0 ≤ v4 ∧ v4 ≤ 23) → (r0 ∈ L' ∧ K' r0 = 200) → (r1 ∈ L' ∧ K' r1 = 203) → (∀ b ∈ L', K' b = 200 → gi (f' b) 12 = v3) → (∀ b ∈ L', K' b = 203 → (0 : Int) ≤ v3 ∧ gi (f' b) ((v3 : Int)).toNat = v4) → eW E 0 0 L' f' 120 [(0, .ref r0), (1, .int (Int32.ofInt v0)), (2, .int (Int32.ofInt v1)), (3, .int (Int32.ofInt v2)), (4, .int (Int32.ofInt 0))] [.int (Int32.ofInt (1 + v4)), .int (Int32.ofInt v3), .ref r1]) : eW E 0 0 L f 98 [(0, .ref r0), (1, .int (Int32.ofInt v0)), (2, .int (Int32.ofInt v1)), (3, .int (Int32.ofInt v2))] [.int (Int32.ofInt 0)] := by
  obtain ⟨l0, D0, cy0, ax0⟩ := X0
  have hraw : eW E 0 0 L f 98 [(0, .ref r0), (1, .int (Int32.ofInt (0 + (1 * v0 + 0)))), (2, .int (Int32.ofInt (0 + (1 * v1 + 0)))), (3, .int (Int32.ofInt (0 + (1 * v2 + 0))))] [.int (Int32.ofInt (0 + 0))] := ?_
  · simpa only [Int.zero_add, Int.one_mul, Int.add_zero] using hraw
  have rm0 : (∀ b ∈ L, K b = 200 → gi (f b) 12 = (0 + (1 * v3 + 0))) := by simpa only [Int.zero_add, Int.one_mul, Int.add_zero] using hm0
  have rm1 : (∀ b ∈ L, K b = 203 → (0 : Int) ≤ (0 + (1 * v3 + 0)) ∧ gi (f b) (((0 + (1 * v3 + 0)) : Int)).toNat = (0 + (1 * v4 + 0))) := by simpa only [Int.zero_add, Int.one_mul, Int.add_zero] using hm1
  refine seg_ok (D := D_cl98b) (νi := fun i => [v0, v1, v2, v3, v4].getD i 0) (μi := fun i => [r0].getD i 0) k_cl98b hE (mk_ok (ins := iX12_clause) jX12_clause fX12_ok lX12_ok kX12_ok kkX12_ok H) (by decide) rfl rfl rfl rfl hh ?_ ?_
  · refine ⟨(eok_of (fun i q hq => ?_) (fun i hi => ?_)), fa0, fa0, ?_, (fa_cons (Fmok hh (show (zkd 200).1 = 1 by decide) (j := 12) rfl (by decide) rm0) (fa_cons (Amok hh (show (zkd 203).1 = 2 by decide) (by decide) rm1) fa0)), fa0, fa0⟩
    · match i, hq with
      | 0, hq => cases hq; exact hb0
      | 1, hq => cases hq; exact hb1
      | 2, hq => cases hq; exact hb2
      | 3, hq => cases hq; exact hb3
      | 4, hq => cases hq; exact hb4
      | i + 5, hq => cases hq
    · match i, hi with
      | 0, hi => exact absurd hi (by decide)
      | 1, hi => exact absurd hi (by decide)
      | 2, hi => exact absurd hi (by decide)
      | 3, hi => exact absurd hi (by decide)
      | 4, hi => exact absurd hi (by decide)
      | i + 5, _ => rfl
    · intro i k hk
      match i, hk with
      | 0, hk => cases hk; exact hr0
      | i + 1, hk => cases hk
  · intro q hq hst K' B' L' f' ν μ h1 h2 h3 h4 h5
    have e0 : ν 0 = v0 := h4 0 (by decide)
    have e1 : ν 1 = v1 := h4 1 (by decide)
    have e2 : ν 2 = v2 := h4 2 (by decide)
    have e3 : ν 3 = v3 := h4 3 (by decide)
    have e4 : ν 4 = v4 := h4 4 (by decide)
    have d0 : μ 0 = r0 := h5 0 (by decide)
    subst e0
    subst e1
    subst e2
    subst e3
    subst e4
    subst d0
    replace hq : q ∈ u_cl98b := hq
    unfold u_cl98b at hq
    simp only [List.mem_cons, List.not_mem_nil, or_false] at hq
    rcases hq with rfl
    · have hst2 : eW E 0 0 L' f' 120 [(0, .ref (μ 0)), (1, .int (Int32.ofInt (0 + (1 * ν 0 + 0)))), (2, .int (Int32.ofInt (0 + (1 * ν 1 + 0)))), (3, .int (Int32.ofInt (0 + (1 * ν 2 + 0)))), (4, .int (Int32.ofInt (0 + 0)))] [.int (Int32.ofInt (1 + (1 * ν 4 + 0))), .int (Int32.ofInt (0 + (1 * ν 3 + 0))), .ref (μ 1)] := ?_
      · exact hst2
      try simp only [Int.zero_add, Int.one_mul, Int.add_zero]
      exact k120 K' B' L' f'  (μ 1) h1 h2 (h3.1 0) (h3.1 1) (h3.1 2) (h3.1 3) (h3.1 4) (h3.2.2.2.1 0 200 rfl) (h3.2.2.2.1 1 203 rfl) (by simpa only [xv, xvT, Int.zero_add, Int.one_mul, Int.add_zero] using (mokF h1 (show (zkd 200).1 = 1 by decide) (j := 12) rfl (by decide) (h3.2.2.2.2.1 _ (List.mem_of_getElem? (i := 0) rfl)))) (by simpa only [xv, xvT, Int.zero_add, Int.one_mul, Int.add_zero] using (mokA h1 (show (zkd 203).1 = 2 by decide) (by decide) (h3.2.2.2.2.1 _ (List.mem_of_getElem? (i := 1) rfl))))
