/-! em0: from 0 to [19] -/
def w_em0 : TP := ([(0, (2, 0, (0, []))), (1, (0, 0, (0, [(1, 0)]))), (2, (0, 0, (0, [(1, 1)])))], [], ([((-2147483648), 2147483647), ((-2147483648), 2147483647)], [], [], [200], [], [], []), [], [])
def u_em0 : List (Nat × TP × EX × Nat × Nat) := [(19, ([(0, (2, 0, (0, []))), (1, (0, 0, (0, [(1, 0)]))), (2, (0, 0, (0, [(1, 1)])))], [(0, 0, (0, [(1, 0)])), (0, 0, (97, [(1, 3), (2, 2)])), (2, 1, (0, []))], ([((-2147483648), 2147483647), ((-2147483648), 2147483647), (0, 304), (0, 2115)], [], [], [200, 203], [((200, (13, [])), (0, [(1, 2)])), ((200, (12, [])), (0, [(1, 3)]))], [], []), [(2, 200, (13, [])), (2, 200, (12, []))], [(1, 2)]), ((-1), []), 0, 0)]
def D_em0 : DT := (mkD iX12_emit fX12 lX12 kX12 kkX12 412 [] (w_em0, [], [], 2, 0, 0, 3) false 3 u_em0)
theorem k_em0 : chkS D_em0 4000 0 0 0 = true := by decide +kernel
theorem s_em0 {X0 : zC0} {E : zCx} (H : ∀ j, j < 412 → CMj X0 j) (hE : zOk E X0 RX12 cX12_emit 3 (zrm 2 0 0)) {K : Nat → Nat} {B : Int} {L : List Nat} {f : Nat → va_E} (hh : hok X0.2.2.1 K B L f) {v0 v1 : Int} {r0 : Nat} (hb0 : (-2147483648) ≤ v0 ∧ v0 ≤ 2147483647) (hb1 : (-2147483648) ≤ v1 ∧ v1 ≤ 2147483647) (hr0 : r0 ∈ L ∧ K r0 = 200) (k19 : ∀ (K' : Nat → Nat) (B' : Int) (L' : List Nat) (f' : Nat → va_E) (v2 v3 : Int) (r1 : Nat), hok X0.2.2.1 K' B' L' f' → extC [] K B L f K' B' L' f' → ((-2147483648) ≤ v0 ∧ v0 ≤ 2147483647) → ((-2147483648) ≤ v1 ∧ v1 ≤ 2147483647) → (0 ≤ v2 ∧ v2 ≤ 304) → (0 ≤ v3 ∧ v3 ≤ 2115) → (r0 ∈ L' ∧ K' r0 = 200) → (r1 ∈ L' ∧ K' r1 = 203) → (∀ b ∈ L', K' b = 200 → gi (f' b) 13 = v2) → (∀ b ∈ L', K' b = 200 → gi (f' b) 12 = v3) → eW E 0 0 L' f' 19 [(0, .ref r0), (1, .int (Int32.ofInt v0)), (2, .int (Int32.ofInt v1))] [.int (Int32.ofInt v0), .int (Int32.ofInt (97 + (v3 + (2 * v2)))), .ref r1]) : eW E 0 0 L f 0 [(0, .ref r0), (1, .int (Int32.ofInt v0)), (2, .int (Int32.ofInt v1))] [] := by
  obtain ⟨l0, D0, cy0, ax0⟩ := X0
  have hraw : eW E 0 0 L f 0 [(0, .ref r0), (1, .int (Int32.ofInt (0 + (1 * v0 + 0)))), (2, .int (Int32.ofInt (0 + (1 * v1 + 0))))] [] := ?_
  · simpa only [Int.zero_add, Int.one_mul, Int.add_zero] using hraw
  refine seg_ok (D := D_em0) (νi := fun i => [v0, v1].getD i 0) (μi := fun i => [r0].getD i 0) k_em0 hE (mk_ok (ins := iX12_emit) jX12_emit fX12_ok lX12_ok kX12_ok kkX12_ok H) (by decide) rfl rfl rfl rfl hh ?_ ?_
  · refine ⟨(eok_of (fun i q hq => ?_) (fun i hi => ?_)), fa0, fa0, ?_, fa0, fa0, fa0⟩
    · match i, hq with
      | 0, hq => cases hq; exact hb0
      | 1, hq => cases hq; exact hb1
      | i + 2, hq => cases hq
    · match i, hi with
      | 0, hi => exact absurd hi (by decide)
      | 1, hi => exact absurd hi (by decide)
      | i + 2, _ => rfl
    · intro i k hk
      match i, hk with
      | 0, hk => cases hk; exact hr0
      | i + 1, hk => cases hk
  · intro q hq hst K' B' L' f' ν μ h1 h2 h3 h4 h5
    have e0 : ν 0 = v0 := h4 0 (by decide)
    have e1 : ν 1 = v1 := h4 1 (by decide)
    have d0 : μ 0 = r0 := h5 0 (by decide)
    subst e0
    subst e1
    subst d0
    replace hq : q ∈ u_em0 := hq
    unfold u_em0 at hq
    simp only [List.mem_cons, List.not_mem_nil, or_false] at hq
    rcases hq with rfl
    · have hst2 : eW E 0 0 L' f' 19 [(0, .ref (μ 0)), (1, .int (Int32.ofInt (0 + (1 * ν 0 + 0)))), (2, .int (Int32.ofInt (0 + (1 * ν 1 + 0))))] [.int (Int32.ofInt (0 + (1 * ν 0 + 0))), .int (Int32.ofInt (97 + (1 * ν 3 + (2 * ν 2 + 0)))), .ref (μ 1)] := ?_
      · exact hst2
      try simp only [Int.zero_add, Int.one_mul, Int.add_zero]
      exact k19 K' B' L' f' (ν 2) (ν 3) (μ 1) h1 h2 (h3.1 0) (h3.1 1) (h3.1 2) (h3.1 3) (h3.2.2.2.1 0 200 rfl) (h3.2.2.2.1 1 203 rfl) (by simpa only [xv, xvT, Int.zero_add, Int.one_mul, Int.add_zero] using (mokF h1 (show (zkd 200).1 = 1 by decide) (j := 13) rfl (by decide) (h3.2.2.2.2.1 _ (List.mem_of_getElem? (i := 0) rfl)))) (by simpa only [xv, xvT, Int.zero_add, Int.one_mul, Int.add_zero] using (mokF h1 (show (zkd 200).1 = 1 by decide) (j := 12) rfl (by decide) (h3.2.2.2.2.1 _ (List.mem_of_getElem? (i := 1) rfl))))

/-! em20: from 20 to [41] -/
def w_em20 : TP := ([(0, (2, 0, (0, []))), (1, (0, 0, (0, [(1, 0)]))), (2, (0, 0, (0, [(1, 1)])))], [], ([((-2147483648), 2147483647), ((-2147483648), 2147483647)], [], [], [200], [], [], []), [], [])
def u_em20 : List (Nat × TP × EX × Nat × Nat) := [(41, ([(0, (2, 0, (0, []))), (1, (0, 0, (0, [(1, 0)]))), (2, (0, 0, (0, [(1, 1)])))], [(0, 0, (0, [(1, 1)])), (0, 0, (98, [(2, 2), (1, 3)])), (2, 1, (0, []))], ([((-2147483648), 2147483647), ((-2147483648), 2147483647), (0, 304), (0, 2115)], [], [], [200, 203], [((200, (13, [])), (0, [(1, 2)])), ((200, (12, [])), (0, [(1, 3)]))], [], []), [(2, 200, (13, [])), (2, 200, (12, []))], [(1, 2)]), ((-1), []), 0, 0)]
def D_em20 : DT := (mkD iX12_emit fX12 lX12 kX12 kkX12 412 [] (w_em20, [], [], 2, 0, 0, 3) false 3 u_em20)
theorem k_em20 : chkS D_em20 4000 0 0 20 = true := by decide +kernel
theorem s_em20 {X0 : zC0} {E : zCx} (H : ∀ j, j < 412 → CMj X0 j) (hE : zOk E X0 RX12 cX12_emit 3 (zrm 2 0 0)) {K : Nat → Nat} {B : Int} {L : List Nat} {f : Nat → va_E} (hh : hok X0.2.2.1 K B L f) {v0 v1 : Int} {r0 : Nat} (hb0 : (-2147483648) ≤ v0 ∧ v0 ≤ 2147483647) (hb1 : (-2147483648) ≤ v1 ∧ v1 ≤ 2147483647) (hr0 : r0 ∈ L ∧ K r0 = 200) (k41 : ∀ (K' : Nat → Nat) (B' : Int) (L' : List Nat) (f' : Nat → va_E) (v2 v3 : Int) (r1 : Nat), hok X0.2.2.1 K' B' L' f' → extC [] K B L f K' B' L' f' → ((-2147483648) ≤ v0 ∧ v0 ≤ 2147483647) → ((-2147483648) ≤ v1 ∧ v1 ≤ 2147483647) → (0 ≤ v2 ∧ v2 ≤ 304) → (0 ≤ v3 ∧ v3 ≤ 2115) → (r0 ∈ L' ∧ K' r0 = 200) → (r1 ∈ L' ∧ K' r1 = 203) → (∀ b ∈ L', K' b = 200 → gi (f' b) 13 = v2) → (∀ b ∈ L', K' b = 200 → gi (f' b) 12 = v3) → eW E 0 0 L' f' 41 [(0, .ref r0), (1, .int (Int32.ofInt v0)), (2, .int (Int32.ofInt v1))] [.int (Int32.ofInt v1), .int (Int32.ofInt (98 + (2 * v2 + v3))), .ref r1]) : eW E 0 0 L f 20 [(0, .ref r0), (1, .int (Int32.ofInt v0)), (2, .int (Int32.ofInt v1))] [] := by
  obtain ⟨l0, D0, cy0, ax0⟩ := X0
  have hraw : eW E 0 0 L f 20 [(0, .ref r0), (1, .int (Int32.ofInt (0 + (1 * v0 + 0)))), (2, .int (Int32.ofInt (0 + (1 * v1 + 0))))] [] := ?_
  · simpa only [Int.zero_add, Int.one_mul, Int.add_zero] using hraw
  refine seg_ok (D := D_em20) (νi := fun i => [v0, v1].getD i 0) (μi := fun i => [r0].getD i 0) k_em20 hE (mk_ok (ins := iX12_emit) jX12_emit fX12_ok lX12_ok kX12_ok kkX12_ok H) (by decide) rfl rfl rfl rfl hh ?_ ?_
  · refine ⟨(eok_of (fun i q hq => ?_) (fun i hi => ?_)), fa0, fa0, ?_, fa0, fa0, fa0⟩
    · match i, hq with
      | 0, hq => cases hq; exact hb0
      | 1, hq => cases hq; exact hb1
      | i + 2, hq => cases hq
    · match i, hi with
      | 0, hi => exact absurd hi (by decide)
      | 1, hi => exact absurd hi (by decide)
      | i + 2, _ => rfl
    · intro i k hk
      match i, hk with
      | 0, hk => cases hk; exact hr0
      | i + 1, hk => cases hk
  · intro q hq hst K' B' L' f' ν μ h1 h2 h3 h4 h5
    have e0 : ν 0 = v0 := h4 0 (by decide)
    have e1 : ν 1 = v1 := h4 1 (by decide)
    have d0 : μ 0 = r0 := h5 0 (by decide)
    subst e0
    subst e1
    subst d0
    replace hq : q ∈ u_em20 := hq
    unfold u_em20 at hq
    simp only [List.mem_cons, List.not_mem_nil, or_false] at hq
    rcases hq with rfl
    · have hst2 : eW E 0 0 L' f' 41 [(0, .ref (μ 0)), (1, .int (Int32.ofInt (0 + (1 * ν 0 + 0)))), (2, .int (Int32.ofInt (0 + (1 * ν 1 + 0))))] [.int (Int32.ofInt (0 + (1 * ν 1 + 0))), .int (Int32.ofInt (98 + (2 * ν 2 + (1 * ν 3 + 0)))), .ref (μ 1)] := ?_
      · exact hst2
      try simp only [Int.zero_add, Int.one_mul, Int.add_zero]
      exact k41 K' B' L' f' (ν 2) (ν 3) (μ 1) h1 h2 (h3.1 0) (h3.1 1) (h3.1 2) (h3.1 3) (h3.2.2.2.1 0 200 rfl) (h3.2.2.2.1 1 203 rfl) (by simpa only [xv, xvT, Int.zero_add, Int.one_mul, Int.add_zero] using (mokF h1 (show (zkd 200).1 = 1 by decide) (j := 13) rfl (by decide) (h3.2.2.2.2.1 _ (List.mem_of_getElem? (i := 0) rfl)))) (by simpa only [xv, xvT, Int.zero_add, Int.one_mul, Int.add_zero] using (mokF h1 (show (zkd 200).1 = 1 by decide) (j := 12) rfl (by decide) (h3.2.2.2.2.1 _ (List.mem_of_getElem? (i := 1) rfl))))

/-! em42: from 42 to [49] -/
def w_em42 : TP := ([(0, (2, 0, (0, []))), (1, (0, 0, (0, [(1, 0)]))), (2, (0, 0, (0, [(1, 1)])))], [], ([((-2147483648), 2147483647), ((-2147483648), 2147483647)], [], [], [200], [], [], []), [], [])
def u_em42 : List (Nat × TP × EX × Nat × Nat) := [(49, ([(0, (2, 0, (0, []))), (1, (0, 0, (0, [(1, 0)]))), (2, (0, 0, (0, [(1, 1)])))], [(0, 0, (0, [(1, 2)])), (2, 0, (0, []))], ([((-2147483648), 2147483647), ((-2147483648), 2147483647), (1, 305)], [], [], [200], [((200, (13, [])), ((-1), [(1, 2)]))], [], []), [(1, 0, (0, []))], []), ((-1), []), 0, 0)]
def D_em42 : DT := (mkD iX12_emit fX12 lX12 kX12 kkX12 412 [] (w_em42, [], [], 2, 0, 0, 3) false 3 u_em42)
theorem k_em42 : chkS D_em42 4000 0 0 42 = true := by decide +kernel
theorem s_em42 {X0 : zC0} {E : zCx} (H : ∀ j, j < 412 → CMj X0 j) (hE : zOk E X0 RX12 cX12_emit 3 (zrm 2 0 0)) {K : Nat → Nat} {B : Int} {L : List Nat} {f : Nat → va_E} (hh : hok X0.2.2.1 K B L f) {v0 v1 : Int} {r0 : Nat} (hb0 : (-2147483648) ≤ v0 ∧ v0 ≤ 2147483647) (hb1 : (-2147483648) ≤ v1 ∧ v1 ≤ 2147483647) (hr0 : r0 ∈ L ∧ K r0 = 200) (k49 : ∀ (K' : Nat → Nat) (B' : Int) (L' : List Nat) (f' : Nat → va_E) (v2 : Int), hok X0.2.2.1 K' B' L' f' → extC [] K B L f K' B' L' f' → ((-2147483648) ≤ v0 ∧ v0 ≤ 2147483647) → ((-2147483648) ≤ v1 ∧ v1 ≤ 2147483647) → (1 ≤ v2 ∧ v2 ≤ 305) → (r0 ∈ L' ∧ K' r0 = 200) → (∀ b ∈ L', K' b = 200 → gi (f' b) 13 = ((-1) + v2)) → eW E 0 0 L' f' 49 [(0, .ref r0), (1, .int (Int32.ofInt v0)), (2, .int (Int32.ofInt v1))] [.int (Int32.ofInt v2), .ref r0]) : eW E 0 0 L f 42 [(0, .ref r0), (1, .int (Int32.ofInt v0)), (2, .int (Int32.ofInt v1))] [] := by
  obtain ⟨l0, D0, cy0, ax0⟩ := X0
  have hraw : eW E 0 0 L f 42 [(0, .ref r0), (1, .int (Int32.ofInt (0 + (1 * v0 + 0)))), (2, .int (Int32.ofInt (0 + (1 * v1 + 0))))] [] := ?_
  · simpa only [Int.zero_add, Int.one_mul, Int.add_zero] using hraw
  refine seg_ok (D := D_em42) (νi := fun i => [v0, v1].getD i 0) (μi := fun i => [r0].getD i 0) k_em42 hE (mk_ok (ins := iX12_emit) jX12_emit fX12_ok lX12_ok kX12_ok kkX12_ok H) (by decide) rfl rfl rfl rfl hh ?_ ?_
  · refine ⟨(eok_of (fun i q hq => ?_) (fun i hi => ?_)), fa0, fa0, ?_, fa0, fa0, fa0⟩
    · match i, hq with
      | 0, hq => cases hq; exact hb0
      | 1, hq => cases hq; exact hb1
      | i + 2, hq => cases hq
    · match i, hi with
      | 0, hi => exact absurd hi (by decide)
      | 1, hi => exact absurd hi (by decide)
      | i + 2, _ => rfl
    · intro i k hk
      match i, hk with
      | 0, hk => cases hk; exact hr0
      | i + 1, hk => cases hk
  · intro q hq hst K' B' L' f' ν μ h1 h2 h3 h4 h5
    have e0 : ν 0 = v0 := h4 0 (by decide)
    have e1 : ν 1 = v1 := h4 1 (by decide)
    have d0 : μ 0 = r0 := h5 0 (by decide)
    subst e0
    subst e1
    subst d0
    replace hq : q ∈ u_em42 := hq
    unfold u_em42 at hq
    simp only [List.mem_cons, List.not_mem_nil, or_false] at hq
    rcases hq with rfl
    · have hst2 : eW E 0 0 L' f' 49 [(0, .ref (μ 0)), (1, .int (Int32.ofInt (0 + (1 * ν 0 + 0)))), (2, .int (Int32.ofInt (0 + (1 * ν 1 + 0))))] [.int (Int32.ofInt (0 + (1 * ν 2 + 0))), .ref (μ 0)] := ?_
      · exact hst2
      try simp only [Int.zero_add, Int.one_mul, Int.add_zero]
      exact k49 K' B' L' f' (ν 2)  h1 h2 (h3.1 0) (h3.1 1) (h3.1 2) (h3.2.2.2.1 0 200 rfl) (by simpa only [xv, xvT, Int.zero_add, Int.one_mul, Int.add_zero] using (mokF h1 (show (zkd 200).1 = 1 by decide) (j := 13) rfl (by decide) (h3.2.2.2.2.1 _ (List.mem_of_getElem? (i := 0) rfl))))

/-! st0: from 0 to [18, 89] -/
def w_st0 : TP := ([(0, (2, 0, (0, []))), (1, (0, 0, (0, [(1, 0)])))], [], ([(1, 7)], [], [], [200], [], [], []), [], [])
def u_st0 : List (Nat × TP × EX × Nat × Nat) := [(18, ([(0, (2, 0, (0, []))), (1, (0, 0, (0, [(1, 0)])))], [(0, 0, (0, [(1, 1)]))], ([(1, 7), ((-2147483648), 2147483647), (1, 160)], [], [], [200], [((205, ((-1), [(1, 2)])), (0, [(1, 1)])), ((200, (17, [])), (0, [(1, 2)]))], [], []), [(1, 0, (0, [])), (2, 200, (17, []))], []), ((-1), []), 0, 0), (89, ([(0, (2, 0, (0, []))), (1, (0, 0, (0, [(1, 0)])))], [], ([(1, 7), (0, 0)], [], [], [200], [((200, (17, [])), (0, [(1, 1)]))], [], []), [(2, 200, (17, []))], []), ((-1), []), 0, 0)]
def D_st0 : DT := (mkD iX12_settle fX12 lX12 kX12 kkX12 412 [] (w_st0, [], [], 4, 0, 0, 3) false 2 u_st0)
theorem k_st0 : chkS D_st0 4000 0 0 0 = true := by decide +kernel
theorem s_st0 {X0 : zC0} {E : zCx} (H : ∀ j, j < 412 → CMj X0 j) (hE : zOk E X0 RX12 cX12_settle 2 (zrm 4 0 0)) {K : Nat → Nat} {B : Int} {L : List Nat} {f : Nat → va_E} (hh : hok X0.2.2.1 K B L f) {v0 : Int} {r0 : Nat} (hb0 : 1 ≤ v0 ∧ v0 ≤ 7) (hr0 : r0 ∈ L ∧ K r0 = 200) (k18 : ∀ (K' : Nat → Nat) (B' : Int) (L' : List Nat) (f' : Nat → va_E) (v1 v2 : Int), hok X0.2.2.1 K' B' L' f' → extC [] K B L f K' B' L' f' → (1 ≤ v0 ∧ v0 ≤ 7) → ((-2147483648) ≤ v1 ∧ v1 ≤ 2147483647) → (1 ≤ v2 ∧ v2 ≤ 160) → (r0 ∈ L' ∧ K' r0 = 200) → (∀ b ∈ L', K' b = 205 → (0 : Int) ≤ ((-1) + v2) ∧ gi (f' b) ((((-1) + v2) : Int)).toNat = v1) → (∀ b ∈ L', K' b = 200 → gi (f' b) 17 = v2) → eW E 0 0 L' f' 18 [(0, .ref r0), (1, .int (Int32.ofInt v0))] [.int (Int32.ofInt v1)]) (k89 : ∀ (K' : Nat → Nat) (B' : Int) (L' : List Nat) (f' : Nat → va_E) (v1 : Int), hok X0.2.2.1 K' B' L' f' → extC [] K B L f K' B' L' f' → (1 ≤ v0 ∧ v0 ≤ 7) → (0 ≤ v1 ∧ v1 ≤ 0) → (r0 ∈ L' ∧ K' r0 = 200) → (∀ b ∈ L', K' b = 200 → gi (f' b) 17 = v1) → eW E 0 0 L' f' 89 [(0, .ref r0), (1, .int (Int32.ofInt v0))] []) : eW E 0 0 L f 0 [(0, .ref r0), (1, .int (Int32.ofInt v0))] [] := by
  obtain ⟨l0, D0, cy0, ax0⟩ := X0
  have hraw : eW E 0 0 L f 0 [(0, .ref r0), (1, .int (Int32.ofInt (0 + (1 * v0 + 0))))] [] := ?_
  · simpa only [Int.zero_add, Int.one_mul, Int.add_zero] using hraw
  refine seg_ok (D := D_st0) (νi := fun i => [v0].getD i 0) (μi := fun i => [r0].getD i 0) k_st0 hE (mk_ok (ins := iX12_settle) jX12_settle fX12_ok lX12_ok kX12_ok kkX12_ok H) (by decide) rfl rfl rfl rfl hh ?_ ?_
  · refine ⟨(eok_of (fun i q hq => ?_) (fun i hi => ?_)), fa0, fa0, ?_, fa0, fa0, fa0⟩
    · match i, hq with
      | 0, hq => cases hq; exact hb0
      | i + 1, hq => cases hq
    · match i, hi with
      | 0, hi => exact absurd hi (by decide)
      | i + 1, _ => rfl
    · intro i k hk
      match i, hk with
      | 0, hk => cases hk; exact hr0
      | i + 1, hk => cases hk
  · intro q hq hst K' B' L' f' ν μ h1 h2 h3 h4 h5
    have e0 : ν 0 = v0 := h4 0 (by decide)
    have d0 : μ 0 = r0 := h5 0 (by decide)
    subst e0
    subst d0
    replace hq : q ∈ u_st0 := hq
    unfold u_st0 at hq
    simp only [List.mem_cons, List.not_mem_nil, or_false] at hq
    rcases hq with rfl | rfl
    · have hst2 : eW E 0 0 L' f' 18 [(0, .ref (μ 0)), (1, .int (Int32.ofInt (0 + (1 * ν 0 + 0))))] [.int (Int32.ofInt (0 + (1 * ν 1 + 0)))] := ?_
      · exact hst2
      try simp only [Int.zero_add, Int.one_mul, Int.add_zero]
      exact k18 K' B' L' f' (ν 1) (ν 2)  h1 h2 (h3.1 0) (h3.1 1) (h3.1 2) (h3.2.2.2.1 0 200 rfl) (by simpa only [xv, xvT, Int.zero_add, Int.one_mul, Int.add_zero] using (mokA h1 (show (zkd 205).1 = 2 by decide) (by decide) (h3.2.2.2.2.1 _ (List.mem_of_getElem? (i := 0) rfl)))) (by simpa only [xv, xvT, Int.zero_add, Int.one_mul, Int.add_zero] using (mokF h1 (show (zkd 200).1 = 1 by decide) (j := 17) rfl (by decide) (h3.2.2.2.2.1 _ (List.mem_of_getElem? (i := 1) rfl))))
    · have hst2 : eW E 0 0 L' f' 89 [(0, .ref (μ 0)), (1, .int (Int32.ofInt (0 + (1 * ν 0 + 0))))] [] := ?_
      · exact hst2
      try simp only [Int.zero_add, Int.one_mul, Int.add_zero]
      exact k89 K' B' L' f' (ν 1)  h1 h2 (h3.1 0) (h3.1 1) (h3.2.2.2.1 0 200 rfl) (by simpa only [xv, xvT, Int.zero_add, Int.one_mul, Int.add_zero] using (mokF h1 (show (zkd 200).1 = 1 by decide) (j := 17) rfl (by decide) (h3.2.2.2.2.1 _ (List.mem_of_getElem? (i := 0) rfl))))

/-! st21: from 21 to [25, 89] -/
def w_st21 : TP := ([(0, (2, 0, (0, []))), (1, (0, 0, (0, [(1, 0)])))], [(0, 0, (0, [(1, 1)]))], ([(1, 7), (0, 7)], [], [], [200], [], [], []), [], [])
def u_st21 : List (Nat × TP × EX × Nat × Nat) := [(25, ([(0, (2, 0, (0, []))), (1, (0, 0, (0, [(1, 0)])))], [], ([(1, 7), (1, 7)], [(0, [(1, 1), ((-1), 0)])], [], [200], [], [], []), [], []), ((-1), []), 0, 0), (89, ([(0, (2, 0, (0, []))), (1, (0, 0, (0, [(1, 0)])))], [], ([(1, 7), (0, 6)], [((-1), [((-1), 1), (1, 0)])], [], [200], [], [], []), [], []), ((-1), []), 0, 0)]
def D_st21 : DT := (mkD iX12_settle fX12 lX12 kX12 kkX12 412 [] (w_st21, [], [], 4, 0, 0, 3) false 2 u_st21)
theorem k_st21 : chkS D_st21 4000 0 0 21 = true := by decide +kernel
theorem s_st21 {X0 : zC0} {E : zCx} (H : ∀ j, j < 412 → CMj X0 j) (hE : zOk E X0 RX12 cX12_settle 2 (zrm 4 0 0)) {K : Nat → Nat} {B : Int} {L : List Nat} {f : Nat → va_E} (hh : hok X0.2.2.1 K B L f) {v0 v1 : Int} {r0 : Nat} (hb0 : 1 ≤ v0 ∧ v0 ≤ 7) (hb1 : 0 ≤ v1 ∧ v1 ≤ 7) (hr0 : r0 ∈ L ∧ K r0 = 200) (k25 : ∀ (K' : Nat → Nat) (B' : Int) (L' : List Nat) (f' : Nat → va_E), hok X0.2.2.1 K' B' L' f' → extC [] K B L f K' B' L' f' → (1 ≤ v0 ∧ v0 ≤ 7) → (1 ≤ v1 ∧ v1 ≤ 7) → (0 ≤ (v1 + ((-1) * v0))) → (r0 ∈ L' ∧ K' r0 = 200) → eW E 0 0 L' f' 25 [(0, .ref r0), (1, .int (Int32.ofInt v0))] []) (k89 : ∀ (K' : Nat → Nat) (B' : Int) (L' : List Nat) (f' : Nat → va_E), hok X0.2.2.1 K' B' L' f' → extC [] K B L f K' B' L' f' → (1 ≤ v0 ∧ v0 ≤ 7) → (0 ≤ v1 ∧ v1 ≤ 6) → (0 ≤ ((-1) + ((-1) * v1 + v0))) → (r0 ∈ L' ∧ K' r0 = 200) → eW E 0 0 L' f' 89 [(0, .ref r0), (1, .int (Int32.ofInt v0))] []) : eW E 0 0 L f 21 [(0, .ref r0), (1, .int (Int32.ofInt v0))] [.int (Int32.ofInt v1)] := by
  obtain ⟨l0, D0, cy0, ax0⟩ := X0
  have hraw : eW E 0 0 L f 21 [(0, .ref r0), (1, .int (Int32.ofInt (0 + (1 * v0 + 0))))] [.int (Int32.ofInt (0 + (1 * v1 + 0)))] := ?_
  · simpa only [Int.zero_add, Int.one_mul, Int.add_zero] using hraw
  refine seg_ok (D := D_st21) (νi := fun i => [v0, v1].getD i 0) (μi := fun i => [r0].getD i 0) k_st21 hE (mk_ok (ins := iX12_settle) jX12_settle fX12_ok lX12_ok kX12_ok kkX12_ok H) (by decide) rfl rfl rfl rfl hh ?_ ?_
  · refine ⟨(eok_of (fun i q hq => ?_) (fun i hi => ?_)), fa0, fa0, ?_, fa0, fa0, fa0⟩
    · match i, hq with
      | 0, hq => cases hq; exact hb0
      | 1, hq => cases hq; exact hb1
      | i + 2, hq => cases hq
    · match i, hi with
      | 0, hi => exact absurd hi (by decide)
      | 1, hi => exact absurd hi (by decide)
      | i + 2, _ => rfl
    · intro i k hk
      match i, hk with
      | 0, hk => cases hk; exact hr0
      | i + 1, hk => cases hk
  · intro q hq hst K' B' L' f' ν μ h1 h2 h3 h4 h5
    have e0 : ν 0 = v0 := h4 0 (by decide)
    have e1 : ν 1 = v1 := h4 1 (by decide)
    have d0 : μ 0 = r0 := h5 0 (by decide)
    subst e0
    subst e1
    subst d0
    replace hq : q ∈ u_st21 := hq
    unfold u_st21 at hq
    simp only [List.mem_cons, List.not_mem_nil, or_false] at hq
    rcases hq with rfl | rfl
    · have hst2 : eW E 0 0 L' f' 25 [(0, .ref (μ 0)), (1, .int (Int32.ofInt (0 + (1 * ν 0 + 0))))] [] := ?_
      · exact hst2
      try simp only [Int.zero_add, Int.one_mul, Int.add_zero]
      exact k25 K' B' L' f'   h1 h2 (h3.1 0) (h3.1 1) (by simpa only [xv, xvT, Int.zero_add, Int.one_mul, Int.add_zero] using (h3.2.1 _ (List.mem_of_getElem? (i := 0) rfl))) (h3.2.2.2.1 0 200 rfl)
    · have hst2 : eW E 0 0 L' f' 89 [(0, .ref (μ 0)), (1, .int (Int32.ofInt (0 + (1 * ν 0 + 0))))] [] := ?_
      · exact hst2
      try simp only [Int.zero_add, Int.one_mul, Int.add_zero]
      exact k89 K' B' L' f'   h1 h2 (h3.1 0) (h3.1 1) (by simpa only [xv, xvT, Int.zero_add, Int.one_mul, Int.add_zero] using (h3.2.1 _ (List.mem_of_getElem? (i := 0) rfl))) (h3.2.2.2.1 0 200 rfl)

/-! st25: from 25 to [46] -/
def w_st25 : TP := ([(0, (2, 0, (0, []))), (1, (0, 0, (0, [(1, 0)])))], [], ([(1, 7), (1, 160)], [], [], [200], [((200, (17, [])), (0, [(1, 1)]))], [], []), [], [])
def u_st25 : List (Nat × TP × EX × Nat × Nat) := [(46, ([(0, (2, 0, (0, []))), (1, (0, 0, (0, [(1, 0)])))], [(0, 0, (0, [])), (0, 0, (0, [(1, 2)])), (2, 0, (0, []))], ([(1, 7), (1, 160), ((-2147483648), 2147483647)], [], [], [200], [((205, ((-1), [(1, 1)])), (0, [(1, 2)])), ((200, (17, [])), ((-1), [(1, 1)]))], [], []), [(1, 1, (0, []))], []), ((-1), []), 0, 0)]
def D_st25 : DT := (mkD iX12_settle fX12 lX12 kX12 kkX12 412 [] (w_st25, [(200, 17)], [], 4, 0, 0, 3) false 2 u_st25)
theorem k_st25 : chkS D_st25 4000 0 0 25 = true := by decide +kernel
theorem s_st25 {X0 : zC0} {E : zCx} (H : ∀ j, j < 412 → CMj X0 j) (hE : zOk E X0 RX12 cX12_settle 2 (zrm 4 0 0)) {K : Nat → Nat} {B : Int} {L : List Nat} {f : Nat → va_E} (hh : hok X0.2.2.1 K B L f) {v0 v1 : Int} {r0 : Nat} (hb0 : 1 ≤ v0 ∧ v0 ≤ 7) (hb1 : 1 ≤ v1 ∧ v1 ≤ 160) (hr0 : r0 ∈ L ∧ K r0 = 200) (hm0 : (∀ b ∈ L, K b = 200 → gi (f b) 17 = v1)) (k46 : ∀ (K' : Nat → Nat) (B' : Int) (L' : List Nat) (f' : Nat → va_E) (v2 : Int), hok X0.2.2.1 K' B' L' f' → extC [(200, 17)] K B L f K' B' L' f' → (1 ≤ v0 ∧ v0 ≤ 7) → (1 ≤ v1 ∧ v1 ≤ 160) → ((-2147483648) ≤ v2 ∧ v2 ≤ 2147483647) → (r0 ∈ L' ∧ K' r0 = 200) → (∀ b ∈ L', K' b = 205 → (0 : Int) ≤ ((-1) + v1) ∧ gi (f' b) ((((-1) + v1) : Int)).toNat = v2) → (∀ b ∈ L', K' b = 200 → gi (f' b) 17 = ((-1) + v1)) → eW E 0 0 L' f' 46 [(0, .ref r0), (1, .int (Int32.ofInt v0))] [.int (Int32.ofInt 0), .int (Int32.ofInt v2), .ref r0]) : eW E 0 0 L f 25 [(0, .ref r0), (1, .int (Int32.ofInt v0))] [] := by
  obtain ⟨l0, D0, cy0, ax0⟩ := X0
  have hraw : eW E 0 0 L f 25 [(0, .ref r0), (1, .int (Int32.ofInt (0 + (1 * v0 + 0))))] [] := ?_
  · simpa only [Int.zero_add, Int.one_mul, Int.add_zero] using hraw
  have rm0 : (∀ b ∈ L, K b = 200 → gi (f b) 17 = (0 + (1 * v1 + 0))) := by simpa only [Int.zero_add, Int.one_mul, Int.add_zero] using hm0
  refine seg_ok (D := D_st25) (νi := fun i => [v0, v1].getD i 0) (μi := fun i => [r0].getD i 0) k_st25 hE (mk_ok (ins := iX12_settle) jX12_settle fX12_ok lX12_ok kX12_ok kkX12_ok H) (by decide) rfl rfl rfl rfl hh ?_ ?_
  · refine ⟨(eok_of (fun i q hq => ?_) (fun i hi => ?_)), fa0, fa0, ?_, (fa_cons (Fmok hh (show (zkd 200).1 = 1 by decide) (j := 17) rfl (by decide) rm0) fa0), fa0, fa0⟩
    · match i, hq with
      | 0, hq => cases hq; exact hb0
      | 1, hq => cases hq; exact hb1
      | i + 2, hq => cases hq
    · match i, hi with
      | 0, hi => exact absurd hi (by decide)
      | 1, hi => exact absurd hi (by decide)
      | i + 2, _ => rfl
    · intro i k hk
      match i, hk with
      | 0, hk => cases hk; exact hr0
      | i + 1, hk => cases hk
  · intro q hq hst K' B' L' f' ν μ h1 h2 h3 h4 h5
    have e0 : ν 0 = v0 := h4 0 (by decide)
    have e1 : ν 1 = v1 := h4 1 (by decide)
    have d0 : μ 0 = r0 := h5 0 (by decide)
    subst e0
    subst e1
    subst d0
    replace hq : q ∈ u_st25 := hq
    unfold u_st25 at hq
    simp only [List.mem_cons, List.not_mem_nil, or_false] at hq
    rcases hq with rfl
    · have hst2 : eW E 0 0 L' f' 46 [(0, .ref (μ 0)), (1, .int (Int32.ofInt (0 + (1 * ν 0 + 0))))] [.int (Int32.ofInt (0 + 0)), .int (Int32.ofInt (0 + (1 * ν 2 + 0))), .ref (μ 0)] := ?_
      · exact hst2
      try simp only [Int.zero_add, Int.one_mul, Int.add_zero]
      exact k46 K' B' L' f' (ν 2)  h1 h2 (h3.1 0) (h3.1 1) (h3.1 2) (h3.2.2.2.1 0 200 rfl) (by simpa only [xv, xvT, Int.zero_add, Int.one_mul, Int.add_zero] using (mokA h1 (show (zkd 205).1 = 2 by decide) (by decide) (h3.2.2.2.2.1 _ (List.mem_of_getElem? (i := 0) rfl)))) (by simpa only [xv, xvT, Int.zero_add, Int.one_mul, Int.add_zero] using (mokF h1 (show (zkd 200).1 = 1 by decide) (j := 17) rfl (by decide) (h3.2.2.2.2.1 _ (List.mem_of_getElem? (i := 1) rfl))))

/-! st49a: from 49 to [0] -/
def w_st49a : TP := ([(0, (2, 0, (0, []))), (1, (0, 0, (0, [(1, 0)])))], [], ([(1, 7), (0, 159), ((-999), 8)], [], [], [200], [((200, (17, [])), (0, [(1, 1)])), ((205, (0, [(1, 1)])), (2, [])), ((200, (18, [])), (0, [(1, 2)]))], [], []), [], [])
def u_st49a : List (Nat × TP × EX × Nat × Nat) := [(0, ([(0, (2, 0, (0, []))), (1, (0, 0, (0, [(1, 0)])))], [], ([(1, 7), (0, 159), ((-999), 8)], [], [], [200], [((200, (18, [])), ((-1), [(1, 2)])), ((200, (17, [])), (0, [(1, 1)])), ((205, (0, [(1, 1)])), (2, []))], [], []), [], []), ((-1), []), 0, 0)]
def D_st49a : DT := (mkD iX12_settle fX12 lX12 kX12 kkX12 412 [] (w_st49a, [(200, 18)], [], 4, 0, 0, 3) false 2 u_st49a)
theorem k_st49a : chkS D_st49a 4000 0 0 49 = true := by decide +kernel
theorem s_st49a {X0 : zC0} {E : zCx} (H : ∀ j, j < 412 → CMj X0 j) (hE : zOk E X0 RX12 cX12_settle 2 (zrm 4 0 0)) {K : Nat → Nat} {B : Int} {L : List Nat} {f : Nat → va_E} (hh : hok X0.2.2.1 K B L f) {v0 v1 v2 : Int} {r0 : Nat} (hb0 : 1 ≤ v0 ∧ v0 ≤ 7) (hb1 : 0 ≤ v1 ∧ v1 ≤ 159) (hb2 : (-999) ≤ v2 ∧ v2 ≤ 8) (hr0 : r0 ∈ L ∧ K r0 = 200) (hm0 : (∀ b ∈ L, K b = 200 → gi (f b) 17 = v1)) (hm1 : (∀ b ∈ L, K b = 205 → (0 : Int) ≤ v1 ∧ gi (f b) ((v1 : Int)).toNat = 2)) (hm2 : (∀ b ∈ L, K b = 200 → gi (f b) 18 = v2)) (k0 : ∀ (K' : Nat → Nat) (B' : Int) (L' : List Nat) (f' : Nat → va_E), hok X0.2.2.1 K' B' L' f' → extC [(200, 18)] K B L f K' B' L' f' → (1 ≤ v0 ∧ v0 ≤ 7) → (0 ≤ v1 ∧ v1 ≤ 159) → ((-999) ≤ v2 ∧ v2 ≤ 8) → (r0 ∈ L' ∧ K' r0 = 200) → (∀ b ∈ L', K' b = 200 → gi (f' b) 18 = ((-1) + v2)) → (∀ b ∈ L', K' b = 200 → gi (f' b) 17 = v1) → (∀ b ∈ L', K' b = 205 → (0 : Int) ≤ v1 ∧ gi (f' b) ((v1 : Int)).toNat = 2) → eW E 0 0 L' f' 0 [(0, .ref r0), (1, .int (Int32.ofInt v0))] []) : eW E 0 0 L f 49 [(0, .ref r0), (1, .int (Int32.ofInt v0))] [] := by
  obtain ⟨l0, D0, cy0, ax0⟩ := X0
  have hraw : eW E 0 0 L f 49 [(0, .ref r0), (1, .int (Int32.ofInt (0 + (1 * v0 + 0))))] [] := ?_
  · simpa only [Int.zero_add, Int.one_mul, Int.add_zero] using hraw
  have rm0 : (∀ b ∈ L, K b = 200 → gi (f b) 17 = (0 + (1 * v1 + 0))) := by simpa only [Int.zero_add, Int.one_mul, Int.add_zero] using hm0
  have rm1 : (∀ b ∈ L, K b = 205 → (0 : Int) ≤ (0 + (1 * v1 + 0)) ∧ gi (f b) (((0 + (1 * v1 + 0)) : Int)).toNat = (2 + 0)) := by simpa only [Int.zero_add, Int.one_mul, Int.add_zero] using hm1
  have rm2 : (∀ b ∈ L, K b = 200 → gi (f b) 18 = (0 + (1 * v2 + 0))) := by simpa only [Int.zero_add, Int.one_mul, Int.add_zero] using hm2
  refine seg_ok (D := D_st49a) (νi := fun i => [v0, v1, v2].getD i 0) (μi := fun i => [r0].getD i 0) k_st49a hE (mk_ok (ins := iX12_settle) jX12_settle fX12_ok lX12_ok kX12_ok kkX12_ok H) (by decide) rfl rfl rfl rfl hh ?_ ?_
  · refine ⟨(eok_of (fun i q hq => ?_) (fun i hi => ?_)), fa0, fa0, ?_, (fa_cons (Fmok hh (show (zkd 200).1 = 1 by decide) (j := 17) rfl (by decide) rm0) (fa_cons (Amok hh (show (zkd 205).1 = 2 by decide) (by decide) rm1) (fa_cons (Fmok hh (show (zkd 200).1 = 1 by decide) (j := 18) rfl (by decide) rm2) fa0))), fa0, fa0⟩
    · match i, hq with
      | 0, hq => cases hq; exact hb0
      | 1, hq => cases hq; exact hb1
      | 2, hq => cases hq; exact hb2
      | i + 3, hq => cases hq
    · match i, hi with
      | 0, hi => exact absurd hi (by decide)
      | 1, hi => exact absurd hi (by decide)
      | 2, hi => exact absurd hi (by decide)
      | i + 3, _ => rfl
    · intro i k hk
      match i, hk with
      | 0, hk => cases hk; exact hr0
      | i + 1, hk => cases hk
  · intro q hq hst K' B' L' f' ν μ h1 h2 h3 h4 h5
    have e0 : ν 0 = v0 := h4 0 (by decide)
    have e1 : ν 1 = v1 := h4 1 (by decide)
    have e2 : ν 2 = v2 := h4 2 (by decide)
    have d0 : μ 0 = r0 := h5 0 (by decide)
    subst e0
    subst e1
    subst e2
    subst d0
    replace hq : q ∈ u_st49a := hq
    unfold u_st49a at hq
    simp only [List.mem_cons, List.not_mem_nil, or_false] at hq
    rcases hq with rfl
    · have hst2 : eW E 0 0 L' f' 0 [(0, .ref (μ 0)), (1, .int (Int32.ofInt (0 + (1 * ν 0 + 0))))] [] := ?_
      · exact hst2
      try simp only [Int.zero_add, Int.one_mul, Int.add_zero]
      exact k0 K' B' L' f'   h1 h2 (h3.1 0) (h3.1 1) (h3.1 2) (h3.2.2.2.1 0 200 rfl) (by simpa only [xv, xvT, Int.zero_add, Int.one_mul, Int.add_zero] using (mokF h1 (show (zkd 200).1 = 1 by decide) (j := 18) rfl (by decide) (h3.2.2.2.2.1 _ (List.mem_of_getElem? (i := 0) rfl)))) (by simpa only [xv, xvT, Int.zero_add, Int.one_mul, Int.add_zero] using (mokF h1 (show (zkd 200).1 = 1 by decide) (j := 17) rfl (by decide) (h3.2.2.2.2.1 _ (List.mem_of_getElem? (i := 1) rfl)))) (by simpa only [xv, xvT, Int.zero_add, Int.one_mul, Int.add_zero] using (mokA h1 (show (zkd 205).1 = 2 by decide) (by decide) (h3.2.2.2.2.1 _ (List.mem_of_getElem? (i := 2) rfl))))

/-! st49b: from 49 to [0] -/
def w_st49b : TP := ([(0, (2, 0, (0, []))), (1, (0, 0, (0, [(1, 0)])))], [], ([(1, 7), (0, 159), ((-999), 8)], [], [], [200], [((200, (17, [])), (0, [(1, 1)])), ((205, (0, [(1, 1)])), (20, [])), ((200, (18, [])), (0, [(1, 2)]))], [], []), [], [])
def u_st49b : List (Nat × TP × EX × Nat × Nat) := [(0, ([(0, (2, 0, (0, []))), (1, (0, 0, (0, [(1, 0)])))], [], ([(1, 7), (0, 159), ((-999), 8)], [], [], [200], [((200, (18, [])), ((-1), [(1, 2)])), ((200, (17, [])), (0, [(1, 1)])), ((205, (0, [(1, 1)])), (20, []))], [], []), [], []), ((-1), []), 0, 0)]
def D_st49b : DT := (mkD iX12_settle fX12 lX12 kX12 kkX12 412 [] (w_st49b, [(200, 18)], [], 4, 0, 0, 3) false 2 u_st49b)
theorem k_st49b : chkS D_st49b 4000 0 0 49 = true := by decide +kernel
theorem s_st49b {X0 : zC0} {E : zCx} (H : ∀ j, j < 412 → CMj X0 j) (hE : zOk E X0 RX12 cX12_settle 2 (zrm 4 0 0)) {K : Nat → Nat} {B : Int} {L : List Nat} {f : Nat → va_E} (hh : hok X0.2.2.1 K B L f) {v0 v1 v2 : Int} {r0 : Nat} (hb0 : 1 ≤ v0 ∧ v0 ≤ 7) (hb1 : 0 ≤ v1 ∧ v1 ≤ 159) (hb2 : (-999) ≤ v2 ∧ v2 ≤ 8) (hr0 : r0 ∈ L ∧ K r0 = 200) (hm0 : (∀ b ∈ L, K b = 200 → gi (f b) 17 = v1)) (hm1 : (∀ b ∈ L, K b = 205 → (0 : Int) ≤ v1 ∧ gi (f b) ((v1 : Int)).toNat = 20)) (hm2 : (∀ b ∈ L, K b = 200 → gi (f b) 18 = v2)) (k0 : ∀ (K' : Nat → Nat) (B' : Int) (L' : List Nat) (f' : Nat → va_E), hok X0.2.2.1 K' B' L' f' → extC [(200, 18)] K B L f K' B' L' f' → (1 ≤ v0 ∧ v0 ≤ 7) → (0 ≤ v1 ∧ v1 ≤ 159) → ((-999) ≤ v2 ∧ v2 ≤ 8) → (r0 ∈ L' ∧ K' r0 = 200) → (∀ b ∈ L', K' b = 200 → gi (f' b) 18 = ((-1) + v2)) → (∀ b ∈ L', K' b = 200 → gi (f' b) 17 = v1) → (∀ b ∈ L', K' b = 205 → (0 : Int) ≤ v1 ∧ gi (f' b) ((v1 : Int)).toNat = 20) → eW E 0 0 L' f' 0 [(0, .ref r0), (1, .int (Int32.ofInt v0))] []) : eW E 0 0 L f 49 [(0, .ref r0), (1, .int (Int32.ofInt v0))] [] := by
  obtain ⟨l0, D0, cy0, ax0⟩ := X0
  have hraw : eW E 0 0 L f 49 [(0, .ref r0), (1, .int (Int32.ofInt (0 + (1 * v0 + 0))))] [] := ?_
  · simpa only [Int.zero_add, Int.one_mul, Int.add_zero] using hraw
  have rm0 : (∀ b ∈ L, K b = 200 → gi (f b) 17 = (0 + (1 * v1 + 0))) := by simpa only [Int.zero_add, Int.one_mul, Int.add_zero] using hm0
  have rm1 : (∀ b ∈ L, K b = 205 → (0 : Int) ≤ (0 + (1 * v1 + 0)) ∧ gi (f b) (((0 + (1 * v1 + 0)) : Int)).toNat = (20 + 0)) := by simpa only [Int.zero_add, Int.one_mul, Int.add_zero] using hm1
  have rm2 : (∀ b ∈ L, K b = 200 → gi (f b) 18 = (0 + (1 * v2 + 0))) := by simpa only [Int.zero_add, Int.one_mul, Int.add_zero] using hm2
  refine seg_ok (D := D_st49b) (νi := fun i => [v0, v1, v2].getD i 0) (μi := fun i => [r0].getD i 0) k_st49b hE (mk_ok (ins := iX12_settle) jX12_settle fX12_ok lX12_ok kX12_ok kkX12_ok H) (by decide) rfl rfl rfl rfl hh ?_ ?_
  · refine ⟨(eok_of (fun i q hq => ?_) (fun i hi => ?_)), fa0, fa0, ?_, (fa_cons (Fmok hh (show (zkd 200).1 = 1 by decide) (j := 17) rfl (by decide) rm0) (fa_cons (Amok hh (show (zkd 205).1 = 2 by decide) (by decide) rm1) (fa_cons (Fmok hh (show (zkd 200).1 = 1 by decide) (j := 18) rfl (by decide) rm2) fa0))), fa0, fa0⟩
    · match i, hq with
      | 0, hq => cases hq; exact hb0
      | 1, hq => cases hq; exact hb1
      | 2, hq => cases hq; exact hb2
      | i + 3, hq => cases hq
    · match i, hi with
      | 0, hi => exact absurd hi (by decide)
      | 1, hi => exact absurd hi (by decide)
      | 2, hi => exact absurd hi (by decide)
      | i + 3, _ => rfl
    · intro i k hk
      match i, hk with
      | 0, hk => cases hk; exact hr0
      | i + 1, hk => cases hk
  · intro q hq hst K' B' L' f' ν μ h1 h2 h3 h4 h5
    have e0 : ν 0 = v0 := h4 0 (by decide)
    have e1 : ν 1 = v1 := h4 1 (by decide)
    have e2 : ν 2 = v2 := h4 2 (by decide)
    have d0 : μ 0 = r0 := h5 0 (by decide)
    subst e0
    subst e1
    subst e2
    subst d0
    replace hq : q ∈ u_st49b := hq
    unfold u_st49b at hq
    simp only [List.mem_cons, List.not_mem_nil, or_false] at hq
    rcases hq with rfl
    · have hst2 : eW E 0 0 L' f' 0 [(0, .ref (μ 0)), (1, .int (Int32.ofInt (0 + (1 * ν 0 + 0))))] [] := ?_
      · exact hst2
      try simp only [Int.zero_add, Int.one_mul, Int.add_zero]
      exact k0 K' B' L' f'   h1 h2 (h3.1 0) (h3.1 1) (h3.1 2) (h3.2.2.2.1 0 200 rfl) (by simpa only [xv, xvT, Int.zero_add, Int.one_mul, Int.add_zero] using (mokF h1 (show (zkd 200).1 = 1 by decide) (j := 18) rfl (by decide) (h3.2.2.2.2.1 _ (List.mem_of_getElem? (i := 0) rfl)))) (by simpa only [xv, xvT, Int.zero_add, Int.one_mul, Int.add_zero] using (mokF h1 (show (zkd 200).1 = 1 by decide) (j := 17) rfl (by decide) (h3.2.2.2.2.1 _ (List.mem_of_getElem? (i := 1) rfl)))) (by simpa only [xv, xvT, Int.zero_add, Int.one_mul, Int.add_zero] using (mokA h1 (show (zkd 205).1 = 2 by decide) (by decide) (h3.2.2.2.2.1 _ (List.mem_of_getElem? (i := 2) rfl))))

/-! st49c: from 49 to [0] -/
def w_st49c : TP := ([(0, (2, 0, (0, []))), (1, (0, 0, (0, [(1, 0)])))], [], ([(1, 7), (0, 159), (3, 19)], [], [], [200], [((200, (17, [])), (0, [(1, 1)])), ((205, (0, [(1, 1)])), (0, [(1, 2)]))], [], []), [], [])
def u_st49c : List (Nat × TP × EX × Nat × Nat) := [(0, ([(0, (2, 0, (0, []))), (1, (0, 0, (0, [(1, 0)])))], [], ([(1, 7), (0, 159), (3, 19)], [], [], [200], [((200, (17, [])), (0, [(1, 1)])), ((205, (0, [(1, 1)])), (0, [(1, 2)]))], [], []), [], []), ((-1), []), 0, 0)]
def D_st49c : DT := (mkD iX12_settle fX12 lX12 kX12 kkX12 412 [] (w_st49c, [], [], 4, 0, 0, 3) false 2 u_st49c)
theorem k_st49c : chkS D_st49c 4000 0 0 49 = true := by decide +kernel
theorem s_st49c {X0 : zC0} {E : zCx} (H : ∀ j, j < 412 → CMj X0 j) (hE : zOk E X0 RX12 cX12_settle 2 (zrm 4 0 0)) {K : Nat → Nat} {B : Int} {L : List Nat} {f : Nat → va_E} (hh : hok X0.2.2.1 K B L f) {v0 v1 v2 : Int} {r0 : Nat} (hb0 : 1 ≤ v0 ∧ v0 ≤ 7) (hb1 : 0 ≤ v1 ∧ v1 ≤ 159) (hb2 : 3 ≤ v2 ∧ v2 ≤ 19) (hr0 : r0 ∈ L ∧ K r0 = 200) (hm0 : (∀ b ∈ L, K b = 200 → gi (f b) 17 = v1)) (hm1 : (∀ b ∈ L, K b = 205 → (0 : Int) ≤ v1 ∧ gi (f b) ((v1 : Int)).toNat = v2)) (k0 : ∀ (K' : Nat → Nat) (B' : Int) (L' : List Nat) (f' : Nat → va_E), hok X0.2.2.1 K' B' L' f' → extC [] K B L f K' B' L' f' → (1 ≤ v0 ∧ v0 ≤ 7) → (0 ≤ v1 ∧ v1 ≤ 159) → (3 ≤ v2 ∧ v2 ≤ 19) → (r0 ∈ L' ∧ K' r0 = 200) → (∀ b ∈ L', K' b = 200 → gi (f' b) 17 = v1) → (∀ b ∈ L', K' b = 205 → (0 : Int) ≤ v1 ∧ gi (f' b) ((v1 : Int)).toNat = v2) → eW E 0 0 L' f' 0 [(0, .ref r0), (1, .int (Int32.ofInt v0))] []) : eW E 0 0 L f 49 [(0, .ref r0), (1, .int (Int32.ofInt v0))] [] := by
  obtain ⟨l0, D0, cy0, ax0⟩ := X0
  have hraw : eW E 0 0 L f 49 [(0, .ref r0), (1, .int (Int32.ofInt (0 + (1 * v0 + 0))))] [] := ?_
  · simpa only [Int.zero_add, Int.one_mul, Int.add_zero] using hraw
  have rm0 : (∀ b ∈ L, K b = 200 → gi (f b) 17 = (0 + (1 * v1 + 0))) := by simpa only [Int.zero_add, Int.one_mul, Int.add_zero] using hm0
  have rm1 : (∀ b ∈ L, K b = 205 → (0 : Int) ≤ (0 + (1 * v1 + 0)) ∧ gi (f b) (((0 + (1 * v1 + 0)) : Int)).toNat = (0 + (1 * v2 + 0))) := by simpa only [Int.zero_add, Int.one_mul, Int.add_zero] using hm1
  refine seg_ok (D := D_st49c) (νi := fun i => [v0, v1, v2].getD i 0) (μi := fun i => [r0].getD i 0) k_st49c hE (mk_ok (ins := iX12_settle) jX12_settle fX12_ok lX12_ok kX12_ok kkX12_ok H) (by decide) rfl rfl rfl rfl hh ?_ ?_
  · refine ⟨(eok_of (fun i q hq => ?_) (fun i hi => ?_)), fa0, fa0, ?_, (fa_cons (Fmok hh (show (zkd 200).1 = 1 by decide) (j := 17) rfl (by decide) rm0) (fa_cons (Amok hh (show (zkd 205).1 = 2 by decide) (by decide) rm1) fa0)), fa0, fa0⟩
    · match i, hq with
      | 0, hq => cases hq; exact hb0
      | 1, hq => cases hq; exact hb1
      | 2, hq => cases hq; exact hb2
      | i + 3, hq => cases hq
    · match i, hi with
      | 0, hi => exact absurd hi (by decide)
      | 1, hi => exact absurd hi (by decide)
      | 2, hi => exact absurd hi (by decide)
      | i + 3, _ => rfl
    · intro i k hk
      match i, hk with
      | 0, hk => cases hk; exact hr0
      | i + 1, hk => cases hk
  · intro q hq hst K' B' L' f' ν μ h1 h2 h3 h4 h5
    have e0 : ν 0 = v0 := h4 0 (by decide)
    have e1 : ν 1 = v1 := h4 1 (by decide)
    have e2 : ν 2 = v2 := h4 2 (by decide)
    have d0 : μ 0 = r0 := h5 0 (by decide)
    subst e0
    subst e1
    subst e2
    subst d0
    replace hq : q ∈ u_st49c := hq
    unfold u_st49c at hq
    simp only [List.mem_cons, List.not_mem_nil, or_false] at hq
    rcases hq with rfl
    · have hst2 : eW E 0 0 L' f' 0 [(0, .ref (μ 0)), (1, .int (Int32.ofInt (0 + (1 * ν 0 + 0))))] [] := ?_
      · exact hst2
      try simp only [Int.zero_add, Int.one_mul, Int.add_zero]
      exact k0 K' B' L' f'   h1 h2 (h3.1 0) (h3.1 1) (h3.1 2) (h3.2.2.2.1 0 200 rfl) (by simpa only [xv, xvT, Int.zero_add, Int.one_mul, Int.add_zero] using (mokF h1 (show (zkd 200).1 = 1 by decide) (j := 17) rfl (by decide) (h3.2.2.2.2.1 _ (List.mem_of_getElem? (i := 0) rfl)))) (by simpa only [xv, xvT, Int.zero_add, Int.one_mul, Int.add_zero] using (mokA h1 (show (zkd 205).1 = 2 by decide) (by decide) (h3.2.2.2.2.1 _ (List.mem_of_getElem? (i := 1) rfl))))

/-! st49d: from 49 to [0] -/
def w_st49d : TP := ([(0, (2, 0, (0, []))), (1, (0, 0, (0, [(1, 0)])))], [], ([(1, 7), (0, 159), (21, 100)], [], [], [200], [((200, (17, [])), (0, [(1, 1)])), ((205, (0, [(1, 1)])), (0, [(1, 2)]))], [], []), [], [])
def u_st49d : List (Nat × TP × EX × Nat × Nat) := [(0, ([(0, (2, 0, (0, []))), (1, (0, 0, (0, [(1, 0)])))], [], ([(1, 7), (0, 159), (21, 100)], [], [], [200], [((200, (17, [])), (0, [(1, 1)])), ((205, (0, [(1, 1)])), (0, [(1, 2)]))], [], []), [], []), ((-1), []), 0, 0)]
def D_st49d : DT := (mkD iX12_settle fX12 lX12 kX12 kkX12 412 [] (w_st49d, [], [], 4, 0, 0, 3) false 2 u_st49d)
theorem k_st49d : chkS D_st49d 4000 0 0 49 = true := by decide +kernel
theorem s_st49d {X0 : zC0} {E : zCx} (H : ∀ j, j < 412 → CMj X0 j) (hE : zOk E X0 RX12 cX12_settle 2 (zrm 4 0 0)) {K : Nat → Nat} {B : Int} {L : List Nat} {f : Nat → va_E} (hh : hok X0.2.2.1 K B L f) {v0 v1 v2 : Int} {r0 : Nat} (hb0 : 1 ≤ v0 ∧ v0 ≤ 7) (hb1 : 0 ≤ v1 ∧ v1 ≤ 159) (hb2 : 21 ≤ v2 ∧ v2 ≤ 100) (hr0 : r0 ∈ L ∧ K r0 = 200) (hm0 : (∀ b ∈ L, K b = 200 → gi (f b) 17 = v1)) (hm1 : (∀ b ∈ L, K b = 205 → (0 : Int) ≤ v1 ∧ gi (f b) ((v1 : Int)).toNat = v2)) (k0 : ∀ (K' : Nat → Nat) (B' : Int) (L' : List Nat) (f' : Nat → va_E), hok X0.2.2.1 K' B' L' f' → extC [] K B L f K' B' L' f' → (1 ≤ v0 ∧ v0 ≤ 7) → (0 ≤ v1 ∧ v1 ≤ 159) → (21 ≤ v2 ∧ v2 ≤ 100) → (r0 ∈ L' ∧ K' r0 = 200) → (∀ b ∈ L', K' b = 200 → gi (f' b) 17 = v1) → (∀ b ∈ L', K' b = 205 → (0 : Int) ≤ v1 ∧ gi (f' b) ((v1 : Int)).toNat = v2) → eW E 0 0 L' f' 0 [(0, .ref r0), (1, .int (Int32.ofInt v0))] []) : eW E 0 0 L f 49 [(0, .ref r0), (1, .int (Int32.ofInt v0))] [] := by
  obtain ⟨l0, D0, cy0, ax0⟩ := X0
  have hraw : eW E 0 0 L f 49 [(0, .ref r0), (1, .int (Int32.ofInt (0 + (1 * v0 + 0))))] [] := ?_
  · simpa only [Int.zero_add, Int.one_mul, Int.add_zero] using hraw
  have rm0 : (∀ b ∈ L, K b = 200 → gi (f b) 17 = (0 + (1 * v1 + 0))) := by simpa only [Int.zero_add, Int.one_mul, Int.add_zero] using hm0
  have rm1 : (∀ b ∈ L, K b = 205 → (0 : Int) ≤ (0 + (1 * v1 + 0)) ∧ gi (f b) (((0 + (1 * v1 + 0)) : Int)).toNat = (0 + (1 * v2 + 0))) := by simpa only [Int.zero_add, Int.one_mul, Int.add_zero] using hm1
  refine seg_ok (D := D_st49d) (νi := fun i => [v0, v1, v2].getD i 0) (μi := fun i => [r0].getD i 0) k_st49d hE (mk_ok (ins := iX12_settle) jX12_settle fX12_ok lX12_ok kX12_ok kkX12_ok H) (by decide) rfl rfl rfl rfl hh ?_ ?_
  · refine ⟨(eok_of (fun i q hq => ?_) (fun i hi => ?_)), fa0, fa0, ?_, (fa_cons (Fmok hh (show (zkd 200).1 = 1 by decide) (j := 17) rfl (by decide) rm0) (fa_cons (Amok hh (show (zkd 205).1 = 2 by decide) (by decide) rm1) fa0)), fa0, fa0⟩
    · match i, hq with
      | 0, hq => cases hq; exact hb0
      | 1, hq => cases hq; exact hb1
      | 2, hq => cases hq; exact hb2
      | i + 3, hq => cases hq
    · match i, hi with
      | 0, hi => exact absurd hi (by decide)
      | 1, hi => exact absurd hi (by decide)
      | 2, hi => exact absurd hi (by decide)
      | i + 3, _ => rfl
    · intro i k hk
      match i, hk with
      | 0, hk => cases hk; exact hr0
      | i + 1, hk => cases hk
  · intro q hq hst K' B' L' f' ν μ h1 h2 h3 h4 h5
    have e0 : ν 0 = v0 := h4 0 (by decide)
    have e1 : ν 1 = v1 := h4 1 (by decide)
    have e2 : ν 2 = v2 := h4 2 (by decide)
    have d0 : μ 0 = r0 := h5 0 (by decide)
    subst e0
    subst e1
    subst e2
    subst d0
    replace hq : q ∈ u_st49d := hq
    unfold u_st49d at hq
    simp only [List.mem_cons, List.not_mem_nil, or_false] at hq
    rcases hq with rfl
    · have hst2 : eW E 0 0 L' f' 0 [(0, .ref (μ 0)), (1, .int (Int32.ofInt (0 + (1 * ν 0 + 0))))] [] := ?_
      · exact hst2
      try simp only [Int.zero_add, Int.one_mul, Int.add_zero]
      exact k0 K' B' L' f'   h1 h2 (h3.1 0) (h3.1 1) (h3.1 2) (h3.2.2.2.1 0 200 rfl) (by simpa only [xv, xvT, Int.zero_add, Int.one_mul, Int.add_zero] using (mokF h1 (show (zkd 200).1 = 1 by decide) (j := 17) rfl (by decide) (h3.2.2.2.2.1 _ (List.mem_of_getElem? (i := 0) rfl)))) (by simpa only [xv, xvT, Int.zero_add, Int.one_mul, Int.add_zero] using (mokA h1 (show (zkd 205).1 = 2 by decide) (by decide) (h3.2.2.2.2.1 _ (List.mem_of_getElem? (i := 1) rfl))))

/-! on0: from 0 to [7] -/
def w_on0 : TP := ([(0, (2, 0, (0, [])))], [], ([], [], [], [200], [], [], []), [], [])
def u_on0 : List (Nat × TP × EX × Nat × Nat) := [(7, ([(0, (2, 0, (0, []))), (1, (0, 0, (0, [(1, 0)])))], [], ([((-1), 159)], [], [], [200], [((200, (17, [])), (1, [(1, 0)]))], [], []), [(0, 1, (0, []))], []), ((-1), []), 0, 0)]
def D_on0 : DT := (mkD iX12_openNow fX12 lX12 kX12 kkX12 412 [] (w_on0, [], [], 2, 0, 0, 3) false 2 u_on0)
theorem k_on0 : chkS D_on0 4000 0 0 0 = true := by decide +kernel
theorem s_on0 {X0 : zC0} {E : zCx} (H : ∀ j, j < 412 → CMj X0 j) (hE : zOk E X0 RX12 cX12_openNow 2 (zrm 2 0 0)) {K : Nat → Nat} {B : Int} {L : List Nat} {f : Nat → va_E} (hh : hok X0.2.2.1 K B L f) {r0 : Nat} (hr0 : r0 ∈ L ∧ K r0 = 200) (k7 : ∀ (K' : Nat → Nat) (B' : Int) (L' : List Nat) (f' : Nat → va_E) (v0 : Int), hok X0.2.2.1 K' B' L' f' → extC [] K B L f K' B' L' f' → ((-1) ≤ v0 ∧ v0 ≤ 159) → (r0 ∈ L' ∧ K' r0 = 200) → (∀ b ∈ L', K' b = 200 → gi (f' b) 17 = (1 + v0)) → eW E 0 0 L' f' 7 [(0, .ref r0), (1, .int (Int32.ofInt v0))] []) : eW E 0 0 L f 0 [(0, .ref r0)] [] := by
  obtain ⟨l0, D0, cy0, ax0⟩ := X0
  have hraw : eW E 0 0 L f 0 [(0, .ref r0)] [] := ?_
  · simpa only [Int.zero_add, Int.one_mul, Int.add_zero] using hraw
  refine seg_ok (D := D_on0) (νi := fun i => [].getD i 0) (μi := fun i => [r0].getD i 0) k_on0 hE (mk_ok (ins := iX12_openNow) jX12_openNow fX12_ok lX12_ok kX12_ok kkX12_ok H) (by decide) rfl rfl rfl rfl hh ?_ ?_
  · refine ⟨(eok_of (fun i q hq => by cases hq) (fun i _ => rfl)), fa0, fa0, ?_, fa0, fa0, fa0⟩
    · intro i k hk
      match i, hk with
      | 0, hk => cases hk; exact hr0
      | i + 1, hk => cases hk
  · intro q hq hst K' B' L' f' ν μ h1 h2 h3 h4 h5
    have d0 : μ 0 = r0 := h5 0 (by decide)
    subst d0
    replace hq : q ∈ u_on0 := hq
    unfold u_on0 at hq
    simp only [List.mem_cons, List.not_mem_nil, or_false] at hq
    rcases hq with rfl
    · have hst2 : eW E 0 0 L' f' 7 [(0, .ref (μ 0)), (1, .int (Int32.ofInt (0 + (1 * ν 0 + 0))))] [] := ?_
      · exact hst2
      try simp only [Int.zero_add, Int.one_mul, Int.add_zero]
      exact k7 K' B' L' f' (ν 0)  h1 h2 (h3.1 0) (h3.2.2.2.1 0 200 rfl) (by simpa only [xv, xvT, Int.zero_add, Int.one_mul, Int.add_zero] using (mokF h1 (show (zkd 200).1 = 1 by decide) (j := 17) rfl (by decide) (h3.2.2.2.2.1 _ (List.mem_of_getElem? (i := 0) rfl))))

/-! on7a: from 7 to [28] -/
def w_on7a : TP := ([(0, (2, 0, (0, []))), (1, (0, 0, ((-1), [])))], [], ([], [], [], [200], [], [], []), [], [])
def u_on7a : List (Nat × TP × EX × Nat × Nat) := [(28, ([(0, (2, 0, (0, []))), (1, (0, 0, ((-1), [])))], [], ([], [], [], [200], [], [], []), [], []), ((-1), []), 0, 0)]
def D_on7a : DT := (mkD iX12_openNow fX12 lX12 kX12 kkX12 412 [] (w_on7a, [], [], 2, 0, 0, 3) false 2 u_on7a)
theorem k_on7a : chkS D_on7a 4000 0 0 7 = true := by decide +kernel
theorem s_on7a {X0 : zC0} {E : zCx} (H : ∀ j, j < 412 → CMj X0 j) (hE : zOk E X0 RX12 cX12_openNow 2 (zrm 2 0 0)) {K : Nat → Nat} {B : Int} {L : List Nat} {f : Nat → va_E} (hh : hok X0.2.2.1 K B L f) {r0 : Nat} (hr0 : r0 ∈ L ∧ K r0 = 200) (k28 : ∀ (K' : Nat → Nat) (B' : Int) (L' : List Nat) (f' : Nat → va_E), hok X0.2.2.1 K' B' L' f' → extC [] K B L f K' B' L' f' → (r0 ∈ L' ∧ K' r0 = 200) → eW E 0 0 L' f' 28 [(0, .ref r0), (1, .int (Int32.ofInt (-1)))] []) : eW E 0 0 L f 7 [(0, .ref r0), (1, .int (Int32.ofInt (-1)))] [] := by
  obtain ⟨l0, D0, cy0, ax0⟩ := X0
  have hraw : eW E 0 0 L f 7 [(0, .ref r0), (1, .int (Int32.ofInt ((-1) + 0)))] [] := ?_
  · simpa only [Int.zero_add, Int.one_mul, Int.add_zero] using hraw
  refine seg_ok (D := D_on7a) (νi := fun i => [].getD i 0) (μi := fun i => [r0].getD i 0) k_on7a hE (mk_ok (ins := iX12_openNow) jX12_openNow fX12_ok lX12_ok kX12_ok kkX12_ok H) (by decide) rfl rfl rfl rfl hh ?_ ?_
  · refine ⟨(eok_of (fun i q hq => by cases hq) (fun i _ => rfl)), fa0, fa0, ?_, fa0, fa0, fa0⟩
    · intro i k hk
      match i, hk with
      | 0, hk => cases hk; exact hr0
      | i + 1, hk => cases hk
  · intro q hq hst K' B' L' f' ν μ h1 h2 h3 h4 h5
    have d0 : μ 0 = r0 := h5 0 (by decide)
    subst d0
    replace hq : q ∈ u_on7a := hq
    unfold u_on7a at hq
    simp only [List.mem_cons, List.not_mem_nil, or_false] at hq
    rcases hq with rfl
    · have hst2 : eW E 0 0 L' f' 28 [(0, .ref (μ 0)), (1, .int (Int32.ofInt ((-1) + 0)))] [] := ?_
      · exact hst2
      try simp only [Int.zero_add, Int.one_mul, Int.add_zero]
      exact k28 K' B' L' f'   h1 h2 (h3.2.2.2.1 0 200 rfl)

/-! on7b: from 7 to [22, 28] -/
def w_on7b : TP := ([(0, (2, 0, (0, []))), (1, (0, 0, (0, [(1, 0)])))], [], ([(0, 159)], [], [], [200], [], [], []), [], [])
def u_on7b : List (Nat × TP × EX × Nat × Nat) := [(22, ([(0, (2, 0, (0, []))), (1, (0, 0, (0, [(1, 0)])))], [], ([(0, 159), ((-2147483648), 39)], [], [], [200], [((205, (0, [(1, 0)])), (0, [(1, 1)]))], [], []), [(2, 205, (0, [(1, 0)]))], []), ((-1), []), 0, 0), (28, ([(0, (2, 0, (0, []))), (1, (0, 0, (0, [(1, 0)])))], [], ([(0, 159), (40, 2147483647)], [], [], [200], [((205, (0, [(1, 0)])), (0, [(1, 1)]))], [], []), [(2, 205, (0, [(1, 0)]))], []), ((-1), []), 0, 0)]
def D_on7b : DT := (mkD iX12_openNow fX12 lX12 kX12 kkX12 412 [] (w_on7b, [], [], 2, 0, 0, 3) false 2 u_on7b)
theorem k_on7b : chkS D_on7b 4000 0 0 7 = true := by decide +kernel
theorem s_on7b {X0 : zC0} {E : zCx} (H : ∀ j, j < 412 → CMj X0 j) (hE : zOk E X0 RX12 cX12_openNow 2 (zrm 2 0 0)) {K : Nat → Nat} {B : Int} {L : List Nat} {f : Nat → va_E} (hh : hok X0.2.2.1 K B L f) {v0 : Int} {r0 : Nat} (hb0 : 0 ≤ v0 ∧ v0 ≤ 159) (hr0 : r0 ∈ L ∧ K r0 = 200) (k22 : ∀ (K' : Nat → Nat) (B' : Int) (L' : List Nat) (f' : Nat → va_E) (v1 : Int), hok X0.2.2.1 K' B' L' f' → extC [] K B L f K' B' L' f' → (0 ≤ v0 ∧ v0 ≤ 159) → ((-2147483648) ≤ v1 ∧ v1 ≤ 39) → (r0 ∈ L' ∧ K' r0 = 200) → (∀ b ∈ L', K' b = 205 → (0 : Int) ≤ v0 ∧ gi (f' b) ((v0 : Int)).toNat = v1) → eW E 0 0 L' f' 22 [(0, .ref r0), (1, .int (Int32.ofInt v0))] []) (k28 : ∀ (K' : Nat → Nat) (B' : Int) (L' : List Nat) (f' : Nat → va_E) (v1 : Int), hok X0.2.2.1 K' B' L' f' → extC [] K B L f K' B' L' f' → (0 ≤ v0 ∧ v0 ≤ 159) → (40 ≤ v1 ∧ v1 ≤ 2147483647) → (r0 ∈ L' ∧ K' r0 = 200) → (∀ b ∈ L', K' b = 205 → (0 : Int) ≤ v0 ∧ gi (f' b) ((v0 : Int)).toNat = v1) → eW E 0 0 L' f' 28 [(0, .ref r0), (1, .int (Int32.ofInt v0))] []) : eW E 0 0 L f 7 [(0, .ref r0), (1, .int (Int32.ofInt v0))] [] := by
  obtain ⟨l0, D0, cy0, ax0⟩ := X0
  have hraw : eW E 0 0 L f 7 [(0, .ref r0), (1, .int (Int32.ofInt (0 + (1 * v0 + 0))))] [] := ?_
  · simpa only [Int.zero_add, Int.one_mul, Int.add_zero] using hraw
  refine seg_ok (D := D_on7b) (νi := fun i => [v0].getD i 0) (μi := fun i => [r0].getD i 0) k_on7b hE (mk_ok (ins := iX12_openNow) jX12_openNow fX12_ok lX12_ok kX12_ok kkX12_ok H) (by decide) rfl rfl rfl rfl hh ?_ ?_
  · refine ⟨(eok_of (fun i q hq => ?_) (fun i hi => ?_)), fa0, fa0, ?_, fa0, fa0, fa0⟩
    · match i, hq with
      | 0, hq => cases hq; exact hb0
      | i + 1, hq => cases hq
    · match i, hi with
      | 0, hi => exact absurd hi (by decide)
      | i + 1, _ => rfl
    · intro i k hk
      match i, hk with
      | 0, hk => cases hk; exact hr0
      | i + 1, hk => cases hk
  · intro q hq hst K' B' L' f' ν μ h1 h2 h3 h4 h5
    have e0 : ν 0 = v0 := h4 0 (by decide)
    have d0 : μ 0 = r0 := h5 0 (by decide)
    subst e0
    subst d0
    replace hq : q ∈ u_on7b := hq
    unfold u_on7b at hq
    simp only [List.mem_cons, List.not_mem_nil, or_false] at hq
    rcases hq with rfl | rfl
    · have hst2 : eW E 0 0 L' f' 22 [(0, .ref (μ 0)), (1, .int (Int32.ofInt (0 + (1 * ν 0 + 0))))] [] := ?_
      · exact hst2
      try simp only [Int.zero_add, Int.one_mul, Int.add_zero]
      exact k22 K' B' L' f' (ν 1)  h1 h2 (h3.1 0) (h3.1 1) (h3.2.2.2.1 0 200 rfl) (by simpa only [xv, xvT, Int.zero_add, Int.one_mul, Int.add_zero] using (mokA h1 (show (zkd 205).1 = 2 by decide) (by decide) (h3.2.2.2.2.1 _ (List.mem_of_getElem? (i := 0) rfl))))
    · have hst2 : eW E 0 0 L' f' 28 [(0, .ref (μ 0)), (1, .int (Int32.ofInt (0 + (1 * ν 0 + 0))))] [] := ?_
      · exact hst2
      try simp only [Int.zero_add, Int.one_mul, Int.add_zero]
      exact k28 K' B' L' f' (ν 1)  h1 h2 (h3.1 0) (h3.1 1) (h3.2.2.2.1 0 200 rfl) (by simpa only [xv, xvT, Int.zero_add, Int.one_mul, Int.add_zero] using (mokA h1 (show (zkd 205).1 = 2 by decide) (by decide) (h3.2.2.2.2.1 _ (List.mem_of_getElem? (i := 0) rfl))))

/-! on22: from 22 to [7] -/
def w_on22 : TP := ([(0, (2, 0, (0, []))), (1, (0, 0, (0, [(1, 0)])))], [], ([(0, 159)], [], [], [200], [], [], []), [], [])
def u_on22 : List (Nat × TP × EX × Nat × Nat) := [(7, ([(0, (2, 0, (0, []))), (1, (0, 0, ((-1), [(1, 0)])))], [], ([(0, 159)], [], [], [200], [], [], []), [], []), ((-1), []), 0, 0)]
def D_on22 : DT := (mkD iX12_openNow fX12 lX12 kX12 kkX12 412 [] (w_on22, [], [], 2, 0, 0, 3) false 2 u_on22)
theorem k_on22 : chkS D_on22 4000 0 0 22 = true := by decide +kernel
theorem s_on22 {X0 : zC0} {E : zCx} (H : ∀ j, j < 412 → CMj X0 j) (hE : zOk E X0 RX12 cX12_openNow 2 (zrm 2 0 0)) {K : Nat → Nat} {B : Int} {L : List Nat} {f : Nat → va_E} (hh : hok X0.2.2.1 K B L f) {v0 : Int} {r0 : Nat} (hb0 : 0 ≤ v0 ∧ v0 ≤ 159) (hr0 : r0 ∈ L ∧ K r0 = 200) (k7 : ∀ (K' : Nat → Nat) (B' : Int) (L' : List Nat) (f' : Nat → va_E), hok X0.2.2.1 K' B' L' f' → extC [] K B L f K' B' L' f' → (0 ≤ v0 ∧ v0 ≤ 159) → (r0 ∈ L' ∧ K' r0 = 200) → eW E 0 0 L' f' 7 [(0, .ref r0), (1, .int (Int32.ofInt ((-1) + v0)))] []) : eW E 0 0 L f 22 [(0, .ref r0), (1, .int (Int32.ofInt v0))] [] := by
  obtain ⟨l0, D0, cy0, ax0⟩ := X0
  have hraw : eW E 0 0 L f 22 [(0, .ref r0), (1, .int (Int32.ofInt (0 + (1 * v0 + 0))))] [] := ?_
  · simpa only [Int.zero_add, Int.one_mul, Int.add_zero] using hraw
  refine seg_ok (D := D_on22) (νi := fun i => [v0].getD i 0) (μi := fun i => [r0].getD i 0) k_on22 hE (mk_ok (ins := iX12_openNow) jX12_openNow fX12_ok lX12_ok kX12_ok kkX12_ok H) (by decide) rfl rfl rfl rfl hh ?_ ?_
  · refine ⟨(eok_of (fun i q hq => ?_) (fun i hi => ?_)), fa0, fa0, ?_, fa0, fa0, fa0⟩
    · match i, hq with
      | 0, hq => cases hq; exact hb0
      | i + 1, hq => cases hq
    · match i, hi with
      | 0, hi => exact absurd hi (by decide)
      | i + 1, _ => rfl
    · intro i k hk
      match i, hk with
      | 0, hk => cases hk; exact hr0
      | i + 1, hk => cases hk
  · intro q hq hst K' B' L' f' ν μ h1 h2 h3 h4 h5
    have e0 : ν 0 = v0 := h4 0 (by decide)
    have d0 : μ 0 = r0 := h5 0 (by decide)
    subst e0
    subst d0
    replace hq : q ∈ u_on22 := hq
    unfold u_on22 at hq
    simp only [List.mem_cons, List.not_mem_nil, or_false] at hq
    rcases hq with rfl
    · have hst2 : eW E 0 0 L' f' 7 [(0, .ref (μ 0)), (1, .int (Int32.ofInt ((-1) + (1 * ν 0 + 0))))] [] := ?_
      · exact hst2
      try simp only [Int.zero_add, Int.one_mul, Int.add_zero]
      exact k7 K' B' L' f'   h1 h2 (h3.1 0) (h3.2.2.2.1 0 200 rfl)

/-! on28a: from 28 to [42] -/
def w_on28a : TP := ([(0, (2, 0, (0, []))), (1, (0, 0, ((-1), [])))], [], ([], [], [], [200], [], [], []), [], [])
def u_on28a : List (Nat × TP × EX × Nat × Nat) := [(42, ([(0, (2, 0, (0, []))), (1, (0, 0, ((-1), [])))], [(0, 0, ((-1), []))], ([], [], [], [200], [], [], []), [], []), ((-1), []), 0, 0)]
def D_on28a : DT := (mkD iX12_openNow fX12 lX12 kX12 kkX12 412 [] (w_on28a, [], [], 2, 0, 0, 3) false 2 u_on28a)
theorem k_on28a : chkS D_on28a 4000 0 0 28 = true := by decide +kernel
theorem s_on28a {X0 : zC0} {E : zCx} (H : ∀ j, j < 412 → CMj X0 j) (hE : zOk E X0 RX12 cX12_openNow 2 (zrm 2 0 0)) {K : Nat → Nat} {B : Int} {L : List Nat} {f : Nat → va_E} (hh : hok X0.2.2.1 K B L f) {r0 : Nat} (hr0 : r0 ∈ L ∧ K r0 = 200) (k42 : ∀ (K' : Nat → Nat) (B' : Int) (L' : List Nat) (f' : Nat → va_E), hok X0.2.2.1 K' B' L' f' → extC [] K B L f K' B' L' f' → (r0 ∈ L' ∧ K' r0 = 200) → eW E 0 0 L' f' 42 [(0, .ref r0), (1, .int (Int32.ofInt (-1)))] [.int (Int32.ofInt (-1))]) : eW E 0 0 L f 28 [(0, .ref r0), (1, .int (Int32.ofInt (-1)))] [] := by
  obtain ⟨l0, D0, cy0, ax0⟩ := X0
  have hraw : eW E 0 0 L f 28 [(0, .ref r0), (1, .int (Int32.ofInt ((-1) + 0)))] [] := ?_
  · simpa only [Int.zero_add, Int.one_mul, Int.add_zero] using hraw
  refine seg_ok (D := D_on28a) (νi := fun i => [].getD i 0) (μi := fun i => [r0].getD i 0) k_on28a hE (mk_ok (ins := iX12_openNow) jX12_openNow fX12_ok lX12_ok kX12_ok kkX12_ok H) (by decide) rfl rfl rfl rfl hh ?_ ?_
  · refine ⟨(eok_of (fun i q hq => by cases hq) (fun i _ => rfl)), fa0, fa0, ?_, fa0, fa0, fa0⟩
    · intro i k hk
      match i, hk with
      | 0, hk => cases hk; exact hr0
      | i + 1, hk => cases hk
  · intro q hq hst K' B' L' f' ν μ h1 h2 h3 h4 h5
    have d0 : μ 0 = r0 := h5 0 (by decide)
    subst d0
    replace hq : q ∈ u_on28a := hq
    unfold u_on28a at hq
    simp only [List.mem_cons, List.not_mem_nil, or_false] at hq
    rcases hq with rfl
    · have hst2 : eW E 0 0 L' f' 42 [(0, .ref (μ 0)), (1, .int (Int32.ofInt ((-1) + 0)))] [.int (Int32.ofInt ((-1) + 0))] := ?_
      · exact hst2
      try simp only [Int.zero_add, Int.one_mul, Int.add_zero]
      exact k42 K' B' L' f'   h1 h2 (h3.2.2.2.1 0 200 rfl)

/-! on28b: from 28 to [42] -/
def w_on28b : TP := ([(0, (2, 0, (0, []))), (1, (0, 0, (0, [(1, 0)])))], [], ([(0, 159)], [], [], [200], [], [], []), [], [])
def u_on28b : List (Nat × TP × EX × Nat × Nat) := [(42, ([(0, (2, 0, (0, []))), (1, (0, 0, (0, [(1, 0)])))], [(0, 0, (0, [(1, 1)]))], ([(0, 159), ((-2147483648), 2147483647)], [], [], [200], [((205, (0, [(1, 0)])), (0, [(1, 1)]))], [], []), [(1, 0, (0, []))], []), ((-1), []), 0, 0)]
def D_on28b : DT := (mkD iX12_openNow fX12 lX12 kX12 kkX12 412 [] (w_on28b, [], [], 2, 0, 0, 3) false 2 u_on28b)
theorem k_on28b : chkS D_on28b 4000 0 0 28 = true := by decide +kernel
theorem s_on28b {X0 : zC0} {E : zCx} (H : ∀ j, j < 412 → CMj X0 j) (hE : zOk E X0 RX12 cX12_openNow 2 (zrm 2 0 0)) {K : Nat → Nat} {B : Int} {L : List Nat} {f : Nat → va_E} (hh : hok X0.2.2.1 K B L f) {v0 : Int} {r0 : Nat} (hb0 : 0 ≤ v0 ∧ v0 ≤ 159) (hr0 : r0 ∈ L ∧ K r0 = 200) (k42 : ∀ (K' : Nat → Nat) (B' : Int) (L' : List Nat) (f' : Nat → va_E) (v1 : Int), hok X0.2.2.1 K' B' L' f' → extC [] K B L f K' B' L' f' → (0 ≤ v0 ∧ v0 ≤ 159) → ((-2147483648) ≤ v1 ∧ v1 ≤ 2147483647) → (r0 ∈ L' ∧ K' r0 = 200) → (∀ b ∈ L', K' b = 205 → (0 : Int) ≤ v0 ∧ gi (f' b) ((v0 : Int)).toNat = v1) → eW E 0 0 L' f' 42 [(0, .ref r0), (1, .int (Int32.ofInt v0))] [.int (Int32.ofInt v1)]) : eW E 0 0 L f 28 [(0, .ref r0), (1, .int (Int32.ofInt v0))] [] := by
  obtain ⟨l0, D0, cy0, ax0⟩ := X0
  have hraw : eW E 0 0 L f 28 [(0, .ref r0), (1, .int (Int32.ofInt (0 + (1 * v0 + 0))))] [] := ?_
  · simpa only [Int.zero_add, Int.one_mul, Int.add_zero] using hraw
  refine seg_ok (D := D_on28b) (νi := fun i => [v0].getD i 0) (μi := fun i => [r0].getD i 0) k_on28b hE (mk_ok (ins := iX12_openNow) jX12_openNow fX12_ok lX12_ok kX12_ok kkX12_ok H) (by decide) rfl rfl rfl rfl hh ?_ ?_
  · refine ⟨(eok_of (fun i q hq => ?_) (fun i hi => ?_)), fa0, fa0, ?_, fa0, fa0, fa0⟩
    · match i, hq with
      | 0, hq => cases hq; exact hb0
      | i + 1, hq => cases hq
    · match i, hi with
      | 0, hi => exact absurd hi (by decide)
      | i + 1, _ => rfl
    · intro i k hk
      match i, hk with
      | 0, hk => cases hk; exact hr0
      | i + 1, hk => cases hk
  · intro q hq hst K' B' L' f' ν μ h1 h2 h3 h4 h5
    have e0 : ν 0 = v0 := h4 0 (by decide)
    have d0 : μ 0 = r0 := h5 0 (by decide)
    subst e0
    subst d0
    replace hq : q ∈ u_on28b := hq
    unfold u_on28b at hq
    simp only [List.mem_cons, List.not_mem_nil, or_false] at hq
    rcases hq with rfl
    · have hst2 : eW E 0 0 L' f' 42 [(0, .ref (μ 0)), (1, .int (Int32.ofInt (0 + (1 * ν 0 + 0))))] [.int (Int32.ofInt (0 + (1 * ν 1 + 0)))] := ?_
      · exact hst2
      try simp only [Int.zero_add, Int.one_mul, Int.add_zero]
      exact k42 K' B' L' f' (ν 1)  h1 h2 (h3.1 0) (h3.1 1) (h3.2.2.2.1 0 200 rfl) (by simpa only [xv, xvT, Int.zero_add, Int.one_mul, Int.add_zero] using (mokA h1 (show (zkd 205).1 = 2 by decide) (by decide) (h3.2.2.2.2.1 _ (List.mem_of_getElem? (i := 0) rfl))))

/-! ic0: from 0 to [7] -/
def w_ic0 : TP := ([(0, (2, 0, (0, [])))], [], ([], [], [], [200], [], [], []), [], [])
def u_ic0 : List (Nat × TP × EX × Nat × Nat) := [(7, ([(0, (2, 0, (0, []))), (1, (0, 0, (0, [(1, 0)])))], [], ([((-1), 159)], [], [], [200], [((200, (17, [])), (1, [(1, 0)]))], [], []), [(0, 1, (0, []))], []), ((-1), []), 0, 0)]
def D_ic0 : DT := (mkD iX12_isCompared fX12 lX12 kX12 kkX12 412 [] (w_ic0, [], [], 3, 0, 0, 3) false 2 u_ic0)
theorem k_ic0 : chkS D_ic0 4000 0 0 0 = true := by decide +kernel
theorem s_ic0 {X0 : zC0} {E : zCx} (H : ∀ j, j < 412 → CMj X0 j) (hE : zOk E X0 RX12 cX12_isCompared 2 (zrm 3 0 0)) {K : Nat → Nat} {B : Int} {L : List Nat} {f : Nat → va_E} (hh : hok X0.2.2.1 K B L f) {r0 : Nat} (hr0 : r0 ∈ L ∧ K r0 = 200) (k7 : ∀ (K' : Nat → Nat) (B' : Int) (L' : List Nat) (f' : Nat → va_E) (v0 : Int), hok X0.2.2.1 K' B' L' f' → extC [] K B L f K' B' L' f' → ((-1) ≤ v0 ∧ v0 ≤ 159) → (r0 ∈ L' ∧ K' r0 = 200) → (∀ b ∈ L', K' b = 200 → gi (f' b) 17 = (1 + v0)) → eW E 0 0 L' f' 7 [(0, .ref r0), (1, .int (Int32.ofInt v0))] []) : eW E 0 0 L f 0 [(0, .ref r0)] [] := by
  obtain ⟨l0, D0, cy0, ax0⟩ := X0
  have hraw : eW E 0 0 L f 0 [(0, .ref r0)] [] := ?_
  · simpa only [Int.zero_add, Int.one_mul, Int.add_zero] using hraw
  refine seg_ok (D := D_ic0) (νi := fun i => [].getD i 0) (μi := fun i => [r0].getD i 0) k_ic0 hE (mk_ok (ins := iX12_isCompared) jX12_isCompared fX12_ok lX12_ok kX12_ok kkX12_ok H) (by decide) rfl rfl rfl rfl hh ?_ ?_
  · refine ⟨(eok_of (fun i q hq => by cases hq) (fun i _ => rfl)), fa0, fa0, ?_, fa0, fa0, fa0⟩
    · intro i k hk
      match i, hk with
      | 0, hk => cases hk; exact hr0
      | i + 1, hk => cases hk
  · intro q hq hst K' B' L' f' ν μ h1 h2 h3 h4 h5
    have d0 : μ 0 = r0 := h5 0 (by decide)
    subst d0
    replace hq : q ∈ u_ic0 := hq
    unfold u_ic0 at hq
    simp only [List.mem_cons, List.not_mem_nil, or_false] at hq
    rcases hq with rfl
    · have hst2 : eW E 0 0 L' f' 7 [(0, .ref (μ 0)), (1, .int (Int32.ofInt (0 + (1 * ν 0 + 0))))] [] := ?_
      · exact hst2
      try simp only [Int.zero_add, Int.one_mul, Int.add_zero]
      exact k7 K' B' L' f' (ν 0)  h1 h2 (h3.1 0) (h3.2.2.2.1 0 200 rfl) (by simpa only [xv, xvT, Int.zero_add, Int.one_mul, Int.add_zero] using (mokF h1 (show (zkd 200).1 = 1 by decide) (j := 17) rfl (by decide) (h3.2.2.2.2.1 _ (List.mem_of_getElem? (i := 0) rfl))))

/-! ic7a: from 7 to [52] -/
def w_ic7a : TP := ([(0, (2, 0, (0, []))), (1, (0, 0, ((-1), [])))], [], ([], [], [], [200], [], [], []), [], [])
def u_ic7a : List (Nat × TP × EX × Nat × Nat) := [(52, ([(0, (2, 0, (0, []))), (1, (0, 0, ((-1), [])))], [(0, 0, (0, []))], ([], [], [], [200], [], [], []), [], []), ((-1), []), 0, 0)]
def D_ic7a : DT := (mkD iX12_isCompared fX12 lX12 kX12 kkX12 412 [] (w_ic7a, [], [], 3, 0, 0, 3) false 2 u_ic7a)
theorem k_ic7a : chkS D_ic7a 4000 0 0 7 = true := by decide +kernel
theorem s_ic7a {X0 : zC0} {E : zCx} (H : ∀ j, j < 412 → CMj X0 j) (hE : zOk E X0 RX12 cX12_isCompared 2 (zrm 3 0 0)) {K : Nat → Nat} {B : Int} {L : List Nat} {f : Nat → va_E} (hh : hok X0.2.2.1 K B L f) {r0 : Nat} (hr0 : r0 ∈ L ∧ K r0 = 200) (k52 : ∀ (K' : Nat → Nat) (B' : Int) (L' : List Nat) (f' : Nat → va_E), hok X0.2.2.1 K' B' L' f' → extC [] K B L f K' B' L' f' → (r0 ∈ L' ∧ K' r0 = 200) → eW E 0 0 L' f' 52 [(0, .ref r0), (1, .int (Int32.ofInt (-1)))] [.int (Int32.ofInt 0)]) : eW E 0 0 L f 7 [(0, .ref r0), (1, .int (Int32.ofInt (-1)))] [] := by
  obtain ⟨l0, D0, cy0, ax0⟩ := X0
  have hraw : eW E 0 0 L f 7 [(0, .ref r0), (1, .int (Int32.ofInt ((-1) + 0)))] [] := ?_
  · simpa only [Int.zero_add, Int.one_mul, Int.add_zero] using hraw
  refine seg_ok (D := D_ic7a) (νi := fun i => [].getD i 0) (μi := fun i => [r0].getD i 0) k_ic7a hE (mk_ok (ins := iX12_isCompared) jX12_isCompared fX12_ok lX12_ok kX12_ok kkX12_ok H) (by decide) rfl rfl rfl rfl hh ?_ ?_
  · refine ⟨(eok_of (fun i q hq => by cases hq) (fun i _ => rfl)), fa0, fa0, ?_, fa0, fa0, fa0⟩
    · intro i k hk
      match i, hk with
      | 0, hk => cases hk; exact hr0
      | i + 1, hk => cases hk
  · intro q hq hst K' B' L' f' ν μ h1 h2 h3 h4 h5
    have d0 : μ 0 = r0 := h5 0 (by decide)
    subst d0
    replace hq : q ∈ u_ic7a := hq
    unfold u_ic7a at hq
    simp only [List.mem_cons, List.not_mem_nil, or_false] at hq
    rcases hq with rfl
    · have hst2 : eW E 0 0 L' f' 52 [(0, .ref (μ 0)), (1, .int (Int32.ofInt ((-1) + 0)))] [.int (Int32.ofInt (0 + 0))] := ?_
      · exact hst2
      try simp only [Int.zero_add, Int.one_mul, Int.add_zero]
      exact k52 K' B' L' f'   h1 h2 (h3.2.2.2.1 0 200 rfl)

/-! ic7b: from 7 to [17] -/
def w_ic7b : TP := ([(0, (2, 0, (0, []))), (1, (0, 0, (0, [(1, 0)])))], [], ([(0, 159)], [], [], [200], [], [], []), [], [])
def u_ic7b : List (Nat × TP × EX × Nat × Nat) := [(17, ([(0, (2, 0, (0, []))), (1, (0, 0, (0, [(1, 0)])))], [(0, 0, (0, [(1, 1)]))], ([(0, 159), ((-2147483648), 2147483647)], [], [], [200], [((205, (0, [(1, 0)])), (0, [(1, 1)]))], [], []), [(1, 0, (0, []))], []), ((-1), []), 0, 0)]
def D_ic7b : DT := (mkD iX12_isCompared fX12 lX12 kX12 kkX12 412 [] (w_ic7b, [], [], 3, 0, 0, 3) false 2 u_ic7b)
theorem k_ic7b : chkS D_ic7b 4000 0 0 7 = true := by decide +kernel
theorem s_ic7b {X0 : zC0} {E : zCx} (H : ∀ j, j < 412 → CMj X0 j) (hE : zOk E X0 RX12 cX12_isCompared 2 (zrm 3 0 0)) {K : Nat → Nat} {B : Int} {L : List Nat} {f : Nat → va_E} (hh : hok X0.2.2.1 K B L f) {v0 : Int} {r0 : Nat} (hb0 : 0 ≤ v0 ∧ v0 ≤ 159) (hr0 : r0 ∈ L ∧ K r0 = 200) (k17 : ∀ (K' : Nat → Nat) (B' : Int) (L' : List Nat) (f' : Nat → va_E) (v1 : Int), hok X0.2.2.1 K' B' L' f' → extC [] K B L f K' B' L' f' → (0 ≤ v0 ∧ v0 ≤ 159) → ((-2147483648) ≤ v1 ∧ v1 ≤ 2147483647) → (r0 ∈ L' ∧ K' r0 = 200) → (∀ b ∈ L', K' b = 205 → (0 : Int) ≤ v0 ∧ gi (f' b) ((v0 : Int)).toNat = v1) → eW E 0 0 L' f' 17 [(0, .ref r0), (1, .int (Int32.ofInt v0))] [.int (Int32.ofInt v1)]) : eW E 0 0 L f 7 [(0, .ref r0), (1, .int (Int32.ofInt v0))] [] := by
  obtain ⟨l0, D0, cy0, ax0⟩ := X0
  have hraw : eW E 0 0 L f 7 [(0, .ref r0), (1, .int (Int32.ofInt (0 + (1 * v0 + 0))))] [] := ?_
  · simpa only [Int.zero_add, Int.one_mul, Int.add_zero] using hraw
  refine seg_ok (D := D_ic7b) (νi := fun i => [v0].getD i 0) (μi := fun i => [r0].getD i 0) k_ic7b hE (mk_ok (ins := iX12_isCompared) jX12_isCompared fX12_ok lX12_ok kX12_ok kkX12_ok H) (by decide) rfl rfl rfl rfl hh ?_ ?_
  · refine ⟨(eok_of (fun i q hq => ?_) (fun i hi => ?_)), fa0, fa0, ?_, fa0, fa0, fa0⟩
    · match i, hq with
      | 0, hq => cases hq; exact hb0
      | i + 1, hq => cases hq
    · match i, hi with
      | 0, hi => exact absurd hi (by decide)
      | i + 1, _ => rfl
    · intro i k hk
      match i, hk with
      | 0, hk => cases hk; exact hr0
      | i + 1, hk => cases hk
  · intro q hq hst K' B' L' f' ν μ h1 h2 h3 h4 h5
    have e0 : ν 0 = v0 := h4 0 (by decide)
    have d0 : μ 0 = r0 := h5 0 (by decide)
    subst e0
    subst d0
    replace hq : q ∈ u_ic7b := hq
    unfold u_ic7b at hq
    simp only [List.mem_cons, List.not_mem_nil, or_false] at hq
    rcases hq with rfl
    · have hst2 : eW E 0 0 L' f' 17 [(0, .ref (μ 0)), (1, .int (Int32.ofInt (0 + (1 * ν 0 + 0))))] [.int (Int32.ofInt (0 + (1 * ν 1 + 0)))] := ?_
      · exact hst2
      try simp only [Int.zero_add, Int.one_mul, Int.add_zero]
      exact k17 K' B' L' f' (ν 1)  h1 h2 (h3.1 0) (h3.1 1) (h3.2.2.2.1 0 200 rfl) (by simpa only [xv, xvT, Int.zero_add, Int.one_mul, Int.add_zero] using (mokA h1 (show (zkd 205).1 = 2 by decide) (by decide) (h3.2.2.2.2.1 _ (List.mem_of_getElem? (i := 0) rfl))))

/-! ic20: from 20 to [24, 30] -/
def w_ic20 : TP := ([(0, (2, 0, (0, []))), (1, (0, 0, (0, [(1, 0)])))], [(0, 0, (0, [(1, 1)]))], ([(0, 159), (0, 7)], [], [], [200], [], [], []), [], [])
def u_ic20 : List (Nat × TP × EX × Nat × Nat) := [(24, ([(0, (2, 0, (0, []))), (1, (0, 0, (0, [(1, 0)])))], [], ([(0, 159), (5, 7)], [], [], [200], [], [], []), [], []), ((-1), []), 0, 0), (30, ([(0, (2, 0, (0, []))), (1, (0, 0, (0, [(1, 0)])))], [], ([(0, 159), (0, 4)], [], [], [200], [], [], []), [], []), ((-1), []), 0, 0)]
def D_ic20 : DT := (mkD iX12_isCompared fX12 lX12 kX12 kkX12 412 [] (w_ic20, [], [], 3, 0, 0, 3) false 2 u_ic20)
theorem k_ic20 : chkS D_ic20 4000 0 0 20 = true := by decide +kernel
theorem s_ic20 {X0 : zC0} {E : zCx} (H : ∀ j, j < 412 → CMj X0 j) (hE : zOk E X0 RX12 cX12_isCompared 2 (zrm 3 0 0)) {K : Nat → Nat} {B : Int} {L : List Nat} {f : Nat → va_E} (hh : hok X0.2.2.1 K B L f) {v0 v1 : Int} {r0 : Nat} (hb0 : 0 ≤ v0 ∧ v0 ≤ 159) (hb1 : 0 ≤ v1 ∧ v1 ≤ 7) (hr0 : r0 ∈ L ∧ K r0 = 200) (k24 : ∀ (K' : Nat → Nat) (B' : Int) (L' : List Nat) (f' : Nat → va_E), hok X0.2.2.1 K' B' L' f' → extC [] K B L f K' B' L' f' → (0 ≤ v0 ∧ v0 ≤ 159) → (5 ≤ v1 ∧ v1 ≤ 7) → (r0 ∈ L' ∧ K' r0 = 200) → eW E 0 0 L' f' 24 [(0, .ref r0), (1, .int (Int32.ofInt v0))] []) (k30 : ∀ (K' : Nat → Nat) (B' : Int) (L' : List Nat) (f' : Nat → va_E), hok X0.2.2.1 K' B' L' f' → extC [] K B L f K' B' L' f' → (0 ≤ v0 ∧ v0 ≤ 159) → (0 ≤ v1 ∧ v1 ≤ 4) → (r0 ∈ L' ∧ K' r0 = 200) → eW E 0 0 L' f' 30 [(0, .ref r0), (1, .int (Int32.ofInt v0))] []) : eW E 0 0 L f 20 [(0, .ref r0), (1, .int (Int32.ofInt v0))] [.int (Int32.ofInt v1)] := by
  obtain ⟨l0, D0, cy0, ax0⟩ := X0
  have hraw : eW E 0 0 L f 20 [(0, .ref r0), (1, .int (Int32.ofInt (0 + (1 * v0 + 0))))] [.int (Int32.ofInt (0 + (1 * v1 + 0)))] := ?_
  · simpa only [Int.zero_add, Int.one_mul, Int.add_zero] using hraw
  refine seg_ok (D := D_ic20) (νi := fun i => [v0, v1].getD i 0) (μi := fun i => [r0].getD i 0) k_ic20 hE (mk_ok (ins := iX12_isCompared) jX12_isCompared fX12_ok lX12_ok kX12_ok kkX12_ok H) (by decide) rfl rfl rfl rfl hh ?_ ?_
  · refine ⟨(eok_of (fun i q hq => ?_) (fun i hi => ?_)), fa0, fa0, ?_, fa0, fa0, fa0⟩
    · match i, hq with
      | 0, hq => cases hq; exact hb0
      | 1, hq => cases hq; exact hb1
      | i + 2, hq => cases hq
    · match i, hi with
      | 0, hi => exact absurd hi (by decide)
      | 1, hi => exact absurd hi (by decide)
      | i + 2, _ => rfl
    · intro i k hk
      match i, hk with
      | 0, hk => cases hk; exact hr0
      | i + 1, hk => cases hk
  · intro q hq hst K' B' L' f' ν μ h1 h2 h3 h4 h5
    have e0 : ν 0 = v0 := h4 0 (by decide)
    have e1 : ν 1 = v1 := h4 1 (by decide)
    have d0 : μ 0 = r0 := h5 0 (by decide)
    subst e0
    subst e1
    subst d0
    replace hq : q ∈ u_ic20 := hq
    unfold u_ic20 at hq
    simp only [List.mem_cons, List.not_mem_nil, or_false] at hq
    rcases hq with rfl | rfl
    · have hst2 : eW E 0 0 L' f' 24 [(0, .ref (μ 0)), (1, .int (Int32.ofInt (0 + (1 * ν 0 + 0))))] [] := ?_
      · exact hst2
      try simp only [Int.zero_add, Int.one_mul, Int.add_zero]
      exact k24 K' B' L' f'   h1 h2 (h3.1 0) (h3.1 1) (h3.2.2.2.1 0 200 rfl)
    · have hst2 : eW E 0 0 L' f' 30 [(0, .ref (μ 0)), (1, .int (Int32.ofInt (0 + (1 * ν 0 + 0))))] [] := ?_
      · exact hst2
      try simp only [Int.zero_add, Int.one_mul, Int.add_zero]
      exact k30 K' B' L' f'   h1 h2 (h3.1 0) (h3.1 1) (h3.2.2.2.1 0 200 rfl)

/-! ic24: from 24 to [7] -/
def w_ic24 : TP := ([(0, (2, 0, (0, []))), (1, (0, 0, (0, [(1, 0)])))], [], ([(0, 159)], [], [], [200], [], [], []), [], [])
def u_ic24 : List (Nat × TP × EX × Nat × Nat) := [(7, ([(0, (2, 0, (0, []))), (1, (0, 0, ((-1), [(1, 0)])))], [], ([(0, 159)], [], [], [200], [], [], []), [], []), ((-1), []), 0, 0)]
def D_ic24 : DT := (mkD iX12_isCompared fX12 lX12 kX12 kkX12 412 [] (w_ic24, [], [], 3, 0, 0, 3) false 2 u_ic24)
theorem k_ic24 : chkS D_ic24 4000 0 0 24 = true := by decide +kernel
theorem s_ic24 {X0 : zC0} {E : zCx} (H : ∀ j, j < 412 → CMj X0 j) (hE : zOk E X0 RX12 cX12_isCompared 2 (zrm 3 0 0)) {K : Nat → Nat} {B : Int} {L : List Nat} {f : Nat → va_E} (hh : hok X0.2.2.1 K B L f) {v0 : Int} {r0 : Nat} (hb0 : 0 ≤ v0 ∧ v0 ≤ 159) (hr0 : r0 ∈ L ∧ K r0 = 200) (k7 : ∀ (K' : Nat → Nat) (B' : Int) (L' : List Nat) (f' : Nat → va_E), hok X0.2.2.1 K' B' L' f' → extC [] K B L f K' B' L' f' → (0 ≤ v0 ∧ v0 ≤ 159) → (r0 ∈ L' ∧ K' r0 = 200) → eW E 0 0 L' f' 7 [(0, .ref r0), (1, .int (Int32.ofInt ((-1) + v0)))] []) : eW E 0 0 L f 24 [(0, .ref r0), (1, .int (Int32.ofInt v0))] [] := by
  obtain ⟨l0, D0, cy0, ax0⟩ := X0
  have hraw : eW E 0 0 L f 24 [(0, .ref r0), (1, .int (Int32.ofInt (0 + (1 * v0 + 0))))] [] := ?_
  · simpa only [Int.zero_add, Int.one_mul, Int.add_zero] using hraw
  refine seg_ok (D := D_ic24) (νi := fun i => [v0].getD i 0) (μi := fun i => [r0].getD i 0) k_ic24 hE (mk_ok (ins := iX12_isCompared) jX12_isCompared fX12_ok lX12_ok kX12_ok kkX12_ok H) (by decide) rfl rfl rfl rfl hh ?_ ?_
  · refine ⟨(eok_of (fun i q hq => ?_) (fun i hi => ?_)), fa0, fa0, ?_, fa0, fa0, fa0⟩
    · match i, hq with
      | 0, hq => cases hq; exact hb0
      | i + 1, hq => cases hq
    · match i, hi with
      | 0, hi => exact absurd hi (by decide)
      | i + 1, _ => rfl
    · intro i k hk
      match i, hk with
      | 0, hk => cases hk; exact hr0
      | i + 1, hk => cases hk
  · intro q hq hst K' B' L' f' ν μ h1 h2 h3 h4 h5
    have e0 : ν 0 = v0 := h4 0 (by decide)
    have d0 : μ 0 = r0 := h5 0 (by decide)
    subst e0
    subst d0
    replace hq : q ∈ u_ic24 := hq
    unfold u_ic24 at hq
    simp only [List.mem_cons, List.not_mem_nil, or_false] at hq
    rcases hq with rfl
    · have hst2 : eW E 0 0 L' f' 7 [(0, .ref (μ 0)), (1, .int (Int32.ofInt ((-1) + (1 * ν 0 + 0))))] [] := ?_
      · exact hst2
      try simp only [Int.zero_add, Int.one_mul, Int.add_zero]
      exact k7 K' B' L' f'   h1 h2 (h3.1 0) (h3.2.2.2.1 0 200 rfl)

/-! ic30: from 30 to [40] -/
def w_ic30 : TP := ([(0, (2, 0, (0, []))), (1, (0, 0, (0, [(1, 0)])))], [], ([(0, 159)], [], [], [200], [], [], []), [], [])
def u_ic30 : List (Nat × TP × EX × Nat × Nat) := [(40, ([(0, (2, 0, (0, []))), (1, (0, 0, (0, [(1, 0)])))], [(0, 0, (0, [(1, 1)]))], ([(0, 159), ((-2147483648), 2147483647)], [], [], [200], [((205, (0, [(1, 0)])), (0, [(1, 1)]))], [], []), [(1, 0, (0, []))], []), ((-1), []), 0, 0)]
def D_ic30 : DT := (mkD iX12_isCompared fX12 lX12 kX12 kkX12 412 [] (w_ic30, [], [], 3, 0, 0, 3) false 2 u_ic30)
theorem k_ic30 : chkS D_ic30 4000 0 0 30 = true := by decide +kernel
theorem s_ic30 {X0 : zC0} {E : zCx} (H : ∀ j, j < 412 → CMj X0 j) (hE : zOk E X0 RX12 cX12_isCompared 2 (zrm 3 0 0)) {K : Nat → Nat} {B : Int} {L : List Nat} {f : Nat → va_E} (hh : hok X0.2.2.1 K B L f) {v0 : Int} {r0 : Nat} (hb0 : 0 ≤ v0 ∧ v0 ≤ 159) (hr0 : r0 ∈ L ∧ K r0 = 200) (k40 : ∀ (K' : Nat → Nat) (B' : Int) (L' : List Nat) (f' : Nat → va_E) (v1 : Int), hok X0.2.2.1 K' B' L' f' → extC [] K B L f K' B' L' f' → (0 ≤ v0 ∧ v0 ≤ 159) → ((-2147483648) ≤ v1 ∧ v1 ≤ 2147483647) → (r0 ∈ L' ∧ K' r0 = 200) → (∀ b ∈ L', K' b = 205 → (0 : Int) ≤ v0 ∧ gi (f' b) ((v0 : Int)).toNat = v1) → eW E 0 0 L' f' 40 [(0, .ref r0), (1, .int (Int32.ofInt v0))] [.int (Int32.ofInt v1)]) : eW E 0 0 L f 30 [(0, .ref r0), (1, .int (Int32.ofInt v0))] [] := by
  obtain ⟨l0, D0, cy0, ax0⟩ := X0
  have hraw : eW E 0 0 L f 30 [(0, .ref r0), (1, .int (Int32.ofInt (0 + (1 * v0 + 0))))] [] := ?_
  · simpa only [Int.zero_add, Int.one_mul, Int.add_zero] using hraw
  refine seg_ok (D := D_ic30) (νi := fun i => [v0].getD i 0) (μi := fun i => [r0].getD i 0) k_ic30 hE (mk_ok (ins := iX12_isCompared) jX12_isCompared fX12_ok lX12_ok kX12_ok kkX12_ok H) (by decide) rfl rfl rfl rfl hh ?_ ?_
  · refine ⟨(eok_of (fun i q hq => ?_) (fun i hi => ?_)), fa0, fa0, ?_, fa0, fa0, fa0⟩
    · match i, hq with
      | 0, hq => cases hq; exact hb0
      | i + 1, hq => cases hq
    · match i, hi with
      | 0, hi => exact absurd hi (by decide)
      | i + 1, _ => rfl
    · intro i k hk
      match i, hk with
      | 0, hk => cases hk; exact hr0
      | i + 1, hk => cases hk
  · intro q hq hst K' B' L' f' ν μ h1 h2 h3 h4 h5
    have e0 : ν 0 = v0 := h4 0 (by decide)
    have d0 : μ 0 = r0 := h5 0 (by decide)
    subst e0
    subst d0
    replace hq : q ∈ u_ic30 := hq
    unfold u_ic30 at hq
    simp only [List.mem_cons, List.not_mem_nil, or_false] at hq
    rcases hq with rfl
    · have hst2 : eW E 0 0 L' f' 40 [(0, .ref (μ 0)), (1, .int (Int32.ofInt (0 + (1 * ν 0 + 0))))] [.int (Int32.ofInt (0 + (1 * ν 1 + 0)))] := ?_
      · exact hst2
      try simp only [Int.zero_add, Int.one_mul, Int.add_zero]
      exact k40 K' B' L' f' (ν 1)  h1 h2 (h3.1 0) (h3.1 1) (h3.2.2.2.1 0 200 rfl) (by simpa only [xv, xvT, Int.zero_add, Int.one_mul, Int.add_zero] using (mokA h1 (show (zkd 205).1 = 2 by decide) (by decide) (h3.2.2.2.2.1 _ (List.mem_of_getElem? (i := 0) rfl))))

/-! ic43a: from 43 to [47] -/
def w_ic43a : TP := ([(0, (2, 0, (0, []))), (1, (0, 0, (0, [(1, 0)])))], [(0, 0, (4, []))], ([(0, 159)], [], [], [200], [], [], []), [], [])
def u_ic43a : List (Nat × TP × EX × Nat × Nat) := [(47, ([(0, (2, 0, (0, []))), (1, (0, 0, (0, [(1, 0)])))], [], ([(0, 159)], [], [], [200], [], [], []), [], []), ((-1), []), 0, 0)]
def D_ic43a : DT := (mkD iX12_isCompared fX12 lX12 kX12 kkX12 412 [] (w_ic43a, [], [], 3, 0, 0, 3) false 2 u_ic43a)
theorem k_ic43a : chkS D_ic43a 4000 0 0 43 = true := by decide +kernel
theorem s_ic43a {X0 : zC0} {E : zCx} (H : ∀ j, j < 412 → CMj X0 j) (hE : zOk E X0 RX12 cX12_isCompared 2 (zrm 3 0 0)) {K : Nat → Nat} {B : Int} {L : List Nat} {f : Nat → va_E} (hh : hok X0.2.2.1 K B L f) {v0 : Int} {r0 : Nat} (hb0 : 0 ≤ v0 ∧ v0 ≤ 159) (hr0 : r0 ∈ L ∧ K r0 = 200) (k47 : ∀ (K' : Nat → Nat) (B' : Int) (L' : List Nat) (f' : Nat → va_E), hok X0.2.2.1 K' B' L' f' → extC [] K B L f K' B' L' f' → (0 ≤ v0 ∧ v0 ≤ 159) → (r0 ∈ L' ∧ K' r0 = 200) → eW E 0 0 L' f' 47 [(0, .ref r0), (1, .int (Int32.ofInt v0))] []) : eW E 0 0 L f 43 [(0, .ref r0), (1, .int (Int32.ofInt v0))] [.int (Int32.ofInt 4)] := by
  obtain ⟨l0, D0, cy0, ax0⟩ := X0
  have hraw : eW E 0 0 L f 43 [(0, .ref r0), (1, .int (Int32.ofInt (0 + (1 * v0 + 0))))] [.int (Int32.ofInt (4 + 0))] := ?_
  · simpa only [Int.zero_add, Int.one_mul, Int.add_zero] using hraw
  refine seg_ok (D := D_ic43a) (νi := fun i => [v0].getD i 0) (μi := fun i => [r0].getD i 0) k_ic43a hE (mk_ok (ins := iX12_isCompared) jX12_isCompared fX12_ok lX12_ok kX12_ok kkX12_ok H) (by decide) rfl rfl rfl rfl hh ?_ ?_
  · refine ⟨(eok_of (fun i q hq => ?_) (fun i hi => ?_)), fa0, fa0, ?_, fa0, fa0, fa0⟩
    · match i, hq with
      | 0, hq => cases hq; exact hb0
      | i + 1, hq => cases hq
    · match i, hi with
      | 0, hi => exact absurd hi (by decide)
      | i + 1, _ => rfl
    · intro i k hk
      match i, hk with
      | 0, hk => cases hk; exact hr0
      | i + 1, hk => cases hk
  · intro q hq hst K' B' L' f' ν μ h1 h2 h3 h4 h5
    have e0 : ν 0 = v0 := h4 0 (by decide)
    have d0 : μ 0 = r0 := h5 0 (by decide)
    subst e0
    subst d0
    replace hq : q ∈ u_ic43a := hq
    unfold u_ic43a at hq
    simp only [List.mem_cons, List.not_mem_nil, or_false] at hq
    rcases hq with rfl
    · have hst2 : eW E 0 0 L' f' 47 [(0, .ref (μ 0)), (1, .int (Int32.ofInt (0 + (1 * ν 0 + 0))))] [] := ?_
      · exact hst2
      try simp only [Int.zero_add, Int.one_mul, Int.add_zero]
      exact k47 K' B' L' f'   h1 h2 (h3.1 0) (h3.2.2.2.1 0 200 rfl)

/-! ic43b: from 43 to [51] -/
def w_ic43b : TP := ([(0, (2, 0, (0, []))), (1, (0, 0, (0, [(1, 0)])))], [(0, 0, (0, [(1, 1)]))], ([(0, 159), (0, 3)], [], [], [200], [], [], []), [], [])
def u_ic43b : List (Nat × TP × EX × Nat × Nat) := [(51, ([(0, (2, 0, (0, []))), (1, (0, 0, (0, [(1, 0)])))], [], ([(0, 159), (0, 3)], [], [], [200], [], [], []), [], []), ((-1), []), 0, 0)]
def D_ic43b : DT := (mkD iX12_isCompared fX12 lX12 kX12 kkX12 412 [] (w_ic43b, [], [], 3, 0, 0, 3) false 2 u_ic43b)
theorem k_ic43b : chkS D_ic43b 4000 0 0 43 = true := by decide +kernel
theorem s_ic43b {X0 : zC0} {E : zCx} (H : ∀ j, j < 412 → CMj X0 j) (hE : zOk E X0 RX12 cX12_isCompared 2 (zrm 3 0 0)) {K : Nat → Nat} {B : Int} {L : List Nat} {f : Nat → va_E} (hh : hok X0.2.2.1 K B L f) {v0 v1 : Int} {r0 : Nat} (hb0 : 0 ≤ v0 ∧ v0 ≤ 159) (hb1 : 0 ≤ v1 ∧ v1 ≤ 3) (hr0 : r0 ∈ L ∧ K r0 = 200) (k51 : ∀ (K' : Nat → Nat) (B' : Int) (L' : List Nat) (f' : Nat → va_E), hok X0.2.2.1 K' B' L' f' → extC [] K B L f K' B' L' f' → (0 ≤ v0 ∧ v0 ≤ 159) → (0 ≤ v1 ∧ v1 ≤ 3) → (r0 ∈ L' ∧ K' r0 = 200) → eW E 0 0 L' f' 51 [(0, .ref r0), (1, .int (Int32.ofInt v0))] []) : eW E 0 0 L f 43 [(0, .ref r0), (1, .int (Int32.ofInt v0))] [.int (Int32.ofInt v1)] := by
  obtain ⟨l0, D0, cy0, ax0⟩ := X0
  have hraw : eW E 0 0 L f 43 [(0, .ref r0), (1, .int (Int32.ofInt (0 + (1 * v0 + 0))))] [.int (Int32.ofInt (0 + (1 * v1 + 0)))] := ?_
  · simpa only [Int.zero_add, Int.one_mul, Int.add_zero] using hraw
  refine seg_ok (D := D_ic43b) (νi := fun i => [v0, v1].getD i 0) (μi := fun i => [r0].getD i 0) k_ic43b hE (mk_ok (ins := iX12_isCompared) jX12_isCompared fX12_ok lX12_ok kX12_ok kkX12_ok H) (by decide) rfl rfl rfl rfl hh ?_ ?_
  · refine ⟨(eok_of (fun i q hq => ?_) (fun i hi => ?_)), fa0, fa0, ?_, fa0, fa0, fa0⟩
    · match i, hq with
      | 0, hq => cases hq; exact hb0
      | 1, hq => cases hq; exact hb1
      | i + 2, hq => cases hq
    · match i, hi with
      | 0, hi => exact absurd hi (by decide)
      | 1, hi => exact absurd hi (by decide)
      | i + 2, _ => rfl
    · intro i k hk
      match i, hk with
      | 0, hk => cases hk; exact hr0
      | i + 1, hk => cases hk
  · intro q hq hst K' B' L' f' ν μ h1 h2 h3 h4 h5
    have e0 : ν 0 = v0 := h4 0 (by decide)
    have e1 : ν 1 = v1 := h4 1 (by decide)
    have d0 : μ 0 = r0 := h5 0 (by decide)
    subst e0
    subst e1
    subst d0
    replace hq : q ∈ u_ic43b := hq
    unfold u_ic43b at hq
    simp only [List.mem_cons, List.not_mem_nil, or_false] at hq
    rcases hq with rfl
    · have hst2 : eW E 0 0 L' f' 51 [(0, .ref (μ 0)), (1, .int (Int32.ofInt (0 + (1 * ν 0 + 0))))] [] := ?_
      · exact hst2
      try simp only [Int.zero_add, Int.one_mul, Int.add_zero]
      exact k51 K' B' L' f'   h1 h2 (h3.1 0) (h3.1 1) (h3.2.2.2.1 0 200 rfl)

/-! ic47: from 47 to [52] -/
def w_ic47 : TP := ([(0, (2, 0, (0, []))), (1, (0, 0, (0, [(1, 0)])))], [], ([(0, 159)], [], [], [200], [], [], []), [], [])
def u_ic47 : List (Nat × TP × EX × Nat × Nat) := [(52, ([(0, (2, 0, (0, []))), (1, (0, 0, (0, [(1, 0)])))], [(0, 0, (1, []))], ([(0, 159)], [], [], [200], [], [], []), [], []), ((-1), []), 0, 0)]
def D_ic47 : DT := (mkD iX12_isCompared fX12 lX12 kX12 kkX12 412 [] (w_ic47, [], [], 3, 0, 0, 3) false 2 u_ic47)
theorem k_ic47 : chkS D_ic47 4000 0 0 47 = true := by decide +kernel
theorem s_ic47 {X0 : zC0} {E : zCx} (H : ∀ j, j < 412 → CMj X0 j) (hE : zOk E X0 RX12 cX12_isCompared 2 (zrm 3 0 0)) {K : Nat → Nat} {B : Int} {L : List Nat} {f : Nat → va_E} (hh : hok X0.2.2.1 K B L f) {v0 : Int} {r0 : Nat} (hb0 : 0 ≤ v0 ∧ v0 ≤ 159) (hr0 : r0 ∈ L ∧ K r0 = 200) (k52 : ∀ (K' : Nat → Nat) (B' : Int) (L' : List Nat) (f' : Nat → va_E), hok X0.2.2.1 K' B' L' f' → extC [] K B L f K' B' L' f' → (0 ≤ v0 ∧ v0 ≤ 159) → (r0 ∈ L' ∧ K' r0 = 200) → eW E 0 0 L' f' 52 [(0, .ref r0), (1, .int (Int32.ofInt v0))] [.int (Int32.ofInt 1)]) : eW E 0 0 L f 47 [(0, .ref r0), (1, .int (Int32.ofInt v0))] [] := by
  obtain ⟨l0, D0, cy0, ax0⟩ := X0
  have hraw : eW E 0 0 L f 47 [(0, .ref r0), (1, .int (Int32.ofInt (0 + (1 * v0 + 0))))] [] := ?_
  · simpa only [Int.zero_add, Int.one_mul, Int.add_zero] using hraw
  refine seg_ok (D := D_ic47) (νi := fun i => [v0].getD i 0) (μi := fun i => [r0].getD i 0) k_ic47 hE (mk_ok (ins := iX12_isCompared) jX12_isCompared fX12_ok lX12_ok kX12_ok kkX12_ok H) (by decide) rfl rfl rfl rfl hh ?_ ?_
  · refine ⟨(eok_of (fun i q hq => ?_) (fun i hi => ?_)), fa0, fa0, ?_, fa0, fa0, fa0⟩
    · match i, hq with
      | 0, hq => cases hq; exact hb0
      | i + 1, hq => cases hq
    · match i, hi with
      | 0, hi => exact absurd hi (by decide)
      | i + 1, _ => rfl
    · intro i k hk
      match i, hk with
      | 0, hk => cases hk; exact hr0
      | i + 1, hk => cases hk
  · intro q hq hst K' B' L' f' ν μ h1 h2 h3 h4 h5
    have e0 : ν 0 = v0 := h4 0 (by decide)
    have d0 : μ 0 = r0 := h5 0 (by decide)
    subst e0
    subst d0
    replace hq : q ∈ u_ic47 := hq
    unfold u_ic47 at hq
    simp only [List.mem_cons, List.not_mem_nil, or_false] at hq
    rcases hq with rfl
    · have hst2 : eW E 0 0 L' f' 52 [(0, .ref (μ 0)), (1, .int (Int32.ofInt (0 + (1 * ν 0 + 0))))] [.int (Int32.ofInt (1 + 0))] := ?_
      · exact hst2
      try simp only [Int.zero_add, Int.one_mul, Int.add_zero]
      exact k52 K' B' L' f'   h1 h2 (h3.1 0) (h3.2.2.2.1 0 200 rfl)

/-! ic51: from 51 to [52] -/
def w_ic51 : TP := ([(0, (2, 0, (0, []))), (1, (0, 0, (0, [(1, 0)])))], [], ([(0, 159)], [], [], [200], [], [], []), [], [])
def u_ic51 : List (Nat × TP × EX × Nat × Nat) := [(52, ([(0, (2, 0, (0, []))), (1, (0, 0, (0, [(1, 0)])))], [(0, 0, (0, []))], ([(0, 159)], [], [], [200], [], [], []), [], []), ((-1), []), 0, 0)]
def D_ic51 : DT := (mkD iX12_isCompared fX12 lX12 kX12 kkX12 412 [] (w_ic51, [], [], 3, 0, 0, 3) false 2 u_ic51)
theorem k_ic51 : chkS D_ic51 4000 0 0 51 = true := by decide +kernel
theorem s_ic51 {X0 : zC0} {E : zCx} (H : ∀ j, j < 412 → CMj X0 j) (hE : zOk E X0 RX12 cX12_isCompared 2 (zrm 3 0 0)) {K : Nat → Nat} {B : Int} {L : List Nat} {f : Nat → va_E} (hh : hok X0.2.2.1 K B L f) {v0 : Int} {r0 : Nat} (hb0 : 0 ≤ v0 ∧ v0 ≤ 159) (hr0 : r0 ∈ L ∧ K r0 = 200) (k52 : ∀ (K' : Nat → Nat) (B' : Int) (L' : List Nat) (f' : Nat → va_E), hok X0.2.2.1 K' B' L' f' → extC [] K B L f K' B' L' f' → (0 ≤ v0 ∧ v0 ≤ 159) → (r0 ∈ L' ∧ K' r0 = 200) → eW E 0 0 L' f' 52 [(0, .ref r0), (1, .int (Int32.ofInt v0))] [.int (Int32.ofInt 0)]) : eW E 0 0 L f 51 [(0, .ref r0), (1, .int (Int32.ofInt v0))] [] := by
  obtain ⟨l0, D0, cy0, ax0⟩ := X0
  have hraw : eW E 0 0 L f 51 [(0, .ref r0), (1, .int (Int32.ofInt (0 + (1 * v0 + 0))))] [] := ?_
  · simpa only [Int.zero_add, Int.one_mul, Int.add_zero] using hraw
  refine seg_ok (D := D_ic51) (νi := fun i => [v0].getD i 0) (μi := fun i => [r0].getD i 0) k_ic51 hE (mk_ok (ins := iX12_isCompared) jX12_isCompared fX12_ok lX12_ok kX12_ok kkX12_ok H) (by decide) rfl rfl rfl rfl hh ?_ ?_
  · refine ⟨(eok_of (fun i q hq => ?_) (fun i hi => ?_)), fa0, fa0, ?_, fa0, fa0, fa0⟩
    · match i, hq with
      | 0, hq => cases hq; exact hb0
      | i + 1, hq => cases hq
    · match i, hi with
      | 0, hi => exact absurd hi (by decide)
      | i + 1, _ => rfl
    · intro i k hk
      match i, hk with
      | 0, hk => cases hk; exact hr0
      | i + 1, hk => cases hk
  · intro q hq hst K' B' L' f' ν μ h1 h2 h3 h4 h5
    have e0 : ν 0 = v0 := h4 0 (by decide)
    have d0 : μ 0 = r0 := h5 0 (by decide)
    subst e0
    subst d0
    replace hq : q ∈ u_ic51 := hq
    unfold u_ic51 at hq
    simp only [List.mem_cons, List.not_mem_nil, or_false] at hq
    rcases hq with rfl
    · have hst2 : eW E 0 0 L' f' 52 [(0, .ref (μ 0)), (1, .int (Int32.ofInt (0 + (1 * ν 0 + 0))))] [.int (Int32.ofInt (0 + 0))] := ?_
      · exact hst2
      try simp only [Int.zero_add, Int.one_mul, Int.add_zero]
      exact k52 K' B' L' f'   h1 h2 (h3.1 0) (h3.2.2.2.1 0 200 rfl)

/-! ia0: from 0 to [1] -/
def w_ia0 : TP := ([(0, (2, 0, (0, [])))], [], ([], [], [], [200], [], [], []), [], [])
def u_ia0 : List (Nat × TP × EX × Nat × Nat) := [(1, ([(0, (2, 0, (0, [])))], [(2, 0, (0, []))], ([], [], [], [200], [], [], []), [], []), ((-1), []), 0, 0)]
def D_ia0 : DT := (mkD iX12_isAskAhead fX12 lX12 kX12 kkX12 412 [] (w_ia0, [], [], 4, 0, 0, 3) false 1 u_ia0)
theorem k_ia0 : chkS D_ia0 4000 0 0 0 = true := by decide +kernel
theorem s_ia0 {X0 : zC0} {E : zCx} (H : ∀ j, j < 412 → CMj X0 j) (hE : zOk E X0 RX12 cX12_isAskAhead 1 (zrm 4 0 0)) {K : Nat → Nat} {B : Int} {L : List Nat} {f : Nat → va_E} (hh : hok X0.2.2.1 K B L f) {r0 : Nat} (hr0 : r0 ∈ L ∧ K r0 = 200) (k1 : ∀ (K' : Nat → Nat) (B' : Int) (L' : List Nat) (f' : Nat → va_E), hok X0.2.2.1 K' B' L' f' → extC [] K B L f K' B' L' f' → (r0 ∈ L' ∧ K' r0 = 200) → eW E 0 0 L' f' 1 [(0, .ref r0)] [.ref r0]) : eW E 0 0 L f 0 [(0, .ref r0)] [] := by
  obtain ⟨l0, D0, cy0, ax0⟩ := X0
  have hraw : eW E 0 0 L f 0 [(0, .ref r0)] [] := ?_
  · simpa only [Int.zero_add, Int.one_mul, Int.add_zero] using hraw
  refine seg_ok (D := D_ia0) (νi := fun i => [].getD i 0) (μi := fun i => [r0].getD i 0) k_ia0 hE (mk_ok (ins := iX12_isAskAhead) jX12_isAskAhead fX12_ok lX12_ok kX12_ok kkX12_ok H) (by decide) rfl rfl rfl rfl hh ?_ ?_
  · refine ⟨(eok_of (fun i q hq => by cases hq) (fun i _ => rfl)), fa0, fa0, ?_, fa0, fa0, fa0⟩
    · intro i k hk
      match i, hk with
      | 0, hk => cases hk; exact hr0
      | i + 1, hk => cases hk
  · intro q hq hst K' B' L' f' ν μ h1 h2 h3 h4 h5
    have d0 : μ 0 = r0 := h5 0 (by decide)
    subst d0
    replace hq : q ∈ u_ia0 := hq
    unfold u_ia0 at hq
    simp only [List.mem_cons, List.not_mem_nil, or_false] at hq
    rcases hq with rfl
    · have hst2 : eW E 0 0 L' f' 1 [(0, .ref (μ 0))] [.ref (μ 0)] := ?_
      · exact hst2
      try simp only [Int.zero_add, Int.one_mul, Int.add_zero]
      exact k1 K' B' L' f'   h1 h2 (h3.2.2.2.1 0 200 rfl)

/-! ia4: from 4 to [9, 51] -/
def w_ia4 : TP := ([(0, (2, 0, (0, [])))], [(0, 0, (0, [(1, 0)]))], ([((-2147483648), 2147483647)], [], [], [200], [], [], []), [], [])
def u_ia4 : List (Nat × TP × EX × Nat × Nat) := [(9, ([(0, (2, 0, (0, [])))], [], ([(42, 42)], [], [], [200], [], [], []), [], []), ((-1), []), 0, 0), (51, ([(0, (2, 0, (0, [])))], [], ([((-2147483648), 2147483647)], [], [], [200], [], [], []), [], []), ((-1), []), 0, 0)]
def D_ia4 : DT := (mkD iX12_isAskAhead fX12 lX12 kX12 kkX12 412 [] (w_ia4, [], [], 4, 0, 0, 3) false 1 u_ia4)
theorem k_ia4 : chkS D_ia4 4000 0 0 4 = true := by decide +kernel
theorem s_ia4 {X0 : zC0} {E : zCx} (H : ∀ j, j < 412 → CMj X0 j) (hE : zOk E X0 RX12 cX12_isAskAhead 1 (zrm 4 0 0)) {K : Nat → Nat} {B : Int} {L : List Nat} {f : Nat → va_E} (hh : hok X0.2.2.1 K B L f) {v0 : Int} {r0 : Nat} (hb0 : (-2147483648) ≤ v0 ∧ v0 ≤ 2147483647) (hr0 : r0 ∈ L ∧ K r0 = 200) (k9 : ∀ (K' : Nat → Nat) (B' : Int) (L' : List Nat) (f' : Nat → va_E), hok X0.2.2.1 K' B' L' f' → extC [] K B L f K' B' L' f' → (42 ≤ v0 ∧ v0 ≤ 42) → (r0 ∈ L' ∧ K' r0 = 200) → eW E 0 0 L' f' 9 [(0, .ref r0)] []) (k51 : ∀ (K' : Nat → Nat) (B' : Int) (L' : List Nat) (f' : Nat → va_E), hok X0.2.2.1 K' B' L' f' → extC [] K B L f K' B' L' f' → ((-2147483648) ≤ v0 ∧ v0 ≤ 2147483647) → (r0 ∈ L' ∧ K' r0 = 200) → eW E 0 0 L' f' 51 [(0, .ref r0)] []) : eW E 0 0 L f 4 [(0, .ref r0)] [.int (Int32.ofInt v0)] := by
  obtain ⟨l0, D0, cy0, ax0⟩ := X0
  have hraw : eW E 0 0 L f 4 [(0, .ref r0)] [.int (Int32.ofInt (0 + (1 * v0 + 0)))] := ?_
  · simpa only [Int.zero_add, Int.one_mul, Int.add_zero] using hraw
  refine seg_ok (D := D_ia4) (νi := fun i => [v0].getD i 0) (μi := fun i => [r0].getD i 0) k_ia4 hE (mk_ok (ins := iX12_isAskAhead) jX12_isAskAhead fX12_ok lX12_ok kX12_ok kkX12_ok H) (by decide) rfl rfl rfl rfl hh ?_ ?_
  · refine ⟨(eok_of (fun i q hq => ?_) (fun i hi => ?_)), fa0, fa0, ?_, fa0, fa0, fa0⟩
    · match i, hq with
      | 0, hq => cases hq; exact hb0
      | i + 1, hq => cases hq
    · match i, hi with
      | 0, hi => exact absurd hi (by decide)
      | i + 1, _ => rfl
    · intro i k hk
      match i, hk with
      | 0, hk => cases hk; exact hr0
      | i + 1, hk => cases hk
  · intro q hq hst K' B' L' f' ν μ h1 h2 h3 h4 h5
    have e0 : ν 0 = v0 := h4 0 (by decide)
    have d0 : μ 0 = r0 := h5 0 (by decide)
    subst e0
    subst d0
    replace hq : q ∈ u_ia4 := hq
    unfold u_ia4 at hq
    simp only [List.mem_cons, List.not_mem_nil, or_false] at hq
    rcases hq with rfl | rfl
    · have hst2 : eW E 0 0 L' f' 9 [(0, .ref (μ 0))] [] := ?_
      · exact hst2
      try simp only [Int.zero_add, Int.one_mul, Int.add_zero]
      exact k9 K' B' L' f'   h1 h2 (h3.1 0) (h3.2.2.2.1 0 200 rfl)
    · have hst2 : eW E 0 0 L' f' 51 [(0, .ref (μ 0))] [] := ?_
      · exact hst2
      try simp only [Int.zero_add, Int.one_mul, Int.add_zero]
      exact k51 K' B' L' f'   h1 h2 (h3.1 0) (h3.2.2.2.1 0 200 rfl)

/-! ia9: from 9 to [36, 47] -/
def w_ia9 : TP := ([(0, (2, 0, (0, [])))], [], ([(1, 160)], [], [], [200], [((200, (17, [])), (0, [(1, 0)]))], [], []), [], [])
def u_ia9 : List (Nat × TP × EX × Nat × Nat) := [(36, ([(0, (2, 0, (0, [])))], [(0, 0, (0, [(1, 1)]))], ([(1, 160), ((-2147483648), 2147483647)], [], [], [200], [((205, ((-1), [(1, 0)])), (0, [(1, 1)])), ((200, (17, [])), (0, [(1, 0)]))], [], []), [(1, 0, (0, []))], []), ((-1), []), 0, 0), (47, ([(0, (2, 0, (0, [])))], [], ([(1, 160), (42, 42)], [], [], [200], [((205, ((-1), [(1, 0)])), (0, [(1, 1)])), ((200, (17, [])), (0, [(1, 0)]))], [], []), [(2, 205, ((-1), [(1, 0)]))], []), ((-1), []), 0, 0)]
def D_ia9 : DT := (mkD iX12_isAskAhead fX12 lX12 kX12 kkX12 412 [] (w_ia9, [], [], 4, 0, 0, 3) false 1 u_ia9)
theorem k_ia9 : chkS D_ia9 4000 0 0 9 = true := by decide +kernel
theorem s_ia9 {X0 : zC0} {E : zCx} (H : ∀ j, j < 412 → CMj X0 j) (hE : zOk E X0 RX12 cX12_isAskAhead 1 (zrm 4 0 0)) {K : Nat → Nat} {B : Int} {L : List Nat} {f : Nat → va_E} (hh : hok X0.2.2.1 K B L f) {v0 : Int} {r0 : Nat} (hb0 : 1 ≤ v0 ∧ v0 ≤ 160) (hr0 : r0 ∈ L ∧ K r0 = 200) (hm0 : (∀ b ∈ L, K b = 200 → gi (f b) 17 = v0)) (k36 : ∀ (K' : Nat → Nat) (B' : Int) (L' : List Nat) (f' : Nat → va_E) (v1 : Int), hok X0.2.2.1 K' B' L' f' → extC [] K B L f K' B' L' f' → (1 ≤ v0 ∧ v0 ≤ 160) → ((-2147483648) ≤ v1 ∧ v1 ≤ 2147483647) → (r0 ∈ L' ∧ K' r0 = 200) → (∀ b ∈ L', K' b = 205 → (0 : Int) ≤ ((-1) + v0) ∧ gi (f' b) ((((-1) + v0) : Int)).toNat = v1) → (∀ b ∈ L', K' b = 200 → gi (f' b) 17 = v0) → eW E 0 0 L' f' 36 [(0, .ref r0)] [.int (Int32.ofInt v1)]) (k47 : ∀ (K' : Nat → Nat) (B' : Int) (L' : List Nat) (f' : Nat → va_E) (v1 : Int), hok X0.2.2.1 K' B' L' f' → extC [] K B L f K' B' L' f' → (1 ≤ v0 ∧ v0 ≤ 160) → (42 ≤ v1 ∧ v1 ≤ 42) → (r0 ∈ L' ∧ K' r0 = 200) → (∀ b ∈ L', K' b = 205 → (0 : Int) ≤ ((-1) + v0) ∧ gi (f' b) ((((-1) + v0) : Int)).toNat = v1) → (∀ b ∈ L', K' b = 200 → gi (f' b) 17 = v0) → eW E 0 0 L' f' 47 [(0, .ref r0)] []) : eW E 0 0 L f 9 [(0, .ref r0)] [] := by
  obtain ⟨l0, D0, cy0, ax0⟩ := X0
  have hraw : eW E 0 0 L f 9 [(0, .ref r0)] [] := ?_
  · simpa only [Int.zero_add, Int.one_mul, Int.add_zero] using hraw
  have rm0 : (∀ b ∈ L, K b = 200 → gi (f b) 17 = (0 + (1 * v0 + 0))) := by simpa only [Int.zero_add, Int.one_mul, Int.add_zero] using hm0
  refine seg_ok (D := D_ia9) (νi := fun i => [v0].getD i 0) (μi := fun i => [r0].getD i 0) k_ia9 hE (mk_ok (ins := iX12_isAskAhead) jX12_isAskAhead fX12_ok lX12_ok kX12_ok kkX12_ok H) (by decide) rfl rfl rfl rfl hh ?_ ?_
  · refine ⟨(eok_of (fun i q hq => ?_) (fun i hi => ?_)), fa0, fa0, ?_, (fa_cons (Fmok hh (show (zkd 200).1 = 1 by decide) (j := 17) rfl (by decide) rm0) fa0), fa0, fa0⟩
    · match i, hq with
      | 0, hq => cases hq; exact hb0
      | i + 1, hq => cases hq
    · match i, hi with
      | 0, hi => exact absurd hi (by decide)
      | i + 1, _ => rfl
    · intro i k hk
      match i, hk with
      | 0, hk => cases hk; exact hr0
      | i + 1, hk => cases hk
  · intro q hq hst K' B' L' f' ν μ h1 h2 h3 h4 h5
    have e0 : ν 0 = v0 := h4 0 (by decide)
    have d0 : μ 0 = r0 := h5 0 (by decide)
    subst e0
    subst d0
    replace hq : q ∈ u_ia9 := hq
    unfold u_ia9 at hq
    simp only [List.mem_cons, List.not_mem_nil, or_false] at hq
    rcases hq with rfl | rfl
    · have hst2 : eW E 0 0 L' f' 36 [(0, .ref (μ 0))] [.int (Int32.ofInt (0 + (1 * ν 1 + 0)))] := ?_
      · exact hst2
      try simp only [Int.zero_add, Int.one_mul, Int.add_zero]
      exact k36 K' B' L' f' (ν 1)  h1 h2 (h3.1 0) (h3.1 1) (h3.2.2.2.1 0 200 rfl) (by simpa only [xv, xvT, Int.zero_add, Int.one_mul, Int.add_zero] using (mokA h1 (show (zkd 205).1 = 2 by decide) (by decide) (h3.2.2.2.2.1 _ (List.mem_of_getElem? (i := 0) rfl)))) (by simpa only [xv, xvT, Int.zero_add, Int.one_mul, Int.add_zero] using (mokF h1 (show (zkd 200).1 = 1 by decide) (j := 17) rfl (by decide) (h3.2.2.2.2.1 _ (List.mem_of_getElem? (i := 1) rfl))))
    · have hst2 : eW E 0 0 L' f' 47 [(0, .ref (μ 0))] [] := ?_
      · exact hst2
      try simp only [Int.zero_add, Int.one_mul, Int.add_zero]
      exact k47 K' B' L' f' (ν 1)  h1 h2 (h3.1 0) (h3.1 1) (h3.2.2.2.1 0 200 rfl) (by simpa only [xv, xvT, Int.zero_add, Int.one_mul, Int.add_zero] using (mokA h1 (show (zkd 205).1 = 2 by decide) (by decide) (h3.2.2.2.2.1 _ (List.mem_of_getElem? (i := 0) rfl)))) (by simpa only [xv, xvT, Int.zero_add, Int.one_mul, Int.add_zero] using (mokF h1 (show (zkd 200).1 = 1 by decide) (j := 17) rfl (by decide) (h3.2.2.2.2.1 _ (List.mem_of_getElem? (i := 1) rfl))))

/-! ia39: from 39 to [47, 51] -/
def w_ia39 : TP := ([(0, (2, 0, (0, [])))], [(0, 0, (0, [(1, 0)]))], ([(0, 7)], [], [], [200], [], [], []), [], [])
def u_ia39 : List (Nat × TP × EX × Nat × Nat) := [(47, ([(0, (2, 0, (0, [])))], [], ([(1, 3)], [], [], [200], [], [], []), [], []), ((-1), []), 0, 0), (51, ([(0, (2, 0, (0, [])))], [], ([(0, 7)], [], [], [200], [], [], []), [], []), ((-1), []), 0, 0)]
def D_ia39 : DT := (mkD iX12_isAskAhead fX12 lX12 kX12 kkX12 412 [(41, [290])] (w_ia39, [], [], 4, 0, 0, 3) false 1 u_ia39)
theorem k_ia39 : chkS D_ia39 4000 0 0 39 = true := by decide +kernel
theorem s_ia39 {X0 : zC0} {E : zCx} (H : ∀ j, j < 412 → CMj X0 j) (hE : zOk E X0 RX12 cX12_isAskAhead 1 (zrm 4 0 0)) {K : Nat → Nat} {B : Int} {L : List Nat} {f : Nat → va_E} (hh : hok X0.2.2.1 K B L f) {v0 : Int} {r0 : Nat} (hb0 : 0 ≤ v0 ∧ v0 ≤ 7) (hr0 : r0 ∈ L ∧ K r0 = 200) (k47 : ∀ (K' : Nat → Nat) (B' : Int) (L' : List Nat) (f' : Nat → va_E), hok X0.2.2.1 K' B' L' f' → extC [] K B L f K' B' L' f' → (1 ≤ v0 ∧ v0 ≤ 3) → (r0 ∈ L' ∧ K' r0 = 200) → eW E 0 0 L' f' 47 [(0, .ref r0)] []) (k51 : ∀ (K' : Nat → Nat) (B' : Int) (L' : List Nat) (f' : Nat → va_E), hok X0.2.2.1 K' B' L' f' → extC [] K B L f K' B' L' f' → (0 ≤ v0 ∧ v0 ≤ 7) → (r0 ∈ L' ∧ K' r0 = 200) → eW E 0 0 L' f' 51 [(0, .ref r0)] []) : eW E 0 0 L f 39 [(0, .ref r0)] [.int (Int32.ofInt v0)] := by
  obtain ⟨l0, D0, cy0, ax0⟩ := X0
  have hraw : eW E 0 0 L f 39 [(0, .ref r0)] [.int (Int32.ofInt (0 + (1 * v0 + 0)))] := ?_
  · simpa only [Int.zero_add, Int.one_mul, Int.add_zero] using hraw
  refine seg_ok (D := D_ia39) (νi := fun i => [v0].getD i 0) (μi := fun i => [r0].getD i 0) k_ia39 hE (mk_ok (ins := iX12_isAskAhead) jX12_isAskAhead fX12_ok lX12_ok kX12_ok kkX12_ok H) (by decide) rfl rfl rfl rfl hh ?_ ?_
  · refine ⟨(eok_of (fun i q hq => ?_) (fun i hi => ?_)), fa0, fa0, ?_, fa0, fa0, fa0⟩
    · match i, hq with
      | 0, hq => cases hq; exact hb0
      | i + 1, hq => cases hq
    · match i, hi with
      | 0, hi => exact absurd hi (by decide)
      | i + 1, _ => rfl
    · intro i k hk
      match i, hk with
      | 0, hk => cases hk; exact hr0
      | i + 1, hk => cases hk
  · intro q hq hst K' B' L' f' ν μ h1 h2 h3 h4 h5
    have e0 : ν 0 = v0 := h4 0 (by decide)
    have d0 : μ 0 = r0 := h5 0 (by decide)
    subst e0
    subst d0
    replace hq : q ∈ u_ia39 := hq
    unfold u_ia39 at hq
    simp only [List.mem_cons, List.not_mem_nil, or_false] at hq
    rcases hq with rfl | rfl
    · have hst2 : eW E 0 0 L' f' 47 [(0, .ref (μ 0))] [] := ?_
      · exact hst2
      try simp only [Int.zero_add, Int.one_mul, Int.add_zero]
      exact k47 K' B' L' f'   h1 h2 (h3.1 0) (h3.2.2.2.1 0 200 rfl)
    · have hst2 : eW E 0 0 L' f' 51 [(0, .ref (μ 0))] [] := ?_
      · exact hst2
      try simp only [Int.zero_add, Int.one_mul, Int.add_zero]
      exact k51 K' B' L' f'   h1 h2 (h3.1 0) (h3.2.2.2.1 0 200 rfl)

/-! ia47: from 47 to [52] -/
def w_ia47 : TP := ([(0, (2, 0, (0, [])))], [], ([], [], [], [200], [], [], []), [], [])
def u_ia47 : List (Nat × TP × EX × Nat × Nat) := [(52, ([(0, (2, 0, (0, [])))], [(0, 0, (1, []))], ([], [], [], [200], [], [], []), [], []), ((-1), []), 0, 0)]
def D_ia47 : DT := (mkD iX12_isAskAhead fX12 lX12 kX12 kkX12 412 [] (w_ia47, [], [], 4, 0, 0, 3) false 1 u_ia47)
theorem k_ia47 : chkS D_ia47 4000 0 0 47 = true := by decide +kernel
theorem s_ia47 {X0 : zC0} {E : zCx} (H : ∀ j, j < 412 → CMj X0 j) (hE : zOk E X0 RX12 cX12_isAskAhead 1 (zrm 4 0 0)) {K : Nat → Nat} {B : Int} {L : List Nat} {f : Nat → va_E} (hh : hok X0.2.2.1 K B L f) {r0 : Nat} (hr0 : r0 ∈ L ∧ K r0 = 200) (k52 : ∀ (K' : Nat → Nat) (B' : Int) (L' : List Nat) (f' : Nat → va_E), hok X0.2.2.1 K' B' L' f' → extC [] K B L f K' B' L' f' → (r0 ∈ L' ∧ K' r0 = 200) → eW E 0 0 L' f' 52 [(0, .ref r0)] [.int (Int32.ofInt 1)]) : eW E 0 0 L f 47 [(0, .ref r0)] [] := by
  obtain ⟨l0, D0, cy0, ax0⟩ := X0
  have hraw : eW E 0 0 L f 47 [(0, .ref r0)] [] := ?_
  · simpa only [Int.zero_add, Int.one_mul, Int.add_zero] using hraw
  refine seg_ok (D := D_ia47) (νi := fun i => [].getD i 0) (μi := fun i => [r0].getD i 0) k_ia47 hE (mk_ok (ins := iX12_isAskAhead) jX12_isAskAhead fX12_ok lX12_ok kX12_ok kkX12_ok H) (by decide) rfl rfl rfl rfl hh ?_ ?_
  · refine ⟨(eok_of (fun i q hq => by cases hq) (fun i _ => rfl)), fa0, fa0, ?_, fa0, fa0, fa0⟩
    · intro i k hk
      match i, hk with
      | 0, hk => cases hk; exact hr0
      | i + 1, hk => cases hk
  · intro q hq hst K' B' L' f' ν μ h1 h2 h3 h4 h5
    have d0 : μ 0 = r0 := h5 0 (by decide)
    subst d0
    replace hq : q ∈ u_ia47 := hq
    unfold u_ia47 at hq
    simp only [List.mem_cons, List.not_mem_nil, or_false] at hq
    rcases hq with rfl
    · have hst2 : eW E 0 0 L' f' 52 [(0, .ref (μ 0))] [.int (Int32.ofInt (1 + 0))] := ?_
      · exact hst2
      try simp only [Int.zero_add, Int.one_mul, Int.add_zero]
      exact k52 K' B' L' f'   h1 h2 (h3.2.2.2.1 0 200 rfl)

/-! ia51: from 51 to [52] -/
def w_ia51 : TP := ([(0, (2, 0, (0, [])))], [], ([], [], [], [200], [], [], []), [], [])
def u_ia51 : List (Nat × TP × EX × Nat × Nat) := [(52, ([(0, (2, 0, (0, [])))], [(0, 0, (0, []))], ([], [], [], [200], [], [], []), [], []), ((-1), []), 0, 0)]
def D_ia51 : DT := (mkD iX12_isAskAhead fX12 lX12 kX12 kkX12 412 [] (w_ia51, [], [], 4, 0, 0, 3) false 1 u_ia51)
theorem k_ia51 : chkS D_ia51 4000 0 0 51 = true := by decide +kernel
theorem s_ia51 {X0 : zC0} {E : zCx} (H : ∀ j, j < 412 → CMj X0 j) (hE : zOk E X0 RX12 cX12_isAskAhead 1 (zrm 4 0 0)) {K : Nat → Nat} {B : Int} {L : List Nat} {f : Nat → va_E} (hh : hok X0.2.2.1 K B L f) {r0 : Nat} (hr0 : r0 ∈ L ∧ K r0 = 200) (k52 : ∀ (K' : Nat → Nat) (B' : Int) (L' : List Nat) (f' : Nat → va_E), hok X0.2.2.1 K' B' L' f' → extC [] K B L f K' B' L' f' → (r0 ∈ L' ∧ K' r0 = 200) → eW E 0 0 L' f' 52 [(0, .ref r0)] [.int (Int32.ofInt 0)]) : eW E 0 0 L f 51 [(0, .ref r0)] [] := by
  obtain ⟨l0, D0, cy0, ax0⟩ := X0
  have hraw : eW E 0 0 L f 51 [(0, .ref r0)] [] := ?_
  · simpa only [Int.zero_add, Int.one_mul, Int.add_zero] using hraw
  refine seg_ok (D := D_ia51) (νi := fun i => [].getD i 0) (μi := fun i => [r0].getD i 0) k_ia51 hE (mk_ok (ins := iX12_isAskAhead) jX12_isAskAhead fX12_ok lX12_ok kX12_ok kkX12_ok H) (by decide) rfl rfl rfl rfl hh ?_ ?_
  · refine ⟨(eok_of (fun i q hq => by cases hq) (fun i _ => rfl)), fa0, fa0, ?_, fa0, fa0, fa0⟩
    · intro i k hk
      match i, hk with
      | 0, hk => cases hk; exact hr0
      | i + 1, hk => cases hk
  · intro q hq hst K' B' L' f' ν μ h1 h2 h3 h4 h5
    have d0 : μ 0 = r0 := h5 0 (by decide)
    subst d0
    replace hq : q ∈ u_ia51 := hq
    unfold u_ia51 at hq
    simp only [List.mem_cons, List.not_mem_nil, or_false] at hq
    rcases hq with rfl
    · have hst2 : eW E 0 0 L' f' 52 [(0, .ref (μ 0))] [.int (Int32.ofInt (0 + 0))] := ?_
      · exact hst2
      try simp only [Int.zero_add, Int.one_mul, Int.add_zero]
      exact k52 K' B' L' f'   h1 h2 (h3.2.2.2.1 0 200 rfl)

/-! op0a: from 0 to [10] -/
def w_op0a : TP := ([(0, (2, 0, (0, []))), (1, (0, 0, (0, [(1, 0)])))], [], ([(2, 42)], [], [], [200], [((200, (18, [])), (8, []))], [], []), [], [])
def u_op0a : List (Nat × TP × EX × Nat × Nat) := [(10, ([(0, (2, 0, (0, []))), (1, (0, 0, (0, [(1, 0)])))], [(0, 0, (3, []))], ([(2, 42)], [], [], [200], [((200, (18, [])), (8, []))], [], []), [], []), ((-1), []), 0, 0)]
def D_op0a : DT := (mkD iX12_opened fX12 lX12 kX12 kkX12 412 [] (w_op0a, [], [], 6, 0, 0, 3) false 2 u_op0a)
theorem k_op0a : chkS D_op0a 4000 0 0 0 = true := by decide +kernel
theorem s_op0a {X0 : zC0} {E : zCx} (H : ∀ j, j < 412 → CMj X0 j) (hE : zOk E X0 RX12 cX12_opened 2 (zrm 6 0 0)) {K : Nat → Nat} {B : Int} {L : List Nat} {f : Nat → va_E} (hh : hok X0.2.2.1 K B L f) {v0 : Int} {r0 : Nat} (hb0 : 2 ≤ v0 ∧ v0 ≤ 42) (hr0 : r0 ∈ L ∧ K r0 = 200) (hm0 : (∀ b ∈ L, K b = 200 → gi (f b) 18 = 8)) (k10 : ∀ (K' : Nat → Nat) (B' : Int) (L' : List Nat) (f' : Nat → va_E), hok X0.2.2.1 K' B' L' f' → extC [] K B L f K' B' L' f' → (2 ≤ v0 ∧ v0 ≤ 42) → (r0 ∈ L' ∧ K' r0 = 200) → (∀ b ∈ L', K' b = 200 → gi (f' b) 18 = 8) → eW E 0 0 L' f' 10 [(0, .ref r0), (1, .int (Int32.ofInt v0))] [.int (Int32.ofInt 3)]) : eW E 0 0 L f 0 [(0, .ref r0), (1, .int (Int32.ofInt v0))] [] := by
  obtain ⟨l0, D0, cy0, ax0⟩ := X0
  have hraw : eW E 0 0 L f 0 [(0, .ref r0), (1, .int (Int32.ofInt (0 + (1 * v0 + 0))))] [] := ?_
  · simpa only [Int.zero_add, Int.one_mul, Int.add_zero] using hraw
  have rm0 : (∀ b ∈ L, K b = 200 → gi (f b) 18 = (8 + 0)) := by simpa only [Int.zero_add, Int.one_mul, Int.add_zero] using hm0
  refine seg_ok (D := D_op0a) (νi := fun i => [v0].getD i 0) (μi := fun i => [r0].getD i 0) k_op0a hE (mk_ok (ins := iX12_opened) jX12_opened fX12_ok lX12_ok kX12_ok kkX12_ok H) (by decide) rfl rfl rfl rfl hh ?_ ?_
  · refine ⟨(eok_of (fun i q hq => ?_) (fun i hi => ?_)), fa0, fa0, ?_, (fa_cons (Fmok hh (show (zkd 200).1 = 1 by decide) (j := 18) rfl (by decide) rm0) fa0), fa0, fa0⟩
    · match i, hq with
      | 0, hq => cases hq; exact hb0
      | i + 1, hq => cases hq
    · match i, hi with
      | 0, hi => exact absurd hi (by decide)
      | i + 1, _ => rfl
    · intro i k hk
      match i, hk with
      | 0, hk => cases hk; exact hr0
      | i + 1, hk => cases hk
  · intro q hq hst K' B' L' f' ν μ h1 h2 h3 h4 h5
    have e0 : ν 0 = v0 := h4 0 (by decide)
    have d0 : μ 0 = r0 := h5 0 (by decide)
    subst e0
    subst d0
    replace hq : q ∈ u_op0a := hq
    unfold u_op0a at hq
    simp only [List.mem_cons, List.not_mem_nil, or_false] at hq
    rcases hq with rfl
    · have hst2 : eW E 0 0 L' f' 10 [(0, .ref (μ 0)), (1, .int (Int32.ofInt (0 + (1 * ν 0 + 0))))] [.int (Int32.ofInt (3 + 0))] := ?_
      · exact hst2
      try simp only [Int.zero_add, Int.one_mul, Int.add_zero]
      exact k10 K' B' L' f'   h1 h2 (h3.1 0) (h3.2.2.2.1 0 200 rfl) (by simpa only [xv, xvT, Int.zero_add, Int.one_mul, Int.add_zero] using (mokF h1 (show (zkd 200).1 = 1 by decide) (j := 18) rfl (by decide) (h3.2.2.2.2.1 _ (List.mem_of_getElem? (i := 0) rfl))))

/-! op0b: from 0 to [30] -/
def w_op0b : TP := ([(0, (2, 0, (0, []))), (1, (0, 0, (0, [(1, 0)])))], [], ([(2, 42), (0, 7)], [], [], [200], [((200, (18, [])), (0, [(1, 1)]))], [], []), [], [])
def u_op0b : List (Nat × TP × EX × Nat × Nat) := [(30, ([(0, (2, 0, (0, []))), (1, (0, 0, (0, [(1, 0)])))], [(0, 0, (0, [(1, 0)])), (0, 0, (0, [(1, 2)])), (2, 1, (0, []))], ([(2, 42), (0, 7), (0, 160)], [], [], [200, 205], [((200, (17, [])), (0, [(1, 2)])), ((200, (18, [])), (1, [(1, 1)]))], [], []), [(1, 1, (0, []))], [(1, 2)]), ((-1), []), 0, 0)]
def D_op0b : DT := (mkD iX12_opened fX12 lX12 kX12 kkX12 412 [] (w_op0b, [(200, 18)], [], 6, 0, 0, 3) false 2 u_op0b)
theorem k_op0b : chkS D_op0b 4000 0 0 0 = true := by decide +kernel
theorem s_op0b {X0 : zC0} {E : zCx} (H : ∀ j, j < 412 → CMj X0 j) (hE : zOk E X0 RX12 cX12_opened 2 (zrm 6 0 0)) {K : Nat → Nat} {B : Int} {L : List Nat} {f : Nat → va_E} (hh : hok X0.2.2.1 K B L f) {v0 v1 : Int} {r0 : Nat} (hb0 : 2 ≤ v0 ∧ v0 ≤ 42) (hb1 : 0 ≤ v1 ∧ v1 ≤ 7) (hr0 : r0 ∈ L ∧ K r0 = 200) (hm0 : (∀ b ∈ L, K b = 200 → gi (f b) 18 = v1)) (k30 : ∀ (K' : Nat → Nat) (B' : Int) (L' : List Nat) (f' : Nat → va_E) (v2 : Int) (r1 : Nat), hok X0.2.2.1 K' B' L' f' → extC [(200, 18)] K B L f K' B' L' f' → (2 ≤ v0 ∧ v0 ≤ 42) → (0 ≤ v1 ∧ v1 ≤ 7) → (0 ≤ v2 ∧ v2 ≤ 160) → (r0 ∈ L' ∧ K' r0 = 200) → (r1 ∈ L' ∧ K' r1 = 205) → (∀ b ∈ L', K' b = 200 → gi (f' b) 17 = v2) → (∀ b ∈ L', K' b = 200 → gi (f' b) 18 = (1 + v1)) → eW E 0 0 L' f' 30 [(0, .ref r0), (1, .int (Int32.ofInt v0))] [.int (Int32.ofInt v0), .int (Int32.ofInt v2), .ref r1]) : eW E 0 0 L f 0 [(0, .ref r0), (1, .int (Int32.ofInt v0))] [] := by
  obtain ⟨l0, D0, cy0, ax0⟩ := X0
  have hraw : eW E 0 0 L f 0 [(0, .ref r0), (1, .int (Int32.ofInt (0 + (1 * v0 + 0))))] [] := ?_
  · simpa only [Int.zero_add, Int.one_mul, Int.add_zero] using hraw
  have rm0 : (∀ b ∈ L, K b = 200 → gi (f b) 18 = (0 + (1 * v1 + 0))) := by simpa only [Int.zero_add, Int.one_mul, Int.add_zero] using hm0
  refine seg_ok (D := D_op0b) (νi := fun i => [v0, v1].getD i 0) (μi := fun i => [r0].getD i 0) k_op0b hE (mk_ok (ins := iX12_opened) jX12_opened fX12_ok lX12_ok kX12_ok kkX12_ok H) (by decide) rfl rfl rfl rfl hh ?_ ?_
  · refine ⟨(eok_of (fun i q hq => ?_) (fun i hi => ?_)), fa0, fa0, ?_, (fa_cons (Fmok hh (show (zkd 200).1 = 1 by decide) (j := 18) rfl (by decide) rm0) fa0), fa0, fa0⟩
    · match i, hq with
      | 0, hq => cases hq; exact hb0
      | 1, hq => cases hq; exact hb1
      | i + 2, hq => cases hq
    · match i, hi with
      | 0, hi => exact absurd hi (by decide)
      | 1, hi => exact absurd hi (by decide)
      | i + 2, _ => rfl
    · intro i k hk
      match i, hk with
      | 0, hk => cases hk; exact hr0
      | i + 1, hk => cases hk
  · intro q hq hst K' B' L' f' ν μ h1 h2 h3 h4 h5
    have e0 : ν 0 = v0 := h4 0 (by decide)
    have e1 : ν 1 = v1 := h4 1 (by decide)
    have d0 : μ 0 = r0 := h5 0 (by decide)
    subst e0
    subst e1
    subst d0
    replace hq : q ∈ u_op0b := hq
    unfold u_op0b at hq
    simp only [List.mem_cons, List.not_mem_nil, or_false] at hq
    rcases hq with rfl
    · have hst2 : eW E 0 0 L' f' 30 [(0, .ref (μ 0)), (1, .int (Int32.ofInt (0 + (1 * ν 0 + 0))))] [.int (Int32.ofInt (0 + (1 * ν 0 + 0))), .int (Int32.ofInt (0 + (1 * ν 2 + 0))), .ref (μ 1)] := ?_
      · exact hst2
      try simp only [Int.zero_add, Int.one_mul, Int.add_zero]
      exact k30 K' B' L' f' (ν 2) (μ 1) h1 h2 (h3.1 0) (h3.1 1) (h3.1 2) (h3.2.2.2.1 0 200 rfl) (h3.2.2.2.1 1 205 rfl) (by simpa only [xv, xvT, Int.zero_add, Int.one_mul, Int.add_zero] using (mokF h1 (show (zkd 200).1 = 1 by decide) (j := 17) rfl (by decide) (h3.2.2.2.2.1 _ (List.mem_of_getElem? (i := 0) rfl)))) (by simpa only [xv, xvT, Int.zero_add, Int.one_mul, Int.add_zero] using (mokF h1 (show (zkd 200).1 = 1 by decide) (j := 18) rfl (by decide) (h3.2.2.2.2.1 _ (List.mem_of_getElem? (i := 1) rfl))))

/-! op31: from 31 to [47, 77] -/
def w_op31 : TP := ([(0, (2, 0, (0, []))), (1, (0, 0, (0, [(1, 0)])))], [], ([(2, 42), (0, 159)], [], [], [200], [((200, (17, [])), (0, [(1, 1)]))], [], []), [], [])
def u_op31 : List (Nat × TP × EX × Nat × Nat) := [(47, ([(0, (2, 0, (0, []))), (1, (0, 0, (0, [(1, 0)])))], [], ([(41, 42), (0, 159)], [], [], [200], [((200, (17, [])), (1, [(1, 1)]))], [], []), [], []), ((-1), []), 0, 0), (77, ([(0, (2, 0, (0, []))), (1, (0, 0, (0, [(1, 0)])))], [], ([(2, 40), (0, 159)], [], [], [200], [((200, (17, [])), (1, [(1, 1)]))], [], []), [], []), ((-1), []), 0, 0)]
def D_op31 : DT := (mkD iX12_opened fX12 lX12 kX12 kkX12 412 [] (w_op31, [(200, 17)], [], 6, 0, 0, 3) false 2 u_op31)
theorem k_op31 : chkS D_op31 4000 0 0 31 = true := by decide +kernel
theorem s_op31 {X0 : zC0} {E : zCx} (H : ∀ j, j < 412 → CMj X0 j) (hE : zOk E X0 RX12 cX12_opened 2 (zrm 6 0 0)) {K : Nat → Nat} {B : Int} {L : List Nat} {f : Nat → va_E} (hh : hok X0.2.2.1 K B L f) {v0 v1 : Int} {r0 : Nat} (hb0 : 2 ≤ v0 ∧ v0 ≤ 42) (hb1 : 0 ≤ v1 ∧ v1 ≤ 159) (hr0 : r0 ∈ L ∧ K r0 = 200) (hm0 : (∀ b ∈ L, K b = 200 → gi (f b) 17 = v1)) (k47 : ∀ (K' : Nat → Nat) (B' : Int) (L' : List Nat) (f' : Nat → va_E), hok X0.2.2.1 K' B' L' f' → extC [(200, 17)] K B L f K' B' L' f' → (41 ≤ v0 ∧ v0 ≤ 42) → (0 ≤ v1 ∧ v1 ≤ 159) → (r0 ∈ L' ∧ K' r0 = 200) → (∀ b ∈ L', K' b = 200 → gi (f' b) 17 = (1 + v1)) → eW E 0 0 L' f' 47 [(0, .ref r0), (1, .int (Int32.ofInt v0))] []) (k77 : ∀ (K' : Nat → Nat) (B' : Int) (L' : List Nat) (f' : Nat → va_E), hok X0.2.2.1 K' B' L' f' → extC [(200, 17)] K B L f K' B' L' f' → (2 ≤ v0 ∧ v0 ≤ 40) → (0 ≤ v1 ∧ v1 ≤ 159) → (r0 ∈ L' ∧ K' r0 = 200) → (∀ b ∈ L', K' b = 200 → gi (f' b) 17 = (1 + v1)) → eW E 0 0 L' f' 77 [(0, .ref r0), (1, .int (Int32.ofInt v0))] []) : eW E 0 0 L f 31 [(0, .ref r0), (1, .int (Int32.ofInt v0))] [] := by
  obtain ⟨l0, D0, cy0, ax0⟩ := X0
  have hraw : eW E 0 0 L f 31 [(0, .ref r0), (1, .int (Int32.ofInt (0 + (1 * v0 + 0))))] [] := ?_
  · simpa only [Int.zero_add, Int.one_mul, Int.add_zero] using hraw
  have rm0 : (∀ b ∈ L, K b = 200 → gi (f b) 17 = (0 + (1 * v1 + 0))) := by simpa only [Int.zero_add, Int.one_mul, Int.add_zero] using hm0
  refine seg_ok (D := D_op31) (νi := fun i => [v0, v1].getD i 0) (μi := fun i => [r0].getD i 0) k_op31 hE (mk_ok (ins := iX12_opened) jX12_opened fX12_ok lX12_ok kX12_ok kkX12_ok H) (by decide) rfl rfl rfl rfl hh ?_ ?_
  · refine ⟨(eok_of (fun i q hq => ?_) (fun i hi => ?_)), fa0, fa0, ?_, (fa_cons (Fmok hh (show (zkd 200).1 = 1 by decide) (j := 17) rfl (by decide) rm0) fa0), fa0, fa0⟩
    · match i, hq with
      | 0, hq => cases hq; exact hb0
      | 1, hq => cases hq; exact hb1
      | i + 2, hq => cases hq
    · match i, hi with
      | 0, hi => exact absurd hi (by decide)
      | 1, hi => exact absurd hi (by decide)
      | i + 2, _ => rfl
    · intro i k hk
      match i, hk with
      | 0, hk => cases hk; exact hr0
      | i + 1, hk => cases hk
  · intro q hq hst K' B' L' f' ν μ h1 h2 h3 h4 h5
    have e0 : ν 0 = v0 := h4 0 (by decide)
    have e1 : ν 1 = v1 := h4 1 (by decide)
    have d0 : μ 0 = r0 := h5 0 (by decide)
    subst e0
    subst e1
    subst d0
    replace hq : q ∈ u_op31 := hq
    unfold u_op31 at hq
    simp only [List.mem_cons, List.not_mem_nil, or_false] at hq
    rcases hq with rfl | rfl
    · have hst2 : eW E 0 0 L' f' 47 [(0, .ref (μ 0)), (1, .int (Int32.ofInt (0 + (1 * ν 0 + 0))))] [] := ?_
      · exact hst2
      try simp only [Int.zero_add, Int.one_mul, Int.add_zero]
      exact k47 K' B' L' f'   h1 h2 (h3.1 0) (h3.1 1) (h3.2.2.2.1 0 200 rfl) (by simpa only [xv, xvT, Int.zero_add, Int.one_mul, Int.add_zero] using (mokF h1 (show (zkd 200).1 = 1 by decide) (j := 17) rfl (by decide) (h3.2.2.2.2.1 _ (List.mem_of_getElem? (i := 0) rfl))))
    · have hst2 : eW E 0 0 L' f' 77 [(0, .ref (μ 0)), (1, .int (Int32.ofInt (0 + (1 * ν 0 + 0))))] [] := ?_
      · exact hst2
      try simp only [Int.zero_add, Int.one_mul, Int.add_zero]
      exact k77 K' B' L' f'   h1 h2 (h3.1 0) (h3.1 1) (h3.2.2.2.1 0 200 rfl) (by simpa only [xv, xvT, Int.zero_add, Int.one_mul, Int.add_zero] using (mokF h1 (show (zkd 200).1 = 1 by decide) (j := 17) rfl (by decide) (h3.2.2.2.2.1 _ (List.mem_of_getElem? (i := 0) rfl))))

/-! op47: from 47 to [59] -/
def w_op47 : TP := ([(0, (2, 0, (0, []))), (1, (0, 0, (0, [(1, 0)])))], [], ([(2, 42)], [], [], [200], [], [], []), [], [])
def u_op47 : List (Nat × TP × EX × Nat × Nat) := [(59, ([(0, (2, 0, (0, []))), (1, (0, 0, (0, [(1, 0)])))], [(0, 0, (0, [(1, 1)])), (0, 0, (0, [(1, 2)])), (2, 1, (0, []))], ([(2, 42), (0, 304), (0, 9)], [], [], [200, 206], [((200, (13, [])), (0, [(1, 1)])), ((200, (19, [])), (0, [(1, 2)]))], [], []), [(1, 0, (0, [])), (1, 1, (0, []))], [(1, 2)]), ((-1), []), 0, 0)]
def D_op47 : DT := (mkD iX12_opened fX12 lX12 kX12 kkX12 412 [] (w_op47, [], [], 6, 0, 0, 3) false 2 u_op47)
theorem k_op47 : chkS D_op47 4000 0 0 47 = true := by decide +kernel
theorem s_op47 {X0 : zC0} {E : zCx} (H : ∀ j, j < 412 → CMj X0 j) (hE : zOk E X0 RX12 cX12_opened 2 (zrm 6 0 0)) {K : Nat → Nat} {B : Int} {L : List Nat} {f : Nat → va_E} (hh : hok X0.2.2.1 K B L f) {v0 : Int} {r0 : Nat} (hb0 : 2 ≤ v0 ∧ v0 ≤ 42) (hr0 : r0 ∈ L ∧ K r0 = 200) (k59 : ∀ (K' : Nat → Nat) (B' : Int) (L' : List Nat) (f' : Nat → va_E) (v1 v2 : Int) (r1 : Nat), hok X0.2.2.1 K' B' L' f' → extC [] K B L f K' B' L' f' → (2 ≤ v0 ∧ v0 ≤ 42) → (0 ≤ v1 ∧ v1 ≤ 304) → (0 ≤ v2 ∧ v2 ≤ 9) → (r0 ∈ L' ∧ K' r0 = 200) → (r1 ∈ L' ∧ K' r1 = 206) → (∀ b ∈ L', K' b = 200 → gi (f' b) 13 = v1) → (∀ b ∈ L', K' b = 200 → gi (f' b) 19 = v2) → eW E 0 0 L' f' 59 [(0, .ref r0), (1, .int (Int32.ofInt v0))] [.int (Int32.ofInt v1), .int (Int32.ofInt v2), .ref r1]) : eW E 0 0 L f 47 [(0, .ref r0), (1, .int (Int32.ofInt v0))] [] := by
  obtain ⟨l0, D0, cy0, ax0⟩ := X0
  have hraw : eW E 0 0 L f 47 [(0, .ref r0), (1, .int (Int32.ofInt (0 + (1 * v0 + 0))))] [] := ?_
  · simpa only [Int.zero_add, Int.one_mul, Int.add_zero] using hraw
  refine seg_ok (D := D_op47) (νi := fun i => [v0].getD i 0) (μi := fun i => [r0].getD i 0) k_op47 hE (mk_ok (ins := iX12_opened) jX12_opened fX12_ok lX12_ok kX12_ok kkX12_ok H) (by decide) rfl rfl rfl rfl hh ?_ ?_
  · refine ⟨(eok_of (fun i q hq => ?_) (fun i hi => ?_)), fa0, fa0, ?_, fa0, fa0, fa0⟩
    · match i, hq with
      | 0, hq => cases hq; exact hb0
      | i + 1, hq => cases hq
    · match i, hi with
      | 0, hi => exact absurd hi (by decide)
      | i + 1, _ => rfl
    · intro i k hk
      match i, hk with
      | 0, hk => cases hk; exact hr0
      | i + 1, hk => cases hk
  · intro q hq hst K' B' L' f' ν μ h1 h2 h3 h4 h5
    have e0 : ν 0 = v0 := h4 0 (by decide)
    have d0 : μ 0 = r0 := h5 0 (by decide)
    subst e0
    subst d0
    replace hq : q ∈ u_op47 := hq
    unfold u_op47 at hq
    simp only [List.mem_cons, List.not_mem_nil, or_false] at hq
    rcases hq with rfl
    · have hst2 : eW E 0 0 L' f' 59 [(0, .ref (μ 0)), (1, .int (Int32.ofInt (0 + (1 * ν 0 + 0))))] [.int (Int32.ofInt (0 + (1 * ν 1 + 0))), .int (Int32.ofInt (0 + (1 * ν 2 + 0))), .ref (μ 1)] := ?_
      · exact hst2
      try simp only [Int.zero_add, Int.one_mul, Int.add_zero]
      exact k59 K' B' L' f' (ν 1) (ν 2) (μ 1) h1 h2 (h3.1 0) (h3.1 1) (h3.1 2) (h3.2.2.2.1 0 200 rfl) (h3.2.2.2.1 1 206 rfl) (by simpa only [xv, xvT, Int.zero_add, Int.one_mul, Int.add_zero] using (mokF h1 (show (zkd 200).1 = 1 by decide) (j := 13) rfl (by decide) (h3.2.2.2.2.1 _ (List.mem_of_getElem? (i := 0) rfl)))) (by simpa only [xv, xvT, Int.zero_add, Int.one_mul, Int.add_zero] using (mokF h1 (show (zkd 200).1 = 1 by decide) (j := 19) rfl (by decide) (h3.2.2.2.2.1 _ (List.mem_of_getElem? (i := 1) rfl))))

/-! op60: from 60 to [74] -/
def w_op60 : TP := ([(0, (2, 0, (0, []))), (1, (0, 0, (0, [(1, 0)])))], [], ([(2, 42), (0, 8)], [], [], [200], [((200, (19, [])), (0, [(1, 1)]))], [], []), [], [])
def u_op60 : List (Nat × TP × EX × Nat × Nat) := [(74, ([(0, (2, 0, (0, []))), (1, (0, 0, (0, [(1, 0)])))], [(0, 0, (0, [])), (0, 0, (30, [])), (2, 0, (0, []))], ([(2, 42), (0, 8)], [], [], [200], [((200, (19, [])), (1, [(1, 1)]))], [], []), [], []), ((-1), []), 0, 0)]
def D_op60 : DT := (mkD iX12_opened fX12 lX12 kX12 kkX12 412 [] (w_op60, [(200, 19)], [], 6, 0, 0, 3) false 2 u_op60)
theorem k_op60 : chkS D_op60 4000 0 0 60 = true := by decide +kernel
theorem s_op60 {X0 : zC0} {E : zCx} (H : ∀ j, j < 412 → CMj X0 j) (hE : zOk E X0 RX12 cX12_opened 2 (zrm 6 0 0)) {K : Nat → Nat} {B : Int} {L : List Nat} {f : Nat → va_E} (hh : hok X0.2.2.1 K B L f) {v0 v1 : Int} {r0 : Nat} (hb0 : 2 ≤ v0 ∧ v0 ≤ 42) (hb1 : 0 ≤ v1 ∧ v1 ≤ 8) (hr0 : r0 ∈ L ∧ K r0 = 200) (hm0 : (∀ b ∈ L, K b = 200 → gi (f b) 19 = v1)) (k74 : ∀ (K' : Nat → Nat) (B' : Int) (L' : List Nat) (f' : Nat → va_E), hok X0.2.2.1 K' B' L' f' → extC [(200, 19)] K B L f K' B' L' f' → (2 ≤ v0 ∧ v0 ≤ 42) → (0 ≤ v1 ∧ v1 ≤ 8) → (r0 ∈ L' ∧ K' r0 = 200) → (∀ b ∈ L', K' b = 200 → gi (f' b) 19 = (1 + v1)) → eW E 0 0 L' f' 74 [(0, .ref r0), (1, .int (Int32.ofInt v0))] [.int (Int32.ofInt 0), .int (Int32.ofInt 30), .ref r0]) : eW E 0 0 L f 60 [(0, .ref r0), (1, .int (Int32.ofInt v0))] [] := by
  obtain ⟨l0, D0, cy0, ax0⟩ := X0
  have hraw : eW E 0 0 L f 60 [(0, .ref r0), (1, .int (Int32.ofInt (0 + (1 * v0 + 0))))] [] := ?_
  · simpa only [Int.zero_add, Int.one_mul, Int.add_zero] using hraw
  have rm0 : (∀ b ∈ L, K b = 200 → gi (f b) 19 = (0 + (1 * v1 + 0))) := by simpa only [Int.zero_add, Int.one_mul, Int.add_zero] using hm0
  refine seg_ok (D := D_op60) (νi := fun i => [v0, v1].getD i 0) (μi := fun i => [r0].getD i 0) k_op60 hE (mk_ok (ins := iX12_opened) jX12_opened fX12_ok lX12_ok kX12_ok kkX12_ok H) (by decide) rfl rfl rfl rfl hh ?_ ?_
  · refine ⟨(eok_of (fun i q hq => ?_) (fun i hi => ?_)), fa0, fa0, ?_, (fa_cons (Fmok hh (show (zkd 200).1 = 1 by decide) (j := 19) rfl (by decide) rm0) fa0), fa0, fa0⟩
    · match i, hq with
      | 0, hq => cases hq; exact hb0
      | 1, hq => cases hq; exact hb1
      | i + 2, hq => cases hq
    · match i, hi with
      | 0, hi => exact absurd hi (by decide)
      | 1, hi => exact absurd hi (by decide)
      | i + 2, _ => rfl
    · intro i k hk
      match i, hk with
      | 0, hk => cases hk; exact hr0
      | i + 1, hk => cases hk
  · intro q hq hst K' B' L' f' ν μ h1 h2 h3 h4 h5
    have e0 : ν 0 = v0 := h4 0 (by decide)
    have e1 : ν 1 = v1 := h4 1 (by decide)
    have d0 : μ 0 = r0 := h5 0 (by decide)
    subst e0
    subst e1
    subst d0
    replace hq : q ∈ u_op60 := hq
    unfold u_op60 at hq
    simp only [List.mem_cons, List.not_mem_nil, or_false] at hq
    rcases hq with rfl
    · have hst2 : eW E 0 0 L' f' 74 [(0, .ref (μ 0)), (1, .int (Int32.ofInt (0 + (1 * ν 0 + 0))))] [.int (Int32.ofInt (0 + 0)), .int (Int32.ofInt (30 + 0)), .ref (μ 0)] := ?_
      · exact hst2
      try simp only [Int.zero_add, Int.one_mul, Int.add_zero]
      exact k74 K' B' L' f'   h1 h2 (h3.1 0) (h3.1 1) (h3.2.2.2.1 0 200 rfl) (by simpa only [xv, xvT, Int.zero_add, Int.one_mul, Int.add_zero] using (mokF h1 (show (zkd 200).1 = 1 by decide) (j := 19) rfl (by decide) (h3.2.2.2.2.1 _ (List.mem_of_getElem? (i := 0) rfl))))

/-! op77: from 77 to [78] -/
def w_op77 : TP := ([(0, (2, 0, (0, []))), (1, (0, 0, (0, [(1, 0)])))], [], ([(2, 42)], [], [], [200], [], [], []), [], [])
def u_op77 : List (Nat × TP × EX × Nat × Nat) := [(78, ([(0, (2, 0, (0, []))), (1, (0, 0, (0, [(1, 0)])))], [(2, 0, (0, []))], ([(2, 42)], [], [], [200], [], [], []), [], []), ((-1), []), 0, 0)]
def D_op77 : DT := (mkD iX12_opened fX12 lX12 kX12 kkX12 412 [] (w_op77, [], [], 6, 0, 0, 3) false 2 u_op77)
theorem k_op77 : chkS D_op77 4000 0 0 77 = true := by decide +kernel
theorem s_op77 {X0 : zC0} {E : zCx} (H : ∀ j, j < 412 → CMj X0 j) (hE : zOk E X0 RX12 cX12_opened 2 (zrm 6 0 0)) {K : Nat → Nat} {B : Int} {L : List Nat} {f : Nat → va_E} (hh : hok X0.2.2.1 K B L f) {v0 : Int} {r0 : Nat} (hb0 : 2 ≤ v0 ∧ v0 ≤ 42) (hr0 : r0 ∈ L ∧ K r0 = 200) (k78 : ∀ (K' : Nat → Nat) (B' : Int) (L' : List Nat) (f' : Nat → va_E), hok X0.2.2.1 K' B' L' f' → extC [] K B L f K' B' L' f' → (2 ≤ v0 ∧ v0 ≤ 42) → (r0 ∈ L' ∧ K' r0 = 200) → eW E 0 0 L' f' 78 [(0, .ref r0), (1, .int (Int32.ofInt v0))] [.ref r0]) : eW E 0 0 L f 77 [(0, .ref r0), (1, .int (Int32.ofInt v0))] [] := by
  obtain ⟨l0, D0, cy0, ax0⟩ := X0
  have hraw : eW E 0 0 L f 77 [(0, .ref r0), (1, .int (Int32.ofInt (0 + (1 * v0 + 0))))] [] := ?_
  · simpa only [Int.zero_add, Int.one_mul, Int.add_zero] using hraw
  refine seg_ok (D := D_op77) (νi := fun i => [v0].getD i 0) (μi := fun i => [r0].getD i 0) k_op77 hE (mk_ok (ins := iX12_opened) jX12_opened fX12_ok lX12_ok kX12_ok kkX12_ok H) (by decide) rfl rfl rfl rfl hh ?_ ?_
  · refine ⟨(eok_of (fun i q hq => ?_) (fun i hi => ?_)), fa0, fa0, ?_, fa0, fa0, fa0⟩
    · match i, hq with
      | 0, hq => cases hq; exact hb0
      | i + 1, hq => cases hq
    · match i, hi with
      | 0, hi => exact absurd hi (by decide)
      | i + 1, _ => rfl
    · intro i k hk
      match i, hk with
      | 0, hk => cases hk; exact hr0
      | i + 1, hk => cases hk
  · intro q hq hst K' B' L' f' ν μ h1 h2 h3 h4 h5
    have e0 : ν 0 = v0 := h4 0 (by decide)
    have d0 : μ 0 = r0 := h5 0 (by decide)
    subst e0
    subst d0
    replace hq : q ∈ u_op77 := hq
    unfold u_op77 at hq
    simp only [List.mem_cons, List.not_mem_nil, or_false] at hq
    rcases hq with rfl
    · have hst2 : eW E 0 0 L' f' 78 [(0, .ref (μ 0)), (1, .int (Int32.ofInt (0 + (1 * ν 0 + 0))))] [.ref (μ 0)] := ?_
      · exact hst2
      try simp only [Int.zero_add, Int.one_mul, Int.add_zero]
      exact k78 K' B' L' f'   h1 h2 (h3.1 0) (h3.2.2.2.1 0 200 rfl)

/-! op81: from 81 to [82] -/
def w_op81 : TP := ([(0, (2, 0, (0, []))), (1, (0, 0, (0, [(1, 0)])))], [], ([(2, 42)], [], [], [200], [], [], []), [], [])
def u_op81 : List (Nat × TP × EX × Nat × Nat) := [(82, ([(0, (2, 0, (0, []))), (1, (0, 0, (0, [(1, 0)])))], [(0, 0, (0, []))], ([(2, 42)], [], [], [200], [], [], []), [], []), ((-1), []), 0, 0)]
def D_op81 : DT := (mkD iX12_opened fX12 lX12 kX12 kkX12 412 [] (w_op81, [], [], 6, 0, 0, 3) false 2 u_op81)
theorem k_op81 : chkS D_op81 4000 0 0 81 = true := by decide +kernel
theorem s_op81 {X0 : zC0} {E : zCx} (H : ∀ j, j < 412 → CMj X0 j) (hE : zOk E X0 RX12 cX12_opened 2 (zrm 6 0 0)) {K : Nat → Nat} {B : Int} {L : List Nat} {f : Nat → va_E} (hh : hok X0.2.2.1 K B L f) {v0 : Int} {r0 : Nat} (hb0 : 2 ≤ v0 ∧ v0 ≤ 42) (hr0 : r0 ∈ L ∧ K r0 = 200) (k82 : ∀ (K' : Nat → Nat) (B' : Int) (L' : List Nat) (f' : Nat → va_E), hok X0.2.2.1 K' B' L' f' → extC [] K B L f K' B' L' f' → (2 ≤ v0 ∧ v0 ≤ 42) → (r0 ∈ L' ∧ K' r0 = 200) → eW E 0 0 L' f' 82 [(0, .ref r0), (1, .int (Int32.ofInt v0))] [.int (Int32.ofInt 0)]) : eW E 0 0 L f 81 [(0, .ref r0), (1, .int (Int32.ofInt v0))] [] := by
  obtain ⟨l0, D0, cy0, ax0⟩ := X0
  have hraw : eW E 0 0 L f 81 [(0, .ref r0), (1, .int (Int32.ofInt (0 + (1 * v0 + 0))))] [] := ?_
  · simpa only [Int.zero_add, Int.one_mul, Int.add_zero] using hraw
  refine seg_ok (D := D_op81) (νi := fun i => [v0].getD i 0) (μi := fun i => [r0].getD i 0) k_op81 hE (mk_ok (ins := iX12_opened) jX12_opened fX12_ok lX12_ok kX12_ok kkX12_ok H) (by decide) rfl rfl rfl rfl hh ?_ ?_
  · refine ⟨(eok_of (fun i q hq => ?_) (fun i hi => ?_)), fa0, fa0, ?_, fa0, fa0, fa0⟩
    · match i, hq with
      | 0, hq => cases hq; exact hb0
      | i + 1, hq => cases hq
    · match i, hi with
      | 0, hi => exact absurd hi (by decide)
      | i + 1, _ => rfl
    · intro i k hk
      match i, hk with
      | 0, hk => cases hk; exact hr0
      | i + 1, hk => cases hk
  · intro q hq hst K' B' L' f' ν μ h1 h2 h3 h4 h5
    have e0 : ν 0 = v0 := h4 0 (by decide)
    have d0 : μ 0 = r0 := h5 0 (by decide)
    subst e0
    subst d0
    replace hq : q ∈ u_op81 := hq
    unfold u_op81 at hq
    simp only [List.mem_cons, List.not_mem_nil, or_false] at hq
    rcases hq with rfl
    · have hst2 : eW E 0 0 L' f' 82 [(0, .ref (μ 0)), (1, .int (Int32.ofInt (0 + (1 * ν 0 + 0))))] [.int (Int32.ofInt (0 + 0))] := ?_
      · exact hst2
      try simp only [Int.zero_add, Int.one_mul, Int.add_zero]
      exact k82 K' B' L' f'   h1 h2 (h3.1 0) (h3.2.2.2.1 0 200 rfl)

/-! bt0: from 0 to [10, 21, 32, 44, 46] -/
def w_bt0 : TP := ([(0, (2, 0, (0, [])))], [], ([], [], [], [200], [], [], []), [], [])
def u_bt0 : List (Nat × TP × EX × Nat × Nat) := [(10, ([(0, (2, 0, (0, [])))], [(0, 0, (3, []))], ([(43, 43)], [], [], [200], [((200, (9, [])), (0, [(1, 0)]))], [], []), [(2, 200, (9, []))], []), ((-1), []), 0, 0), (21, ([(0, (2, 0, (0, [])))], [(0, 0, (4, []))], ([(45, 45)], [], [], [200], [((200, (9, [])), (0, [(1, 0)]))], [], []), [(2, 200, (9, []))], []), ((-1), []), 0, 0), (32, ([(0, (2, 0, (0, [])))], [(0, 0, (5, []))], ([(42, 42)], [], [], [200], [((200, (9, [])), (0, [(1, 0)]))], [], []), [(2, 200, (9, []))], []), ((-1), []), 0, 0), (44, ([(0, (2, 0, (0, [])))], [(0, 0, (6, []))], ([(47, 47)], [], [], [200], [((200, (9, [])), (0, [(1, 0)]))], [], []), [(2, 200, (9, []))], []), ((-1), []), 0, 0), (46, ([(0, (2, 0, (0, [])))], [(2, 0, (0, []))], ([((-2147483648), 2147483647)], [], [], [200], [((200, (9, [])), (0, [(1, 0)]))], [], []), [(2, 200, (9, []))], []), ((-1), []), 0, 0)]
def D_bt0 : DT := (mkD iX12_betweenOf fX12 lX12 kX12 kkX12 412 [] (w_bt0, [], [], 6, 0, 0, 3) false 1 u_bt0)
theorem k_bt0 : chkS D_bt0 4000 0 0 0 = true := by decide +kernel
theorem s_bt0 {X0 : zC0} {E : zCx} (H : ∀ j, j < 412 → CMj X0 j) (hE : zOk E X0 RX12 cX12_betweenOf 1 (zrm 6 0 0)) {K : Nat → Nat} {B : Int} {L : List Nat} {f : Nat → va_E} (hh : hok X0.2.2.1 K B L f) {r0 : Nat} (hr0 : r0 ∈ L ∧ K r0 = 200) (k10 : ∀ (K' : Nat → Nat) (B' : Int) (L' : List Nat) (f' : Nat → va_E) (v0 : Int), hok X0.2.2.1 K' B' L' f' → extC [] K B L f K' B' L' f' → (43 ≤ v0 ∧ v0 ≤ 43) → (r0 ∈ L' ∧ K' r0 = 200) → (∀ b ∈ L', K' b = 200 → gi (f' b) 9 = v0) → eW E 0 0 L' f' 10 [(0, .ref r0)] [.int (Int32.ofInt 3)]) (k21 : ∀ (K' : Nat → Nat) (B' : Int) (L' : List Nat) (f' : Nat → va_E) (v0 : Int), hok X0.2.2.1 K' B' L' f' → extC [] K B L f K' B' L' f' → (45 ≤ v0 ∧ v0 ≤ 45) → (r0 ∈ L' ∧ K' r0 = 200) → (∀ b ∈ L', K' b = 200 → gi (f' b) 9 = v0) → eW E 0 0 L' f' 21 [(0, .ref r0)] [.int (Int32.ofInt 4)]) (k32 : ∀ (K' : Nat → Nat) (B' : Int) (L' : List Nat) (f' : Nat → va_E) (v0 : Int), hok X0.2.2.1 K' B' L' f' → extC [] K B L f K' B' L' f' → (42 ≤ v0 ∧ v0 ≤ 42) → (r0 ∈ L' ∧ K' r0 = 200) → (∀ b ∈ L', K' b = 200 → gi (f' b) 9 = v0) → eW E 0 0 L' f' 32 [(0, .ref r0)] [.int (Int32.ofInt 5)]) (k44 : ∀ (K' : Nat → Nat) (B' : Int) (L' : List Nat) (f' : Nat → va_E) (v0 : Int), hok X0.2.2.1 K' B' L' f' → extC [] K B L f K' B' L' f' → (47 ≤ v0 ∧ v0 ≤ 47) → (r0 ∈ L' ∧ K' r0 = 200) → (∀ b ∈ L', K' b = 200 → gi (f' b) 9 = v0) → eW E 0 0 L' f' 44 [(0, .ref r0)] [.int (Int32.ofInt 6)]) (k46 : ∀ (K' : Nat → Nat) (B' : Int) (L' : List Nat) (f' : Nat → va_E) (v0 : Int), hok X0.2.2.1 K' B' L' f' → extC [] K B L f K' B' L' f' → ((-2147483648) ≤ v0 ∧ v0 ≤ 2147483647) → (r0 ∈ L' ∧ K' r0 = 200) → (∀ b ∈ L', K' b = 200 → gi (f' b) 9 = v0) → eW E 0 0 L' f' 46 [(0, .ref r0)] [.ref r0]) : eW E 0 0 L f 0 [(0, .ref r0)] [] := by
  obtain ⟨l0, D0, cy0, ax0⟩ := X0
  have hraw : eW E 0 0 L f 0 [(0, .ref r0)] [] := ?_
  · simpa only [Int.zero_add, Int.one_mul, Int.add_zero] using hraw
  refine seg_ok (D := D_bt0) (νi := fun i => [].getD i 0) (μi := fun i => [r0].getD i 0) k_bt0 hE (mk_ok (ins := iX12_betweenOf) jX12_betweenOf fX12_ok lX12_ok kX12_ok kkX12_ok H) (by decide) rfl rfl rfl rfl hh ?_ ?_
  · refine ⟨(eok_of (fun i q hq => by cases hq) (fun i _ => rfl)), fa0, fa0, ?_, fa0, fa0, fa0⟩
    · intro i k hk
      match i, hk with
      | 0, hk => cases hk; exact hr0
      | i + 1, hk => cases hk
  · intro q hq hst K' B' L' f' ν μ h1 h2 h3 h4 h5
    have d0 : μ 0 = r0 := h5 0 (by decide)
    subst d0
    replace hq : q ∈ u_bt0 := hq
    unfold u_bt0 at hq
    simp only [List.mem_cons, List.not_mem_nil, or_false] at hq
    rcases hq with rfl | rfl | rfl | rfl | rfl
    · have hst2 : eW E 0 0 L' f' 10 [(0, .ref (μ 0))] [.int (Int32.ofInt (3 + 0))] := ?_
      · exact hst2
      try simp only [Int.zero_add, Int.one_mul, Int.add_zero]
      exact k10 K' B' L' f' (ν 0)  h1 h2 (h3.1 0) (h3.2.2.2.1 0 200 rfl) (by simpa only [xv, xvT, Int.zero_add, Int.one_mul, Int.add_zero] using (mokF h1 (show (zkd 200).1 = 1 by decide) (j := 9) rfl (by decide) (h3.2.2.2.2.1 _ (List.mem_of_getElem? (i := 0) rfl))))
    · have hst2 : eW E 0 0 L' f' 21 [(0, .ref (μ 0))] [.int (Int32.ofInt (4 + 0))] := ?_
      · exact hst2
      try simp only [Int.zero_add, Int.one_mul, Int.add_zero]
      exact k21 K' B' L' f' (ν 0)  h1 h2 (h3.1 0) (h3.2.2.2.1 0 200 rfl) (by simpa only [xv, xvT, Int.zero_add, Int.one_mul, Int.add_zero] using (mokF h1 (show (zkd 200).1 = 1 by decide) (j := 9) rfl (by decide) (h3.2.2.2.2.1 _ (List.mem_of_getElem? (i := 0) rfl))))
    · have hst2 : eW E 0 0 L' f' 32 [(0, .ref (μ 0))] [.int (Int32.ofInt (5 + 0))] := ?_
      · exact hst2
      try simp only [Int.zero_add, Int.one_mul, Int.add_zero]
      exact k32 K' B' L' f' (ν 0)  h1 h2 (h3.1 0) (h3.2.2.2.1 0 200 rfl) (by simpa only [xv, xvT, Int.zero_add, Int.one_mul, Int.add_zero] using (mokF h1 (show (zkd 200).1 = 1 by decide) (j := 9) rfl (by decide) (h3.2.2.2.2.1 _ (List.mem_of_getElem? (i := 0) rfl))))
    · have hst2 : eW E 0 0 L' f' 44 [(0, .ref (μ 0))] [.int (Int32.ofInt (6 + 0))] := ?_
      · exact hst2
      try simp only [Int.zero_add, Int.one_mul, Int.add_zero]
      exact k44 K' B' L' f' (ν 0)  h1 h2 (h3.1 0) (h3.2.2.2.1 0 200 rfl) (by simpa only [xv, xvT, Int.zero_add, Int.one_mul, Int.add_zero] using (mokF h1 (show (zkd 200).1 = 1 by decide) (j := 9) rfl (by decide) (h3.2.2.2.2.1 _ (List.mem_of_getElem? (i := 0) rfl))))
    · have hst2 : eW E 0 0 L' f' 46 [(0, .ref (μ 0))] [.ref (μ 0)] := ?_
      · exact hst2
      try simp only [Int.zero_add, Int.one_mul, Int.add_zero]
      exact k46 K' B' L' f' (ν 0)  h1 h2 (h3.1 0) (h3.2.2.2.1 0 200 rfl) (by simpa only [xv, xvT, Int.zero_add, Int.one_mul, Int.add_zero] using (mokF h1 (show (zkd 200).1 = 1 by decide) (j := 9) rfl (by decide) (h3.2.2.2.2.1 _ (List.mem_of_getElem? (i := 0) rfl))))
