/-! cl121: from 121 to [131, 133] -/
def w_cl121 : TP := ([(0, (2, 0, (0, []))), (1, (0, 0, (0, [(1, 0)]))), (2, (0, 0, (0, [(1, 1)]))), (3, (0, 0, (0, [(1, 2)]))), (4, (0, 0, (0, [])))], [], ([(0, 13), (0, 23), (0, 2300)], [], [], [200], [], [], []), [], [])
def u_cl121 : List (Nat × TP × EX × Nat × Nat) := [(131, ([(0, (2, 0, (0, []))), (1, (0, 0, (0, [(1, 0)]))), (2, (0, 0, (0, [(1, 1)]))), (3, (0, 0, (0, [(1, 2)]))), (4, (0, 0, (0, [])))], [(0, 0, (1, []))], ([(0, 13), (0, 23), (0, 2300), ((-2147483648), 2147483647)], [], [], [200], [((200, (9, [])), (0, [(1, 3)]))], [], []), [(2, 200, (9, []))], []), ((-1), []), 0, 0), (133, ([(0, (2, 0, (0, []))), (1, (0, 0, (0, [(1, 0)]))), (2, (0, 0, (0, [(1, 1)]))), (3, (0, 0, (0, [(1, 2)]))), (4, (0, 0, (0, [])))], [(2, 0, (0, []))], ([(0, 13), (0, 23), (0, 2300), (59, 59)], [], [], [200], [((200, (9, [])), (0, [(1, 3)]))], [], []), [(2, 200, (9, []))], []), ((-1), []), 0, 0)]
def D_cl121 : DT := (mkD iX12_clause fX12 lX12 kX12 kkX12 412 [] (w_cl121, [], [], 12, 0, 0, 3) false 5 u_cl121)
theorem k_cl121 : chkS D_cl121 4000 0 0 121 = true := by decide +kernel
theorem s_cl121 {X0 : zC0} {E : zCx} (H : ∀ j, j < 412 → CMj X0 j) (hE : zOk E X0 RX12 cX12_clause 5 (zrm 12 0 0)) {K : Nat → Nat} {B : Int} {L : List Nat} {f : Nat → va_E} (hh : hok X0.2.2.1 K B L f) {v0 v1 v2 : Int} {r0 : Nat} (hb0 : 0 ≤ v0 ∧ v0 ≤ 13) (hb1 : 0 ≤ v1 ∧ v1 ≤ 23) (hb2 : 0 ≤ v2 ∧ v2 ≤ 2300) (hr0 : r0 ∈ L ∧ K r0 = 200) (k131 : ∀ (K' : Nat → Nat) (B' : Int) (L' : List Nat) (f' : Nat → va_E) (v3 : Int), hok X0.2.2.1 K' B' L' f' → extC [] K B L f K' B' L' f' → (0 ≤ v0 ∧ v0 ≤ 13) → (0 ≤ v1 ∧ v1 ≤ 23) → (0 ≤ v2 ∧ v2 ≤ 2300) → ((-2147483648) ≤ v3 ∧ v3 ≤ 2147483647) → (r0 ∈ L' ∧ K' r0 = 200) → (∀ b ∈ L', K' b = 200 → gi (f' b) 9 = v3) → eW E 0 0 L' f' 131 [(0, .ref r0), (1, .int (Int32.ofInt v0)), (2, .int (Int32.ofInt v1)), (3, .int (Int32.ofInt v2)), (4, .int (Int32.ofInt 0))] [.int (Int32.ofInt 1)]) (k133 : ∀ (K' : Nat → Nat) (B' : Int) (L' : List Nat) (f' : Nat → va_E) (v3 : Int), hok X0.2.2.1 K' B' L' f' → extC [] K B L f K' B' L' f' → (0 ≤ v0 ∧ v0 ≤ 13) → (0 ≤ v1 ∧ v1 ≤ 23) → (0 ≤ v2 ∧ v2 ≤ 2300) → (59 ≤ v3 ∧ v3 ≤ 59) → (r0 ∈ L' ∧ K' r0 = 200) → (∀ b ∈ L', K' b = 200 → gi (f' b) 9 = v3) → eW E 0 0 L' f' 133 [(0, .ref r0), (1, .int (Int32.ofInt v0)), (2, .int (Int32.ofInt v1)), (3, .int (Int32.ofInt v2)), (4, .int (Int32.ofInt 0))] [.ref r0]) : eW E 0 0 L f 121 [(0, .ref r0), (1, .int (Int32.ofInt v0)), (2, .int (Int32.ofInt v1)), (3, .int (Int32.ofInt v2)), (4, .int (Int32.ofInt 0))] [] := by
  obtain ⟨l0, D0, cy0, ax0⟩ := X0
  have hraw : eW E 0 0 L f 121 [(0, .ref r0), (1, .int (Int32.ofInt (0 + (1 * v0 + 0)))), (2, .int (Int32.ofInt (0 + (1 * v1 + 0)))), (3, .int (Int32.ofInt (0 + (1 * v2 + 0)))), (4, .int (Int32.ofInt (0 + 0)))] [] := ?_
  · simpa only [Int.zero_add, Int.one_mul, Int.add_zero] using hraw
  refine seg_ok (D := D_cl121) (νi := fun i => [v0, v1, v2].getD i 0) (μi := fun i => [r0].getD i 0) k_cl121 hE (mk_ok (ins := iX12_clause) jX12_clause fX12_ok lX12_ok kX12_ok kkX12_ok H) (by decide) rfl rfl rfl rfl hh ?_ ?_
  · refine ⟨(eok_of (fun i q hq => ?_) (fun i hi => ?_)), fa0, fa0, ?_, fa0, fa0, fa0⟩
    · match i, hq with
      | 0, hq => cases hq; exact hb0
      | 1, hq => cases hq; exact hb1
      | 2, hq => cases hq; exact hb2
      | i + 3, hq => cases hq
    · match i, hi with
      | 0, hi => exact absurd hi (by decide)
      | 1, hi => exact absurd hi (by decide)
      | 2, hi => exact absurd hi (by decide)
      | i + 3, _ => rfl
    · intro i k hk
      match i, hk with
      | 0, hk => cases hk; exact hr0
      | i + 1, hk => cases hk
  · intro q hq hst K' B' L' f' ν μ h1 h2 h3 h4 h5
    have e0 : ν 0 = v0 := h4 0 (by decide)
    have e1 : ν 1 = v1 := h4 1 (by decide)
    have e2 : ν 2 = v2 := h4 2 (by decide)
    have d0 : μ 0 = r0 := h5 0 (by decide)
    subst e0
    subst e1
    subst e2
    subst d0
    replace hq : q ∈ u_cl121 := hq
    unfold u_cl121 at hq
    simp only [List.mem_cons, List.not_mem_nil, or_false] at hq
    rcases hq with rfl | rfl
    · have hst2 : eW E 0 0 L' f' 131 [(0, .ref (μ 0)), (1, .int (Int32.ofInt (0 + (1 * ν 0 + 0)))), (2, .int (Int32.ofInt (0 + (1 * ν 1 + 0)))), (3, .int (Int32.ofInt (0 + (1 * ν 2 + 0)))), (4, .int (Int32.ofInt (0 + 0)))] [.int (Int32.ofInt (1 + 0))] := ?_
      · exact hst2
      try simp only [Int.zero_add, Int.one_mul, Int.add_zero]
      exact k131 K' B' L' f' (ν 3)  h1 h2 (h3.1 0) (h3.1 1) (h3.1 2) (h3.1 3) (h3.2.2.2.1 0 200 rfl) (by simpa only [xv, xvT, Int.zero_add, Int.one_mul, Int.add_zero] using (mokF h1 (show (zkd 200).1 = 1 by decide) (j := 9) rfl (by decide) (h3.2.2.2.2.1 _ (List.mem_of_getElem? (i := 0) rfl))))
    · have hst2 : eW E 0 0 L' f' 133 [(0, .ref (μ 0)), (1, .int (Int32.ofInt (0 + (1 * ν 0 + 0)))), (2, .int (Int32.ofInt (0 + (1 * ν 1 + 0)))), (3, .int (Int32.ofInt (0 + (1 * ν 2 + 0)))), (4, .int (Int32.ofInt (0 + 0)))] [.ref (μ 0)] := ?_
      · exact hst2
      try simp only [Int.zero_add, Int.one_mul, Int.add_zero]
      exact k133 K' B' L' f' (ν 3)  h1 h2 (h3.1 0) (h3.1 1) (h3.1 2) (h3.1 3) (h3.2.2.2.1 0 200 rfl) (by simpa only [xv, xvT, Int.zero_add, Int.one_mul, Int.add_zero] using (mokF h1 (show (zkd 200).1 = 1 by decide) (j := 9) rfl (by decide) (h3.2.2.2.2.1 _ (List.mem_of_getElem? (i := 0) rfl))))

/-! cl136: from 136 to [137] -/
def w_cl136 : TP := ([(0, (2, 0, (0, []))), (1, (0, 0, (0, [(1, 0)]))), (2, (0, 0, (0, [(1, 1)]))), (3, (0, 0, (0, [(1, 2)]))), (4, (0, 0, (0, [])))], [], ([(0, 13), (0, 23), (0, 2300)], [], [], [200], [], [], []), [], [])
def u_cl136 : List (Nat × TP × EX × Nat × Nat) := [(137, ([(0, (2, 0, (0, []))), (1, (0, 0, (0, [(1, 0)]))), (2, (0, 0, (0, [(1, 1)]))), (3, (0, 0, (0, [(1, 2)]))), (4, (0, 0, (0, [])))], [(0, 0, (0, []))], ([(0, 13), (0, 23), (0, 2300)], [], [], [200], [], [], []), [], []), ((-1), []), 0, 0)]
def D_cl136 : DT := (mkD iX12_clause fX12 lX12 kX12 kkX12 412 [] (w_cl136, [], [], 12, 0, 0, 3) false 5 u_cl136)
theorem k_cl136 : chkS D_cl136 4000 0 0 136 = true := by decide +kernel
theorem s_cl136 {X0 : zC0} {E : zCx} (H : ∀ j, j < 412 → CMj X0 j) (hE : zOk E X0 RX12 cX12_clause 5 (zrm 12 0 0)) {K : Nat → Nat} {B : Int} {L : List Nat} {f : Nat → va_E} (hh : hok X0.2.2.1 K B L f) {v0 v1 v2 : Int} {r0 : Nat} (hb0 : 0 ≤ v0 ∧ v0 ≤ 13) (hb1 : 0 ≤ v1 ∧ v1 ≤ 23) (hb2 : 0 ≤ v2 ∧ v2 ≤ 2300) (hr0 : r0 ∈ L ∧ K r0 = 200) (k137 : ∀ (K' : Nat → Nat) (B' : Int) (L' : List Nat) (f' : Nat → va_E), hok X0.2.2.1 K' B' L' f' → extC [] K B L f K' B' L' f' → (0 ≤ v0 ∧ v0 ≤ 13) → (0 ≤ v1 ∧ v1 ≤ 23) → (0 ≤ v2 ∧ v2 ≤ 2300) → (r0 ∈ L' ∧ K' r0 = 200) → eW E 0 0 L' f' 137 [(0, .ref r0), (1, .int (Int32.ofInt v0)), (2, .int (Int32.ofInt v1)), (3, .int (Int32.ofInt v2)), (4, .int (Int32.ofInt 0))] [.int (Int32.ofInt 0)]) : eW E 0 0 L f 136 [(0, .ref r0), (1, .int (Int32.ofInt v0)), (2, .int (Int32.ofInt v1)), (3, .int (Int32.ofInt v2)), (4, .int (Int32.ofInt 0))] [] := by
  obtain ⟨l0, D0, cy0, ax0⟩ := X0
  have hraw : eW E 0 0 L f 136 [(0, .ref r0), (1, .int (Int32.ofInt (0 + (1 * v0 + 0)))), (2, .int (Int32.ofInt (0 + (1 * v1 + 0)))), (3, .int (Int32.ofInt (0 + (1 * v2 + 0)))), (4, .int (Int32.ofInt (0 + 0)))] [] := ?_
  · simpa only [Int.zero_add, Int.one_mul, Int.add_zero] using hraw
  refine seg_ok (D := D_cl136) (νi := fun i => [v0, v1, v2].getD i 0) (μi := fun i => [r0].getD i 0) k_cl136 hE (mk_ok (ins := iX12_clause) jX12_clause fX12_ok lX12_ok kX12_ok kkX12_ok H) (by decide) rfl rfl rfl rfl hh ?_ ?_
  · refine ⟨(eok_of (fun i q hq => ?_) (fun i hi => ?_)), fa0, fa0, ?_, fa0, fa0, fa0⟩
    · match i, hq with
      | 0, hq => cases hq; exact hb0
      | 1, hq => cases hq; exact hb1
      | 2, hq => cases hq; exact hb2
      | i + 3, hq => cases hq
    · match i, hi with
      | 0, hi => exact absurd hi (by decide)
      | 1, hi => exact absurd hi (by decide)
      | 2, hi => exact absurd hi (by decide)
      | i + 3, _ => rfl
    · intro i k hk
      match i, hk with
      | 0, hk => cases hk; exact hr0
      | i + 1, hk => cases hk
  · intro q hq hst K' B' L' f' ν μ h1 h2 h3 h4 h5
    have e0 : ν 0 = v0 := h4 0 (by decide)
    have e1 : ν 1 = v1 := h4 1 (by decide)
    have e2 : ν 2 = v2 := h4 2 (by decide)
    have d0 : μ 0 = r0 := h5 0 (by decide)
    subst e0
    subst e1
    subst e2
    subst d0
    replace hq : q ∈ u_cl136 := hq
    unfold u_cl136 at hq
    simp only [List.mem_cons, List.not_mem_nil, or_false] at hq
    rcases hq with rfl
    · have hst2 : eW E 0 0 L' f' 137 [(0, .ref (μ 0)), (1, .int (Int32.ofInt (0 + (1 * ν 0 + 0)))), (2, .int (Int32.ofInt (0 + (1 * ν 1 + 0)))), (3, .int (Int32.ofInt (0 + (1 * ν 2 + 0)))), (4, .int (Int32.ofInt (0 + 0)))] [.int (Int32.ofInt (0 + 0))] := ?_
      · exact hst2
      try simp only [Int.zero_add, Int.one_mul, Int.add_zero]
      exact k137 K' B' L' f'   h1 h2 (h3.1 0) (h3.1 1) (h3.1 2) (h3.2.2.2.1 0 200 rfl)

/-! rt0: from 0 to [12] -/
def w_rt0 : TP := ([(0, (2, 0, (0, [])))], [], ([(0, 3)], [], [], [200], [((201, (7, [])), (0, [(1, 0)]))], [], []), [], [])
def u_rt0 : List (Nat × TP × EX × Nat × Nat) := [(12, ([(0, (2, 0, (0, [])))], [(0, 0, (0, [(705, 0)])), (2, 0, (0, []))], ([(0, 3)], [], [], [200], [((201, (7, [])), (0, [(1, 0)]))], [], []), [], []), ((-1), []), 0, 0)]
def D_rt0 : DT := (mkD iX12_readText fX12 lX12 kX12 kkX12 412 [] (w_rt0, [], [], 14, 0, 0, 3) false 2 u_rt0)
theorem k_rt0 : chkS D_rt0 4000 0 0 0 = true := by decide +kernel
theorem s_rt0 {X0 : zC0} {E : zCx} (H : ∀ j, j < 412 → CMj X0 j) (hE : zOk E X0 RX12 cX12_readText 2 (zrm 14 0 0)) {K : Nat → Nat} {B : Int} {L : List Nat} {f : Nat → va_E} (hh : hok X0.2.2.1 K B L f) {v0 : Int} {r0 : Nat} (hb0 : 0 ≤ v0 ∧ v0 ≤ 3) (hr0 : r0 ∈ L ∧ K r0 = 200) (hm0 : (∀ b ∈ L, K b = 201 → (0 : Int) ≤ 7 ∧ gi (f b) ((7 : Int)).toNat = v0)) (k12 : ∀ (K' : Nat → Nat) (B' : Int) (L' : List Nat) (f' : Nat → va_E), hok X0.2.2.1 K' B' L' f' → extC [] K B L f K' B' L' f' → (0 ≤ v0 ∧ v0 ≤ 3) → (r0 ∈ L' ∧ K' r0 = 200) → (∀ b ∈ L', K' b = 201 → (0 : Int) ≤ 7 ∧ gi (f' b) ((7 : Int)).toNat = v0) → eW E 0 0 L' f' 12 [(0, .ref r0)] [.int (Int32.ofInt (705 * v0)), .ref r0]) : eW E 0 0 L f 0 [(0, .ref r0)] [] := by
  obtain ⟨l0, D0, cy0, ax0⟩ := X0
  have hraw : eW E 0 0 L f 0 [(0, .ref r0)] [] := ?_
  · simpa only [Int.zero_add, Int.one_mul, Int.add_zero] using hraw
  have rm0 : (∀ b ∈ L, K b = 201 → (0 : Int) ≤ (7 + 0) ∧ gi (f b) (((7 + 0) : Int)).toNat = (0 + (1 * v0 + 0))) := by simpa only [Int.zero_add, Int.one_mul, Int.add_zero] using hm0
  refine seg_ok (D := D_rt0) (νi := fun i => [v0].getD i 0) (μi := fun i => [r0].getD i 0) k_rt0 hE (mk_ok (ins := iX12_readText) jX12_readText fX12_ok lX12_ok kX12_ok kkX12_ok H) (by decide) rfl rfl rfl rfl hh ?_ ?_
  · refine ⟨(eok_of (fun i q hq => ?_) (fun i hi => ?_)), fa0, fa0, ?_, (fa_cons (Amok hh (show (zkd 201).1 = 2 by decide) (by decide) rm0) fa0), fa0, fa0⟩
    · match i, hq with
      | 0, hq => cases hq; exact hb0
      | i + 1, hq => cases hq
    · match i, hi with
      | 0, hi => exact absurd hi (by decide)
      | i + 1, _ => rfl
    · intro i k hk
      match i, hk with
      | 0, hk => cases hk; exact hr0
      | i + 1, hk => cases hk
  · intro q hq hst K' B' L' f' ν μ h1 h2 h3 h4 h5
    have e0 : ν 0 = v0 := h4 0 (by decide)
    have d0 : μ 0 = r0 := h5 0 (by decide)
    subst e0
    subst d0
    replace hq : q ∈ u_rt0 := hq
    unfold u_rt0 at hq
    simp only [List.mem_cons, List.not_mem_nil, or_false] at hq
    rcases hq with rfl
    · have hst2 : eW E 0 0 L' f' 12 [(0, .ref (μ 0))] [.int (Int32.ofInt (0 + (705 * ν 0 + 0))), .ref (μ 0)] := ?_
      · exact hst2
      try simp only [Int.zero_add, Int.one_mul, Int.add_zero]
      exact k12 K' B' L' f'   h1 h2 (h3.1 0) (h3.2.2.2.1 0 200 rfl) (by simpa only [xv, xvT, Int.zero_add, Int.one_mul, Int.add_zero] using (mokA h1 (show (zkd 201).1 = 2 by decide) (by decide) (h3.2.2.2.2.1 _ (List.mem_of_getElem? (i := 0) rfl))))

/-! rt15: from 15 to [24] -/
def w_rt15 : TP := ([(0, (2, 0, (0, [])))], [], ([], [], [], [200], [], [], []), [], [])
def u_rt15 : List (Nat × TP × EX × Nat × Nat) := [(24, ([(0, (2, 0, (0, [])))], [(0, 0, (0, [])), (0, 0, (0, [(1, 0)])), (2, 1, (0, []))], ([(0, 2115)], [], [], [200, 203], [((200, (12, [])), (0, [(1, 0)]))], [], []), [(1, 1, (0, []))], [(1, 2)]), ((-1), []), 0, 0)]
def D_rt15 : DT := (mkD iX12_readText fX12 lX12 kX12 kkX12 412 [] (w_rt15, [], [], 14, 0, 0, 3) false 2 u_rt15)
theorem k_rt15 : chkS D_rt15 4000 0 0 15 = true := by decide +kernel
theorem s_rt15 {X0 : zC0} {E : zCx} (H : ∀ j, j < 412 → CMj X0 j) (hE : zOk E X0 RX12 cX12_readText 2 (zrm 14 0 0)) {K : Nat → Nat} {B : Int} {L : List Nat} {f : Nat → va_E} (hh : hok X0.2.2.1 K B L f) {r0 : Nat} (hr0 : r0 ∈ L ∧ K r0 = 200) (k24 : ∀ (K' : Nat → Nat) (B' : Int) (L' : List Nat) (f' : Nat → va_E) (v0 : Int) (r1 : Nat), hok X0.2.2.1 K' B' L' f' → extC [] K B L f K' B' L' f' → (0 ≤ v0 ∧ v0 ≤ 2115) → (r0 ∈ L' ∧ K' r0 = 200) → (r1 ∈ L' ∧ K' r1 = 203) → (∀ b ∈ L', K' b = 200 → gi (f' b) 12 = v0) → eW E 0 0 L' f' 24 [(0, .ref r0)] [.int (Int32.ofInt 0), .int (Int32.ofInt v0), .ref r1]) : eW E 0 0 L f 15 [(0, .ref r0)] [] := by
  obtain ⟨l0, D0, cy0, ax0⟩ := X0
  have hraw : eW E 0 0 L f 15 [(0, .ref r0)] [] := ?_
  · simpa only [Int.zero_add, Int.one_mul, Int.add_zero] using hraw
  refine seg_ok (D := D_rt15) (νi := fun i => [].getD i 0) (μi := fun i => [r0].getD i 0) k_rt15 hE (mk_ok (ins := iX12_readText) jX12_readText fX12_ok lX12_ok kX12_ok kkX12_ok H) (by decide) rfl rfl rfl rfl hh ?_ ?_
  · refine ⟨(eok_of (fun i q hq => by cases hq) (fun i _ => rfl)), fa0, fa0, ?_, fa0, fa0, fa0⟩
    · intro i k hk
      match i, hk with
      | 0, hk => cases hk; exact hr0
      | i + 1, hk => cases hk
  · intro q hq hst K' B' L' f' ν μ h1 h2 h3 h4 h5
    have d0 : μ 0 = r0 := h5 0 (by decide)
    subst d0
    replace hq : q ∈ u_rt15 := hq
    unfold u_rt15 at hq
    simp only [List.mem_cons, List.not_mem_nil, or_false] at hq
    rcases hq with rfl
    · have hst2 : eW E 0 0 L' f' 24 [(0, .ref (μ 0))] [.int (Int32.ofInt (0 + 0)), .int (Int32.ofInt (0 + (1 * ν 0 + 0))), .ref (μ 1)] := ?_
      · exact hst2
      try simp only [Int.zero_add, Int.one_mul, Int.add_zero]
      exact k24 K' B' L' f' (ν 0) (μ 1) h1 h2 (h3.1 0) (h3.2.2.2.1 0 200 rfl) (h3.2.2.2.1 1 203 rfl) (by simpa only [xv, xvT, Int.zero_add, Int.one_mul, Int.add_zero] using (mokF h1 (show (zkd 200).1 = 1 by decide) (j := 12) rfl (by decide) (h3.2.2.2.2.1 _ (List.mem_of_getElem? (i := 0) rfl))))

/-! rt25: from 25 to [27] -/
def w_rt25 : TP := ([(0, (2, 0, (0, [])))], [], ([], [], [], [200], [], [], []), [], [])
def u_rt25 : List (Nat × TP × EX × Nat × Nat) := [(27, ([(0, (2, 0, (0, [])))], [(0, 0, (0, [])), (2, 0, (0, []))], ([], [], [], [200], [], [], []), [], []), ((-1), []), 0, 0)]
def D_rt25 : DT := (mkD iX12_readText fX12 lX12 kX12 kkX12 412 [] (w_rt25, [], [], 14, 0, 0, 3) false 2 u_rt25)
theorem k_rt25 : chkS D_rt25 4000 0 0 25 = true := by decide +kernel
theorem s_rt25 {X0 : zC0} {E : zCx} (H : ∀ j, j < 412 → CMj X0 j) (hE : zOk E X0 RX12 cX12_readText 2 (zrm 14 0 0)) {K : Nat → Nat} {B : Int} {L : List Nat} {f : Nat → va_E} (hh : hok X0.2.2.1 K B L f) {r0 : Nat} (hr0 : r0 ∈ L ∧ K r0 = 200) (k27 : ∀ (K' : Nat → Nat) (B' : Int) (L' : List Nat) (f' : Nat → va_E), hok X0.2.2.1 K' B' L' f' → extC [] K B L f K' B' L' f' → (r0 ∈ L' ∧ K' r0 = 200) → eW E 0 0 L' f' 27 [(0, .ref r0)] [.int (Int32.ofInt 0), .ref r0]) : eW E 0 0 L f 25 [(0, .ref r0)] [] := by
  obtain ⟨l0, D0, cy0, ax0⟩ := X0
  have hraw : eW E 0 0 L f 25 [(0, .ref r0)] [] := ?_
  · simpa only [Int.zero_add, Int.one_mul, Int.add_zero] using hraw
  refine seg_ok (D := D_rt25) (νi := fun i => [].getD i 0) (μi := fun i => [r0].getD i 0) k_rt25 hE (mk_ok (ins := iX12_readText) jX12_readText fX12_ok lX12_ok kX12_ok kkX12_ok H) (by decide) rfl rfl rfl rfl hh ?_ ?_
  · refine ⟨(eok_of (fun i q hq => by cases hq) (fun i _ => rfl)), fa0, fa0, ?_, fa0, fa0, fa0⟩
    · intro i k hk
      match i, hk with
      | 0, hk => cases hk; exact hr0
      | i + 1, hk => cases hk
  · intro q hq hst K' B' L' f' ν μ h1 h2 h3 h4 h5
    have d0 : μ 0 = r0 := h5 0 (by decide)
    subst d0
    replace hq : q ∈ u_rt25 := hq
    unfold u_rt25 at hq
    simp only [List.mem_cons, List.not_mem_nil, or_false] at hq
    rcases hq with rfl
    · have hst2 : eW E 0 0 L' f' 27 [(0, .ref (μ 0))] [.int (Int32.ofInt (0 + 0)), .ref (μ 0)] := ?_
      · exact hst2
      try simp only [Int.zero_add, Int.one_mul, Int.add_zero]
      exact k27 K' B' L' f'   h1 h2 (h3.2.2.2.1 0 200 rfl)

/-! rt30: from 30 to [41] -/
def w_rt30 : TP := ([(0, (2, 0, (0, [])))], [], ([], [], [], [200], [], [], []), [], [])
def u_rt30 : List (Nat × TP × EX × Nat × Nat) := [(41, ([(0, (2, 0, (0, [])))], [(2, 0, (0, []))], ([], [], [], [200], [((200, (7, [])), (0, [])), ((200, (21, [])), (0, []))], [], []), [], []), ((-1), []), 0, 0)]
def D_rt30 : DT := (mkD iX12_readText fX12 lX12 kX12 kkX12 412 [] (w_rt30, [(200, 7), (200, 21)], [], 14, 0, 0, 3) false 2 u_rt30)
theorem k_rt30 : chkS D_rt30 4000 0 0 30 = true := by decide +kernel
theorem s_rt30 {X0 : zC0} {E : zCx} (H : ∀ j, j < 412 → CMj X0 j) (hE : zOk E X0 RX12 cX12_readText 2 (zrm 14 0 0)) {K : Nat → Nat} {B : Int} {L : List Nat} {f : Nat → va_E} (hh : hok X0.2.2.1 K B L f) {r0 : Nat} (hr0 : r0 ∈ L ∧ K r0 = 200) (k41 : ∀ (K' : Nat → Nat) (B' : Int) (L' : List Nat) (f' : Nat → va_E), hok X0.2.2.1 K' B' L' f' → extC [(200, 7), (200, 21)] K B L f K' B' L' f' → (r0 ∈ L' ∧ K' r0 = 200) → (∀ b ∈ L', K' b = 200 → gi (f' b) 7 = 0) → (∀ b ∈ L', K' b = 200 → gi (f' b) 21 = 0) → eW E 0 0 L' f' 41 [(0, .ref r0)] [.ref r0]) : eW E 0 0 L f 30 [(0, .ref r0)] [] := by
  obtain ⟨l0, D0, cy0, ax0⟩ := X0
  have hraw : eW E 0 0 L f 30 [(0, .ref r0)] [] := ?_
  · simpa only [Int.zero_add, Int.one_mul, Int.add_zero] using hraw
  refine seg_ok (D := D_rt30) (νi := fun i => [].getD i 0) (μi := fun i => [r0].getD i 0) k_rt30 hE (mk_ok (ins := iX12_readText) jX12_readText fX12_ok lX12_ok kX12_ok kkX12_ok H) (by decide) rfl rfl rfl rfl hh ?_ ?_
  · refine ⟨(eok_of (fun i q hq => by cases hq) (fun i _ => rfl)), fa0, fa0, ?_, fa0, fa0, fa0⟩
    · intro i k hk
      match i, hk with
      | 0, hk => cases hk; exact hr0
      | i + 1, hk => cases hk
  · intro q hq hst K' B' L' f' ν μ h1 h2 h3 h4 h5
    have d0 : μ 0 = r0 := h5 0 (by decide)
    subst d0
    replace hq : q ∈ u_rt30 := hq
    unfold u_rt30 at hq
    simp only [List.mem_cons, List.not_mem_nil, or_false] at hq
    rcases hq with rfl
    · have hst2 : eW E 0 0 L' f' 41 [(0, .ref (μ 0))] [.ref (μ 0)] := ?_
      · exact hst2
      try simp only [Int.zero_add, Int.one_mul, Int.add_zero]
      exact k41 K' B' L' f'   h1 h2 (h3.2.2.2.1 0 200 rfl) (by simpa only [xv, xvT, Int.zero_add, Int.one_mul, Int.add_zero] using (mokF h1 (show (zkd 200).1 = 1 by decide) (j := 7) rfl (by decide) (h3.2.2.2.2.1 _ (List.mem_of_getElem? (i := 0) rfl)))) (by simpa only [xv, xvT, Int.zero_add, Int.one_mul, Int.add_zero] using (mokF h1 (show (zkd 200).1 = 1 by decide) (j := 21) rfl (by decide) (h3.2.2.2.2.1 _ (List.mem_of_getElem? (i := 1) rfl))))

/-! rt44: from 44 to [52, 66] -/
def w_rt44 : TP := ([(0, (2, 0, (0, [])))], [], ([], [], [], [200], [], [], []), [], [])
def u_rt44 : List (Nat × TP × EX × Nat × Nat) := [(52, ([(0, (2, 0, (0, [])))], [(2, 0, (0, []))], ([((-2147483648), 2147483647)], [], [(0, [(1, 0)])], [200], [((200, (9, [])), (0, [(1, 0)]))], [], []), [(2, 200, (9, []))], []), ((-1), []), 0, 0), (66, ([(0, (2, 0, (0, [])))], [(0, 0, (0, []))], ([(0, 0)], [], [], [200], [((200, (9, [])), (0, [(1, 0)]))], [], []), [(2, 200, (9, []))], []), ((-1), []), 0, 0)]
def D_rt44 : DT := (mkD iX12_readText fX12 lX12 kX12 kkX12 412 [] (w_rt44, [], [], 14, 0, 0, 3) false 2 u_rt44)
theorem k_rt44 : chkS D_rt44 4000 0 0 44 = true := by decide +kernel
theorem s_rt44 {X0 : zC0} {E : zCx} (H : ∀ j, j < 412 → CMj X0 j) (hE : zOk E X0 RX12 cX12_readText 2 (zrm 14 0 0)) {K : Nat → Nat} {B : Int} {L : List Nat} {f : Nat → va_E} (hh : hok X0.2.2.1 K B L f) {r0 : Nat} (hr0 : r0 ∈ L ∧ K r0 = 200) (k52 : ∀ (K' : Nat → Nat) (B' : Int) (L' : List Nat) (f' : Nat → va_E) (v0 : Int), hok X0.2.2.1 K' B' L' f' → extC [] K B L f K' B' L' f' → ((-2147483648) ≤ v0 ∧ v0 ≤ 2147483647) → (v0 ≠ 0) → (r0 ∈ L' ∧ K' r0 = 200) → (∀ b ∈ L', K' b = 200 → gi (f' b) 9 = v0) → eW E 0 0 L' f' 52 [(0, .ref r0)] [.ref r0]) (k66 : ∀ (K' : Nat → Nat) (B' : Int) (L' : List Nat) (f' : Nat → va_E) (v0 : Int), hok X0.2.2.1 K' B' L' f' → extC [] K B L f K' B' L' f' → (0 ≤ v0 ∧ v0 ≤ 0) → (r0 ∈ L' ∧ K' r0 = 200) → (∀ b ∈ L', K' b = 200 → gi (f' b) 9 = v0) → eW E 0 0 L' f' 66 [(0, .ref r0)] [.int (Int32.ofInt 0)]) : eW E 0 0 L f 44 [(0, .ref r0)] [] := by
  obtain ⟨l0, D0, cy0, ax0⟩ := X0
  have hraw : eW E 0 0 L f 44 [(0, .ref r0)] [] := ?_
  · simpa only [Int.zero_add, Int.one_mul, Int.add_zero] using hraw
  refine seg_ok (D := D_rt44) (νi := fun i => [].getD i 0) (μi := fun i => [r0].getD i 0) k_rt44 hE (mk_ok (ins := iX12_readText) jX12_readText fX12_ok lX12_ok kX12_ok kkX12_ok H) (by decide) rfl rfl rfl rfl hh ?_ ?_
  · refine ⟨(eok_of (fun i q hq => by cases hq) (fun i _ => rfl)), fa0, fa0, ?_, fa0, fa0, fa0⟩
    · intro i k hk
      match i, hk with
      | 0, hk => cases hk; exact hr0
      | i + 1, hk => cases hk
  · intro q hq hst K' B' L' f' ν μ h1 h2 h3 h4 h5
    have d0 : μ 0 = r0 := h5 0 (by decide)
    subst d0
    replace hq : q ∈ u_rt44 := hq
    unfold u_rt44 at hq
    simp only [List.mem_cons, List.not_mem_nil, or_false] at hq
    rcases hq with rfl | rfl
    · have hst2 : eW E 0 0 L' f' 52 [(0, .ref (μ 0))] [.ref (μ 0)] := ?_
      · exact hst2
      try simp only [Int.zero_add, Int.one_mul, Int.add_zero]
      exact k52 K' B' L' f' (ν 0)  h1 h2 (h3.1 0) (by simpa only [xv, xvT, Int.zero_add, Int.one_mul, Int.add_zero] using (h3.2.2.1 _ (List.mem_of_getElem? (i := 0) rfl))) (h3.2.2.2.1 0 200 rfl) (by simpa only [xv, xvT, Int.zero_add, Int.one_mul, Int.add_zero] using (mokF h1 (show (zkd 200).1 = 1 by decide) (j := 9) rfl (by decide) (h3.2.2.2.2.1 _ (List.mem_of_getElem? (i := 0) rfl))))
    · have hst2 : eW E 0 0 L' f' 66 [(0, .ref (μ 0))] [.int (Int32.ofInt (0 + 0))] := ?_
      · exact hst2
      try simp only [Int.zero_add, Int.one_mul, Int.add_zero]
      exact k66 K' B' L' f' (ν 0)  h1 h2 (h3.1 0) (h3.2.2.2.1 0 200 rfl) (by simpa only [xv, xvT, Int.zero_add, Int.one_mul, Int.add_zero] using (mokF h1 (show (zkd 200).1 = 1 by decide) (j := 9) rfl (by decide) (h3.2.2.2.2.1 _ (List.mem_of_getElem? (i := 0) rfl))))

/-! rt55: from 55 to [44, 61] -/
def w_rt55 : TP := ([(0, (2, 0, (0, [])))], [(0, 0, (0, [(1, 0)]))], ([(0, 6)], [], [], [200], [], [], []), [], [])
def u_rt55 : List (Nat × TP × EX × Nat × Nat) := [(44, ([(0, (2, 0, (0, []))), (1, (0, 0, (0, [(1, 0)])))], [], ([(0, 0)], [], [], [200], [], [], []), [], []), ((-1), []), 0, 0), (61, ([(0, (2, 0, (0, []))), (1, (0, 0, (0, [(1, 0)])))], [(0, 0, (0, [(1, 0)]))], ([(1, 6)], [], [], [200], [], [], []), [], []), ((-1), []), 0, 0)]
def D_rt55 : DT := (mkD iX12_readText fX12 lX12 kX12 kkX12 412 [] (w_rt55, [], [], 14, 0, 0, 3) false 2 u_rt55)
theorem k_rt55 : chkS D_rt55 4000 0 0 55 = true := by decide +kernel
theorem s_rt55 {X0 : zC0} {E : zCx} (H : ∀ j, j < 412 → CMj X0 j) (hE : zOk E X0 RX12 cX12_readText 2 (zrm 14 0 0)) {K : Nat → Nat} {B : Int} {L : List Nat} {f : Nat → va_E} (hh : hok X0.2.2.1 K B L f) {v0 : Int} {r0 : Nat} (hb0 : 0 ≤ v0 ∧ v0 ≤ 6) (hr0 : r0 ∈ L ∧ K r0 = 200) (k44 : ∀ (K' : Nat → Nat) (B' : Int) (L' : List Nat) (f' : Nat → va_E), hok X0.2.2.1 K' B' L' f' → extC [] K B L f K' B' L' f' → (0 ≤ v0 ∧ v0 ≤ 0) → (r0 ∈ L' ∧ K' r0 = 200) → eW E 0 0 L' f' 44 [(0, .ref r0), (1, .int (Int32.ofInt v0))] []) (k61 : ∀ (K' : Nat → Nat) (B' : Int) (L' : List Nat) (f' : Nat → va_E), hok X0.2.2.1 K' B' L' f' → extC [] K B L f K' B' L' f' → (1 ≤ v0 ∧ v0 ≤ 6) → (r0 ∈ L' ∧ K' r0 = 200) → eW E 0 0 L' f' 61 [(0, .ref r0), (1, .int (Int32.ofInt v0))] [.int (Int32.ofInt v0)]) : eW E 0 0 L f 55 [(0, .ref r0)] [.int (Int32.ofInt v0)] := by
  obtain ⟨l0, D0, cy0, ax0⟩ := X0
  have hraw : eW E 0 0 L f 55 [(0, .ref r0)] [.int (Int32.ofInt (0 + (1 * v0 + 0)))] := ?_
  · simpa only [Int.zero_add, Int.one_mul, Int.add_zero] using hraw
  refine seg_ok (D := D_rt55) (νi := fun i => [v0].getD i 0) (μi := fun i => [r0].getD i 0) k_rt55 hE (mk_ok (ins := iX12_readText) jX12_readText fX12_ok lX12_ok kX12_ok kkX12_ok H) (by decide) rfl rfl rfl rfl hh ?_ ?_
  · refine ⟨(eok_of (fun i q hq => ?_) (fun i hi => ?_)), fa0, fa0, ?_, fa0, fa0, fa0⟩
    · match i, hq with
      | 0, hq => cases hq; exact hb0
      | i + 1, hq => cases hq
    · match i, hi with
      | 0, hi => exact absurd hi (by decide)
      | i + 1, _ => rfl
    · intro i k hk
      match i, hk with
      | 0, hk => cases hk; exact hr0
      | i + 1, hk => cases hk
  · intro q hq hst K' B' L' f' ν μ h1 h2 h3 h4 h5
    have e0 : ν 0 = v0 := h4 0 (by decide)
    have d0 : μ 0 = r0 := h5 0 (by decide)
    subst e0
    subst d0
    replace hq : q ∈ u_rt55 := hq
    unfold u_rt55 at hq
    simp only [List.mem_cons, List.not_mem_nil, or_false] at hq
    rcases hq with rfl | rfl
    · have hst2 : eW E 0 0 L' f' 44 [(0, .ref (μ 0)), (1, .int (Int32.ofInt (0 + (1 * ν 0 + 0))))] [] := ?_
      · exact hst2
      try simp only [Int.zero_add, Int.one_mul, Int.add_zero]
      exact k44 K' B' L' f'   h1 h2 (h3.1 0) (h3.2.2.2.1 0 200 rfl)
    · have hst2 : eW E 0 0 L' f' 61 [(0, .ref (μ 0)), (1, .int (Int32.ofInt (0 + (1 * ν 0 + 0))))] [.int (Int32.ofInt (0 + (1 * ν 0 + 0)))] := ?_
      · exact hst2
      try simp only [Int.zero_add, Int.one_mul, Int.add_zero]
      exact k61 K' B' L' f'   h1 h2 (h3.1 0) (h3.2.2.2.1 0 200 rfl)

/-! rka: from 0 to [71] -/
def w_rka : TP := ([(0, (0, 0, (0, [(1, 0)])))], [], ([(40, 42)], [], [], [], [], [], []), [], [])
def u_rka : List (Nat × TP × EX × Nat × Nat) := [(71, ([(0, (0, 0, (0, [(1, 0)])))], [(0, 0, (0, []))], ([(40, 42)], [], [], [], [], [], []), [], []), ((-1), []), 0, 0)]
def D_rka : DT := (mkD iX12_rank fX12 lX12 kX12 kkX12 412 [] (w_rka, [], [], 1, 0, 0, 3) false 1 u_rka)
theorem k_rka : chkS D_rka 4000 0 0 0 = true := by decide +kernel
theorem s_rka {X0 : zC0} {E : zCx} (H : ∀ j, j < 412 → CMj X0 j) (hE : zOk E X0 RX12 cX12_rank 1 (zrm 1 0 0)) {K : Nat → Nat} {B : Int} {L : List Nat} {f : Nat → va_E} (hh : hok X0.2.2.1 K B L f) {v0 : Int} (hb0 : 40 ≤ v0 ∧ v0 ≤ 42) (k71 : ∀ (K' : Nat → Nat) (B' : Int) (L' : List Nat) (f' : Nat → va_E), hok X0.2.2.1 K' B' L' f' → extC [] K B L f K' B' L' f' → (40 ≤ v0 ∧ v0 ≤ 42) → eW E 0 0 L' f' 71 [(0, .int (Int32.ofInt v0))] [.int (Int32.ofInt 0)]) : eW E 0 0 L f 0 [(0, .int (Int32.ofInt v0))] [] := by
  obtain ⟨l0, D0, cy0, ax0⟩ := X0
  have hraw : eW E 0 0 L f 0 [(0, .int (Int32.ofInt (0 + (1 * v0 + 0))))] [] := ?_
  · simpa only [Int.zero_add, Int.one_mul, Int.add_zero] using hraw
  refine seg_ok (D := D_rka) (νi := fun i => [v0].getD i 0) (μi := fun i => [].getD i 0) k_rka hE (mk_ok (ins := iX12_rank) jX12_rank fX12_ok lX12_ok kX12_ok kkX12_ok H) (by decide) rfl rfl rfl rfl hh ?_ ?_
  · refine ⟨(eok_of (fun i q hq => ?_) (fun i hi => ?_)), fa0, fa0, ?_, fa0, fa0, fa0⟩
    · match i, hq with
      | 0, hq => cases hq; exact hb0
      | i + 1, hq => cases hq
    · match i, hi with
      | 0, hi => exact absurd hi (by decide)
      | i + 1, _ => rfl
    · intro i k hk
      match i, hk with

      | i + 0, hk => cases hk
  · intro q hq hst K' B' L' f' ν μ h1 h2 h3 h4 h5
    have e0 : ν 0 = v0 := h4 0 (by decide)
    subst e0
    replace hq : q ∈ u_rka := hq
    unfold u_rka at hq
    simp only [List.mem_cons, List.not_mem_nil, or_false] at hq
    rcases hq with rfl
    · have hst2 : eW E 0 0 L' f' 71 [(0, .int (Int32.ofInt (0 + (1 * ν 0 + 0))))] [.int (Int32.ofInt (0 + 0))] := ?_
      · exact hst2
      try simp only [Int.zero_add, Int.one_mul, Int.add_zero]
      exact k71 K' B' L' f'   h1 h2 (h3.1 0)

/-! rkb: from 0 to [71] -/
def w_rkb : TP := ([(0, (0, 0, (0, [(1, 0)])))], [], ([(22, 22)], [], [], [], [], [], []), [], [])
def u_rkb : List (Nat × TP × EX × Nat × Nat) := [(71, ([(0, (0, 0, (0, [(1, 0)])))], [(0, 0, (1, []))], ([(22, 22)], [], [], [], [], [], []), [], []), ((-1), []), 0, 0)]
def D_rkb : DT := (mkD iX12_rank fX12 lX12 kX12 kkX12 412 [] (w_rkb, [], [], 1, 0, 0, 3) false 1 u_rkb)
theorem k_rkb : chkS D_rkb 4000 0 0 0 = true := by decide +kernel
theorem s_rkb {X0 : zC0} {E : zCx} (H : ∀ j, j < 412 → CMj X0 j) (hE : zOk E X0 RX12 cX12_rank 1 (zrm 1 0 0)) {K : Nat → Nat} {B : Int} {L : List Nat} {f : Nat → va_E} (hh : hok X0.2.2.1 K B L f) {v0 : Int} (hb0 : 22 ≤ v0 ∧ v0 ≤ 22) (k71 : ∀ (K' : Nat → Nat) (B' : Int) (L' : List Nat) (f' : Nat → va_E), hok X0.2.2.1 K' B' L' f' → extC [] K B L f K' B' L' f' → (22 ≤ v0 ∧ v0 ≤ 22) → eW E 0 0 L' f' 71 [(0, .int (Int32.ofInt v0))] [.int (Int32.ofInt 1)]) : eW E 0 0 L f 0 [(0, .int (Int32.ofInt v0))] [] := by
  obtain ⟨l0, D0, cy0, ax0⟩ := X0
  have hraw : eW E 0 0 L f 0 [(0, .int (Int32.ofInt (0 + (1 * v0 + 0))))] [] := ?_
  · simpa only [Int.zero_add, Int.one_mul, Int.add_zero] using hraw
  refine seg_ok (D := D_rkb) (νi := fun i => [v0].getD i 0) (μi := fun i => [].getD i 0) k_rkb hE (mk_ok (ins := iX12_rank) jX12_rank fX12_ok lX12_ok kX12_ok kkX12_ok H) (by decide) rfl rfl rfl rfl hh ?_ ?_
  · refine ⟨(eok_of (fun i q hq => ?_) (fun i hi => ?_)), fa0, fa0, ?_, fa0, fa0, fa0⟩
    · match i, hq with
      | 0, hq => cases hq; exact hb0
      | i + 1, hq => cases hq
    · match i, hi with
      | 0, hi => exact absurd hi (by decide)
      | i + 1, _ => rfl
    · intro i k hk
      match i, hk with

      | i + 0, hk => cases hk
  · intro q hq hst K' B' L' f' ν μ h1 h2 h3 h4 h5
    have e0 : ν 0 = v0 := h4 0 (by decide)
    subst e0
    replace hq : q ∈ u_rkb := hq
    unfold u_rkb at hq
    simp only [List.mem_cons, List.not_mem_nil, or_false] at hq
    rcases hq with rfl
    · have hst2 : eW E 0 0 L' f' 71 [(0, .int (Int32.ofInt (0 + (1 * ν 0 + 0))))] [.int (Int32.ofInt (1 + 0))] := ?_
      · exact hst2
      try simp only [Int.zero_add, Int.one_mul, Int.add_zero]
      exact k71 K' B' L' f'   h1 h2 (h3.1 0)

/-! rkc: from 0 to [71] -/
def w_rkc : TP := ([(0, (0, 0, (0, [(1, 0)])))], [], ([(21, 21)], [], [], [], [], [], []), [], [])
def u_rkc : List (Nat × TP × EX × Nat × Nat) := [(71, ([(0, (0, 0, (0, [(1, 0)])))], [(0, 0, (2, []))], ([(21, 21)], [], [], [], [], [], []), [], []), ((-1), []), 0, 0)]
def D_rkc : DT := (mkD iX12_rank fX12 lX12 kX12 kkX12 412 [] (w_rkc, [], [], 1, 0, 0, 3) false 1 u_rkc)
theorem k_rkc : chkS D_rkc 4000 0 0 0 = true := by decide +kernel
theorem s_rkc {X0 : zC0} {E : zCx} (H : ∀ j, j < 412 → CMj X0 j) (hE : zOk E X0 RX12 cX12_rank 1 (zrm 1 0 0)) {K : Nat → Nat} {B : Int} {L : List Nat} {f : Nat → va_E} (hh : hok X0.2.2.1 K B L f) {v0 : Int} (hb0 : 21 ≤ v0 ∧ v0 ≤ 21) (k71 : ∀ (K' : Nat → Nat) (B' : Int) (L' : List Nat) (f' : Nat → va_E), hok X0.2.2.1 K' B' L' f' → extC [] K B L f K' B' L' f' → (21 ≤ v0 ∧ v0 ≤ 21) → eW E 0 0 L' f' 71 [(0, .int (Int32.ofInt v0))] [.int (Int32.ofInt 2)]) : eW E 0 0 L f 0 [(0, .int (Int32.ofInt v0))] [] := by
  obtain ⟨l0, D0, cy0, ax0⟩ := X0
  have hraw : eW E 0 0 L f 0 [(0, .int (Int32.ofInt (0 + (1 * v0 + 0))))] [] := ?_
  · simpa only [Int.zero_add, Int.one_mul, Int.add_zero] using hraw
  refine seg_ok (D := D_rkc) (νi := fun i => [v0].getD i 0) (μi := fun i => [].getD i 0) k_rkc hE (mk_ok (ins := iX12_rank) jX12_rank fX12_ok lX12_ok kX12_ok kkX12_ok H) (by decide) rfl rfl rfl rfl hh ?_ ?_
  · refine ⟨(eok_of (fun i q hq => ?_) (fun i hi => ?_)), fa0, fa0, ?_, fa0, fa0, fa0⟩
    · match i, hq with
      | 0, hq => cases hq; exact hb0
      | i + 1, hq => cases hq
    · match i, hi with
      | 0, hi => exact absurd hi (by decide)
      | i + 1, _ => rfl
    · intro i k hk
      match i, hk with

      | i + 0, hk => cases hk
  · intro q hq hst K' B' L' f' ν μ h1 h2 h3 h4 h5
    have e0 : ν 0 = v0 := h4 0 (by decide)
    subst e0
    replace hq : q ∈ u_rkc := hq
    unfold u_rkc at hq
    simp only [List.mem_cons, List.not_mem_nil, or_false] at hq
    rcases hq with rfl
    · have hst2 : eW E 0 0 L' f' 71 [(0, .int (Int32.ofInt (0 + (1 * ν 0 + 0))))] [.int (Int32.ofInt (2 + 0))] := ?_
      · exact hst2
      try simp only [Int.zero_add, Int.one_mul, Int.add_zero]
      exact k71 K' B' L' f'   h1 h2 (h3.1 0)

/-! rkd: from 0 to [71] -/
def w_rkd : TP := ([(0, (0, 0, (0, [(1, 0)])))], [], ([(20, 20)], [], [], [], [], [], []), [], [])
def u_rkd : List (Nat × TP × EX × Nat × Nat) := [(71, ([(0, (0, 0, (0, [(1, 0)])))], [(0, 0, (3, []))], ([(20, 20)], [], [], [], [], [], []), [], []), ((-1), []), 0, 0)]
def D_rkd : DT := (mkD iX12_rank fX12 lX12 kX12 kkX12 412 [] (w_rkd, [], [], 1, 0, 0, 3) false 1 u_rkd)
theorem k_rkd : chkS D_rkd 4000 0 0 0 = true := by decide +kernel
theorem s_rkd {X0 : zC0} {E : zCx} (H : ∀ j, j < 412 → CMj X0 j) (hE : zOk E X0 RX12 cX12_rank 1 (zrm 1 0 0)) {K : Nat → Nat} {B : Int} {L : List Nat} {f : Nat → va_E} (hh : hok X0.2.2.1 K B L f) {v0 : Int} (hb0 : 20 ≤ v0 ∧ v0 ≤ 20) (k71 : ∀ (K' : Nat → Nat) (B' : Int) (L' : List Nat) (f' : Nat → va_E), hok X0.2.2.1 K' B' L' f' → extC [] K B L f K' B' L' f' → (20 ≤ v0 ∧ v0 ≤ 20) → eW E 0 0 L' f' 71 [(0, .int (Int32.ofInt v0))] [.int (Int32.ofInt 3)]) : eW E 0 0 L f 0 [(0, .int (Int32.ofInt v0))] [] := by
  obtain ⟨l0, D0, cy0, ax0⟩ := X0
  have hraw : eW E 0 0 L f 0 [(0, .int (Int32.ofInt (0 + (1 * v0 + 0))))] [] := ?_
  · simpa only [Int.zero_add, Int.one_mul, Int.add_zero] using hraw
  refine seg_ok (D := D_rkd) (νi := fun i => [v0].getD i 0) (μi := fun i => [].getD i 0) k_rkd hE (mk_ok (ins := iX12_rank) jX12_rank fX12_ok lX12_ok kX12_ok kkX12_ok H) (by decide) rfl rfl rfl rfl hh ?_ ?_
  · refine ⟨(eok_of (fun i q hq => ?_) (fun i hi => ?_)), fa0, fa0, ?_, fa0, fa0, fa0⟩
    · match i, hq with
      | 0, hq => cases hq; exact hb0
      | i + 1, hq => cases hq
    · match i, hi with
      | 0, hi => exact absurd hi (by decide)
      | i + 1, _ => rfl
    · intro i k hk
      match i, hk with

      | i + 0, hk => cases hk
  · intro q hq hst K' B' L' f' ν μ h1 h2 h3 h4 h5
    have e0 : ν 0 = v0 := h4 0 (by decide)
    subst e0
    replace hq : q ∈ u_rkd := hq
    unfold u_rkd at hq
    simp only [List.mem_cons, List.not_mem_nil, or_false] at hq
    rcases hq with rfl
    · have hst2 : eW E 0 0 L' f' 71 [(0, .int (Int32.ofInt (0 + (1 * ν 0 + 0))))] [.int (Int32.ofInt (3 + 0))] := ?_
      · exact hst2
      try simp only [Int.zero_add, Int.one_mul, Int.add_zero]
      exact k71 K' B' L' f'   h1 h2 (h3.1 0)

/-! rke: from 0 to [71] -/
def w_rke : TP := ([(0, (0, 0, (0, [(1, 0)])))], [], ([(10, 15)], [], [], [], [], [], []), [], [])
def u_rke : List (Nat × TP × EX × Nat × Nat) := [(71, ([(0, (0, 0, (0, [(1, 0)])))], [(0, 0, (4, []))], ([(10, 15)], [], [], [], [], [], []), [], []), ((-1), []), 0, 0)]
def D_rke : DT := (mkD iX12_rank fX12 lX12 kX12 kkX12 412 [] (w_rke, [], [], 1, 0, 0, 3) false 1 u_rke)
theorem k_rke : chkS D_rke 4000 0 0 0 = true := by decide +kernel
theorem s_rke {X0 : zC0} {E : zCx} (H : ∀ j, j < 412 → CMj X0 j) (hE : zOk E X0 RX12 cX12_rank 1 (zrm 1 0 0)) {K : Nat → Nat} {B : Int} {L : List Nat} {f : Nat → va_E} (hh : hok X0.2.2.1 K B L f) {v0 : Int} (hb0 : 10 ≤ v0 ∧ v0 ≤ 15) (k71 : ∀ (K' : Nat → Nat) (B' : Int) (L' : List Nat) (f' : Nat → va_E), hok X0.2.2.1 K' B' L' f' → extC [] K B L f K' B' L' f' → (10 ≤ v0 ∧ v0 ≤ 15) → eW E 0 0 L' f' 71 [(0, .int (Int32.ofInt v0))] [.int (Int32.ofInt 4)]) : eW E 0 0 L f 0 [(0, .int (Int32.ofInt v0))] [] := by
  obtain ⟨l0, D0, cy0, ax0⟩ := X0
  have hraw : eW E 0 0 L f 0 [(0, .int (Int32.ofInt (0 + (1 * v0 + 0))))] [] := ?_
  · simpa only [Int.zero_add, Int.one_mul, Int.add_zero] using hraw
  refine seg_ok (D := D_rke) (νi := fun i => [v0].getD i 0) (μi := fun i => [].getD i 0) k_rke hE (mk_ok (ins := iX12_rank) jX12_rank fX12_ok lX12_ok kX12_ok kkX12_ok H) (by decide) rfl rfl rfl rfl hh ?_ ?_
  · refine ⟨(eok_of (fun i q hq => ?_) (fun i hi => ?_)), fa0, fa0, ?_, fa0, fa0, fa0⟩
    · match i, hq with
      | 0, hq => cases hq; exact hb0
      | i + 1, hq => cases hq
    · match i, hi with
      | 0, hi => exact absurd hi (by decide)
      | i + 1, _ => rfl
    · intro i k hk
      match i, hk with

      | i + 0, hk => cases hk
  · intro q hq hst K' B' L' f' ν μ h1 h2 h3 h4 h5
    have e0 : ν 0 = v0 := h4 0 (by decide)
    subst e0
    replace hq : q ∈ u_rke := hq
    unfold u_rke at hq
    simp only [List.mem_cons, List.not_mem_nil, or_false] at hq
    rcases hq with rfl
    · have hst2 : eW E 0 0 L' f' 71 [(0, .int (Int32.ofInt (0 + (1 * ν 0 + 0))))] [.int (Int32.ofInt (4 + 0))] := ?_
      · exact hst2
      try simp only [Int.zero_add, Int.one_mul, Int.add_zero]
      exact k71 K' B' L' f'   h1 h2 (h3.1 0)

/-! rkf: from 0 to [71] -/
def w_rkf : TP := ([(0, (0, 0, (0, [(1, 0)])))], [], ([(2, 2)], [], [], [], [], [], []), [], [])
def u_rkf : List (Nat × TP × EX × Nat × Nat) := [(71, ([(0, (0, 0, (0, [(1, 0)])))], [(0, 0, (7, []))], ([(2, 2)], [], [], [], [], [], []), [], []), ((-1), []), 0, 0)]
def D_rkf : DT := (mkD iX12_rank fX12 lX12 kX12 kkX12 412 [] (w_rkf, [], [], 1, 0, 0, 3) false 1 u_rkf)
theorem k_rkf : chkS D_rkf 4000 0 0 0 = true := by decide +kernel
theorem s_rkf {X0 : zC0} {E : zCx} (H : ∀ j, j < 412 → CMj X0 j) (hE : zOk E X0 RX12 cX12_rank 1 (zrm 1 0 0)) {K : Nat → Nat} {B : Int} {L : List Nat} {f : Nat → va_E} (hh : hok X0.2.2.1 K B L f) {v0 : Int} (hb0 : 2 ≤ v0 ∧ v0 ≤ 2) (k71 : ∀ (K' : Nat → Nat) (B' : Int) (L' : List Nat) (f' : Nat → va_E), hok X0.2.2.1 K' B' L' f' → extC [] K B L f K' B' L' f' → (2 ≤ v0 ∧ v0 ≤ 2) → eW E 0 0 L' f' 71 [(0, .int (Int32.ofInt v0))] [.int (Int32.ofInt 7)]) : eW E 0 0 L f 0 [(0, .int (Int32.ofInt v0))] [] := by
  obtain ⟨l0, D0, cy0, ax0⟩ := X0
  have hraw : eW E 0 0 L f 0 [(0, .int (Int32.ofInt (0 + (1 * v0 + 0))))] [] := ?_
  · simpa only [Int.zero_add, Int.one_mul, Int.add_zero] using hraw
  refine seg_ok (D := D_rkf) (νi := fun i => [v0].getD i 0) (μi := fun i => [].getD i 0) k_rkf hE (mk_ok (ins := iX12_rank) jX12_rank fX12_ok lX12_ok kX12_ok kkX12_ok H) (by decide) rfl rfl rfl rfl hh ?_ ?_
  · refine ⟨(eok_of (fun i q hq => ?_) (fun i hi => ?_)), fa0, fa0, ?_, fa0, fa0, fa0⟩
    · match i, hq with
      | 0, hq => cases hq; exact hb0
      | i + 1, hq => cases hq
    · match i, hi with
      | 0, hi => exact absurd hi (by decide)
      | i + 1, _ => rfl
    · intro i k hk
      match i, hk with

      | i + 0, hk => cases hk
  · intro q hq hst K' B' L' f' ν μ h1 h2 h3 h4 h5
    have e0 : ν 0 = v0 := h4 0 (by decide)
    subst e0
    replace hq : q ∈ u_rkf := hq
    unfold u_rkf at hq
    simp only [List.mem_cons, List.not_mem_nil, or_false] at hq
    rcases hq with rfl
    · have hst2 : eW E 0 0 L' f' 71 [(0, .int (Int32.ofInt (0 + (1 * ν 0 + 0))))] [.int (Int32.ofInt (7 + 0))] := ?_
      · exact hst2
      try simp only [Int.zero_add, Int.one_mul, Int.add_zero]
      exact k71 K' B' L' f'   h1 h2 (h3.1 0)

/-! rkg: from 0 to [71] -/
def w_rkg : TP := ([(0, (0, 0, (0, [(1, 0)])))], [], ([(5, 6)], [], [], [], [], [], []), [], [])
def u_rkg : List (Nat × TP × EX × Nat × Nat) := [(71, ([(0, (0, 0, (0, [(1, 0)])))], [(0, 0, (6, []))], ([(5, 6)], [], [], [], [], [], []), [], []), ((-1), []), 0, 0)]
def D_rkg : DT := (mkD iX12_rank fX12 lX12 kX12 kkX12 412 [] (w_rkg, [], [], 1, 0, 0, 3) false 1 u_rkg)
theorem k_rkg : chkS D_rkg 4000 0 0 0 = true := by decide +kernel
theorem s_rkg {X0 : zC0} {E : zCx} (H : ∀ j, j < 412 → CMj X0 j) (hE : zOk E X0 RX12 cX12_rank 1 (zrm 1 0 0)) {K : Nat → Nat} {B : Int} {L : List Nat} {f : Nat → va_E} (hh : hok X0.2.2.1 K B L f) {v0 : Int} (hb0 : 5 ≤ v0 ∧ v0 ≤ 6) (k71 : ∀ (K' : Nat → Nat) (B' : Int) (L' : List Nat) (f' : Nat → va_E), hok X0.2.2.1 K' B' L' f' → extC [] K B L f K' B' L' f' → (5 ≤ v0 ∧ v0 ≤ 6) → eW E 0 0 L' f' 71 [(0, .int (Int32.ofInt v0))] [.int (Int32.ofInt 6)]) : eW E 0 0 L f 0 [(0, .int (Int32.ofInt v0))] [] := by
  obtain ⟨l0, D0, cy0, ax0⟩ := X0
  have hraw : eW E 0 0 L f 0 [(0, .int (Int32.ofInt (0 + (1 * v0 + 0))))] [] := ?_
  · simpa only [Int.zero_add, Int.one_mul, Int.add_zero] using hraw
  refine seg_ok (D := D_rkg) (νi := fun i => [v0].getD i 0) (μi := fun i => [].getD i 0) k_rkg hE (mk_ok (ins := iX12_rank) jX12_rank fX12_ok lX12_ok kX12_ok kkX12_ok H) (by decide) rfl rfl rfl rfl hh ?_ ?_
  · refine ⟨(eok_of (fun i q hq => ?_) (fun i hi => ?_)), fa0, fa0, ?_, fa0, fa0, fa0⟩
    · match i, hq with
      | 0, hq => cases hq; exact hb0
      | i + 1, hq => cases hq
    · match i, hi with
      | 0, hi => exact absurd hi (by decide)
      | i + 1, _ => rfl
    · intro i k hk
      match i, hk with

      | i + 0, hk => cases hk
  · intro q hq hst K' B' L' f' ν μ h1 h2 h3 h4 h5
    have e0 : ν 0 = v0 := h4 0 (by decide)
    subst e0
    replace hq : q ∈ u_rkg := hq
    unfold u_rkg at hq
    simp only [List.mem_cons, List.not_mem_nil, or_false] at hq
    rcases hq with rfl
    · have hst2 : eW E 0 0 L' f' 71 [(0, .int (Int32.ofInt (0 + (1 * ν 0 + 0))))] [.int (Int32.ofInt (6 + 0))] := ?_
      · exact hst2
      try simp only [Int.zero_add, Int.one_mul, Int.add_zero]
      exact k71 K' B' L' f'   h1 h2 (h3.1 0)

/-! rkh: from 0 to [71] -/
def w_rkh : TP := ([(0, (0, 0, (0, [(1, 0)])))], [], ([(3, 4)], [], [], [], [], [], []), [], [])
def u_rkh : List (Nat × TP × EX × Nat × Nat) := [(71, ([(0, (0, 0, (0, [(1, 0)])))], [(0, 0, (5, []))], ([(3, 4)], [], [], [], [], [], []), [], []), ((-1), []), 0, 0)]
def D_rkh : DT := (mkD iX12_rank fX12 lX12 kX12 kkX12 412 [] (w_rkh, [], [], 1, 0, 0, 3) false 1 u_rkh)
theorem k_rkh : chkS D_rkh 4000 0 0 0 = true := by decide +kernel
theorem s_rkh {X0 : zC0} {E : zCx} (H : ∀ j, j < 412 → CMj X0 j) (hE : zOk E X0 RX12 cX12_rank 1 (zrm 1 0 0)) {K : Nat → Nat} {B : Int} {L : List Nat} {f : Nat → va_E} (hh : hok X0.2.2.1 K B L f) {v0 : Int} (hb0 : 3 ≤ v0 ∧ v0 ≤ 4) (k71 : ∀ (K' : Nat → Nat) (B' : Int) (L' : List Nat) (f' : Nat → va_E), hok X0.2.2.1 K' B' L' f' → extC [] K B L f K' B' L' f' → (3 ≤ v0 ∧ v0 ≤ 4) → eW E 0 0 L' f' 71 [(0, .int (Int32.ofInt v0))] [.int (Int32.ofInt 5)]) : eW E 0 0 L f 0 [(0, .int (Int32.ofInt v0))] [] := by
  obtain ⟨l0, D0, cy0, ax0⟩ := X0
  have hraw : eW E 0 0 L f 0 [(0, .int (Int32.ofInt (0 + (1 * v0 + 0))))] [] := ?_
  · simpa only [Int.zero_add, Int.one_mul, Int.add_zero] using hraw
  refine seg_ok (D := D_rkh) (νi := fun i => [v0].getD i 0) (μi := fun i => [].getD i 0) k_rkh hE (mk_ok (ins := iX12_rank) jX12_rank fX12_ok lX12_ok kX12_ok kkX12_ok H) (by decide) rfl rfl rfl rfl hh ?_ ?_
  · refine ⟨(eok_of (fun i q hq => ?_) (fun i hi => ?_)), fa0, fa0, ?_, fa0, fa0, fa0⟩
    · match i, hq with
      | 0, hq => cases hq; exact hb0
      | i + 1, hq => cases hq
    · match i, hi with
      | 0, hi => exact absurd hi (by decide)
      | i + 1, _ => rfl
    · intro i k hk
      match i, hk with

      | i + 0, hk => cases hk
  · intro q hq hst K' B' L' f' ν μ h1 h2 h3 h4 h5
    have e0 : ν 0 = v0 := h4 0 (by decide)
    subst e0
    replace hq : q ∈ u_rkh := hq
    unfold u_rkh at hq
    simp only [List.mem_cons, List.not_mem_nil, or_false] at hq
    rcases hq with rfl
    · have hst2 : eW E 0 0 L' f' 71 [(0, .int (Int32.ofInt (0 + (1 * ν 0 + 0))))] [.int (Int32.ofInt (5 + 0))] := ?_
      · exact hst2
      try simp only [Int.zero_add, Int.one_mul, Int.add_zero]
      exact k71 K' B' L' f'   h1 h2 (h3.1 0)
