/-! bg0: from 0 to [2] -/
def w_bg0 : TP := ([(0, (2, 0, (0, [])))], [], ([], [], [], [200], [], [], []), [], [])
def u_bg0 : List (Nat × TP × EX × Nat × Nat) := [(2, ([(0, (2, 0, (0, []))), (1, (0, 0, (0, [])))], [], ([], [], [], [200], [], [], []), [], []), ((-1), []), 0, 0)]
def D_bg0 : DT := (mkD iX12_begin fX12 lX12 kX12 kkX12 324 [] (w_bg0, [], [], 2, 0, 0, 3) false 2 u_bg0)
theorem k_bg0 : chkS D_bg0 4000 0 0 0 = true := by decide +kernel
theorem s_bg0 {X0 : zC0} {E : zCx} (H : ∀ j, j < 324 → CMj X0 j) (hE : zOk E X0 RX12 cX12_begin 2 (zrm 2 0 0)) {K : Nat → Nat} {B : Int} {L : List Nat} {f : Nat → va_E} (hh : hok X0.2.2.1 K B L f) {r0 : Nat} (hr0 : r0 ∈ L ∧ K r0 = 200) (k2 : ∀ (K' : Nat → Nat) (B' : Int) (L' : List Nat) (f' : Nat → va_E), hok X0.2.2.1 K' B' L' f' → extC [] K B L f K' B' L' f' → (r0 ∈ L' ∧ K' r0 = 200) → eW E 0 0 L' f' 2 [(0, .ref r0), (1, .int (Int32.ofInt 0))] []) : eW E 0 0 L f 0 [(0, .ref r0)] [] := by
  obtain ⟨l0, D0, cy0, ax0⟩ := X0
  have hraw : eW E 0 0 L f 0 [(0, .ref r0)] [] := ?_
  · simpa only [Int.zero_add, Int.one_mul, Int.add_zero] using hraw
  refine seg_ok (D := D_bg0) (νi := fun i => [].getD i 0) (μi := fun i => [r0].getD i 0) k_bg0 hE (mk_ok (ins := iX12_begin) jX12_begin fX12_ok lX12_ok kX12_ok kkX12_ok H) (by decide) rfl rfl rfl rfl hh ?_ ?_
  · refine ⟨(eok_of (fun i q hq => by cases hq) (fun i _ => rfl)), fa0, fa0, ?_, fa0, fa0, fa0⟩
    · intro i k hk
      match i, hk with
      | 0, hk => cases hk; exact hr0
      | i + 1, hk => cases hk
  · intro q hq hst K' B' L' f' ν μ h1 h2 h3 h4 h5
    have d0 : μ 0 = r0 := h5 0 (by decide)
    subst d0
    replace hq : q ∈ u_bg0 := hq
    unfold u_bg0 at hq
    simp only [List.mem_cons, List.not_mem_nil, or_false] at hq
    rcases hq with rfl
    · have hst2 : eW E 0 0 L' f' 2 [(0, .ref (μ 0)), (1, .int (Int32.ofInt (0 + 0)))] [] := ?_
      · exact hst2
      try simp only [Int.zero_add, Int.one_mul, Int.add_zero]
      exact k2 K' B' L' f'   h1 h2 (h3.2.2.2.1 0 200 rfl)

/-! bg2: from 2 to [19, 26] -/
def w_bg2 : TP := ([(0, (2, 0, (0, []))), (1, (0, 0, (0, [(1, 0)])))], [], ([(0, 114)], [], [], [200], [], [], []), [], [])
def u_bg2 : List (Nat × TP × EX × Nat × Nat) := [(19, ([(0, (2, 0, (0, []))), (1, (0, 0, (0, [(1, 0)])))], [(0, 0, (0, [(1, 1)])), (0, 0, (0, [(1, 0)])), (2, 1, (0, []))], ([(0, 113), ((-2147483648), 2147483647)], [], [], [200, 217], [((201, (0, [(1, 0)])), (0, [(1, 1)]))], [], []), [(1, 0, (0, []))], [(1, 2)]), ((-1), []), 0, 0), (26, ([(0, (2, 0, (0, []))), (1, (0, 0, (0, [(1, 0)])))], [], ([(114, 114)], [], [], [200], [], [], []), [], []), ((-1), []), 0, 0)]
def D_bg2 : DT := (mkD iX12_begin fX12 lX12 kX12 kkX12 324 [] (w_bg2, [], [], 2, 0, 0, 3) false 2 u_bg2)
theorem k_bg2 : chkS D_bg2 4000 0 0 2 = true := by decide +kernel
theorem s_bg2 {X0 : zC0} {E : zCx} (H : ∀ j, j < 324 → CMj X0 j) (hE : zOk E X0 RX12 cX12_begin 2 (zrm 2 0 0)) {K : Nat → Nat} {B : Int} {L : List Nat} {f : Nat → va_E} (hh : hok X0.2.2.1 K B L f) {v0 : Int} {r0 : Nat} (hb0 : 0 ≤ v0 ∧ v0 ≤ 114) (hr0 : r0 ∈ L ∧ K r0 = 200) (k19 : ∀ (K' : Nat → Nat) (B' : Int) (L' : List Nat) (f' : Nat → va_E) (v1 : Int) (r1 : Nat), hok X0.2.2.1 K' B' L' f' → extC [] K B L f K' B' L' f' → (0 ≤ v0 ∧ v0 ≤ 113) → ((-2147483648) ≤ v1 ∧ v1 ≤ 2147483647) → (r0 ∈ L' ∧ K' r0 = 200) → (r1 ∈ L' ∧ K' r1 = 217) → (∀ b ∈ L', K' b = 201 → (0 : Int) ≤ v0 ∧ gi (f' b) ((v0 : Int)).toNat = v1) → eW E 0 0 L' f' 19 [(0, .ref r0), (1, .int (Int32.ofInt v0))] [.int (Int32.ofInt v1), .int (Int32.ofInt v0), .ref r1]) (k26 : ∀ (K' : Nat → Nat) (B' : Int) (L' : List Nat) (f' : Nat → va_E), hok X0.2.2.1 K' B' L' f' → extC [] K B L f K' B' L' f' → (114 ≤ v0 ∧ v0 ≤ 114) → (r0 ∈ L' ∧ K' r0 = 200) → eW E 0 0 L' f' 26 [(0, .ref r0), (1, .int (Int32.ofInt v0))] []) : eW E 0 0 L f 2 [(0, .ref r0), (1, .int (Int32.ofInt v0))] [] := by
  obtain ⟨l0, D0, cy0, ax0⟩ := X0
  have hraw : eW E 0 0 L f 2 [(0, .ref r0), (1, .int (Int32.ofInt (0 + (1 * v0 + 0))))] [] := ?_
  · simpa only [Int.zero_add, Int.one_mul, Int.add_zero] using hraw
  refine seg_ok (D := D_bg2) (νi := fun i => [v0].getD i 0) (μi := fun i => [r0].getD i 0) k_bg2 hE (mk_ok (ins := iX12_begin) jX12_begin fX12_ok lX12_ok kX12_ok kkX12_ok H) (by decide) rfl rfl rfl rfl hh ?_ ?_
  · refine ⟨(eok_of (fun i q hq => ?_) (fun i hi => ?_)), fa0, fa0, ?_, fa0, fa0, fa0⟩
    · match i, hq with
      | 0, hq => cases hq; exact hb0
      | i + 1, hq => cases hq
    · match i, hi with
      | 0, hi => exact absurd hi (by decide)
      | i + 1, _ => rfl
    · intro i k hk
      match i, hk with
      | 0, hk => cases hk; exact hr0
      | i + 1, hk => cases hk
  · intro q hq hst K' B' L' f' ν μ h1 h2 h3 h4 h5
    have e0 : ν 0 = v0 := h4 0 (by decide)
    have d0 : μ 0 = r0 := h5 0 (by decide)
    subst e0
    subst d0
    replace hq : q ∈ u_bg2 := hq
    unfold u_bg2 at hq
    simp only [List.mem_cons, List.not_mem_nil, or_false] at hq
    rcases hq with rfl | rfl
    · have hst2 : eW E 0 0 L' f' 19 [(0, .ref (μ 0)), (1, .int (Int32.ofInt (0 + (1 * ν 0 + 0))))] [.int (Int32.ofInt (0 + (1 * ν 1 + 0))), .int (Int32.ofInt (0 + (1 * ν 0 + 0))), .ref (μ 1)] := ?_
      · exact hst2
      try simp only [Int.zero_add, Int.one_mul, Int.add_zero]
      exact k19 K' B' L' f' (ν 1) (μ 1) h1 h2 (h3.1 0) (h3.1 1) (h3.2.2.2.1 0 200 rfl) (h3.2.2.2.1 1 217 rfl) (by simpa only [xv, xvT, Int.zero_add, Int.one_mul, Int.add_zero] using (mokA h1 (show (zkd 201).1 = 2 by decide) (by decide) (h3.2.2.2.2.1 _ (List.mem_of_getElem? (i := 0) rfl))))
    · have hst2 : eW E 0 0 L' f' 26 [(0, .ref (μ 0)), (1, .int (Int32.ofInt (0 + (1 * ν 0 + 0))))] [] := ?_
      · exact hst2
      try simp only [Int.zero_add, Int.one_mul, Int.add_zero]
      exact k26 K' B' L' f'   h1 h2 (h3.1 0) (h3.2.2.2.1 0 200 rfl)

/-! bg20: from 20 to [2] -/
def w_bg20 : TP := ([(0, (2, 0, (0, []))), (1, (0, 0, (0, [(1, 0)])))], [], ([(0, 113)], [], [], [200], [], [], []), [], [])
def u_bg20 : List (Nat × TP × EX × Nat × Nat) := [(2, ([(0, (2, 0, (0, []))), (1, (0, 0, (1, [(1, 0)])))], [], ([(0, 113)], [], [], [200], [], [], []), [], []), ((-1), []), 0, 0)]
def D_bg20 : DT := (mkD iX12_begin fX12 lX12 kX12 kkX12 324 [] (w_bg20, [], [], 2, 0, 0, 3) false 2 u_bg20)
theorem k_bg20 : chkS D_bg20 4000 0 0 20 = true := by decide +kernel
theorem s_bg20 {X0 : zC0} {E : zCx} (H : ∀ j, j < 324 → CMj X0 j) (hE : zOk E X0 RX12 cX12_begin 2 (zrm 2 0 0)) {K : Nat → Nat} {B : Int} {L : List Nat} {f : Nat → va_E} (hh : hok X0.2.2.1 K B L f) {v0 : Int} {r0 : Nat} (hb0 : 0 ≤ v0 ∧ v0 ≤ 113) (hr0 : r0 ∈ L ∧ K r0 = 200) (k2 : ∀ (K' : Nat → Nat) (B' : Int) (L' : List Nat) (f' : Nat → va_E), hok X0.2.2.1 K' B' L' f' → extC [] K B L f K' B' L' f' → (0 ≤ v0 ∧ v0 ≤ 113) → (r0 ∈ L' ∧ K' r0 = 200) → eW E 0 0 L' f' 2 [(0, .ref r0), (1, .int (Int32.ofInt (1 + v0)))] []) : eW E 0 0 L f 20 [(0, .ref r0), (1, .int (Int32.ofInt v0))] [] := by
  obtain ⟨l0, D0, cy0, ax0⟩ := X0
  have hraw : eW E 0 0 L f 20 [(0, .ref r0), (1, .int (Int32.ofInt (0 + (1 * v0 + 0))))] [] := ?_
  · simpa only [Int.zero_add, Int.one_mul, Int.add_zero] using hraw
  refine seg_ok (D := D_bg20) (νi := fun i => [v0].getD i 0) (μi := fun i => [r0].getD i 0) k_bg20 hE (mk_ok (ins := iX12_begin) jX12_begin fX12_ok lX12_ok kX12_ok kkX12_ok H) (by decide) rfl rfl rfl rfl hh ?_ ?_
  · refine ⟨(eok_of (fun i q hq => ?_) (fun i hi => ?_)), fa0, fa0, ?_, fa0, fa0, fa0⟩
    · match i, hq with
      | 0, hq => cases hq; exact hb0
      | i + 1, hq => cases hq
    · match i, hi with
      | 0, hi => exact absurd hi (by decide)
      | i + 1, _ => rfl
    · intro i k hk
      match i, hk with
      | 0, hk => cases hk; exact hr0
      | i + 1, hk => cases hk
  · intro q hq hst K' B' L' f' ν μ h1 h2 h3 h4 h5
    have e0 : ν 0 = v0 := h4 0 (by decide)
    have d0 : μ 0 = r0 := h5 0 (by decide)
    subst e0
    subst d0
    replace hq : q ∈ u_bg20 := hq
    unfold u_bg20 at hq
    simp only [List.mem_cons, List.not_mem_nil, or_false] at hq
    rcases hq with rfl
    · have hst2 : eW E 0 0 L' f' 2 [(0, .ref (μ 0)), (1, .int (Int32.ofInt (1 + (1 * ν 0 + 0))))] [] := ?_
      · exact hst2
      try simp only [Int.zero_add, Int.one_mul, Int.add_zero]
      exact k2 K' B' L' f'   h1 h2 (h3.1 0) (h3.2.2.2.1 0 200 rfl)

/-! bg26: from 26 to [67] -/
def w_bg26 : TP := ([(0, (2, 0, (0, []))), (1, (0, 0, (0, [(1, 0)])))], [], ([(0, 114)], [], [], [200], [], [], []), [], [])
def u_bg26 : List (Nat × TP × EX × Nat × Nat) := [(28, ([(0, (2, 0, (0, []))), (1, (0, 0, (0, [(1, 1)])))], [], ([(0, 114), (0, 8)], [], [], [200], [], [], []), [(0, 1, (0, []))], []), (8, [((-1), 1)]), 0, 0), (67, ([(0, (2, 0, (0, []))), (1, (0, 0, (0, [(1, 1)])))], [], ([(0, 114), (8, 8), (0, 999)], [], [], [200], [((200, (38, [])), (0, [])), ((200, (40, [])), (0, [])), ((200, (36, [])), (0, [(1, 2)])), ((201, (2, [])), (0, [(1, 2)]))], [], []), [(0, 1, (0, [])), (2, 200, (36, []))], []), ((-1), []), 0, 0)]
def D_bg26 : DT := (mkD iX12_begin fX12 lX12 kX12 kkX12 324 [] (w_bg26, [(200, 36), (200, 38), (200, 40), (216, 0)], [], 2, 0, 0, 3) false 2 u_bg26)
theorem k_bg26 : chkS D_bg26 4000 0 0 26 = true := by decide +kernel
theorem s_bg26 {X0 : zC0} {E : zCx} (H : ∀ j, j < 324 → CMj X0 j) (hE : zOk E X0 RX12 cX12_begin 2 (zrm 2 0 0)) {K : Nat → Nat} {B : Int} {L : List Nat} {f : Nat → va_E} (hh : hok X0.2.2.1 K B L f) {v0 : Int} {r0 : Nat} (hb0 : 0 ≤ v0 ∧ v0 ≤ 114) (hr0 : r0 ∈ L ∧ K r0 = 200) (k67 : ∀ (K' : Nat → Nat) (B' : Int) (L' : List Nat) (f' : Nat → va_E) (v1 v2 : Int), hok X0.2.2.1 K' B' L' f' → extC [(200, 36), (200, 38), (200, 40), (216, 0)] K B L f K' B' L' f' → (0 ≤ v0 ∧ v0 ≤ 114) → (8 ≤ v1 ∧ v1 ≤ 8) → (0 ≤ v2 ∧ v2 ≤ 999) → (r0 ∈ L' ∧ K' r0 = 200) → (∀ b ∈ L', K' b = 200 → gi (f' b) 38 = 0) → (∀ b ∈ L', K' b = 200 → gi (f' b) 40 = 0) → (∀ b ∈ L', K' b = 200 → gi (f' b) 36 = v2) → (∀ b ∈ L', K' b = 201 → (0 : Int) ≤ 2 ∧ gi (f' b) ((2 : Int)).toNat = v2) → eW E 0 0 L' f' 67 [(0, .ref r0), (1, .int (Int32.ofInt v1))] []) : eW E 0 0 L f 26 [(0, .ref r0), (1, .int (Int32.ofInt v0))] [] := by
  obtain ⟨l0, D0, cy0, ax0⟩ := X0
  have hraw : eW E 0 0 L f 26 [(0, .ref r0), (1, .int (Int32.ofInt (0 + (1 * v0 + 0))))] [] := ?_
  · simpa only [Int.zero_add, Int.one_mul, Int.add_zero] using hraw
  refine seg_ok (D := D_bg26) (νi := fun i => [v0].getD i 0) (μi := fun i => [r0].getD i 0) k_bg26 hE (mk_ok (ins := iX12_begin) jX12_begin fX12_ok lX12_ok kX12_ok kkX12_ok H) (by decide) rfl rfl rfl rfl hh ?_ ?_
  · refine ⟨(eok_of (fun i q hq => ?_) (fun i hi => ?_)), fa0, fa0, ?_, fa0, fa0, fa0⟩
    · match i, hq with
      | 0, hq => cases hq; exact hb0
      | i + 1, hq => cases hq
    · match i, hi with
      | 0, hi => exact absurd hi (by decide)
      | i + 1, _ => rfl
    · intro i k hk
      match i, hk with
      | 0, hk => cases hk; exact hr0
      | i + 1, hk => cases hk
  · intro q hq hst K' B' L' f' ν μ h1 h2 h3 h4 h5
    have e0 : ν 0 = v0 := h4 0 (by decide)
    have d0 : μ 0 = r0 := h5 0 (by decide)
    subst e0
    subst d0
    replace hq : q ∈ u_bg26 := hq
    unfold u_bg26 at hq
    simp only [List.mem_cons, List.not_mem_nil, or_false] at hq
    rcases hq with rfl | rfl
    · exact absurd hst (by decide)
    · have hst2 : eW E 0 0 L' f' 67 [(0, .ref (μ 0)), (1, .int (Int32.ofInt (0 + (1 * ν 1 + 0))))] [] := ?_
      · exact hst2
      try simp only [Int.zero_add, Int.one_mul, Int.add_zero]
      exact k67 K' B' L' f' (ν 1) (ν 2)  h1 h2 (h3.1 0) (h3.1 1) (h3.1 2) (h3.2.2.2.1 0 200 rfl) (by simpa only [xv, xvT, Int.zero_add, Int.one_mul, Int.add_zero] using (mokF h1 (show (zkd 200).1 = 1 by decide) (j := 38) rfl (by decide) (h3.2.2.2.2.1 _ (List.mem_of_getElem? (i := 0) rfl)))) (by simpa only [xv, xvT, Int.zero_add, Int.one_mul, Int.add_zero] using (mokF h1 (show (zkd 200).1 = 1 by decide) (j := 40) rfl (by decide) (h3.2.2.2.2.1 _ (List.mem_of_getElem? (i := 1) rfl)))) (by simpa only [xv, xvT, Int.zero_add, Int.one_mul, Int.add_zero] using (mokF h1 (show (zkd 200).1 = 1 by decide) (j := 36) rfl (by decide) (h3.2.2.2.2.1 _ (List.mem_of_getElem? (i := 2) rfl)))) (by simpa only [xv, xvT, Int.zero_add, Int.one_mul, Int.add_zero] using (mokA h1 (show (zkd 201).1 = 2 by decide) (by decide) (h3.2.2.2.2.1 _ (List.mem_of_getElem? (i := 3) rfl))))
