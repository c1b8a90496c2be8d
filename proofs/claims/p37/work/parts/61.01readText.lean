/-! bt49: from 49 to [55, 57] -/
def w_bt49 : TP := ([(0, (2, 0, (0, [])))], [(0, 0, (0, [(1, 0)]))], ([((-2147483648), 2147483647)], [], [], [200], [], [], []), [], [])
def u_bt49 : List (Nat × TP × EX × Nat × Nat) := [(55, ([(0, (2, 0, (0, [])))], [(0, 0, ((-1), []))], ([((-2147483648), 2147483647)], [], [], [200], [], [], []), [], []), ((-1), []), 0, 0), (57, ([(0, (2, 0, (0, [])))], [(2, 0, (0, []))], ([(42, 42)], [], [], [200], [], [], []), [], []), ((-1), []), 0, 0)]
def D_bt49 : DT := (mkD iX12_betweenOf fX12 lX12 kX12 kkX12 412 [] (w_bt49, [], [], 6, 0, 0, 3) false 1 u_bt49)
theorem k_bt49 : chkS D_bt49 4000 0 0 49 = true := by decide +kernel
theorem s_bt49 {X0 : zC0} {E : zCx} (H : ∀ j, j < 412 → CMj X0 j) (hE : zOk E X0 RX12 cX12_betweenOf 1 (zrm 6 0 0)) {K : Nat → Nat} {B : Int} {L : List Nat} {f : Nat → va_E} (hh : hok X0.2.2.1 K B L f) {v0 : Int} {r0 : Nat} (hb0 : (-2147483648) ≤ v0 ∧ v0 ≤ 2147483647) (hr0 : r0 ∈ L ∧ K r0 = 200) (k55 : ∀ (K' : Nat → Nat) (B' : Int) (L' : List Nat) (f' : Nat → va_E), hok X0.2.2.1 K' B' L' f' → extC [] K B L f K' B' L' f' → ((-2147483648) ≤ v0 ∧ v0 ≤ 2147483647) → (r0 ∈ L' ∧ K' r0 = 200) → eW E 0 0 L' f' 55 [(0, .ref r0)] [.int (Int32.ofInt (-1))]) (k57 : ∀ (K' : Nat → Nat) (B' : Int) (L' : List Nat) (f' : Nat → va_E), hok X0.2.2.1 K' B' L' f' → extC [] K B L f K' B' L' f' → (42 ≤ v0 ∧ v0 ≤ 42) → (r0 ∈ L' ∧ K' r0 = 200) → eW E 0 0 L' f' 57 [(0, .ref r0)] [.ref r0]) : eW E 0 0 L f 49 [(0, .ref r0)] [.int (Int32.ofInt v0)] := by
  obtain ⟨l0, D0, cy0, ax0⟩ := X0
  have hraw : eW E 0 0 L f 49 [(0, .ref r0)] [.int (Int32.ofInt (0 + (1 * v0 + 0)))] := ?_
  · simpa only [Int.zero_add, Int.one_mul, Int.add_zero] using hraw
  refine seg_ok (D := D_bt49) (νi := fun i => [v0].getD i 0) (μi := fun i => [r0].getD i 0) k_bt49 hE (mk_ok (ins := iX12_betweenOf) jX12_betweenOf fX12_ok lX12_ok kX12_ok kkX12_ok H) (by decide) rfl rfl rfl rfl hh ?_ ?_
  · refine ⟨(eok_of (fun i q hq => ?_) (fun i hi => ?_)), fa0, fa0, ?_, fa0, fa0, fa0⟩
    · match i, hq with
      | 0, hq => cases hq; exact hb0
      | i + 1, hq => cases hq
    · match i, hi with
      | 0, hi => exact absurd hi (by decide)
      | i + 1, _ => rfl
    · intro i k hk
      match i, hk with
      | 0, hk => cases hk; exact hr0
      | i + 1, hk => cases hk
  · intro q hq hst K' B' L' f' ν μ h1 h2 h3 h4 h5
    have e0 : ν 0 = v0 := h4 0 (by decide)
    have d0 : μ 0 = r0 := h5 0 (by decide)
    subst e0
    subst d0
    replace hq : q ∈ u_bt49 := hq
    unfold u_bt49 at hq
    simp only [List.mem_cons, List.not_mem_nil, or_false] at hq
    rcases hq with rfl | rfl
    · have hst2 : eW E 0 0 L' f' 55 [(0, .ref (μ 0))] [.int (Int32.ofInt ((-1) + 0))] := ?_
      · exact hst2
      try simp only [Int.zero_add, Int.one_mul, Int.add_zero]
      exact k55 K' B' L' f'   h1 h2 (h3.1 0) (h3.2.2.2.1 0 200 rfl)
    · have hst2 : eW E 0 0 L' f' 57 [(0, .ref (μ 0))] [.ref (μ 0)] := ?_
      · exact hst2
      try simp only [Int.zero_add, Int.one_mul, Int.add_zero]
      exact k57 K' B' L' f'   h1 h2 (h3.1 0) (h3.2.2.2.1 0 200 rfl)

/-! bt60: from 60 to [64, 68] -/
def w_bt60 : TP := ([(0, (2, 0, (0, [])))], [(0, 0, (0, [(1, 0)]))], ([(0, 1)], [], [], [200], [], [], []), [], [])
def u_bt60 : List (Nat × TP × EX × Nat × Nat) := [(64, ([(0, (2, 0, (0, [])))], [(2, 0, (0, []))], ([(0, 0)], [], [], [200], [], [], []), [], []), ((-1), []), 0, 0), (68, ([(0, (2, 0, (0, [])))], [], ([(1, 1)], [], [], [200], [], [], []), [], []), ((-1), []), 0, 0)]
def D_bt60 : DT := (mkD iX12_betweenOf fX12 lX12 kX12 kkX12 412 [] (w_bt60, [], [], 6, 0, 0, 3) false 1 u_bt60)
theorem k_bt60 : chkS D_bt60 4000 0 0 60 = true := by decide +kernel
theorem s_bt60 {X0 : zC0} {E : zCx} (H : ∀ j, j < 412 → CMj X0 j) (hE : zOk E X0 RX12 cX12_betweenOf 1 (zrm 6 0 0)) {K : Nat → Nat} {B : Int} {L : List Nat} {f : Nat → va_E} (hh : hok X0.2.2.1 K B L f) {v0 : Int} {r0 : Nat} (hb0 : 0 ≤ v0 ∧ v0 ≤ 1) (hr0 : r0 ∈ L ∧ K r0 = 200) (k64 : ∀ (K' : Nat → Nat) (B' : Int) (L' : List Nat) (f' : Nat → va_E), hok X0.2.2.1 K' B' L' f' → extC [] K B L f K' B' L' f' → (0 ≤ v0 ∧ v0 ≤ 0) → (r0 ∈ L' ∧ K' r0 = 200) → eW E 0 0 L' f' 64 [(0, .ref r0)] [.ref r0]) (k68 : ∀ (K' : Nat → Nat) (B' : Int) (L' : List Nat) (f' : Nat → va_E), hok X0.2.2.1 K' B' L' f' → extC [] K B L f K' B' L' f' → (1 ≤ v0 ∧ v0 ≤ 1) → (r0 ∈ L' ∧ K' r0 = 200) → eW E 0 0 L' f' 68 [(0, .ref r0)] []) : eW E 0 0 L f 60 [(0, .ref r0)] [.int (Int32.ofInt v0)] := by
  obtain ⟨l0, D0, cy0, ax0⟩ := X0
  have hraw : eW E 0 0 L f 60 [(0, .ref r0)] [.int (Int32.ofInt (0 + (1 * v0 + 0)))] := ?_
  · simpa only [Int.zero_add, Int.one_mul, Int.add_zero] using hraw
  refine seg_ok (D := D_bt60) (νi := fun i => [v0].getD i 0) (μi := fun i => [r0].getD i 0) k_bt60 hE (mk_ok (ins := iX12_betweenOf) jX12_betweenOf fX12_ok lX12_ok kX12_ok kkX12_ok H) (by decide) rfl rfl rfl rfl hh ?_ ?_
  · refine ⟨(eok_of (fun i q hq => ?_) (fun i hi => ?_)), fa0, fa0, ?_, fa0, fa0, fa0⟩
    · match i, hq with
      | 0, hq => cases hq; exact hb0
      | i + 1, hq => cases hq
    · match i, hi with
      | 0, hi => exact absurd hi (by decide)
      | i + 1, _ => rfl
    · intro i k hk
      match i, hk with
      | 0, hk => cases hk; exact hr0
      | i + 1, hk => cases hk
  · intro q hq hst K' B' L' f' ν μ h1 h2 h3 h4 h5
    have e0 : ν 0 = v0 := h4 0 (by decide)
    have d0 : μ 0 = r0 := h5 0 (by decide)
    subst e0
    subst d0
    replace hq : q ∈ u_bt60 := hq
    unfold u_bt60 at hq
    simp only [List.mem_cons, List.not_mem_nil, or_false] at hq
    rcases hq with rfl | rfl
    · have hst2 : eW E 0 0 L' f' 64 [(0, .ref (μ 0))] [.ref (μ 0)] := ?_
      · exact hst2
      try simp only [Int.zero_add, Int.one_mul, Int.add_zero]
      exact k64 K' B' L' f'   h1 h2 (h3.1 0) (h3.2.2.2.1 0 200 rfl)
    · have hst2 : eW E 0 0 L' f' 68 [(0, .ref (μ 0))] [] := ?_
      · exact hst2
      try simp only [Int.zero_add, Int.one_mul, Int.add_zero]
      exact k68 K' B' L' f'   h1 h2 (h3.1 0) (h3.2.2.2.1 0 200 rfl)

/-! bt68: from 68 to [84, 103, 108] -/
def w_bt68 : TP := ([(0, (2, 0, (0, [])))], [], ([], [], [], [200], [], [], []), [], [])
def u_bt68 : List (Nat × TP × EX × Nat × Nat) := [(84, ([(0, (2, 0, (0, [])))], [], ([(2, 2)], [], [], [200], [((200, (9, [])), (0, [(1, 0)]))], [], []), [(2, 200, (9, []))], []), ((-1), []), 0, 0), (103, ([(0, (2, 0, (0, [])))], [], ([(2, 2)], [], [], [200], [((200, (9, [])), (0, [(1, 0)]))], [], []), [(2, 200, (9, []))], []), ((-1), []), 0, 0), (108, ([(0, (2, 0, (0, [])))], [], ([], [], [], [200], [], [], []), [], []), ((-1), []), 0, 0)]
def D_bt68 : DT := (mkD iX12_betweenOf fX12 lX12 kX12 kkX12 412 [(75, [393]), (78, [386]), (94, [392]), (97, [386])] (w_bt68, [], [], 6, 0, 0, 3) false 1 u_bt68)
theorem k_bt68 : chkS D_bt68 4000 0 0 68 = true := by decide +kernel
theorem s_bt68 {X0 : zC0} {E : zCx} (H : ∀ j, j < 412 → CMj X0 j) (hE : zOk E X0 RX12 cX12_betweenOf 1 (zrm 6 0 0)) {K : Nat → Nat} {B : Int} {L : List Nat} {f : Nat → va_E} (hh : hok X0.2.2.1 K B L f) {r0 : Nat} (hr0 : r0 ∈ L ∧ K r0 = 200) (k84 : ∀ (K' : Nat → Nat) (B' : Int) (L' : List Nat) (f' : Nat → va_E) (v0 : Int), hok X0.2.2.1 K' B' L' f' → extC [] K B L f K' B' L' f' → (2 ≤ v0 ∧ v0 ≤ 2) → (r0 ∈ L' ∧ K' r0 = 200) → (∀ b ∈ L', K' b = 200 → gi (f' b) 9 = v0) → eW E 0 0 L' f' 84 [(0, .ref r0)] []) (k103 : ∀ (K' : Nat → Nat) (B' : Int) (L' : List Nat) (f' : Nat → va_E) (v0 : Int), hok X0.2.2.1 K' B' L' f' → extC [] K B L f K' B' L' f' → (2 ≤ v0 ∧ v0 ≤ 2) → (r0 ∈ L' ∧ K' r0 = 200) → (∀ b ∈ L', K' b = 200 → gi (f' b) 9 = v0) → eW E 0 0 L' f' 103 [(0, .ref r0)] []) (k108 : ∀ (K' : Nat → Nat) (B' : Int) (L' : List Nat) (f' : Nat → va_E), hok X0.2.2.1 K' B' L' f' → extC [] K B L f K' B' L' f' → (r0 ∈ L' ∧ K' r0 = 200) → eW E 0 0 L' f' 108 [(0, .ref r0)] []) : eW E 0 0 L f 68 [(0, .ref r0)] [] := by
  obtain ⟨l0, D0, cy0, ax0⟩ := X0
  have hraw : eW E 0 0 L f 68 [(0, .ref r0)] [] := ?_
  · simpa only [Int.zero_add, Int.one_mul, Int.add_zero] using hraw
  refine seg_ok (D := D_bt68) (νi := fun i => [].getD i 0) (μi := fun i => [r0].getD i 0) k_bt68 hE (mk_ok (ins := iX12_betweenOf) jX12_betweenOf fX12_ok lX12_ok kX12_ok kkX12_ok H) (by decide) rfl rfl rfl rfl hh ?_ ?_
  · refine ⟨(eok_of (fun i q hq => by cases hq) (fun i _ => rfl)), fa0, fa0, ?_, fa0, fa0, fa0⟩
    · intro i k hk
      match i, hk with
      | 0, hk => cases hk; exact hr0
      | i + 1, hk => cases hk
  · intro q hq hst K' B' L' f' ν μ h1 h2 h3 h4 h5
    have d0 : μ 0 = r0 := h5 0 (by decide)
    subst d0
    replace hq : q ∈ u_bt68 := hq
    unfold u_bt68 at hq
    simp only [List.mem_cons, List.not_mem_nil, or_false] at hq
    rcases hq with rfl | rfl | rfl
    · have hst2 : eW E 0 0 L' f' 84 [(0, .ref (μ 0))] [] := ?_
      · exact hst2
      try simp only [Int.zero_add, Int.one_mul, Int.add_zero]
      exact k84 K' B' L' f' (ν 0)  h1 h2 (h3.1 0) (h3.2.2.2.1 0 200 rfl) (by simpa only [xv, xvT, Int.zero_add, Int.one_mul, Int.add_zero] using (mokF h1 (show (zkd 200).1 = 1 by decide) (j := 9) rfl (by decide) (h3.2.2.2.2.1 _ (List.mem_of_getElem? (i := 0) rfl))))
    · have hst2 : eW E 0 0 L' f' 103 [(0, .ref (μ 0))] [] := ?_
      · exact hst2
      try simp only [Int.zero_add, Int.one_mul, Int.add_zero]
      exact k103 K' B' L' f' (ν 0)  h1 h2 (h3.1 0) (h3.2.2.2.1 0 200 rfl) (by simpa only [xv, xvT, Int.zero_add, Int.one_mul, Int.add_zero] using (mokF h1 (show (zkd 200).1 = 1 by decide) (j := 9) rfl (by decide) (h3.2.2.2.2.1 _ (List.mem_of_getElem? (i := 0) rfl))))
    · have hst2 : eW E 0 0 L' f' 108 [(0, .ref (μ 0))] [] := ?_
      · exact hst2
      try simp only [Int.zero_add, Int.one_mul, Int.add_zero]
      exact k108 K' B' L' f'   h1 h2 (h3.2.2.2.1 0 200 rfl)

/-! bt84: from 84 to [109] -/
def w_bt84 : TP := ([(0, (2, 0, (0, [])))], [], ([], [], [], [200], [], [], []), [], [])
def u_bt84 : List (Nat × TP × EX × Nat × Nat) := [(109, ([(0, (2, 0, (0, [])))], [(0, 0, (21, []))], ([], [], [], [200], [], [], []), [], []), ((-1), []), 0, 0)]
def D_bt84 : DT := (mkD iX12_betweenOf fX12 lX12 kX12 kkX12 412 [] (w_bt84, [], [], 6, 0, 0, 3) false 1 u_bt84)
theorem k_bt84 : chkS D_bt84 4000 0 0 84 = true := by decide +kernel
theorem s_bt84 {X0 : zC0} {E : zCx} (H : ∀ j, j < 412 → CMj X0 j) (hE : zOk E X0 RX12 cX12_betweenOf 1 (zrm 6 0 0)) {K : Nat → Nat} {B : Int} {L : List Nat} {f : Nat → va_E} (hh : hok X0.2.2.1 K B L f) {r0 : Nat} (hr0 : r0 ∈ L ∧ K r0 = 200) (k109 : ∀ (K' : Nat → Nat) (B' : Int) (L' : List Nat) (f' : Nat → va_E), hok X0.2.2.1 K' B' L' f' → extC [] K B L f K' B' L' f' → (r0 ∈ L' ∧ K' r0 = 200) → eW E 0 0 L' f' 109 [(0, .ref r0)] [.int (Int32.ofInt 21)]) : eW E 0 0 L f 84 [(0, .ref r0)] [] := by
  obtain ⟨l0, D0, cy0, ax0⟩ := X0
  have hraw : eW E 0 0 L f 84 [(0, .ref r0)] [] := ?_
  · simpa only [Int.zero_add, Int.one_mul, Int.add_zero] using hraw
  refine seg_ok (D := D_bt84) (νi := fun i => [].getD i 0) (μi := fun i => [r0].getD i 0) k_bt84 hE (mk_ok (ins := iX12_betweenOf) jX12_betweenOf fX12_ok lX12_ok kX12_ok kkX12_ok H) (by decide) rfl rfl rfl rfl hh ?_ ?_
  · refine ⟨(eok_of (fun i q hq => by cases hq) (fun i _ => rfl)), fa0, fa0, ?_, fa0, fa0, fa0⟩
    · intro i k hk
      match i, hk with
      | 0, hk => cases hk; exact hr0
      | i + 1, hk => cases hk
  · intro q hq hst K' B' L' f' ν μ h1 h2 h3 h4 h5
    have d0 : μ 0 = r0 := h5 0 (by decide)
    subst d0
    replace hq : q ∈ u_bt84 := hq
    unfold u_bt84 at hq
    simp only [List.mem_cons, List.not_mem_nil, or_false] at hq
    rcases hq with rfl
    · have hst2 : eW E 0 0 L' f' 109 [(0, .ref (μ 0))] [.int (Int32.ofInt (21 + 0))] := ?_
      · exact hst2
      try simp only [Int.zero_add, Int.one_mul, Int.add_zero]
      exact k109 K' B' L' f'   h1 h2 (h3.2.2.2.1 0 200 rfl)

/-! bt103: from 103 to [109] -/
def w_bt103 : TP := ([(0, (2, 0, (0, [])))], [], ([], [], [], [200], [], [], []), [], [])
def u_bt103 : List (Nat × TP × EX × Nat × Nat) := [(109, ([(0, (2, 0, (0, [])))], [(0, 0, (22, []))], ([], [], [], [200], [], [], []), [], []), ((-1), []), 0, 0)]
def D_bt103 : DT := (mkD iX12_betweenOf fX12 lX12 kX12 kkX12 412 [] (w_bt103, [], [], 6, 0, 0, 3) false 1 u_bt103)
theorem k_bt103 : chkS D_bt103 4000 0 0 103 = true := by decide +kernel
theorem s_bt103 {X0 : zC0} {E : zCx} (H : ∀ j, j < 412 → CMj X0 j) (hE : zOk E X0 RX12 cX12_betweenOf 1 (zrm 6 0 0)) {K : Nat → Nat} {B : Int} {L : List Nat} {f : Nat → va_E} (hh : hok X0.2.2.1 K B L f) {r0 : Nat} (hr0 : r0 ∈ L ∧ K r0 = 200) (k109 : ∀ (K' : Nat → Nat) (B' : Int) (L' : List Nat) (f' : Nat → va_E), hok X0.2.2.1 K' B' L' f' → extC [] K B L f K' B' L' f' → (r0 ∈ L' ∧ K' r0 = 200) → eW E 0 0 L' f' 109 [(0, .ref r0)] [.int (Int32.ofInt 22)]) : eW E 0 0 L f 103 [(0, .ref r0)] [] := by
  obtain ⟨l0, D0, cy0, ax0⟩ := X0
  have hraw : eW E 0 0 L f 103 [(0, .ref r0)] [] := ?_
  · simpa only [Int.zero_add, Int.one_mul, Int.add_zero] using hraw
  refine seg_ok (D := D_bt103) (νi := fun i => [].getD i 0) (μi := fun i => [r0].getD i 0) k_bt103 hE (mk_ok (ins := iX12_betweenOf) jX12_betweenOf fX12_ok lX12_ok kX12_ok kkX12_ok H) (by decide) rfl rfl rfl rfl hh ?_ ?_
  · refine ⟨(eok_of (fun i q hq => by cases hq) (fun i _ => rfl)), fa0, fa0, ?_, fa0, fa0, fa0⟩
    · intro i k hk
      match i, hk with
      | 0, hk => cases hk; exact hr0
      | i + 1, hk => cases hk
  · intro q hq hst K' B' L' f' ν μ h1 h2 h3 h4 h5
    have d0 : μ 0 = r0 := h5 0 (by decide)
    subst d0
    replace hq : q ∈ u_bt103 := hq
    unfold u_bt103 at hq
    simp only [List.mem_cons, List.not_mem_nil, or_false] at hq
    rcases hq with rfl
    · have hst2 : eW E 0 0 L' f' 109 [(0, .ref (μ 0))] [.int (Int32.ofInt (22 + 0))] := ?_
      · exact hst2
      try simp only [Int.zero_add, Int.one_mul, Int.add_zero]
      exact k109 K' B' L' f'   h1 h2 (h3.2.2.2.1 0 200 rfl)

/-! bt108: from 108 to [109] -/
def w_bt108 : TP := ([(0, (2, 0, (0, [])))], [], ([], [], [], [200], [], [], []), [], [])
def u_bt108 : List (Nat × TP × EX × Nat × Nat) := [(109, ([(0, (2, 0, (0, [])))], [(0, 0, ((-1), []))], ([], [], [], [200], [], [], []), [], []), ((-1), []), 0, 0)]
def D_bt108 : DT := (mkD iX12_betweenOf fX12 lX12 kX12 kkX12 412 [] (w_bt108, [], [], 6, 0, 0, 3) false 1 u_bt108)
theorem k_bt108 : chkS D_bt108 4000 0 0 108 = true := by decide +kernel
theorem s_bt108 {X0 : zC0} {E : zCx} (H : ∀ j, j < 412 → CMj X0 j) (hE : zOk E X0 RX12 cX12_betweenOf 1 (zrm 6 0 0)) {K : Nat → Nat} {B : Int} {L : List Nat} {f : Nat → va_E} (hh : hok X0.2.2.1 K B L f) {r0 : Nat} (hr0 : r0 ∈ L ∧ K r0 = 200) (k109 : ∀ (K' : Nat → Nat) (B' : Int) (L' : List Nat) (f' : Nat → va_E), hok X0.2.2.1 K' B' L' f' → extC [] K B L f K' B' L' f' → (r0 ∈ L' ∧ K' r0 = 200) → eW E 0 0 L' f' 109 [(0, .ref r0)] [.int (Int32.ofInt (-1))]) : eW E 0 0 L f 108 [(0, .ref r0)] [] := by
  obtain ⟨l0, D0, cy0, ax0⟩ := X0
  have hraw : eW E 0 0 L f 108 [(0, .ref r0)] [] := ?_
  · simpa only [Int.zero_add, Int.one_mul, Int.add_zero] using hraw
  refine seg_ok (D := D_bt108) (νi := fun i => [].getD i 0) (μi := fun i => [r0].getD i 0) k_bt108 hE (mk_ok (ins := iX12_betweenOf) jX12_betweenOf fX12_ok lX12_ok kX12_ok kkX12_ok H) (by decide) rfl rfl rfl rfl hh ?_ ?_
  · refine ⟨(eok_of (fun i q hq => by cases hq) (fun i _ => rfl)), fa0, fa0, ?_, fa0, fa0, fa0⟩
    · intro i k hk
      match i, hk with
      | 0, hk => cases hk; exact hr0
      | i + 1, hk => cases hk
  · intro q hq hst K' B' L' f' ν μ h1 h2 h3 h4 h5
    have d0 : μ 0 = r0 := h5 0 (by decide)
    subst d0
    replace hq : q ∈ u_bt108 := hq
    unfold u_bt108 at hq
    simp only [List.mem_cons, List.not_mem_nil, or_false] at hq
    rcases hq with rfl
    · have hst2 : eW E 0 0 L' f' 109 [(0, .ref (μ 0))] [.int (Int32.ofInt ((-1) + 0))] := ?_
      · exact hst2
      try simp only [Int.zero_add, Int.one_mul, Int.add_zero]
      exact k109 K' B' L' f'   h1 h2 (h3.2.2.2.1 0 200 rfl)

/-! cp0: from 0 to [9, 22, 36, 49, 63, 77, 82] -/
def w_cp0 : TP := ([(0, (2, 0, (0, [])))], [], ([], [], [], [200], [], [], []), [], [])
def u_cp0 : List (Nat × TP × EX × Nat × Nat) := [(9, ([(0, (2, 0, (0, [])))], [], ([(60, 60)], [], [], [200], [((200, (9, [])), (0, [(1, 0)]))], [], []), [(2, 200, (9, []))], []), ((-1), []), 0, 0), (22, ([(0, (2, 0, (0, [])))], [], ([(4, 4)], [], [], [200], [((200, (9, [])), (0, [(1, 0)]))], [], []), [(2, 200, (9, []))], []), ((-1), []), 0, 0), (36, ([(0, (2, 0, (0, [])))], [], ([(62, 62)], [], [], [200], [((200, (9, [])), (0, [(1, 0)]))], [], []), [(2, 200, (9, []))], []), ((-1), []), 0, 0), (49, ([(0, (2, 0, (0, [])))], [], ([(5, 5)], [], [], [200], [((200, (9, [])), (0, [(1, 0)]))], [], []), [(2, 200, (9, []))], []), ((-1), []), 0, 0), (63, ([(0, (2, 0, (0, [])))], [], ([(61, 61)], [], [], [200], [((200, (9, [])), (0, [(1, 0)]))], [], []), [(2, 200, (9, []))], []), ((-1), []), 0, 0), (77, ([(0, (2, 0, (0, [])))], [], ([(35, 35)], [], [], [200], [((200, (9, [])), (0, [(1, 0)]))], [], []), [(2, 200, (9, []))], []), ((-1), []), 0, 0), (82, ([(0, (2, 0, (0, [])))], [], ([((-2147483648), 2147483647)], [], [], [200], [((200, (9, [])), (0, [(1, 0)]))], [], []), [(2, 200, (9, []))], []), ((-1), []), 0, 0)]
def D_cp0 : DT := (mkD iX12_compareOf fX12 lX12 kX12 kkX12 412 [] (w_cp0, [], [], 1, 0, 0, 3) false 1 u_cp0)
theorem k_cp0 : chkS D_cp0 4000 0 0 0 = true := by decide +kernel
theorem s_cp0 {X0 : zC0} {E : zCx} (H : ∀ j, j < 412 → CMj X0 j) (hE : zOk E X0 RX12 cX12_compareOf 1 (zrm 1 0 0)) {K : Nat → Nat} {B : Int} {L : List Nat} {f : Nat → va_E} (hh : hok X0.2.2.1 K B L f) {r0 : Nat} (hr0 : r0 ∈ L ∧ K r0 = 200) (k9 : ∀ (K' : Nat → Nat) (B' : Int) (L' : List Nat) (f' : Nat → va_E) (v0 : Int), hok X0.2.2.1 K' B' L' f' → extC [] K B L f K' B' L' f' → (60 ≤ v0 ∧ v0 ≤ 60) → (r0 ∈ L' ∧ K' r0 = 200) → (∀ b ∈ L', K' b = 200 → gi (f' b) 9 = v0) → eW E 0 0 L' f' 9 [(0, .ref r0)] []) (k22 : ∀ (K' : Nat → Nat) (B' : Int) (L' : List Nat) (f' : Nat → va_E) (v0 : Int), hok X0.2.2.1 K' B' L' f' → extC [] K B L f K' B' L' f' → (4 ≤ v0 ∧ v0 ≤ 4) → (r0 ∈ L' ∧ K' r0 = 200) → (∀ b ∈ L', K' b = 200 → gi (f' b) 9 = v0) → eW E 0 0 L' f' 22 [(0, .ref r0)] []) (k36 : ∀ (K' : Nat → Nat) (B' : Int) (L' : List Nat) (f' : Nat → va_E) (v0 : Int), hok X0.2.2.1 K' B' L' f' → extC [] K B L f K' B' L' f' → (62 ≤ v0 ∧ v0 ≤ 62) → (r0 ∈ L' ∧ K' r0 = 200) → (∀ b ∈ L', K' b = 200 → gi (f' b) 9 = v0) → eW E 0 0 L' f' 36 [(0, .ref r0)] []) (k49 : ∀ (K' : Nat → Nat) (B' : Int) (L' : List Nat) (f' : Nat → va_E) (v0 : Int), hok X0.2.2.1 K' B' L' f' → extC [] K B L f K' B' L' f' → (5 ≤ v0 ∧ v0 ≤ 5) → (r0 ∈ L' ∧ K' r0 = 200) → (∀ b ∈ L', K' b = 200 → gi (f' b) 9 = v0) → eW E 0 0 L' f' 49 [(0, .ref r0)] []) (k63 : ∀ (K' : Nat → Nat) (B' : Int) (L' : List Nat) (f' : Nat → va_E) (v0 : Int), hok X0.2.2.1 K' B' L' f' → extC [] K B L f K' B' L' f' → (61 ≤ v0 ∧ v0 ≤ 61) → (r0 ∈ L' ∧ K' r0 = 200) → (∀ b ∈ L', K' b = 200 → gi (f' b) 9 = v0) → eW E 0 0 L' f' 63 [(0, .ref r0)] []) (k77 : ∀ (K' : Nat → Nat) (B' : Int) (L' : List Nat) (f' : Nat → va_E) (v0 : Int), hok X0.2.2.1 K' B' L' f' → extC [] K B L f K' B' L' f' → (35 ≤ v0 ∧ v0 ≤ 35) → (r0 ∈ L' ∧ K' r0 = 200) → (∀ b ∈ L', K' b = 200 → gi (f' b) 9 = v0) → eW E 0 0 L' f' 77 [(0, .ref r0)] []) (k82 : ∀ (K' : Nat → Nat) (B' : Int) (L' : List Nat) (f' : Nat → va_E) (v0 : Int), hok X0.2.2.1 K' B' L' f' → extC [] K B L f K' B' L' f' → ((-2147483648) ≤ v0 ∧ v0 ≤ 2147483647) → (r0 ∈ L' ∧ K' r0 = 200) → (∀ b ∈ L', K' b = 200 → gi (f' b) 9 = v0) → eW E 0 0 L' f' 82 [(0, .ref r0)] []) : eW E 0 0 L f 0 [(0, .ref r0)] [] := by
  obtain ⟨l0, D0, cy0, ax0⟩ := X0
  have hraw : eW E 0 0 L f 0 [(0, .ref r0)] [] := ?_
  · simpa only [Int.zero_add, Int.one_mul, Int.add_zero] using hraw
  refine seg_ok (D := D_cp0) (νi := fun i => [].getD i 0) (μi := fun i => [r0].getD i 0) k_cp0 hE (mk_ok (ins := iX12_compareOf) jX12_compareOf fX12_ok lX12_ok kX12_ok kkX12_ok H) (by decide) rfl rfl rfl rfl hh ?_ ?_
  · refine ⟨(eok_of (fun i q hq => by cases hq) (fun i _ => rfl)), fa0, fa0, ?_, fa0, fa0, fa0⟩
    · intro i k hk
      match i, hk with
      | 0, hk => cases hk; exact hr0
      | i + 1, hk => cases hk
  · intro q hq hst K' B' L' f' ν μ h1 h2 h3 h4 h5
    have d0 : μ 0 = r0 := h5 0 (by decide)
    subst d0
    replace hq : q ∈ u_cp0 := hq
    unfold u_cp0 at hq
    simp only [List.mem_cons, List.not_mem_nil, or_false] at hq
    rcases hq with rfl | rfl | rfl | rfl | rfl | rfl | rfl
    · have hst2 : eW E 0 0 L' f' 9 [(0, .ref (μ 0))] [] := ?_
      · exact hst2
      try simp only [Int.zero_add, Int.one_mul, Int.add_zero]
      exact k9 K' B' L' f' (ν 0)  h1 h2 (h3.1 0) (h3.2.2.2.1 0 200 rfl) (by simpa only [xv, xvT, Int.zero_add, Int.one_mul, Int.add_zero] using (mokF h1 (show (zkd 200).1 = 1 by decide) (j := 9) rfl (by decide) (h3.2.2.2.2.1 _ (List.mem_of_getElem? (i := 0) rfl))))
    · have hst2 : eW E 0 0 L' f' 22 [(0, .ref (μ 0))] [] := ?_
      · exact hst2
      try simp only [Int.zero_add, Int.one_mul, Int.add_zero]
      exact k22 K' B' L' f' (ν 0)  h1 h2 (h3.1 0) (h3.2.2.2.1 0 200 rfl) (by simpa only [xv, xvT, Int.zero_add, Int.one_mul, Int.add_zero] using (mokF h1 (show (zkd 200).1 = 1 by decide) (j := 9) rfl (by decide) (h3.2.2.2.2.1 _ (List.mem_of_getElem? (i := 0) rfl))))
    · have hst2 : eW E 0 0 L' f' 36 [(0, .ref (μ 0))] [] := ?_
      · exact hst2
      try simp only [Int.zero_add, Int.one_mul, Int.add_zero]
      exact k36 K' B' L' f' (ν 0)  h1 h2 (h3.1 0) (h3.2.2.2.1 0 200 rfl) (by simpa only [xv, xvT, Int.zero_add, Int.one_mul, Int.add_zero] using (mokF h1 (show (zkd 200).1 = 1 by decide) (j := 9) rfl (by decide) (h3.2.2.2.2.1 _ (List.mem_of_getElem? (i := 0) rfl))))
    · have hst2 : eW E 0 0 L' f' 49 [(0, .ref (μ 0))] [] := ?_
      · exact hst2
      try simp only [Int.zero_add, Int.one_mul, Int.add_zero]
      exact k49 K' B' L' f' (ν 0)  h1 h2 (h3.1 0) (h3.2.2.2.1 0 200 rfl) (by simpa only [xv, xvT, Int.zero_add, Int.one_mul, Int.add_zero] using (mokF h1 (show (zkd 200).1 = 1 by decide) (j := 9) rfl (by decide) (h3.2.2.2.2.1 _ (List.mem_of_getElem? (i := 0) rfl))))
    · have hst2 : eW E 0 0 L' f' 63 [(0, .ref (μ 0))] [] := ?_
      · exact hst2
      try simp only [Int.zero_add, Int.one_mul, Int.add_zero]
      exact k63 K' B' L' f' (ν 0)  h1 h2 (h3.1 0) (h3.2.2.2.1 0 200 rfl) (by simpa only [xv, xvT, Int.zero_add, Int.one_mul, Int.add_zero] using (mokF h1 (show (zkd 200).1 = 1 by decide) (j := 9) rfl (by decide) (h3.2.2.2.2.1 _ (List.mem_of_getElem? (i := 0) rfl))))
    · have hst2 : eW E 0 0 L' f' 77 [(0, .ref (μ 0))] [] := ?_
      · exact hst2
      try simp only [Int.zero_add, Int.one_mul, Int.add_zero]
      exact k77 K' B' L' f' (ν 0)  h1 h2 (h3.1 0) (h3.2.2.2.1 0 200 rfl) (by simpa only [xv, xvT, Int.zero_add, Int.one_mul, Int.add_zero] using (mokF h1 (show (zkd 200).1 = 1 by decide) (j := 9) rfl (by decide) (h3.2.2.2.2.1 _ (List.mem_of_getElem? (i := 0) rfl))))
    · have hst2 : eW E 0 0 L' f' 82 [(0, .ref (μ 0))] [] := ?_
      · exact hst2
      try simp only [Int.zero_add, Int.one_mul, Int.add_zero]
      exact k82 K' B' L' f' (ν 0)  h1 h2 (h3.1 0) (h3.2.2.2.1 0 200 rfl) (by simpa only [xv, xvT, Int.zero_add, Int.one_mul, Int.add_zero] using (mokF h1 (show (zkd 200).1 = 1 by decide) (j := 9) rfl (by decide) (h3.2.2.2.2.1 _ (List.mem_of_getElem? (i := 0) rfl))))

/-! cp9: from 9 to [83] -/
def w_cp9 : TP := ([(0, (2, 0, (0, [])))], [], ([], [], [], [200], [], [], []), [], [])
def u_cp9 : List (Nat × TP × EX × Nat × Nat) := [(83, ([(0, (2, 0, (0, [])))], [(0, 0, (10, []))], ([], [], [], [200], [], [], []), [], []), ((-1), []), 0, 0)]
def D_cp9 : DT := (mkD iX12_compareOf fX12 lX12 kX12 kkX12 412 [] (w_cp9, [], [], 1, 0, 0, 3) false 1 u_cp9)
theorem k_cp9 : chkS D_cp9 4000 0 0 9 = true := by decide +kernel
theorem s_cp9 {X0 : zC0} {E : zCx} (H : ∀ j, j < 412 → CMj X0 j) (hE : zOk E X0 RX12 cX12_compareOf 1 (zrm 1 0 0)) {K : Nat → Nat} {B : Int} {L : List Nat} {f : Nat → va_E} (hh : hok X0.2.2.1 K B L f) {r0 : Nat} (hr0 : r0 ∈ L ∧ K r0 = 200) (k83 : ∀ (K' : Nat → Nat) (B' : Int) (L' : List Nat) (f' : Nat → va_E), hok X0.2.2.1 K' B' L' f' → extC [] K B L f K' B' L' f' → (r0 ∈ L' ∧ K' r0 = 200) → eW E 0 0 L' f' 83 [(0, .ref r0)] [.int (Int32.ofInt 10)]) : eW E 0 0 L f 9 [(0, .ref r0)] [] := by
  obtain ⟨l0, D0, cy0, ax0⟩ := X0
  have hraw : eW E 0 0 L f 9 [(0, .ref r0)] [] := ?_
  · simpa only [Int.zero_add, Int.one_mul, Int.add_zero] using hraw
  refine seg_ok (D := D_cp9) (νi := fun i => [].getD i 0) (μi := fun i => [r0].getD i 0) k_cp9 hE (mk_ok (ins := iX12_compareOf) jX12_compareOf fX12_ok lX12_ok kX12_ok kkX12_ok H) (by decide) rfl rfl rfl rfl hh ?_ ?_
  · refine ⟨(eok_of (fun i q hq => by cases hq) (fun i _ => rfl)), fa0, fa0, ?_, fa0, fa0, fa0⟩
    · intro i k hk
      match i, hk with
      | 0, hk => cases hk; exact hr0
      | i + 1, hk => cases hk
  · intro q hq hst K' B' L' f' ν μ h1 h2 h3 h4 h5
    have d0 : μ 0 = r0 := h5 0 (by decide)
    subst d0
    replace hq : q ∈ u_cp9 := hq
    unfold u_cp9 at hq
    simp only [List.mem_cons, List.not_mem_nil, or_false] at hq
    rcases hq with rfl
    · have hst2 : eW E 0 0 L' f' 83 [(0, .ref (μ 0))] [.int (Int32.ofInt (10 + 0))] := ?_
      · exact hst2
      try simp only [Int.zero_add, Int.one_mul, Int.add_zero]
      exact k83 K' B' L' f'   h1 h2 (h3.2.2.2.1 0 200 rfl)

/-! cp22: from 22 to [83] -/
def w_cp22 : TP := ([(0, (2, 0, (0, [])))], [], ([], [], [], [200], [], [], []), [], [])
def u_cp22 : List (Nat × TP × EX × Nat × Nat) := [(83, ([(0, (2, 0, (0, [])))], [(0, 0, (11, []))], ([], [], [], [200], [], [], []), [], []), ((-1), []), 0, 0)]
def D_cp22 : DT := (mkD iX12_compareOf fX12 lX12 kX12 kkX12 412 [] (w_cp22, [], [], 1, 0, 0, 3) false 1 u_cp22)
theorem k_cp22 : chkS D_cp22 4000 0 0 22 = true := by decide +kernel
theorem s_cp22 {X0 : zC0} {E : zCx} (H : ∀ j, j < 412 → CMj X0 j) (hE : zOk E X0 RX12 cX12_compareOf 1 (zrm 1 0 0)) {K : Nat → Nat} {B : Int} {L : List Nat} {f : Nat → va_E} (hh : hok X0.2.2.1 K B L f) {r0 : Nat} (hr0 : r0 ∈ L ∧ K r0 = 200) (k83 : ∀ (K' : Nat → Nat) (B' : Int) (L' : List Nat) (f' : Nat → va_E), hok X0.2.2.1 K' B' L' f' → extC [] K B L f K' B' L' f' → (r0 ∈ L' ∧ K' r0 = 200) → eW E 0 0 L' f' 83 [(0, .ref r0)] [.int (Int32.ofInt 11)]) : eW E 0 0 L f 22 [(0, .ref r0)] [] := by
  obtain ⟨l0, D0, cy0, ax0⟩ := X0
  have hraw : eW E 0 0 L f 22 [(0, .ref r0)] [] := ?_
  · simpa only [Int.zero_add, Int.one_mul, Int.add_zero] using hraw
  refine seg_ok (D := D_cp22) (νi := fun i => [].getD i 0) (μi := fun i => [r0].getD i 0) k_cp22 hE (mk_ok (ins := iX12_compareOf) jX12_compareOf fX12_ok lX12_ok kX12_ok kkX12_ok H) (by decide) rfl rfl rfl rfl hh ?_ ?_
  · refine ⟨(eok_of (fun i q hq => by cases hq) (fun i _ => rfl)), fa0, fa0, ?_, fa0, fa0, fa0⟩
    · intro i k hk
      match i, hk with
      | 0, hk => cases hk; exact hr0
      | i + 1, hk => cases hk
  · intro q hq hst K' B' L' f' ν μ h1 h2 h3 h4 h5
    have d0 : μ 0 = r0 := h5 0 (by decide)
    subst d0
    replace hq : q ∈ u_cp22 := hq
    unfold u_cp22 at hq
    simp only [List.mem_cons, List.not_mem_nil, or_false] at hq
    rcases hq with rfl
    · have hst2 : eW E 0 0 L' f' 83 [(0, .ref (μ 0))] [.int (Int32.ofInt (11 + 0))] := ?_
      · exact hst2
      try simp only [Int.zero_add, Int.one_mul, Int.add_zero]
      exact k83 K' B' L' f'   h1 h2 (h3.2.2.2.1 0 200 rfl)

/-! cp36: from 36 to [83] -/
def w_cp36 : TP := ([(0, (2, 0, (0, [])))], [], ([], [], [], [200], [], [], []), [], [])
def u_cp36 : List (Nat × TP × EX × Nat × Nat) := [(83, ([(0, (2, 0, (0, [])))], [(0, 0, (12, []))], ([], [], [], [200], [], [], []), [], []), ((-1), []), 0, 0)]
def D_cp36 : DT := (mkD iX12_compareOf fX12 lX12 kX12 kkX12 412 [] (w_cp36, [], [], 1, 0, 0, 3) false 1 u_cp36)
theorem k_cp36 : chkS D_cp36 4000 0 0 36 = true := by decide +kernel
theorem s_cp36 {X0 : zC0} {E : zCx} (H : ∀ j, j < 412 → CMj X0 j) (hE : zOk E X0 RX12 cX12_compareOf 1 (zrm 1 0 0)) {K : Nat → Nat} {B : Int} {L : List Nat} {f : Nat → va_E} (hh : hok X0.2.2.1 K B L f) {r0 : Nat} (hr0 : r0 ∈ L ∧ K r0 = 200) (k83 : ∀ (K' : Nat → Nat) (B' : Int) (L' : List Nat) (f' : Nat → va_E), hok X0.2.2.1 K' B' L' f' → extC [] K B L f K' B' L' f' → (r0 ∈ L' ∧ K' r0 = 200) → eW E 0 0 L' f' 83 [(0, .ref r0)] [.int (Int32.ofInt 12)]) : eW E 0 0 L f 36 [(0, .ref r0)] [] := by
  obtain ⟨l0, D0, cy0, ax0⟩ := X0
  have hraw : eW E 0 0 L f 36 [(0, .ref r0)] [] := ?_
  · simpa only [Int.zero_add, Int.one_mul, Int.add_zero] using hraw
  refine seg_ok (D := D_cp36) (νi := fun i => [].getD i 0) (μi := fun i => [r0].getD i 0) k_cp36 hE (mk_ok (ins := iX12_compareOf) jX12_compareOf fX12_ok lX12_ok kX12_ok kkX12_ok H) (by decide) rfl rfl rfl rfl hh ?_ ?_
  · refine ⟨(eok_of (fun i q hq => by cases hq) (fun i _ => rfl)), fa0, fa0, ?_, fa0, fa0, fa0⟩
    · intro i k hk
      match i, hk with
      | 0, hk => cases hk; exact hr0
      | i + 1, hk => cases hk
  · intro q hq hst K' B' L' f' ν μ h1 h2 h3 h4 h5
    have d0 : μ 0 = r0 := h5 0 (by decide)
    subst d0
    replace hq : q ∈ u_cp36 := hq
    unfold u_cp36 at hq
    simp only [List.mem_cons, List.not_mem_nil, or_false] at hq
    rcases hq with rfl
    · have hst2 : eW E 0 0 L' f' 83 [(0, .ref (μ 0))] [.int (Int32.ofInt (12 + 0))] := ?_
      · exact hst2
      try simp only [Int.zero_add, Int.one_mul, Int.add_zero]
      exact k83 K' B' L' f'   h1 h2 (h3.2.2.2.1 0 200 rfl)

/-! cp49: from 49 to [83] -/
def w_cp49 : TP := ([(0, (2, 0, (0, [])))], [], ([], [], [], [200], [], [], []), [], [])
def u_cp49 : List (Nat × TP × EX × Nat × Nat) := [(83, ([(0, (2, 0, (0, [])))], [(0, 0, (13, []))], ([], [], [], [200], [], [], []), [], []), ((-1), []), 0, 0)]
def D_cp49 : DT := (mkD iX12_compareOf fX12 lX12 kX12 kkX12 412 [] (w_cp49, [], [], 1, 0, 0, 3) false 1 u_cp49)
theorem k_cp49 : chkS D_cp49 4000 0 0 49 = true := by decide +kernel
theorem s_cp49 {X0 : zC0} {E : zCx} (H : ∀ j, j < 412 → CMj X0 j) (hE : zOk E X0 RX12 cX12_compareOf 1 (zrm 1 0 0)) {K : Nat → Nat} {B : Int} {L : List Nat} {f : Nat → va_E} (hh : hok X0.2.2.1 K B L f) {r0 : Nat} (hr0 : r0 ∈ L ∧ K r0 = 200) (k83 : ∀ (K' : Nat → Nat) (B' : Int) (L' : List Nat) (f' : Nat → va_E), hok X0.2.2.1 K' B' L' f' → extC [] K B L f K' B' L' f' → (r0 ∈ L' ∧ K' r0 = 200) → eW E 0 0 L' f' 83 [(0, .ref r0)] [.int (Int32.ofInt 13)]) : eW E 0 0 L f 49 [(0, .ref r0)] [] := by
  obtain ⟨l0, D0, cy0, ax0⟩ := X0
  have hraw : eW E 0 0 L f 49 [(0, .ref r0)] [] := ?_
  · simpa only [Int.zero_add, Int.one_mul, Int.add_zero] using hraw
  refine seg_ok (D := D_cp49) (νi := fun i => [].getD i 0) (μi := fun i => [r0].getD i 0) k_cp49 hE (mk_ok (ins := iX12_compareOf) jX12_compareOf fX12_ok lX12_ok kX12_ok kkX12_ok H) (by decide) rfl rfl rfl rfl hh ?_ ?_
  · refine ⟨(eok_of (fun i q hq => by cases hq) (fun i _ => rfl)), fa0, fa0, ?_, fa0, fa0, fa0⟩
    · intro i k hk
      match i, hk with
      | 0, hk => cases hk; exact hr0
      | i + 1, hk => cases hk
  · intro q hq hst K' B' L' f' ν μ h1 h2 h3 h4 h5
    have d0 : μ 0 = r0 := h5 0 (by decide)
    subst d0
    replace hq : q ∈ u_cp49 := hq
    unfold u_cp49 at hq
    simp only [List.mem_cons, List.not_mem_nil, or_false] at hq
    rcases hq with rfl
    · have hst2 : eW E 0 0 L' f' 83 [(0, .ref (μ 0))] [.int (Int32.ofInt (13 + 0))] := ?_
      · exact hst2
      try simp only [Int.zero_add, Int.one_mul, Int.add_zero]
      exact k83 K' B' L' f'   h1 h2 (h3.2.2.2.1 0 200 rfl)

/-! cp63: from 63 to [83] -/
def w_cp63 : TP := ([(0, (2, 0, (0, [])))], [], ([], [], [], [200], [], [], []), [], [])
def u_cp63 : List (Nat × TP × EX × Nat × Nat) := [(83, ([(0, (2, 0, (0, [])))], [(0, 0, (14, []))], ([], [], [], [200], [], [], []), [], []), ((-1), []), 0, 0)]
def D_cp63 : DT := (mkD iX12_compareOf fX12 lX12 kX12 kkX12 412 [] (w_cp63, [], [], 1, 0, 0, 3) false 1 u_cp63)
theorem k_cp63 : chkS D_cp63 4000 0 0 63 = true := by decide +kernel
theorem s_cp63 {X0 : zC0} {E : zCx} (H : ∀ j, j < 412 → CMj X0 j) (hE : zOk E X0 RX12 cX12_compareOf 1 (zrm 1 0 0)) {K : Nat → Nat} {B : Int} {L : List Nat} {f : Nat → va_E} (hh : hok X0.2.2.1 K B L f) {r0 : Nat} (hr0 : r0 ∈ L ∧ K r0 = 200) (k83 : ∀ (K' : Nat → Nat) (B' : Int) (L' : List Nat) (f' : Nat → va_E), hok X0.2.2.1 K' B' L' f' → extC [] K B L f K' B' L' f' → (r0 ∈ L' ∧ K' r0 = 200) → eW E 0 0 L' f' 83 [(0, .ref r0)] [.int (Int32.ofInt 14)]) : eW E 0 0 L f 63 [(0, .ref r0)] [] := by
  obtain ⟨l0, D0, cy0, ax0⟩ := X0
  have hraw : eW E 0 0 L f 63 [(0, .ref r0)] [] := ?_
  · simpa only [Int.zero_add, Int.one_mul, Int.add_zero] using hraw
  refine seg_ok (D := D_cp63) (νi := fun i => [].getD i 0) (μi := fun i => [r0].getD i 0) k_cp63 hE (mk_ok (ins := iX12_compareOf) jX12_compareOf fX12_ok lX12_ok kX12_ok kkX12_ok H) (by decide) rfl rfl rfl rfl hh ?_ ?_
  · refine ⟨(eok_of (fun i q hq => by cases hq) (fun i _ => rfl)), fa0, fa0, ?_, fa0, fa0, fa0⟩
    · intro i k hk
      match i, hk with
      | 0, hk => cases hk; exact hr0
      | i + 1, hk => cases hk
  · intro q hq hst K' B' L' f' ν μ h1 h2 h3 h4 h5
    have d0 : μ 0 = r0 := h5 0 (by decide)
    subst d0
    replace hq : q ∈ u_cp63 := hq
    unfold u_cp63 at hq
    simp only [List.mem_cons, List.not_mem_nil, or_false] at hq
    rcases hq with rfl
    · have hst2 : eW E 0 0 L' f' 83 [(0, .ref (μ 0))] [.int (Int32.ofInt (14 + 0))] := ?_
      · exact hst2
      try simp only [Int.zero_add, Int.one_mul, Int.add_zero]
      exact k83 K' B' L' f'   h1 h2 (h3.2.2.2.1 0 200 rfl)

/-! cp77: from 77 to [83] -/
def w_cp77 : TP := ([(0, (2, 0, (0, [])))], [], ([], [], [], [200], [], [], []), [], [])
def u_cp77 : List (Nat × TP × EX × Nat × Nat) := [(83, ([(0, (2, 0, (0, [])))], [(0, 0, (15, []))], ([], [], [], [200], [], [], []), [], []), ((-1), []), 0, 0)]
def D_cp77 : DT := (mkD iX12_compareOf fX12 lX12 kX12 kkX12 412 [] (w_cp77, [], [], 1, 0, 0, 3) false 1 u_cp77)
theorem k_cp77 : chkS D_cp77 4000 0 0 77 = true := by decide +kernel
theorem s_cp77 {X0 : zC0} {E : zCx} (H : ∀ j, j < 412 → CMj X0 j) (hE : zOk E X0 RX12 cX12_compareOf 1 (zrm 1 0 0)) {K : Nat → Nat} {B : Int} {L : List Nat} {f : Nat → va_E} (hh : hok X0.2.2.1 K B L f) {r0 : Nat} (hr0 : r0 ∈ L ∧ K r0 = 200) (k83 : ∀ (K' : Nat → Nat) (B' : Int) (L' : List Nat) (f' : Nat → va_E), hok X0.2.2.1 K' B' L' f' → extC [] K B L f K' B' L' f' → (r0 ∈ L' ∧ K' r0 = 200) → eW E 0 0 L' f' 83 [(0, .ref r0)] [.int (Int32.ofInt 15)]) : eW E 0 0 L f 77 [(0, .ref r0)] [] := by
  obtain ⟨l0, D0, cy0, ax0⟩ := X0
  have hraw : eW E 0 0 L f 77 [(0, .ref r0)] [] := ?_
  · simpa only [Int.zero_add, Int.one_mul, Int.add_zero] using hraw
  refine seg_ok (D := D_cp77) (νi := fun i => [].getD i 0) (μi := fun i => [r0].getD i 0) k_cp77 hE (mk_ok (ins := iX12_compareOf) jX12_compareOf fX12_ok lX12_ok kX12_ok kkX12_ok H) (by decide) rfl rfl rfl rfl hh ?_ ?_
  · refine ⟨(eok_of (fun i q hq => by cases hq) (fun i _ => rfl)), fa0, fa0, ?_, fa0, fa0, fa0⟩
    · intro i k hk
      match i, hk with
      | 0, hk => cases hk; exact hr0
      | i + 1, hk => cases hk
  · intro q hq hst K' B' L' f' ν μ h1 h2 h3 h4 h5
    have d0 : μ 0 = r0 := h5 0 (by decide)
    subst d0
    replace hq : q ∈ u_cp77 := hq
    unfold u_cp77 at hq
    simp only [List.mem_cons, List.not_mem_nil, or_false] at hq
    rcases hq with rfl
    · have hst2 : eW E 0 0 L' f' 83 [(0, .ref (μ 0))] [.int (Int32.ofInt (15 + 0))] := ?_
      · exact hst2
      try simp only [Int.zero_add, Int.one_mul, Int.add_zero]
      exact k83 K' B' L' f'   h1 h2 (h3.2.2.2.1 0 200 rfl)

/-! cp82: from 82 to [83] -/
def w_cp82 : TP := ([(0, (2, 0, (0, [])))], [], ([], [], [], [200], [], [], []), [], [])
def u_cp82 : List (Nat × TP × EX × Nat × Nat) := [(83, ([(0, (2, 0, (0, [])))], [(0, 0, ((-1), []))], ([], [], [], [200], [], [], []), [], []), ((-1), []), 0, 0)]
def D_cp82 : DT := (mkD iX12_compareOf fX12 lX12 kX12 kkX12 412 [] (w_cp82, [], [], 1, 0, 0, 3) false 1 u_cp82)
theorem k_cp82 : chkS D_cp82 4000 0 0 82 = true := by decide +kernel
theorem s_cp82 {X0 : zC0} {E : zCx} (H : ∀ j, j < 412 → CMj X0 j) (hE : zOk E X0 RX12 cX12_compareOf 1 (zrm 1 0 0)) {K : Nat → Nat} {B : Int} {L : List Nat} {f : Nat → va_E} (hh : hok X0.2.2.1 K B L f) {r0 : Nat} (hr0 : r0 ∈ L ∧ K r0 = 200) (k83 : ∀ (K' : Nat → Nat) (B' : Int) (L' : List Nat) (f' : Nat → va_E), hok X0.2.2.1 K' B' L' f' → extC [] K B L f K' B' L' f' → (r0 ∈ L' ∧ K' r0 = 200) → eW E 0 0 L' f' 83 [(0, .ref r0)] [.int (Int32.ofInt (-1))]) : eW E 0 0 L f 82 [(0, .ref r0)] [] := by
  obtain ⟨l0, D0, cy0, ax0⟩ := X0
  have hraw : eW E 0 0 L f 82 [(0, .ref r0)] [] := ?_
  · simpa only [Int.zero_add, Int.one_mul, Int.add_zero] using hraw
  refine seg_ok (D := D_cp82) (νi := fun i => [].getD i 0) (μi := fun i => [r0].getD i 0) k_cp82 hE (mk_ok (ins := iX12_compareOf) jX12_compareOf fX12_ok lX12_ok kX12_ok kkX12_ok H) (by decide) rfl rfl rfl rfl hh ?_ ?_
  · refine ⟨(eok_of (fun i q hq => by cases hq) (fun i _ => rfl)), fa0, fa0, ?_, fa0, fa0, fa0⟩
    · intro i k hk
      match i, hk with
      | 0, hk => cases hk; exact hr0
      | i + 1, hk => cases hk
  · intro q hq hst K' B' L' f' ν μ h1 h2 h3 h4 h5
    have d0 : μ 0 = r0 := h5 0 (by decide)
    subst d0
    replace hq : q ∈ u_cp82 := hq
    unfold u_cp82 at hq
    simp only [List.mem_cons, List.not_mem_nil, or_false] at hq
    rcases hq with rfl
    · have hst2 : eW E 0 0 L' f' 83 [(0, .ref (μ 0))] [.int (Int32.ofInt ((-1) + 0))] := ?_
      · exact hst2
      try simp only [Int.zero_add, Int.one_mul, Int.add_zero]
      exact k83 K' B' L' f'   h1 h2 (h3.2.2.2.1 0 200 rfl)

/-! bo0: from 0 to [19, 38, 60, 64, 113, 128, 151, 178, 199, 214] -/
def w_bo0 : TP := ([(0, (2, 0, (0, [])))], [], ([], [], [], [200], [], [], []), [], [])
def u_bo0 : List (Nat × TP × EX × Nat × Nat) := [(19, ([(0, (2, 0, (0, [])))], [(0, 0, (2, []))], ([(10000, 2147483647), (1, 1)], [], [], [200], [((200, (10, [])), (0, [(1, 0)])), ((200, (9, [])), (0, [(1, 1)]))], [], []), [(2, 200, (10, [])), (2, 200, (9, []))], []), ((-1), []), 0, 0), (38, ([(0, (2, 0, (0, []))), (1, (0, 0, (0, [(1, 0)])))], [(0, 0, (5, []))], ([(4, 10), (2, 2)], [], [], [200], [((200, (9, [])), (0, [(1, 1)]))], [], []), [(0, 1, (0, [])), (2, 200, (9, []))], []), ((-1), []), 0, 0), (60, ([(0, (2, 0, (0, []))), (1, (0, 0, ((-1), [])))], [(2, 0, (0, []))], ([(1, 1)], [], [], [200], [((200, (9, [])), (0, [(1, 0)]))], [], []), [(2, 200, (9, []))], []), ((-1), []), 0, 0), (64, ([(0, (2, 0, (0, []))), (1, (0, 0, (0, [(1, 0)])))], [(2, 0, (0, []))], ([(0, 10), (2, 2)], [], [], [200], [((200, (9, [])), (0, [(1, 1)]))], [], []), [(0, 1, (0, [])), (2, 200, (9, []))], []), ((-1), []), 0, 0), (113, ([(0, (2, 0, (0, []))), (1, (0, 0, ((-1), [])))], [(0, 0, (40, [])), (2, 0, (0, []))], ([(40, 40)], [], [], [200], [((200, (9, [])), (0, [(1, 0)]))], [], []), [(2, 200, (9, []))], []), ((-1), []), 0, 0), (128, ([(0, (2, 0, (0, []))), (1, (0, 0, ((-1), [])))], [(0, 0, (2, [])), (2, 0, (0, []))], ([(45, 45)], [], [], [200], [((200, (9, [])), (0, [(1, 0)]))], [], []), [(2, 200, (9, []))], []), ((-1), []), 0, 0), (151, ([(0, (2, 0, (0, []))), (1, (0, 0, ((-1), [])))], [(0, 0, (41, [])), (2, 0, (0, []))], ([(2, 2)], [], [], [200], [((200, (9, [])), (0, [(1, 0)]))], [], []), [(2, 200, (9, []))], []), ((-1), []), 0, 0), (178, ([(0, (2, 0, (0, []))), (1, (0, 0, ((-1), [])))], [(0, 0, (42, [])), (2, 0, (0, []))], ([(2, 2)], [], [], [200], [((200, (9, [])), (0, [(1, 0)]))], [], []), [(2, 200, (9, []))], []), ((-1), []), 0, 0), (199, ([(0, (2, 0, (0, []))), (1, (0, 0, ((-1), [])))], [(2, 0, (0, []))], ([(2, 2)], [], [], [200], [((200, (9, [])), (0, [(1, 0)]))], [], []), [(2, 200, (9, []))], []), ((-1), []), 0, 0), (214, ([(0, (2, 0, (0, []))), (1, (0, 0, ((-1), [])))], [], ([((-2147483648), 2147483647)], [], [], [200], [((200, (9, [])), (0, [(1, 0)]))], [], []), [(2, 200, (9, []))], []), ((-1), []), 0, 0)]
def D_bo0 : DT := (mkD iX12_beginOne fX12 lX12 kX12 kkX12 412 [(21, [396]), (31, [373]), (139, [393]), (142, [386]), (166, [395]), (169, [386]), (189, [393]), (192, [386])] (w_bo0, [], [], 7, 0, 0, 3) false 2 u_bo0)
theorem k_bo0 : chkS D_bo0 4000 0 0 0 = true := by decide +kernel
theorem s_bo0 {X0 : zC0} {E : zCx} (H : ∀ j, j < 412 → CMj X0 j) (hE : zOk E X0 RX12 cX12_beginOne 2 (zrm 7 0 0)) {K : Nat → Nat} {B : Int} {L : List Nat} {f : Nat → va_E} (hh : hok X0.2.2.1 K B L f) {r0 : Nat} (hr0 : r0 ∈ L ∧ K r0 = 200) (k19 : ∀ (K' : Nat → Nat) (B' : Int) (L' : List Nat) (f' : Nat → va_E) (v0 v1 : Int), hok X0.2.2.1 K' B' L' f' → extC [] K B L f K' B' L' f' → (10000 ≤ v0 ∧ v0 ≤ 2147483647) → (1 ≤ v1 ∧ v1 ≤ 1) → (r0 ∈ L' ∧ K' r0 = 200) → (∀ b ∈ L', K' b = 200 → gi (f' b) 10 = v0) → (∀ b ∈ L', K' b = 200 → gi (f' b) 9 = v1) → eW E 0 0 L' f' 19 [(0, .ref r0)] [.int (Int32.ofInt 2)]) (k38 : ∀ (K' : Nat → Nat) (B' : Int) (L' : List Nat) (f' : Nat → va_E) (v0 v1 : Int), hok X0.2.2.1 K' B' L' f' → extC [] K B L f K' B' L' f' → (4 ≤ v0 ∧ v0 ≤ 10) → (2 ≤ v1 ∧ v1 ≤ 2) → (r0 ∈ L' ∧ K' r0 = 200) → (∀ b ∈ L', K' b = 200 → gi (f' b) 9 = v1) → eW E 0 0 L' f' 38 [(0, .ref r0), (1, .int (Int32.ofInt v0))] [.int (Int32.ofInt 5)]) (k60 : ∀ (K' : Nat → Nat) (B' : Int) (L' : List Nat) (f' : Nat → va_E) (v0 : Int), hok X0.2.2.1 K' B' L' f' → extC [] K B L f K' B' L' f' → (1 ≤ v0 ∧ v0 ≤ 1) → (r0 ∈ L' ∧ K' r0 = 200) → (∀ b ∈ L', K' b = 200 → gi (f' b) 9 = v0) → eW E 0 0 L' f' 60 [(0, .ref r0), (1, .int (Int32.ofInt (-1)))] [.ref r0]) (k64 : ∀ (K' : Nat → Nat) (B' : Int) (L' : List Nat) (f' : Nat → va_E) (v0 v1 : Int), hok X0.2.2.1 K' B' L' f' → extC [] K B L f K' B' L' f' → (0 ≤ v0 ∧ v0 ≤ 10) → (2 ≤ v1 ∧ v1 ≤ 2) → (r0 ∈ L' ∧ K' r0 = 200) → (∀ b ∈ L', K' b = 200 → gi (f' b) 9 = v1) → eW E 0 0 L' f' 64 [(0, .ref r0), (1, .int (Int32.ofInt v0))] [.ref r0]) (k113 : ∀ (K' : Nat → Nat) (B' : Int) (L' : List Nat) (f' : Nat → va_E) (v0 : Int), hok X0.2.2.1 K' B' L' f' → extC [] K B L f K' B' L' f' → (40 ≤ v0 ∧ v0 ≤ 40) → (r0 ∈ L' ∧ K' r0 = 200) → (∀ b ∈ L', K' b = 200 → gi (f' b) 9 = v0) → eW E 0 0 L' f' 113 [(0, .ref r0), (1, .int (Int32.ofInt (-1)))] [.int (Int32.ofInt 40), .ref r0]) (k128 : ∀ (K' : Nat → Nat) (B' : Int) (L' : List Nat) (f' : Nat → va_E) (v0 : Int), hok X0.2.2.1 K' B' L' f' → extC [] K B L f K' B' L' f' → (45 ≤ v0 ∧ v0 ≤ 45) → (r0 ∈ L' ∧ K' r0 = 200) → (∀ b ∈ L', K' b = 200 → gi (f' b) 9 = v0) → eW E 0 0 L' f' 128 [(0, .ref r0), (1, .int (Int32.ofInt (-1)))] [.int (Int32.ofInt 2), .ref r0]) (k151 : ∀ (K' : Nat → Nat) (B' : Int) (L' : List Nat) (f' : Nat → va_E) (v0 : Int), hok X0.2.2.1 K' B' L' f' → extC [] K B L f K' B' L' f' → (2 ≤ v0 ∧ v0 ≤ 2) → (r0 ∈ L' ∧ K' r0 = 200) → (∀ b ∈ L', K' b = 200 → gi (f' b) 9 = v0) → eW E 0 0 L' f' 151 [(0, .ref r0), (1, .int (Int32.ofInt (-1)))] [.int (Int32.ofInt 41), .ref r0]) (k178 : ∀ (K' : Nat → Nat) (B' : Int) (L' : List Nat) (f' : Nat → va_E) (v0 : Int), hok X0.2.2.1 K' B' L' f' → extC [] K B L f K' B' L' f' → (2 ≤ v0 ∧ v0 ≤ 2) → (r0 ∈ L' ∧ K' r0 = 200) → (∀ b ∈ L', K' b = 200 → gi (f' b) 9 = v0) → eW E 0 0 L' f' 178 [(0, .ref r0), (1, .int (Int32.ofInt (-1)))] [.int (Int32.ofInt 42), .ref r0]) (k199 : ∀ (K' : Nat → Nat) (B' : Int) (L' : List Nat) (f' : Nat → va_E) (v0 : Int), hok X0.2.2.1 K' B' L' f' → extC [] K B L f K' B' L' f' → (2 ≤ v0 ∧ v0 ≤ 2) → (r0 ∈ L' ∧ K' r0 = 200) → (∀ b ∈ L', K' b = 200 → gi (f' b) 9 = v0) → eW E 0 0 L' f' 199 [(0, .ref r0), (1, .int (Int32.ofInt (-1)))] [.ref r0]) (k214 : ∀ (K' : Nat → Nat) (B' : Int) (L' : List Nat) (f' : Nat → va_E) (v0 : Int), hok X0.2.2.1 K' B' L' f' → extC [] K B L f K' B' L' f' → ((-2147483648) ≤ v0 ∧ v0 ≤ 2147483647) → (r0 ∈ L' ∧ K' r0 = 200) → (∀ b ∈ L', K' b = 200 → gi (f' b) 9 = v0) → eW E 0 0 L' f' 214 [(0, .ref r0), (1, .int (Int32.ofInt (-1)))] []) : eW E 0 0 L f 0 [(0, .ref r0)] [] := by
  obtain ⟨l0, D0, cy0, ax0⟩ := X0
  have hraw : eW E 0 0 L f 0 [(0, .ref r0)] [] := ?_
  · simpa only [Int.zero_add, Int.one_mul, Int.add_zero] using hraw
  refine seg_ok (D := D_bo0) (νi := fun i => [].getD i 0) (μi := fun i => [r0].getD i 0) k_bo0 hE (mk_ok (ins := iX12_beginOne) jX12_beginOne fX12_ok lX12_ok kX12_ok kkX12_ok H) (by decide) rfl rfl rfl rfl hh ?_ ?_
  · refine ⟨(eok_of (fun i q hq => by cases hq) (fun i _ => rfl)), fa0, fa0, ?_, fa0, fa0, fa0⟩
    · intro i k hk
      match i, hk with
      | 0, hk => cases hk; exact hr0
      | i + 1, hk => cases hk
  · intro q hq hst K' B' L' f' ν μ h1 h2 h3 h4 h5
    have d0 : μ 0 = r0 := h5 0 (by decide)
    subst d0
    replace hq : q ∈ u_bo0 := hq
    unfold u_bo0 at hq
    simp only [List.mem_cons, List.not_mem_nil, or_false] at hq
    rcases hq with rfl | rfl | rfl | rfl | rfl | rfl | rfl | rfl | rfl | rfl
    · have hst2 : eW E 0 0 L' f' 19 [(0, .ref (μ 0))] [.int (Int32.ofInt (2 + 0))] := ?_
      · exact hst2
      try simp only [Int.zero_add, Int.one_mul, Int.add_zero]
      exact k19 K' B' L' f' (ν 0) (ν 1)  h1 h2 (h3.1 0) (h3.1 1) (h3.2.2.2.1 0 200 rfl) (by simpa only [xv, xvT, Int.zero_add, Int.one_mul, Int.add_zero] using (mokF h1 (show (zkd 200).1 = 1 by decide) (j := 10) rfl (by decide) (h3.2.2.2.2.1 _ (List.mem_of_getElem? (i := 0) rfl)))) (by simpa only [xv, xvT, Int.zero_add, Int.one_mul, Int.add_zero] using (mokF h1 (show (zkd 200).1 = 1 by decide) (j := 9) rfl (by decide) (h3.2.2.2.2.1 _ (List.mem_of_getElem? (i := 1) rfl))))
    · have hst2 : eW E 0 0 L' f' 38 [(0, .ref (μ 0)), (1, .int (Int32.ofInt (0 + (1 * ν 0 + 0))))] [.int (Int32.ofInt (5 + 0))] := ?_
      · exact hst2
      try simp only [Int.zero_add, Int.one_mul, Int.add_zero]
      exact k38 K' B' L' f' (ν 0) (ν 1)  h1 h2 (h3.1 0) (h3.1 1) (h3.2.2.2.1 0 200 rfl) (by simpa only [xv, xvT, Int.zero_add, Int.one_mul, Int.add_zero] using (mokF h1 (show (zkd 200).1 = 1 by decide) (j := 9) rfl (by decide) (h3.2.2.2.2.1 _ (List.mem_of_getElem? (i := 0) rfl))))
    · have hst2 : eW E 0 0 L' f' 60 [(0, .ref (μ 0)), (1, .int (Int32.ofInt ((-1) + 0)))] [.ref (μ 0)] := ?_
      · exact hst2
      try simp only [Int.zero_add, Int.one_mul, Int.add_zero]
      exact k60 K' B' L' f' (ν 0)  h1 h2 (h3.1 0) (h3.2.2.2.1 0 200 rfl) (by simpa only [xv, xvT, Int.zero_add, Int.one_mul, Int.add_zero] using (mokF h1 (show (zkd 200).1 = 1 by decide) (j := 9) rfl (by decide) (h3.2.2.2.2.1 _ (List.mem_of_getElem? (i := 0) rfl))))
    · have hst2 : eW E 0 0 L' f' 64 [(0, .ref (μ 0)), (1, .int (Int32.ofInt (0 + (1 * ν 0 + 0))))] [.ref (μ 0)] := ?_
      · exact hst2
      try simp only [Int.zero_add, Int.one_mul, Int.add_zero]
      exact k64 K' B' L' f' (ν 0) (ν 1)  h1 h2 (h3.1 0) (h3.1 1) (h3.2.2.2.1 0 200 rfl) (by simpa only [xv, xvT, Int.zero_add, Int.one_mul, Int.add_zero] using (mokF h1 (show (zkd 200).1 = 1 by decide) (j := 9) rfl (by decide) (h3.2.2.2.2.1 _ (List.mem_of_getElem? (i := 0) rfl))))
    · have hst2 : eW E 0 0 L' f' 113 [(0, .ref (μ 0)), (1, .int (Int32.ofInt ((-1) + 0)))] [.int (Int32.ofInt (40 + 0)), .ref (μ 0)] := ?_
      · exact hst2
      try simp only [Int.zero_add, Int.one_mul, Int.add_zero]
      exact k113 K' B' L' f' (ν 0)  h1 h2 (h3.1 0) (h3.2.2.2.1 0 200 rfl) (by simpa only [xv, xvT, Int.zero_add, Int.one_mul, Int.add_zero] using (mokF h1 (show (zkd 200).1 = 1 by decide) (j := 9) rfl (by decide) (h3.2.2.2.2.1 _ (List.mem_of_getElem? (i := 0) rfl))))
    · have hst2 : eW E 0 0 L' f' 128 [(0, .ref (μ 0)), (1, .int (Int32.ofInt ((-1) + 0)))] [.int (Int32.ofInt (2 + 0)), .ref (μ 0)] := ?_
      · exact hst2
      try simp only [Int.zero_add, Int.one_mul, Int.add_zero]
      exact k128 K' B' L' f' (ν 0)  h1 h2 (h3.1 0) (h3.2.2.2.1 0 200 rfl) (by simpa only [xv, xvT, Int.zero_add, Int.one_mul, Int.add_zero] using (mokF h1 (show (zkd 200).1 = 1 by decide) (j := 9) rfl (by decide) (h3.2.2.2.2.1 _ (List.mem_of_getElem? (i := 0) rfl))))
    · have hst2 : eW E 0 0 L' f' 151 [(0, .ref (μ 0)), (1, .int (Int32.ofInt ((-1) + 0)))] [.int (Int32.ofInt (41 + 0)), .ref (μ 0)] := ?_
      · exact hst2
      try simp only [Int.zero_add, Int.one_mul, Int.add_zero]
      exact k151 K' B' L' f' (ν 0)  h1 h2 (h3.1 0) (h3.2.2.2.1 0 200 rfl) (by simpa only [xv, xvT, Int.zero_add, Int.one_mul, Int.add_zero] using (mokF h1 (show (zkd 200).1 = 1 by decide) (j := 9) rfl (by decide) (h3.2.2.2.2.1 _ (List.mem_of_getElem? (i := 0) rfl))))
    · have hst2 : eW E 0 0 L' f' 178 [(0, .ref (μ 0)), (1, .int (Int32.ofInt ((-1) + 0)))] [.int (Int32.ofInt (42 + 0)), .ref (μ 0)] := ?_
      · exact hst2
      try simp only [Int.zero_add, Int.one_mul, Int.add_zero]
      exact k178 K' B' L' f' (ν 0)  h1 h2 (h3.1 0) (h3.2.2.2.1 0 200 rfl) (by simpa only [xv, xvT, Int.zero_add, Int.one_mul, Int.add_zero] using (mokF h1 (show (zkd 200).1 = 1 by decide) (j := 9) rfl (by decide) (h3.2.2.2.2.1 _ (List.mem_of_getElem? (i := 0) rfl))))
    · have hst2 : eW E 0 0 L' f' 199 [(0, .ref (μ 0)), (1, .int (Int32.ofInt ((-1) + 0)))] [.ref (μ 0)] := ?_
      · exact hst2
      try simp only [Int.zero_add, Int.one_mul, Int.add_zero]
      exact k199 K' B' L' f' (ν 0)  h1 h2 (h3.1 0) (h3.2.2.2.1 0 200 rfl) (by simpa only [xv, xvT, Int.zero_add, Int.one_mul, Int.add_zero] using (mokF h1 (show (zkd 200).1 = 1 by decide) (j := 9) rfl (by decide) (h3.2.2.2.2.1 _ (List.mem_of_getElem? (i := 0) rfl))))
    · have hst2 : eW E 0 0 L' f' 214 [(0, .ref (μ 0)), (1, .int (Int32.ofInt ((-1) + 0)))] [] := ?_
      · exact hst2
      try simp only [Int.zero_add, Int.one_mul, Int.add_zero]
      exact k214 K' B' L' f' (ν 0)  h1 h2 (h3.1 0) (h3.2.2.2.1 0 200 rfl) (by simpa only [xv, xvT, Int.zero_add, Int.one_mul, Int.add_zero] using (mokF h1 (show (zkd 200).1 = 1 by decide) (j := 9) rfl (by decide) (h3.2.2.2.2.1 _ (List.mem_of_getElem? (i := 0) rfl))))

/-! bo60: from 60 to [81] -/
def w_bo60 : TP := ([(0, (2, 0, (0, []))), (1, (0, 0, ((-1), [])))], [(2, 0, (0, []))], ([], [], [], [200], [((200, (9, [])), (1, []))], [], []), [], [])
def u_bo60 : List (Nat × TP × EX × Nat × Nat) := [(81, ([(0, (2, 0, (0, []))), (1, (0, 0, ((-1), [])))], [(0, 0, (0, [(1, 0)])), (0, 0, (0, [])), (2, 0, (0, []))], ([((-2147483648), 2147483647)], [], [], [200], [((200, (10, [])), (0, [(1, 0)])), ((200, (9, [])), (1, []))], [], []), [(1, 0, (0, []))], []), ((-1), []), 0, 0)]
def D_bo60 : DT := (mkD iX12_beginOne fX12 lX12 kX12 kkX12 412 [] (w_bo60, [], [], 7, 0, 0, 3) false 2 u_bo60)
theorem k_bo60 : chkS D_bo60 4000 0 0 60 = true := by decide +kernel
theorem s_bo60 {X0 : zC0} {E : zCx} (H : ∀ j, j < 412 → CMj X0 j) (hE : zOk E X0 RX12 cX12_beginOne 2 (zrm 7 0 0)) {K : Nat → Nat} {B : Int} {L : List Nat} {f : Nat → va_E} (hh : hok X0.2.2.1 K B L f) {r0 : Nat} (hr0 : r0 ∈ L ∧ K r0 = 200) (hm0 : (∀ b ∈ L, K b = 200 → gi (f b) 9 = 1)) (k81 : ∀ (K' : Nat → Nat) (B' : Int) (L' : List Nat) (f' : Nat → va_E) (v0 : Int), hok X0.2.2.1 K' B' L' f' → extC [] K B L f K' B' L' f' → ((-2147483648) ≤ v0 ∧ v0 ≤ 2147483647) → (r0 ∈ L' ∧ K' r0 = 200) → (∀ b ∈ L', K' b = 200 → gi (f' b) 10 = v0) → (∀ b ∈ L', K' b = 200 → gi (f' b) 9 = 1) → eW E 0 0 L' f' 81 [(0, .ref r0), (1, .int (Int32.ofInt (-1)))] [.int (Int32.ofInt v0), .int (Int32.ofInt 0), .ref r0]) : eW E 0 0 L f 60 [(0, .ref r0), (1, .int (Int32.ofInt (-1)))] [.ref r0] := by
  obtain ⟨l0, D0, cy0, ax0⟩ := X0
  have hraw : eW E 0 0 L f 60 [(0, .ref r0), (1, .int (Int32.ofInt ((-1) + 0)))] [.ref r0] := ?_
  · simpa only [Int.zero_add, Int.one_mul, Int.add_zero] using hraw
  have rm0 : (∀ b ∈ L, K b = 200 → gi (f b) 9 = (1 + 0)) := by simpa only [Int.zero_add, Int.one_mul, Int.add_zero] using hm0
  refine seg_ok (D := D_bo60) (νi := fun i => [].getD i 0) (μi := fun i => [r0].getD i 0) k_bo60 hE (mk_ok (ins := iX12_beginOne) jX12_beginOne fX12_ok lX12_ok kX12_ok kkX12_ok H) (by decide) rfl rfl rfl rfl hh ?_ ?_
  · refine ⟨(eok_of (fun i q hq => by cases hq) (fun i _ => rfl)), fa0, fa0, ?_, (fa_cons (Fmok hh (show (zkd 200).1 = 1 by decide) (j := 9) rfl (by decide) rm0) fa0), fa0, fa0⟩
    · intro i k hk
      match i, hk with
      | 0, hk => cases hk; exact hr0
      | i + 1, hk => cases hk
  · intro q hq hst K' B' L' f' ν μ h1 h2 h3 h4 h5
    have d0 : μ 0 = r0 := h5 0 (by decide)
    subst d0
    replace hq : q ∈ u_bo60 := hq
    unfold u_bo60 at hq
    simp only [List.mem_cons, List.not_mem_nil, or_false] at hq
    rcases hq with rfl
    · have hst2 : eW E 0 0 L' f' 81 [(0, .ref (μ 0)), (1, .int (Int32.ofInt ((-1) + 0)))] [.int (Int32.ofInt (0 + (1 * ν 0 + 0))), .int (Int32.ofInt (0 + 0)), .ref (μ 0)] := ?_
      · exact hst2
      try simp only [Int.zero_add, Int.one_mul, Int.add_zero]
      exact k81 K' B' L' f' (ν 0)  h1 h2 (h3.1 0) (h3.2.2.2.1 0 200 rfl) (by simpa only [xv, xvT, Int.zero_add, Int.one_mul, Int.add_zero] using (mokF h1 (show (zkd 200).1 = 1 by decide) (j := 10) rfl (by decide) (h3.2.2.2.2.1 _ (List.mem_of_getElem? (i := 0) rfl)))) (by simpa only [xv, xvT, Int.zero_add, Int.one_mul, Int.add_zero] using (mokF h1 (show (zkd 200).1 = 1 by decide) (j := 9) rfl (by decide) (h3.2.2.2.2.1 _ (List.mem_of_getElem? (i := 1) rfl))))

/-! bo64: from 64 to [81] -/
def w_bo64 : TP := ([(0, (2, 0, (0, []))), (1, (0, 0, (0, [(1, 0)])))], [(2, 0, (0, []))], ([(0, 10)], [], [], [200], [((200, (9, [])), (2, []))], [], []), [], [])
def u_bo64 : List (Nat × TP × EX × Nat × Nat) := [(81, ([(0, (2, 0, (0, []))), (1, (0, 0, (0, [(1, 0)])))], [(0, 0, (0, [(1, 0)])), (0, 0, (1, [])), (2, 0, (0, []))], ([(0, 10)], [], [], [200], [((200, (9, [])), (2, []))], [], []), [], []), ((-1), []), 0, 0)]
def D_bo64 : DT := (mkD iX12_beginOne fX12 lX12 kX12 kkX12 412 [] (w_bo64, [], [], 7, 0, 0, 3) false 2 u_bo64)
theorem k_bo64 : chkS D_bo64 4000 0 0 64 = true := by decide +kernel
theorem s_bo64 {X0 : zC0} {E : zCx} (H : ∀ j, j < 412 → CMj X0 j) (hE : zOk E X0 RX12 cX12_beginOne 2 (zrm 7 0 0)) {K : Nat → Nat} {B : Int} {L : List Nat} {f : Nat → va_E} (hh : hok X0.2.2.1 K B L f) {v0 : Int} {r0 : Nat} (hb0 : 0 ≤ v0 ∧ v0 ≤ 10) (hr0 : r0 ∈ L ∧ K r0 = 200) (hm0 : (∀ b ∈ L, K b = 200 → gi (f b) 9 = 2)) (k81 : ∀ (K' : Nat → Nat) (B' : Int) (L' : List Nat) (f' : Nat → va_E), hok X0.2.2.1 K' B' L' f' → extC [] K B L f K' B' L' f' → (0 ≤ v0 ∧ v0 ≤ 10) → (r0 ∈ L' ∧ K' r0 = 200) → (∀ b ∈ L', K' b = 200 → gi (f' b) 9 = 2) → eW E 0 0 L' f' 81 [(0, .ref r0), (1, .int (Int32.ofInt v0))] [.int (Int32.ofInt v0), .int (Int32.ofInt 1), .ref r0]) : eW E 0 0 L f 64 [(0, .ref r0), (1, .int (Int32.ofInt v0))] [.ref r0] := by
  obtain ⟨l0, D0, cy0, ax0⟩ := X0
  have hraw : eW E 0 0 L f 64 [(0, .ref r0), (1, .int (Int32.ofInt (0 + (1 * v0 + 0))))] [.ref r0] := ?_
  · simpa only [Int.zero_add, Int.one_mul, Int.add_zero] using hraw
  have rm0 : (∀ b ∈ L, K b = 200 → gi (f b) 9 = (2 + 0)) := by simpa only [Int.zero_add, Int.one_mul, Int.add_zero] using hm0
  refine seg_ok (D := D_bo64) (νi := fun i => [v0].getD i 0) (μi := fun i => [r0].getD i 0) k_bo64 hE (mk_ok (ins := iX12_beginOne) jX12_beginOne fX12_ok lX12_ok kX12_ok kkX12_ok H) (by decide) rfl rfl rfl rfl hh ?_ ?_
  · refine ⟨(eok_of (fun i q hq => ?_) (fun i hi => ?_)), fa0, fa0, ?_, (fa_cons (Fmok hh (show (zkd 200).1 = 1 by decide) (j := 9) rfl (by decide) rm0) fa0), fa0, fa0⟩
    · match i, hq with
      | 0, hq => cases hq; exact hb0
      | i + 1, hq => cases hq
    · match i, hi with
      | 0, hi => exact absurd hi (by decide)
      | i + 1, _ => rfl
    · intro i k hk
      match i, hk with
      | 0, hk => cases hk; exact hr0
      | i + 1, hk => cases hk
  · intro q hq hst K' B' L' f' ν μ h1 h2 h3 h4 h5
    have e0 : ν 0 = v0 := h4 0 (by decide)
    have d0 : μ 0 = r0 := h5 0 (by decide)
    subst e0
    subst d0
    replace hq : q ∈ u_bo64 := hq
    unfold u_bo64 at hq
    simp only [List.mem_cons, List.not_mem_nil, or_false] at hq
    rcases hq with rfl
    · have hst2 : eW E 0 0 L' f' 81 [(0, .ref (μ 0)), (1, .int (Int32.ofInt (0 + (1 * ν 0 + 0))))] [.int (Int32.ofInt (0 + (1 * ν 0 + 0))), .int (Int32.ofInt (1 + 0)), .ref (μ 0)] := ?_
      · exact hst2
      try simp only [Int.zero_add, Int.one_mul, Int.add_zero]
      exact k81 K' B' L' f'   h1 h2 (h3.1 0) (h3.2.2.2.1 0 200 rfl) (by simpa only [xv, xvT, Int.zero_add, Int.one_mul, Int.add_zero] using (mokF h1 (show (zkd 200).1 = 1 by decide) (j := 9) rfl (by decide) (h3.2.2.2.2.1 _ (List.mem_of_getElem? (i := 0) rfl))))

/-! bo84: from 84 to [85] -/
def w_bo84 : TP := ([(0, (2, 0, (0, []))), (1, (0, 0, (0, [(1, 0)])))], [], ([((-1), 10)], [], [], [200], [], [], []), [], [])
def u_bo84 : List (Nat × TP × EX × Nat × Nat) := [(85, ([(0, (2, 0, (0, []))), (1, (0, 0, (0, [(1, 0)])))], [(2, 0, (0, []))], ([((-1), 10)], [], [], [200], [], [], []), [], []), ((-1), []), 0, 0)]
def D_bo84 : DT := (mkD iX12_beginOne fX12 lX12 kX12 kkX12 412 [] (w_bo84, [], [], 7, 0, 0, 3) false 2 u_bo84)
theorem k_bo84 : chkS D_bo84 4000 0 0 84 = true := by decide +kernel
theorem s_bo84 {X0 : zC0} {E : zCx} (H : ∀ j, j < 412 → CMj X0 j) (hE : zOk E X0 RX12 cX12_beginOne 2 (zrm 7 0 0)) {K : Nat → Nat} {B : Int} {L : List Nat} {f : Nat → va_E} (hh : hok X0.2.2.1 K B L f) {v0 : Int} {r0 : Nat} (hb0 : (-1) ≤ v0 ∧ v0 ≤ 10) (hr0 : r0 ∈ L ∧ K r0 = 200) (k85 : ∀ (K' : Nat → Nat) (B' : Int) (L' : List Nat) (f' : Nat → va_E), hok X0.2.2.1 K' B' L' f' → extC [] K B L f K' B' L' f' → ((-1) ≤ v0 ∧ v0 ≤ 10) → (r0 ∈ L' ∧ K' r0 = 200) → eW E 0 0 L' f' 85 [(0, .ref r0), (1, .int (Int32.ofInt v0))] [.ref r0]) : eW E 0 0 L f 84 [(0, .ref r0), (1, .int (Int32.ofInt v0))] [] := by
  obtain ⟨l0, D0, cy0, ax0⟩ := X0
  have hraw : eW E 0 0 L f 84 [(0, .ref r0), (1, .int (Int32.ofInt (0 + (1 * v0 + 0))))] [] := ?_
  · simpa only [Int.zero_add, Int.one_mul, Int.add_zero] using hraw
  refine seg_ok (D := D_bo84) (νi := fun i => [v0].getD i 0) (μi := fun i => [r0].getD i 0) k_bo84 hE (mk_ok (ins := iX12_beginOne) jX12_beginOne fX12_ok lX12_ok kX12_ok kkX12_ok H) (by decide) rfl rfl rfl rfl hh ?_ ?_
  · refine ⟨(eok_of (fun i q hq => ?_) (fun i hi => ?_)), fa0, fa0, ?_, fa0, fa0, fa0⟩
    · match i, hq with
      | 0, hq => cases hq; exact hb0
      | i + 1, hq => cases hq
    · match i, hi with
      | 0, hi => exact absurd hi (by decide)
      | i + 1, _ => rfl
    · intro i k hk
      match i, hk with
      | 0, hk => cases hk; exact hr0
      | i + 1, hk => cases hk
  · intro q hq hst K' B' L' f' ν μ h1 h2 h3 h4 h5
    have e0 : ν 0 = v0 := h4 0 (by decide)
    have d0 : μ 0 = r0 := h5 0 (by decide)
    subst e0
    subst d0
    replace hq : q ∈ u_bo84 := hq
    unfold u_bo84 at hq
    simp only [List.mem_cons, List.not_mem_nil, or_false] at hq
    rcases hq with rfl
    · have hst2 : eW E 0 0 L' f' 85 [(0, .ref (μ 0)), (1, .int (Int32.ofInt (0 + (1 * ν 0 + 0))))] [.ref (μ 0)] := ?_
      · exact hst2
      try simp only [Int.zero_add, Int.one_mul, Int.add_zero]
      exact k85 K' B' L' f'   h1 h2 (h3.1 0) (h3.2.2.2.1 0 200 rfl)

/-! bo88: from 88 to [96] -/
def w_bo88 : TP := ([(0, (2, 0, (0, []))), (1, (0, 0, (0, [(1, 0)])))], [], ([((-1), 10)], [], [], [200], [], [], []), [], [])
def u_bo88 : List (Nat × TP × EX × Nat × Nat) := [(96, ([(0, (2, 0, (0, []))), (1, (0, 0, (0, [(1, 0)])))], [(0, 0, (7, [])), (2, 0, (0, []))], ([((-1), 10)], [], [], [200], [((200, (20, [])), (1, []))], [], []), [], []), ((-1), []), 0, 0)]
def D_bo88 : DT := (mkD iX12_beginOne fX12 lX12 kX12 kkX12 412 [] (w_bo88, [(200, 20)], [], 7, 0, 0, 3) false 2 u_bo88)
theorem k_bo88 : chkS D_bo88 4000 0 0 88 = true := by decide +kernel
theorem s_bo88 {X0 : zC0} {E : zCx} (H : ∀ j, j < 412 → CMj X0 j) (hE : zOk E X0 RX12 cX12_beginOne 2 (zrm 7 0 0)) {K : Nat → Nat} {B : Int} {L : List Nat} {f : Nat → va_E} (hh : hok X0.2.2.1 K B L f) {v0 : Int} {r0 : Nat} (hb0 : (-1) ≤ v0 ∧ v0 ≤ 10) (hr0 : r0 ∈ L ∧ K r0 = 200) (k96 : ∀ (K' : Nat → Nat) (B' : Int) (L' : List Nat) (f' : Nat → va_E), hok X0.2.2.1 K' B' L' f' → extC [(200, 20)] K B L f K' B' L' f' → ((-1) ≤ v0 ∧ v0 ≤ 10) → (r0 ∈ L' ∧ K' r0 = 200) → (∀ b ∈ L', K' b = 200 → gi (f' b) 20 = 1) → eW E 0 0 L' f' 96 [(0, .ref r0), (1, .int (Int32.ofInt v0))] [.int (Int32.ofInt 7), .ref r0]) : eW E 0 0 L f 88 [(0, .ref r0), (1, .int (Int32.ofInt v0))] [] := by
  obtain ⟨l0, D0, cy0, ax0⟩ := X0
  have hraw : eW E 0 0 L f 88 [(0, .ref r0), (1, .int (Int32.ofInt (0 + (1 * v0 + 0))))] [] := ?_
  · simpa only [Int.zero_add, Int.one_mul, Int.add_zero] using hraw
  refine seg_ok (D := D_bo88) (νi := fun i => [v0].getD i 0) (μi := fun i => [r0].getD i 0) k_bo88 hE (mk_ok (ins := iX12_beginOne) jX12_beginOne fX12_ok lX12_ok kX12_ok kkX12_ok H) (by decide) rfl rfl rfl rfl hh ?_ ?_
  · refine ⟨(eok_of (fun i q hq => ?_) (fun i hi => ?_)), fa0, fa0, ?_, fa0, fa0, fa0⟩
    · match i, hq with
      | 0, hq => cases hq; exact hb0
      | i + 1, hq => cases hq
    · match i, hi with
      | 0, hi => exact absurd hi (by decide)
      | i + 1, _ => rfl
    · intro i k hk
      match i, hk with
      | 0, hk => cases hk; exact hr0
      | i + 1, hk => cases hk
  · intro q hq hst K' B' L' f' ν μ h1 h2 h3 h4 h5
    have e0 : ν 0 = v0 := h4 0 (by decide)
    have d0 : μ 0 = r0 := h5 0 (by decide)
    subst e0
    subst d0
    replace hq : q ∈ u_bo88 := hq
    unfold u_bo88 at hq
    simp only [List.mem_cons, List.not_mem_nil, or_false] at hq
    rcases hq with rfl
    · have hst2 : eW E 0 0 L' f' 96 [(0, .ref (μ 0)), (1, .int (Int32.ofInt (0 + (1 * ν 0 + 0))))] [.int (Int32.ofInt (7 + 0)), .ref (μ 0)] := ?_
      · exact hst2
      try simp only [Int.zero_add, Int.one_mul, Int.add_zero]
      exact k96 K' B' L' f'   h1 h2 (h3.1 0) (h3.2.2.2.1 0 200 rfl) (by simpa only [xv, xvT, Int.zero_add, Int.one_mul, Int.add_zero] using (mokF h1 (show (zkd 200).1 = 1 by decide) (j := 20) rfl (by decide) (h3.2.2.2.2.1 _ (List.mem_of_getElem? (i := 0) rfl))))

/-! bo99: from 99 to [100] -/
def w_bo99 : TP := ([(0, (2, 0, (0, []))), (1, (0, 0, (0, [(1, 0)])))], [], ([((-1), 10)], [], [], [200], [], [], []), [], [])
def u_bo99 : List (Nat × TP × EX × Nat × Nat) := [(100, ([(0, (2, 0, (0, []))), (1, (0, 0, (0, [(1, 0)])))], [(0, 0, (0, []))], ([((-1), 10)], [], [], [200], [], [], []), [], []), ((-1), []), 0, 0)]
def D_bo99 : DT := (mkD iX12_beginOne fX12 lX12 kX12 kkX12 412 [] (w_bo99, [], [], 7, 0, 0, 3) false 2 u_bo99)
theorem k_bo99 : chkS D_bo99 4000 0 0 99 = true := by decide +kernel
theorem s_bo99 {X0 : zC0} {E : zCx} (H : ∀ j, j < 412 → CMj X0 j) (hE : zOk E X0 RX12 cX12_beginOne 2 (zrm 7 0 0)) {K : Nat → Nat} {B : Int} {L : List Nat} {f : Nat → va_E} (hh : hok X0.2.2.1 K B L f) {v0 : Int} {r0 : Nat} (hb0 : (-1) ≤ v0 ∧ v0 ≤ 10) (hr0 : r0 ∈ L ∧ K r0 = 200) (k100 : ∀ (K' : Nat → Nat) (B' : Int) (L' : List Nat) (f' : Nat → va_E), hok X0.2.2.1 K' B' L' f' → extC [] K B L f K' B' L' f' → ((-1) ≤ v0 ∧ v0 ≤ 10) → (r0 ∈ L' ∧ K' r0 = 200) → eW E 0 0 L' f' 100 [(0, .ref r0), (1, .int (Int32.ofInt v0))] [.int (Int32.ofInt 0)]) : eW E 0 0 L f 99 [(0, .ref r0), (1, .int (Int32.ofInt v0))] [] := by
  obtain ⟨l0, D0, cy0, ax0⟩ := X0
  have hraw : eW E 0 0 L f 99 [(0, .ref r0), (1, .int (Int32.ofInt (0 + (1 * v0 + 0))))] [] := ?_
  · simpa only [Int.zero_add, Int.one_mul, Int.add_zero] using hraw
  refine seg_ok (D := D_bo99) (νi := fun i => [v0].getD i 0) (μi := fun i => [r0].getD i 0) k_bo99 hE (mk_ok (ins := iX12_beginOne) jX12_beginOne fX12_ok lX12_ok kX12_ok kkX12_ok H) (by decide) rfl rfl rfl rfl hh ?_ ?_
  · refine ⟨(eok_of (fun i q hq => ?_) (fun i hi => ?_)), fa0, fa0, ?_, fa0, fa0, fa0⟩
    · match i, hq with
      | 0, hq => cases hq; exact hb0
      | i + 1, hq => cases hq
    · match i, hi with
      | 0, hi => exact absurd hi (by decide)
      | i + 1, _ => rfl
    · intro i k hk
      match i, hk with
      | 0, hk => cases hk; exact hr0
      | i + 1, hk => cases hk
  · intro q hq hst K' B' L' f' ν μ h1 h2 h3 h4 h5
    have e0 : ν 0 = v0 := h4 0 (by decide)
    have d0 : μ 0 = r0 := h5 0 (by decide)
    subst e0
    subst d0
    replace hq : q ∈ u_bo99 := hq
    unfold u_bo99 at hq
    simp only [List.mem_cons, List.not_mem_nil, or_false] at hq
    rcases hq with rfl
    · have hst2 : eW E 0 0 L' f' 100 [(0, .ref (μ 0)), (1, .int (Int32.ofInt (0 + (1 * ν 0 + 0))))] [.int (Int32.ofInt (0 + 0))] := ?_
      · exact hst2
      try simp only [Int.zero_add, Int.one_mul, Int.add_zero]
      exact k100 K' B' L' f'   h1 h2 (h3.1 0) (h3.2.2.2.1 0 200 rfl)

/-! bo202: from 202 to [208, 214] -/
def w_bo202 : TP := ([(0, (2, 0, (0, []))), (1, (0, 0, (0, [(1, 0)])))], [(0, 0, (0, [(1, 1)]))], ([((-1), 10), (0, 1)], [], [], [200], [], [], []), [], [])
def u_bo202 : List (Nat × TP × EX × Nat × Nat) := [(208, ([(0, (2, 0, (0, []))), (1, (0, 0, (0, [(1, 0)])))], [(0, 0, (20, [])), (2, 0, (0, []))], ([((-1), 10), (1, 1)], [], [], [200], [], [], []), [], []), ((-1), []), 0, 0), (214, ([(0, (2, 0, (0, []))), (1, (0, 0, (0, [(1, 0)])))], [], ([((-1), 10), (0, 0)], [], [], [200], [], [], []), [], []), ((-1), []), 0, 0)]
def D_bo202 : DT := (mkD iX12_beginOne fX12 lX12 kX12 kkX12 412 [] (w_bo202, [], [], 7, 0, 0, 3) false 2 u_bo202)
theorem k_bo202 : chkS D_bo202 4000 0 0 202 = true := by decide +kernel
theorem s_bo202 {X0 : zC0} {E : zCx} (H : ∀ j, j < 412 → CMj X0 j) (hE : zOk E X0 RX12 cX12_beginOne 2 (zrm 7 0 0)) {K : Nat → Nat} {B : Int} {L : List Nat} {f : Nat → va_E} (hh : hok X0.2.2.1 K B L f) {v0 v1 : Int} {r0 : Nat} (hb0 : (-1) ≤ v0 ∧ v0 ≤ 10) (hb1 : 0 ≤ v1 ∧ v1 ≤ 1) (hr0 : r0 ∈ L ∧ K r0 = 200) (k208 : ∀ (K' : Nat → Nat) (B' : Int) (L' : List Nat) (f' : Nat → va_E), hok X0.2.2.1 K' B' L' f' → extC [] K B L f K' B' L' f' → ((-1) ≤ v0 ∧ v0 ≤ 10) → (1 ≤ v1 ∧ v1 ≤ 1) → (r0 ∈ L' ∧ K' r0 = 200) → eW E 0 0 L' f' 208 [(0, .ref r0), (1, .int (Int32.ofInt v0))] [.int (Int32.ofInt 20), .ref r0]) (k214 : ∀ (K' : Nat → Nat) (B' : Int) (L' : List Nat) (f' : Nat → va_E), hok X0.2.2.1 K' B' L' f' → extC [] K B L f K' B' L' f' → ((-1) ≤ v0 ∧ v0 ≤ 10) → (0 ≤ v1 ∧ v1 ≤ 0) → (r0 ∈ L' ∧ K' r0 = 200) → eW E 0 0 L' f' 214 [(0, .ref r0), (1, .int (Int32.ofInt v0))] []) : eW E 0 0 L f 202 [(0, .ref r0), (1, .int (Int32.ofInt v0))] [.int (Int32.ofInt v1)] := by
  obtain ⟨l0, D0, cy0, ax0⟩ := X0
  have hraw : eW E 0 0 L f 202 [(0, .ref r0), (1, .int (Int32.ofInt (0 + (1 * v0 + 0))))] [.int (Int32.ofInt (0 + (1 * v1 + 0)))] := ?_
  · simpa only [Int.zero_add, Int.one_mul, Int.add_zero] using hraw
  refine seg_ok (D := D_bo202) (νi := fun i => [v0, v1].getD i 0) (μi := fun i => [r0].getD i 0) k_bo202 hE (mk_ok (ins := iX12_beginOne) jX12_beginOne fX12_ok lX12_ok kX12_ok kkX12_ok H) (by decide) rfl rfl rfl rfl hh ?_ ?_
  · refine ⟨(eok_of (fun i q hq => ?_) (fun i hi => ?_)), fa0, fa0, ?_, fa0, fa0, fa0⟩
    · match i, hq with
      | 0, hq => cases hq; exact hb0
      | 1, hq => cases hq; exact hb1
      | i + 2, hq => cases hq
    · match i, hi with
      | 0, hi => exact absurd hi (by decide)
      | 1, hi => exact absurd hi (by decide)
      | i + 2, _ => rfl
    · intro i k hk
      match i, hk with
      | 0, hk => cases hk; exact hr0
      | i + 1, hk => cases hk
  · intro q hq hst K' B' L' f' ν μ h1 h2 h3 h4 h5
    have e0 : ν 0 = v0 := h4 0 (by decide)
    have e1 : ν 1 = v1 := h4 1 (by decide)
    have d0 : μ 0 = r0 := h5 0 (by decide)
    subst e0
    subst e1
    subst d0
    replace hq : q ∈ u_bo202 := hq
    unfold u_bo202 at hq
    simp only [List.mem_cons, List.not_mem_nil, or_false] at hq
    rcases hq with rfl | rfl
    · have hst2 : eW E 0 0 L' f' 208 [(0, .ref (μ 0)), (1, .int (Int32.ofInt (0 + (1 * ν 0 + 0))))] [.int (Int32.ofInt (20 + 0)), .ref (μ 0)] := ?_
      · exact hst2
      try simp only [Int.zero_add, Int.one_mul, Int.add_zero]
      exact k208 K' B' L' f'   h1 h2 (h3.1 0) (h3.1 1) (h3.2.2.2.1 0 200 rfl)
    · have hst2 : eW E 0 0 L' f' 214 [(0, .ref (μ 0)), (1, .int (Int32.ofInt (0 + (1 * ν 0 + 0))))] [] := ?_
      · exact hst2
      try simp only [Int.zero_add, Int.one_mul, Int.add_zero]
      exact k214 K' B' L' f'   h1 h2 (h3.1 0) (h3.1 1) (h3.2.2.2.1 0 200 rfl)

/-! bo211: from 211 to [215] -/
def w_bo211 : TP := ([(0, (2, 0, (0, []))), (1, (0, 0, (0, [(1, 0)])))], [(0, 0, (0, [(1, 1)]))], ([((-1), 10), ((-2147483648), 2147483647)], [], [], [200], [], [], []), [], [])
def u_bo211 : List (Nat × TP × EX × Nat × Nat) := [(215, ([(0, (2, 0, (0, []))), (1, (0, 0, (0, [(1, 0)])))], [(0, 0, (0, [(1, 1)]))], ([((-1), 10), ((-2147483648), 2147483647)], [], [], [200], [], [], []), [], []), ((-1), []), 0, 0)]
def D_bo211 : DT := (mkD iX12_beginOne fX12 lX12 kX12 kkX12 412 [] (w_bo211, [], [], 7, 0, 0, 3) false 2 u_bo211)
theorem k_bo211 : chkS D_bo211 4000 0 0 211 = true := by decide +kernel
theorem s_bo211 {X0 : zC0} {E : zCx} (H : ∀ j, j < 412 → CMj X0 j) (hE : zOk E X0 RX12 cX12_beginOne 2 (zrm 7 0 0)) {K : Nat → Nat} {B : Int} {L : List Nat} {f : Nat → va_E} (hh : hok X0.2.2.1 K B L f) {v0 v1 : Int} {r0 : Nat} (hb0 : (-1) ≤ v0 ∧ v0 ≤ 10) (hb1 : (-2147483648) ≤ v1 ∧ v1 ≤ 2147483647) (hr0 : r0 ∈ L ∧ K r0 = 200) (k215 : ∀ (K' : Nat → Nat) (B' : Int) (L' : List Nat) (f' : Nat → va_E), hok X0.2.2.1 K' B' L' f' → extC [] K B L f K' B' L' f' → ((-1) ≤ v0 ∧ v0 ≤ 10) → ((-2147483648) ≤ v1 ∧ v1 ≤ 2147483647) → (r0 ∈ L' ∧ K' r0 = 200) → eW E 0 0 L' f' 215 [(0, .ref r0), (1, .int (Int32.ofInt v0))] [.int (Int32.ofInt v1)]) : eW E 0 0 L f 211 [(0, .ref r0), (1, .int (Int32.ofInt v0))] [.int (Int32.ofInt v1)] := by
  obtain ⟨l0, D0, cy0, ax0⟩ := X0
  have hraw : eW E 0 0 L f 211 [(0, .ref r0), (1, .int (Int32.ofInt (0 + (1 * v0 + 0))))] [.int (Int32.ofInt (0 + (1 * v1 + 0)))] := ?_
  · simpa only [Int.zero_add, Int.one_mul, Int.add_zero] using hraw
  refine seg_ok (D := D_bo211) (νi := fun i => [v0, v1].getD i 0) (μi := fun i => [r0].getD i 0) k_bo211 hE (mk_ok (ins := iX12_beginOne) jX12_beginOne fX12_ok lX12_ok kX12_ok kkX12_ok H) (by decide) rfl rfl rfl rfl hh ?_ ?_
  · refine ⟨(eok_of (fun i q hq => ?_) (fun i hi => ?_)), fa0, fa0, ?_, fa0, fa0, fa0⟩
    · match i, hq with
      | 0, hq => cases hq; exact hb0
      | 1, hq => cases hq; exact hb1
      | i + 2, hq => cases hq
    · match i, hi with
      | 0, hi => exact absurd hi (by decide)
      | 1, hi => exact absurd hi (by decide)
      | i + 2, _ => rfl
    · intro i k hk
      match i, hk with
      | 0, hk => cases hk; exact hr0
      | i + 1, hk => cases hk
  · intro q hq hst K' B' L' f' ν μ h1 h2 h3 h4 h5
    have e0 : ν 0 = v0 := h4 0 (by decide)
    have e1 : ν 1 = v1 := h4 1 (by decide)
    have d0 : μ 0 = r0 := h5 0 (by decide)
    subst e0
    subst e1
    subst d0
    replace hq : q ∈ u_bo211 := hq
    unfold u_bo211 at hq
    simp only [List.mem_cons, List.not_mem_nil, or_false] at hq
    rcases hq with rfl
    · have hst2 : eW E 0 0 L' f' 215 [(0, .ref (μ 0)), (1, .int (Int32.ofInt (0 + (1 * ν 0 + 0))))] [.int (Int32.ofInt (0 + (1 * ν 1 + 0)))] := ?_
      · exact hst2
      try simp only [Int.zero_add, Int.one_mul, Int.add_zero]
      exact k215 K' B' L' f'   h1 h2 (h3.1 0) (h3.1 1) (h3.2.2.2.1 0 200 rfl)

/-! bo214: from 214 to [215] -/
def w_bo214 : TP := ([(0, (2, 0, (0, []))), (1, (0, 0, (0, [(1, 0)])))], [], ([((-1), 10)], [], [], [200], [], [], []), [], [])
def u_bo214 : List (Nat × TP × EX × Nat × Nat) := [(215, ([(0, (2, 0, (0, []))), (1, (0, 0, (0, [(1, 0)])))], [(0, 0, (1, []))], ([((-1), 10)], [], [], [200], [], [], []), [], []), ((-1), []), 0, 0)]
def D_bo214 : DT := (mkD iX12_beginOne fX12 lX12 kX12 kkX12 412 [] (w_bo214, [], [], 7, 0, 0, 3) false 2 u_bo214)
theorem k_bo214 : chkS D_bo214 4000 0 0 214 = true := by decide +kernel
theorem s_bo214 {X0 : zC0} {E : zCx} (H : ∀ j, j < 412 → CMj X0 j) (hE : zOk E X0 RX12 cX12_beginOne 2 (zrm 7 0 0)) {K : Nat → Nat} {B : Int} {L : List Nat} {f : Nat → va_E} (hh : hok X0.2.2.1 K B L f) {v0 : Int} {r0 : Nat} (hb0 : (-1) ≤ v0 ∧ v0 ≤ 10) (hr0 : r0 ∈ L ∧ K r0 = 200) (k215 : ∀ (K' : Nat → Nat) (B' : Int) (L' : List Nat) (f' : Nat → va_E), hok X0.2.2.1 K' B' L' f' → extC [] K B L f K' B' L' f' → ((-1) ≤ v0 ∧ v0 ≤ 10) → (r0 ∈ L' ∧ K' r0 = 200) → eW E 0 0 L' f' 215 [(0, .ref r0), (1, .int (Int32.ofInt v0))] [.int (Int32.ofInt 1)]) : eW E 0 0 L f 214 [(0, .ref r0), (1, .int (Int32.ofInt v0))] [] := by
  obtain ⟨l0, D0, cy0, ax0⟩ := X0
  have hraw : eW E 0 0 L f 214 [(0, .ref r0), (1, .int (Int32.ofInt (0 + (1 * v0 + 0))))] [] := ?_
  · simpa only [Int.zero_add, Int.one_mul, Int.add_zero] using hraw
  refine seg_ok (D := D_bo214) (νi := fun i => [v0].getD i 0) (μi := fun i => [r0].getD i 0) k_bo214 hE (mk_ok (ins := iX12_beginOne) jX12_beginOne fX12_ok lX12_ok kX12_ok kkX12_ok H) (by decide) rfl rfl rfl rfl hh ?_ ?_
  · refine ⟨(eok_of (fun i q hq => ?_) (fun i hi => ?_)), fa0, fa0, ?_, fa0, fa0, fa0⟩
    · match i, hq with
      | 0, hq => cases hq; exact hb0
      | i + 1, hq => cases hq
    · match i, hi with
      | 0, hi => exact absurd hi (by decide)
      | i + 1, _ => rfl
    · intro i k hk
      match i, hk with
      | 0, hk => cases hk; exact hr0
      | i + 1, hk => cases hk
  · intro q hq hst K' B' L' f' ν μ h1 h2 h3 h4 h5
    have e0 : ν 0 = v0 := h4 0 (by decide)
    have d0 : μ 0 = r0 := h5 0 (by decide)
    subst e0
    subst d0
    replace hq : q ∈ u_bo214 := hq
    unfold u_bo214 at hq
    simp only [List.mem_cons, List.not_mem_nil, or_false] at hq
    rcases hq with rfl
    · have hst2 : eW E 0 0 L' f' 215 [(0, .ref (μ 0)), (1, .int (Int32.ofInt (0 + (1 * ν 0 + 0))))] [.int (Int32.ofInt (1 + 0))] := ?_
      · exact hst2
      try simp only [Int.zero_add, Int.one_mul, Int.add_zero]
      exact k215 K' B' L' f'   h1 h2 (h3.1 0) (h3.2.2.2.1 0 200 rfl)

/-! sh0: from 0 to [2] -/
def w_sh0 : TP := ([(0, (2, 0, (0, []))), (1, (0, 0, (0, [(1, 0)])))], [], ([(40, 42)], [], [], [200], [], [], []), [], [])
def u_sh0 : List (Nat × TP × EX × Nat × Nat) := [(2, ([(0, (2, 0, (0, []))), (1, (0, 0, (0, [(1, 0)])))], [(0, 0, (1, [])), (2, 0, (0, []))], ([(40, 42)], [], [], [200], [], [], []), [], []), ((-1), []), 0, 0)]
def D_sh0 : DT := (mkD iX12_shut fX12 lX12 kX12 kkX12 412 [] (w_sh0, [], [], 6, 0, 0, 3) false 2 u_sh0)
theorem k_sh0 : chkS D_sh0 4000 0 0 0 = true := by decide +kernel
theorem s_sh0 {X0 : zC0} {E : zCx} (H : ∀ j, j < 412 → CMj X0 j) (hE : zOk E X0 RX12 cX12_shut 2 (zrm 6 0 0)) {K : Nat → Nat} {B : Int} {L : List Nat} {f : Nat → va_E} (hh : hok X0.2.2.1 K B L f) {v0 : Int} {r0 : Nat} (hb0 : 40 ≤ v0 ∧ v0 ≤ 42) (hr0 : r0 ∈ L ∧ K r0 = 200) (k2 : ∀ (K' : Nat → Nat) (B' : Int) (L' : List Nat) (f' : Nat → va_E), hok X0.2.2.1 K' B' L' f' → extC [] K B L f K' B' L' f' → (40 ≤ v0 ∧ v0 ≤ 42) → (r0 ∈ L' ∧ K' r0 = 200) → eW E 0 0 L' f' 2 [(0, .ref r0), (1, .int (Int32.ofInt v0))] [.int (Int32.ofInt 1), .ref r0]) : eW E 0 0 L f 0 [(0, .ref r0), (1, .int (Int32.ofInt v0))] [] := by
  obtain ⟨l0, D0, cy0, ax0⟩ := X0
  have hraw : eW E 0 0 L f 0 [(0, .ref r0), (1, .int (Int32.ofInt (0 + (1 * v0 + 0))))] [] := ?_
  · simpa only [Int.zero_add, Int.one_mul, Int.add_zero] using hraw
  refine seg_ok (D := D_sh0) (νi := fun i => [v0].getD i 0) (μi := fun i => [r0].getD i 0) k_sh0 hE (mk_ok (ins := iX12_shut) jX12_shut fX12_ok lX12_ok kX12_ok kkX12_ok H) (by decide) rfl rfl rfl rfl hh ?_ ?_
  · refine ⟨(eok_of (fun i q hq => ?_) (fun i hi => ?_)), fa0, fa0, ?_, fa0, fa0, fa0⟩
    · match i, hq with
      | 0, hq => cases hq; exact hb0
      | i + 1, hq => cases hq
    · match i, hi with
      | 0, hi => exact absurd hi (by decide)
      | i + 1, _ => rfl
    · intro i k hk
      match i, hk with
      | 0, hk => cases hk; exact hr0
      | i + 1, hk => cases hk
  · intro q hq hst K' B' L' f' ν μ h1 h2 h3 h4 h5
    have e0 : ν 0 = v0 := h4 0 (by decide)
    have d0 : μ 0 = r0 := h5 0 (by decide)
    subst e0
    subst d0
    replace hq : q ∈ u_sh0 := hq
    unfold u_sh0 at hq
    simp only [List.mem_cons, List.not_mem_nil, or_false] at hq
    rcases hq with rfl
    · have hst2 : eW E 0 0 L' f' 2 [(0, .ref (μ 0)), (1, .int (Int32.ofInt (0 + (1 * ν 0 + 0))))] [.int (Int32.ofInt (1 + 0)), .ref (μ 0)] := ?_
      · exact hst2
      try simp only [Int.zero_add, Int.one_mul, Int.add_zero]
      exact k2 K' B' L' f'   h1 h2 (h3.1 0) (h3.2.2.2.1 0 200 rfl)

/-! sh5: from 5 to [31, 97] -/
def w_sh5 : TP := ([(0, (2, 0, (0, []))), (1, (0, 0, (0, [(1, 0)])))], [], ([(40, 42), (1, 160), ((-999), 8)], [], [], [200], [((200, (17, [])), (0, [(1, 1)])), ((200, (18, [])), (0, [(1, 2)]))], [], []), [], [])
def u_sh5 : List (Nat × TP × EX × Nat × Nat) := [(31, ([(0, (2, 0, (0, []))), (1, (0, 0, (0, [(1, 0)])))], [], ([(41, 42), (1, 160), ((-999), 8)], [], [], [200], [((200, (18, [])), ((-1), [(1, 2)])), ((200, (17, [])), ((-1), [(1, 1)]))], [], []), [], []), ((-1), []), 0, 0), (97, ([(0, (2, 0, (0, []))), (1, (0, 0, (0, [(1, 0)])))], [], ([(40, 40), (1, 160), ((-999), 8)], [], [], [200], [((200, (18, [])), ((-1), [(1, 2)])), ((200, (17, [])), ((-1), [(1, 1)]))], [], []), [], []), ((-1), []), 0, 0)]
def D_sh5 : DT := (mkD iX12_shut fX12 lX12 kX12 kkX12 412 [] (w_sh5, [(200, 17), (200, 18)], [], 6, 0, 0, 3) false 2 u_sh5)
theorem k_sh5 : chkS D_sh5 4000 0 0 5 = true := by decide +kernel
theorem s_sh5 {X0 : zC0} {E : zCx} (H : ∀ j, j < 412 → CMj X0 j) (hE : zOk E X0 RX12 cX12_shut 2 (zrm 6 0 0)) {K : Nat → Nat} {B : Int} {L : List Nat} {f : Nat → va_E} (hh : hok X0.2.2.1 K B L f) {v0 v1 v2 : Int} {r0 : Nat} (hb0 : 40 ≤ v0 ∧ v0 ≤ 42) (hb1 : 1 ≤ v1 ∧ v1 ≤ 160) (hb2 : (-999) ≤ v2 ∧ v2 ≤ 8) (hr0 : r0 ∈ L ∧ K r0 = 200) (hm0 : (∀ b ∈ L, K b = 200 → gi (f b) 17 = v1)) (hm1 : (∀ b ∈ L, K b = 200 → gi (f b) 18 = v2)) (k31 : ∀ (K' : Nat → Nat) (B' : Int) (L' : List Nat) (f' : Nat → va_E), hok X0.2.2.1 K' B' L' f' → extC [(200, 17), (200, 18)] K B L f K' B' L' f' → (41 ≤ v0 ∧ v0 ≤ 42) → (1 ≤ v1 ∧ v1 ≤ 160) → ((-999) ≤ v2 ∧ v2 ≤ 8) → (r0 ∈ L' ∧ K' r0 = 200) → (∀ b ∈ L', K' b = 200 → gi (f' b) 18 = ((-1) + v2)) → (∀ b ∈ L', K' b = 200 → gi (f' b) 17 = ((-1) + v1)) → eW E 0 0 L' f' 31 [(0, .ref r0), (1, .int (Int32.ofInt v0))] []) (k97 : ∀ (K' : Nat → Nat) (B' : Int) (L' : List Nat) (f' : Nat → va_E), hok X0.2.2.1 K' B' L' f' → extC [(200, 17), (200, 18)] K B L f K' B' L' f' → (40 ≤ v0 ∧ v0 ≤ 40) → (1 ≤ v1 ∧ v1 ≤ 160) → ((-999) ≤ v2 ∧ v2 ≤ 8) → (r0 ∈ L' ∧ K' r0 = 200) → (∀ b ∈ L', K' b = 200 → gi (f' b) 18 = ((-1) + v2)) → (∀ b ∈ L', K' b = 200 → gi (f' b) 17 = ((-1) + v1)) → eW E 0 0 L' f' 97 [(0, .ref r0), (1, .int (Int32.ofInt v0))] []) : eW E 0 0 L f 5 [(0, .ref r0), (1, .int (Int32.ofInt v0))] [] := by
  obtain ⟨l0, D0, cy0, ax0⟩ := X0
  have hraw : eW E 0 0 L f 5 [(0, .ref r0), (1, .int (Int32.ofInt (0 + (1 * v0 + 0))))] [] := ?_
  · simpa only [Int.zero_add, Int.one_mul, Int.add_zero] using hraw
  have rm0 : (∀ b ∈ L, K b = 200 → gi (f b) 17 = (0 + (1 * v1 + 0))) := by simpa only [Int.zero_add, Int.one_mul, Int.add_zero] using hm0
  have rm1 : (∀ b ∈ L, K b = 200 → gi (f b) 18 = (0 + (1 * v2 + 0))) := by simpa only [Int.zero_add, Int.one_mul, Int.add_zero] using hm1
  refine seg_ok (D := D_sh5) (νi := fun i => [v0, v1, v2].getD i 0) (μi := fun i => [r0].getD i 0) k_sh5 hE (mk_ok (ins := iX12_shut) jX12_shut fX12_ok lX12_ok kX12_ok kkX12_ok H) (by decide) rfl rfl rfl rfl hh ?_ ?_
  · refine ⟨(eok_of (fun i q hq => ?_) (fun i hi => ?_)), fa0, fa0, ?_, (fa_cons (Fmok hh (show (zkd 200).1 = 1 by decide) (j := 17) rfl (by decide) rm0) (fa_cons (Fmok hh (show (zkd 200).1 = 1 by decide) (j := 18) rfl (by decide) rm1) fa0)), fa0, fa0⟩
    · match i, hq with
      | 0, hq => cases hq; exact hb0
      | 1, hq => cases hq; exact hb1
      | 2, hq => cases hq; exact hb2
      | i + 3, hq => cases hq
    · match i, hi with
      | 0, hi => exact absurd hi (by decide)
      | 1, hi => exact absurd hi (by decide)
      | 2, hi => exact absurd hi (by decide)
      | i + 3, _ => rfl
    · intro i k hk
      match i, hk with
      | 0, hk => cases hk; exact hr0
      | i + 1, hk => cases hk
  · intro q hq hst K' B' L' f' ν μ h1 h2 h3 h4 h5
    have e0 : ν 0 = v0 := h4 0 (by decide)
    have e1 : ν 1 = v1 := h4 1 (by decide)
    have e2 : ν 2 = v2 := h4 2 (by decide)
    have d0 : μ 0 = r0 := h5 0 (by decide)
    subst e0
    subst e1
    subst e2
    subst d0
    replace hq : q ∈ u_sh5 := hq
    unfold u_sh5 at hq
    simp only [List.mem_cons, List.not_mem_nil, or_false] at hq
    rcases hq with rfl | rfl
    · have hst2 : eW E 0 0 L' f' 31 [(0, .ref (μ 0)), (1, .int (Int32.ofInt (0 + (1 * ν 0 + 0))))] [] := ?_
      · exact hst2
      try simp only [Int.zero_add, Int.one_mul, Int.add_zero]
      exact k31 K' B' L' f'   h1 h2 (h3.1 0) (h3.1 1) (h3.1 2) (h3.2.2.2.1 0 200 rfl) (by simpa only [xv, xvT, Int.zero_add, Int.one_mul, Int.add_zero] using (mokF h1 (show (zkd 200).1 = 1 by decide) (j := 18) rfl (by decide) (h3.2.2.2.2.1 _ (List.mem_of_getElem? (i := 0) rfl)))) (by simpa only [xv, xvT, Int.zero_add, Int.one_mul, Int.add_zero] using (mokF h1 (show (zkd 200).1 = 1 by decide) (j := 17) rfl (by decide) (h3.2.2.2.2.1 _ (List.mem_of_getElem? (i := 1) rfl))))
    · have hst2 : eW E 0 0 L' f' 97 [(0, .ref (μ 0)), (1, .int (Int32.ofInt (0 + (1 * ν 0 + 0))))] [] := ?_
      · exact hst2
      try simp only [Int.zero_add, Int.one_mul, Int.add_zero]
      exact k97 K' B' L' f'   h1 h2 (h3.1 0) (h3.1 1) (h3.1 2) (h3.2.2.2.1 0 200 rfl) (by simpa only [xv, xvT, Int.zero_add, Int.one_mul, Int.add_zero] using (mokF h1 (show (zkd 200).1 = 1 by decide) (j := 18) rfl (by decide) (h3.2.2.2.2.1 _ (List.mem_of_getElem? (i := 0) rfl)))) (by simpa only [xv, xvT, Int.zero_add, Int.one_mul, Int.add_zero] using (mokF h1 (show (zkd 200).1 = 1 by decide) (j := 17) rfl (by decide) (h3.2.2.2.2.1 _ (List.mem_of_getElem? (i := 1) rfl))))

/-! sh31: from 31 to [70] -/
def w_sh31 : TP := ([(0, (2, 0, (0, []))), (1, (0, 0, (0, [(1, 0)])))], [], ([(40, 42), (1, 9)], [], [], [200], [((200, (19, [])), (0, [(1, 1)]))], [], []), [], [])
def u_sh31 : List (Nat × TP × EX × Nat × Nat) := [(70, ([(0, (2, 0, (0, []))), (1, (0, 0, (0, [(1, 0)])))], [(0, 0, (0, [(1, 2)])), (0, 0, (98, [(2, 3), (1, 4)])), (2, 1, (0, []))], ([(40, 42), (1, 9), (0, 304), (0, 304), (0, 2115)], [], [], [200, 203], [((200, (13, [])), (0, [(1, 2)])), ((206, ((-1), [(1, 1)])), (0, [(1, 3)])), ((200, (12, [])), (0, [(1, 4)])), ((200, (19, [])), ((-1), [(1, 1)]))], [], []), [(1, 0, (0, [])), (2, 206, ((-1), [(1, 1)])), (2, 200, (12, []))], [(1, 2)]), ((-1), []), 0, 0)]
def D_sh31 : DT := (mkD iX12_shut fX12 lX12 kX12 kkX12 412 [] (w_sh31, [(200, 19)], [], 6, 0, 0, 3) false 2 u_sh31)
theorem k_sh31 : chkS D_sh31 4000 0 0 31 = true := by decide +kernel
theorem s_sh31 {X0 : zC0} {E : zCx} (H : ∀ j, j < 412 → CMj X0 j) (hE : zOk E X0 RX12 cX12_shut 2 (zrm 6 0 0)) {K : Nat → Nat} {B : Int} {L : List Nat} {f : Nat → va_E} (hh : hok X0.2.2.1 K B L f) {v0 v1 : Int} {r0 : Nat} (hb0 : 40 ≤ v0 ∧ v0 ≤ 42) (hb1 : 1 ≤ v1 ∧ v1 ≤ 9) (hr0 : r0 ∈ L ∧ K r0 = 200) (hm0 : (∀ b ∈ L, K b = 200 → gi (f b) 19 = v1)) (k70 : ∀ (K' : Nat → Nat) (B' : Int) (L' : List Nat) (f' : Nat → va_E) (v2 v3 v4 : Int) (r1 : Nat), hok X0.2.2.1 K' B' L' f' → extC [(200, 19)] K B L f K' B' L' f' → (40 ≤ v0 ∧ v0 ≤ 42) → (1 ≤ v1 ∧ v1 ≤ 9) → (0 ≤ v2 ∧ v2 ≤ 304) → (0 ≤ v3 ∧ v3 ≤ 304) → (0 ≤ v4 ∧ v4 ≤ 2115) → (r0 ∈ L' ∧ K' r0 = 200) → (r1 ∈ L' ∧ K' r1 = 203) → (∀ b ∈ L', K' b = 200 → gi (f' b) 13 = v2) → (∀ b ∈ L', K' b = 206 → (0 : Int) ≤ ((-1) + v1) ∧ gi (f' b) ((((-1) + v1) : Int)).toNat = v3) → (∀ b ∈ L', K' b = 200 → gi (f' b) 12 = v4) → (∀ b ∈ L', K' b = 200 → gi (f' b) 19 = ((-1) + v1)) → eW E 0 0 L' f' 70 [(0, .ref r0), (1, .int (Int32.ofInt v0))] [.int (Int32.ofInt v2), .int (Int32.ofInt (98 + (2 * v3 + v4))), .ref r1]) : eW E 0 0 L f 31 [(0, .ref r0), (1, .int (Int32.ofInt v0))] [] := by
  obtain ⟨l0, D0, cy0, ax0⟩ := X0
  have hraw : eW E 0 0 L f 31 [(0, .ref r0), (1, .int (Int32.ofInt (0 + (1 * v0 + 0))))] [] := ?_
  · simpa only [Int.zero_add, Int.one_mul, Int.add_zero] using hraw
  have rm0 : (∀ b ∈ L, K b = 200 → gi (f b) 19 = (0 + (1 * v1 + 0))) := by simpa only [Int.zero_add, Int.one_mul, Int.add_zero] using hm0
  refine seg_ok (D := D_sh31) (νi := fun i => [v0, v1].getD i 0) (μi := fun i => [r0].getD i 0) k_sh31 hE (mk_ok (ins := iX12_shut) jX12_shut fX12_ok lX12_ok kX12_ok kkX12_ok H) (by decide) rfl rfl rfl rfl hh ?_ ?_
  · refine ⟨(eok_of (fun i q hq => ?_) (fun i hi => ?_)), fa0, fa0, ?_, (fa_cons (Fmok hh (show (zkd 200).1 = 1 by decide) (j := 19) rfl (by decide) rm0) fa0), fa0, fa0⟩
    · match i, hq with
      | 0, hq => cases hq; exact hb0
      | 1, hq => cases hq; exact hb1
      | i + 2, hq => cases hq
    · match i, hi with
      | 0, hi => exact absurd hi (by decide)
      | 1, hi => exact absurd hi (by decide)
      | i + 2, _ => rfl
    · intro i k hk
      match i, hk with
      | 0, hk => cases hk; exact hr0
      | i + 1, hk => cases hk
  · intro q hq hst K' B' L' f' ν μ h1 h2 h3 h4 h5
    have e0 : ν 0 = v0 := h4 0 (by decide)
    have e1 : ν 1 = v1 := h4 1 (by decide)
    have d0 : μ 0 = r0 := h5 0 (by decide)
    subst e0
    subst e1
    subst d0
    replace hq : q ∈ u_sh31 := hq
    unfold u_sh31 at hq
    simp only [List.mem_cons, List.not_mem_nil, or_false] at hq
    rcases hq with rfl
    · have hst2 : eW E 0 0 L' f' 70 [(0, .ref (μ 0)), (1, .int (Int32.ofInt (0 + (1 * ν 0 + 0))))] [.int (Int32.ofInt (0 + (1 * ν 2 + 0))), .int (Int32.ofInt (98 + (2 * ν 3 + (1 * ν 4 + 0)))), .ref (μ 1)] := ?_
      · exact hst2
      try simp only [Int.zero_add, Int.one_mul, Int.add_zero]
      exact k70 K' B' L' f' (ν 2) (ν 3) (ν 4) (μ 1) h1 h2 (h3.1 0) (h3.1 1) (h3.1 2) (h3.1 3) (h3.1 4) (h3.2.2.2.1 0 200 rfl) (h3.2.2.2.1 1 203 rfl) (by simpa only [xv, xvT, Int.zero_add, Int.one_mul, Int.add_zero] using (mokF h1 (show (zkd 200).1 = 1 by decide) (j := 13) rfl (by decide) (h3.2.2.2.2.1 _ (List.mem_of_getElem? (i := 0) rfl)))) (by simpa only [xv, xvT, Int.zero_add, Int.one_mul, Int.add_zero] using (mokA h1 (show (zkd 206).1 = 2 by decide) (by decide) (h3.2.2.2.2.1 _ (List.mem_of_getElem? (i := 1) rfl)))) (by simpa only [xv, xvT, Int.zero_add, Int.one_mul, Int.add_zero] using (mokF h1 (show (zkd 200).1 = 1 by decide) (j := 12) rfl (by decide) (h3.2.2.2.2.1 _ (List.mem_of_getElem? (i := 2) rfl)))) (by simpa only [xv, xvT, Int.zero_add, Int.one_mul, Int.add_zero] using (mokF h1 (show (zkd 200).1 = 1 by decide) (j := 19) rfl (by decide) (h3.2.2.2.2.1 _ (List.mem_of_getElem? (i := 3) rfl))))

/-! sh71a: from 71 to [78] -/
def w_sh71a : TP := ([(0, (2, 0, (0, []))), (1, (0, 0, (41, [])))], [], ([], [], [], [200], [], [], []), [], [])
def u_sh71a : List (Nat × TP × EX × Nat × Nat) := [(78, ([(0, (2, 0, (0, []))), (1, (0, 0, (41, [])))], [(2, 0, (0, []))], ([], [], [], [200], [], [], []), [], []), ((-1), []), 0, 0)]
def D_sh71a : DT := (mkD iX12_shut fX12 lX12 kX12 kkX12 412 [] (w_sh71a, [], [], 6, 0, 0, 3) false 2 u_sh71a)
theorem k_sh71a : chkS D_sh71a 4000 0 0 71 = true := by decide +kernel
theorem s_sh71a {X0 : zC0} {E : zCx} (H : ∀ j, j < 412 → CMj X0 j) (hE : zOk E X0 RX12 cX12_shut 2 (zrm 6 0 0)) {K : Nat → Nat} {B : Int} {L : List Nat} {f : Nat → va_E} (hh : hok X0.2.2.1 K B L f) {r0 : Nat} (hr0 : r0 ∈ L ∧ K r0 = 200) (k78 : ∀ (K' : Nat → Nat) (B' : Int) (L' : List Nat) (f' : Nat → va_E), hok X0.2.2.1 K' B' L' f' → extC [] K B L f K' B' L' f' → (r0 ∈ L' ∧ K' r0 = 200) → eW E 0 0 L' f' 78 [(0, .ref r0), (1, .int (Int32.ofInt 41))] [.ref r0]) : eW E 0 0 L f 71 [(0, .ref r0), (1, .int (Int32.ofInt 41))] [] := by
  obtain ⟨l0, D0, cy0, ax0⟩ := X0
  have hraw : eW E 0 0 L f 71 [(0, .ref r0), (1, .int (Int32.ofInt (41 + 0)))] [] := ?_
  · simpa only [Int.zero_add, Int.one_mul, Int.add_zero] using hraw
  refine seg_ok (D := D_sh71a) (νi := fun i => [].getD i 0) (μi := fun i => [r0].getD i 0) k_sh71a hE (mk_ok (ins := iX12_shut) jX12_shut fX12_ok lX12_ok kX12_ok kkX12_ok H) (by decide) rfl rfl rfl rfl hh ?_ ?_
  · refine ⟨(eok_of (fun i q hq => by cases hq) (fun i _ => rfl)), fa0, fa0, ?_, fa0, fa0, fa0⟩
    · intro i k hk
      match i, hk with
      | 0, hk => cases hk; exact hr0
      | i + 1, hk => cases hk
  · intro q hq hst K' B' L' f' ν μ h1 h2 h3 h4 h5
    have d0 : μ 0 = r0 := h5 0 (by decide)
    subst d0
    replace hq : q ∈ u_sh71a := hq
    unfold u_sh71a at hq
    simp only [List.mem_cons, List.not_mem_nil, or_false] at hq
    rcases hq with rfl
    · have hst2 : eW E 0 0 L' f' 78 [(0, .ref (μ 0)), (1, .int (Int32.ofInt (41 + 0)))] [.ref (μ 0)] := ?_
      · exact hst2
      try simp only [Int.zero_add, Int.one_mul, Int.add_zero]
      exact k78 K' B' L' f'   h1 h2 (h3.2.2.2.1 0 200 rfl)

/-! sh71b: from 71 to [83] -/
def w_sh71b : TP := ([(0, (2, 0, (0, []))), (1, (0, 0, (42, [])))], [], ([], [], [], [200], [], [], []), [], [])
def u_sh71b : List (Nat × TP × EX × Nat × Nat) := [(83, ([(0, (2, 0, (0, []))), (1, (0, 0, (42, [])))], [(2, 0, (0, []))], ([], [], [], [200], [], [], []), [], []), ((-1), []), 0, 0)]
def D_sh71b : DT := (mkD iX12_shut fX12 lX12 kX12 kkX12 412 [] (w_sh71b, [], [], 6, 0, 0, 3) false 2 u_sh71b)
theorem k_sh71b : chkS D_sh71b 4000 0 0 71 = true := by decide +kernel
theorem s_sh71b {X0 : zC0} {E : zCx} (H : ∀ j, j < 412 → CMj X0 j) (hE : zOk E X0 RX12 cX12_shut 2 (zrm 6 0 0)) {K : Nat → Nat} {B : Int} {L : List Nat} {f : Nat → va_E} (hh : hok X0.2.2.1 K B L f) {r0 : Nat} (hr0 : r0 ∈ L ∧ K r0 = 200) (k83 : ∀ (K' : Nat → Nat) (B' : Int) (L' : List Nat) (f' : Nat → va_E), hok X0.2.2.1 K' B' L' f' → extC [] K B L f K' B' L' f' → (r0 ∈ L' ∧ K' r0 = 200) → eW E 0 0 L' f' 83 [(0, .ref r0), (1, .int (Int32.ofInt 42))] [.ref r0]) : eW E 0 0 L f 71 [(0, .ref r0), (1, .int (Int32.ofInt 42))] [] := by
  obtain ⟨l0, D0, cy0, ax0⟩ := X0
  have hraw : eW E 0 0 L f 71 [(0, .ref r0), (1, .int (Int32.ofInt (42 + 0)))] [] := ?_
  · simpa only [Int.zero_add, Int.one_mul, Int.add_zero] using hraw
  refine seg_ok (D := D_sh71b) (νi := fun i => [].getD i 0) (μi := fun i => [r0].getD i 0) k_sh71b hE (mk_ok (ins := iX12_shut) jX12_shut fX12_ok lX12_ok kX12_ok kkX12_ok H) (by decide) rfl rfl rfl rfl hh ?_ ?_
  · refine ⟨(eok_of (fun i q hq => by cases hq) (fun i _ => rfl)), fa0, fa0, ?_, fa0, fa0, fa0⟩
    · intro i k hk
      match i, hk with
      | 0, hk => cases hk; exact hr0
      | i + 1, hk => cases hk
  · intro q hq hst K' B' L' f' ν μ h1 h2 h3 h4 h5
    have d0 : μ 0 = r0 := h5 0 (by decide)
    subst d0
    replace hq : q ∈ u_sh71b := hq
    unfold u_sh71b at hq
    simp only [List.mem_cons, List.not_mem_nil, or_false] at hq
    rcases hq with rfl
    · have hst2 : eW E 0 0 L' f' 83 [(0, .ref (μ 0)), (1, .int (Int32.ofInt (42 + 0)))] [.ref (μ 0)] := ?_
      · exact hst2
      try simp only [Int.zero_add, Int.one_mul, Int.add_zero]
      exact k83 K' B' L' f'   h1 h2 (h3.2.2.2.1 0 200 rfl)

/-! sh78: from 78 to [94] -/
def w_sh78 : TP := ([(0, (2, 0, (0, []))), (1, (0, 0, (0, [(1, 0)])))], [(2, 0, (0, []))], ([(40, 42)], [], [], [200], [], [], []), [], [])
def u_sh78 : List (Nat × TP × EX × Nat × Nat) := [(94, ([(0, (2, 0, (0, []))), (1, (0, 0, (0, [(1, 0)])))], [(0, 0, (0, [(1, 1)])), (0, 0, (31, [])), (2, 0, (0, []))], ([(40, 42), (0, 304), (0, 9)], [], [], [200], [((206, (0, [(1, 2)])), (0, [(1, 1)])), ((200, (19, [])), (0, [(1, 2)]))], [], []), [(1, 0, (0, [])), (2, 200, (19, []))], []), ((-1), []), 0, 0)]
def D_sh78 : DT := (mkD iX12_shut fX12 lX12 kX12 kkX12 412 [] (w_sh78, [], [], 6, 0, 0, 3) false 2 u_sh78)
theorem k_sh78 : chkS D_sh78 4000 0 0 78 = true := by decide +kernel
theorem s_sh78 {X0 : zC0} {E : zCx} (H : ∀ j, j < 412 → CMj X0 j) (hE : zOk E X0 RX12 cX12_shut 2 (zrm 6 0 0)) {K : Nat → Nat} {B : Int} {L : List Nat} {f : Nat → va_E} (hh : hok X0.2.2.1 K B L f) {v0 : Int} {r0 : Nat} (hb0 : 40 ≤ v0 ∧ v0 ≤ 42) (hr0 : r0 ∈ L ∧ K r0 = 200) (k94 : ∀ (K' : Nat → Nat) (B' : Int) (L' : List Nat) (f' : Nat → va_E) (v1 v2 : Int), hok X0.2.2.1 K' B' L' f' → extC [] K B L f K' B' L' f' → (40 ≤ v0 ∧ v0 ≤ 42) → (0 ≤ v1 ∧ v1 ≤ 304) → (0 ≤ v2 ∧ v2 ≤ 9) → (r0 ∈ L' ∧ K' r0 = 200) → (∀ b ∈ L', K' b = 206 → (0 : Int) ≤ v2 ∧ gi (f' b) ((v2 : Int)).toNat = v1) → (∀ b ∈ L', K' b = 200 → gi (f' b) 19 = v2) → eW E 0 0 L' f' 94 [(0, .ref r0), (1, .int (Int32.ofInt v0))] [.int (Int32.ofInt v1), .int (Int32.ofInt 31), .ref r0]) : eW E 0 0 L f 78 [(0, .ref r0), (1, .int (Int32.ofInt v0))] [.ref r0] := by
  obtain ⟨l0, D0, cy0, ax0⟩ := X0
  have hraw : eW E 0 0 L f 78 [(0, .ref r0), (1, .int (Int32.ofInt (0 + (1 * v0 + 0))))] [.ref r0] := ?_
  · simpa only [Int.zero_add, Int.one_mul, Int.add_zero] using hraw
  refine seg_ok (D := D_sh78) (νi := fun i => [v0].getD i 0) (μi := fun i => [r0].getD i 0) k_sh78 hE (mk_ok (ins := iX12_shut) jX12_shut fX12_ok lX12_ok kX12_ok kkX12_ok H) (by decide) rfl rfl rfl rfl hh ?_ ?_
  · refine ⟨(eok_of (fun i q hq => ?_) (fun i hi => ?_)), fa0, fa0, ?_, fa0, fa0, fa0⟩
    · match i, hq with
      | 0, hq => cases hq; exact hb0
      | i + 1, hq => cases hq
    · match i, hi with
      | 0, hi => exact absurd hi (by decide)
      | i + 1, _ => rfl
    · intro i k hk
      match i, hk with
      | 0, hk => cases hk; exact hr0
      | i + 1, hk => cases hk
  · intro q hq hst K' B' L' f' ν μ h1 h2 h3 h4 h5
    have e0 : ν 0 = v0 := h4 0 (by decide)
    have d0 : μ 0 = r0 := h5 0 (by decide)
    subst e0
    subst d0
    replace hq : q ∈ u_sh78 := hq
    unfold u_sh78 at hq
    simp only [List.mem_cons, List.not_mem_nil, or_false] at hq
    rcases hq with rfl
    · have hst2 : eW E 0 0 L' f' 94 [(0, .ref (μ 0)), (1, .int (Int32.ofInt (0 + (1 * ν 0 + 0))))] [.int (Int32.ofInt (0 + (1 * ν 1 + 0))), .int (Int32.ofInt (31 + 0)), .ref (μ 0)] := ?_
      · exact hst2
      try simp only [Int.zero_add, Int.one_mul, Int.add_zero]
      exact k94 K' B' L' f' (ν 1) (ν 2)  h1 h2 (h3.1 0) (h3.1 1) (h3.1 2) (h3.2.2.2.1 0 200 rfl) (by simpa only [xv, xvT, Int.zero_add, Int.one_mul, Int.add_zero] using (mokA h1 (show (zkd 206).1 = 2 by decide) (by decide) (h3.2.2.2.2.1 _ (List.mem_of_getElem? (i := 0) rfl)))) (by simpa only [xv, xvT, Int.zero_add, Int.one_mul, Int.add_zero] using (mokF h1 (show (zkd 200).1 = 1 by decide) (j := 19) rfl (by decide) (h3.2.2.2.2.1 _ (List.mem_of_getElem? (i := 1) rfl))))

/-! sh83: from 83 to [94] -/
def w_sh83 : TP := ([(0, (2, 0, (0, []))), (1, (0, 0, (0, [(1, 0)])))], [(2, 0, (0, []))], ([(40, 42)], [], [], [200], [], [], []), [], [])
def u_sh83 : List (Nat × TP × EX × Nat × Nat) := [(94, ([(0, (2, 0, (0, []))), (1, (0, 0, (0, [(1, 0)])))], [(0, 0, (0, [(1, 1)])), (0, 0, (32, [])), (2, 0, (0, []))], ([(40, 42), (0, 304), (0, 9)], [], [], [200], [((206, (0, [(1, 2)])), (0, [(1, 1)])), ((200, (19, [])), (0, [(1, 2)]))], [], []), [(1, 0, (0, [])), (2, 200, (19, []))], []), ((-1), []), 0, 0)]
def D_sh83 : DT := (mkD iX12_shut fX12 lX12 kX12 kkX12 412 [] (w_sh83, [], [], 6, 0, 0, 3) false 2 u_sh83)
theorem k_sh83 : chkS D_sh83 4000 0 0 83 = true := by decide +kernel
theorem s_sh83 {X0 : zC0} {E : zCx} (H : ∀ j, j < 412 → CMj X0 j) (hE : zOk E X0 RX12 cX12_shut 2 (zrm 6 0 0)) {K : Nat → Nat} {B : Int} {L : List Nat} {f : Nat → va_E} (hh : hok X0.2.2.1 K B L f) {v0 : Int} {r0 : Nat} (hb0 : 40 ≤ v0 ∧ v0 ≤ 42) (hr0 : r0 ∈ L ∧ K r0 = 200) (k94 : ∀ (K' : Nat → Nat) (B' : Int) (L' : List Nat) (f' : Nat → va_E) (v1 v2 : Int), hok X0.2.2.1 K' B' L' f' → extC [] K B L f K' B' L' f' → (40 ≤ v0 ∧ v0 ≤ 42) → (0 ≤ v1 ∧ v1 ≤ 304) → (0 ≤ v2 ∧ v2 ≤ 9) → (r0 ∈ L' ∧ K' r0 = 200) → (∀ b ∈ L', K' b = 206 → (0 : Int) ≤ v2 ∧ gi (f' b) ((v2 : Int)).toNat = v1) → (∀ b ∈ L', K' b = 200 → gi (f' b) 19 = v2) → eW E 0 0 L' f' 94 [(0, .ref r0), (1, .int (Int32.ofInt v0))] [.int (Int32.ofInt v1), .int (Int32.ofInt 32), .ref r0]) : eW E 0 0 L f 83 [(0, .ref r0), (1, .int (Int32.ofInt v0))] [.ref r0] := by
  obtain ⟨l0, D0, cy0, ax0⟩ := X0
  have hraw : eW E 0 0 L f 83 [(0, .ref r0), (1, .int (Int32.ofInt (0 + (1 * v0 + 0))))] [.ref r0] := ?_
  · simpa only [Int.zero_add, Int.one_mul, Int.add_zero] using hraw
  refine seg_ok (D := D_sh83) (νi := fun i => [v0].getD i 0) (μi := fun i => [r0].getD i 0) k_sh83 hE (mk_ok (ins := iX12_shut) jX12_shut fX12_ok lX12_ok kX12_ok kkX12_ok H) (by decide) rfl rfl rfl rfl hh ?_ ?_
  · refine ⟨(eok_of (fun i q hq => ?_) (fun i hi => ?_)), fa0, fa0, ?_, fa0, fa0, fa0⟩
    · match i, hq with
      | 0, hq => cases hq; exact hb0
      | i + 1, hq => cases hq
    · match i, hi with
      | 0, hi => exact absurd hi (by decide)
      | i + 1, _ => rfl
    · intro i k hk
      match i, hk with
      | 0, hk => cases hk; exact hr0
      | i + 1, hk => cases hk
  · intro q hq hst K' B' L' f' ν μ h1 h2 h3 h4 h5
    have e0 : ν 0 = v0 := h4 0 (by decide)
    have d0 : μ 0 = r0 := h5 0 (by decide)
    subst e0
    subst d0
    replace hq : q ∈ u_sh83 := hq
    unfold u_sh83 at hq
    simp only [List.mem_cons, List.not_mem_nil, or_false] at hq
    rcases hq with rfl
    · have hst2 : eW E 0 0 L' f' 94 [(0, .ref (μ 0)), (1, .int (Int32.ofInt (0 + (1 * ν 0 + 0))))] [.int (Int32.ofInt (0 + (1 * ν 1 + 0))), .int (Int32.ofInt (32 + 0)), .ref (μ 0)] := ?_
      · exact hst2
      try simp only [Int.zero_add, Int.one_mul, Int.add_zero]
      exact k94 K' B' L' f' (ν 1) (ν 2)  h1 h2 (h3.1 0) (h3.1 1) (h3.1 2) (h3.2.2.2.1 0 200 rfl) (by simpa only [xv, xvT, Int.zero_add, Int.one_mul, Int.add_zero] using (mokA h1 (show (zkd 206).1 = 2 by decide) (by decide) (h3.2.2.2.2.1 _ (List.mem_of_getElem? (i := 0) rfl)))) (by simpa only [xv, xvT, Int.zero_add, Int.one_mul, Int.add_zero] using (mokF h1 (show (zkd 200).1 = 1 by decide) (j := 19) rfl (by decide) (h3.2.2.2.2.1 _ (List.mem_of_getElem? (i := 1) rfl))))

/-! sh97: from 97 to [98] -/
def w_sh97 : TP := ([(0, (2, 0, (0, []))), (1, (0, 0, (0, [(1, 0)])))], [], ([(40, 42)], [], [], [200], [], [], []), [], [])
def u_sh97 : List (Nat × TP × EX × Nat × Nat) := [(98, ([(0, (2, 0, (0, []))), (1, (0, 0, (0, [(1, 0)])))], [(2, 0, (0, []))], ([(40, 42)], [], [], [200], [], [], []), [], []), ((-1), []), 0, 0)]
def D_sh97 : DT := (mkD iX12_shut fX12 lX12 kX12 kkX12 412 [] (w_sh97, [], [], 6, 0, 0, 3) false 2 u_sh97)
theorem k_sh97 : chkS D_sh97 4000 0 0 97 = true := by decide +kernel
theorem s_sh97 {X0 : zC0} {E : zCx} (H : ∀ j, j < 412 → CMj X0 j) (hE : zOk E X0 RX12 cX12_shut 2 (zrm 6 0 0)) {K : Nat → Nat} {B : Int} {L : List Nat} {f : Nat → va_E} (hh : hok X0.2.2.1 K B L f) {v0 : Int} {r0 : Nat} (hb0 : 40 ≤ v0 ∧ v0 ≤ 42) (hr0 : r0 ∈ L ∧ K r0 = 200) (k98 : ∀ (K' : Nat → Nat) (B' : Int) (L' : List Nat) (f' : Nat → va_E), hok X0.2.2.1 K' B' L' f' → extC [] K B L f K' B' L' f' → (40 ≤ v0 ∧ v0 ≤ 42) → (r0 ∈ L' ∧ K' r0 = 200) → eW E 0 0 L' f' 98 [(0, .ref r0), (1, .int (Int32.ofInt v0))] [.ref r0]) : eW E 0 0 L f 97 [(0, .ref r0), (1, .int (Int32.ofInt v0))] [] := by
  obtain ⟨l0, D0, cy0, ax0⟩ := X0
  have hraw : eW E 0 0 L f 97 [(0, .ref r0), (1, .int (Int32.ofInt (0 + (1 * v0 + 0))))] [] := ?_
  · simpa only [Int.zero_add, Int.one_mul, Int.add_zero] using hraw
  refine seg_ok (D := D_sh97) (νi := fun i => [v0].getD i 0) (μi := fun i => [r0].getD i 0) k_sh97 hE (mk_ok (ins := iX12_shut) jX12_shut fX12_ok lX12_ok kX12_ok kkX12_ok H) (by decide) rfl rfl rfl rfl hh ?_ ?_
  · refine ⟨(eok_of (fun i q hq => ?_) (fun i hi => ?_)), fa0, fa0, ?_, fa0, fa0, fa0⟩
    · match i, hq with
      | 0, hq => cases hq; exact hb0
      | i + 1, hq => cases hq
    · match i, hi with
      | 0, hi => exact absurd hi (by decide)
      | i + 1, _ => rfl
    · intro i k hk
      match i, hk with
      | 0, hk => cases hk; exact hr0
      | i + 1, hk => cases hk
  · intro q hq hst K' B' L' f' ν μ h1 h2 h3 h4 h5
    have e0 : ν 0 = v0 := h4 0 (by decide)
    have d0 : μ 0 = r0 := h5 0 (by decide)
    subst e0
    subst d0
    replace hq : q ∈ u_sh97 := hq
    unfold u_sh97 at hq
    simp only [List.mem_cons, List.not_mem_nil, or_false] at hq
    rcases hq with rfl
    · have hst2 : eW E 0 0 L' f' 98 [(0, .ref (μ 0)), (1, .int (Int32.ofInt (0 + (1 * ν 0 + 0))))] [.ref (μ 0)] := ?_
      · exact hst2
      try simp only [Int.zero_add, Int.one_mul, Int.add_zero]
      exact k98 K' B' L' f'   h1 h2 (h3.1 0) (h3.2.2.2.1 0 200 rfl)

/-! sh101: from 101 to [104] -/
def w_sh101 : TP := ([(0, (2, 0, (0, []))), (1, (0, 0, (0, [(1, 0)])))], [], ([(40, 42)], [], [], [200], [], [], []), [], [])
def u_sh101 : List (Nat × TP × EX × Nat × Nat) := [(104, ([(0, (2, 0, (0, []))), (1, (0, 0, (0, [(1, 0)])))], [(0, 0, (7, [])), (2, 0, (0, []))], ([(40, 42)], [], [], [200], [], [], []), [], []), ((-1), []), 0, 0)]
def D_sh101 : DT := (mkD iX12_shut fX12 lX12 kX12 kkX12 412 [] (w_sh101, [], [], 6, 0, 0, 3) false 2 u_sh101)
theorem k_sh101 : chkS D_sh101 4000 0 0 101 = true := by decide +kernel
theorem s_sh101 {X0 : zC0} {E : zCx} (H : ∀ j, j < 412 → CMj X0 j) (hE : zOk E X0 RX12 cX12_shut 2 (zrm 6 0 0)) {K : Nat → Nat} {B : Int} {L : List Nat} {f : Nat → va_E} (hh : hok X0.2.2.1 K B L f) {v0 : Int} {r0 : Nat} (hb0 : 40 ≤ v0 ∧ v0 ≤ 42) (hr0 : r0 ∈ L ∧ K r0 = 200) (k104 : ∀ (K' : Nat → Nat) (B' : Int) (L' : List Nat) (f' : Nat → va_E), hok X0.2.2.1 K' B' L' f' → extC [] K B L f K' B' L' f' → (40 ≤ v0 ∧ v0 ≤ 42) → (r0 ∈ L' ∧ K' r0 = 200) → eW E 0 0 L' f' 104 [(0, .ref r0), (1, .int (Int32.ofInt v0))] [.int (Int32.ofInt 7), .ref r0]) : eW E 0 0 L f 101 [(0, .ref r0), (1, .int (Int32.ofInt v0))] [] := by
  obtain ⟨l0, D0, cy0, ax0⟩ := X0
  have hraw : eW E 0 0 L f 101 [(0, .ref r0), (1, .int (Int32.ofInt (0 + (1 * v0 + 0))))] [] := ?_
  · simpa only [Int.zero_add, Int.one_mul, Int.add_zero] using hraw
  refine seg_ok (D := D_sh101) (νi := fun i => [v0].getD i 0) (μi := fun i => [r0].getD i 0) k_sh101 hE (mk_ok (ins := iX12_shut) jX12_shut fX12_ok lX12_ok kX12_ok kkX12_ok H) (by decide) rfl rfl rfl rfl hh ?_ ?_
  · refine ⟨(eok_of (fun i q hq => ?_) (fun i hi => ?_)), fa0, fa0, ?_, fa0, fa0, fa0⟩
    · match i, hq with
      | 0, hq => cases hq; exact hb0
      | i + 1, hq => cases hq
    · match i, hi with
      | 0, hi => exact absurd hi (by decide)
      | i + 1, _ => rfl
    · intro i k hk
      match i, hk with
      | 0, hk => cases hk; exact hr0
      | i + 1, hk => cases hk
  · intro q hq hst K' B' L' f' ν μ h1 h2 h3 h4 h5
    have e0 : ν 0 = v0 := h4 0 (by decide)
    have d0 : μ 0 = r0 := h5 0 (by decide)
    subst e0
    subst d0
    replace hq : q ∈ u_sh101 := hq
    unfold u_sh101 at hq
    simp only [List.mem_cons, List.not_mem_nil, or_false] at hq
    rcases hq with rfl
    · have hst2 : eW E 0 0 L' f' 104 [(0, .ref (μ 0)), (1, .int (Int32.ofInt (0 + (1 * ν 0 + 0))))] [.int (Int32.ofInt (7 + 0)), .ref (μ 0)] := ?_
      · exact hst2
      try simp only [Int.zero_add, Int.one_mul, Int.add_zero]
      exact k104 K' B' L' f'   h1 h2 (h3.1 0) (h3.2.2.2.1 0 200 rfl)

/-! bh0: from 0 to [1] -/
def w_bh0 : TP := ([(0, (2, 0, (0, [])))], [], ([], [], [], [200], [], [], []), [], [])
def u_bh0 : List (Nat × TP × EX × Nat × Nat) := [(1, ([(0, (2, 0, (0, [])))], [(2, 0, (0, []))], ([], [], [], [200], [], [], []), [], []), ((-1), []), 0, 0)]
def D_bh0 : DT := (mkD iX12_behindOne fX12 lX12 kX12 kkX12 412 [] (w_bh0, [], [], 8, 0, 0, 3) false 4 u_bh0)
theorem k_bh0 : chkS D_bh0 4000 0 0 0 = true := by decide +kernel
theorem s_bh0 {X0 : zC0} {E : zCx} (H : ∀ j, j < 412 → CMj X0 j) (hE : zOk E X0 RX12 cX12_behindOne 4 (zrm 8 0 0)) {K : Nat → Nat} {B : Int} {L : List Nat} {f : Nat → va_E} (hh : hok X0.2.2.1 K B L f) {r0 : Nat} (hr0 : r0 ∈ L ∧ K r0 = 200) (k1 : ∀ (K' : Nat → Nat) (B' : Int) (L' : List Nat) (f' : Nat → va_E), hok X0.2.2.1 K' B' L' f' → extC [] K B L f K' B' L' f' → (r0 ∈ L' ∧ K' r0 = 200) → eW E 0 0 L' f' 1 [(0, .ref r0)] [.ref r0]) : eW E 0 0 L f 0 [(0, .ref r0)] [] := by
  obtain ⟨l0, D0, cy0, ax0⟩ := X0
  have hraw : eW E 0 0 L f 0 [(0, .ref r0)] [] := ?_
  · simpa only [Int.zero_add, Int.one_mul, Int.add_zero] using hraw
  refine seg_ok (D := D_bh0) (νi := fun i => [].getD i 0) (μi := fun i => [r0].getD i 0) k_bh0 hE (mk_ok (ins := iX12_behindOne) jX12_behindOne fX12_ok lX12_ok kX12_ok kkX12_ok H) (by decide) rfl rfl rfl rfl hh ?_ ?_
  · refine ⟨(eok_of (fun i q hq => by cases hq) (fun i _ => rfl)), fa0, fa0, ?_, fa0, fa0, fa0⟩
    · intro i k hk
      match i, hk with
      | 0, hk => cases hk; exact hr0
      | i + 1, hk => cases hk
  · intro q hq hst K' B' L' f' ν μ h1 h2 h3 h4 h5
    have d0 : μ 0 = r0 := h5 0 (by decide)
    subst d0
    replace hq : q ∈ u_bh0 := hq
    unfold u_bh0 at hq
    simp only [List.mem_cons, List.not_mem_nil, or_false] at hq
    rcases hq with rfl
    · have hst2 : eW E 0 0 L' f' 1 [(0, .ref (μ 0))] [.ref (μ 0)] := ?_
      · exact hst2
      try simp only [Int.zero_add, Int.one_mul, Int.add_zero]
      exact k1 K' B' L' f'   h1 h2 (h3.2.2.2.1 0 200 rfl)

/-! bh4: from 4 to [11, 49] -/
def w_bh4 : TP := ([(0, (2, 0, (0, [])))], [(0, 0, (0, [(1, 0)]))], ([((-1), 22)], [], [], [200], [], [], []), [], [])
def u_bh4 : List (Nat × TP × EX × Nat × Nat) := [(11, ([(0, (2, 0, (0, []))), (1, (0, 0, (0, [(1, 0)])))], [(0, 0, (0, [(1, 0)])), (2, 0, (0, []))], ([(0, 22)], [], [], [200], [], [], []), [], []), ((-1), []), 0, 0), (49, ([(0, (2, 0, (0, []))), (1, (0, 0, (0, [(1, 0)])))], [(2, 0, (0, []))], ([((-1), (-1))], [], [], [200], [], [], []), [], []), ((-1), []), 0, 0)]
def D_bh4 : DT := (mkD iX12_behindOne fX12 lX12 kX12 kkX12 412 [] (w_bh4, [], [], 8, 0, 0, 3) false 4 u_bh4)
theorem k_bh4 : chkS D_bh4 4000 0 0 4 = true := by decide +kernel
theorem s_bh4 {X0 : zC0} {E : zCx} (H : ∀ j, j < 412 → CMj X0 j) (hE : zOk E X0 RX12 cX12_behindOne 4 (zrm 8 0 0)) {K : Nat → Nat} {B : Int} {L : List Nat} {f : Nat → va_E} (hh : hok X0.2.2.1 K B L f) {v0 : Int} {r0 : Nat} (hb0 : (-1) ≤ v0 ∧ v0 ≤ 22) (hr0 : r0 ∈ L ∧ K r0 = 200) (k11 : ∀ (K' : Nat → Nat) (B' : Int) (L' : List Nat) (f' : Nat → va_E), hok X0.2.2.1 K' B' L' f' → extC [] K B L f K' B' L' f' → (0 ≤ v0 ∧ v0 ≤ 22) → (r0 ∈ L' ∧ K' r0 = 200) → eW E 0 0 L' f' 11 [(0, .ref r0), (1, .int (Int32.ofInt v0))] [.int (Int32.ofInt v0), .ref r0]) (k49 : ∀ (K' : Nat → Nat) (B' : Int) (L' : List Nat) (f' : Nat → va_E), hok X0.2.2.1 K' B' L' f' → extC [] K B L f K' B' L' f' → ((-1) ≤ v0 ∧ v0 ≤ (-1)) → (r0 ∈ L' ∧ K' r0 = 200) → eW E 0 0 L' f' 49 [(0, .ref r0), (1, .int (Int32.ofInt v0))] [.ref r0]) : eW E 0 0 L f 4 [(0, .ref r0)] [.int (Int32.ofInt v0)] := by
  obtain ⟨l0, D0, cy0, ax0⟩ := X0
  have hraw : eW E 0 0 L f 4 [(0, .ref r0)] [.int (Int32.ofInt (0 + (1 * v0 + 0)))] := ?_
  · simpa only [Int.zero_add, Int.one_mul, Int.add_zero] using hraw
  refine seg_ok (D := D_bh4) (νi := fun i => [v0].getD i 0) (μi := fun i => [r0].getD i 0) k_bh4 hE (mk_ok (ins := iX12_behindOne) jX12_behindOne fX12_ok lX12_ok kX12_ok kkX12_ok H) (by decide) rfl rfl rfl rfl hh ?_ ?_
  · refine ⟨(eok_of (fun i q hq => ?_) (fun i hi => ?_)), fa0, fa0, ?_, fa0, fa0, fa0⟩
    · match i, hq with
      | 0, hq => cases hq; exact hb0
      | i + 1, hq => cases hq
    · match i, hi with
      | 0, hi => exact absurd hi (by decide)
      | i + 1, _ => rfl
    · intro i k hk
      match i, hk with
      | 0, hk => cases hk; exact hr0
      | i + 1, hk => cases hk
  · intro q hq hst K' B' L' f' ν μ h1 h2 h3 h4 h5
    have e0 : ν 0 = v0 := h4 0 (by decide)
    have d0 : μ 0 = r0 := h5 0 (by decide)
    subst e0
    subst d0
    replace hq : q ∈ u_bh4 := hq
    unfold u_bh4 at hq
    simp only [List.mem_cons, List.not_mem_nil, or_false] at hq
    rcases hq with rfl | rfl
    · have hst2 : eW E 0 0 L' f' 11 [(0, .ref (μ 0)), (1, .int (Int32.ofInt (0 + (1 * ν 0 + 0))))] [.int (Int32.ofInt (0 + (1 * ν 0 + 0))), .ref (μ 0)] := ?_
      · exact hst2
      try simp only [Int.zero_add, Int.one_mul, Int.add_zero]
      exact k11 K' B' L' f'   h1 h2 (h3.1 0) (h3.2.2.2.1 0 200 rfl)
    · have hst2 : eW E 0 0 L' f' 49 [(0, .ref (μ 0)), (1, .int (Int32.ofInt (0 + (1 * ν 0 + 0))))] [.ref (μ 0)] := ?_
      · exact hst2
      try simp only [Int.zero_add, Int.one_mul, Int.add_zero]
      exact k49 K' B' L' f'   h1 h2 (h3.1 0) (h3.2.2.2.1 0 200 rfl)

/-! bh17: from 17 to [26] -/
def w_bh17 : TP := ([(0, (2, 0, (0, []))), (1, (0, 0, (0, [(1, 0)])))], [], ([(3, 22)], [], [], [200], [], [], []), [], [])
def u_bh17 : List (Nat × TP × EX × Nat × Nat) := [(26, ([(0, (2, 0, (0, []))), (1, (0, 0, (0, [(1, 0)])))], [(0, 0, (0, [(1, 0)])), (0, 0, (0, [(1, 1)])), (2, 1, (0, []))], ([(3, 22), (0, 160)], [], [], [200, 205], [((200, (17, [])), (0, [(1, 1)]))], [], []), [(1, 1, (0, []))], [(1, 2)]), ((-1), []), 0, 0)]
def D_bh17 : DT := (mkD iX12_behindOne fX12 lX12 kX12 kkX12 412 [] (w_bh17, [], [], 8, 0, 0, 3) false 4 u_bh17)
theorem k_bh17 : chkS D_bh17 4000 0 0 17 = true := by decide +kernel
theorem s_bh17 {X0 : zC0} {E : zCx} (H : ∀ j, j < 412 → CMj X0 j) (hE : zOk E X0 RX12 cX12_behindOne 4 (zrm 8 0 0)) {K : Nat → Nat} {B : Int} {L : List Nat} {f : Nat → va_E} (hh : hok X0.2.2.1 K B L f) {v0 : Int} {r0 : Nat} (hb0 : 3 ≤ v0 ∧ v0 ≤ 22) (hr0 : r0 ∈ L ∧ K r0 = 200) (k26 : ∀ (K' : Nat → Nat) (B' : Int) (L' : List Nat) (f' : Nat → va_E) (v1 : Int) (r1 : Nat), hok X0.2.2.1 K' B' L' f' → extC [] K B L f K' B' L' f' → (3 ≤ v0 ∧ v0 ≤ 22) → (0 ≤ v1 ∧ v1 ≤ 160) → (r0 ∈ L' ∧ K' r0 = 200) → (r1 ∈ L' ∧ K' r1 = 205) → (∀ b ∈ L', K' b = 200 → gi (f' b) 17 = v1) → eW E 0 0 L' f' 26 [(0, .ref r0), (1, .int (Int32.ofInt v0))] [.int (Int32.ofInt v0), .int (Int32.ofInt v1), .ref r1]) : eW E 0 0 L f 17 [(0, .ref r0), (1, .int (Int32.ofInt v0))] [] := by
  obtain ⟨l0, D0, cy0, ax0⟩ := X0
  have hraw : eW E 0 0 L f 17 [(0, .ref r0), (1, .int (Int32.ofInt (0 + (1 * v0 + 0))))] [] := ?_
  · simpa only [Int.zero_add, Int.one_mul, Int.add_zero] using hraw
  refine seg_ok (D := D_bh17) (νi := fun i => [v0].getD i 0) (μi := fun i => [r0].getD i 0) k_bh17 hE (mk_ok (ins := iX12_behindOne) jX12_behindOne fX12_ok lX12_ok kX12_ok kkX12_ok H) (by decide) rfl rfl rfl rfl hh ?_ ?_
  · refine ⟨(eok_of (fun i q hq => ?_) (fun i hi => ?_)), fa0, fa0, ?_, fa0, fa0, fa0⟩
    · match i, hq with
      | 0, hq => cases hq; exact hb0
      | i + 1, hq => cases hq
    · match i, hi with
      | 0, hi => exact absurd hi (by decide)
      | i + 1, _ => rfl
    · intro i k hk
      match i, hk with
      | 0, hk => cases hk; exact hr0
      | i + 1, hk => cases hk
  · intro q hq hst K' B' L' f' ν μ h1 h2 h3 h4 h5
    have e0 : ν 0 = v0 := h4 0 (by decide)
    have d0 : μ 0 = r0 := h5 0 (by decide)
    subst e0
    subst d0
    replace hq : q ∈ u_bh17 := hq
    unfold u_bh17 at hq
    simp only [List.mem_cons, List.not_mem_nil, or_false] at hq
    rcases hq with rfl
    · have hst2 : eW E 0 0 L' f' 26 [(0, .ref (μ 0)), (1, .int (Int32.ofInt (0 + (1 * ν 0 + 0))))] [.int (Int32.ofInt (0 + (1 * ν 0 + 0))), .int (Int32.ofInt (0 + (1 * ν 1 + 0))), .ref (μ 1)] := ?_
      · exact hst2
      try simp only [Int.zero_add, Int.one_mul, Int.add_zero]
      exact k26 K' B' L' f' (ν 1) (μ 1) h1 h2 (h3.1 0) (h3.1 1) (h3.2.2.2.1 0 200 rfl) (h3.2.2.2.1 1 205 rfl) (by simpa only [xv, xvT, Int.zero_add, Int.one_mul, Int.add_zero] using (mokF h1 (show (zkd 200).1 = 1 by decide) (j := 17) rfl (by decide) (h3.2.2.2.2.1 _ (List.mem_of_getElem? (i := 0) rfl))))

/-! bh46: from 46 to [47] -/
def w_bh46 : TP := ([(0, (2, 0, (0, []))), (1, (0, 0, (0, [(1, 0)])))], [], ([(3, 22)], [], [], [200], [], [], []), [], [])
def u_bh46 : List (Nat × TP × EX × Nat × Nat) := [(47, ([(0, (2, 0, (0, []))), (1, (0, 0, (0, [(1, 0)])))], [(0, 0, (1, []))], ([(3, 22)], [], [], [200], [], [], []), [], []), ((-1), []), 0, 0)]
def D_bh46 : DT := (mkD iX12_behindOne fX12 lX12 kX12 kkX12 412 [] (w_bh46, [], [], 8, 0, 0, 3) false 4 u_bh46)
theorem k_bh46 : chkS D_bh46 4000 0 0 46 = true := by decide +kernel
theorem s_bh46 {X0 : zC0} {E : zCx} (H : ∀ j, j < 412 → CMj X0 j) (hE : zOk E X0 RX12 cX12_behindOne 4 (zrm 8 0 0)) {K : Nat → Nat} {B : Int} {L : List Nat} {f : Nat → va_E} (hh : hok X0.2.2.1 K B L f) {v0 : Int} {r0 : Nat} (hb0 : 3 ≤ v0 ∧ v0 ≤ 22) (hr0 : r0 ∈ L ∧ K r0 = 200) (k47 : ∀ (K' : Nat → Nat) (B' : Int) (L' : List Nat) (f' : Nat → va_E), hok X0.2.2.1 K' B' L' f' → extC [] K B L f K' B' L' f' → (3 ≤ v0 ∧ v0 ≤ 22) → (r0 ∈ L' ∧ K' r0 = 200) → eW E 0 0 L' f' 47 [(0, .ref r0), (1, .int (Int32.ofInt v0))] [.int (Int32.ofInt 1)]) : eW E 0 0 L f 46 [(0, .ref r0), (1, .int (Int32.ofInt v0))] [] := by
  obtain ⟨l0, D0, cy0, ax0⟩ := X0
  have hraw : eW E 0 0 L f 46 [(0, .ref r0), (1, .int (Int32.ofInt (0 + (1 * v0 + 0))))] [] := ?_
  · simpa only [Int.zero_add, Int.one_mul, Int.add_zero] using hraw
  refine seg_ok (D := D_bh46) (νi := fun i => [v0].getD i 0) (μi := fun i => [r0].getD i 0) k_bh46 hE (mk_ok (ins := iX12_behindOne) jX12_behindOne fX12_ok lX12_ok kX12_ok kkX12_ok H) (by decide) rfl rfl rfl rfl hh ?_ ?_
  · refine ⟨(eok_of (fun i q hq => ?_) (fun i hi => ?_)), fa0, fa0, ?_, fa0, fa0, fa0⟩
    · match i, hq with
      | 0, hq => cases hq; exact hb0
      | i + 1, hq => cases hq
    · match i, hi with
      | 0, hi => exact absurd hi (by decide)
      | i + 1, _ => rfl
    · intro i k hk
      match i, hk with
      | 0, hk => cases hk; exact hr0
      | i + 1, hk => cases hk
  · intro q hq hst K' B' L' f' ν μ h1 h2 h3 h4 h5
    have e0 : ν 0 = v0 := h4 0 (by decide)
    have d0 : μ 0 = r0 := h5 0 (by decide)
    subst e0
    subst d0
    replace hq : q ∈ u_bh46 := hq
    unfold u_bh46 at hq
    simp only [List.mem_cons, List.not_mem_nil, or_false] at hq
    rcases hq with rfl
    · have hst2 : eW E 0 0 L' f' 47 [(0, .ref (μ 0)), (1, .int (Int32.ofInt (0 + (1 * ν 0 + 0))))] [.int (Int32.ofInt (1 + 0))] := ?_
      · exact hst2
      try simp only [Int.zero_add, Int.one_mul, Int.add_zero]
      exact k47 K' B' L' f'   h1 h2 (h3.1 0) (h3.2.2.2.1 0 200 rfl)

/-! bh27: from 27 to [43] -/
def w_bh27 : TP := ([(0, (2, 0, (0, []))), (1, (0, 0, (0, [(1, 0)])))], [], ([(3, 22), (0, 159)], [], [], [200], [((200, (17, [])), (0, [(1, 1)]))], [], []), [], [])
def u_bh27 : List (Nat × TP × EX × Nat × Nat) := [(43, ([(0, (2, 0, (0, []))), (1, (0, 0, (0, [(1, 0)])))], [(2, 0, (0, []))], ([(3, 22), (0, 159)], [], [], [200], [((200, (20, [])), (0, [])), ((200, (17, [])), (1, [(1, 1)]))], [], []), [], []), ((-1), []), 0, 0)]
def D_bh27 : DT := (mkD iX12_behindOne fX12 lX12 kX12 kkX12 412 [] (w_bh27, [(200, 17), (200, 20)], [], 8, 0, 0, 3) false 4 u_bh27)
theorem k_bh27 : chkS D_bh27 4000 0 0 27 = true := by decide +kernel
theorem s_bh27 {X0 : zC0} {E : zCx} (H : ∀ j, j < 412 → CMj X0 j) (hE : zOk E X0 RX12 cX12_behindOne 4 (zrm 8 0 0)) {K : Nat → Nat} {B : Int} {L : List Nat} {f : Nat → va_E} (hh : hok X0.2.2.1 K B L f) {v0 v1 : Int} {r0 : Nat} (hb0 : 3 ≤ v0 ∧ v0 ≤ 22) (hb1 : 0 ≤ v1 ∧ v1 ≤ 159) (hr0 : r0 ∈ L ∧ K r0 = 200) (hm0 : (∀ b ∈ L, K b = 200 → gi (f b) 17 = v1)) (k43 : ∀ (K' : Nat → Nat) (B' : Int) (L' : List Nat) (f' : Nat → va_E), hok X0.2.2.1 K' B' L' f' → extC [(200, 17), (200, 20)] K B L f K' B' L' f' → (3 ≤ v0 ∧ v0 ≤ 22) → (0 ≤ v1 ∧ v1 ≤ 159) → (r0 ∈ L' ∧ K' r0 = 200) → (∀ b ∈ L', K' b = 200 → gi (f' b) 20 = 0) → (∀ b ∈ L', K' b = 200 → gi (f' b) 17 = (1 + v1)) → eW E 0 0 L' f' 43 [(0, .ref r0), (1, .int (Int32.ofInt v0))] [.ref r0]) : eW E 0 0 L f 27 [(0, .ref r0), (1, .int (Int32.ofInt v0))] [] := by
  obtain ⟨l0, D0, cy0, ax0⟩ := X0
  have hraw : eW E 0 0 L f 27 [(0, .ref r0), (1, .int (Int32.ofInt (0 + (1 * v0 + 0))))] [] := ?_
  · simpa only [Int.zero_add, Int.one_mul, Int.add_zero] using hraw
  have rm0 : (∀ b ∈ L, K b = 200 → gi (f b) 17 = (0 + (1 * v1 + 0))) := by simpa only [Int.zero_add, Int.one_mul, Int.add_zero] using hm0
  refine seg_ok (D := D_bh27) (νi := fun i => [v0, v1].getD i 0) (μi := fun i => [r0].getD i 0) k_bh27 hE (mk_ok (ins := iX12_behindOne) jX12_behindOne fX12_ok lX12_ok kX12_ok kkX12_ok H) (by decide) rfl rfl rfl rfl hh ?_ ?_
  · refine ⟨(eok_of (fun i q hq => ?_) (fun i hi => ?_)), fa0, fa0, ?_, (fa_cons (Fmok hh (show (zkd 200).1 = 1 by decide) (j := 17) rfl (by decide) rm0) fa0), fa0, fa0⟩
    · match i, hq with
      | 0, hq => cases hq; exact hb0
      | 1, hq => cases hq; exact hb1
      | i + 2, hq => cases hq
    · match i, hi with
      | 0, hi => exact absurd hi (by decide)
      | 1, hi => exact absurd hi (by decide)
      | i + 2, _ => rfl
    · intro i k hk
      match i, hk with
      | 0, hk => cases hk; exact hr0
      | i + 1, hk => cases hk
  · intro q hq hst K' B' L' f' ν μ h1 h2 h3 h4 h5
    have e0 : ν 0 = v0 := h4 0 (by decide)
    have e1 : ν 1 = v1 := h4 1 (by decide)
    have d0 : μ 0 = r0 := h5 0 (by decide)
    subst e0
    subst e1
    subst d0
    replace hq : q ∈ u_bh27 := hq
    unfold u_bh27 at hq
    simp only [List.mem_cons, List.not_mem_nil, or_false] at hq
    rcases hq with rfl
    · have hst2 : eW E 0 0 L' f' 43 [(0, .ref (μ 0)), (1, .int (Int32.ofInt (0 + (1 * ν 0 + 0))))] [.ref (μ 0)] := ?_
      · exact hst2
      try simp only [Int.zero_add, Int.one_mul, Int.add_zero]
      exact k43 K' B' L' f'   h1 h2 (h3.1 0) (h3.1 1) (h3.2.2.2.1 0 200 rfl) (by simpa only [xv, xvT, Int.zero_add, Int.one_mul, Int.add_zero] using (mokF h1 (show (zkd 200).1 = 1 by decide) (j := 20) rfl (by decide) (h3.2.2.2.2.1 _ (List.mem_of_getElem? (i := 0) rfl)))) (by simpa only [xv, xvT, Int.zero_add, Int.one_mul, Int.add_zero] using (mokF h1 (show (zkd 200).1 = 1 by decide) (j := 17) rfl (by decide) (h3.2.2.2.2.1 _ (List.mem_of_getElem? (i := 1) rfl))))

/-! bh52a: from 52 to [113] -/
def w_bh52a : TP := ([(0, (2, 0, (0, []))), (1, (0, 0, ((-1), [])))], [(0, 0, ((-1), []))], ([], [], [], [200], [], [], []), [], [])
def u_bh52a : List (Nat × TP × EX × Nat × Nat) := [(113, ([(0, (2, 0, (0, []))), (1, (0, 0, ((-1), []))), (2, (0, 0, ((-1), [])))], [], ([], [], [], [200], [], [], []), [], []), ((-1), []), 0, 0)]
def D_bh52a : DT := (mkD iX12_behindOne fX12 lX12 kX12 kkX12 412 [] (w_bh52a, [], [], 8, 0, 0, 3) false 4 u_bh52a)
theorem k_bh52a : chkS D_bh52a 4000 0 0 52 = true := by decide +kernel
theorem s_bh52a {X0 : zC0} {E : zCx} (H : ∀ j, j < 412 → CMj X0 j) (hE : zOk E X0 RX12 cX12_behindOne 4 (zrm 8 0 0)) {K : Nat → Nat} {B : Int} {L : List Nat} {f : Nat → va_E} (hh : hok X0.2.2.1 K B L f) {r0 : Nat} (hr0 : r0 ∈ L ∧ K r0 = 200) (k113 : ∀ (K' : Nat → Nat) (B' : Int) (L' : List Nat) (f' : Nat → va_E), hok X0.2.2.1 K' B' L' f' → extC [] K B L f K' B' L' f' → (r0 ∈ L' ∧ K' r0 = 200) → eW E 0 0 L' f' 113 [(0, .ref r0), (1, .int (Int32.ofInt (-1))), (2, .int (Int32.ofInt (-1)))] []) : eW E 0 0 L f 52 [(0, .ref r0), (1, .int (Int32.ofInt (-1)))] [.int (Int32.ofInt (-1))] := by
  obtain ⟨l0, D0, cy0, ax0⟩ := X0
  have hraw : eW E 0 0 L f 52 [(0, .ref r0), (1, .int (Int32.ofInt ((-1) + 0)))] [.int (Int32.ofInt ((-1) + 0))] := ?_
  · simpa only [Int.zero_add, Int.one_mul, Int.add_zero] using hraw
  refine seg_ok (D := D_bh52a) (νi := fun i => [].getD i 0) (μi := fun i => [r0].getD i 0) k_bh52a hE (mk_ok (ins := iX12_behindOne) jX12_behindOne fX12_ok lX12_ok kX12_ok kkX12_ok H) (by decide) rfl rfl rfl rfl hh ?_ ?_
  · refine ⟨(eok_of (fun i q hq => by cases hq) (fun i _ => rfl)), fa0, fa0, ?_, fa0, fa0, fa0⟩
    · intro i k hk
      match i, hk with
      | 0, hk => cases hk; exact hr0
      | i + 1, hk => cases hk
  · intro q hq hst K' B' L' f' ν μ h1 h2 h3 h4 h5
    have d0 : μ 0 = r0 := h5 0 (by decide)
    subst d0
    replace hq : q ∈ u_bh52a := hq
    unfold u_bh52a at hq
    simp only [List.mem_cons, List.not_mem_nil, or_false] at hq
    rcases hq with rfl
    · have hst2 : eW E 0 0 L' f' 113 [(0, .ref (μ 0)), (1, .int (Int32.ofInt ((-1) + 0))), (2, .int (Int32.ofInt ((-1) + 0)))] [] := ?_
      · exact hst2
      try simp only [Int.zero_add, Int.one_mul, Int.add_zero]
      exact k113 K' B' L' f'   h1 h2 (h3.2.2.2.1 0 200 rfl)

/-! bh52b: from 52 to [68, 72] -/
def w_bh52b : TP := ([(0, (2, 0, (0, []))), (1, (0, 0, ((-1), [])))], [(0, 0, (40, []))], ([], [], [], [200], [], [], []), [], [])
def u_bh52b : List (Nat × TP × EX × Nat × Nat) := [(68, ([(0, (2, 0, (0, []))), (1, (0, 0, ((-1), []))), (2, (0, 0, (40, [])))], [], ([(41, 41)], [], [], [200], [((200, (9, [])), (0, [(1, 0)]))], [], []), [(2, 200, (9, []))], []), ((-1), []), 0, 0), (72, ([(0, (2, 0, (0, []))), (1, (0, 0, ((-1), []))), (2, (0, 0, (40, [])))], [], ([((-2147483648), 2147483647)], [], [], [200], [((200, (9, [])), (0, [(1, 0)]))], [], []), [(2, 200, (9, []))], []), ((-1), []), 0, 0)]
def D_bh52b : DT := (mkD iX12_behindOne fX12 lX12 kX12 kkX12 412 [] (w_bh52b, [], [], 8, 0, 0, 3) false 4 u_bh52b)
theorem k_bh52b : chkS D_bh52b 4000 0 0 52 = true := by decide +kernel
theorem s_bh52b {X0 : zC0} {E : zCx} (H : ∀ j, j < 412 → CMj X0 j) (hE : zOk E X0 RX12 cX12_behindOne 4 (zrm 8 0 0)) {K : Nat → Nat} {B : Int} {L : List Nat} {f : Nat → va_E} (hh : hok X0.2.2.1 K B L f) {r0 : Nat} (hr0 : r0 ∈ L ∧ K r0 = 200) (k68 : ∀ (K' : Nat → Nat) (B' : Int) (L' : List Nat) (f' : Nat → va_E) (v0 : Int), hok X0.2.2.1 K' B' L' f' → extC [] K B L f K' B' L' f' → (41 ≤ v0 ∧ v0 ≤ 41) → (r0 ∈ L' ∧ K' r0 = 200) → (∀ b ∈ L', K' b = 200 → gi (f' b) 9 = v0) → eW E 0 0 L' f' 68 [(0, .ref r0), (1, .int (Int32.ofInt (-1))), (2, .int (Int32.ofInt 40))] []) (k72 : ∀ (K' : Nat → Nat) (B' : Int) (L' : List Nat) (f' : Nat → va_E) (v0 : Int), hok X0.2.2.1 K' B' L' f' → extC [] K B L f K' B' L' f' → ((-2147483648) ≤ v0 ∧ v0 ≤ 2147483647) → (r0 ∈ L' ∧ K' r0 = 200) → (∀ b ∈ L', K' b = 200 → gi (f' b) 9 = v0) → eW E 0 0 L' f' 72 [(0, .ref r0), (1, .int (Int32.ofInt (-1))), (2, .int (Int32.ofInt 40))] []) : eW E 0 0 L f 52 [(0, .ref r0), (1, .int (Int32.ofInt (-1)))] [.int (Int32.ofInt 40)] := by
  obtain ⟨l0, D0, cy0, ax0⟩ := X0
  have hraw : eW E 0 0 L f 52 [(0, .ref r0), (1, .int (Int32.ofInt ((-1) + 0)))] [.int (Int32.ofInt (40 + 0))] := ?_
  · simpa only [Int.zero_add, Int.one_mul, Int.add_zero] using hraw
  refine seg_ok (D := D_bh52b) (νi := fun i => [].getD i 0) (μi := fun i => [r0].getD i 0) k_bh52b hE (mk_ok (ins := iX12_behindOne) jX12_behindOne fX12_ok lX12_ok kX12_ok kkX12_ok H) (by decide) rfl rfl rfl rfl hh ?_ ?_
  · refine ⟨(eok_of (fun i q hq => by cases hq) (fun i _ => rfl)), fa0, fa0, ?_, fa0, fa0, fa0⟩
    · intro i k hk
      match i, hk with
      | 0, hk => cases hk; exact hr0
      | i + 1, hk => cases hk
  · intro q hq hst K' B' L' f' ν μ h1 h2 h3 h4 h5
    have d0 : μ 0 = r0 := h5 0 (by decide)
    subst d0
    replace hq : q ∈ u_bh52b := hq
    unfold u_bh52b at hq
    simp only [List.mem_cons, List.not_mem_nil, or_false] at hq
    rcases hq with rfl | rfl
    · have hst2 : eW E 0 0 L' f' 68 [(0, .ref (μ 0)), (1, .int (Int32.ofInt ((-1) + 0))), (2, .int (Int32.ofInt (40 + 0)))] [] := ?_
      · exact hst2
      try simp only [Int.zero_add, Int.one_mul, Int.add_zero]
      exact k68 K' B' L' f' (ν 0)  h1 h2 (h3.1 0) (h3.2.2.2.1 0 200 rfl) (by simpa only [xv, xvT, Int.zero_add, Int.one_mul, Int.add_zero] using (mokF h1 (show (zkd 200).1 = 1 by decide) (j := 9) rfl (by decide) (h3.2.2.2.2.1 _ (List.mem_of_getElem? (i := 0) rfl))))
    · have hst2 : eW E 0 0 L' f' 72 [(0, .ref (μ 0)), (1, .int (Int32.ofInt ((-1) + 0))), (2, .int (Int32.ofInt (40 + 0)))] [] := ?_
      · exact hst2
      try simp only [Int.zero_add, Int.one_mul, Int.add_zero]
      exact k72 K' B' L' f' (ν 0)  h1 h2 (h3.1 0) (h3.2.2.2.1 0 200 rfl) (by simpa only [xv, xvT, Int.zero_add, Int.one_mul, Int.add_zero] using (mokF h1 (show (zkd 200).1 = 1 by decide) (j := 9) rfl (by decide) (h3.2.2.2.2.1 _ (List.mem_of_getElem? (i := 0) rfl))))

/-! bh52c: from 52 to [109, 113] -/
def w_bh52c : TP := ([(0, (2, 0, (0, []))), (1, (0, 0, ((-1), [])))], [(0, 0, (41, []))], ([], [], [], [200], [], [], []), [], [])
def u_bh52c : List (Nat × TP × EX × Nat × Nat) := [(109, ([(0, (2, 0, (0, []))), (1, (0, 0, ((-1), []))), (2, (0, 0, (41, [])))], [], ([(2, 2)], [], [], [200], [((200, (9, [])), (0, [(1, 0)]))], [], []), [(2, 200, (9, []))], []), ((-1), []), 0, 0), (113, ([(0, (2, 0, (0, []))), (1, (0, 0, ((-1), []))), (2, (0, 0, (41, [])))], [], ([], [], [], [200], [], [], []), [], []), ((-1), []), 0, 0)]
def D_bh52c : DT := (mkD iX12_behindOne fX12 lX12 kX12 kkX12 412 [(87, [393]), (90, [386])] (w_bh52c, [], [], 8, 0, 0, 3) false 4 u_bh52c)
theorem k_bh52c : chkS D_bh52c 4000 0 0 52 = true := by decide +kernel
theorem s_bh52c {X0 : zC0} {E : zCx} (H : ∀ j, j < 412 → CMj X0 j) (hE : zOk E X0 RX12 cX12_behindOne 4 (zrm 8 0 0)) {K : Nat → Nat} {B : Int} {L : List Nat} {f : Nat → va_E} (hh : hok X0.2.2.1 K B L f) {r0 : Nat} (hr0 : r0 ∈ L ∧ K r0 = 200) (k109 : ∀ (K' : Nat → Nat) (B' : Int) (L' : List Nat) (f' : Nat → va_E) (v0 : Int), hok X0.2.2.1 K' B' L' f' → extC [] K B L f K' B' L' f' → (2 ≤ v0 ∧ v0 ≤ 2) → (r0 ∈ L' ∧ K' r0 = 200) → (∀ b ∈ L', K' b = 200 → gi (f' b) 9 = v0) → eW E 0 0 L' f' 109 [(0, .ref r0), (1, .int (Int32.ofInt (-1))), (2, .int (Int32.ofInt 41))] []) (k113 : ∀ (K' : Nat → Nat) (B' : Int) (L' : List Nat) (f' : Nat → va_E), hok X0.2.2.1 K' B' L' f' → extC [] K B L f K' B' L' f' → (r0 ∈ L' ∧ K' r0 = 200) → eW E 0 0 L' f' 113 [(0, .ref r0), (1, .int (Int32.ofInt (-1))), (2, .int (Int32.ofInt 41))] []) : eW E 0 0 L f 52 [(0, .ref r0), (1, .int (Int32.ofInt (-1)))] [.int (Int32.ofInt 41)] := by
  obtain ⟨l0, D0, cy0, ax0⟩ := X0
  have hraw : eW E 0 0 L f 52 [(0, .ref r0), (1, .int (Int32.ofInt ((-1) + 0)))] [.int (Int32.ofInt (41 + 0))] := ?_
  · simpa only [Int.zero_add, Int.one_mul, Int.add_zero] using hraw
  refine seg_ok (D := D_bh52c) (νi := fun i => [].getD i 0) (μi := fun i => [r0].getD i 0) k_bh52c hE (mk_ok (ins := iX12_behindOne) jX12_behindOne fX12_ok lX12_ok kX12_ok kkX12_ok H) (by decide) rfl rfl rfl rfl hh ?_ ?_
  · refine ⟨(eok_of (fun i q hq => by cases hq) (fun i _ => rfl)), fa0, fa0, ?_, fa0, fa0, fa0⟩
    · intro i k hk
      match i, hk with
      | 0, hk => cases hk; exact hr0
      | i + 1, hk => cases hk
  · intro q hq hst K' B' L' f' ν μ h1 h2 h3 h4 h5
    have d0 : μ 0 = r0 := h5 0 (by decide)
    subst d0
    replace hq : q ∈ u_bh52c := hq
    unfold u_bh52c at hq
    simp only [List.mem_cons, List.not_mem_nil, or_false] at hq
    rcases hq with rfl | rfl
    · have hst2 : eW E 0 0 L' f' 109 [(0, .ref (μ 0)), (1, .int (Int32.ofInt ((-1) + 0))), (2, .int (Int32.ofInt (41 + 0)))] [] := ?_
      · exact hst2
      try simp only [Int.zero_add, Int.one_mul, Int.add_zero]
      exact k109 K' B' L' f' (ν 0)  h1 h2 (h3.1 0) (h3.2.2.2.1 0 200 rfl) (by simpa only [xv, xvT, Int.zero_add, Int.one_mul, Int.add_zero] using (mokF h1 (show (zkd 200).1 = 1 by decide) (j := 9) rfl (by decide) (h3.2.2.2.2.1 _ (List.mem_of_getElem? (i := 0) rfl))))
    · have hst2 : eW E 0 0 L' f' 113 [(0, .ref (μ 0)), (1, .int (Int32.ofInt ((-1) + 0))), (2, .int (Int32.ofInt (41 + 0)))] [] := ?_
      · exact hst2
      try simp only [Int.zero_add, Int.one_mul, Int.add_zero]
      exact k113 K' B' L' f'   h1 h2 (h3.2.2.2.1 0 200 rfl)
