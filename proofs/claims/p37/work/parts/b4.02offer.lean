/-! ao0: from 0 to [9] -/
def w_ao0 : TP := ([(0, (2, 0, (0, []))), (1, (0, 0, (0, [(1, 0)]))), (2, (0, 0, (0, [(1, 1)]))), (3, (0, 0, (0, [(1, 2)])))], [], ([(0, 1), (0, 99), (1, 99), (0, 9)], [], [], [62], [((62, (2, [])), (0, [(1, 3)]))], [], []), [], [])
def u_ao0 : List (Nat × TP × EX × Nat × Nat) := [(9, ([(0, (2, 0, (0, []))), (1, (0, 0, (0, [(1, 0)]))), (2, (0, 0, (0, [(1, 1)]))), (3, (0, 0, (0, [(1, 2)])))], [(0, 0, (0, [(1, 0)])), (0, 0, (0, [(1, 3)])), (2, 1, (0, []))], ([(0, 1), (0, 99), (1, 99), (0, 9)], [], [], [62, 68], [((62, (2, [])), (0, [(1, 3)]))], [], []), [], [(1, 2)]), ((-1), []), 0, 0)]
def D_ao0 : DT := (mkD iX1_addOffer fX1 lX1 kX1 kkX1 427 [] (w_ao0, [], [], 1, 0, 0, 3) false 4 u_ao0)
theorem k_ao0 : chkS D_ao0 4000 0 0 0 = true := by decide +kernel
theorem s_ao0 {X0 : zC0} {E : zCx} (H : ∀ j, j < 427 → CMj X0 j) (hE : zOk E X0 RX1 cX1_addOffer 4 (zrm 1 0 0)) {K : Nat → Nat} {B : Int} {L : List Nat} {f : Nat → va_E} (hh : hok X0.2.2.1 K B L f) {v0 v1 v2 v3 : Int} {r0 : Nat} (hb0 : 0 ≤ v0 ∧ v0 ≤ 1) (hb1 : 0 ≤ v1 ∧ v1 ≤ 99) (hb2 : 1 ≤ v2 ∧ v2 ≤ 99) (hb3 : 0 ≤ v3 ∧ v3 ≤ 9) (hr0 : r0 ∈ L ∧ K r0 = 62) (hm0 : (∀ b ∈ L, K b = 62 → gi (f b) 2 = v3)) (k9 : ∀ (K' : Nat → Nat) (B' : Int) (L' : List Nat) (f' : Nat → va_E) (r1 : Nat), hok X0.2.2.1 K' B' L' f' → extC [] K B L f K' B' L' f' → (0 ≤ v0 ∧ v0 ≤ 1) → (0 ≤ v1 ∧ v1 ≤ 99) → (1 ≤ v2 ∧ v2 ≤ 99) → (0 ≤ v3 ∧ v3 ≤ 9) → (r0 ∈ L' ∧ K' r0 = 62) → (r1 ∈ L' ∧ K' r1 = 68) → (∀ b ∈ L', K' b = 62 → gi (f' b) 2 = v3) → eW E 0 0 L' f' 9 [(0, .ref r0), (1, .int (Int32.ofInt v0)), (2, .int (Int32.ofInt v1)), (3, .int (Int32.ofInt v2))] [.int (Int32.ofInt v0), .int (Int32.ofInt v3), .ref r1]) : eW E 0 0 L f 0 [(0, .ref r0), (1, .int (Int32.ofInt v0)), (2, .int (Int32.ofInt v1)), (3, .int (Int32.ofInt v2))] [] := by
  obtain ⟨l0, D0, cy0, ax0⟩ := X0
  have hraw : eW E 0 0 L f 0 [(0, .ref r0), (1, .int (Int32.ofInt (0 + (1 * v0 + 0)))), (2, .int (Int32.ofInt (0 + (1 * v1 + 0)))), (3, .int (Int32.ofInt (0 + (1 * v2 + 0))))] [] := ?_
  · simpa only [Int.zero_add, Int.one_mul, Int.add_zero] using hraw
  have rm0 : (∀ b ∈ L, K b = 62 → gi (f b) 2 = (0 + (1 * v3 + 0))) := by simpa only [Int.zero_add, Int.one_mul, Int.add_zero] using hm0
  refine seg_ok (D := D_ao0) (νi := fun i => [v0, v1, v2, v3].getD i 0) (μi := fun i => [r0].getD i 0) k_ao0 hE (mk_ok (ins := iX1_addOffer) jX1_addOffer fX1_ok lX1_ok kX1_ok kkX1_ok H) (by decide) rfl rfl rfl rfl hh ?_ ?_
  · refine ⟨(eok_of (fun i q hq => ?_) (fun i hi => ?_)), fa0, fa0, ?_, (fa_cons (Fmok hh (show (zkd 62).1 = 1 by decide) (j := 2) rfl (by decide) rm0) fa0), fa0, fa0⟩
    · match i, hq with
      | 0, hq => cases hq; exact hb0
      | 1, hq => cases hq; exact hb1
      | 2, hq => cases hq; exact hb2
      | 3, hq => cases hq; exact hb3
      | i + 4, hq => cases hq
    · match i, hi with
      | 0, hi => exact absurd hi (by decide)
      | 1, hi => exact absurd hi (by decide)
      | 2, hi => exact absurd hi (by decide)
      | 3, hi => exact absurd hi (by decide)
      | i + 4, _ => rfl
    · intro i k hk
      match i, hk with
      | 0, hk => cases hk; exact hr0
      | i + 1, hk => cases hk
  · intro q hq hst K' B' L' f' ν μ h1 h2 h3 h4 h5
    have e0 : ν 0 = v0 := h4 0 (by decide)
    have e1 : ν 1 = v1 := h4 1 (by decide)
    have e2 : ν 2 = v2 := h4 2 (by decide)
    have e3 : ν 3 = v3 := h4 3 (by decide)
    have d0 : μ 0 = r0 := h5 0 (by decide)
    subst e0
    subst e1
    subst e2
    subst e3
    subst d0
    replace hq : q ∈ u_ao0 := hq
    unfold u_ao0 at hq
    simp only [List.mem_cons, List.not_mem_nil, or_false] at hq
    rcases hq with rfl
    · have hst2 : eW E 0 0 L' f' 9 [(0, .ref (μ 0)), (1, .int (Int32.ofInt (0 + (1 * ν 0 + 0)))), (2, .int (Int32.ofInt (0 + (1 * ν 1 + 0)))), (3, .int (Int32.ofInt (0 + (1 * ν 2 + 0))))] [.int (Int32.ofInt (0 + (1 * ν 0 + 0))), .int (Int32.ofInt (0 + (1 * ν 3 + 0))), .ref (μ 1)] := ?_
      · exact hst2
      try simp only [Int.zero_add, Int.one_mul, Int.add_zero]
      exact k9 K' B' L' f'  (μ 1) h1 h2 (h3.1 0) (h3.1 1) (h3.1 2) (h3.1 3) (h3.2.2.2.1 0 62 rfl) (h3.2.2.2.1 1 68 rfl) (by simpa only [xv, xvT, Int.zero_add, Int.one_mul, Int.add_zero] using (mokF h1 (show (zkd 62).1 = 1 by decide) (j := 2) rfl (by decide) (h3.2.2.2.2.1 _ (List.mem_of_getElem? (i := 0) rfl))))

/-! ao10: from 10 to [19] -/
def w_ao10 : TP := ([(0, (2, 0, (0, []))), (1, (0, 0, (0, [(1, 0)]))), (2, (0, 0, (0, [(1, 1)]))), (3, (0, 0, (0, [(1, 2)])))], [], ([(0, 1), (0, 99), (1, 99), (0, 9)], [], [], [62], [((62, (2, [])), (0, [(1, 3)]))], [], []), [], [])
def u_ao10 : List (Nat × TP × EX × Nat × Nat) := [(19, ([(0, (2, 0, (0, []))), (1, (0, 0, (0, [(1, 0)]))), (2, (0, 0, (0, [(1, 1)]))), (3, (0, 0, (0, [(1, 2)])))], [(0, 0, (0, [(1, 1)])), (0, 0, (0, [(1, 3)])), (2, 1, (0, []))], ([(0, 1), (0, 99), (1, 99), (0, 9)], [], [], [62, 69], [((62, (2, [])), (0, [(1, 3)]))], [], []), [], [(1, 2)]), ((-1), []), 0, 0)]
def D_ao10 : DT := (mkD iX1_addOffer fX1 lX1 kX1 kkX1 427 [] (w_ao10, [], [], 1, 0, 0, 3) false 4 u_ao10)
theorem k_ao10 : chkS D_ao10 4000 0 0 10 = true := by decide +kernel
theorem s_ao10 {X0 : zC0} {E : zCx} (H : ∀ j, j < 427 → CMj X0 j) (hE : zOk E X0 RX1 cX1_addOffer 4 (zrm 1 0 0)) {K : Nat → Nat} {B : Int} {L : List Nat} {f : Nat → va_E} (hh : hok X0.2.2.1 K B L f) {v0 v1 v2 v3 : Int} {r0 : Nat} (hb0 : 0 ≤ v0 ∧ v0 ≤ 1) (hb1 : 0 ≤ v1 ∧ v1 ≤ 99) (hb2 : 1 ≤ v2 ∧ v2 ≤ 99) (hb3 : 0 ≤ v3 ∧ v3 ≤ 9) (hr0 : r0 ∈ L ∧ K r0 = 62) (hm0 : (∀ b ∈ L, K b = 62 → gi (f b) 2 = v3)) (k19 : ∀ (K' : Nat → Nat) (B' : Int) (L' : List Nat) (f' : Nat → va_E) (r1 : Nat), hok X0.2.2.1 K' B' L' f' → extC [] K B L f K' B' L' f' → (0 ≤ v0 ∧ v0 ≤ 1) → (0 ≤ v1 ∧ v1 ≤ 99) → (1 ≤ v2 ∧ v2 ≤ 99) → (0 ≤ v3 ∧ v3 ≤ 9) → (r0 ∈ L' ∧ K' r0 = 62) → (r1 ∈ L' ∧ K' r1 = 69) → (∀ b ∈ L', K' b = 62 → gi (f' b) 2 = v3) → eW E 0 0 L' f' 19 [(0, .ref r0), (1, .int (Int32.ofInt v0)), (2, .int (Int32.ofInt v1)), (3, .int (Int32.ofInt v2))] [.int (Int32.ofInt v1), .int (Int32.ofInt v3), .ref r1]) : eW E 0 0 L f 10 [(0, .ref r0), (1, .int (Int32.ofInt v0)), (2, .int (Int32.ofInt v1)), (3, .int (Int32.ofInt v2))] [] := by
  obtain ⟨l0, D0, cy0, ax0⟩ := X0
  have hraw : eW E 0 0 L f 10 [(0, .ref r0), (1, .int (Int32.ofInt (0 + (1 * v0 + 0)))), (2, .int (Int32.ofInt (0 + (1 * v1 + 0)))), (3, .int (Int32.ofInt (0 + (1 * v2 + 0))))] [] := ?_
  · simpa only [Int.zero_add, Int.one_mul, Int.add_zero] using hraw
  have rm0 : (∀ b ∈ L, K b = 62 → gi (f b) 2 = (0 + (1 * v3 + 0))) := by simpa only [Int.zero_add, Int.one_mul, Int.add_zero] using hm0
  refine seg_ok (D := D_ao10) (νi := fun i => [v0, v1, v2, v3].getD i 0) (μi := fun i => [r0].getD i 0) k_ao10 hE (mk_ok (ins := iX1_addOffer) jX1_addOffer fX1_ok lX1_ok kX1_ok kkX1_ok H) (by decide) rfl rfl rfl rfl hh ?_ ?_
  · refine ⟨(eok_of (fun i q hq => ?_) (fun i hi => ?_)), fa0, fa0, ?_, (fa_cons (Fmok hh (show (zkd 62).1 = 1 by decide) (j := 2) rfl (by decide) rm0) fa0), fa0, fa0⟩
    · match i, hq with
      | 0, hq => cases hq; exact hb0
      | 1, hq => cases hq; exact hb1
      | 2, hq => cases hq; exact hb2
      | 3, hq => cases hq; exact hb3
      | i + 4, hq => cases hq
    · match i, hi with
      | 0, hi => exact absurd hi (by decide)
      | 1, hi => exact absurd hi (by decide)
      | 2, hi => exact absurd hi (by decide)
      | 3, hi => exact absurd hi (by decide)
      | i + 4, _ => rfl
    · intro i k hk
      match i, hk with
      | 0, hk => cases hk; exact hr0
      | i + 1, hk => cases hk
  · intro q hq hst K' B' L' f' ν μ h1 h2 h3 h4 h5
    have e0 : ν 0 = v0 := h4 0 (by decide)
    have e1 : ν 1 = v1 := h4 1 (by decide)
    have e2 : ν 2 = v2 := h4 2 (by decide)
    have e3 : ν 3 = v3 := h4 3 (by decide)
    have d0 : μ 0 = r0 := h5 0 (by decide)
    subst e0
    subst e1
    subst e2
    subst e3
    subst d0
    replace hq : q ∈ u_ao10 := hq
    unfold u_ao10 at hq
    simp only [List.mem_cons, List.not_mem_nil, or_false] at hq
    rcases hq with rfl
    · have hst2 : eW E 0 0 L' f' 19 [(0, .ref (μ 0)), (1, .int (Int32.ofInt (0 + (1 * ν 0 + 0)))), (2, .int (Int32.ofInt (0 + (1 * ν 1 + 0)))), (3, .int (Int32.ofInt (0 + (1 * ν 2 + 0))))] [.int (Int32.ofInt (0 + (1 * ν 1 + 0))), .int (Int32.ofInt (0 + (1 * ν 3 + 0))), .ref (μ 1)] := ?_
      · exact hst2
      try simp only [Int.zero_add, Int.one_mul, Int.add_zero]
      exact k19 K' B' L' f'  (μ 1) h1 h2 (h3.1 0) (h3.1 1) (h3.1 2) (h3.1 3) (h3.2.2.2.1 0 62 rfl) (h3.2.2.2.1 1 69 rfl) (by simpa only [xv, xvT, Int.zero_add, Int.one_mul, Int.add_zero] using (mokF h1 (show (zkd 62).1 = 1 by decide) (j := 2) rfl (by decide) (h3.2.2.2.2.1 _ (List.mem_of_getElem? (i := 0) rfl))))

/-! ao20: from 20 to [29] -/
def w_ao20 : TP := ([(0, (2, 0, (0, []))), (1, (0, 0, (0, [(1, 0)]))), (2, (0, 0, (0, [(1, 1)]))), (3, (0, 0, (0, [(1, 2)])))], [], ([(0, 1), (0, 99), (1, 99), (0, 9)], [], [], [62], [((62, (2, [])), (0, [(1, 3)]))], [], []), [], [])
def u_ao20 : List (Nat × TP × EX × Nat × Nat) := [(29, ([(0, (2, 0, (0, []))), (1, (0, 0, (0, [(1, 0)]))), (2, (0, 0, (0, [(1, 1)]))), (3, (0, 0, (0, [(1, 2)])))], [(0, 0, (0, [(1, 2)])), (0, 0, (0, [(1, 3)])), (2, 1, (0, []))], ([(0, 1), (0, 99), (1, 99), (0, 9)], [], [], [62, 70], [((62, (2, [])), (0, [(1, 3)]))], [], []), [], [(1, 2)]), ((-1), []), 0, 0)]
def D_ao20 : DT := (mkD iX1_addOffer fX1 lX1 kX1 kkX1 427 [] (w_ao20, [], [], 1, 0, 0, 3) false 4 u_ao20)
theorem k_ao20 : chkS D_ao20 4000 0 0 20 = true := by decide +kernel
theorem s_ao20 {X0 : zC0} {E : zCx} (H : ∀ j, j < 427 → CMj X0 j) (hE : zOk E X0 RX1 cX1_addOffer 4 (zrm 1 0 0)) {K : Nat → Nat} {B : Int} {L : List Nat} {f : Nat → va_E} (hh : hok X0.2.2.1 K B L f) {v0 v1 v2 v3 : Int} {r0 : Nat} (hb0 : 0 ≤ v0 ∧ v0 ≤ 1) (hb1 : 0 ≤ v1 ∧ v1 ≤ 99) (hb2 : 1 ≤ v2 ∧ v2 ≤ 99) (hb3 : 0 ≤ v3 ∧ v3 ≤ 9) (hr0 : r0 ∈ L ∧ K r0 = 62) (hm0 : (∀ b ∈ L, K b = 62 → gi (f b) 2 = v3)) (k29 : ∀ (K' : Nat → Nat) (B' : Int) (L' : List Nat) (f' : Nat → va_E) (r1 : Nat), hok X0.2.2.1 K' B' L' f' → extC [] K B L f K' B' L' f' → (0 ≤ v0 ∧ v0 ≤ 1) → (0 ≤ v1 ∧ v1 ≤ 99) → (1 ≤ v2 ∧ v2 ≤ 99) → (0 ≤ v3 ∧ v3 ≤ 9) → (r0 ∈ L' ∧ K' r0 = 62) → (r1 ∈ L' ∧ K' r1 = 70) → (∀ b ∈ L', K' b = 62 → gi (f' b) 2 = v3) → eW E 0 0 L' f' 29 [(0, .ref r0), (1, .int (Int32.ofInt v0)), (2, .int (Int32.ofInt v1)), (3, .int (Int32.ofInt v2))] [.int (Int32.ofInt v2), .int (Int32.ofInt v3), .ref r1]) : eW E 0 0 L f 20 [(0, .ref r0), (1, .int (Int32.ofInt v0)), (2, .int (Int32.ofInt v1)), (3, .int (Int32.ofInt v2))] [] := by
  obtain ⟨l0, D0, cy0, ax0⟩ := X0
  have hraw : eW E 0 0 L f 20 [(0, .ref r0), (1, .int (Int32.ofInt (0 + (1 * v0 + 0)))), (2, .int (Int32.ofInt (0 + (1 * v1 + 0)))), (3, .int (Int32.ofInt (0 + (1 * v2 + 0))))] [] := ?_
  · simpa only [Int.zero_add, Int.one_mul, Int.add_zero] using hraw
  have rm0 : (∀ b ∈ L, K b = 62 → gi (f b) 2 = (0 + (1 * v3 + 0))) := by simpa only [Int.zero_add, Int.one_mul, Int.add_zero] using hm0
  refine seg_ok (D := D_ao20) (νi := fun i => [v0, v1, v2, v3].getD i 0) (μi := fun i => [r0].getD i 0) k_ao20 hE (mk_ok (ins := iX1_addOffer) jX1_addOffer fX1_ok lX1_ok kX1_ok kkX1_ok H) (by decide) rfl rfl rfl rfl hh ?_ ?_
  · refine ⟨(eok_of (fun i q hq => ?_) (fun i hi => ?_)), fa0, fa0, ?_, (fa_cons (Fmok hh (show (zkd 62).1 = 1 by decide) (j := 2) rfl (by decide) rm0) fa0), fa0, fa0⟩
    · match i, hq with
      | 0, hq => cases hq; exact hb0
      | 1, hq => cases hq; exact hb1
      | 2, hq => cases hq; exact hb2
      | 3, hq => cases hq; exact hb3
      | i + 4, hq => cases hq
    · match i, hi with
      | 0, hi => exact absurd hi (by decide)
      | 1, hi => exact absurd hi (by decide)
      | 2, hi => exact absurd hi (by decide)
      | 3, hi => exact absurd hi (by decide)
      | i + 4, _ => rfl
    · intro i k hk
      match i, hk with
      | 0, hk => cases hk; exact hr0
      | i + 1, hk => cases hk
  · intro q hq hst K' B' L' f' ν μ h1 h2 h3 h4 h5
    have e0 : ν 0 = v0 := h4 0 (by decide)
    have e1 : ν 1 = v1 := h4 1 (by decide)
    have e2 : ν 2 = v2 := h4 2 (by decide)
    have e3 : ν 3 = v3 := h4 3 (by decide)
    have d0 : μ 0 = r0 := h5 0 (by decide)
    subst e0
    subst e1
    subst e2
    subst e3
    subst d0
    replace hq : q ∈ u_ao20 := hq
    unfold u_ao20 at hq
    simp only [List.mem_cons, List.not_mem_nil, or_false] at hq
    rcases hq with rfl
    · have hst2 : eW E 0 0 L' f' 29 [(0, .ref (μ 0)), (1, .int (Int32.ofInt (0 + (1 * ν 0 + 0)))), (2, .int (Int32.ofInt (0 + (1 * ν 1 + 0)))), (3, .int (Int32.ofInt (0 + (1 * ν 2 + 0))))] [.int (Int32.ofInt (0 + (1 * ν 2 + 0))), .int (Int32.ofInt (0 + (1 * ν 3 + 0))), .ref (μ 1)] := ?_
      · exact hst2
      try simp only [Int.zero_add, Int.one_mul, Int.add_zero]
      exact k29 K' B' L' f'  (μ 1) h1 h2 (h3.1 0) (h3.1 1) (h3.1 2) (h3.1 3) (h3.2.2.2.1 0 62 rfl) (h3.2.2.2.1 1 70 rfl) (by simpa only [xv, xvT, Int.zero_add, Int.one_mul, Int.add_zero] using (mokF h1 (show (zkd 62).1 = 1 by decide) (j := 2) rfl (by decide) (h3.2.2.2.2.1 _ (List.mem_of_getElem? (i := 0) rfl))))

/-! ao30: from 30 to [41] -/
def w_ao30 : TP := ([(0, (2, 0, (0, []))), (1, (0, 0, (0, [(1, 0)]))), (2, (0, 0, (0, [(1, 1)]))), (3, (0, 0, (0, [(1, 2)])))], [], ([(0, 1), (0, 99), (1, 99), (0, 9)], [], [], [62], [((62, (2, [])), (0, [(1, 3)]))], [], []), [], [])
def u_ao30 : List (Nat × TP × EX × Nat × Nat) := [(41, ([(0, (2, 0, (0, []))), (1, (0, 0, (0, [(1, 0)]))), (2, (0, 0, (0, [(1, 1)]))), (3, (0, 0, (0, [(1, 2)])))], [(0, 0, (1, [(1, 3)]))], ([(0, 1), (0, 99), (1, 99), (0, 9)], [], [], [62], [((62, (2, [])), (1, [(1, 3)]))], [], []), [], []), ((-1), []), 0, 0)]
def D_ao30 : DT := (mkD iX1_addOffer fX1 lX1 kX1 kkX1 427 [] (w_ao30, [(62, 2)], [], 1, 0, 0, 3) false 4 u_ao30)
theorem k_ao30 : chkS D_ao30 4000 0 0 30 = true := by decide +kernel
theorem s_ao30 {X0 : zC0} {E : zCx} (H : ∀ j, j < 427 → CMj X0 j) (hE : zOk E X0 RX1 cX1_addOffer 4 (zrm 1 0 0)) {K : Nat → Nat} {B : Int} {L : List Nat} {f : Nat → va_E} (hh : hok X0.2.2.1 K B L f) {v0 v1 v2 v3 : Int} {r0 : Nat} (hb0 : 0 ≤ v0 ∧ v0 ≤ 1) (hb1 : 0 ≤ v1 ∧ v1 ≤ 99) (hb2 : 1 ≤ v2 ∧ v2 ≤ 99) (hb3 : 0 ≤ v3 ∧ v3 ≤ 9) (hr0 : r0 ∈ L ∧ K r0 = 62) (hm0 : (∀ b ∈ L, K b = 62 → gi (f b) 2 = v3)) (k41 : ∀ (K' : Nat → Nat) (B' : Int) (L' : List Nat) (f' : Nat → va_E), hok X0.2.2.1 K' B' L' f' → extC [(62, 2)] K B L f K' B' L' f' → (0 ≤ v0 ∧ v0 ≤ 1) → (0 ≤ v1 ∧ v1 ≤ 99) → (1 ≤ v2 ∧ v2 ≤ 99) → (0 ≤ v3 ∧ v3 ≤ 9) → (r0 ∈ L' ∧ K' r0 = 62) → (∀ b ∈ L', K' b = 62 → gi (f' b) 2 = (1 + v3)) → eW E 0 0 L' f' 41 [(0, .ref r0), (1, .int (Int32.ofInt v0)), (2, .int (Int32.ofInt v1)), (3, .int (Int32.ofInt v2))] [.int (Int32.ofInt (1 + v3))]) : eW E 0 0 L f 30 [(0, .ref r0), (1, .int (Int32.ofInt v0)), (2, .int (Int32.ofInt v1)), (3, .int (Int32.ofInt v2))] [] := by
  obtain ⟨l0, D0, cy0, ax0⟩ := X0
  have hraw : eW E 0 0 L f 30 [(0, .ref r0), (1, .int (Int32.ofInt (0 + (1 * v0 + 0)))), (2, .int (Int32.ofInt (0 + (1 * v1 + 0)))), (3, .int (Int32.ofInt (0 + (1 * v2 + 0))))] [] := ?_
  · simpa only [Int.zero_add, Int.one_mul, Int.add_zero] using hraw
  have rm0 : (∀ b ∈ L, K b = 62 → gi (f b) 2 = (0 + (1 * v3 + 0))) := by simpa only [Int.zero_add, Int.one_mul, Int.add_zero] using hm0
  refine seg_ok (D := D_ao30) (νi := fun i => [v0, v1, v2, v3].getD i 0) (μi := fun i => [r0].getD i 0) k_ao30 hE (mk_ok (ins := iX1_addOffer) jX1_addOffer fX1_ok lX1_ok kX1_ok kkX1_ok H) (by decide) rfl rfl rfl rfl hh ?_ ?_
  · refine ⟨(eok_of (fun i q hq => ?_) (fun i hi => ?_)), fa0, fa0, ?_, (fa_cons (Fmok hh (show (zkd 62).1 = 1 by decide) (j := 2) rfl (by decide) rm0) fa0), fa0, fa0⟩
    · match i, hq with
      | 0, hq => cases hq; exact hb0
      | 1, hq => cases hq; exact hb1
      | 2, hq => cases hq; exact hb2
      | 3, hq => cases hq; exact hb3
      | i + 4, hq => cases hq
    · match i, hi with
      | 0, hi => exact absurd hi (by decide)
      | 1, hi => exact absurd hi (by decide)
      | 2, hi => exact absurd hi (by decide)
      | 3, hi => exact absurd hi (by decide)
      | i + 4, _ => rfl
    · intro i k hk
      match i, hk with
      | 0, hk => cases hk; exact hr0
      | i + 1, hk => cases hk
  · intro q hq hst K' B' L' f' ν μ h1 h2 h3 h4 h5
    have e0 : ν 0 = v0 := h4 0 (by decide)
    have e1 : ν 1 = v1 := h4 1 (by decide)
    have e2 : ν 2 = v2 := h4 2 (by decide)
    have e3 : ν 3 = v3 := h4 3 (by decide)
    have d0 : μ 0 = r0 := h5 0 (by decide)
    subst e0
    subst e1
    subst e2
    subst e3
    subst d0
    replace hq : q ∈ u_ao30 := hq
    unfold u_ao30 at hq
    simp only [List.mem_cons, List.not_mem_nil, or_false] at hq
    rcases hq with rfl
    · have hst2 : eW E 0 0 L' f' 41 [(0, .ref (μ 0)), (1, .int (Int32.ofInt (0 + (1 * ν 0 + 0)))), (2, .int (Int32.ofInt (0 + (1 * ν 1 + 0)))), (3, .int (Int32.ofInt (0 + (1 * ν 2 + 0))))] [.int (Int32.ofInt (1 + (1 * ν 3 + 0)))] := ?_
      · exact hst2
      try simp only [Int.zero_add, Int.one_mul, Int.add_zero]
      exact k41 K' B' L' f'   h1 h2 (h3.1 0) (h3.1 1) (h3.1 2) (h3.1 3) (h3.2.2.2.1 0 62 rfl) (by simpa only [xv, xvT, Int.zero_add, Int.one_mul, Int.add_zero] using (mokF h1 (show (zkd 62).1 = 1 by decide) (j := 2) rfl (by decide) (h3.2.2.2.2.1 _ (List.mem_of_getElem? (i := 0) rfl))))

/-! ofA: from 0 to [20] -/
def w_ofA : TP := ([(0, (2, 0, (0, []))), (1, (0, 0, (0, [(1, 0)]))), (2, (0, 0, (0, [(1, 1)]))), (3, (0, 0, (0, [])))], [], ([(0, 1), ((-2147483648), 2147483647)], [], [], [197], [], [], []), [], [])
def u_ofA : List (Nat × TP × EX × Nat × Nat) := [(20, ([(0, (2, 0, (0, []))), (1, (0, 0, (0, [(1, 0)]))), (2, (0, 0, (0, [(1, 1)]))), (3, (0, 0, (0, []))), (4, (2, 1, (0, [])))], [(0, 0, (0, []))], ([(0, 1), ((-2147483648), 2147483647)], [], [], [197, 62], [((62, (2, [])), (0, []))], [], []), [], [(0, 4)]), ((-1), []), 0, 0)]
def D_ofA : DT := (mkD iX11_offer fX11 lX11 kX11 kkX11 427 [] (w_ofA, [(62, 2)], [], 2, 0, 0, 3) false 5 u_ofA)
theorem k_ofA : chkS D_ofA 4000 0 0 0 = true := by decide +kernel
theorem s_ofA {X0 : zC0} {E : zCx} (H : ∀ j, j < 427 → CMj X0 j) (hE : zOk E X0 RX11 cX11_offer 5 (zrm 2 0 0)) {K : Nat → Nat} {B : Int} {L : List Nat} {f : Nat → va_E} (hh : hok X0.2.2.1 K B L f) {v0 v1 : Int} {r0 : Nat} (hb0 : 0 ≤ v0 ∧ v0 ≤ 1) (hb1 : (-2147483648) ≤ v1 ∧ v1 ≤ 2147483647) (hr0 : r0 ∈ L ∧ K r0 = 197) (k20 : ∀ (K' : Nat → Nat) (B' : Int) (L' : List Nat) (f' : Nat → va_E) (r1 : Nat), hok X0.2.2.1 K' B' L' f' → extC [(62, 2)] K B L f K' B' L' f' → (0 ≤ v0 ∧ v0 ≤ 1) → ((-2147483648) ≤ v1 ∧ v1 ≤ 2147483647) → (r0 ∈ L' ∧ K' r0 = 197) → (r1 ∈ L' ∧ K' r1 = 62) → (∀ b ∈ L', K' b = 62 → gi (f' b) 2 = 0) → eW E 0 0 L' f' 20 [(0, .ref r0), (1, .int (Int32.ofInt v0)), (2, .int (Int32.ofInt v1)), (3, .int (Int32.ofInt 0)), (4, .ref r1)] [.int (Int32.ofInt 0)]) : eW E 0 0 L f 0 [(0, .ref r0), (1, .int (Int32.ofInt v0)), (2, .int (Int32.ofInt v1)), (3, .int (Int32.ofInt 0))] [] := by
  obtain ⟨l0, D0, cy0, ax0⟩ := X0
  have hraw : eW E 0 0 L f 0 [(0, .ref r0), (1, .int (Int32.ofInt (0 + (1 * v0 + 0)))), (2, .int (Int32.ofInt (0 + (1 * v1 + 0)))), (3, .int (Int32.ofInt (0 + 0)))] [] := ?_
  · simpa only [Int.zero_add, Int.one_mul, Int.add_zero] using hraw
  refine seg_ok (D := D_ofA) (νi := fun i => [v0, v1].getD i 0) (μi := fun i => [r0].getD i 0) k_ofA hE (mk_ok (ins := iX11_offer) jX11_offer fX11_ok lX11_ok kX11_ok kkX11_ok H) (by decide) rfl rfl rfl rfl hh ?_ ?_
  · refine ⟨(eok_of (fun i q hq => ?_) (fun i hi => ?_)), fa0, fa0, ?_, fa0, fa0, fa0⟩
    · match i, hq with
      | 0, hq => cases hq; exact hb0
      | 1, hq => cases hq; exact hb1
      | i + 2, hq => cases hq
    · match i, hi with
      | 0, hi => exact absurd hi (by decide)
      | 1, hi => exact absurd hi (by decide)
      | i + 2, _ => rfl
    · intro i k hk
      match i, hk with
      | 0, hk => cases hk; exact hr0
      | i + 1, hk => cases hk
  · intro q hq hst K' B' L' f' ν μ h1 h2 h3 h4 h5
    have e0 : ν 0 = v0 := h4 0 (by decide)
    have e1 : ν 1 = v1 := h4 1 (by decide)
    have d0 : μ 0 = r0 := h5 0 (by decide)
    subst e0
    subst e1
    subst d0
    replace hq : q ∈ u_ofA := hq
    unfold u_ofA at hq
    simp only [List.mem_cons, List.not_mem_nil, or_false] at hq
    rcases hq with rfl
    · have hst2 : eW E 0 0 L' f' 20 [(0, .ref (μ 0)), (1, .int (Int32.ofInt (0 + (1 * ν 0 + 0)))), (2, .int (Int32.ofInt (0 + (1 * ν 1 + 0)))), (3, .int (Int32.ofInt (0 + 0))), (4, .ref (μ 1))] [.int (Int32.ofInt (0 + 0))] := ?_
      · exact hst2
      try simp only [Int.zero_add, Int.one_mul, Int.add_zero]
      exact k20 K' B' L' f'  (μ 1) h1 h2 (h3.1 0) (h3.1 1) (h3.2.2.2.1 0 197 rfl) (h3.2.2.2.1 1 62 rfl) (by simpa only [xv, xvT, Int.zero_add, Int.one_mul, Int.add_zero] using (mokF h1 (show (zkd 62).1 = 1 by decide) (j := 2) rfl (by decide) (h3.2.2.2.2.1 _ (List.mem_of_getElem? (i := 0) rfl))))

/-! ofB: from 0 to [52] -/
def w_ofB : TP := ([(0, (2, 0, (0, []))), (1, (0, 0, (0, [(1, 0)]))), (2, (0, 0, (0, [(1, 1)]))), (3, (0, 0, (0, [(1, 2)])))], [], ([(0, 1), ((-2147483648), 2147483647), ((-2147483648), (-1))], [], [], [197], [], [], []), [], [])
def u_ofB : List (Nat × TP × EX × Nat × Nat) := [(52, ([(0, (2, 0, (0, []))), (1, (0, 0, (0, [(1, 0)]))), (2, (0, 0, (0, [(1, 1)]))), (3, (0, 0, (0, [(1, 2)]))), (4, (2, 1, (0, [])))], [(0, 0, ((-1), []))], ([(0, 1), ((-2147483648), 2147483647), ((-2147483648), (-1))], [], [], [197, 62], [], [], []), [], [(0, 4)]), ((-1), []), 0, 0)]
def D_ofB : DT := (mkD iX11_offer fX11 lX11 kX11 kkX11 427 [(25, [421]), (35, [422])] (w_ofB, [], [], 2, 0, 0, 3) false 5 u_ofB)
theorem k_ofB : chkS D_ofB 4000 0 0 0 = true := by decide +kernel
theorem s_ofB {X0 : zC0} {E : zCx} (H : ∀ j, j < 427 → CMj X0 j) (hE : zOk E X0 RX11 cX11_offer 5 (zrm 2 0 0)) {K : Nat → Nat} {B : Int} {L : List Nat} {f : Nat → va_E} (hh : hok X0.2.2.1 K B L f) {v0 v1 v2 : Int} {r0 : Nat} (hb0 : 0 ≤ v0 ∧ v0 ≤ 1) (hb1 : (-2147483648) ≤ v1 ∧ v1 ≤ 2147483647) (hb2 : (-2147483648) ≤ v2 ∧ v2 ≤ (-1)) (hr0 : r0 ∈ L ∧ K r0 = 197) (k52 : ∀ (K' : Nat → Nat) (B' : Int) (L' : List Nat) (f' : Nat → va_E) (r1 : Nat), hok X0.2.2.1 K' B' L' f' → extC [] K B L f K' B' L' f' → (0 ≤ v0 ∧ v0 ≤ 1) → ((-2147483648) ≤ v1 ∧ v1 ≤ 2147483647) → ((-2147483648) ≤ v2 ∧ v2 ≤ (-1)) → (r0 ∈ L' ∧ K' r0 = 197) → (r1 ∈ L' ∧ K' r1 = 62) → eW E 0 0 L' f' 52 [(0, .ref r0), (1, .int (Int32.ofInt v0)), (2, .int (Int32.ofInt v1)), (3, .int (Int32.ofInt v2)), (4, .ref r1)] [.int (Int32.ofInt (-1))]) : eW E 0 0 L f 0 [(0, .ref r0), (1, .int (Int32.ofInt v0)), (2, .int (Int32.ofInt v1)), (3, .int (Int32.ofInt v2))] [] := by
  obtain ⟨l0, D0, cy0, ax0⟩ := X0
  have hraw : eW E 0 0 L f 0 [(0, .ref r0), (1, .int (Int32.ofInt (0 + (1 * v0 + 0)))), (2, .int (Int32.ofInt (0 + (1 * v1 + 0)))), (3, .int (Int32.ofInt (0 + (1 * v2 + 0))))] [] := ?_
  · simpa only [Int.zero_add, Int.one_mul, Int.add_zero] using hraw
  refine seg_ok (D := D_ofB) (νi := fun i => [v0, v1, v2].getD i 0) (μi := fun i => [r0].getD i 0) k_ofB hE (mk_ok (ins := iX11_offer) jX11_offer fX11_ok lX11_ok kX11_ok kkX11_ok H) (by decide) rfl rfl rfl rfl hh ?_ ?_
  · refine ⟨(eok_of (fun i q hq => ?_) (fun i hi => ?_)), fa0, fa0, ?_, fa0, fa0, fa0⟩
    · match i, hq with
      | 0, hq => cases hq; exact hb0
      | 1, hq => cases hq; exact hb1
      | 2, hq => cases hq; exact hb2
      | i + 3, hq => cases hq
    · match i, hi with
      | 0, hi => exact absurd hi (by decide)
      | 1, hi => exact absurd hi (by decide)
      | 2, hi => exact absurd hi (by decide)
      | i + 3, _ => rfl
    · intro i k hk
      match i, hk with
      | 0, hk => cases hk; exact hr0
      | i + 1, hk => cases hk
  · intro q hq hst K' B' L' f' ν μ h1 h2 h3 h4 h5
    have e0 : ν 0 = v0 := h4 0 (by decide)
    have e1 : ν 1 = v1 := h4 1 (by decide)
    have e2 : ν 2 = v2 := h4 2 (by decide)
    have d0 : μ 0 = r0 := h5 0 (by decide)
    subst e0
    subst e1
    subst e2
    subst d0
    replace hq : q ∈ u_ofB := hq
    unfold u_ofB at hq
    simp only [List.mem_cons, List.not_mem_nil, or_false] at hq
    rcases hq with rfl
    · have hst2 : eW E 0 0 L' f' 52 [(0, .ref (μ 0)), (1, .int (Int32.ofInt (0 + (1 * ν 0 + 0)))), (2, .int (Int32.ofInt (0 + (1 * ν 1 + 0)))), (3, .int (Int32.ofInt (0 + (1 * ν 2 + 0)))), (4, .ref (μ 1))] [.int (Int32.ofInt ((-1) + 0))] := ?_
      · exact hst2
      try simp only [Int.zero_add, Int.one_mul, Int.add_zero]
      exact k52 K' B' L' f'  (μ 1) h1 h2 (h3.1 0) (h3.1 1) (h3.1 2) (h3.2.2.2.1 0 197 rfl) (h3.2.2.2.1 1 62 rfl)

/-! ofC: from 0 to [52] -/
def w_ofC : TP := ([(0, (2, 0, (0, []))), (1, (0, 0, (0, [(1, 0)]))), (2, (0, 0, (0, [(1, 1)]))), (3, (0, 0, (0, [(1, 2)])))], [], ([(0, 1), ((-2147483648), 2147483647), (100, 2147483647)], [], [], [197], [], [], []), [], [])
def u_ofC : List (Nat × TP × EX × Nat × Nat) := [(52, ([(0, (2, 0, (0, []))), (1, (0, 0, (0, [(1, 0)]))), (2, (0, 0, (0, [(1, 1)]))), (3, (0, 0, (0, [(1, 2)]))), (4, (2, 1, (0, [])))], [(0, 0, ((-1), []))], ([(0, 1), ((-2147483648), 2147483647), (100, 2147483647)], [], [], [197, 62], [], [], []), [], [(0, 4)]), ((-1), []), 0, 0)]
def D_ofC : DT := (mkD iX11_offer fX11 lX11 kX11 kkX11 427 [(25, [421]), (35, [422])] (w_ofC, [], [], 2, 0, 0, 3) false 5 u_ofC)
theorem k_ofC : chkS D_ofC 4000 0 0 0 = true := by decide +kernel
theorem s_ofC {X0 : zC0} {E : zCx} (H : ∀ j, j < 427 → CMj X0 j) (hE : zOk E X0 RX11 cX11_offer 5 (zrm 2 0 0)) {K : Nat → Nat} {B : Int} {L : List Nat} {f : Nat → va_E} (hh : hok X0.2.2.1 K B L f) {v0 v1 v2 : Int} {r0 : Nat} (hb0 : 0 ≤ v0 ∧ v0 ≤ 1) (hb1 : (-2147483648) ≤ v1 ∧ v1 ≤ 2147483647) (hb2 : 100 ≤ v2 ∧ v2 ≤ 2147483647) (hr0 : r0 ∈ L ∧ K r0 = 197) (k52 : ∀ (K' : Nat → Nat) (B' : Int) (L' : List Nat) (f' : Nat → va_E) (r1 : Nat), hok X0.2.2.1 K' B' L' f' → extC [] K B L f K' B' L' f' → (0 ≤ v0 ∧ v0 ≤ 1) → ((-2147483648) ≤ v1 ∧ v1 ≤ 2147483647) → (100 ≤ v2 ∧ v2 ≤ 2147483647) → (r0 ∈ L' ∧ K' r0 = 197) → (r1 ∈ L' ∧ K' r1 = 62) → eW E 0 0 L' f' 52 [(0, .ref r0), (1, .int (Int32.ofInt v0)), (2, .int (Int32.ofInt v1)), (3, .int (Int32.ofInt v2)), (4, .ref r1)] [.int (Int32.ofInt (-1))]) : eW E 0 0 L f 0 [(0, .ref r0), (1, .int (Int32.ofInt v0)), (2, .int (Int32.ofInt v1)), (3, .int (Int32.ofInt v2))] [] := by
  obtain ⟨l0, D0, cy0, ax0⟩ := X0
  have hraw : eW E 0 0 L f 0 [(0, .ref r0), (1, .int (Int32.ofInt (0 + (1 * v0 + 0)))), (2, .int (Int32.ofInt (0 + (1 * v1 + 0)))), (3, .int (Int32.ofInt (0 + (1 * v2 + 0))))] [] := ?_
  · simpa only [Int.zero_add, Int.one_mul, Int.add_zero] using hraw
  refine seg_ok (D := D_ofC) (νi := fun i => [v0, v1, v2].getD i 0) (μi := fun i => [r0].getD i 0) k_ofC hE (mk_ok (ins := iX11_offer) jX11_offer fX11_ok lX11_ok kX11_ok kkX11_ok H) (by decide) rfl rfl rfl rfl hh ?_ ?_
  · refine ⟨(eok_of (fun i q hq => ?_) (fun i hi => ?_)), fa0, fa0, ?_, fa0, fa0, fa0⟩
    · match i, hq with
      | 0, hq => cases hq; exact hb0
      | 1, hq => cases hq; exact hb1
      | 2, hq => cases hq; exact hb2
      | i + 3, hq => cases hq
    · match i, hi with
      | 0, hi => exact absurd hi (by decide)
      | 1, hi => exact absurd hi (by decide)
      | 2, hi => exact absurd hi (by decide)
      | i + 3, _ => rfl
    · intro i k hk
      match i, hk with
      | 0, hk => cases hk; exact hr0
      | i + 1, hk => cases hk
  · intro q hq hst K' B' L' f' ν μ h1 h2 h3 h4 h5
    have e0 : ν 0 = v0 := h4 0 (by decide)
    have e1 : ν 1 = v1 := h4 1 (by decide)
    have e2 : ν 2 = v2 := h4 2 (by decide)
    have d0 : μ 0 = r0 := h5 0 (by decide)
    subst e0
    subst e1
    subst e2
    subst d0
    replace hq : q ∈ u_ofC := hq
    unfold u_ofC at hq
    simp only [List.mem_cons, List.not_mem_nil, or_false] at hq
    rcases hq with rfl
    · have hst2 : eW E 0 0 L' f' 52 [(0, .ref (μ 0)), (1, .int (Int32.ofInt (0 + (1 * ν 0 + 0)))), (2, .int (Int32.ofInt (0 + (1 * ν 1 + 0)))), (3, .int (Int32.ofInt (0 + (1 * ν 2 + 0)))), (4, .ref (μ 1))] [.int (Int32.ofInt ((-1) + 0))] := ?_
      · exact hst2
      try simp only [Int.zero_add, Int.one_mul, Int.add_zero]
      exact k52 K' B' L' f'  (μ 1) h1 h2 (h3.1 0) (h3.1 1) (h3.1 2) (h3.2.2.2.1 0 197 rfl) (h3.2.2.2.1 1 62 rfl)

/-! ofD: from 0 to [52] -/
def w_ofD : TP := ([(0, (2, 0, (0, []))), (1, (0, 0, (0, [(1, 0)]))), (2, (0, 0, (0, [(1, 1)]))), (3, (0, 0, (0, [(1, 2)])))], [], ([(0, 1), ((-2147483648), (-1)), (1, 99)], [], [], [197], [], [], []), [], [])
def u_ofD : List (Nat × TP × EX × Nat × Nat) := [(52, ([(0, (2, 0, (0, []))), (1, (0, 0, (0, [(1, 0)]))), (2, (0, 0, (0, [(1, 1)]))), (3, (0, 0, (0, [(1, 2)]))), (4, (2, 1, (0, [])))], [(0, 0, ((-1), []))], ([(0, 1), ((-2147483648), (-1)), (1, 99)], [], [], [197, 62], [], [], []), [], [(0, 4)]), ((-1), []), 0, 0)]
def D_ofD : DT := (mkD iX11_offer fX11 lX11 kX11 kkX11 427 [(25, [421])] (w_ofD, [], [], 2, 0, 0, 3) false 5 u_ofD)
theorem k_ofD : chkS D_ofD 4000 0 0 0 = true := by decide +kernel
theorem s_ofD {X0 : zC0} {E : zCx} (H : ∀ j, j < 427 → CMj X0 j) (hE : zOk E X0 RX11 cX11_offer 5 (zrm 2 0 0)) {K : Nat → Nat} {B : Int} {L : List Nat} {f : Nat → va_E} (hh : hok X0.2.2.1 K B L f) {v0 v1 v2 : Int} {r0 : Nat} (hb0 : 0 ≤ v0 ∧ v0 ≤ 1) (hb1 : (-2147483648) ≤ v1 ∧ v1 ≤ (-1)) (hb2 : 1 ≤ v2 ∧ v2 ≤ 99) (hr0 : r0 ∈ L ∧ K r0 = 197) (k52 : ∀ (K' : Nat → Nat) (B' : Int) (L' : List Nat) (f' : Nat → va_E) (r1 : Nat), hok X0.2.2.1 K' B' L' f' → extC [] K B L f K' B' L' f' → (0 ≤ v0 ∧ v0 ≤ 1) → ((-2147483648) ≤ v1 ∧ v1 ≤ (-1)) → (1 ≤ v2 ∧ v2 ≤ 99) → (r0 ∈ L' ∧ K' r0 = 197) → (r1 ∈ L' ∧ K' r1 = 62) → eW E 0 0 L' f' 52 [(0, .ref r0), (1, .int (Int32.ofInt v0)), (2, .int (Int32.ofInt v1)), (3, .int (Int32.ofInt v2)), (4, .ref r1)] [.int (Int32.ofInt (-1))]) : eW E 0 0 L f 0 [(0, .ref r0), (1, .int (Int32.ofInt v0)), (2, .int (Int32.ofInt v1)), (3, .int (Int32.ofInt v2))] [] := by
  obtain ⟨l0, D0, cy0, ax0⟩ := X0
  have hraw : eW E 0 0 L f 0 [(0, .ref r0), (1, .int (Int32.ofInt (0 + (1 * v0 + 0)))), (2, .int (Int32.ofInt (0 + (1 * v1 + 0)))), (3, .int (Int32.ofInt (0 + (1 * v2 + 0))))] [] := ?_
  · simpa only [Int.zero_add, Int.one_mul, Int.add_zero] using hraw
  refine seg_ok (D := D_ofD) (νi := fun i => [v0, v1, v2].getD i 0) (μi := fun i => [r0].getD i 0) k_ofD hE (mk_ok (ins := iX11_offer) jX11_offer fX11_ok lX11_ok kX11_ok kkX11_ok H) (by decide) rfl rfl rfl rfl hh ?_ ?_
  · refine ⟨(eok_of (fun i q hq => ?_) (fun i hi => ?_)), fa0, fa0, ?_, fa0, fa0, fa0⟩
    · match i, hq with
      | 0, hq => cases hq; exact hb0
      | 1, hq => cases hq; exact hb1
      | 2, hq => cases hq; exact hb2
      | i + 3, hq => cases hq
    · match i, hi with
      | 0, hi => exact absurd hi (by decide)
      | 1, hi => exact absurd hi (by decide)
      | 2, hi => exact absurd hi (by decide)
      | i + 3, _ => rfl
    · intro i k hk
      match i, hk with
      | 0, hk => cases hk; exact hr0
      | i + 1, hk => cases hk
  · intro q hq hst K' B' L' f' ν μ h1 h2 h3 h4 h5
    have e0 : ν 0 = v0 := h4 0 (by decide)
    have e1 : ν 1 = v1 := h4 1 (by decide)
    have e2 : ν 2 = v2 := h4 2 (by decide)
    have d0 : μ 0 = r0 := h5 0 (by decide)
    subst e0
    subst e1
    subst e2
    subst d0
    replace hq : q ∈ u_ofD := hq
    unfold u_ofD at hq
    simp only [List.mem_cons, List.not_mem_nil, or_false] at hq
    rcases hq with rfl
    · have hst2 : eW E 0 0 L' f' 52 [(0, .ref (μ 0)), (1, .int (Int32.ofInt (0 + (1 * ν 0 + 0)))), (2, .int (Int32.ofInt (0 + (1 * ν 1 + 0)))), (3, .int (Int32.ofInt (0 + (1 * ν 2 + 0)))), (4, .ref (μ 1))] [.int (Int32.ofInt ((-1) + 0))] := ?_
      · exact hst2
      try simp only [Int.zero_add, Int.one_mul, Int.add_zero]
      exact k52 K' B' L' f'  (μ 1) h1 h2 (h3.1 0) (h3.1 1) (h3.1 2) (h3.2.2.2.1 0 197 rfl) (h3.2.2.2.1 1 62 rfl)

/-! ofE: from 0 to [52] -/
def w_ofE : TP := ([(0, (2, 0, (0, []))), (1, (0, 0, (0, [(1, 0)]))), (2, (0, 0, (0, [(1, 1)]))), (3, (0, 0, (0, [(1, 2)])))], [], ([(0, 1), (100, 2147483647), (1, 99)], [], [], [197], [], [], []), [], [])
def u_ofE : List (Nat × TP × EX × Nat × Nat) := [(52, ([(0, (2, 0, (0, []))), (1, (0, 0, (0, [(1, 0)]))), (2, (0, 0, (0, [(1, 1)]))), (3, (0, 0, (0, [(1, 2)]))), (4, (2, 1, (0, [])))], [(0, 0, ((-1), []))], ([(0, 1), (100, 2147483647), (1, 99)], [], [], [197, 62], [], [], []), [], [(0, 4)]), ((-1), []), 0, 0)]
def D_ofE : DT := (mkD iX11_offer fX11 lX11 kX11 kkX11 427 [(25, [421])] (w_ofE, [], [], 2, 0, 0, 3) false 5 u_ofE)
theorem k_ofE : chkS D_ofE 4000 0 0 0 = true := by decide +kernel
theorem s_ofE {X0 : zC0} {E : zCx} (H : ∀ j, j < 427 → CMj X0 j) (hE : zOk E X0 RX11 cX11_offer 5 (zrm 2 0 0)) {K : Nat → Nat} {B : Int} {L : List Nat} {f : Nat → va_E} (hh : hok X0.2.2.1 K B L f) {v0 v1 v2 : Int} {r0 : Nat} (hb0 : 0 ≤ v0 ∧ v0 ≤ 1) (hb1 : 100 ≤ v1 ∧ v1 ≤ 2147483647) (hb2 : 1 ≤ v2 ∧ v2 ≤ 99) (hr0 : r0 ∈ L ∧ K r0 = 197) (k52 : ∀ (K' : Nat → Nat) (B' : Int) (L' : List Nat) (f' : Nat → va_E) (r1 : Nat), hok X0.2.2.1 K' B' L' f' → extC [] K B L f K' B' L' f' → (0 ≤ v0 ∧ v0 ≤ 1) → (100 ≤ v1 ∧ v1 ≤ 2147483647) → (1 ≤ v2 ∧ v2 ≤ 99) → (r0 ∈ L' ∧ K' r0 = 197) → (r1 ∈ L' ∧ K' r1 = 62) → eW E 0 0 L' f' 52 [(0, .ref r0), (1, .int (Int32.ofInt v0)), (2, .int (Int32.ofInt v1)), (3, .int (Int32.ofInt v2)), (4, .ref r1)] [.int (Int32.ofInt (-1))]) : eW E 0 0 L f 0 [(0, .ref r0), (1, .int (Int32.ofInt v0)), (2, .int (Int32.ofInt v1)), (3, .int (Int32.ofInt v2))] [] := by
  obtain ⟨l0, D0, cy0, ax0⟩ := X0
  have hraw : eW E 0 0 L f 0 [(0, .ref r0), (1, .int (Int32.ofInt (0 + (1 * v0 + 0)))), (2, .int (Int32.ofInt (0 + (1 * v1 + 0)))), (3, .int (Int32.ofInt (0 + (1 * v2 + 0))))] [] := ?_
  · simpa only [Int.zero_add, Int.one_mul, Int.add_zero] using hraw
  refine seg_ok (D := D_ofE) (νi := fun i => [v0, v1, v2].getD i 0) (μi := fun i => [r0].getD i 0) k_ofE hE (mk_ok (ins := iX11_offer) jX11_offer fX11_ok lX11_ok kX11_ok kkX11_ok H) (by decide) rfl rfl rfl rfl hh ?_ ?_
  · refine ⟨(eok_of (fun i q hq => ?_) (fun i hi => ?_)), fa0, fa0, ?_, fa0, fa0, fa0⟩
    · match i, hq with
      | 0, hq => cases hq; exact hb0
      | 1, hq => cases hq; exact hb1
      | 2, hq => cases hq; exact hb2
      | i + 3, hq => cases hq
    · match i, hi with
      | 0, hi => exact absurd hi (by decide)
      | 1, hi => exact absurd hi (by decide)
      | 2, hi => exact absurd hi (by decide)
      | i + 3, _ => rfl
    · intro i k hk
      match i, hk with
      | 0, hk => cases hk; exact hr0
      | i + 1, hk => cases hk
  · intro q hq hst K' B' L' f' ν μ h1 h2 h3 h4 h5
    have e0 : ν 0 = v0 := h4 0 (by decide)
    have e1 : ν 1 = v1 := h4 1 (by decide)
    have e2 : ν 2 = v2 := h4 2 (by decide)
    have d0 : μ 0 = r0 := h5 0 (by decide)
    subst e0
    subst e1
    subst e2
    subst d0
    replace hq : q ∈ u_ofE := hq
    unfold u_ofE at hq
    simp only [List.mem_cons, List.not_mem_nil, or_false] at hq
    rcases hq with rfl
    · have hst2 : eW E 0 0 L' f' 52 [(0, .ref (μ 0)), (1, .int (Int32.ofInt (0 + (1 * ν 0 + 0)))), (2, .int (Int32.ofInt (0 + (1 * ν 1 + 0)))), (3, .int (Int32.ofInt (0 + (1 * ν 2 + 0)))), (4, .ref (μ 1))] [.int (Int32.ofInt ((-1) + 0))] := ?_
      · exact hst2
      try simp only [Int.zero_add, Int.one_mul, Int.add_zero]
      exact k52 K' B' L' f'  (μ 1) h1 h2 (h3.1 0) (h3.1 1) (h3.1 2) (h3.2.2.2.1 0 197 rfl) (h3.2.2.2.1 1 62 rfl)

/-! ofG: from 0 to [52] -/
def w_ofG : TP := ([(0, (2, 0, (0, []))), (1, (0, 0, (0, [(1, 0)]))), (2, (0, 0, (0, [(1, 1)]))), (3, (0, 0, (0, [(1, 2)])))], [], ([(0, 1), (0, 99), (1, 99)], [], [], [197], [((62, (2, [])), (10, []))], [], []), [], [])
def u_ofG : List (Nat × TP × EX × Nat × Nat) := [(52, ([(0, (2, 0, (0, []))), (1, (0, 0, (0, [(1, 0)]))), (2, (0, 0, (0, [(1, 1)]))), (3, (0, 0, (0, [(1, 2)]))), (4, (2, 1, (0, [])))], [(0, 0, ((-1), []))], ([(0, 1), (0, 99), (1, 99)], [], [], [197, 62], [((62, (2, [])), (10, []))], [], []), [], [(0, 4)]), ((-1), []), 0, 0)]
def D_ofG : DT := (mkD iX11_offer fX11 lX11 kX11 kkX11 427 [(25, [421]), (35, [422])] (w_ofG, [], [], 2, 0, 0, 3) false 5 u_ofG)
theorem k_ofG : chkS D_ofG 4000 0 0 0 = true := by decide +kernel
theorem s_ofG {X0 : zC0} {E : zCx} (H : ∀ j, j < 427 → CMj X0 j) (hE : zOk E X0 RX11 cX11_offer 5 (zrm 2 0 0)) {K : Nat → Nat} {B : Int} {L : List Nat} {f : Nat → va_E} (hh : hok X0.2.2.1 K B L f) {v0 v1 v2 : Int} {r0 : Nat} (hb0 : 0 ≤ v0 ∧ v0 ≤ 1) (hb1 : 0 ≤ v1 ∧ v1 ≤ 99) (hb2 : 1 ≤ v2 ∧ v2 ≤ 99) (hr0 : r0 ∈ L ∧ K r0 = 197) (hm0 : (∀ b ∈ L, K b = 62 → gi (f b) 2 = 10)) (k52 : ∀ (K' : Nat → Nat) (B' : Int) (L' : List Nat) (f' : Nat → va_E) (r1 : Nat), hok X0.2.2.1 K' B' L' f' → extC [] K B L f K' B' L' f' → (0 ≤ v0 ∧ v0 ≤ 1) → (0 ≤ v1 ∧ v1 ≤ 99) → (1 ≤ v2 ∧ v2 ≤ 99) → (r0 ∈ L' ∧ K' r0 = 197) → (r1 ∈ L' ∧ K' r1 = 62) → (∀ b ∈ L', K' b = 62 → gi (f' b) 2 = 10) → eW E 0 0 L' f' 52 [(0, .ref r0), (1, .int (Int32.ofInt v0)), (2, .int (Int32.ofInt v1)), (3, .int (Int32.ofInt v2)), (4, .ref r1)] [.int (Int32.ofInt (-1))]) : eW E 0 0 L f 0 [(0, .ref r0), (1, .int (Int32.ofInt v0)), (2, .int (Int32.ofInt v1)), (3, .int (Int32.ofInt v2))] [] := by
  obtain ⟨l0, D0, cy0, ax0⟩ := X0
  have hraw : eW E 0 0 L f 0 [(0, .ref r0), (1, .int (Int32.ofInt (0 + (1 * v0 + 0)))), (2, .int (Int32.ofInt (0 + (1 * v1 + 0)))), (3, .int (Int32.ofInt (0 + (1 * v2 + 0))))] [] := ?_
  · simpa only [Int.zero_add, Int.one_mul, Int.add_zero] using hraw
  have rm0 : (∀ b ∈ L, K b = 62 → gi (f b) 2 = (10 + 0)) := by simpa only [Int.zero_add, Int.one_mul, Int.add_zero] using hm0
  refine seg_ok (D := D_ofG) (νi := fun i => [v0, v1, v2].getD i 0) (μi := fun i => [r0].getD i 0) k_ofG hE (mk_ok (ins := iX11_offer) jX11_offer fX11_ok lX11_ok kX11_ok kkX11_ok H) (by decide) rfl rfl rfl rfl hh ?_ ?_
  · refine ⟨(eok_of (fun i q hq => ?_) (fun i hi => ?_)), fa0, fa0, ?_, (fa_cons (Fmok hh (show (zkd 62).1 = 1 by decide) (j := 2) rfl (by decide) rm0) fa0), fa0, fa0⟩
    · match i, hq with
      | 0, hq => cases hq; exact hb0
      | 1, hq => cases hq; exact hb1
      | 2, hq => cases hq; exact hb2
      | i + 3, hq => cases hq
    · match i, hi with
      | 0, hi => exact absurd hi (by decide)
      | 1, hi => exact absurd hi (by decide)
      | 2, hi => exact absurd hi (by decide)
      | i + 3, _ => rfl
    · intro i k hk
      match i, hk with
      | 0, hk => cases hk; exact hr0
      | i + 1, hk => cases hk
  · intro q hq hst K' B' L' f' ν μ h1 h2 h3 h4 h5
    have e0 : ν 0 = v0 := h4 0 (by decide)
    have e1 : ν 1 = v1 := h4 1 (by decide)
    have e2 : ν 2 = v2 := h4 2 (by decide)
    have d0 : μ 0 = r0 := h5 0 (by decide)
    subst e0
    subst e1
    subst e2
    subst d0
    replace hq : q ∈ u_ofG := hq
    unfold u_ofG at hq
    simp only [List.mem_cons, List.not_mem_nil, or_false] at hq
    rcases hq with rfl
    · have hst2 : eW E 0 0 L' f' 52 [(0, .ref (μ 0)), (1, .int (Int32.ofInt (0 + (1 * ν 0 + 0)))), (2, .int (Int32.ofInt (0 + (1 * ν 1 + 0)))), (3, .int (Int32.ofInt (0 + (1 * ν 2 + 0)))), (4, .ref (μ 1))] [.int (Int32.ofInt ((-1) + 0))] := ?_
      · exact hst2
      try simp only [Int.zero_add, Int.one_mul, Int.add_zero]
      exact k52 K' B' L' f'  (μ 1) h1 h2 (h3.1 0) (h3.1 1) (h3.1 2) (h3.2.2.2.1 0 197 rfl) (h3.2.2.2.1 1 62 rfl) (by simpa only [xv, xvT, Int.zero_add, Int.one_mul, Int.add_zero] using (mokF h1 (show (zkd 62).1 = 1 by decide) (j := 2) rfl (by decide) (h3.2.2.2.2.1 _ (List.mem_of_getElem? (i := 0) rfl))))

/-! ofH: from 0 to [58] -/
def w_ofH : TP := ([(0, (2, 0, (0, []))), (1, (0, 0, (0, [(1, 0)]))), (2, (0, 0, (0, [(1, 1)]))), (3, (0, 0, (0, [(1, 2)])))], [], ([(0, 1), (0, 99), (1, 99), (0, 9)], [], [], [197], [((62, (2, [])), (0, [(1, 3)]))], [], []), [], [])
def u_ofH : List (Nat × TP × EX × Nat × Nat) := [(58, ([(0, (2, 0, (0, []))), (1, (0, 0, (0, [(1, 0)]))), (2, (0, 0, (0, [(1, 1)]))), (3, (0, 0, (0, [(1, 2)]))), (4, (2, 1, (0, [])))], [(0, 0, (0, [(1, 2)])), (0, 0, (0, [(1, 1)])), (0, 0, (0, [(1, 0)])), (2, 1, (0, []))], ([(0, 1), (0, 99), (1, 99), (0, 9)], [], [], [197, 62], [((62, (2, [])), (0, [(1, 3)]))], [], []), [], [(0, 4)]), ((-1), []), 0, 0)]
def D_ofH : DT := (mkD iX11_offer fX11 lX11 kX11 kkX11 427 [(25, [421]), (35, [422])] (w_ofH, [], [], 2, 0, 0, 3) false 5 u_ofH)
theorem k_ofH : chkS D_ofH 4000 0 0 0 = true := by decide +kernel
theorem s_ofH {X0 : zC0} {E : zCx} (H : ∀ j, j < 427 → CMj X0 j) (hE : zOk E X0 RX11 cX11_offer 5 (zrm 2 0 0)) {K : Nat → Nat} {B : Int} {L : List Nat} {f : Nat → va_E} (hh : hok X0.2.2.1 K B L f) {v0 v1 v2 v3 : Int} {r0 : Nat} (hb0 : 0 ≤ v0 ∧ v0 ≤ 1) (hb1 : 0 ≤ v1 ∧ v1 ≤ 99) (hb2 : 1 ≤ v2 ∧ v2 ≤ 99) (hb3 : 0 ≤ v3 ∧ v3 ≤ 9) (hr0 : r0 ∈ L ∧ K r0 = 197) (hm0 : (∀ b ∈ L, K b = 62 → gi (f b) 2 = v3)) (k58 : ∀ (K' : Nat → Nat) (B' : Int) (L' : List Nat) (f' : Nat → va_E) (r1 : Nat), hok X0.2.2.1 K' B' L' f' → extC [] K B L f K' B' L' f' → (0 ≤ v0 ∧ v0 ≤ 1) → (0 ≤ v1 ∧ v1 ≤ 99) → (1 ≤ v2 ∧ v2 ≤ 99) → (0 ≤ v3 ∧ v3 ≤ 9) → (r0 ∈ L' ∧ K' r0 = 197) → (r1 ∈ L' ∧ K' r1 = 62) → (∀ b ∈ L', K' b = 62 → gi (f' b) 2 = v3) → eW E 0 0 L' f' 58 [(0, .ref r0), (1, .int (Int32.ofInt v0)), (2, .int (Int32.ofInt v1)), (3, .int (Int32.ofInt v2)), (4, .ref r1)] [.int (Int32.ofInt v2), .int (Int32.ofInt v1), .int (Int32.ofInt v0), .ref r1]) : eW E 0 0 L f 0 [(0, .ref r0), (1, .int (Int32.ofInt v0)), (2, .int (Int32.ofInt v1)), (3, .int (Int32.ofInt v2))] [] := by
  obtain ⟨l0, D0, cy0, ax0⟩ := X0
  have hraw : eW E 0 0 L f 0 [(0, .ref r0), (1, .int (Int32.ofInt (0 + (1 * v0 + 0)))), (2, .int (Int32.ofInt (0 + (1 * v1 + 0)))), (3, .int (Int32.ofInt (0 + (1 * v2 + 0))))] [] := ?_
  · simpa only [Int.zero_add, Int.one_mul, Int.add_zero] using hraw
  have rm0 : (∀ b ∈ L, K b = 62 → gi (f b) 2 = (0 + (1 * v3 + 0))) := by simpa only [Int.zero_add, Int.one_mul, Int.add_zero] using hm0
  refine seg_ok (D := D_ofH) (νi := fun i => [v0, v1, v2, v3].getD i 0) (μi := fun i => [r0].getD i 0) k_ofH hE (mk_ok (ins := iX11_offer) jX11_offer fX11_ok lX11_ok kX11_ok kkX11_ok H) (by decide) rfl rfl rfl rfl hh ?_ ?_
  · refine ⟨(eok_of (fun i q hq => ?_) (fun i hi => ?_)), fa0, fa0, ?_, (fa_cons (Fmok hh (show (zkd 62).1 = 1 by decide) (j := 2) rfl (by decide) rm0) fa0), fa0, fa0⟩
    · match i, hq with
      | 0, hq => cases hq; exact hb0
      | 1, hq => cases hq; exact hb1
      | 2, hq => cases hq; exact hb2
      | 3, hq => cases hq; exact hb3
      | i + 4, hq => cases hq
    · match i, hi with
      | 0, hi => exact absurd hi (by decide)
      | 1, hi => exact absurd hi (by decide)
      | 2, hi => exact absurd hi (by decide)
      | 3, hi => exact absurd hi (by decide)
      | i + 4, _ => rfl
    · intro i k hk
      match i, hk with
      | 0, hk => cases hk; exact hr0
      | i + 1, hk => cases hk
  · intro q hq hst K' B' L' f' ν μ h1 h2 h3 h4 h5
    have e0 : ν 0 = v0 := h4 0 (by decide)
    have e1 : ν 1 = v1 := h4 1 (by decide)
    have e2 : ν 2 = v2 := h4 2 (by decide)
    have e3 : ν 3 = v3 := h4 3 (by decide)
    have d0 : μ 0 = r0 := h5 0 (by decide)
    subst e0
    subst e1
    subst e2
    subst e3
    subst d0
    replace hq : q ∈ u_ofH := hq
    unfold u_ofH at hq
    simp only [List.mem_cons, List.not_mem_nil, or_false] at hq
    rcases hq with rfl
    · have hst2 : eW E 0 0 L' f' 58 [(0, .ref (μ 0)), (1, .int (Int32.ofInt (0 + (1 * ν 0 + 0)))), (2, .int (Int32.ofInt (0 + (1 * ν 1 + 0)))), (3, .int (Int32.ofInt (0 + (1 * ν 2 + 0)))), (4, .ref (μ 1))] [.int (Int32.ofInt (0 + (1 * ν 2 + 0))), .int (Int32.ofInt (0 + (1 * ν 1 + 0))), .int (Int32.ofInt (0 + (1 * ν 0 + 0))), .ref (μ 1)] := ?_
      · exact hst2
      try simp only [Int.zero_add, Int.one_mul, Int.add_zero]
      exact k58 K' B' L' f'  (μ 1) h1 h2 (h3.1 0) (h3.1 1) (h3.1 2) (h3.1 3) (h3.2.2.2.1 0 197 rfl) (h3.2.2.2.1 1 62 rfl) (by simpa only [xv, xvT, Int.zero_add, Int.one_mul, Int.add_zero] using (mokF h1 (show (zkd 62).1 = 1 by decide) (j := 2) rfl (by decide) (h3.2.2.2.2.1 _ (List.mem_of_getElem? (i := 0) rfl))))

/-! ogA: from 0 to [13] -/
def w_ogA : TP := ([(0, (2, 0, (0, []))), (1, (0, 0, (0, [(1, 0)]))), (2, (0, 0, (0, [(1, 1)]))), (3, (0, 0, (0, [])))], [], ([(0, 1), ((-2147483648), 2147483647)], [], [], [200], [], [], []), [], [])
def u_ogA : List (Nat × TP × EX × Nat × Nat) := [(13, ([(0, (2, 0, (0, []))), (1, (0, 0, (0, [(1, 0)]))), (2, (0, 0, (0, [(1, 1)]))), (3, (0, 0, (0, [])))], [(0, 0, (0, []))], ([(0, 1), ((-2147483648), 2147483647)], [], [], [200], [((201, (12, [])), (0, []))], [], []), [], []), ((-1), []), 0, 0)]
def D_ogA : DT := (mkD iX12_offer fX12 lX12 kX12 kkX12 427 [] (w_ogA, [(201, 12)], [], 2, 0, 0, 3) false 5 u_ogA)
theorem k_ogA : chkS D_ogA 4000 0 0 0 = true := by decide +kernel
theorem s_ogA {X0 : zC0} {E : zCx} (H : ∀ j, j < 427 → CMj X0 j) (hE : zOk E X0 RX12 cX12_offer 5 (zrm 2 0 0)) {K : Nat → Nat} {B : Int} {L : List Nat} {f : Nat → va_E} (hh : hok X0.2.2.1 K B L f) {v0 v1 : Int} {r0 : Nat} (hb0 : 0 ≤ v0 ∧ v0 ≤ 1) (hb1 : (-2147483648) ≤ v1 ∧ v1 ≤ 2147483647) (hr0 : r0 ∈ L ∧ K r0 = 200) (k13 : ∀ (K' : Nat → Nat) (B' : Int) (L' : List Nat) (f' : Nat → va_E), hok X0.2.2.1 K' B' L' f' → extC [(201, 12)] K B L f K' B' L' f' → (0 ≤ v0 ∧ v0 ≤ 1) → ((-2147483648) ≤ v1 ∧ v1 ≤ 2147483647) → (r0 ∈ L' ∧ K' r0 = 200) → (∀ b ∈ L', K' b = 201 → (0 : Int) ≤ 12 ∧ gi (f' b) ((12 : Int)).toNat = 0) → eW E 0 0 L' f' 13 [(0, .ref r0), (1, .int (Int32.ofInt v0)), (2, .int (Int32.ofInt v1)), (3, .int (Int32.ofInt 0))] [.int (Int32.ofInt 0)]) : eW E 0 0 L f 0 [(0, .ref r0), (1, .int (Int32.ofInt v0)), (2, .int (Int32.ofInt v1)), (3, .int (Int32.ofInt 0))] [] := by
  obtain ⟨l0, D0, cy0, ax0⟩ := X0
  have hraw : eW E 0 0 L f 0 [(0, .ref r0), (1, .int (Int32.ofInt (0 + (1 * v0 + 0)))), (2, .int (Int32.ofInt (0 + (1 * v1 + 0)))), (3, .int (Int32.ofInt (0 + 0)))] [] := ?_
  · simpa only [Int.zero_add, Int.one_mul, Int.add_zero] using hraw
  refine seg_ok (D := D_ogA) (νi := fun i => [v0, v1].getD i 0) (μi := fun i => [r0].getD i 0) k_ogA hE (mk_ok (ins := iX12_offer) jX12_offer fX12_ok lX12_ok kX12_ok kkX12_ok H) (by decide) rfl rfl rfl rfl hh ?_ ?_
  · refine ⟨(eok_of (fun i q hq => ?_) (fun i hi => ?_)), fa0, fa0, ?_, fa0, fa0, fa0⟩
    · match i, hq with
      | 0, hq => cases hq; exact hb0
      | 1, hq => cases hq; exact hb1
      | i + 2, hq => cases hq
    · match i, hi with
      | 0, hi => exact absurd hi (by decide)
      | 1, hi => exact absurd hi (by decide)
      | i + 2, _ => rfl
    · intro i k hk
      match i, hk with
      | 0, hk => cases hk; exact hr0
      | i + 1, hk => cases hk
  · intro q hq hst K' B' L' f' ν μ h1 h2 h3 h4 h5
    have e0 : ν 0 = v0 := h4 0 (by decide)
    have e1 : ν 1 = v1 := h4 1 (by decide)
    have d0 : μ 0 = r0 := h5 0 (by decide)
    subst e0
    subst e1
    subst d0
    replace hq : q ∈ u_ogA := hq
    unfold u_ogA at hq
    simp only [List.mem_cons, List.not_mem_nil, or_false] at hq
    rcases hq with rfl
    · have hst2 : eW E 0 0 L' f' 13 [(0, .ref (μ 0)), (1, .int (Int32.ofInt (0 + (1 * ν 0 + 0)))), (2, .int (Int32.ofInt (0 + (1 * ν 1 + 0)))), (3, .int (Int32.ofInt (0 + 0)))] [.int (Int32.ofInt (0 + 0))] := ?_
      · exact hst2
      try simp only [Int.zero_add, Int.one_mul, Int.add_zero]
      exact k13 K' B' L' f'   h1 h2 (h3.1 0) (h3.1 1) (h3.2.2.2.1 0 200 rfl) (by simpa only [xv, xvT, Int.zero_add, Int.one_mul, Int.add_zero] using (mokA h1 (show (zkd 201).1 = 2 by decide) (by decide) (h3.2.2.2.2.1 _ (List.mem_of_getElem? (i := 0) rfl))))

/-! ogB: from 0 to [47] -/
def w_ogB : TP := ([(0, (2, 0, (0, []))), (1, (0, 0, (0, [(1, 0)]))), (2, (0, 0, (0, [(1, 1)]))), (3, (0, 0, (0, [(1, 2)])))], [], ([(0, 1), ((-2147483648), 2147483647), ((-2147483648), (-1))], [], [], [200], [], [], []), [], [])
def u_ogB : List (Nat × TP × EX × Nat × Nat) := [(47, ([(0, (2, 0, (0, []))), (1, (0, 0, (0, [(1, 0)]))), (2, (0, 0, (0, [(1, 1)]))), (3, (0, 0, (0, [(1, 2)])))], [(0, 0, ((-1), []))], ([(0, 1), ((-2147483648), 2147483647), ((-2147483648), (-1))], [], [], [200], [], [], []), [], []), ((-1), []), 0, 0)]
def D_ogB : DT := (mkD iX12_offer fX12 lX12 kX12 kkX12 427 [(18, [425]), (28, [426])] (w_ogB, [], [], 2, 0, 0, 3) false 5 u_ogB)
theorem k_ogB : chkS D_ogB 4000 0 0 0 = true := by decide +kernel
theorem s_ogB {X0 : zC0} {E : zCx} (H : ∀ j, j < 427 → CMj X0 j) (hE : zOk E X0 RX12 cX12_offer 5 (zrm 2 0 0)) {K : Nat → Nat} {B : Int} {L : List Nat} {f : Nat → va_E} (hh : hok X0.2.2.1 K B L f) {v0 v1 v2 : Int} {r0 : Nat} (hb0 : 0 ≤ v0 ∧ v0 ≤ 1) (hb1 : (-2147483648) ≤ v1 ∧ v1 ≤ 2147483647) (hb2 : (-2147483648) ≤ v2 ∧ v2 ≤ (-1)) (hr0 : r0 ∈ L ∧ K r0 = 200) (k47 : ∀ (K' : Nat → Nat) (B' : Int) (L' : List Nat) (f' : Nat → va_E), hok X0.2.2.1 K' B' L' f' → extC [] K B L f K' B' L' f' → (0 ≤ v0 ∧ v0 ≤ 1) → ((-2147483648) ≤ v1 ∧ v1 ≤ 2147483647) → ((-2147483648) ≤ v2 ∧ v2 ≤ (-1)) → (r0 ∈ L' ∧ K' r0 = 200) → eW E 0 0 L' f' 47 [(0, .ref r0), (1, .int (Int32.ofInt v0)), (2, .int (Int32.ofInt v1)), (3, .int (Int32.ofInt v2))] [.int (Int32.ofInt (-1))]) : eW E 0 0 L f 0 [(0, .ref r0), (1, .int (Int32.ofInt v0)), (2, .int (Int32.ofInt v1)), (3, .int (Int32.ofInt v2))] [] := by
  obtain ⟨l0, D0, cy0, ax0⟩ := X0
  have hraw : eW E 0 0 L f 0 [(0, .ref r0), (1, .int (Int32.ofInt (0 + (1 * v0 + 0)))), (2, .int (Int32.ofInt (0 + (1 * v1 + 0)))), (3, .int (Int32.ofInt (0 + (1 * v2 + 0))))] [] := ?_
  · simpa only [Int.zero_add, Int.one_mul, Int.add_zero] using hraw
  refine seg_ok (D := D_ogB) (νi := fun i => [v0, v1, v2].getD i 0) (μi := fun i => [r0].getD i 0) k_ogB hE (mk_ok (ins := iX12_offer) jX12_offer fX12_ok lX12_ok kX12_ok kkX12_ok H) (by decide) rfl rfl rfl rfl hh ?_ ?_
  · refine ⟨(eok_of (fun i q hq => ?_) (fun i hi => ?_)), fa0, fa0, ?_, fa0, fa0, fa0⟩
    · match i, hq with
      | 0, hq => cases hq; exact hb0
      | 1, hq => cases hq; exact hb1
      | 2, hq => cases hq; exact hb2
      | i + 3, hq => cases hq
    · match i, hi with
      | 0, hi => exact absurd hi (by decide)
      | 1, hi => exact absurd hi (by decide)
      | 2, hi => exact absurd hi (by decide)
      | i + 3, _ => rfl
    · intro i k hk
      match i, hk with
      | 0, hk => cases hk; exact hr0
      | i + 1, hk => cases hk
  · intro q hq hst K' B' L' f' ν μ h1 h2 h3 h4 h5
    have e0 : ν 0 = v0 := h4 0 (by decide)
    have e1 : ν 1 = v1 := h4 1 (by decide)
    have e2 : ν 2 = v2 := h4 2 (by decide)
    have d0 : μ 0 = r0 := h5 0 (by decide)
    subst e0
    subst e1
    subst e2
    subst d0
    replace hq : q ∈ u_ogB := hq
    unfold u_ogB at hq
    simp only [List.mem_cons, List.not_mem_nil, or_false] at hq
    rcases hq with rfl
    · have hst2 : eW E 0 0 L' f' 47 [(0, .ref (μ 0)), (1, .int (Int32.ofInt (0 + (1 * ν 0 + 0)))), (2, .int (Int32.ofInt (0 + (1 * ν 1 + 0)))), (3, .int (Int32.ofInt (0 + (1 * ν 2 + 0))))] [.int (Int32.ofInt ((-1) + 0))] := ?_
      · exact hst2
      try simp only [Int.zero_add, Int.one_mul, Int.add_zero]
      exact k47 K' B' L' f'   h1 h2 (h3.1 0) (h3.1 1) (h3.1 2) (h3.2.2.2.1 0 200 rfl)

/-! ogC: from 0 to [47] -/
def w_ogC : TP := ([(0, (2, 0, (0, []))), (1, (0, 0, (0, [(1, 0)]))), (2, (0, 0, (0, [(1, 1)]))), (3, (0, 0, (0, [(1, 2)])))], [], ([(0, 1), ((-2147483648), 2147483647), (100, 2147483647)], [], [], [200], [], [], []), [], [])
def u_ogC : List (Nat × TP × EX × Nat × Nat) := [(47, ([(0, (2, 0, (0, []))), (1, (0, 0, (0, [(1, 0)]))), (2, (0, 0, (0, [(1, 1)]))), (3, (0, 0, (0, [(1, 2)])))], [(0, 0, ((-1), []))], ([(0, 1), ((-2147483648), 2147483647), (100, 2147483647)], [], [], [200], [], [], []), [], []), ((-1), []), 0, 0)]
def D_ogC : DT := (mkD iX12_offer fX12 lX12 kX12 kkX12 427 [(18, [425]), (28, [426])] (w_ogC, [], [], 2, 0, 0, 3) false 5 u_ogC)
theorem k_ogC : chkS D_ogC 4000 0 0 0 = true := by decide +kernel
theorem s_ogC {X0 : zC0} {E : zCx} (H : ∀ j, j < 427 → CMj X0 j) (hE : zOk E X0 RX12 cX12_offer 5 (zrm 2 0 0)) {K : Nat → Nat} {B : Int} {L : List Nat} {f : Nat → va_E} (hh : hok X0.2.2.1 K B L f) {v0 v1 v2 : Int} {r0 : Nat} (hb0 : 0 ≤ v0 ∧ v0 ≤ 1) (hb1 : (-2147483648) ≤ v1 ∧ v1 ≤ 2147483647) (hb2 : 100 ≤ v2 ∧ v2 ≤ 2147483647) (hr0 : r0 ∈ L ∧ K r0 = 200) (k47 : ∀ (K' : Nat → Nat) (B' : Int) (L' : List Nat) (f' : Nat → va_E), hok X0.2.2.1 K' B' L' f' → extC [] K B L f K' B' L' f' → (0 ≤ v0 ∧ v0 ≤ 1) → ((-2147483648) ≤ v1 ∧ v1 ≤ 2147483647) → (100 ≤ v2 ∧ v2 ≤ 2147483647) → (r0 ∈ L' ∧ K' r0 = 200) → eW E 0 0 L' f' 47 [(0, .ref r0), (1, .int (Int32.ofInt v0)), (2, .int (Int32.ofInt v1)), (3, .int (Int32.ofInt v2))] [.int (Int32.ofInt (-1))]) : eW E 0 0 L f 0 [(0, .ref r0), (1, .int (Int32.ofInt v0)), (2, .int (Int32.ofInt v1)), (3, .int (Int32.ofInt v2))] [] := by
  obtain ⟨l0, D0, cy0, ax0⟩ := X0
  have hraw : eW E 0 0 L f 0 [(0, .ref r0), (1, .int (Int32.ofInt (0 + (1 * v0 + 0)))), (2, .int (Int32.ofInt (0 + (1 * v1 + 0)))), (3, .int (Int32.ofInt (0 + (1 * v2 + 0))))] [] := ?_
  · simpa only [Int.zero_add, Int.one_mul, Int.add_zero] using hraw
  refine seg_ok (D := D_ogC) (νi := fun i => [v0, v1, v2].getD i 0) (μi := fun i => [r0].getD i 0) k_ogC hE (mk_ok (ins := iX12_offer) jX12_offer fX12_ok lX12_ok kX12_ok kkX12_ok H) (by decide) rfl rfl rfl rfl hh ?_ ?_
  · refine ⟨(eok_of (fun i q hq => ?_) (fun i hi => ?_)), fa0, fa0, ?_, fa0, fa0, fa0⟩
    · match i, hq with
      | 0, hq => cases hq; exact hb0
      | 1, hq => cases hq; exact hb1
      | 2, hq => cases hq; exact hb2
      | i + 3, hq => cases hq
    · match i, hi with
      | 0, hi => exact absurd hi (by decide)
      | 1, hi => exact absurd hi (by decide)
      | 2, hi => exact absurd hi (by decide)
      | i + 3, _ => rfl
    · intro i k hk
      match i, hk with
      | 0, hk => cases hk; exact hr0
      | i + 1, hk => cases hk
  · intro q hq hst K' B' L' f' ν μ h1 h2 h3 h4 h5
    have e0 : ν 0 = v0 := h4 0 (by decide)
    have e1 : ν 1 = v1 := h4 1 (by decide)
    have e2 : ν 2 = v2 := h4 2 (by decide)
    have d0 : μ 0 = r0 := h5 0 (by decide)
    subst e0
    subst e1
    subst e2
    subst d0
    replace hq : q ∈ u_ogC := hq
    unfold u_ogC at hq
    simp only [List.mem_cons, List.not_mem_nil, or_false] at hq
    rcases hq with rfl
    · have hst2 : eW E 0 0 L' f' 47 [(0, .ref (μ 0)), (1, .int (Int32.ofInt (0 + (1 * ν 0 + 0)))), (2, .int (Int32.ofInt (0 + (1 * ν 1 + 0)))), (3, .int (Int32.ofInt (0 + (1 * ν 2 + 0))))] [.int (Int32.ofInt ((-1) + 0))] := ?_
      · exact hst2
      try simp only [Int.zero_add, Int.one_mul, Int.add_zero]
      exact k47 K' B' L' f'   h1 h2 (h3.1 0) (h3.1 1) (h3.1 2) (h3.2.2.2.1 0 200 rfl)

/-! ogD: from 0 to [47] -/
def w_ogD : TP := ([(0, (2, 0, (0, []))), (1, (0, 0, (0, [(1, 0)]))), (2, (0, 0, (0, [(1, 1)]))), (3, (0, 0, (0, [(1, 2)])))], [], ([(0, 1), ((-2147483648), (-1)), (1, 99)], [], [], [200], [], [], []), [], [])
def u_ogD : List (Nat × TP × EX × Nat × Nat) := [(47, ([(0, (2, 0, (0, []))), (1, (0, 0, (0, [(1, 0)]))), (2, (0, 0, (0, [(1, 1)]))), (3, (0, 0, (0, [(1, 2)])))], [(0, 0, ((-1), []))], ([(0, 1), ((-2147483648), (-1)), (1, 99)], [], [], [200], [], [], []), [], []), ((-1), []), 0, 0)]
def D_ogD : DT := (mkD iX12_offer fX12 lX12 kX12 kkX12 427 [(18, [425])] (w_ogD, [], [], 2, 0, 0, 3) false 5 u_ogD)
theorem k_ogD : chkS D_ogD 4000 0 0 0 = true := by decide +kernel
theorem s_ogD {X0 : zC0} {E : zCx} (H : ∀ j, j < 427 → CMj X0 j) (hE : zOk E X0 RX12 cX12_offer 5 (zrm 2 0 0)) {K : Nat → Nat} {B : Int} {L : List Nat} {f : Nat → va_E} (hh : hok X0.2.2.1 K B L f) {v0 v1 v2 : Int} {r0 : Nat} (hb0 : 0 ≤ v0 ∧ v0 ≤ 1) (hb1 : (-2147483648) ≤ v1 ∧ v1 ≤ (-1)) (hb2 : 1 ≤ v2 ∧ v2 ≤ 99) (hr0 : r0 ∈ L ∧ K r0 = 200) (k47 : ∀ (K' : Nat → Nat) (B' : Int) (L' : List Nat) (f' : Nat → va_E), hok X0.2.2.1 K' B' L' f' → extC [] K B L f K' B' L' f' → (0 ≤ v0 ∧ v0 ≤ 1) → ((-2147483648) ≤ v1 ∧ v1 ≤ (-1)) → (1 ≤ v2 ∧ v2 ≤ 99) → (r0 ∈ L' ∧ K' r0 = 200) → eW E 0 0 L' f' 47 [(0, .ref r0), (1, .int (Int32.ofInt v0)), (2, .int (Int32.ofInt v1)), (3, .int (Int32.ofInt v2))] [.int (Int32.ofInt (-1))]) : eW E 0 0 L f 0 [(0, .ref r0), (1, .int (Int32.ofInt v0)), (2, .int (Int32.ofInt v1)), (3, .int (Int32.ofInt v2))] [] := by
  obtain ⟨l0, D0, cy0, ax0⟩ := X0
  have hraw : eW E 0 0 L f 0 [(0, .ref r0), (1, .int (Int32.ofInt (0 + (1 * v0 + 0)))), (2, .int (Int32.ofInt (0 + (1 * v1 + 0)))), (3, .int (Int32.ofInt (0 + (1 * v2 + 0))))] [] := ?_
  · simpa only [Int.zero_add, Int.one_mul, Int.add_zero] using hraw
  refine seg_ok (D := D_ogD) (νi := fun i => [v0, v1, v2].getD i 0) (μi := fun i => [r0].getD i 0) k_ogD hE (mk_ok (ins := iX12_offer) jX12_offer fX12_ok lX12_ok kX12_ok kkX12_ok H) (by decide) rfl rfl rfl rfl hh ?_ ?_
  · refine ⟨(eok_of (fun i q hq => ?_) (fun i hi => ?_)), fa0, fa0, ?_, fa0, fa0, fa0⟩
    · match i, hq with
      | 0, hq => cases hq; exact hb0
      | 1, hq => cases hq; exact hb1
      | 2, hq => cases hq; exact hb2
      | i + 3, hq => cases hq
    · match i, hi with
      | 0, hi => exact absurd hi (by decide)
      | 1, hi => exact absurd hi (by decide)
      | 2, hi => exact absurd hi (by decide)
      | i + 3, _ => rfl
    · intro i k hk
      match i, hk with
      | 0, hk => cases hk; exact hr0
      | i + 1, hk => cases hk
  · intro q hq hst K' B' L' f' ν μ h1 h2 h3 h4 h5
    have e0 : ν 0 = v0 := h4 0 (by decide)
    have e1 : ν 1 = v1 := h4 1 (by decide)
    have e2 : ν 2 = v2 := h4 2 (by decide)
    have d0 : μ 0 = r0 := h5 0 (by decide)
    subst e0
    subst e1
    subst e2
    subst d0
    replace hq : q ∈ u_ogD := hq
    unfold u_ogD at hq
    simp only [List.mem_cons, List.not_mem_nil, or_false] at hq
    rcases hq with rfl
    · have hst2 : eW E 0 0 L' f' 47 [(0, .ref (μ 0)), (1, .int (Int32.ofInt (0 + (1 * ν 0 + 0)))), (2, .int (Int32.ofInt (0 + (1 * ν 1 + 0)))), (3, .int (Int32.ofInt (0 + (1 * ν 2 + 0))))] [.int (Int32.ofInt ((-1) + 0))] := ?_
      · exact hst2
      try simp only [Int.zero_add, Int.one_mul, Int.add_zero]
      exact k47 K' B' L' f'   h1 h2 (h3.1 0) (h3.1 1) (h3.1 2) (h3.2.2.2.1 0 200 rfl)

/-! ogE: from 0 to [47] -/
def w_ogE : TP := ([(0, (2, 0, (0, []))), (1, (0, 0, (0, [(1, 0)]))), (2, (0, 0, (0, [(1, 1)]))), (3, (0, 0, (0, [(1, 2)])))], [], ([(0, 1), (100, 2147483647), (1, 99)], [], [], [200], [], [], []), [], [])
def u_ogE : List (Nat × TP × EX × Nat × Nat) := [(47, ([(0, (2, 0, (0, []))), (1, (0, 0, (0, [(1, 0)]))), (2, (0, 0, (0, [(1, 1)]))), (3, (0, 0, (0, [(1, 2)])))], [(0, 0, ((-1), []))], ([(0, 1), (100, 2147483647), (1, 99)], [], [], [200], [], [], []), [], []), ((-1), []), 0, 0)]
def D_ogE : DT := (mkD iX12_offer fX12 lX12 kX12 kkX12 427 [(18, [425])] (w_ogE, [], [], 2, 0, 0, 3) false 5 u_ogE)
theorem k_ogE : chkS D_ogE 4000 0 0 0 = true := by decide +kernel
theorem s_ogE {X0 : zC0} {E : zCx} (H : ∀ j, j < 427 → CMj X0 j) (hE : zOk E X0 RX12 cX12_offer 5 (zrm 2 0 0)) {K : Nat → Nat} {B : Int} {L : List Nat} {f : Nat → va_E} (hh : hok X0.2.2.1 K B L f) {v0 v1 v2 : Int} {r0 : Nat} (hb0 : 0 ≤ v0 ∧ v0 ≤ 1) (hb1 : 100 ≤ v1 ∧ v1 ≤ 2147483647) (hb2 : 1 ≤ v2 ∧ v2 ≤ 99) (hr0 : r0 ∈ L ∧ K r0 = 200) (k47 : ∀ (K' : Nat → Nat) (B' : Int) (L' : List Nat) (f' : Nat → va_E), hok X0.2.2.1 K' B' L' f' → extC [] K B L f K' B' L' f' → (0 ≤ v0 ∧ v0 ≤ 1) → (100 ≤ v1 ∧ v1 ≤ 2147483647) → (1 ≤ v2 ∧ v2 ≤ 99) → (r0 ∈ L' ∧ K' r0 = 200) → eW E 0 0 L' f' 47 [(0, .ref r0), (1, .int (Int32.ofInt v0)), (2, .int (Int32.ofInt v1)), (3, .int (Int32.ofInt v2))] [.int (Int32.ofInt (-1))]) : eW E 0 0 L f 0 [(0, .ref r0), (1, .int (Int32.ofInt v0)), (2, .int (Int32.ofInt v1)), (3, .int (Int32.ofInt v2))] [] := by
  obtain ⟨l0, D0, cy0, ax0⟩ := X0
  have hraw : eW E 0 0 L f 0 [(0, .ref r0), (1, .int (Int32.ofInt (0 + (1 * v0 + 0)))), (2, .int (Int32.ofInt (0 + (1 * v1 + 0)))), (3, .int (Int32.ofInt (0 + (1 * v2 + 0))))] [] := ?_
  · simpa only [Int.zero_add, Int.one_mul, Int.add_zero] using hraw
  refine seg_ok (D := D_ogE) (νi := fun i => [v0, v1, v2].getD i 0) (μi := fun i => [r0].getD i 0) k_ogE hE (mk_ok (ins := iX12_offer) jX12_offer fX12_ok lX12_ok kX12_ok kkX12_ok H) (by decide) rfl rfl rfl rfl hh ?_ ?_
  · refine ⟨(eok_of (fun i q hq => ?_) (fun i hi => ?_)), fa0, fa0, ?_, fa0, fa0, fa0⟩
    · match i, hq with
      | 0, hq => cases hq; exact hb0
      | 1, hq => cases hq; exact hb1
      | 2, hq => cases hq; exact hb2
      | i + 3, hq => cases hq
    · match i, hi with
      | 0, hi => exact absurd hi (by decide)
      | 1, hi => exact absurd hi (by decide)
      | 2, hi => exact absurd hi (by decide)
      | i + 3, _ => rfl
    · intro i k hk
      match i, hk with
      | 0, hk => cases hk; exact hr0
      | i + 1, hk => cases hk
  · intro q hq hst K' B' L' f' ν μ h1 h2 h3 h4 h5
    have e0 : ν 0 = v0 := h4 0 (by decide)
    have e1 : ν 1 = v1 := h4 1 (by decide)
    have e2 : ν 2 = v2 := h4 2 (by decide)
    have d0 : μ 0 = r0 := h5 0 (by decide)
    subst e0
    subst e1
    subst e2
    subst d0
    replace hq : q ∈ u_ogE := hq
    unfold u_ogE at hq
    simp only [List.mem_cons, List.not_mem_nil, or_false] at hq
    rcases hq with rfl
    · have hst2 : eW E 0 0 L' f' 47 [(0, .ref (μ 0)), (1, .int (Int32.ofInt (0 + (1 * ν 0 + 0)))), (2, .int (Int32.ofInt (0 + (1 * ν 1 + 0)))), (3, .int (Int32.ofInt (0 + (1 * ν 2 + 0))))] [.int (Int32.ofInt ((-1) + 0))] := ?_
      · exact hst2
      try simp only [Int.zero_add, Int.one_mul, Int.add_zero]
      exact k47 K' B' L' f'   h1 h2 (h3.1 0) (h3.1 1) (h3.1 2) (h3.2.2.2.1 0 200 rfl)

/-! ogG: from 0 to [47] -/
def w_ogG : TP := ([(0, (2, 0, (0, []))), (1, (0, 0, (0, [(1, 0)]))), (2, (0, 0, (0, [(1, 1)]))), (3, (0, 0, (0, [(1, 2)])))], [], ([(0, 1), (0, 99), (1, 99)], [], [], [200], [((201, (12, [])), (10, []))], [], []), [], [])
def u_ogG : List (Nat × TP × EX × Nat × Nat) := [(47, ([(0, (2, 0, (0, []))), (1, (0, 0, (0, [(1, 0)]))), (2, (0, 0, (0, [(1, 1)]))), (3, (0, 0, (0, [(1, 2)])))], [(0, 0, ((-1), []))], ([(0, 1), (0, 99), (1, 99)], [], [], [200], [((201, (12, [])), (10, []))], [], []), [], []), ((-1), []), 0, 0)]
def D_ogG : DT := (mkD iX12_offer fX12 lX12 kX12 kkX12 427 [(18, [425]), (28, [426])] (w_ogG, [], [], 2, 0, 0, 3) false 5 u_ogG)
theorem k_ogG : chkS D_ogG 4000 0 0 0 = true := by decide +kernel
theorem s_ogG {X0 : zC0} {E : zCx} (H : ∀ j, j < 427 → CMj X0 j) (hE : zOk E X0 RX12 cX12_offer 5 (zrm 2 0 0)) {K : Nat → Nat} {B : Int} {L : List Nat} {f : Nat → va_E} (hh : hok X0.2.2.1 K B L f) {v0 v1 v2 : Int} {r0 : Nat} (hb0 : 0 ≤ v0 ∧ v0 ≤ 1) (hb1 : 0 ≤ v1 ∧ v1 ≤ 99) (hb2 : 1 ≤ v2 ∧ v2 ≤ 99) (hr0 : r0 ∈ L ∧ K r0 = 200) (hm0 : (∀ b ∈ L, K b = 201 → (0 : Int) ≤ 12 ∧ gi (f b) ((12 : Int)).toNat = 10)) (k47 : ∀ (K' : Nat → Nat) (B' : Int) (L' : List Nat) (f' : Nat → va_E), hok X0.2.2.1 K' B' L' f' → extC [] K B L f K' B' L' f' → (0 ≤ v0 ∧ v0 ≤ 1) → (0 ≤ v1 ∧ v1 ≤ 99) → (1 ≤ v2 ∧ v2 ≤ 99) → (r0 ∈ L' ∧ K' r0 = 200) → (∀ b ∈ L', K' b = 201 → (0 : Int) ≤ 12 ∧ gi (f' b) ((12 : Int)).toNat = 10) → eW E 0 0 L' f' 47 [(0, .ref r0), (1, .int (Int32.ofInt v0)), (2, .int (Int32.ofInt v1)), (3, .int (Int32.ofInt v2))] [.int (Int32.ofInt (-1))]) : eW E 0 0 L f 0 [(0, .ref r0), (1, .int (Int32.ofInt v0)), (2, .int (Int32.ofInt v1)), (3, .int (Int32.ofInt v2))] [] := by
  obtain ⟨l0, D0, cy0, ax0⟩ := X0
  have hraw : eW E 0 0 L f 0 [(0, .ref r0), (1, .int (Int32.ofInt (0 + (1 * v0 + 0)))), (2, .int (Int32.ofInt (0 + (1 * v1 + 0)))), (3, .int (Int32.ofInt (0 + (1 * v2 + 0))))] [] := ?_
  · simpa only [Int.zero_add, Int.one_mul, Int.add_zero] using hraw
  have rm0 : (∀ b ∈ L, K b = 201 → (0 : Int) ≤ (12 + 0) ∧ gi (f b) (((12 + 0) : Int)).toNat = (10 + 0)) := by simpa only [Int.zero_add, Int.one_mul, Int.add_zero] using hm0
  refine seg_ok (D := D_ogG) (νi := fun i => [v0, v1, v2].getD i 0) (μi := fun i => [r0].getD i 0) k_ogG hE (mk_ok (ins := iX12_offer) jX12_offer fX12_ok lX12_ok kX12_ok kkX12_ok H) (by decide) rfl rfl rfl rfl hh ?_ ?_
  · refine ⟨(eok_of (fun i q hq => ?_) (fun i hi => ?_)), fa0, fa0, ?_, (fa_cons (Amok hh (show (zkd 201).1 = 2 by decide) (by decide) rm0) fa0), fa0, fa0⟩
    · match i, hq with
      | 0, hq => cases hq; exact hb0
      | 1, hq => cases hq; exact hb1
      | 2, hq => cases hq; exact hb2
      | i + 3, hq => cases hq
    · match i, hi with
      | 0, hi => exact absurd hi (by decide)
      | 1, hi => exact absurd hi (by decide)
      | 2, hi => exact absurd hi (by decide)
      | i + 3, _ => rfl
    · intro i k hk
      match i, hk with
      | 0, hk => cases hk; exact hr0
      | i + 1, hk => cases hk
  · intro q hq hst K' B' L' f' ν μ h1 h2 h3 h4 h5
    have e0 : ν 0 = v0 := h4 0 (by decide)
    have e1 : ν 1 = v1 := h4 1 (by decide)
    have e2 : ν 2 = v2 := h4 2 (by decide)
    have d0 : μ 0 = r0 := h5 0 (by decide)
    subst e0
    subst e1
    subst e2
    subst d0
    replace hq : q ∈ u_ogG := hq
    unfold u_ogG at hq
    simp only [List.mem_cons, List.not_mem_nil, or_false] at hq
    rcases hq with rfl
    · have hst2 : eW E 0 0 L' f' 47 [(0, .ref (μ 0)), (1, .int (Int32.ofInt (0 + (1 * ν 0 + 0)))), (2, .int (Int32.ofInt (0 + (1 * ν 1 + 0)))), (3, .int (Int32.ofInt (0 + (1 * ν 2 + 0))))] [.int (Int32.ofInt ((-1) + 0))] := ?_
      · exact hst2
      try simp only [Int.zero_add, Int.one_mul, Int.add_zero]
      exact k47 K' B' L' f'   h1 h2 (h3.1 0) (h3.1 1) (h3.1 2) (h3.2.2.2.1 0 200 rfl) (by simpa only [xv, xvT, Int.zero_add, Int.one_mul, Int.add_zero] using (mokA h1 (show (zkd 201).1 = 2 by decide) (by decide) (h3.2.2.2.2.1 _ (List.mem_of_getElem? (i := 0) rfl))))

/-! ogH0: from 0 to [78] -/
def w_ogH0 : TP := ([(0, (2, 0, (0, []))), (1, (0, 0, (0, []))), (2, (0, 0, (0, [(1, 0)]))), (3, (0, 0, (0, [(1, 1)])))], [], ([(0, 99), (1, 99), (0, 9)], [], [], [200], [((201, (12, [])), (0, [(1, 2)]))], [], []), [], [])
def u_ogH0 : List (Nat × TP × EX × Nat × Nat) := [(78, ([(0, (2, 0, (0, []))), (1, (0, 0, (0, []))), (2, (0, 0, (0, [(1, 0)]))), (3, (0, 0, (0, [(1, 1)]))), (4, (0, 0, (156, [(3, 2)])))], [(0, 0, (0, [])), (0, 0, (156, [(3, 2)])), (2, 1, (0, []))], ([(0, 99), (1, 99), (0, 9)], [], [], [200, 201], [((201, (12, [])), (0, [(1, 2)]))], [], []), [], [(1, 2)]), ((-1), []), 0, 0)]
def D_ogH0 : DT := (mkD iX12_offer fX12 lX12 kX12 kkX12 427 [(18, [425]), (28, [426])] (w_ogH0, [], [], 2, 0, 0, 3) false 5 u_ogH0)
theorem k_ogH0 : chkS D_ogH0 4000 0 0 0 = true := by decide +kernel
theorem s_ogH0 {X0 : zC0} {E : zCx} (H : ∀ j, j < 427 → CMj X0 j) (hE : zOk E X0 RX12 cX12_offer 5 (zrm 2 0 0)) {K : Nat → Nat} {B : Int} {L : List Nat} {f : Nat → va_E} (hh : hok X0.2.2.1 K B L f) {v0 v1 v2 : Int} {r0 : Nat} (hb0 : 0 ≤ v0 ∧ v0 ≤ 99) (hb1 : 1 ≤ v1 ∧ v1 ≤ 99) (hb2 : 0 ≤ v2 ∧ v2 ≤ 9) (hr0 : r0 ∈ L ∧ K r0 = 200) (hm0 : (∀ b ∈ L, K b = 201 → (0 : Int) ≤ 12 ∧ gi (f b) ((12 : Int)).toNat = v2)) (k78 : ∀ (K' : Nat → Nat) (B' : Int) (L' : List Nat) (f' : Nat → va_E) (r1 : Nat), hok X0.2.2.1 K' B' L' f' → extC [] K B L f K' B' L' f' → (0 ≤ v0 ∧ v0 ≤ 99) → (1 ≤ v1 ∧ v1 ≤ 99) → (0 ≤ v2 ∧ v2 ≤ 9) → (r0 ∈ L' ∧ K' r0 = 200) → (r1 ∈ L' ∧ K' r1 = 201) → (∀ b ∈ L', K' b = 201 → (0 : Int) ≤ 12 ∧ gi (f' b) ((12 : Int)).toNat = v2) → eW E 0 0 L' f' 78 [(0, .ref r0), (1, .int (Int32.ofInt 0)), (2, .int (Int32.ofInt v0)), (3, .int (Int32.ofInt v1)), (4, .int (Int32.ofInt (156 + (3 * v2))))] [.int (Int32.ofInt 0), .int (Int32.ofInt (156 + (3 * v2))), .ref r1]) : eW E 0 0 L f 0 [(0, .ref r0), (1, .int (Int32.ofInt 0)), (2, .int (Int32.ofInt v0)), (3, .int (Int32.ofInt v1))] [] := by
  obtain ⟨l0, D0, cy0, ax0⟩ := X0
  have hraw : eW E 0 0 L f 0 [(0, .ref r0), (1, .int (Int32.ofInt (0 + 0))), (2, .int (Int32.ofInt (0 + (1 * v0 + 0)))), (3, .int (Int32.ofInt (0 + (1 * v1 + 0))))] [] := ?_
  · simpa only [Int.zero_add, Int.one_mul, Int.add_zero] using hraw
  have rm0 : (∀ b ∈ L, K b = 201 → (0 : Int) ≤ (12 + 0) ∧ gi (f b) (((12 + 0) : Int)).toNat = (0 + (1 * v2 + 0))) := by simpa only [Int.zero_add, Int.one_mul, Int.add_zero] using hm0
  refine seg_ok (D := D_ogH0) (νi := fun i => [v0, v1, v2].getD i 0) (μi := fun i => [r0].getD i 0) k_ogH0 hE (mk_ok (ins := iX12_offer) jX12_offer fX12_ok lX12_ok kX12_ok kkX12_ok H) (by decide) rfl rfl rfl rfl hh ?_ ?_
  · refine ⟨(eok_of (fun i q hq => ?_) (fun i hi => ?_)), fa0, fa0, ?_, (fa_cons (Amok hh (show (zkd 201).1 = 2 by decide) (by decide) rm0) fa0), fa0, fa0⟩
    · match i, hq with
      | 0, hq => cases hq; exact hb0
      | 1, hq => cases hq; exact hb1
      | 2, hq => cases hq; exact hb2
      | i + 3, hq => cases hq
    · match i, hi with
      | 0, hi => exact absurd hi (by decide)
      | 1, hi => exact absurd hi (by decide)
      | 2, hi => exact absurd hi (by decide)
      | i + 3, _ => rfl
    · intro i k hk
      match i, hk with
      | 0, hk => cases hk; exact hr0
      | i + 1, hk => cases hk
  · intro q hq hst K' B' L' f' ν μ h1 h2 h3 h4 h5
    have e0 : ν 0 = v0 := h4 0 (by decide)
    have e1 : ν 1 = v1 := h4 1 (by decide)
    have e2 : ν 2 = v2 := h4 2 (by decide)
    have d0 : μ 0 = r0 := h5 0 (by decide)
    subst e0
    subst e1
    subst e2
    subst d0
    replace hq : q ∈ u_ogH0 := hq
    unfold u_ogH0 at hq
    simp only [List.mem_cons, List.not_mem_nil, or_false] at hq
    rcases hq with rfl
    · have hst2 : eW E 0 0 L' f' 78 [(0, .ref (μ 0)), (1, .int (Int32.ofInt (0 + 0))), (2, .int (Int32.ofInt (0 + (1 * ν 0 + 0)))), (3, .int (Int32.ofInt (0 + (1 * ν 1 + 0)))), (4, .int (Int32.ofInt (156 + (3 * ν 2 + 0))))] [.int (Int32.ofInt (0 + 0)), .int (Int32.ofInt (156 + (3 * ν 2 + 0))), .ref (μ 1)] := ?_
      · exact hst2
      try simp only [Int.zero_add, Int.one_mul, Int.add_zero]
      exact k78 K' B' L' f'  (μ 1) h1 h2 (h3.1 0) (h3.1 1) (h3.1 2) (h3.2.2.2.1 0 200 rfl) (h3.2.2.2.1 1 201 rfl) (by simpa only [xv, xvT, Int.zero_add, Int.one_mul, Int.add_zero] using (mokA h1 (show (zkd 201).1 = 2 by decide) (by decide) (h3.2.2.2.2.1 _ (List.mem_of_getElem? (i := 0) rfl))))

/-! ogH1: from 0 to [78] -/
def w_ogH1 : TP := ([(0, (2, 0, (0, []))), (1, (0, 0, (1, []))), (2, (0, 0, (0, [(1, 0)]))), (3, (0, 0, (0, [(1, 1)])))], [], ([(0, 99), (1, 99), (0, 9)], [], [], [200], [((201, (12, [])), (0, [(1, 2)]))], [], []), [], [])
def u_ogH1 : List (Nat × TP × EX × Nat × Nat) := [(78, ([(0, (2, 0, (0, []))), (1, (0, 0, (1, []))), (2, (0, 0, (0, [(1, 0)]))), (3, (0, 0, (0, [(1, 1)]))), (4, (0, 0, (156, [(3, 2)])))], [(0, 0, (1, [])), (0, 0, (156, [(3, 2)])), (2, 1, (0, []))], ([(0, 99), (1, 99), (0, 9)], [], [], [200, 201], [((201, (12, [])), (0, [(1, 2)]))], [], []), [], [(1, 2)]), ((-1), []), 0, 0)]
def D_ogH1 : DT := (mkD iX12_offer fX12 lX12 kX12 kkX12 427 [(18, [425]), (28, [426])] (w_ogH1, [], [], 2, 0, 0, 3) false 5 u_ogH1)
theorem k_ogH1 : chkS D_ogH1 4000 0 0 0 = true := by decide +kernel
theorem s_ogH1 {X0 : zC0} {E : zCx} (H : ∀ j, j < 427 → CMj X0 j) (hE : zOk E X0 RX12 cX12_offer 5 (zrm 2 0 0)) {K : Nat → Nat} {B : Int} {L : List Nat} {f : Nat → va_E} (hh : hok X0.2.2.1 K B L f) {v0 v1 v2 : Int} {r0 : Nat} (hb0 : 0 ≤ v0 ∧ v0 ≤ 99) (hb1 : 1 ≤ v1 ∧ v1 ≤ 99) (hb2 : 0 ≤ v2 ∧ v2 ≤ 9) (hr0 : r0 ∈ L ∧ K r0 = 200) (hm0 : (∀ b ∈ L, K b = 201 → (0 : Int) ≤ 12 ∧ gi (f b) ((12 : Int)).toNat = v2)) (k78 : ∀ (K' : Nat → Nat) (B' : Int) (L' : List Nat) (f' : Nat → va_E) (r1 : Nat), hok X0.2.2.1 K' B' L' f' → extC [] K B L f K' B' L' f' → (0 ≤ v0 ∧ v0 ≤ 99) → (1 ≤ v1 ∧ v1 ≤ 99) → (0 ≤ v2 ∧ v2 ≤ 9) → (r0 ∈ L' ∧ K' r0 = 200) → (r1 ∈ L' ∧ K' r1 = 201) → (∀ b ∈ L', K' b = 201 → (0 : Int) ≤ 12 ∧ gi (f' b) ((12 : Int)).toNat = v2) → eW E 0 0 L' f' 78 [(0, .ref r0), (1, .int (Int32.ofInt 1)), (2, .int (Int32.ofInt v0)), (3, .int (Int32.ofInt v1)), (4, .int (Int32.ofInt (156 + (3 * v2))))] [.int (Int32.ofInt 1), .int (Int32.ofInt (156 + (3 * v2))), .ref r1]) : eW E 0 0 L f 0 [(0, .ref r0), (1, .int (Int32.ofInt 1)), (2, .int (Int32.ofInt v0)), (3, .int (Int32.ofInt v1))] [] := by
  obtain ⟨l0, D0, cy0, ax0⟩ := X0
  have hraw : eW E 0 0 L f 0 [(0, .ref r0), (1, .int (Int32.ofInt (1 + 0))), (2, .int (Int32.ofInt (0 + (1 * v0 + 0)))), (3, .int (Int32.ofInt (0 + (1 * v1 + 0))))] [] := ?_
  · simpa only [Int.zero_add, Int.one_mul, Int.add_zero] using hraw
  have rm0 : (∀ b ∈ L, K b = 201 → (0 : Int) ≤ (12 + 0) ∧ gi (f b) (((12 + 0) : Int)).toNat = (0 + (1 * v2 + 0))) := by simpa only [Int.zero_add, Int.one_mul, Int.add_zero] using hm0
  refine seg_ok (D := D_ogH1) (νi := fun i => [v0, v1, v2].getD i 0) (μi := fun i => [r0].getD i 0) k_ogH1 hE (mk_ok (ins := iX12_offer) jX12_offer fX12_ok lX12_ok kX12_ok kkX12_ok H) (by decide) rfl rfl rfl rfl hh ?_ ?_
  · refine ⟨(eok_of (fun i q hq => ?_) (fun i hi => ?_)), fa0, fa0, ?_, (fa_cons (Amok hh (show (zkd 201).1 = 2 by decide) (by decide) rm0) fa0), fa0, fa0⟩
    · match i, hq with
      | 0, hq => cases hq; exact hb0
      | 1, hq => cases hq; exact hb1
      | 2, hq => cases hq; exact hb2
      | i + 3, hq => cases hq
    · match i, hi with
      | 0, hi => exact absurd hi (by decide)
      | 1, hi => exact absurd hi (by decide)
      | 2, hi => exact absurd hi (by decide)
      | i + 3, _ => rfl
    · intro i k hk
      match i, hk with
      | 0, hk => cases hk; exact hr0
      | i + 1, hk => cases hk
  · intro q hq hst K' B' L' f' ν μ h1 h2 h3 h4 h5
    have e0 : ν 0 = v0 := h4 0 (by decide)
    have e1 : ν 1 = v1 := h4 1 (by decide)
    have e2 : ν 2 = v2 := h4 2 (by decide)
    have d0 : μ 0 = r0 := h5 0 (by decide)
    subst e0
    subst e1
    subst e2
    subst d0
    replace hq : q ∈ u_ogH1 := hq
    unfold u_ogH1 at hq
    simp only [List.mem_cons, List.not_mem_nil, or_false] at hq
    rcases hq with rfl
    · have hst2 : eW E 0 0 L' f' 78 [(0, .ref (μ 0)), (1, .int (Int32.ofInt (1 + 0))), (2, .int (Int32.ofInt (0 + (1 * ν 0 + 0)))), (3, .int (Int32.ofInt (0 + (1 * ν 1 + 0)))), (4, .int (Int32.ofInt (156 + (3 * ν 2 + 0))))] [.int (Int32.ofInt (1 + 0)), .int (Int32.ofInt (156 + (3 * ν 2 + 0))), .ref (μ 1)] := ?_
      · exact hst2
      try simp only [Int.zero_add, Int.one_mul, Int.add_zero]
      exact k78 K' B' L' f'  (μ 1) h1 h2 (h3.1 0) (h3.1 1) (h3.1 2) (h3.2.2.2.1 0 200 rfl) (h3.2.2.2.1 1 201 rfl) (by simpa only [xv, xvT, Int.zero_add, Int.one_mul, Int.add_zero] using (mokA h1 (show (zkd 201).1 = 2 by decide) (by decide) (h3.2.2.2.2.1 _ (List.mem_of_getElem? (i := 0) rfl))))

/-! og79: from 79 to [88] -/
def w_og79 : TP := ([(0, (2, 0, (0, []))), (1, (0, 0, (0, [(1, 0)]))), (2, (0, 0, (0, [(1, 1)]))), (3, (0, 0, (0, [(1, 2)]))), (4, (0, 0, (0, [(1, 3)])))], [], ([(0, 1), (0, 99), (1, 99), (156, 183)], [], [], [200], [], [], []), [], [])
def u_og79 : List (Nat × TP × EX × Nat × Nat) := [(88, ([(0, (2, 0, (0, []))), (1, (0, 0, (0, [(1, 0)]))), (2, (0, 0, (0, [(1, 1)]))), (3, (0, 0, (0, [(1, 2)]))), (4, (0, 0, (0, [(1, 3)])))], [(0, 0, (0, [(1, 1)])), (0, 0, (1, [(1, 3)])), (2, 1, (0, []))], ([(0, 1), (0, 99), (1, 99), (156, 183)], [], [], [200, 201], [], [], []), [], [(1, 2)]), ((-1), []), 0, 0)]
def D_og79 : DT := (mkD iX12_offer fX12 lX12 kX12 kkX12 427 [] (w_og79, [], [], 2, 0, 0, 3) false 5 u_og79)
theorem k_og79 : chkS D_og79 4000 0 0 79 = true := by decide +kernel
theorem s_og79 {X0 : zC0} {E : zCx} (H : ∀ j, j < 427 → CMj X0 j) (hE : zOk E X0 RX12 cX12_offer 5 (zrm 2 0 0)) {K : Nat → Nat} {B : Int} {L : List Nat} {f : Nat → va_E} (hh : hok X0.2.2.1 K B L f) {v0 v1 v2 v3 : Int} {r0 : Nat} (hb0 : 0 ≤ v0 ∧ v0 ≤ 1) (hb1 : 0 ≤ v1 ∧ v1 ≤ 99) (hb2 : 1 ≤ v2 ∧ v2 ≤ 99) (hb3 : 156 ≤ v3 ∧ v3 ≤ 183) (hr0 : r0 ∈ L ∧ K r0 = 200) (k88 : ∀ (K' : Nat → Nat) (B' : Int) (L' : List Nat) (f' : Nat → va_E) (r1 : Nat), hok X0.2.2.1 K' B' L' f' → extC [] K B L f K' B' L' f' → (0 ≤ v0 ∧ v0 ≤ 1) → (0 ≤ v1 ∧ v1 ≤ 99) → (1 ≤ v2 ∧ v2 ≤ 99) → (156 ≤ v3 ∧ v3 ≤ 183) → (r0 ∈ L' ∧ K' r0 = 200) → (r1 ∈ L' ∧ K' r1 = 201) → eW E 0 0 L' f' 88 [(0, .ref r0), (1, .int (Int32.ofInt v0)), (2, .int (Int32.ofInt v1)), (3, .int (Int32.ofInt v2)), (4, .int (Int32.ofInt v3))] [.int (Int32.ofInt v1), .int (Int32.ofInt (1 + v3)), .ref r1]) : eW E 0 0 L f 79 [(0, .ref r0), (1, .int (Int32.ofInt v0)), (2, .int (Int32.ofInt v1)), (3, .int (Int32.ofInt v2)), (4, .int (Int32.ofInt v3))] [] := by
  obtain ⟨l0, D0, cy0, ax0⟩ := X0
  have hraw : eW E 0 0 L f 79 [(0, .ref r0), (1, .int (Int32.ofInt (0 + (1 * v0 + 0)))), (2, .int (Int32.ofInt (0 + (1 * v1 + 0)))), (3, .int (Int32.ofInt (0 + (1 * v2 + 0)))), (4, .int (Int32.ofInt (0 + (1 * v3 + 0))))] [] := ?_
  · simpa only [Int.zero_add, Int.one_mul, Int.add_zero] using hraw
  refine seg_ok (D := D_og79) (νi := fun i => [v0, v1, v2, v3].getD i 0) (μi := fun i => [r0].getD i 0) k_og79 hE (mk_ok (ins := iX12_offer) jX12_offer fX12_ok lX12_ok kX12_ok kkX12_ok H) (by decide) rfl rfl rfl rfl hh ?_ ?_
  · refine ⟨(eok_of (fun i q hq => ?_) (fun i hi => ?_)), fa0, fa0, ?_, fa0, fa0, fa0⟩
    · match i, hq with
      | 0, hq => cases hq; exact hb0
      | 1, hq => cases hq; exact hb1
      | 2, hq => cases hq; exact hb2
      | 3, hq => cases hq; exact hb3
      | i + 4, hq => cases hq
    · match i, hi with
      | 0, hi => exact absurd hi (by decide)
      | 1, hi => exact absurd hi (by decide)
      | 2, hi => exact absurd hi (by decide)
      | 3, hi => exact absurd hi (by decide)
      | i + 4, _ => rfl
    · intro i k hk
      match i, hk with
      | 0, hk => cases hk; exact hr0
      | i + 1, hk => cases hk
  · intro q hq hst K' B' L' f' ν μ h1 h2 h3 h4 h5
    have e0 : ν 0 = v0 := h4 0 (by decide)
    have e1 : ν 1 = v1 := h4 1 (by decide)
    have e2 : ν 2 = v2 := h4 2 (by decide)
    have e3 : ν 3 = v3 := h4 3 (by decide)
    have d0 : μ 0 = r0 := h5 0 (by decide)
    subst e0
    subst e1
    subst e2
    subst e3
    subst d0
    replace hq : q ∈ u_og79 := hq
    unfold u_og79 at hq
    simp only [List.mem_cons, List.not_mem_nil, or_false] at hq
    rcases hq with rfl
    · have hst2 : eW E 0 0 L' f' 88 [(0, .ref (μ 0)), (1, .int (Int32.ofInt (0 + (1 * ν 0 + 0)))), (2, .int (Int32.ofInt (0 + (1 * ν 1 + 0)))), (3, .int (Int32.ofInt (0 + (1 * ν 2 + 0)))), (4, .int (Int32.ofInt (0 + (1 * ν 3 + 0))))] [.int (Int32.ofInt (0 + (1 * ν 1 + 0))), .int (Int32.ofInt (1 + (1 * ν 3 + 0))), .ref (μ 1)] := ?_
      · exact hst2
      try simp only [Int.zero_add, Int.one_mul, Int.add_zero]
      exact k88 K' B' L' f'  (μ 1) h1 h2 (h3.1 0) (h3.1 1) (h3.1 2) (h3.1 3) (h3.2.2.2.1 0 200 rfl) (h3.2.2.2.1 1 201 rfl)

/-! og89: from 89 to [98] -/
def w_og89 : TP := ([(0, (2, 0, (0, []))), (1, (0, 0, (0, [(1, 0)]))), (2, (0, 0, (0, [(1, 1)]))), (3, (0, 0, (0, [(1, 2)]))), (4, (0, 0, (0, [(1, 3)])))], [], ([(0, 1), (0, 99), (1, 99), (156, 183)], [], [], [200], [], [], []), [], [])
def u_og89 : List (Nat × TP × EX × Nat × Nat) := [(98, ([(0, (2, 0, (0, []))), (1, (0, 0, (0, [(1, 0)]))), (2, (0, 0, (0, [(1, 1)]))), (3, (0, 0, (0, [(1, 2)]))), (4, (0, 0, (0, [(1, 3)])))], [(0, 0, (0, [(1, 2)])), (0, 0, (2, [(1, 3)])), (2, 1, (0, []))], ([(0, 1), (0, 99), (1, 99), (156, 183)], [], [], [200, 201], [], [], []), [], [(1, 2)]), ((-1), []), 0, 0)]
def D_og89 : DT := (mkD iX12_offer fX12 lX12 kX12 kkX12 427 [] (w_og89, [], [], 2, 0, 0, 3) false 5 u_og89)
theorem k_og89 : chkS D_og89 4000 0 0 89 = true := by decide +kernel
theorem s_og89 {X0 : zC0} {E : zCx} (H : ∀ j, j < 427 → CMj X0 j) (hE : zOk E X0 RX12 cX12_offer 5 (zrm 2 0 0)) {K : Nat → Nat} {B : Int} {L : List Nat} {f : Nat → va_E} (hh : hok X0.2.2.1 K B L f) {v0 v1 v2 v3 : Int} {r0 : Nat} (hb0 : 0 ≤ v0 ∧ v0 ≤ 1) (hb1 : 0 ≤ v1 ∧ v1 ≤ 99) (hb2 : 1 ≤ v2 ∧ v2 ≤ 99) (hb3 : 156 ≤ v3 ∧ v3 ≤ 183) (hr0 : r0 ∈ L ∧ K r0 = 200) (k98 : ∀ (K' : Nat → Nat) (B' : Int) (L' : List Nat) (f' : Nat → va_E) (r1 : Nat), hok X0.2.2.1 K' B' L' f' → extC [] K B L f K' B' L' f' → (0 ≤ v0 ∧ v0 ≤ 1) → (0 ≤ v1 ∧ v1 ≤ 99) → (1 ≤ v2 ∧ v2 ≤ 99) → (156 ≤ v3 ∧ v3 ≤ 183) → (r0 ∈ L' ∧ K' r0 = 200) → (r1 ∈ L' ∧ K' r1 = 201) → eW E 0 0 L' f' 98 [(0, .ref r0), (1, .int (Int32.ofInt v0)), (2, .int (Int32.ofInt v1)), (3, .int (Int32.ofInt v2)), (4, .int (Int32.ofInt v3))] [.int (Int32.ofInt v2), .int (Int32.ofInt (2 + v3)), .ref r1]) : eW E 0 0 L f 89 [(0, .ref r0), (1, .int (Int32.ofInt v0)), (2, .int (Int32.ofInt v1)), (3, .int (Int32.ofInt v2)), (4, .int (Int32.ofInt v3))] [] := by
  obtain ⟨l0, D0, cy0, ax0⟩ := X0
  have hraw : eW E 0 0 L f 89 [(0, .ref r0), (1, .int (Int32.ofInt (0 + (1 * v0 + 0)))), (2, .int (Int32.ofInt (0 + (1 * v1 + 0)))), (3, .int (Int32.ofInt (0 + (1 * v2 + 0)))), (4, .int (Int32.ofInt (0 + (1 * v3 + 0))))] [] := ?_
  · simpa only [Int.zero_add, Int.one_mul, Int.add_zero] using hraw
  refine seg_ok (D := D_og89) (νi := fun i => [v0, v1, v2, v3].getD i 0) (μi := fun i => [r0].getD i 0) k_og89 hE (mk_ok (ins := iX12_offer) jX12_offer fX12_ok lX12_ok kX12_ok kkX12_ok H) (by decide) rfl rfl rfl rfl hh ?_ ?_
  · refine ⟨(eok_of (fun i q hq => ?_) (fun i hi => ?_)), fa0, fa0, ?_, fa0, fa0, fa0⟩
    · match i, hq with
      | 0, hq => cases hq; exact hb0
      | 1, hq => cases hq; exact hb1
      | 2, hq => cases hq; exact hb2
      | 3, hq => cases hq; exact hb3
      | i + 4, hq => cases hq
    · match i, hi with
      | 0, hi => exact absurd hi (by decide)
      | 1, hi => exact absurd hi (by decide)
      | 2, hi => exact absurd hi (by decide)
      | 3, hi => exact absurd hi (by decide)
      | i + 4, _ => rfl
    · intro i k hk
      match i, hk with
      | 0, hk => cases hk; exact hr0
      | i + 1, hk => cases hk
  · intro q hq hst K' B' L' f' ν μ h1 h2 h3 h4 h5
    have e0 : ν 0 = v0 := h4 0 (by decide)
    have e1 : ν 1 = v1 := h4 1 (by decide)
    have e2 : ν 2 = v2 := h4 2 (by decide)
    have e3 : ν 3 = v3 := h4 3 (by decide)
    have d0 : μ 0 = r0 := h5 0 (by decide)
    subst e0
    subst e1
    subst e2
    subst e3
    subst d0
    replace hq : q ∈ u_og89 := hq
    unfold u_og89 at hq
    simp only [List.mem_cons, List.not_mem_nil, or_false] at hq
    rcases hq with rfl
    · have hst2 : eW E 0 0 L' f' 98 [(0, .ref (μ 0)), (1, .int (Int32.ofInt (0 + (1 * ν 0 + 0)))), (2, .int (Int32.ofInt (0 + (1 * ν 1 + 0)))), (3, .int (Int32.ofInt (0 + (1 * ν 2 + 0)))), (4, .int (Int32.ofInt (0 + (1 * ν 3 + 0))))] [.int (Int32.ofInt (0 + (1 * ν 2 + 0))), .int (Int32.ofInt (2 + (1 * ν 3 + 0))), .ref (μ 1)] := ?_
      · exact hst2
      try simp only [Int.zero_add, Int.one_mul, Int.add_zero]
      exact k98 K' B' L' f'  (μ 1) h1 h2 (h3.1 0) (h3.1 1) (h3.1 2) (h3.1 3) (h3.2.2.2.1 0 200 rfl) (h3.2.2.2.1 1 201 rfl)

/-! og99: from 99 to [117] -/
def w_og99 : TP := ([(0, (2, 0, (0, []))), (1, (0, 0, (0, [(1, 0)]))), (2, (0, 0, (0, [(1, 1)]))), (3, (0, 0, (0, [(1, 2)]))), (4, (0, 0, (0, [(1, 3)])))], [], ([(0, 1), (0, 99), (1, 99), (156, 183), (0, 9)], [], [], [200], [((201, (12, [])), (0, [(1, 4)]))], [], []), [], [])
def u_og99 : List (Nat × TP × EX × Nat × Nat) := [(117, ([(0, (2, 0, (0, []))), (1, (0, 0, (0, [(1, 0)]))), (2, (0, 0, (0, [(1, 1)]))), (3, (0, 0, (0, [(1, 2)]))), (4, (0, 0, (0, [(1, 3)])))], [(0, 0, (1, [(1, 4)]))], ([(0, 1), (0, 99), (1, 99), (156, 183), (0, 9)], [], [], [200], [((201, (12, [])), (1, [(1, 4)]))], [], []), [], []), ((-1), []), 0, 0)]
def D_og99 : DT := (mkD iX12_offer fX12 lX12 kX12 kkX12 427 [] (w_og99, [(201, 12)], [], 2, 0, 0, 3) false 5 u_og99)
theorem k_og99 : chkS D_og99 4000 0 0 99 = true := by decide +kernel
theorem s_og99 {X0 : zC0} {E : zCx} (H : ∀ j, j < 427 → CMj X0 j) (hE : zOk E X0 RX12 cX12_offer 5 (zrm 2 0 0)) {K : Nat → Nat} {B : Int} {L : List Nat} {f : Nat → va_E} (hh : hok X0.2.2.1 K B L f) {v0 v1 v2 v3 v4 : Int} {r0 : Nat} (hb0 : 0 ≤ v0 ∧ v0 ≤ 1) (hb1 : 0 ≤ v1 ∧ v1 ≤ 99) (hb2 : 1 ≤ v2 ∧ v2 ≤ 99) (hb3 : 156 ≤ v3 ∧ v3 ≤ 183) (hb4 : 0 ≤ v4 ∧ v4 ≤ 9) (hr0 : r0 ∈ L ∧ K r0 = 200) (hm0 : (∀ b ∈ L, K b = 201 → (0 : Int) ≤ 12 ∧ gi (f b) ((12 : Int)).toNat = v4)) (k117 : ∀ (K' : Nat → Nat) (B' : Int) (L' : List Nat) (f' : Nat → va_E), hok X0.2.2.1 K' B' L' f' → extC [(201, 12)] K B L f K' B' L' f' → (0 ≤ v0 ∧ v0 ≤ 1) → (0 ≤ v1 ∧ v1 ≤ 99) → (1 ≤ v2 ∧ v2 ≤ 99) → (156 ≤ v3 ∧ v3 ≤ 183) → (0 ≤ v4 ∧ v4 ≤ 9) → (r0 ∈ L' ∧ K' r0 = 200) → (∀ b ∈ L', K' b = 201 → (0 : Int) ≤ 12 ∧ gi (f' b) ((12 : Int)).toNat = (1 + v4)) → eW E 0 0 L' f' 117 [(0, .ref r0), (1, .int (Int32.ofInt v0)), (2, .int (Int32.ofInt v1)), (3, .int (Int32.ofInt v2)), (4, .int (Int32.ofInt v3))] [.int (Int32.ofInt (1 + v4))]) : eW E 0 0 L f 99 [(0, .ref r0), (1, .int (Int32.ofInt v0)), (2, .int (Int32.ofInt v1)), (3, .int (Int32.ofInt v2)), (4, .int (Int32.ofInt v3))] [] := by
  obtain ⟨l0, D0, cy0, ax0⟩ := X0
  have hraw : eW E 0 0 L f 99 [(0, .ref r0), (1, .int (Int32.ofInt (0 + (1 * v0 + 0)))), (2, .int (Int32.ofInt (0 + (1 * v1 + 0)))), (3, .int (Int32.ofInt (0 + (1 * v2 + 0)))), (4, .int (Int32.ofInt (0 + (1 * v3 + 0))))] [] := ?_
  · simpa only [Int.zero_add, Int.one_mul, Int.add_zero] using hraw
  have rm0 : (∀ b ∈ L, K b = 201 → (0 : Int) ≤ (12 + 0) ∧ gi (f b) (((12 + 0) : Int)).toNat = (0 + (1 * v4 + 0))) := by simpa only [Int.zero_add, Int.one_mul, Int.add_zero] using hm0
  refine seg_ok (D := D_og99) (νi := fun i => [v0, v1, v2, v3, v4].getD i 0) (μi := fun i => [r0].getD i 0) k_og99 hE (mk_ok (ins := iX12_offer) jX12_offer fX12_ok lX12_ok kX12_ok kkX12_ok H) (by decide) rfl rfl rfl rfl hh ?_ ?_
  · refine ⟨(eok_of (fun i q hq => ?_) (fun i hi => ?_)), fa0, fa0, ?_, (fa_cons (Amok hh (show (zkd 201).1 = 2 by decide) (by decide) rm0) fa0), fa0, fa0⟩
    · match i, hq with
      | 0, hq => cases hq; exact hb0
      | 1, hq => cases hq; exact hb1
      | 2, hq => cases hq; exact hb2
      | 3, hq => cases hq; exact hb3
      | 4, hq => cases hq; exact hb4
      | i + 5, hq => cases hq
    · match i, hi with
      | 0, hi => exact absurd hi (by decide)
      | 1, hi => exact absurd hi (by decide)
      | 2, hi => exact absurd hi (by decide)
      | 3, hi => exact absurd hi (by decide)
      | 4, hi => exact absurd hi (by decide)
      | i + 5, _ => rfl
    · intro i k hk
      match i, hk with
      | 0, hk => cases hk; exact hr0
      | i + 1, hk => cases hk
  · intro q hq hst K' B' L' f' ν μ h1 h2 h3 h4 h5
    have e0 : ν 0 = v0 := h4 0 (by decide)
    have e1 : ν 1 = v1 := h4 1 (by decide)
    have e2 : ν 2 = v2 := h4 2 (by decide)
    have e3 : ν 3 = v3 := h4 3 (by decide)
    have e4 : ν 4 = v4 := h4 4 (by decide)
    have d0 : μ 0 = r0 := h5 0 (by decide)
    subst e0
    subst e1
    subst e2
    subst e3
    subst e4
    subst d0
    replace hq : q ∈ u_og99 := hq
    unfold u_og99 at hq
    simp only [List.mem_cons, List.not_mem_nil, or_false] at hq
    rcases hq with rfl
    · have hst2 : eW E 0 0 L' f' 117 [(0, .ref (μ 0)), (1, .int (Int32.ofInt (0 + (1 * ν 0 + 0)))), (2, .int (Int32.ofInt (0 + (1 * ν 1 + 0)))), (3, .int (Int32.ofInt (0 + (1 * ν 2 + 0)))), (4, .int (Int32.ofInt (0 + (1 * ν 3 + 0))))] [.int (Int32.ofInt (1 + (1 * ν 4 + 0)))] := ?_
      · exact hst2
      try simp only [Int.zero_add, Int.one_mul, Int.add_zero]
      exact k117 K' B' L' f'   h1 h2 (h3.1 0) (h3.1 1) (h3.1 2) (h3.1 3) (h3.1 4) (h3.2.2.2.1 0 200 rfl) (by simpa only [xv, xvT, Int.zero_add, Int.one_mul, Int.add_zero] using (mokA h1 (show (zkd 201).1 = 2 by decide) (by decide) (h3.2.2.2.2.1 _ (List.mem_of_getElem? (i := 0) rfl))))

/-! tr0: from 0 to [7] -/
def w_tr0 : TP := ([(0, (2, 0, (0, []))), (1, (0, 0, (0, [(1, 0)])))], [], ([((-2147483648), 2147483647)], [], [], [62], [], [], []), [], [])
def u_tr0 : List (Nat × TP × EX × Nat × Nat) := [(7, ([(0, (2, 0, (0, []))), (1, (0, 0, (0, [(1, 0)]))), (2, (0, 0, (0, []))), (3, (0, 0, (0, []))), (4, (0, 0, (0, [])))], [], ([((-2147483648), 2147483647)], [], [], [62], [], [], []), [], []), ((-1), []), 0, 0)]
def D_tr0 : DT := (mkD iX1_traded fX1 lX1 kX1 kkX1 427 [] (w_tr0, [], [], 1, 0, 0, 3) false 5 u_tr0)
theorem k_tr0 : chkS D_tr0 4000 0 0 0 = true := by decide +kernel
theorem s_tr0 {X0 : zC0} {E : zCx} (H : ∀ j, j < 427 → CMj X0 j) (hE : zOk E X0 RX1 cX1_traded 5 (zrm 1 0 0)) {K : Nat → Nat} {B : Int} {L : List Nat} {f : Nat → va_E} (hh : hok X0.2.2.1 K B L f) {v0 : Int} {r0 : Nat} (hb0 : (-2147483648) ≤ v0 ∧ v0 ≤ 2147483647) (hr0 : r0 ∈ L ∧ K r0 = 62) (k7 : ∀ (K' : Nat → Nat) (B' : Int) (L' : List Nat) (f' : Nat → va_E), hok X0.2.2.1 K' B' L' f' → extC [] K B L f K' B' L' f' → ((-2147483648) ≤ v0 ∧ v0 ≤ 2147483647) → (r0 ∈ L' ∧ K' r0 = 62) → eW E 0 0 L' f' 7 [(0, .ref r0), (1, .int (Int32.ofInt v0)), (2, .int (Int32.ofInt 0)), (3, .int (Int32.ofInt 0)), (4, .int (Int32.ofInt 0))] []) : eW E 0 0 L f 0 [(0, .ref r0), (1, .int (Int32.ofInt v0))] [] := by
  obtain ⟨l0, D0, cy0, ax0⟩ := X0
  have hraw : eW E 0 0 L f 0 [(0, .ref r0), (1, .int (Int32.ofInt (0 + (1 * v0 + 0))))] [] := ?_
  · simpa only [Int.zero_add, Int.one_mul, Int.add_zero] using hraw
  refine seg_ok (D := D_tr0) (νi := fun i => [v0].getD i 0) (μi := fun i => [r0].getD i 0) k_tr0 hE (mk_ok (ins := iX1_traded) jX1_traded fX1_ok lX1_ok kX1_ok kkX1_ok H) (by decide) rfl rfl rfl rfl hh ?_ ?_
  · refine ⟨(eok_of (fun i q hq => ?_) (fun i hi => ?_)), fa0, fa0, ?_, fa0, fa0, fa0⟩
    · match i, hq with
      | 0, hq => cases hq; exact hb0
      | i + 1, hq => cases hq
    · match i, hi with
      | 0, hi => exact absurd hi (by decide)
      | i + 1, _ => rfl
    · intro i k hk
      match i, hk with
      | 0, hk => cases hk; exact hr0
      | i + 1, hk => cases hk
  · intro q hq hst K' B' L' f' ν μ h1 h2 h3 h4 h5
    have e0 : ν 0 = v0 := h4 0 (by decide)
    have d0 : μ 0 = r0 := h5 0 (by decide)
    subst e0
    subst d0
    replace hq : q ∈ u_tr0 := hq
    unfold u_tr0 at hq
    simp only [List.mem_cons, List.not_mem_nil, or_false] at hq
    rcases hq with rfl
    · have hst2 : eW E 0 0 L' f' 7 [(0, .ref (μ 0)), (1, .int (Int32.ofInt (0 + (1 * ν 0 + 0)))), (2, .int (Int32.ofInt (0 + 0))), (3, .int (Int32.ofInt (0 + 0))), (4, .int (Int32.ofInt (0 + 0)))] [] := ?_
      · exact hst2
      try simp only [Int.zero_add, Int.one_mul, Int.add_zero]
      exact k7 K' B' L' f'   h1 h2 (h3.1 0) (h3.2.2.2.1 0 62 rfl)

/-! tr7: from 7 to [23, 92] -/
def w_tr7 : TP := ([(0, (2, 0, (0, []))), (1, (0, 0, (0, [(1, 0)]))), (2, (0, 0, (0, [(1, 1)]))), (3, (0, 0, (0, [(1, 2)]))), (4, (0, 0, (0, [(1, 3)])))], [], ([((-2147483648), 2147483647), (0, 990), (0, 990), (0, 10)], [], [], [62], [], [], []), [], [])
def u_tr7 : List (Nat × TP × EX × Nat × Nat) := [(23, ([(0, (2, 0, (0, []))), (1, (0, 0, (0, [(1, 0)]))), (2, (0, 0, (0, [(1, 1)]))), (3, (0, 0, (0, [(1, 2)]))), (4, (0, 0, (0, [(1, 3)])))], [(0, 0, (0, [(1, 3)])), (2, 1, (0, [])), (0, 0, (0, [(1, 1)]))], ([((-2147483648), 2147483647), (0, 990), (0, 990), (0, 9), (1, 10)], [((-1), [((-1), 3), (1, 4)])], [], [62, 68], [((62, (2, [])), (0, [(1, 4)]))], [], []), [(2, 62, (2, []))], [(1, 1)]), ((-1), []), 0, 0), (92, ([(0, (2, 0, (0, []))), (1, (0, 0, (0, [(1, 0)]))), (2, (0, 0, (0, [(1, 1)]))), (3, (0, 0, (0, [(1, 2)]))), (4, (0, 0, (0, [(1, 3)])))], [], ([((-2147483648), 2147483647), (0, 990), (0, 990), (0, 10), (0, 10)], [(0, [(1, 3), ((-1), 4)])], [], [62], [((62, (2, [])), (0, [(1, 4)]))], [], []), [(2, 62, (2, []))], []), ((-1), []), 0, 0)]
def D_tr7 : DT := (mkD iX1_traded fX1 lX1 kX1 kkX1 427 [] (w_tr7, [], [], 1, 0, 0, 3) false 5 u_tr7)
theorem k_tr7 : chkS D_tr7 4000 0 0 7 = true := by decide +kernel
theorem s_tr7 {X0 : zC0} {E : zCx} (H : ∀ j, j < 427 → CMj X0 j) (hE : zOk E X0 RX1 cX1_traded 5 (zrm 1 0 0)) {K : Nat → Nat} {B : Int} {L : List Nat} {f : Nat → va_E} (hh : hok X0.2.2.1 K B L f) {v0 v1 v2 v3 : Int} {r0 : Nat} (hb0 : (-2147483648) ≤ v0 ∧ v0 ≤ 2147483647) (hb1 : 0 ≤ v1 ∧ v1 ≤ 990) (hb2 : 0 ≤ v2 ∧ v2 ≤ 990) (hb3 : 0 ≤ v3 ∧ v3 ≤ 10) (hr0 : r0 ∈ L ∧ K r0 = 62) (k23 : ∀ (K' : Nat → Nat) (B' : Int) (L' : List Nat) (f' : Nat → va_E) (v4 : Int) (r1 : Nat), hok X0.2.2.1 K' B' L' f' → extC [] K B L f K' B' L' f' → ((-2147483648) ≤ v0 ∧ v0 ≤ 2147483647) → (0 ≤ v1 ∧ v1 ≤ 990) → (0 ≤ v2 ∧ v2 ≤ 990) → (0 ≤ v3 ∧ v3 ≤ 9) → (1 ≤ v4 ∧ v4 ≤ 10) → (0 ≤ ((-1) + ((-1) * v3 + v4))) → (r0 ∈ L' ∧ K' r0 = 62) → (r1 ∈ L' ∧ K' r1 = 68) → (∀ b ∈ L', K' b = 62 → gi (f' b) 2 = v4) → eW E 0 0 L' f' 23 [(0, .ref r0), (1, .int (Int32.ofInt v0)), (2, .int (Int32.ofInt v1)), (3, .int (Int32.ofInt v2)), (4, .int (Int32.ofInt v3))] [.int (Int32.ofInt v3), .ref r1, .int (Int32.ofInt v1)]) (k92 : ∀ (K' : Nat → Nat) (B' : Int) (L' : List Nat) (f' : Nat → va_E) (v4 : Int), hok X0.2.2.1 K' B' L' f' → extC [] K B L f K' B' L' f' → ((-2147483648) ≤ v0 ∧ v0 ≤ 2147483647) → (0 ≤ v1 ∧ v1 ≤ 990) → (0 ≤ v2 ∧ v2 ≤ 990) → (0 ≤ v3 ∧ v3 ≤ 10) → (0 ≤ v4 ∧ v4 ≤ 10) → (0 ≤ (v3 + ((-1) * v4))) → (r0 ∈ L' ∧ K' r0 = 62) → (∀ b ∈ L', K' b = 62 → gi (f' b) 2 = v4) → eW E 0 0 L' f' 92 [(0, .ref r0), (1, .int (Int32.ofInt v0)), (2, .int (Int32.ofInt v1)), (3, .int (Int32.ofInt v2)), (4, .int (Int32.ofInt v3))] []) : eW E 0 0 L f 7 [(0, .ref r0), (1, .int (Int32.ofInt v0)), (2, .int (Int32.ofInt v1)), (3, .int (Int32.ofInt v2)), (4, .int (Int32.ofInt v3))] [] := by
  obtain ⟨l0, D0, cy0, ax0⟩ := X0
  have hraw : eW E 0 0 L f 7 [(0, .ref r0), (1, .int (Int32.ofInt (0 + (1 * v0 + 0)))), (2, .int (Int32.ofInt (0 + (1 * v1 + 0)))), (3, .int (Int32.ofInt (0 + (1 * v2 + 0)))), (4, .int (Int32.ofInt (0 + (1 * v3 + 0))))] [] := ?_
  · simpa only [Int.zero_add, Int.one_mul, Int.add_zero] using hraw
  refine seg_ok (D := D_tr7) (νi := fun i => [v0, v1, v2, v3].getD i 0) (μi := fun i => [r0].getD i 0) k_tr7 hE (mk_ok (ins := iX1_traded) jX1_traded fX1_ok lX1_ok kX1_ok kkX1_ok H) (by decide) rfl rfl rfl rfl hh ?_ ?_
  · refine ⟨(eok_of (fun i q hq => ?_) (fun i hi => ?_)), fa0, fa0, ?_, fa0, fa0, fa0⟩
    · match i, hq with
      | 0, hq => cases hq; exact hb0
      | 1, hq => cases hq; exact hb1
      | 2, hq => cases hq; exact hb2
      | 3, hq => cases hq; exact hb3
      | i + 4, hq => cases hq
    · match i, hi with
      | 0, hi => exact absurd hi (by decide)
      | 1, hi => exact absurd hi (by decide)
      | 2, hi => exact absurd hi (by decide)
      | 3, hi => exact absurd hi (by decide)
      | i + 4, _ => rfl
    · intro i k hk
      match i, hk with
      | 0, hk => cases hk; exact hr0
      | i + 1, hk => cases hk
  · intro q hq hst K' B' L' f' ν μ h1 h2 h3 h4 h5
    have e0 : ν 0 = v0 := h4 0 (by decide)
    have e1 : ν 1 = v1 := h4 1 (by decide)
    have e2 : ν 2 = v2 := h4 2 (by decide)
    have e3 : ν 3 = v3 := h4 3 (by decide)
    have d0 : μ 0 = r0 := h5 0 (by decide)
    subst e0
    subst e1
    subst e2
    subst e3
    subst d0
    replace hq : q ∈ u_tr7 := hq
    unfold u_tr7 at hq
    simp only [List.mem_cons, List.not_mem_nil, or_false] at hq
    rcases hq with rfl | rfl
    · have hst2 : eW E 0 0 L' f' 23 [(0, .ref (μ 0)), (1, .int (Int32.ofInt (0 + (1 * ν 0 + 0)))), (2, .int (Int32.ofInt (0 + (1 * ν 1 + 0)))), (3, .int (Int32.ofInt (0 + (1 * ν 2 + 0)))), (4, .int (Int32.ofInt (0 + (1 * ν 3 + 0))))] [.int (Int32.ofInt (0 + (1 * ν 3 + 0))), .ref (μ 1), .int (Int32.ofInt (0 + (1 * ν 1 + 0)))] := ?_
      · exact hst2
      try simp only [Int.zero_add, Int.one_mul, Int.add_zero]
      exact k23 K' B' L' f' (ν 4) (μ 1) h1 h2 (h3.1 0) (h3.1 1) (h3.1 2) (h3.1 3) (h3.1 4) (by simpa only [xv, xvT, Int.zero_add, Int.one_mul, Int.add_zero] using (h3.2.1 _ (List.mem_of_getElem? (i := 0) rfl))) (h3.2.2.2.1 0 62 rfl) (h3.2.2.2.1 1 68 rfl) (by simpa only [xv, xvT, Int.zero_add, Int.one_mul, Int.add_zero] using (mokF h1 (show (zkd 62).1 = 1 by decide) (j := 2) rfl (by decide) (h3.2.2.2.2.1 _ (List.mem_of_getElem? (i := 0) rfl))))
    · have hst2 : eW E 0 0 L' f' 92 [(0, .ref (μ 0)), (1, .int (Int32.ofInt (0 + (1 * ν 0 + 0)))), (2, .int (Int32.ofInt (0 + (1 * ν 1 + 0)))), (3, .int (Int32.ofInt (0 + (1 * ν 2 + 0)))), (4, .int (Int32.ofInt (0 + (1 * ν 3 + 0))))] [] := ?_
      · exact hst2
      try simp only [Int.zero_add, Int.one_mul, Int.add_zero]
      exact k92 K' B' L' f' (ν 4)  h1 h2 (h3.1 0) (h3.1 1) (h3.1 2) (h3.1 3) (h3.1 4) (by simpa only [xv, xvT, Int.zero_add, Int.one_mul, Int.add_zero] using (h3.2.1 _ (List.mem_of_getElem? (i := 0) rfl))) (h3.2.2.2.1 0 62 rfl) (by simpa only [xv, xvT, Int.zero_add, Int.one_mul, Int.add_zero] using (mokF h1 (show (zkd 62).1 = 1 by decide) (j := 2) rfl (by decide) (h3.2.2.2.2.1 _ (List.mem_of_getElem? (i := 0) rfl))))

/-! tr24z: from 24 to [58] -/
def w_tr24z : TP := ([(0, (2, 0, (0, []))), (1, (0, 0, (0, [(1, 0)]))), (2, (0, 0, (0, [(1, 1)]))), (3, (0, 0, (0, [(1, 2)]))), (4, (0, 0, (0, [(1, 3)])))], [(0, 0, (0, [])), (0, 0, (0, [(1, 1)]))], ([((-2147483648), 2147483647), (0, 990), (0, 990), (0, 9)], [], [], [62], [], [], []), [], [])
def u_tr24z : List (Nat × TP × EX × Nat × Nat) := [(58, ([(0, (2, 0, (0, []))), (1, (0, 0, (0, [(1, 0)]))), (2, (0, 0, (0, [(1, 1)]))), (3, (0, 0, (0, [(1, 2)]))), (4, (0, 0, (0, [(1, 3)])))], [(0, 0, (0, [(1, 3)])), (2, 1, (0, [])), (0, 0, (0, [(1, 2)]))], ([((-2147483648), 2147483647), (0, 990), (0, 990), (0, 9)], [], [], [62, 68], [], [], []), [], [(1, 1)]), ((-1), []), 0, 0)]
def D_tr24z : DT := (mkD iX1_traded fX1 lX1 kX1 kkX1 427 [] (w_tr24z, [], [], 1, 0, 0, 3) false 5 u_tr24z)
theorem k_tr24z : chkS D_tr24z 4000 0 0 24 = true := by decide +kernel
theorem s_tr24z {X0 : zC0} {E : zCx} (H : ∀ j, j < 427 → CMj X0 j) (hE : zOk E X0 RX1 cX1_traded 5 (zrm 1 0 0)) {K : Nat → Nat} {B : Int} {L : List Nat} {f : Nat → va_E} (hh : hok X0.2.2.1 K B L f) {v0 v1 v2 v3 : Int} {r0 : Nat} (hb0 : (-2147483648) ≤ v0 ∧ v0 ≤ 2147483647) (hb1 : 0 ≤ v1 ∧ v1 ≤ 990) (hb2 : 0 ≤ v2 ∧ v2 ≤ 990) (hb3 : 0 ≤ v3 ∧ v3 ≤ 9) (hr0 : r0 ∈ L ∧ K r0 = 62) (k58 : ∀ (K' : Nat → Nat) (B' : Int) (L' : List Nat) (f' : Nat → va_E) (r1 : Nat), hok X0.2.2.1 K' B' L' f' → extC [] K B L f K' B' L' f' → ((-2147483648) ≤ v0 ∧ v0 ≤ 2147483647) → (0 ≤ v1 ∧ v1 ≤ 990) → (0 ≤ v2 ∧ v2 ≤ 990) → (0 ≤ v3 ∧ v3 ≤ 9) → (r0 ∈ L' ∧ K' r0 = 62) → (r1 ∈ L' ∧ K' r1 = 68) → eW E 0 0 L' f' 58 [(0, .ref r0), (1, .int (Int32.ofInt v0)), (2, .int (Int32.ofInt v1)), (3, .int (Int32.ofInt v2)), (4, .int (Int32.ofInt v3))] [.int (Int32.ofInt v3), .ref r1, .int (Int32.ofInt v2)]) : eW E 0 0 L f 24 [(0, .ref r0), (1, .int (Int32.ofInt v0)), (2, .int (Int32.ofInt v1)), (3, .int (Int32.ofInt v2)), (4, .int (Int32.ofInt v3))] [.int (Int32.ofInt 0), .int (Int32.ofInt v1)] := by
  obtain ⟨l0, D0, cy0, ax0⟩ := X0
  have hraw : eW E 0 0 L f 24 [(0, .ref r0), (1, .int (Int32.ofInt (0 + (1 * v0 + 0)))), (2, .int (Int32.ofInt (0 + (1 * v1 + 0)))), (3, .int (Int32.ofInt (0 + (1 * v2 + 0)))), (4, .int (Int32.ofInt (0 + (1 * v3 + 0))))] [.int (Int32.ofInt (0 + 0)), .int (Int32.ofInt (0 + (1 * v1 + 0)))] := ?_
  · simpa only [Int.zero_add, Int.one_mul, Int.add_zero] using hraw
  refine seg_ok (D := D_tr24z) (νi := fun i => [v0, v1, v2, v3].getD i 0) (μi := fun i => [r0].getD i 0) k_tr24z hE (mk_ok (ins := iX1_traded) jX1_traded fX1_ok lX1_ok kX1_ok kkX1_ok H) (by decide) rfl rfl rfl rfl hh ?_ ?_
  · refine ⟨(eok_of (fun i q hq => ?_) (fun i hi => ?_)), fa0, fa0, ?_, fa0, fa0, fa0⟩
    · match i, hq with
      | 0, hq => cases hq; exact hb0
      | 1, hq => cases hq; exact hb1
      | 2, hq => cases hq; exact hb2
      | 3, hq => cases hq; exact hb3
      | i + 4, hq => cases hq
    · match i, hi with
      | 0, hi => exact absurd hi (by decide)
      | 1, hi => exact absurd hi (by decide)
      | 2, hi => exact absurd hi (by decide)
      | 3, hi => exact absurd hi (by decide)
      | i + 4, _ => rfl
    · intro i k hk
      match i, hk with
      | 0, hk => cases hk; exact hr0
      | i + 1, hk => cases hk
  · intro q hq hst K' B' L' f' ν μ h1 h2 h3 h4 h5
    have e0 : ν 0 = v0 := h4 0 (by decide)
    have e1 : ν 1 = v1 := h4 1 (by decide)
    have e2 : ν 2 = v2 := h4 2 (by decide)
    have e3 : ν 3 = v3 := h4 3 (by decide)
    have d0 : μ 0 = r0 := h5 0 (by decide)
    subst e0
    subst e1
    subst e2
    subst e3
    subst d0
    replace hq : q ∈ u_tr24z := hq
    unfold u_tr24z at hq
    simp only [List.mem_cons, List.not_mem_nil, or_false] at hq
    rcases hq with rfl
    · have hst2 : eW E 0 0 L' f' 58 [(0, .ref (μ 0)), (1, .int (Int32.ofInt (0 + (1 * ν 0 + 0)))), (2, .int (Int32.ofInt (0 + (1 * ν 1 + 0)))), (3, .int (Int32.ofInt (0 + (1 * ν 2 + 0)))), (4, .int (Int32.ofInt (0 + (1 * ν 3 + 0))))] [.int (Int32.ofInt (0 + (1 * ν 3 + 0))), .ref (μ 1), .int (Int32.ofInt (0 + (1 * ν 2 + 0)))] := ?_
      · exact hst2
      try simp only [Int.zero_add, Int.one_mul, Int.add_zero]
      exact k58 K' B' L' f'  (μ 1) h1 h2 (h3.1 0) (h3.1 1) (h3.1 2) (h3.1 3) (h3.2.2.2.1 0 62 rfl) (h3.2.2.2.1 1 68 rfl)

/-! tr24a: from 24 to [58] -/
def w_tr24a : TP := ([(0, (2, 0, (0, []))), (1, (0, 0, (0, [(1, 0)]))), (2, (0, 0, (0, [(1, 1)]))), (3, (0, 0, (0, [(1, 2)]))), (4, (0, 0, (0, [(1, 3)])))], [(0, 0, (1, [])), (0, 0, (0, [(1, 1)]))], ([((-2147483648), 2147483647), (0, 990), (0, 990), (0, 9), (0, 99), (0, 99)], [(0, [(1, 4), ((-1), 0)])], [], [62], [((69, (0, [(1, 3)])), (0, [(1, 4)])), ((70, (0, [(1, 3)])), (0, [(1, 5)]))], [], []), [], [])
def u_tr24a : List (Nat × TP × EX × Nat × Nat) := [(58, ([(0, (2, 0, (0, []))), (1, (0, 0, (0, [(1, 0)]))), (2, (0, 0, (0, [(1, 5), (1, 1)]))), (3, (0, 0, (0, [(1, 2)]))), (4, (0, 0, (0, [(1, 3)])))], [(0, 0, (0, [(1, 3)])), (2, 1, (0, [])), (0, 0, (0, [(1, 2)]))], ([((-2147483648), 99), (0, 990), (0, 990), (0, 9), (0, 99), (0, 99)], [(0, [((-1), 0), (1, 4)])], [], [62, 68], [((69, (0, [(1, 3)])), (0, [(1, 4)])), ((70, (0, [(1, 3)])), (0, [(1, 5)]))], [], []), [], [(1, 1)]), ((-1), []), 0, 0)]
def D_tr24a : DT := (mkD iX1_traded fX1 lX1 kX1 kkX1 427 [] (w_tr24a, [], [], 1, 0, 0, 3) false 5 u_tr24a)
theorem k_tr24a : chkS D_tr24a 4000 0 0 24 = true := by decide +kernel
theorem s_tr24a {X0 : zC0} {E : zCx} (H : ∀ j, j < 427 → CMj X0 j) (hE : zOk E X0 RX1 cX1_traded 5 (zrm 1 0 0)) {K : Nat → Nat} {B : Int} {L : List Nat} {f : Nat → va_E} (hh : hok X0.2.2.1 K B L f) {v0 v1 v2 v3 v4 v5 : Int} {r0 : Nat} (hb0 : (-2147483648) ≤ v0 ∧ v0 ≤ 2147483647) (hb1 : 0 ≤ v1 ∧ v1 ≤ 990) (hb2 : 0 ≤ v2 ∧ v2 ≤ 990) (hb3 : 0 ≤ v3 ∧ v3 ≤ 9) (hb4 : 0 ≤ v4 ∧ v4 ≤ 99) (hb5 : 0 ≤ v5 ∧ v5 ≤ 99) (hq0 : 0 ≤ (v4 + ((-1) * v0))) (hr0 : r0 ∈ L ∧ K r0 = 62) (hm0 : (∀ b ∈ L, K b = 69 → (0 : Int) ≤ v3 ∧ gi (f b) ((v3 : Int)).toNat = v4)) (hm1 : (∀ b ∈ L, K b = 70 → (0 : Int) ≤ v3 ∧ gi (f b) ((v3 : Int)).toNat = v5)) (k58 : ∀ (K' : Nat → Nat) (B' : Int) (L' : List Nat) (f' : Nat → va_E) (r1 : Nat), hok X0.2.2.1 K' B' L' f' → extC [] K B L f K' B' L' f' → ((-2147483648) ≤ v0 ∧ v0 ≤ 99) → (0 ≤ v1 ∧ v1 ≤ 990) → (0 ≤ v2 ∧ v2 ≤ 990) → (0 ≤ v3 ∧ v3 ≤ 9) → (0 ≤ v4 ∧ v4 ≤ 99) → (0 ≤ v5 ∧ v5 ≤ 99) → (0 ≤ ((-1) * v0 + v4)) → (r0 ∈ L' ∧ K' r0 = 62) → (r1 ∈ L' ∧ K' r1 = 68) → (∀ b ∈ L', K' b = 69 → (0 : Int) ≤ v3 ∧ gi (f' b) ((v3 : Int)).toNat = v4) → (∀ b ∈ L', K' b = 70 → (0 : Int) ≤ v3 ∧ gi (f' b) ((v3 : Int)).toNat = v5) → eW E 0 0 L' f' 58 [(0, .ref r0), (1, .int (Int32.ofInt v0)), (2, .int (Int32.ofInt (v5 + v1))), (3, .int (Int32.ofInt v2)), (4, .int (Int32.ofInt v3))] [.int (Int32.ofInt v3), .ref r1, .int (Int32.ofInt v2)]) : eW E 0 0 L f 24 [(0, .ref r0), (1, .int (Int32.ofInt v0)), (2, .int (Int32.ofInt v1)), (3, .int (Int32.ofInt v2)), (4, .int (Int32.ofInt v3))] [.int (Int32.ofInt 1), .int (Int32.ofInt v1)] := by
  obtain ⟨l0, D0, cy0, ax0⟩ := X0
  have hraw : eW E 0 0 L f 24 [(0, .ref r0), (1, .int (Int32.ofInt (0 + (1 * v0 + 0)))), (2, .int (Int32.ofInt (0 + (1 * v1 + 0)))), (3, .int (Int32.ofInt (0 + (1 * v2 + 0)))), (4, .int (Int32.ofInt (0 + (1 * v3 + 0))))] [.int (Int32.ofInt (1 + 0)), .int (Int32.ofInt (0 + (1 * v1 + 0)))] := ?_
  · simpa only [Int.zero_add, Int.one_mul, Int.add_zero] using hraw
  have rq0 : 0 ≤ (0 + (1 * v4 + ((-1) * v0 + 0))) := by simpa only [Int.zero_add, Int.one_mul, Int.add_zero] using hq0
  have rm0 : (∀ b ∈ L, K b = 69 → (0 : Int) ≤ (0 + (1 * v3 + 0)) ∧ gi (f b) (((0 + (1 * v3 + 0)) : Int)).toNat = (0 + (1 * v4 + 0))) := by simpa only [Int.zero_add, Int.one_mul, Int.add_zero] using hm0
  have rm1 : (∀ b ∈ L, K b = 70 → (0 : Int) ≤ (0 + (1 * v3 + 0)) ∧ gi (f b) (((0 + (1 * v3 + 0)) : Int)).toNat = (0 + (1 * v5 + 0))) := by simpa only [Int.zero_add, Int.one_mul, Int.add_zero] using hm1
  refine seg_ok (D := D_tr24a) (νi := fun i => [v0, v1, v2, v3, v4, v5].getD i 0) (μi := fun i => [r0].getD i 0) k_tr24a hE (mk_ok (ins := iX1_traded) jX1_traded fX1_ok lX1_ok kX1_ok kkX1_ok H) (by decide) rfl rfl rfl rfl hh ?_ ?_
  · refine ⟨(eok_of (fun i q hq => ?_) (fun i hi => ?_)), (fa_cons (rq0) fa0), fa0, ?_, (fa_cons (Amok hh (show (zkd 69).1 = 2 by decide) (by decide) rm0) (fa_cons (Amok hh (show (zkd 70).1 = 2 by decide) (by decide) rm1) fa0)), fa0, fa0⟩
    · match i, hq with
      | 0, hq => cases hq; exact hb0
      | 1, hq => cases hq; exact hb1
      | 2, hq => cases hq; exact hb2
      | 3, hq => cases hq; exact hb3
      | 4, hq => cases hq; exact hb4
      | 5, hq => cases hq; exact hb5
      | i + 6, hq => cases hq
    · match i, hi with
      | 0, hi => exact absurd hi (by decide)
      | 1, hi => exact absurd hi (by decide)
      | 2, hi => exact absurd hi (by decide)
      | 3, hi => exact absurd hi (by decide)
      | 4, hi => exact absurd hi (by decide)
      | 5, hi => exact absurd hi (by decide)
      | i + 6, _ => rfl
    · intro i k hk
      match i, hk with
      | 0, hk => cases hk; exact hr0
      | i + 1, hk => cases hk
  · intro q hq hst K' B' L' f' ν μ h1 h2 h3 h4 h5
    have e0 : ν 0 = v0 := h4 0 (by decide)
    have e1 : ν 1 = v1 := h4 1 (by decide)
    have e2 : ν 2 = v2 := h4 2 (by decide)
    have e3 : ν 3 = v3 := h4 3 (by decide)
    have e4 : ν 4 = v4 := h4 4 (by decide)
    have e5 : ν 5 = v5 := h4 5 (by decide)
    have d0 : μ 0 = r0 := h5 0 (by decide)
    subst e0
    subst e1
    subst e2
    subst e3
    subst e4
    subst e5
    subst d0
    replace hq : q ∈ u_tr24a := hq
    unfold u_tr24a at hq
    simp only [List.mem_cons, List.not_mem_nil, or_false] at hq
    rcases hq with rfl
    · have hst2 : eW E 0 0 L' f' 58 [(0, .ref (μ 0)), (1, .int (Int32.ofInt (0 + (1 * ν 0 + 0)))), (2, .int (Int32.ofInt (0 + (1 * ν 5 + (1 * ν 1 + 0))))), (3, .int (Int32.ofInt (0 + (1 * ν 2 + 0)))), (4, .int (Int32.ofInt (0 + (1 * ν 3 + 0))))] [.int (Int32.ofInt (0 + (1 * ν 3 + 0))), .ref (μ 1), .int (Int32.ofInt (0 + (1 * ν 2 + 0)))] := ?_
      · exact hst2
      try simp only [Int.zero_add, Int.one_mul, Int.add_zero]
      exact k58 K' B' L' f'  (μ 1) h1 h2 (h3.1 0) (h3.1 1) (h3.1 2) (h3.1 3) (h3.1 4) (h3.1 5) (by simpa only [xv, xvT, Int.zero_add, Int.one_mul, Int.add_zero] using (h3.2.1 _ (List.mem_of_getElem? (i := 0) rfl))) (h3.2.2.2.1 0 62 rfl) (h3.2.2.2.1 1 68 rfl) (by simpa only [xv, xvT, Int.zero_add, Int.one_mul, Int.add_zero] using (mokA h1 (show (zkd 69).1 = 2 by decide) (by decide) (h3.2.2.2.2.1 _ (List.mem_of_getElem? (i := 0) rfl)))) (by simpa only [xv, xvT, Int.zero_add, Int.one_mul, Int.add_zero] using (mokA h1 (show (zkd 70).1 = 2 by decide) (by decide) (h3.2.2.2.2.1 _ (List.mem_of_getElem? (i := 1) rfl))))

/-! tr24b: from 24 to [58] -/
def w_tr24b : TP := ([(0, (2, 0, (0, []))), (1, (0, 0, (0, [(1, 0)]))), (2, (0, 0, (0, [(1, 1)]))), (3, (0, 0, (0, [(1, 2)]))), (4, (0, 0, (0, [(1, 3)])))], [(0, 0, (1, [])), (0, 0, (0, [(1, 1)]))], ([((-2147483648), 2147483647), (0, 990), (0, 990), (0, 9), (0, 99), (0, 99)], [((-1), [(1, 0), ((-1), 4)])], [], [62], [((69, (0, [(1, 3)])), (0, [(1, 4)])), ((70, (0, [(1, 3)])), (0, [(1, 5)]))], [], []), [], [])
def u_tr24b : List (Nat × TP × EX × Nat × Nat) := [(58, ([(0, (2, 0, (0, []))), (1, (0, 0, (0, [(1, 0)]))), (2, (0, 0, (0, [(1, 1)]))), (3, (0, 0, (0, [(1, 2)]))), (4, (0, 0, (0, [(1, 3)])))], [(0, 0, (0, [(1, 3)])), (2, 1, (0, [])), (0, 0, (0, [(1, 2)]))], ([(1, 2147483647), (0, 990), (0, 990), (0, 9), (0, 99), (0, 99)], [((-1), [(1, 0), ((-1), 4)])], [], [62, 68], [((69, (0, [(1, 3)])), (0, [(1, 4)])), ((70, (0, [(1, 3)])), (0, [(1, 5)]))], [], []), [], [(1, 1)]), ((-1), []), 0, 0)]
def D_tr24b : DT := (mkD iX1_traded fX1 lX1 kX1 kkX1 427 [] (w_tr24b, [], [], 1, 0, 0, 3) false 5 u_tr24b)
theorem k_tr24b : chkS D_tr24b 4000 0 0 24 = true := by decide +kernel
theorem s_tr24b {X0 : zC0} {E : zCx} (H : ∀ j, j < 427 → CMj X0 j) (hE : zOk E X0 RX1 cX1_traded 5 (zrm 1 0 0)) {K : Nat → Nat} {B : Int} {L : List Nat} {f : Nat → va_E} (hh : hok X0.2.2.1 K B L f) {v0 v1 v2 v3 v4 v5 : Int} {r0 : Nat} (hb0 : (-2147483648) ≤ v0 ∧ v0 ≤ 2147483647) (hb1 : 0 ≤ v1 ∧ v1 ≤ 990) (hb2 : 0 ≤ v2 ∧ v2 ≤ 990) (hb3 : 0 ≤ v3 ∧ v3 ≤ 9) (hb4 : 0 ≤ v4 ∧ v4 ≤ 99) (hb5 : 0 ≤ v5 ∧ v5 ≤ 99) (hq0 : 0 ≤ ((-1) + (v0 + ((-1) * v4)))) (hr0 : r0 ∈ L ∧ K r0 = 62) (hm0 : (∀ b ∈ L, K b = 69 → (0 : Int) ≤ v3 ∧ gi (f b) ((v3 : Int)).toNat = v4)) (hm1 : (∀ b ∈ L, K b = 70 → (0 : Int) ≤ v3 ∧ gi (f b) ((v3 : Int)).toNat = v5)) (k58 : ∀ (K' : Nat → Nat) (B' : Int) (L' : List Nat) (f' : Nat → va_E) (r1 : Nat), hok X0.2.2.1 K' B' L' f' → extC [] K B L f K' B' L' f' → (1 ≤ v0 ∧ v0 ≤ 2147483647) → (0 ≤ v1 ∧ v1 ≤ 990) → (0 ≤ v2 ∧ v2 ≤ 990) → (0 ≤ v3 ∧ v3 ≤ 9) → (0 ≤ v4 ∧ v4 ≤ 99) → (0 ≤ v5 ∧ v5 ≤ 99) → (0 ≤ ((-1) + (v0 + ((-1) * v4)))) → (r0 ∈ L' ∧ K' r0 = 62) → (r1 ∈ L' ∧ K' r1 = 68) → (∀ b ∈ L', K' b = 69 → (0 : Int) ≤ v3 ∧ gi (f' b) ((v3 : Int)).toNat = v4) → (∀ b ∈ L', K' b = 70 → (0 : Int) ≤ v3 ∧ gi (f' b) ((v3 : Int)).toNat = v5) → eW E 0 0 L' f' 58 [(0, .ref r0), (1, .int (Int32.ofInt v0)), (2, .int (Int32.ofInt v1)), (3, .int (Int32.ofInt v2)), (4, .int (Int32.ofInt v3))] [.int (Int32.ofInt v3), .ref r1, .int (Int32.ofInt v2)]) : eW E 0 0 L f 24 [(0, .ref r0), (1, .int (Int32.ofInt v0)), (2, .int (Int32.ofInt v1)), (3, .int (Int32.ofInt v2)), (4, .int (Int32.ofInt v3))] [.int (Int32.ofInt 1), .int (Int32.ofInt v1)] := by
  obtain ⟨l0, D0, cy0, ax0⟩ := X0
  have hraw : eW E 0 0 L f 24 [(0, .ref r0), (1, .int (Int32.ofInt (0 + (1 * v0 + 0)))), (2, .int (Int32.ofInt (0 + (1 * v1 + 0)))), (3, .int (Int32.ofInt (0 + (1 * v2 + 0)))), (4, .int (Int32.ofInt (0 + (1 * v3 + 0))))] [.int (Int32.ofInt (1 + 0)), .int (Int32.ofInt (0 + (1 * v1 + 0)))] := ?_
  · simpa only [Int.zero_add, Int.one_mul, Int.add_zero] using hraw
  have rq0 : 0 ≤ ((-1) + (1 * v0 + ((-1) * v4 + 0))) := by simpa only [Int.zero_add, Int.one_mul, Int.add_zero] using hq0
  have rm0 : (∀ b ∈ L, K b = 69 → (0 : Int) ≤ (0 + (1 * v3 + 0)) ∧ gi (f b) (((0 + (1 * v3 + 0)) : Int)).toNat = (0 + (1 * v4 + 0))) := by simpa only [Int.zero_add, Int.one_mul, Int.add_zero] using hm0
  have rm1 : (∀ b ∈ L, K b = 70 → (0 : Int) ≤ (0 + (1 * v3 + 0)) ∧ gi (f b) (((0 + (1 * v3 + 0)) : Int)).toNat = (0 + (1 * v5 + 0))) := by simpa only [Int.zero_add, Int.one_mul, Int.add_zero] using hm1
  refine seg_ok (D := D_tr24b) (νi := fun i => [v0, v1, v2, v3, v4, v5].getD i 0) (μi := fun i => [r0].getD i 0) k_tr24b hE (mk_ok (ins := iX1_traded) jX1_traded fX1_ok lX1_ok kX1_ok kkX1_ok H) (by decide) rfl rfl rfl rfl hh ?_ ?_
  · refine ⟨(eok_of (fun i q hq => ?_) (fun i hi => ?_)), (fa_cons (rq0) fa0), fa0, ?_, (fa_cons (Amok hh (show (zkd 69).1 = 2 by decide) (by decide) rm0) (fa_cons (Amok hh (show (zkd 70).1 = 2 by decide) (by decide) rm1) fa0)), fa0, fa0⟩
    · match i, hq with
      | 0, hq => cases hq; exact hb0
      | 1, hq => cases hq; exact hb1
      | 2, hq => cases hq; exact hb2
      | 3, hq => cases hq; exact hb3
      | 4, hq => cases hq; exact hb4
      | 5, hq => cases hq; exact hb5
      | i + 6, hq => cases hq
    · match i, hi with
      | 0, hi => exact absurd hi (by decide)
      | 1, hi => exact absurd hi (by decide)
      | 2, hi => exact absurd hi (by decide)
      | 3, hi => exact absurd hi (by decide)
      | 4, hi => exact absurd hi (by decide)
      | 5, hi => exact absurd hi (by decide)
      | i + 6, _ => rfl
    · intro i k hk
      match i, hk with
      | 0, hk => cases hk; exact hr0
      | i + 1, hk => cases hk
  · intro q hq hst K' B' L' f' ν μ h1 h2 h3 h4 h5
    have e0 : ν 0 = v0 := h4 0 (by decide)
    have e1 : ν 1 = v1 := h4 1 (by decide)
    have e2 : ν 2 = v2 := h4 2 (by decide)
    have e3 : ν 3 = v3 := h4 3 (by decide)
    have e4 : ν 4 = v4 := h4 4 (by decide)
    have e5 : ν 5 = v5 := h4 5 (by decide)
    have d0 : μ 0 = r0 := h5 0 (by decide)
    subst e0
    subst e1
    subst e2
    subst e3
    subst e4
    subst e5
    subst d0
    replace hq : q ∈ u_tr24b := hq
    unfold u_tr24b at hq
    simp only [List.mem_cons, List.not_mem_nil, or_false] at hq
    rcases hq with rfl
    · have hst2 : eW E 0 0 L' f' 58 [(0, .ref (μ 0)), (1, .int (Int32.ofInt (0 + (1 * ν 0 + 0)))), (2, .int (Int32.ofInt (0 + (1 * ν 1 + 0)))), (3, .int (Int32.ofInt (0 + (1 * ν 2 + 0)))), (4, .int (Int32.ofInt (0 + (1 * ν 3 + 0))))] [.int (Int32.ofInt (0 + (1 * ν 3 + 0))), .ref (μ 1), .int (Int32.ofInt (0 + (1 * ν 2 + 0)))] := ?_
      · exact hst2
      try simp only [Int.zero_add, Int.one_mul, Int.add_zero]
      exact k58 K' B' L' f'  (μ 1) h1 h2 (h3.1 0) (h3.1 1) (h3.1 2) (h3.1 3) (h3.1 4) (h3.1 5) (by simpa only [xv, xvT, Int.zero_add, Int.one_mul, Int.add_zero] using (h3.2.1 _ (List.mem_of_getElem? (i := 0) rfl))) (h3.2.2.2.1 0 62 rfl) (h3.2.2.2.1 1 68 rfl) (by simpa only [xv, xvT, Int.zero_add, Int.one_mul, Int.add_zero] using (mokA h1 (show (zkd 69).1 = 2 by decide) (by decide) (h3.2.2.2.2.1 _ (List.mem_of_getElem? (i := 0) rfl)))) (by simpa only [xv, xvT, Int.zero_add, Int.one_mul, Int.add_zero] using (mokA h1 (show (zkd 70).1 = 2 by decide) (by decide) (h3.2.2.2.2.1 _ (List.mem_of_getElem? (i := 1) rfl))))

/-! tr59z: from 59 to [7] -/
def w_tr59z : TP := ([(0, (2, 0, (0, []))), (1, (0, 0, (0, [(1, 0)]))), (2, (0, 0, (0, [(1, 1)]))), (3, (0, 0, (0, [(1, 2)]))), (4, (0, 0, (0, [(1, 3)])))], [(0, 0, (1, [])), (0, 0, (0, [(1, 2)]))], ([((-2147483648), 2147483647), (0, 1089), (0, 990), (0, 9)], [], [], [62], [], [], []), [], [])
def u_tr59z : List (Nat × TP × EX × Nat × Nat) := [(7, ([(0, (2, 0, (0, []))), (1, (0, 0, (0, [(1, 0)]))), (2, (0, 0, (0, [(1, 1)]))), (3, (0, 0, (0, [(1, 2)]))), (4, (0, 0, (1, [(1, 3)])))], [], ([((-2147483648), 2147483647), (0, 1089), (0, 990), (0, 9)], [], [], [62], [], [], []), [], []), ((-1), []), 0, 0)]
def D_tr59z : DT := (mkD iX1_traded fX1 lX1 kX1 kkX1 427 [] (w_tr59z, [], [], 1, 0, 0, 3) false 5 u_tr59z)
theorem k_tr59z : chkS D_tr59z 4000 0 0 59 = true := by decide +kernel
theorem s_tr59z {X0 : zC0} {E : zCx} (H : ∀ j, j < 427 → CMj X0 j) (hE : zOk E X0 RX1 cX1_traded 5 (zrm 1 0 0)) {K : Nat → Nat} {B : Int} {L : List Nat} {f : Nat → va_E} (hh : hok X0.2.2.1 K B L f) {v0 v1 v2 v3 : Int} {r0 : Nat} (hb0 : (-2147483648) ≤ v0 ∧ v0 ≤ 2147483647) (hb1 : 0 ≤ v1 ∧ v1 ≤ 1089) (hb2 : 0 ≤ v2 ∧ v2 ≤ 990) (hb3 : 0 ≤ v3 ∧ v3 ≤ 9) (hr0 : r0 ∈ L ∧ K r0 = 62) (k7 : ∀ (K' : Nat → Nat) (B' : Int) (L' : List Nat) (f' : Nat → va_E), hok X0.2.2.1 K' B' L' f' → extC [] K B L f K' B' L' f' → ((-2147483648) ≤ v0 ∧ v0 ≤ 2147483647) → (0 ≤ v1 ∧ v1 ≤ 1089) → (0 ≤ v2 ∧ v2 ≤ 990) → (0 ≤ v3 ∧ v3 ≤ 9) → (r0 ∈ L' ∧ K' r0 = 62) → eW E 0 0 L' f' 7 [(0, .ref r0), (1, .int (Int32.ofInt v0)), (2, .int (Int32.ofInt v1)), (3, .int (Int32.ofInt v2)), (4, .int (Int32.ofInt (1 + v3)))] []) : eW E 0 0 L f 59 [(0, .ref r0), (1, .int (Int32.ofInt v0)), (2, .int (Int32.ofInt v1)), (3, .int (Int32.ofInt v2)), (4, .int (Int32.ofInt v3))] [.int (Int32.ofInt 1), .int (Int32.ofInt v2)] := by
  obtain ⟨l0, D0, cy0, ax0⟩ := X0
  have hraw : eW E 0 0 L f 59 [(0, .ref r0), (1, .int (Int32.ofInt (0 + (1 * v0 + 0)))), (2, .int (Int32.ofInt (0 + (1 * v1 + 0)))), (3, .int (Int32.ofInt (0 + (1 * v2 + 0)))), (4, .int (Int32.ofInt (0 + (1 * v3 + 0))))] [.int (Int32.ofInt (1 + 0)), .int (Int32.ofInt (0 + (1 * v2 + 0)))] := ?_
  · simpa only [Int.zero_add, Int.one_mul, Int.add_zero] using hraw
  refine seg_ok (D := D_tr59z) (νi := fun i => [v0, v1, v2, v3].getD i 0) (μi := fun i => [r0].getD i 0) k_tr59z hE (mk_ok (ins := iX1_traded) jX1_traded fX1_ok lX1_ok kX1_ok kkX1_ok H) (by decide) rfl rfl rfl rfl hh ?_ ?_
  · refine ⟨(eok_of (fun i q hq => ?_) (fun i hi => ?_)), fa0, fa0, ?_, fa0, fa0, fa0⟩
    · match i, hq with
      | 0, hq => cases hq; exact hb0
      | 1, hq => cases hq; exact hb1
      | 2, hq => cases hq; exact hb2
      | 3, hq => cases hq; exact hb3
      | i + 4, hq => cases hq
    · match i, hi with
      | 0, hi => exact absurd hi (by decide)
      | 1, hi => exact absurd hi (by decide)
      | 2, hi => exact absurd hi (by decide)
      | 3, hi => exact absurd hi (by decide)
      | i + 4, _ => rfl
    · intro i k hk
      match i, hk with
      | 0, hk => cases hk; exact hr0
      | i + 1, hk => cases hk
  · intro q hq hst K' B' L' f' ν μ h1 h2 h3 h4 h5
    have e0 : ν 0 = v0 := h4 0 (by decide)
    have e1 : ν 1 = v1 := h4 1 (by decide)
    have e2 : ν 2 = v2 := h4 2 (by decide)
    have e3 : ν 3 = v3 := h4 3 (by decide)
    have d0 : μ 0 = r0 := h5 0 (by decide)
    subst e0
    subst e1
    subst e2
    subst e3
    subst d0
    replace hq : q ∈ u_tr59z := hq
    unfold u_tr59z at hq
    simp only [List.mem_cons, List.not_mem_nil, or_false] at hq
    rcases hq with rfl
    · have hst2 : eW E 0 0 L' f' 7 [(0, .ref (μ 0)), (1, .int (Int32.ofInt (0 + (1 * ν 0 + 0)))), (2, .int (Int32.ofInt (0 + (1 * ν 1 + 0)))), (3, .int (Int32.ofInt (0 + (1 * ν 2 + 0)))), (4, .int (Int32.ofInt (1 + (1 * ν 3 + 0))))] [] := ?_
      · exact hst2
      try simp only [Int.zero_add, Int.one_mul, Int.add_zero]
      exact k7 K' B' L' f'   h1 h2 (h3.1 0) (h3.1 1) (h3.1 2) (h3.1 3) (h3.2.2.2.1 0 62 rfl)

/-! tr59a: from 59 to [7] -/
def w_tr59a : TP := ([(0, (2, 0, (0, []))), (1, (0, 0, (0, [(1, 0)]))), (2, (0, 0, (0, [(1, 1)]))), (3, (0, 0, (0, [(1, 2)]))), (4, (0, 0, (0, [(1, 3)])))], [(0, 0, (0, [])), (0, 0, (0, [(1, 2)]))], ([((-2147483648), 2147483647), (0, 1089), (0, 990), (0, 9), (0, 99), (0, 99)], [(0, [(1, 0), ((-1), 4)])], [], [62], [((69, (0, [(1, 3)])), (0, [(1, 4)])), ((70, (0, [(1, 3)])), (0, [(1, 5)]))], [], []), [], [])
def u_tr59a : List (Nat × TP × EX × Nat × Nat) := [(7, ([(0, (2, 0, (0, []))), (1, (0, 0, (0, [(1, 0)]))), (2, (0, 0, (0, [(1, 1)]))), (3, (0, 0, (0, [(1, 5), (1, 2)]))), (4, (0, 0, (1, [(1, 3)])))], [], ([(0, 2147483647), (0, 1089), (0, 990), (0, 9), (0, 99), (0, 99)], [(0, [(1, 0), ((-1), 4)])], [], [62], [((69, (0, [(1, 3)])), (0, [(1, 4)])), ((70, (0, [(1, 3)])), (0, [(1, 5)]))], [], []), [], []), ((-1), []), 0, 0)]
def D_tr59a : DT := (mkD iX1_traded fX1 lX1 kX1 kkX1 427 [] (w_tr59a, [], [], 1, 0, 0, 3) false 5 u_tr59a)
theorem k_tr59a : chkS D_tr59a 4000 0 0 59 = true := by decide +kernel
theorem s_tr59a {X0 : zC0} {E : zCx} (H : ∀ j, j < 427 → CMj X0 j) (hE : zOk E X0 RX1 cX1_traded 5 (zrm 1 0 0)) {K : Nat → Nat} {B : Int} {L : List Nat} {f : Nat → va_E} (hh : hok X0.2.2.1 K B L f) {v0 v1 v2 v3 v4 v5 : Int} {r0 : Nat} (hb0 : (-2147483648) ≤ v0 ∧ v0 ≤ 2147483647) (hb1 : 0 ≤ v1 ∧ v1 ≤ 1089) (hb2 : 0 ≤ v2 ∧ v2 ≤ 990) (hb3 : 0 ≤ v3 ∧ v3 ≤ 9) (hb4 : 0 ≤ v4 ∧ v4 ≤ 99) (hb5 : 0 ≤ v5 ∧ v5 ≤ 99) (hq0 : 0 ≤ (v0 + ((-1) * v4))) (hr0 : r0 ∈ L ∧ K r0 = 62) (hm0 : (∀ b ∈ L, K b = 69 → (0 : Int) ≤ v3 ∧ gi (f b) ((v3 : Int)).toNat = v4)) (hm1 : (∀ b ∈ L, K b = 70 → (0 : Int) ≤ v3 ∧ gi (f b) ((v3 : Int)).toNat = v5)) (k7 : ∀ (K' : Nat → Nat) (B' : Int) (L' : List Nat) (f' : Nat → va_E), hok X0.2.2.1 K' B' L' f' → extC [] K B L f K' B' L' f' → (0 ≤ v0 ∧ v0 ≤ 2147483647) → (0 ≤ v1 ∧ v1 ≤ 1089) → (0 ≤ v2 ∧ v2 ≤ 990) → (0 ≤ v3 ∧ v3 ≤ 9) → (0 ≤ v4 ∧ v4 ≤ 99) → (0 ≤ v5 ∧ v5 ≤ 99) → (0 ≤ (v0 + ((-1) * v4))) → (r0 ∈ L' ∧ K' r0 = 62) → (∀ b ∈ L', K' b = 69 → (0 : Int) ≤ v3 ∧ gi (f' b) ((v3 : Int)).toNat = v4) → (∀ b ∈ L', K' b = 70 → (0 : Int) ≤ v3 ∧ gi (f' b) ((v3 : Int)).toNat = v5) → eW E 0 0 L' f' 7 [(0, .ref r0), (1, .int (Int32.ofInt v0)), (2, .int (Int32.ofInt v1)), (3, .int (Int32.ofInt (v5 + v2))), (4, .int (Int32.ofInt (1 + v3)))] []) : eW E 0 0 L f 59 [(0, .ref r0), (1, .int (Int32.ofInt v0)), (2, .int (Int32.ofInt v1)), (3, .int (Int32.ofInt v2)), (4, .int (Int32.ofInt v3))] [.int (Int32.ofInt 0), .int (Int32.ofInt v2)] := by
  obtain ⟨l0, D0, cy0, ax0⟩ := X0
  have hraw : eW E 0 0 L f 59 [(0, .ref r0), (1, .int (Int32.ofInt (0 + (1 * v0 + 0)))), (2, .int (Int32.ofInt (0 + (1 * v1 + 0)))), (3, .int (Int32.ofInt (0 + (1 * v2 + 0)))), (4, .int (Int32.ofInt (0 + (1 * v3 + 0))))] [.int (Int32.ofInt (0 + 0)), .int (Int32.ofInt (0 + (1 * v2 + 0)))] := ?_
  · simpa only [Int.zero_add, Int.one_mul, Int.add_zero] using hraw
  have rq0 : 0 ≤ (0 + (1 * v0 + ((-1) * v4 + 0))) := by simpa only [Int.zero_add, Int.one_mul, Int.add_zero] using hq0
  have rm0 : (∀ b ∈ L, K b = 69 → (0 : Int) ≤ (0 + (1 * v3 + 0)) ∧ gi (f b) (((0 + (1 * v3 + 0)) : Int)).toNat = (0 + (1 * v4 + 0))) := by simpa only [Int.zero_add, Int.one_mul, Int.add_zero] using hm0
  have rm1 : (∀ b ∈ L, K b = 70 → (0 : Int) ≤ (0 + (1 * v3 + 0)) ∧ gi (f b) (((0 + (1 * v3 + 0)) : Int)).toNat = (0 + (1 * v5 + 0))) := by simpa only [Int.zero_add, Int.one_mul, Int.add_zero] using hm1
  refine seg_ok (D := D_tr59a) (νi := fun i => [v0, v1, v2, v3, v4, v5].getD i 0) (μi := fun i => [r0].getD i 0) k_tr59a hE (mk_ok (ins := iX1_traded) jX1_traded fX1_ok lX1_ok kX1_ok kkX1_ok H) (by decide) rfl rfl rfl rfl hh ?_ ?_
  · refine ⟨(eok_of (fun i q hq => ?_) (fun i hi => ?_)), (fa_cons (rq0) fa0), fa0, ?_, (fa_cons (Amok hh (show (zkd 69).1 = 2 by decide) (by decide) rm0) (fa_cons (Amok hh (show (zkd 70).1 = 2 by decide) (by decide) rm1) fa0)), fa0, fa0⟩
    · match i, hq with
      | 0, hq => cases hq; exact hb0
      | 1, hq => cases hq; exact hb1
      | 2, hq => cases hq; exact hb2
      | 3, hq => cases hq; exact hb3
      | 4, hq => cases hq; exact hb4
      | 5, hq => cases hq; exact hb5
      | i + 6, hq => cases hq
    · match i, hi with
      | 0, hi => exact absurd hi (by decide)
      | 1, hi => exact absurd hi (by decide)
      | 2, hi => exact absurd hi (by decide)
      | 3, hi => exact absurd hi (by decide)
      | 4, hi => exact absurd hi (by decide)
      | 5, hi => exact absurd hi (by decide)
      | i + 6, _ => rfl
    · intro i k hk
      match i, hk with
      | 0, hk => cases hk; exact hr0
      | i + 1, hk => cases hk
  · intro q hq hst K' B' L' f' ν μ h1 h2 h3 h4 h5
    have e0 : ν 0 = v0 := h4 0 (by decide)
    have e1 : ν 1 = v1 := h4 1 (by decide)
    have e2 : ν 2 = v2 := h4 2 (by decide)
    have e3 : ν 3 = v3 := h4 3 (by decide)
    have e4 : ν 4 = v4 := h4 4 (by decide)
    have e5 : ν 5 = v5 := h4 5 (by decide)
    have d0 : μ 0 = r0 := h5 0 (by decide)
    subst e0
    subst e1
    subst e2
    subst e3
    subst e4
    subst e5
    subst d0
    replace hq : q ∈ u_tr59a := hq
    unfold u_tr59a at hq
    simp only [List.mem_cons, List.not_mem_nil, or_false] at hq
    rcases hq with rfl
    · have hst2 : eW E 0 0 L' f' 7 [(0, .ref (μ 0)), (1, .int (Int32.ofInt (0 + (1 * ν 0 + 0)))), (2, .int (Int32.ofInt (0 + (1 * ν 1 + 0)))), (3, .int (Int32.ofInt (0 + (1 * ν 5 + (1 * ν 2 + 0))))), (4, .int (Int32.ofInt (1 + (1 * ν 3 + 0))))] [] := ?_
      · exact hst2
      try simp only [Int.zero_add, Int.one_mul, Int.add_zero]
      exact k7 K' B' L' f'   h1 h2 (h3.1 0) (h3.1 1) (h3.1 2) (h3.1 3) (h3.1 4) (h3.1 5) (by simpa only [xv, xvT, Int.zero_add, Int.one_mul, Int.add_zero] using (h3.2.1 _ (List.mem_of_getElem? (i := 0) rfl))) (h3.2.2.2.1 0 62 rfl) (by simpa only [xv, xvT, Int.zero_add, Int.one_mul, Int.add_zero] using (mokA h1 (show (zkd 69).1 = 2 by decide) (by decide) (h3.2.2.2.2.1 _ (List.mem_of_getElem? (i := 0) rfl)))) (by simpa only [xv, xvT, Int.zero_add, Int.one_mul, Int.add_zero] using (mokA h1 (show (zkd 70).1 = 2 by decide) (by decide) (h3.2.2.2.2.1 _ (List.mem_of_getElem? (i := 1) rfl))))

/-! tr59b: from 59 to [7] -/
def w_tr59b : TP := ([(0, (2, 0, (0, []))), (1, (0, 0, (0, [(1, 0)]))), (2, (0, 0, (0, [(1, 1)]))), (3, (0, 0, (0, [(1, 2)]))), (4, (0, 0, (0, [(1, 3)])))], [(0, 0, (0, [])), (0, 0, (0, [(1, 2)]))], ([((-2147483648), 2147483647), (0, 1089), (0, 990), (0, 9), (0, 99), (0, 99)], [((-1), [(1, 4), ((-1), 0)])], [], [62], [((69, (0, [(1, 3)])), (0, [(1, 4)])), ((70, (0, [(1, 3)])), (0, [(1, 5)]))], [], []), [], [])
def u_tr59b : List (Nat × TP × EX × Nat × Nat) := [(7, ([(0, (2, 0, (0, []))), (1, (0, 0, (0, [(1, 0)]))), (2, (0, 0, (0, [(1, 1)]))), (3, (0, 0, (0, [(1, 2)]))), (4, (0, 0, (1, [(1, 3)])))], [], ([((-2147483648), 98), (0, 1089), (0, 990), (0, 9), (0, 99), (0, 99)], [((-1), [((-1), 0), (1, 4)])], [], [62], [((69, (0, [(1, 3)])), (0, [(1, 4)])), ((70, (0, [(1, 3)])), (0, [(1, 5)]))], [], []), [], []), ((-1), []), 0, 0)]
def D_tr59b : DT := (mkD iX1_traded fX1 lX1 kX1 kkX1 427 [] (w_tr59b, [], [], 1, 0, 0, 3) false 5 u_tr59b)
theorem k_tr59b : chkS D_tr59b 4000 0 0 59 = true := by decide +kernel
theorem s_tr59b {X0 : zC0} {E : zCx} (H : ∀ j, j < 427 → CMj X0 j) (hE : zOk E X0 RX1 cX1_traded 5 (zrm 1 0 0)) {K : Nat → Nat} {B : Int} {L : List Nat} {f : Nat → va_E} (hh : hok X0.2.2.1 K B L f) {v0 v1 v2 v3 v4 v5 : Int} {r0 : Nat} (hb0 : (-2147483648) ≤ v0 ∧ v0 ≤ 2147483647) (hb1 : 0 ≤ v1 ∧ v1 ≤ 1089) (hb2 : 0 ≤ v2 ∧ v2 ≤ 990) (hb3 : 0 ≤ v3 ∧ v3 ≤ 9) (hb4 : 0 ≤ v4 ∧ v4 ≤ 99) (hb5 : 0 ≤ v5 ∧ v5 ≤ 99) (hq0 : 0 ≤ ((-1) + (v4 + ((-1) * v0)))) (hr0 : r0 ∈ L ∧ K r0 = 62) (hm0 : (∀ b ∈ L, K b = 69 → (0 : Int) ≤ v3 ∧ gi (f b) ((v3 : Int)).toNat = v4)) (hm1 : (∀ b ∈ L, K b = 70 → (0 : Int) ≤ v3 ∧ gi (f b) ((v3 : Int)).toNat = v5)) (k7 : ∀ (K' : Nat → Nat) (B' : Int) (L' : List Nat) (f' : Nat → va_E), hok X0.2.2.1 K' B' L' f' → extC [] K B L f K' B' L' f' → ((-2147483648) ≤ v0 ∧ v0 ≤ 98) → (0 ≤ v1 ∧ v1 ≤ 1089) → (0 ≤ v2 ∧ v2 ≤ 990) → (0 ≤ v3 ∧ v3 ≤ 9) → (0 ≤ v4 ∧ v4 ≤ 99) → (0 ≤ v5 ∧ v5 ≤ 99) → (0 ≤ ((-1) + ((-1) * v0 + v4))) → (r0 ∈ L' ∧ K' r0 = 62) → (∀ b ∈ L', K' b = 69 → (0 : Int) ≤ v3 ∧ gi (f' b) ((v3 : Int)).toNat = v4) → (∀ b ∈ L', K' b = 70 → (0 : Int) ≤ v3 ∧ gi (f' b) ((v3 : Int)).toNat = v5) → eW E 0 0 L' f' 7 [(0, .ref r0), (1, .int (Int32.ofInt v0)), (2, .int (Int32.ofInt v1)), (3, .int (Int32.ofInt v2)), (4, .int (Int32.ofInt (1 + v3)))] []) : eW E 0 0 L f 59 [(0, .ref r0), (1, .int (Int32.ofInt v0)), (2, .int (Int32.ofInt v1)), (3, .int (Int32.ofInt v2)), (4, .int (Int32.ofInt v3))] [.int (Int32.ofInt 0), .int (Int32.ofInt v2)] := by
  obtain ⟨l0, D0, cy0, ax0⟩ := X0
  have hraw : eW E 0 0 L f 59 [(0, .ref r0), (1, .int (Int32.ofInt (0 + (1 * v0 + 0)))), (2, .int (Int32.ofInt (0 + (1 * v1 + 0)))), (3, .int (Int32.ofInt (0 + (1 * v2 + 0)))), (4, .int (Int32.ofInt (0 + (1 * v3 + 0))))] [.int (Int32.ofInt (0 + 0)), .int (Int32.ofInt (0 + (1 * v2 + 0)))] := ?_
  · simpa only [Int.zero_add, Int.one_mul, Int.add_zero] using hraw
  have rq0 : 0 ≤ ((-1) + (1 * v4 + ((-1) * v0 + 0))) := by simpa only [Int.zero_add, Int.one_mul, Int.add_zero] using hq0
  have rm0 : (∀ b ∈ L, K b = 69 → (0 : Int) ≤ (0 + (1 * v3 + 0)) ∧ gi (f b) (((0 + (1 * v3 + 0)) : Int)).toNat = (0 + (1 * v4 + 0))) := by simpa only [Int.zero_add, Int.one_mul, Int.add_zero] using hm0
  have rm1 : (∀ b ∈ L, K b = 70 → (0 : Int) ≤ (0 + (1 * v3 + 0)) ∧ gi (f b) (((0 + (1 * v3 + 0)) : Int)).toNat = (0 + (1 * v5 + 0))) := by simpa only [Int.zero_add, Int.one_mul, Int.add_zero] using hm1
  refine seg_ok (D := D_tr59b) (νi := fun i => [v0, v1, v2, v3, v4, v5].getD i 0) (μi := fun i => [r0].getD i 0) k_tr59b hE (mk_ok (ins := iX1_traded) jX1_traded fX1_ok lX1_ok kX1_ok kkX1_ok H) (by decide) rfl rfl rfl rfl hh ?_ ?_
  · refine ⟨(eok_of (fun i q hq => ?_) (fun i hi => ?_)), (fa_cons (rq0) fa0), fa0, ?_, (fa_cons (Amok hh (show (zkd 69).1 = 2 by decide) (by decide) rm0) (fa_cons (Amok hh (show (zkd 70).1 = 2 by decide) (by decide) rm1) fa0)), fa0, fa0⟩
    · match i, hq with
      | 0, hq => cases hq; exact hb0
      | 1, hq => cases hq; exact hb1
      | 2, hq => cases hq; exact hb2
      | 3, hq => cases hq; exact hb3
      | 4, hq => cases hq; exact hb4
      | 5, hq => cases hq; exact hb5
      | i + 6, hq => cases hq
    · match i, hi with
      | 0, hi => exact absurd hi (by decide)
      | 1, hi => exact absurd hi (by decide)
      | 2, hi => exact absurd hi (by decide)
      | 3, hi => exact absurd hi (by decide)
      | 4, hi => exact absurd hi (by decide)
      | 5, hi => exact absurd hi (by decide)
      | i + 6, _ => rfl
    · intro i k hk
      match i, hk with
      | 0, hk => cases hk; exact hr0
      | i + 1, hk => cases hk
  · intro q hq hst K' B' L' f' ν μ h1 h2 h3 h4 h5
    have e0 : ν 0 = v0 := h4 0 (by decide)
    have e1 : ν 1 = v1 := h4 1 (by decide)
    have e2 : ν 2 = v2 := h4 2 (by decide)
    have e3 : ν 3 = v3 := h4 3 (by decide)
    have e4 : ν 4 = v4 := h4 4 (by decide)
    have e5 : ν 5 = v5 := h4 5 (by decide)
    have d0 : μ 0 = r0 := h5 0 (by decide)
    subst e0
    subst e1
    subst e2
    subst e3
    subst e4
    subst e5
    subst d0
    replace hq : q ∈ u_tr59b := hq
    unfold u_tr59b at hq
    simp only [List.mem_cons, List.not_mem_nil, or_false] at hq
    rcases hq with rfl
    · have hst2 : eW E 0 0 L' f' 7 [(0, .ref (μ 0)), (1, .int (Int32.ofInt (0 + (1 * ν 0 + 0)))), (2, .int (Int32.ofInt (0 + (1 * ν 1 + 0)))), (3, .int (Int32.ofInt (0 + (1 * ν 2 + 0)))), (4, .int (Int32.ofInt (1 + (1 * ν 3 + 0))))] [] := ?_
      · exact hst2
      try simp only [Int.zero_add, Int.one_mul, Int.add_zero]
      exact k7 K' B' L' f'   h1 h2 (h3.1 0) (h3.1 1) (h3.1 2) (h3.1 3) (h3.1 4) (h3.1 5) (by simpa only [xv, xvT, Int.zero_add, Int.one_mul, Int.add_zero] using (h3.2.1 _ (List.mem_of_getElem? (i := 0) rfl))) (h3.2.2.2.1 0 62 rfl) (by simpa only [xv, xvT, Int.zero_add, Int.one_mul, Int.add_zero] using (mokA h1 (show (zkd 69).1 = 2 by decide) (by decide) (h3.2.2.2.2.1 _ (List.mem_of_getElem? (i := 0) rfl)))) (by simpa only [xv, xvT, Int.zero_add, Int.one_mul, Int.add_zero] using (mokA h1 (show (zkd 70).1 = 2 by decide) (by decide) (h3.2.2.2.2.1 _ (List.mem_of_getElem? (i := 1) rfl))))

/-! tr92a: from 92 to [97] -/
def w_tr92a : TP := ([(0, (2, 0, (0, []))), (1, (0, 0, (0, [(1, 0)]))), (2, (0, 0, (0, [(1, 1)]))), (3, (0, 0, (0, [(1, 2)]))), (4, (0, 0, (0, [(1, 3)])))], [], ([((-2147483648), 2147483647), (0, 990), (0, 990), (0, 10)], [((-1), [(1, 2), ((-1), 1)])], [], [62], [], [], []), [], [])
def u_tr92a : List (Nat × TP × EX × Nat × Nat) := [(97, ([(0, (2, 0, (0, []))), (1, (0, 0, (0, [(1, 0)]))), (2, (0, 0, (0, [(1, 1)]))), (3, (0, 0, (0, [(1, 2)]))), (4, (0, 0, (0, [(1, 3)])))], [(0, 0, (0, [(1, 1)]))], ([((-2147483648), 2147483647), (0, 990), (0, 990), (0, 10)], [(0, [(1, 2), ((-1), 1)]), ((-1), [((-1), 1), (1, 2)])], [], [62], [], [], []), [], []), ((-1), []), 0, 0)]
def D_tr92a : DT := (mkD iX1_traded fX1 lX1 kX1 kkX1 427 [] (w_tr92a, [], [], 1, 0, 0, 3) false 5 u_tr92a)
theorem k_tr92a : chkS D_tr92a 4000 0 0 92 = true := by decide +kernel
theorem s_tr92a {X0 : zC0} {E : zCx} (H : ∀ j, j < 427 → CMj X0 j) (hE : zOk E X0 RX1 cX1_traded 5 (zrm 1 0 0)) {K : Nat → Nat} {B : Int} {L : List Nat} {f : Nat → va_E} (hh : hok X0.2.2.1 K B L f) {v0 v1 v2 v3 : Int} {r0 : Nat} (hb0 : (-2147483648) ≤ v0 ∧ v0 ≤ 2147483647) (hb1 : 0 ≤ v1 ∧ v1 ≤ 990) (hb2 : 0 ≤ v2 ∧ v2 ≤ 990) (hb3 : 0 ≤ v3 ∧ v3 ≤ 10) (hq0 : 0 ≤ ((-1) + (v2 + ((-1) * v1)))) (hr0 : r0 ∈ L ∧ K r0 = 62) (k97 : ∀ (K' : Nat → Nat) (B' : Int) (L' : List Nat) (f' : Nat → va_E), hok X0.2.2.1 K' B' L' f' → extC [] K B L f K' B' L' f' → ((-2147483648) ≤ v0 ∧ v0 ≤ 2147483647) → (0 ≤ v1 ∧ v1 ≤ 990) → (0 ≤ v2 ∧ v2 ≤ 990) → (0 ≤ v3 ∧ v3 ≤ 10) → (0 ≤ (v2 + ((-1) * v1))) → (0 ≤ ((-1) + ((-1) * v1 + v2))) → (r0 ∈ L' ∧ K' r0 = 62) → eW E 0 0 L' f' 97 [(0, .ref r0), (1, .int (Int32.ofInt v0)), (2, .int (Int32.ofInt v1)), (3, .int (Int32.ofInt v2)), (4, .int (Int32.ofInt v3))] [.int (Int32.ofInt v1)]) : eW E 0 0 L f 92 [(0, .ref r0), (1, .int (Int32.ofInt v0)), (2, .int (Int32.ofInt v1)), (3, .int (Int32.ofInt v2)), (4, .int (Int32.ofInt v3))] [] := by
  obtain ⟨l0, D0, cy0, ax0⟩ := X0
  have hraw : eW E 0 0 L f 92 [(0, .ref r0), (1, .int (Int32.ofInt (0 + (1 * v0 + 0)))), (2, .int (Int32.ofInt (0 + (1 * v1 + 0)))), (3, .int (Int32.ofInt (0 + (1 * v2 + 0)))), (4, .int (Int32.ofInt (0 + (1 * v3 + 0))))] [] := ?_
  · simpa only [Int.zero_add, Int.one_mul, Int.add_zero] using hraw
  have rq0 : 0 ≤ ((-1) + (1 * v2 + ((-1) * v1 + 0))) := by simpa only [Int.zero_add, Int.one_mul, Int.add_zero] using hq0
  refine seg_ok (D := D_tr92a) (νi := fun i => [v0, v1, v2, v3].getD i 0) (μi := fun i => [r0].getD i 0) k_tr92a hE (mk_ok (ins := iX1_traded) jX1_traded fX1_ok lX1_ok kX1_ok kkX1_ok H) (by decide) rfl rfl rfl rfl hh ?_ ?_
  · refine ⟨(eok_of (fun i q hq => ?_) (fun i hi => ?_)), (fa_cons (rq0) fa0), fa0, ?_, fa0, fa0, fa0⟩
    · match i, hq with
      | 0, hq => cases hq; exact hb0
      | 1, hq => cases hq; exact hb1
      | 2, hq => cases hq; exact hb2
      | 3, hq => cases hq; exact hb3
      | i + 4, hq => cases hq
    · match i, hi with
      | 0, hi => exact absurd hi (by decide)
      | 1, hi => exact absurd hi (by decide)
      | 2, hi => exact absurd hi (by decide)
      | 3, hi => exact absurd hi (by decide)
      | i + 4, _ => rfl
    · intro i k hk
      match i, hk with
      | 0, hk => cases hk; exact hr0
      | i + 1, hk => cases hk
  · intro q hq hst K' B' L' f' ν μ h1 h2 h3 h4 h5
    have e0 : ν 0 = v0 := h4 0 (by decide)
    have e1 : ν 1 = v1 := h4 1 (by decide)
    have e2 : ν 2 = v2 := h4 2 (by decide)
    have e3 : ν 3 = v3 := h4 3 (by decide)
    have d0 : μ 0 = r0 := h5 0 (by decide)
    subst e0
    subst e1
    subst e2
    subst e3
    subst d0
    replace hq : q ∈ u_tr92a := hq
    unfold u_tr92a at hq
    simp only [List.mem_cons, List.not_mem_nil, or_false] at hq
    rcases hq with rfl
    · have hst2 : eW E 0 0 L' f' 97 [(0, .ref (μ 0)), (1, .int (Int32.ofInt (0 + (1 * ν 0 + 0)))), (2, .int (Int32.ofInt (0 + (1 * ν 1 + 0)))), (3, .int (Int32.ofInt (0 + (1 * ν 2 + 0)))), (4, .int (Int32.ofInt (0 + (1 * ν 3 + 0))))] [.int (Int32.ofInt (0 + (1 * ν 1 + 0)))] := ?_
      · exact hst2
      try simp only [Int.zero_add, Int.one_mul, Int.add_zero]
      exact k97 K' B' L' f'   h1 h2 (h3.1 0) (h3.1 1) (h3.1 2) (h3.1 3) (by simpa only [xv, xvT, Int.zero_add, Int.one_mul, Int.add_zero] using (h3.2.1 _ (List.mem_of_getElem? (i := 0) rfl))) (by simpa only [xv, xvT, Int.zero_add, Int.one_mul, Int.add_zero] using (h3.2.1 _ (List.mem_of_getElem? (i := 1) rfl))) (h3.2.2.2.1 0 62 rfl)

/-! tr92b: from 92 to [97] -/
def w_tr92b : TP := ([(0, (2, 0, (0, []))), (1, (0, 0, (0, [(1, 0)]))), (2, (0, 0, (0, [(1, 1)]))), (3, (0, 0, (0, [(1, 2)]))), (4, (0, 0, (0, [(1, 3)])))], [], ([((-2147483648), 2147483647), (0, 990), (0, 990), (0, 10)], [(0, [(1, 1), ((-1), 2)])], [], [62], [], [], []), [], [])
def u_tr92b : List (Nat × TP × EX × Nat × Nat) := [(97, ([(0, (2, 0, (0, []))), (1, (0, 0, (0, [(1, 0)]))), (2, (0, 0, (0, [(1, 1)]))), (3, (0, 0, (0, [(1, 2)]))), (4, (0, 0, (0, [(1, 3)])))], [(0, 0, (0, [(1, 4)]))], ([((-2147483648), 2147483647), (0, 990), (0, 990), (0, 10), (0, 990)], [(0, [((-1), 2), (1, 1)]), (0, [(1, 1), ((-1), 4)]), (0, [(1, 2), ((-1), 4)]), (0, [(1, 4), ((-1), 2)])], [], [62], [], [], []), [(1, 0, (0, []))], []), ((-1), []), 0, 0)]
def D_tr92b : DT := (mkD iX1_traded fX1 lX1 kX1 kkX1 427 [] (w_tr92b, [], [], 1, 0, 0, 3) false 5 u_tr92b)
theorem k_tr92b : chkS D_tr92b 4000 0 0 92 = true := by decide +kernel
theorem s_tr92b {X0 : zC0} {E : zCx} (H : ∀ j, j < 427 → CMj X0 j) (hE : zOk E X0 RX1 cX1_traded 5 (zrm 1 0 0)) {K : Nat → Nat} {B : Int} {L : List Nat} {f : Nat → va_E} (hh : hok X0.2.2.1 K B L f) {v0 v1 v2 v3 : Int} {r0 : Nat} (hb0 : (-2147483648) ≤ v0 ∧ v0 ≤ 2147483647) (hb1 : 0 ≤ v1 ∧ v1 ≤ 990) (hb2 : 0 ≤ v2 ∧ v2 ≤ 990) (hb3 : 0 ≤ v3 ∧ v3 ≤ 10) (hq0 : 0 ≤ (v1 + ((-1) * v2))) (hr0 : r0 ∈ L ∧ K r0 = 62) (k97 : ∀ (K' : Nat → Nat) (B' : Int) (L' : List Nat) (f' : Nat → va_E) (v4 : Int), hok X0.2.2.1 K' B' L' f' → extC [] K B L f K' B' L' f' → ((-2147483648) ≤ v0 ∧ v0 ≤ 2147483647) → (0 ≤ v1 ∧ v1 ≤ 990) → (0 ≤ v2 ∧ v2 ≤ 990) → (0 ≤ v3 ∧ v3 ≤ 10) → (0 ≤ v4 ∧ v4 ≤ 990) → (0 ≤ ((-1) * v2 + v1)) → (0 ≤ (v1 + ((-1) * v4))) → (0 ≤ (v2 + ((-1) * v4))) → (0 ≤ (v4 + ((-1) * v2))) → (r0 ∈ L' ∧ K' r0 = 62) → eW E 0 0 L' f' 97 [(0, .ref r0), (1, .int (Int32.ofInt v0)), (2, .int (Int32.ofInt v1)), (3, .int (Int32.ofInt v2)), (4, .int (Int32.ofInt v3))] [.int (Int32.ofInt v4)]) : eW E 0 0 L f 92 [(0, .ref r0), (1, .int (Int32.ofInt v0)), (2, .int (Int32.ofInt v1)), (3, .int (Int32.ofInt v2)), (4, .int (Int32.ofInt v3))] [] := by
  obtain ⟨l0, D0, cy0, ax0⟩ := X0
  have hraw : eW E 0 0 L f 92 [(0, .ref r0), (1, .int (Int32.ofInt (0 + (1 * v0 + 0)))), (2, .int (Int32.ofInt (0 + (1 * v1 + 0)))), (3, .int (Int32.ofInt (0 + (1 * v2 + 0)))), (4, .int (Int32.ofInt (0 + (1 * v3 + 0))))] [] := ?_
  · simpa only [Int.zero_add, Int.one_mul, Int.add_zero] using hraw
  have rq0 : 0 ≤ (0 + (1 * v1 + ((-1) * v2 + 0))) := by simpa only [Int.zero_add, Int.one_mul, Int.add_zero] using hq0
  refine seg_ok (D := D_tr92b) (νi := fun i => [v0, v1, v2, v3].getD i 0) (μi := fun i => [r0].getD i 0) k_tr92b hE (mk_ok (ins := iX1_traded) jX1_traded fX1_ok lX1_ok kX1_ok kkX1_ok H) (by decide) rfl rfl rfl rfl hh ?_ ?_
  · refine ⟨(eok_of (fun i q hq => ?_) (fun i hi => ?_)), (fa_cons (rq0) fa0), fa0, ?_, fa0, fa0, fa0⟩
    · match i, hq with
      | 0, hq => cases hq; exact hb0
      | 1, hq => cases hq; exact hb1
      | 2, hq => cases hq; exact hb2
      | 3, hq => cases hq; exact hb3
      | i + 4, hq => cases hq
    · match i, hi with
      | 0, hi => exact absurd hi (by decide)
      | 1, hi => exact absurd hi (by decide)
      | 2, hi => exact absurd hi (by decide)
      | 3, hi => exact absurd hi (by decide)
      | i + 4, _ => rfl
    · intro i k hk
      match i, hk with
      | 0, hk => cases hk; exact hr0
      | i + 1, hk => cases hk
  · intro q hq hst K' B' L' f' ν μ h1 h2 h3 h4 h5
    have e0 : ν 0 = v0 := h4 0 (by decide)
    have e1 : ν 1 = v1 := h4 1 (by decide)
    have e2 : ν 2 = v2 := h4 2 (by decide)
    have e3 : ν 3 = v3 := h4 3 (by decide)
    have d0 : μ 0 = r0 := h5 0 (by decide)
    subst e0
    subst e1
    subst e2
    subst e3
    subst d0
    replace hq : q ∈ u_tr92b := hq
    unfold u_tr92b at hq
    simp only [List.mem_cons, List.not_mem_nil, or_false] at hq
    rcases hq with rfl
    · have hst2 : eW E 0 0 L' f' 97 [(0, .ref (μ 0)), (1, .int (Int32.ofInt (0 + (1 * ν 0 + 0)))), (2, .int (Int32.ofInt (0 + (1 * ν 1 + 0)))), (3, .int (Int32.ofInt (0 + (1 * ν 2 + 0)))), (4, .int (Int32.ofInt (0 + (1 * ν 3 + 0))))] [.int (Int32.ofInt (0 + (1 * ν 4 + 0)))] := ?_
      · exact hst2
      try simp only [Int.zero_add, Int.one_mul, Int.add_zero]
      exact k97 K' B' L' f' (ν 4)  h1 h2 (h3.1 0) (h3.1 1) (h3.1 2) (h3.1 3) (h3.1 4) (by simpa only [xv, xvT, Int.zero_add, Int.one_mul, Int.add_zero] using (h3.2.1 _ (List.mem_of_getElem? (i := 0) rfl))) (by simpa only [xv, xvT, Int.zero_add, Int.one_mul, Int.add_zero] using (h3.2.1 _ (List.mem_of_getElem? (i := 1) rfl))) (by simpa only [xv, xvT, Int.zero_add, Int.one_mul, Int.add_zero] using (h3.2.1 _ (List.mem_of_getElem? (i := 2) rfl))) (by simpa only [xv, xvT, Int.zero_add, Int.one_mul, Int.add_zero] using (h3.2.1 _ (List.mem_of_getElem? (i := 3) rfl))) (h3.2.2.2.1 0 62 rfl)

/-! tt0: from 0 to [7] -/
def w_tt0 : TP := ([(0, (2, 0, (0, []))), (1, (0, 0, (0, [(1, 0)])))], [], ([((-2147483648), 2147483647)], [], [], [200], [], [], []), [], [])
def u_tt0 : List (Nat × TP × EX × Nat × Nat) := [(7, ([(0, (2, 0, (0, []))), (1, (0, 0, (0, [(1, 0)]))), (2, (0, 0, (0, []))), (3, (0, 0, (0, []))), (4, (0, 0, (0, [])))], [], ([((-2147483648), 2147483647)], [], [], [200], [], [], []), [], []), ((-1), []), 0, 0)]
def D_tt0 : DT := (mkD iX12_tradedAt fX12 lX12 kX12 kkX12 427 [] (w_tt0, [], [], 1, 0, 0, 3) false 6 u_tt0)
theorem k_tt0 : chkS D_tt0 4000 0 0 0 = true := by decide +kernel
theorem s_tt0 {X0 : zC0} {E : zCx} (H : ∀ j, j < 427 → CMj X0 j) (hE : zOk E X0 RX12 cX12_tradedAt 6 (zrm 1 0 0)) {K : Nat → Nat} {B : Int} {L : List Nat} {f : Nat → va_E} (hh : hok X0.2.2.1 K B L f) {v0 : Int} {r0 : Nat} (hb0 : (-2147483648) ≤ v0 ∧ v0 ≤ 2147483647) (hr0 : r0 ∈ L ∧ K r0 = 200) (k7 : ∀ (K' : Nat → Nat) (B' : Int) (L' : List Nat) (f' : Nat → va_E), hok X0.2.2.1 K' B' L' f' → extC [] K B L f K' B' L' f' → ((-2147483648) ≤ v0 ∧ v0 ≤ 2147483647) → (r0 ∈ L' ∧ K' r0 = 200) → eW E 0 0 L' f' 7 [(0, .ref r0), (1, .int (Int32.ofInt v0)), (2, .int (Int32.ofInt 0)), (3, .int (Int32.ofInt 0)), (4, .int (Int32.ofInt 0))] []) : eW E 0 0 L f 0 [(0, .ref r0), (1, .int (Int32.ofInt v0))] [] := by
  obtain ⟨l0, D0, cy0, ax0⟩ := X0
  have hraw : eW E 0 0 L f 0 [(0, .ref r0), (1, .int (Int32.ofInt (0 + (1 * v0 + 0))))] [] := ?_
  · simpa only [Int.zero_add, Int.one_mul, Int.add_zero] using hraw
  refine seg_ok (D := D_tt0) (νi := fun i => [v0].getD i 0) (μi := fun i => [r0].getD i 0) k_tt0 hE (mk_ok (ins := iX12_tradedAt) jX12_tradedAt fX12_ok lX12_ok kX12_ok kkX12_ok H) (by decide) rfl rfl rfl rfl hh ?_ ?_
  · refine ⟨(eok_of (fun i q hq => ?_) (fun i hi => ?_)), fa0, fa0, ?_, fa0, fa0, fa0⟩
    · match i, hq with
      | 0, hq => cases hq; exact hb0
      | i + 1, hq => cases hq
    · match i, hi with
      | 0, hi => exact absurd hi (by decide)
      | i + 1, _ => rfl
    · intro i k hk
      match i, hk with
      | 0, hk => cases hk; exact hr0
      | i + 1, hk => cases hk
  · intro q hq hst K' B' L' f' ν μ h1 h2 h3 h4 h5
    have e0 : ν 0 = v0 := h4 0 (by decide)
    have d0 : μ 0 = r0 := h5 0 (by decide)
    subst e0
    subst d0
    replace hq : q ∈ u_tt0 := hq
    unfold u_tt0 at hq
    simp only [List.mem_cons, List.not_mem_nil, or_false] at hq
    rcases hq with rfl
    · have hst2 : eW E 0 0 L' f' 7 [(0, .ref (μ 0)), (1, .int (Int32.ofInt (0 + (1 * ν 0 + 0)))), (2, .int (Int32.ofInt (0 + 0))), (3, .int (Int32.ofInt (0 + 0))), (4, .int (Int32.ofInt (0 + 0)))] [] := ?_
      · exact hst2
      try simp only [Int.zero_add, Int.one_mul, Int.add_zero]
      exact k7 K' B' L' f'   h1 h2 (h3.1 0) (h3.2.2.2.1 0 200 rfl)

/-! tt7: from 7 to [19, 107] -/
def w_tt7 : TP := ([(0, (2, 0, (0, []))), (1, (0, 0, (0, [(1, 0)]))), (2, (0, 0, (0, [(1, 1)]))), (3, (0, 0, (0, [(1, 2)]))), (4, (0, 0, (0, [(1, 3)])))], [], ([((-2147483648), 2147483647), (0, 990), (0, 990), (0, 10)], [], [], [200], [], [], []), [], [])
def u_tt7 : List (Nat × TP × EX × Nat × Nat) := [(19, ([(0, (2, 0, (0, []))), (1, (0, 0, (0, [(1, 0)]))), (2, (0, 0, (0, [(1, 1)]))), (3, (0, 0, (0, [(1, 2)]))), (4, (0, 0, (0, [(1, 3)])))], [], ([((-2147483648), 2147483647), (0, 990), (0, 990), (0, 9), (1, 10)], [((-1), [((-1), 3), (1, 4)])], [], [200], [((201, (12, [])), (0, [(1, 4)]))], [], []), [(2, 201, (12, []))], []), ((-1), []), 0, 0), (107, ([(0, (2, 0, (0, []))), (1, (0, 0, (0, [(1, 0)]))), (2, (0, 0, (0, [(1, 1)]))), (3, (0, 0, (0, [(1, 2)]))), (4, (0, 0, (0, [(1, 3)])))], [], ([((-2147483648), 2147483647), (0, 990), (0, 990), (0, 10), (0, 10)], [(0, [(1, 3), ((-1), 4)])], [], [200], [((201, (12, [])), (0, [(1, 4)]))], [], []), [(2, 201, (12, []))], []), ((-1), []), 0, 0)]
def D_tt7 : DT := (mkD iX12_tradedAt fX12 lX12 kX12 kkX12 427 [] (w_tt7, [], [], 1, 0, 0, 3) false 6 u_tt7)
theorem k_tt7 : chkS D_tt7 4000 0 0 7 = true := by decide +kernel
theorem s_tt7 {X0 : zC0} {E : zCx} (H : ∀ j, j < 427 → CMj X0 j) (hE : zOk E X0 RX12 cX12_tradedAt 6 (zrm 1 0 0)) {K : Nat → Nat} {B : Int} {L : List Nat} {f : Nat → va_E} (hh : hok X0.2.2.1 K B L f) {v0 v1 v2 v3 : Int} {r0 : Nat} (hb0 : (-2147483648) ≤ v0 ∧ v0 ≤ 2147483647) (hb1 : 0 ≤ v1 ∧ v1 ≤ 990) (hb2 : 0 ≤ v2 ∧ v2 ≤ 990) (hb3 : 0 ≤ v3 ∧ v3 ≤ 10) (hr0 : r0 ∈ L ∧ K r0 = 200) (k19 : ∀ (K' : Nat → Nat) (B' : Int) (L' : List Nat) (f' : Nat → va_E) (v4 : Int), hok X0.2.2.1 K' B' L' f' → extC [] K B L f K' B' L' f' → ((-2147483648) ≤ v0 ∧ v0 ≤ 2147483647) → (0 ≤ v1 ∧ v1 ≤ 990) → (0 ≤ v2 ∧ v2 ≤ 990) → (0 ≤ v3 ∧ v3 ≤ 9) → (1 ≤ v4 ∧ v4 ≤ 10) → (0 ≤ ((-1) + ((-1) * v3 + v4))) → (r0 ∈ L' ∧ K' r0 = 200) → (∀ b ∈ L', K' b = 201 → (0 : Int) ≤ 12 ∧ gi (f' b) ((12 : Int)).toNat = v4) → eW E 0 0 L' f' 19 [(0, .ref r0), (1, .int (Int32.ofInt v0)), (2, .int (Int32.ofInt v1)), (3, .int (Int32.ofInt v2)), (4, .int (Int32.ofInt v3))] []) (k107 : ∀ (K' : Nat → Nat) (B' : Int) (L' : List Nat) (f' : Nat → va_E) (v4 : Int), hok X0.2.2.1 K' B' L' f' → extC [] K B L f K' B' L' f' → ((-2147483648) ≤ v0 ∧ v0 ≤ 2147483647) → (0 ≤ v1 ∧ v1 ≤ 990) → (0 ≤ v2 ∧ v2 ≤ 990) → (0 ≤ v3 ∧ v3 ≤ 10) → (0 ≤ v4 ∧ v4 ≤ 10) → (0 ≤ (v3 + ((-1) * v4))) → (r0 ∈ L' ∧ K' r0 = 200) → (∀ b ∈ L', K' b = 201 → (0 : Int) ≤ 12 ∧ gi (f' b) ((12 : Int)).toNat = v4) → eW E 0 0 L' f' 107 [(0, .ref r0), (1, .int (Int32.ofInt v0)), (2, .int (Int32.ofInt v1)), (3, .int (Int32.ofInt v2)), (4, .int (Int32.ofInt v3))] []) : eW E 0 0 L f 7 [(0, .ref r0), (1, .int (Int32.ofInt v0)), (2, .int (Int32.ofInt v1)), (3, .int (Int32.ofInt v2)), (4, .int (Int32.ofInt v3))] [] := by
  obtain ⟨l0, D0, cy0, ax0⟩ := X0
  have hraw : eW E 0 0 L f 7 [(0, .ref r0), (1, .int (Int32.ofInt (0 + (1 * v0 + 0)))), (2, .int (Int32.ofInt (0 + (1 * v1 + 0)))), (3, .int (Int32.ofInt (0 + (1 * v2 + 0)))), (4, .int (Int32.ofInt (0 + (1 * v3 + 0))))] [] := ?_
  · simpa only [Int.zero_add, Int.one_mul, Int.add_zero] using hraw
  refine seg_ok (D := D_tt7) (νi := fun i => [v0, v1, v2, v3].getD i 0) (μi := fun i => [r0].getD i 0) k_tt7 hE (mk_ok (ins := iX12_tradedAt) jX12_tradedAt fX12_ok lX12_ok kX12_ok kkX12_ok H) (by decide) rfl rfl rfl rfl hh ?_ ?_
  · refine ⟨(eok_of (fun i q hq => ?_) (fun i hi => ?_)), fa0, fa0, ?_, fa0, fa0, fa0⟩
    · match i, hq with
      | 0, hq => cases hq; exact hb0
      | 1, hq => cases hq; exact hb1
      | 2, hq => cases hq; exact hb2
      | 3, hq => cases hq; exact hb3
      | i + 4, hq => cases hq
    · match i, hi with
      | 0, hi => exact absurd hi (by decide)
      | 1, hi => exact absurd hi (by decide)
      | 2, hi => exact absurd hi (by decide)
      | 3, hi => exact absurd hi (by decide)
      | i + 4, _ => rfl
    · intro i k hk
      match i, hk with
      | 0, hk => cases hk; exact hr0
      | i + 1, hk => cases hk
  · intro q hq hst K' B' L' f' ν μ h1 h2 h3 h4 h5
    have e0 : ν 0 = v0 := h4 0 (by decide)
    have e1 : ν 1 = v1 := h4 1 (by decide)
    have e2 : ν 2 = v2 := h4 2 (by decide)
    have e3 : ν 3 = v3 := h4 3 (by decide)
    have d0 : μ 0 = r0 := h5 0 (by decide)
    subst e0
    subst e1
    subst e2
    subst e3
    subst d0
    replace hq : q ∈ u_tt7 := hq
    unfold u_tt7 at hq
    simp only [List.mem_cons, List.not_mem_nil, or_false] at hq
    rcases hq with rfl | rfl
    · have hst2 : eW E 0 0 L' f' 19 [(0, .ref (μ 0)), (1, .int (Int32.ofInt (0 + (1 * ν 0 + 0)))), (2, .int (Int32.ofInt (0 + (1 * ν 1 + 0)))), (3, .int (Int32.ofInt (0 + (1 * ν 2 + 0)))), (4, .int (Int32.ofInt (0 + (1 * ν 3 + 0))))] [] := ?_
      · exact hst2
      try simp only [Int.zero_add, Int.one_mul, Int.add_zero]
      exact k19 K' B' L' f' (ν 4)  h1 h2 (h3.1 0) (h3.1 1) (h3.1 2) (h3.1 3) (h3.1 4) (by simpa only [xv, xvT, Int.zero_add, Int.one_mul, Int.add_zero] using (h3.2.1 _ (List.mem_of_getElem? (i := 0) rfl))) (h3.2.2.2.1 0 200 rfl) (by simpa only [xv, xvT, Int.zero_add, Int.one_mul, Int.add_zero] using (mokA h1 (show (zkd 201).1 = 2 by decide) (by decide) (h3.2.2.2.2.1 _ (List.mem_of_getElem? (i := 0) rfl))))
    · have hst2 : eW E 0 0 L' f' 107 [(0, .ref (μ 0)), (1, .int (Int32.ofInt (0 + (1 * ν 0 + 0)))), (2, .int (Int32.ofInt (0 + (1 * ν 1 + 0)))), (3, .int (Int32.ofInt (0 + (1 * ν 2 + 0)))), (4, .int (Int32.ofInt (0 + (1 * ν 3 + 0))))] [] := ?_
      · exact hst2
      try simp only [Int.zero_add, Int.one_mul, Int.add_zero]
      exact k107 K' B' L' f' (ν 4)  h1 h2 (h3.1 0) (h3.1 1) (h3.1 2) (h3.1 3) (h3.1 4) (by simpa only [xv, xvT, Int.zero_add, Int.one_mul, Int.add_zero] using (h3.2.1 _ (List.mem_of_getElem? (i := 0) rfl))) (h3.2.2.2.1 0 200 rfl) (by simpa only [xv, xvT, Int.zero_add, Int.one_mul, Int.add_zero] using (mokA h1 (show (zkd 201).1 = 2 by decide) (by decide) (h3.2.2.2.2.1 _ (List.mem_of_getElem? (i := 0) rfl))))

/-! tt19a: from 19 to [7] -/
def w_tt19a : TP := ([(0, (2, 0, (0, []))), (1, (0, 0, (0, [(1, 0)]))), (2, (0, 0, (0, [(1, 1)]))), (3, (0, 0, (0, [(1, 2)]))), (4, (0, 0, (0, [(1, 3)])))], [], ([((-2147483648), 2147483647), (0, 990), (0, 990), (0, 9), (0, 99), (0, 99)], [(0, [(1, 4), ((-1), 0)])], [], [200], [((201, (157, [(3, 3)])), (0, [(1, 4)])), ((201, (158, [(3, 3)])), (0, [(1, 5)])), ((201, (156, [(3, 3)])), (1, []))], [], []), [], [])
def u_tt19a : List (Nat × TP × EX × Nat × Nat) := [(7, ([(0, (2, 0, (0, []))), (1, (0, 0, (0, [(1, 0)]))), (2, (0, 0, (0, [(1, 5), (1, 1)]))), (3, (0, 0, (0, [(1, 2)]))), (4, (0, 0, (1, [(1, 3)]))), (5, (0, 0, (156, [(3, 3)])))], [], ([((-2147483648), 99), (0, 990), (0, 990), (0, 9), (0, 99), (0, 99)], [(0, [((-1), 0), (1, 4)])], [], [200], [((201, (157, [(3, 3)])), (0, [(1, 4)])), ((201, (158, [(3, 3)])), (0, [(1, 5)])), ((201, (156, [(3, 3)])), (1, []))], [], []), [], []), ((-1), []), 0, 0)]
def D_tt19a : DT := (mkD iX12_tradedAt fX12 lX12 kX12 kkX12 427 [] (w_tt19a, [], [], 1, 0, 0, 3) false 6 u_tt19a)
theorem k_tt19a : chkS D_tt19a 4000 0 0 19 = true := by decide +kernel
theorem s_tt19a {X0 : zC0} {E : zCx} (H : ∀ j, j < 427 → CMj X0 j) (hE : zOk E X0 RX12 cX12_tradedAt 6 (zrm 1 0 0)) {K : Nat → Nat} {B : Int} {L : List Nat} {f : Nat → va_E} (hh : hok X0.2.2.1 K B L f) {v0 v1 v2 v3 v4 v5 : Int} {r0 : Nat} (hb0 : (-2147483648) ≤ v0 ∧ v0 ≤ 2147483647) (hb1 : 0 ≤ v1 ∧ v1 ≤ 990) (hb2 : 0 ≤ v2 ∧ v2 ≤ 990) (hb3 : 0 ≤ v3 ∧ v3 ≤ 9) (hb4 : 0 ≤ v4 ∧ v4 ≤ 99) (hb5 : 0 ≤ v5 ∧ v5 ≤ 99) (hq0 : 0 ≤ (v4 + ((-1) * v0))) (hr0 : r0 ∈ L ∧ K r0 = 200) (hm0 : (∀ b ∈ L, K b = 201 → (0 : Int) ≤ (157 + (3 * v3)) ∧ gi (f b) (((157 + (3 * v3)) : Int)).toNat = v4)) (hm1 : (∀ b ∈ L, K b = 201 → (0 : Int) ≤ (158 + (3 * v3)) ∧ gi (f b) (((158 + (3 * v3)) : Int)).toNat = v5)) (hm2 : (∀ b ∈ L, K b = 201 → (0 : Int) ≤ (156 + (3 * v3)) ∧ gi (f b) (((156 + (3 * v3)) : Int)).toNat = 1)) (k7 : ∀ (K' : Nat → Nat) (B' : Int) (L' : List Nat) (f' : Nat → va_E), hok X0.2.2.1 K' B' L' f' → extC [] K B L f K' B' L' f' → ((-2147483648) ≤ v0 ∧ v0 ≤ 99) → (0 ≤ v1 ∧ v1 ≤ 990) → (0 ≤ v2 ∧ v2 ≤ 990) → (0 ≤ v3 ∧ v3 ≤ 9) → (0 ≤ v4 ∧ v4 ≤ 99) → (0 ≤ v5 ∧ v5 ≤ 99) → (0 ≤ ((-1) * v0 + v4)) → (r0 ∈ L' ∧ K' r0 = 200) → (∀ b ∈ L', K' b = 201 → (0 : Int) ≤ (157 + (3 * v3)) ∧ gi (f' b) (((157 + (3 * v3)) : Int)).toNat = v4) → (∀ b ∈ L', K' b = 201 → (0 : Int) ≤ (158 + (3 * v3)) ∧ gi (f' b) (((158 + (3 * v3)) : Int)).toNat = v5) → (∀ b ∈ L', K' b = 201 → (0 : Int) ≤ (156 + (3 * v3)) ∧ gi (f' b) (((156 + (3 * v3)) : Int)).toNat = 1) → eW E 0 0 L' f' 7 [(0, .ref r0), (1, .int (Int32.ofInt v0)), (2, .int (Int32.ofInt (v5 + v1))), (3, .int (Int32.ofInt v2)), (4, .int (Int32.ofInt (1 + v3))), (5, .int (Int32.ofInt (156 + (3 * v3))))] []) : eW E 0 0 L f 19 [(0, .ref r0), (1, .int (Int32.ofInt v0)), (2, .int (Int32.ofInt v1)), (3, .int (Int32.ofInt v2)), (4, .int (Int32.ofInt v3))] [] := by
  obtain ⟨l0, D0, cy0, ax0⟩ := X0
  have hraw : eW E 0 0 L f 19 [(0, .ref r0), (1, .int (Int32.ofInt (0 + (1 * v0 + 0)))), (2, .int (Int32.ofInt (0 + (1 * v1 + 0)))), (3, .int (Int32.ofInt (0 + (1 * v2 + 0)))), (4, .int (Int32.ofInt (0 + (1 * v3 + 0))))] [] := ?_
  · simpa only [Int.zero_add, Int.one_mul, Int.add_zero] using hraw
  have rq0 : 0 ≤ (0 + (1 * v4 + ((-1) * v0 + 0))) := by simpa only [Int.zero_add, Int.one_mul, Int.add_zero] using hq0
  have rm0 : (∀ b ∈ L, K b = 201 → (0 : Int) ≤ (157 + (3 * v3 + 0)) ∧ gi (f b) (((157 + (3 * v3 + 0)) : Int)).toNat = (0 + (1 * v4 + 0))) := by simpa only [Int.zero_add, Int.one_mul, Int.add_zero] using hm0
  have rm1 : (∀ b ∈ L, K b = 201 → (0 : Int) ≤ (158 + (3 * v3 + 0)) ∧ gi (f b) (((158 + (3 * v3 + 0)) : Int)).toNat = (0 + (1 * v5 + 0))) := by simpa only [Int.zero_add, Int.one_mul, Int.add_zero] using hm1
  have rm2 : (∀ b ∈ L, K b = 201 → (0 : Int) ≤ (156 + (3 * v3 + 0)) ∧ gi (f b) (((156 + (3 * v3 + 0)) : Int)).toNat = (1 + 0)) := by simpa only [Int.zero_add, Int.one_mul, Int.add_zero] using hm2
  refine seg_ok (D := D_tt19a) (νi := fun i => [v0, v1, v2, v3, v4, v5].getD i 0) (μi := fun i => [r0].getD i 0) k_tt19a hE (mk_ok (ins := iX12_tradedAt) jX12_tradedAt fX12_ok lX12_ok kX12_ok kkX12_ok H) (by decide) rfl rfl rfl rfl hh ?_ ?_
  · refine ⟨(eok_of (fun i q hq => ?_) (fun i hi => ?_)), (fa_cons (rq0) fa0), fa0, ?_, (fa_cons (Amok hh (show (zkd 201).1 = 2 by decide) (by decide) rm0) (fa_cons (Amok hh (show (zkd 201).1 = 2 by decide) (by decide) rm1) (fa_cons (Amok hh (show (zkd 201).1 = 2 by decide) (by decide) rm2) fa0))), fa0, fa0⟩
    · match i, hq with
      | 0, hq => cases hq; exact hb0
      | 1, hq => cases hq; exact hb1
      | 2, hq => cases hq; exact hb2
      | 3, hq => cases hq; exact hb3
      | 4, hq => cases hq; exact hb4
      | 5, hq => cases hq; exact hb5
      | i + 6, hq => cases hq
    · match i, hi with
      | 0, hi => exact absurd hi (by decide)
      | 1, hi => exact absurd hi (by decide)
      | 2, hi => exact absurd hi (by decide)
      | 3, hi => exact absurd hi (by decide)
      | 4, hi => exact absurd hi (by decide)
      | 5, hi => exact absurd hi (by decide)
      | i + 6, _ => rfl
    · intro i k hk
      match i, hk with
      | 0, hk => cases hk; exact hr0
      | i + 1, hk => cases hk
  · intro q hq hst K' B' L' f' ν μ h1 h2 h3 h4 h5
    have e0 : ν 0 = v0 := h4 0 (by decide)
    have e1 : ν 1 = v1 := h4 1 (by decide)
    have e2 : ν 2 = v2 := h4 2 (by decide)
    have e3 : ν 3 = v3 := h4 3 (by decide)
    have e4 : ν 4 = v4 := h4 4 (by decide)
    have e5 : ν 5 = v5 := h4 5 (by decide)
    have d0 : μ 0 = r0 := h5 0 (by decide)
    subst e0
    subst e1
    subst e2
    subst e3
    subst e4
    subst e5
    subst d0
    replace hq : q ∈ u_tt19a := hq
    unfold u_tt19a at hq
    simp only [List.mem_cons, List.not_mem_nil, or_false] at hq
    rcases hq with rfl
    · have hst2 : eW E 0 0 L' f' 7 [(0, .ref (μ 0)), (1, .int (Int32.ofInt (0 + (1 * ν 0 + 0)))), (2, .int (Int32.ofInt (0 + (1 * ν 5 + (1 * ν 1 + 0))))), (3, .int (Int32.ofInt (0 + (1 * ν 2 + 0)))), (4, .int (Int32.ofInt (1 + (1 * ν 3 + 0)))), (5, .int (Int32.ofInt (156 + (3 * ν 3 + 0))))] [] := ?_
      · exact hst2
      try simp only [Int.zero_add, Int.one_mul, Int.add_zero]
      exact k7 K' B' L' f'   h1 h2 (h3.1 0) (h3.1 1) (h3.1 2) (h3.1 3) (h3.1 4) (h3.1 5) (by simpa only [xv, xvT, Int.zero_add, Int.one_mul, Int.add_zero] using (h3.2.1 _ (List.mem_of_getElem? (i := 0) rfl))) (h3.2.2.2.1 0 200 rfl) (by simpa only [xv, xvT, Int.zero_add, Int.one_mul, Int.add_zero] using (mokA h1 (show (zkd 201).1 = 2 by decide) (by decide) (h3.2.2.2.2.1 _ (List.mem_of_getElem? (i := 0) rfl)))) (by simpa only [xv, xvT, Int.zero_add, Int.one_mul, Int.add_zero] using (mokA h1 (show (zkd 201).1 = 2 by decide) (by decide) (h3.2.2.2.2.1 _ (List.mem_of_getElem? (i := 1) rfl)))) (by simpa only [xv, xvT, Int.zero_add, Int.one_mul, Int.add_zero] using (mokA h1 (show (zkd 201).1 = 2 by decide) (by decide) (h3.2.2.2.2.1 _ (List.mem_of_getElem? (i := 2) rfl))))

/-! tt19b: from 19 to [7] -/
def w_tt19b : TP := ([(0, (2, 0, (0, []))), (1, (0, 0, (0, [(1, 0)]))), (2, (0, 0, (0, [(1, 1)]))), (3, (0, 0, (0, [(1, 2)]))), (4, (0, 0, (0, [(1, 3)])))], [], ([((-2147483648), 2147483647), (0, 990), (0, 990), (0, 9), (0, 99), (0, 99)], [((-1), [(1, 0), ((-1), 4)])], [], [200], [((201, (157, [(3, 3)])), (0, [(1, 4)])), ((201, (158, [(3, 3)])), (0, [(1, 5)])), ((201, (156, [(3, 3)])), (1, []))], [], []), [], [])
def u_tt19b : List (Nat × TP × EX × Nat × Nat) := [(7, ([(0, (2, 0, (0, []))), (1, (0, 0, (0, [(1, 0)]))), (2, (0, 0, (0, [(1, 1)]))), (3, (0, 0, (0, [(1, 2)]))), (4, (0, 0, (1, [(1, 3)]))), (5, (0, 0, (156, [(3, 3)])))], [], ([(1, 2147483647), (0, 990), (0, 990), (0, 9), (0, 99), (0, 99)], [((-1), [(1, 0), ((-1), 4)])], [], [200], [((201, (157, [(3, 3)])), (0, [(1, 4)])), ((201, (158, [(3, 3)])), (0, [(1, 5)])), ((201, (156, [(3, 3)])), (1, []))], [], []), [], []), ((-1), []), 0, 0)]
def D_tt19b : DT := (mkD iX12_tradedAt fX12 lX12 kX12 kkX12 427 [] (w_tt19b, [], [], 1, 0, 0, 3) false 6 u_tt19b)
theorem k_tt19b : chkS D_tt19b 4000 0 0 19 = true := by decide +kernel
theorem s_tt19b {X0 : zC0} {E : zCx} (H : ∀ j, j < 427 → CMj X0 j) (hE : zOk E X0 RX12 cX12_tradedAt 6 (zrm 1 0 0)) {K : Nat → Nat} {B : Int} {L : List Nat} {f : Nat → va_E} (hh : hok X0.2.2.1 K B L f) {v0 v1 v2 v3 v4 v5 : Int} {r0 : Nat} (hb0 : (-2147483648) ≤ v0 ∧ v0 ≤ 2147483647) (hb1 : 0 ≤ v1 ∧ v1 ≤ 990) (hb2 : 0 ≤ v2 ∧ v2 ≤ 990) (hb3 : 0 ≤ v3 ∧ v3 ≤ 9) (hb4 : 0 ≤ v4 ∧ v4 ≤ 99) (hb5 : 0 ≤ v5 ∧ v5 ≤ 99) (hq0 : 0 ≤ ((-1) + (v0 + ((-1) * v4)))) (hr0 : r0 ∈ L ∧ K r0 = 200) (hm0 : (∀ b ∈ L, K b = 201 → (0 : Int) ≤ (157 + (3 * v3)) ∧ gi (f b) (((157 + (3 * v3)) : Int)).toNat = v4)) (hm1 : (∀ b ∈ L, K b = 201 → (0 : Int) ≤ (158 + (3 * v3)) ∧ gi (f b) (((158 + (3 * v3)) : Int)).toNat = v5)) (hm2 : (∀ b ∈ L, K b = 201 → (0 : Int) ≤ (156 + (3 * v3)) ∧ gi (f b) (((156 + (3 * v3)) : Int)).toNat = 1)) (k7 : ∀ (K' : Nat → Nat) (B' : Int) (L' : List Nat) (f' : Nat → va_E), hok X0.2.2.1 K' B' L' f' → extC [] K B L f K' B' L' f' → (1 ≤ v0 ∧ v0 ≤ 2147483647) → (0 ≤ v1 ∧ v1 ≤ 990) → (0 ≤ v2 ∧ v2 ≤ 990) → (0 ≤ v3 ∧ v3 ≤ 9) → (0 ≤ v4 ∧ v4 ≤ 99) → (0 ≤ v5 ∧ v5 ≤ 99) → (0 ≤ ((-1) + (v0 + ((-1) * v4)))) → (r0 ∈ L' ∧ K' r0 = 200) → (∀ b ∈ L', K' b = 201 → (0 : Int) ≤ (157 + (3 * v3)) ∧ gi (f' b) (((157 + (3 * v3)) : Int)).toNat = v4) → (∀ b ∈ L', K' b = 201 → (0 : Int) ≤ (158 + (3 * v3)) ∧ gi (f' b) (((158 + (3 * v3)) : Int)).toNat = v5) → (∀ b ∈ L', K' b = 201 → (0 : Int) ≤ (156 + (3 * v3)) ∧ gi (f' b) (((156 + (3 * v3)) : Int)).toNat = 1) → eW E 0 0 L' f' 7 [(0, .ref r0), (1, .int (Int32.ofInt v0)), (2, .int (Int32.ofInt v1)), (3, .int (Int32.ofInt v2)), (4, .int (Int32.ofInt (1 + v3))), (5, .int (Int32.ofInt (156 + (3 * v3))))] []) : eW E 0 0 L f 19 [(0, .ref r0), (1, .int (Int32.ofInt v0)), (2, .int (Int32.ofInt v1)), (3, .int (Int32.ofInt v2)), (4, .int (Int32.ofInt v3))] [] := by
  obtain ⟨l0, D0, cy0, ax0⟩ := X0
  have hraw : eW E 0 0 L f 19 [(0, .ref r0), (1, .int (Int32.ofInt (0 + (1 * v0 + 0)))), (2, .int (Int32.ofInt (0 + (1 * v1 + 0)))), (3, .int (Int32.ofInt (0 + (1 * v2 + 0)))), (4, .int (Int32.ofInt (0 + (1 * v3 + 0))))] [] := ?_
  · simpa only [Int.zero_add, Int.one_mul, Int.add_zero] using hraw
  have rq0 : 0 ≤ ((-1) + (1 * v0 + ((-1) * v4 + 0))) := by simpa only [Int.zero_add, Int.one_mul, Int.add_zero] using hq0
  have rm0 : (∀ b ∈ L, K b = 201 → (0 : Int) ≤ (157 + (3 * v3 + 0)) ∧ gi (f b) (((157 + (3 * v3 + 0)) : Int)).toNat = (0 + (1 * v4 + 0))) := by simpa only [Int.zero_add, Int.one_mul, Int.add_zero] using hm0
  have rm1 : (∀ b ∈ L, K b = 201 → (0 : Int) ≤ (158 + (3 * v3 + 0)) ∧ gi (f b) (((158 + (3 * v3 + 0)) : Int)).toNat = (0 + (1 * v5 + 0))) := by simpa only [Int.zero_add, Int.one_mul, Int.add_zero] using hm1
  have rm2 : (∀ b ∈ L, K b = 201 → (0 : Int) ≤ (156 + (3 * v3 + 0)) ∧ gi (f b) (((156 + (3 * v3 + 0)) : Int)).toNat = (1 + 0)) := by simpa only [Int.zero_add, Int.one_mul, Int.add_zero] using hm2
  refine seg_ok (D := D_tt19b) (νi := fun i => [v0, v1, v2, v3, v4, v5].getD i 0) (μi := fun i => [r0].getD i 0) k_tt19b hE (mk_ok (ins := iX12_tradedAt) jX12_tradedAt fX12_ok lX12_ok kX12_ok kkX12_ok H) (by decide) rfl rfl rfl rfl hh ?_ ?_
  · refine ⟨(eok_of (fun i q hq => ?_) (fun i hi => ?_)), (fa_cons (rq0) fa0), fa0, ?_, (fa_cons (Amok hh (show (zkd 201).1 = 2 by decide) (by decide) rm0) (fa_cons (Amok hh (show (zkd 201).1 = 2 by decide) (by decide) rm1) (fa_cons (Amok hh (show (zkd 201).1 = 2 by decide) (by decide) rm2) fa0))), fa0, fa0⟩
    · match i, hq with
      | 0, hq => cases hq; exact hb0
      | 1, hq => cases hq; exact hb1
      | 2, hq => cases hq; exact hb2
      | 3, hq => cases hq; exact hb3
      | 4, hq => cases hq; exact hb4
      | 5, hq => cases hq; exact hb5
      | i + 6, hq => cases hq
    · match i, hi with
      | 0, hi => exact absurd hi (by decide)
      | 1, hi => exact absurd hi (by decide)
      | 2, hi => exact absurd hi (by decide)
      | 3, hi => exact absurd hi (by decide)
      | 4, hi => exact absurd hi (by decide)
      | 5, hi => exact absurd hi (by decide)
      | i + 6, _ => rfl
    · intro i k hk
      match i, hk with
      | 0, hk => cases hk; exact hr0
      | i + 1, hk => cases hk
  · intro q hq hst K' B' L' f' ν μ h1 h2 h3 h4 h5
    have e0 : ν 0 = v0 := h4 0 (by decide)
    have e1 : ν 1 = v1 := h4 1 (by decide)
    have e2 : ν 2 = v2 := h4 2 (by decide)
    have e3 : ν 3 = v3 := h4 3 (by decide)
    have e4 : ν 4 = v4 := h4 4 (by decide)
    have e5 : ν 5 = v5 := h4 5 (by decide)
    have d0 : μ 0 = r0 := h5 0 (by decide)
    subst e0
    subst e1
    subst e2
    subst e3
    subst e4
    subst e5
    subst d0
    replace hq : q ∈ u_tt19b := hq
    unfold u_tt19b at hq
    simp only [List.mem_cons, List.not_mem_nil, or_false] at hq
    rcases hq with rfl
    · have hst2 : eW E 0 0 L' f' 7 [(0, .ref (μ 0)), (1, .int (Int32.ofInt (0 + (1 * ν 0 + 0)))), (2, .int (Int32.ofInt (0 + (1 * ν 1 + 0)))), (3, .int (Int32.ofInt (0 + (1 * ν 2 + 0)))), (4, .int (Int32.ofInt (1 + (1 * ν 3 + 0)))), (5, .int (Int32.ofInt (156 + (3 * ν 3 + 0))))] [] := ?_
      · exact hst2
      try simp only [Int.zero_add, Int.one_mul, Int.add_zero]
      exact k7 K' B' L' f'   h1 h2 (h3.1 0) (h3.1 1) (h3.1 2) (h3.1 3) (h3.1 4) (h3.1 5) (by simpa only [xv, xvT, Int.zero_add, Int.one_mul, Int.add_zero] using (h3.2.1 _ (List.mem_of_getElem? (i := 0) rfl))) (h3.2.2.2.1 0 200 rfl) (by simpa only [xv, xvT, Int.zero_add, Int.one_mul, Int.add_zero] using (mokA h1 (show (zkd 201).1 = 2 by decide) (by decide) (h3.2.2.2.2.1 _ (List.mem_of_getElem? (i := 0) rfl)))) (by simpa only [xv, xvT, Int.zero_add, Int.one_mul, Int.add_zero] using (mokA h1 (show (zkd 201).1 = 2 by decide) (by decide) (h3.2.2.2.2.1 _ (List.mem_of_getElem? (i := 1) rfl)))) (by simpa only [xv, xvT, Int.zero_add, Int.one_mul, Int.add_zero] using (mokA h1 (show (zkd 201).1 = 2 by decide) (by decide) (h3.2.2.2.2.1 _ (List.mem_of_getElem? (i := 2) rfl))))

/-! tt19c: from 19 to [7] -/
def w_tt19c : TP := ([(0, (2, 0, (0, []))), (1, (0, 0, (0, [(1, 0)]))), (2, (0, 0, (0, [(1, 1)]))), (3, (0, 0, (0, [(1, 2)]))), (4, (0, 0, (0, [(1, 3)])))], [], ([((-2147483648), 2147483647), (0, 990), (0, 990), (0, 9), (0, 99), (0, 99)], [(0, [(1, 0), ((-1), 4)])], [], [200], [((201, (157, [(3, 3)])), (0, [(1, 4)])), ((201, (158, [(3, 3)])), (0, [(1, 5)])), ((201, (156, [(3, 3)])), (0, []))], [], []), [], [])
def u_tt19c : List (Nat × TP × EX × Nat × Nat) := [(7, ([(0, (2, 0, (0, []))), (1, (0, 0, (0, [(1, 0)]))), (2, (0, 0, (0, [(1, 1)]))), (3, (0, 0, (0, [(1, 5), (1, 2)]))), (4, (0, 0, (1, [(1, 3)]))), (5, (0, 0, (156, [(3, 3)])))], [], ([(0, 2147483647), (0, 990), (0, 990), (0, 9), (0, 99), (0, 99)], [(0, [(1, 0), ((-1), 4)])], [], [200], [((201, (157, [(3, 3)])), (0, [(1, 4)])), ((201, (158, [(3, 3)])), (0, [(1, 5)])), ((201, (156, [(3, 3)])), (0, []))], [], []), [], []), ((-1), []), 0, 0)]
def D_tt19c : DT := (mkD iX12_tradedAt fX12 lX12 kX12 kkX12 427 [] (w_tt19c, [], [], 1, 0, 0, 3) false 6 u_tt19c)
theorem k_tt19c : chkS D_tt19c 4000 0 0 19 = true := by decide +kernel
theorem s_tt19c {X0 : zC0} {E : zCx} (H : ∀ j, j < 427 → CMj X0 j) (hE : zOk E X0 RX12 cX12_tradedAt 6 (zrm 1 0 0)) {K : Nat → Nat} {B : Int} {L : List Nat} {f : Nat → va_E} (hh : hok X0.2.2.1 K B L f) {v0 v1 v2 v3 v4 v5 : Int} {r0 : Nat} (hb0 : (-2147483648) ≤ v0 ∧ v0 ≤ 2147483647) (hb1 : 0 ≤ v1 ∧ v1 ≤ 990) (hb2 : 0 ≤ v2 ∧ v2 ≤ 990) (hb3 : 0 ≤ v3 ∧ v3 ≤ 9) (hb4 : 0 ≤ v4 ∧ v4 ≤ 99) (hb5 : 0 ≤ v5 ∧ v5 ≤ 99) (hq0 : 0 ≤ (v0 + ((-1) * v4))) (hr0 : r0 ∈ L ∧ K r0 = 200) (hm0 : (∀ b ∈ L, K b = 201 → (0 : Int) ≤ (157 + (3 * v3)) ∧ gi (f b) (((157 + (3 * v3)) : Int)).toNat = v4)) (hm1 : (∀ b ∈ L, K b = 201 → (0 : Int) ≤ (158 + (3 * v3)) ∧ gi (f b) (((158 + (3 * v3)) : Int)).toNat = v5)) (hm2 : (∀ b ∈ L, K b = 201 → (0 : Int) ≤ (156 + (3 * v3)) ∧ gi (f b) (((156 + (3 * v3)) : Int)).toNat = 0)) (k7 : ∀ (K' : Nat → Nat) (B' : Int) (L' : List Nat) (f' : Nat → va_E), hok X0.2.2.1 K' B' L' f' → extC [] K B L f K' B' L' f' → (0 ≤ v0 ∧ v0 ≤ 2147483647) → (0 ≤ v1 ∧ v1 ≤ 990) → (0 ≤ v2 ∧ v2 ≤ 990) → (0 ≤ v3 ∧ v3 ≤ 9) → (0 ≤ v4 ∧ v4 ≤ 99) → (0 ≤ v5 ∧ v5 ≤ 99) → (0 ≤ (v0 + ((-1) * v4))) → (r0 ∈ L' ∧ K' r0 = 200) → (∀ b ∈ L', K' b = 201 → (0 : Int) ≤ (157 + (3 * v3)) ∧ gi (f' b) (((157 + (3 * v3)) : Int)).toNat = v4) → (∀ b ∈ L', K' b = 201 → (0 : Int) ≤ (158 + (3 * v3)) ∧ gi (f' b) (((158 + (3 * v3)) : Int)).toNat = v5) → (∀ b ∈ L', K' b = 201 → (0 : Int) ≤ (156 + (3 * v3)) ∧ gi (f' b) (((156 + (3 * v3)) : Int)).toNat = 0) → eW E 0 0 L' f' 7 [(0, .ref r0), (1, .int (Int32.ofInt v0)), (2, .int (Int32.ofInt v1)), (3, .int (Int32.ofInt (v5 + v2))), (4, .int (Int32.ofInt (1 + v3))), (5, .int (Int32.ofInt (156 + (3 * v3))))] []) : eW E 0 0 L f 19 [(0, .ref r0), (1, .int (Int32.ofInt v0)), (2, .int (Int32.ofInt v1)), (3, .int (Int32.ofInt v2)), (4, .int (Int32.ofInt v3))] [] := by
  obtain ⟨l0, D0, cy0, ax0⟩ := X0
  have hraw : eW E 0 0 L f 19 [(0, .ref r0), (1, .int (Int32.ofInt (0 + (1 * v0 + 0)))), (2, .int (Int32.ofInt (0 + (1 * v1 + 0)))), (3, .int (Int32.ofInt (0 + (1 * v2 + 0)))), (4, .int (Int32.ofInt (0 + (1 * v3 + 0))))] [] := ?_
  · simpa only [Int.zero_add, Int.one_mul, Int.add_zero] using hraw
  have rq0 : 0 ≤ (0 + (1 * v0 + ((-1) * v4 + 0))) := by simpa only [Int.zero_add, Int.one_mul, Int.add_zero] using hq0
  have rm0 : (∀ b ∈ L, K b = 201 → (0 : Int) ≤ (157 + (3 * v3 + 0)) ∧ gi (f b) (((157 + (3 * v3 + 0)) : Int)).toNat = (0 + (1 * v4 + 0))) := by simpa only [Int.zero_add, Int.one_mul, Int.add_zero] using hm0
  have rm1 : (∀ b ∈ L, K b = 201 → (0 : Int) ≤ (158 + (3 * v3 + 0)) ∧ gi (f b) (((158 + (3 * v3 + 0)) : Int)).toNat = (0 + (1 * v5 + 0))) := by simpa only [Int.zero_add, Int.one_mul, Int.add_zero] using hm1
  have rm2 : (∀ b ∈ L, K b = 201 → (0 : Int) ≤ (156 + (3 * v3 + 0)) ∧ gi (f b) (((156 + (3 * v3 + 0)) : Int)).toNat = (0 + 0)) := by simpa only [Int.zero_add, Int.one_mul, Int.add_zero] using hm2
  refine seg_ok (D := D_tt19c) (νi := fun i => [v0, v1, v2, v3, v4, v5].getD i 0) (μi := fun i => [r0].getD i 0) k_tt19c hE (mk_ok (ins := iX12_tradedAt) jX12_tradedAt fX12_ok lX12_ok kX12_ok kkX12_ok H) (by decide) rfl rfl rfl rfl hh ?_ ?_
  · refine ⟨(eok_of (fun i q hq => ?_) (fun i hi => ?_)), (fa_cons (rq0) fa0), fa0, ?_, (fa_cons (Amok hh (show (zkd 201).1 = 2 by decide) (by decide) rm0) (fa_cons (Amok hh (show (zkd 201).1 = 2 by decide) (by decide) rm1) (fa_cons (Amok hh (show (zkd 201).1 = 2 by decide) (by decide) rm2) fa0))), fa0, fa0⟩
    · match i, hq with
      | 0, hq => cases hq; exact hb0
      | 1, hq => cases hq; exact hb1
      | 2, hq => cases hq; exact hb2
      | 3, hq => cases hq; exact hb3
      | 4, hq => cases hq; exact hb4
      | 5, hq => cases hq; exact hb5
      | i + 6, hq => cases hq
    · match i, hi with
      | 0, hi => exact absurd hi (by decide)
      | 1, hi => exact absurd hi (by decide)
      | 2, hi => exact absurd hi (by decide)
      | 3, hi => exact absurd hi (by decide)
      | 4, hi => exact absurd hi (by decide)
      | 5, hi => exact absurd hi (by decide)
      | i + 6, _ => rfl
    · intro i k hk
      match i, hk with
      | 0, hk => cases hk; exact hr0
      | i + 1, hk => cases hk
  · intro q hq hst K' B' L' f' ν μ h1 h2 h3 h4 h5
    have e0 : ν 0 = v0 := h4 0 (by decide)
    have e1 : ν 1 = v1 := h4 1 (by decide)
    have e2 : ν 2 = v2 := h4 2 (by decide)
    have e3 : ν 3 = v3 := h4 3 (by decide)
    have e4 : ν 4 = v4 := h4 4 (by decide)
    have e5 : ν 5 = v5 := h4 5 (by decide)
    have d0 : μ 0 = r0 := h5 0 (by decide)
    subst e0
    subst e1
    subst e2
    subst e3
    subst e4
    subst e5
    subst d0
    replace hq : q ∈ u_tt19c := hq
    unfold u_tt19c at hq
    simp only [List.mem_cons, List.not_mem_nil, or_false] at hq
    rcases hq with rfl
    · have hst2 : eW E 0 0 L' f' 7 [(0, .ref (μ 0)), (1, .int (Int32.ofInt (0 + (1 * ν 0 + 0)))), (2, .int (Int32.ofInt (0 + (1 * ν 1 + 0)))), (3, .int (Int32.ofInt (0 + (1 * ν 5 + (1 * ν 2 + 0))))), (4, .int (Int32.ofInt (1 + (1 * ν 3 + 0)))), (5, .int (Int32.ofInt (156 + (3 * ν 3 + 0))))] [] := ?_
      · exact hst2
      try simp only [Int.zero_add, Int.one_mul, Int.add_zero]
      exact k7 K' B' L' f'   h1 h2 (h3.1 0) (h3.1 1) (h3.1 2) (h3.1 3) (h3.1 4) (h3.1 5) (by simpa only [xv, xvT, Int.zero_add, Int.one_mul, Int.add_zero] using (h3.2.1 _ (List.mem_of_getElem? (i := 0) rfl))) (h3.2.2.2.1 0 200 rfl) (by simpa only [xv, xvT, Int.zero_add, Int.one_mul, Int.add_zero] using (mokA h1 (show (zkd 201).1 = 2 by decide) (by decide) (h3.2.2.2.2.1 _ (List.mem_of_getElem? (i := 0) rfl)))) (by simpa only [xv, xvT, Int.zero_add, Int.one_mul, Int.add_zero] using (mokA h1 (show (zkd 201).1 = 2 by decide) (by decide) (h3.2.2.2.2.1 _ (List.mem_of_getElem? (i := 1) rfl)))) (by simpa only [xv, xvT, Int.zero_add, Int.one_mul, Int.add_zero] using (mokA h1 (show (zkd 201).1 = 2 by decide) (by decide) (h3.2.2.2.2.1 _ (List.mem_of_getElem? (i := 2) rfl))))

/-! tt19d: from 19 to [7] -/
def w_tt19d : TP := ([(0, (2, 0, (0, []))), (1, (0, 0, (0, [(1, 0)]))), (2, (0, 0, (0, [(1, 1)]))), (3, (0, 0, (0, [(1, 2)]))), (4, (0, 0, (0, [(1, 3)])))], [], ([((-2147483648), 2147483647), (0, 990), (0, 990), (0, 9), (0, 99), (0, 99)], [((-1), [(1, 4), ((-1), 0)])], [], [200], [((201, (157, [(3, 3)])), (0, [(1, 4)])), ((201, (158, [(3, 3)])), (0, [(1, 5)])), ((201, (156, [(3, 3)])), (0, []))], [], []), [], [])
def u_tt19d : List (Nat × TP × EX × Nat × Nat) := [(7, ([(0, (2, 0, (0, []))), (1, (0, 0, (0, [(1, 0)]))), (2, (0, 0, (0, [(1, 1)]))), (3, (0, 0, (0, [(1, 2)]))), (4, (0, 0, (1, [(1, 3)]))), (5, (0, 0, (156, [(3, 3)])))], [], ([((-2147483648), 98), (0, 990), (0, 990), (0, 9), (0, 99), (0, 99)], [((-1), [((-1), 0), (1, 4)])], [], [200], [((201, (157, [(3, 3)])), (0, [(1, 4)])), ((201, (158, [(3, 3)])), (0, [(1, 5)])), ((201, (156, [(3, 3)])), (0, []))], [], []), [], []), ((-1), []), 0, 0)]
def D_tt19d : DT := (mkD iX12_tradedAt fX12 lX12 kX12 kkX12 427 [] (w_tt19d, [], [], 1, 0, 0, 3) false 6 u_tt19d)
theorem k_tt19d : chkS D_tt19d 4000 0 0 19 = true := by decide +kernel
theorem s_tt19d {X0 : zC0} {E : zCx} (H : ∀ j, j < 427 → CMj X0 j) (hE : zOk E X0 RX12 cX12_tradedAt 6 (zrm 1 0 0)) {K : Nat → Nat} {B : Int} {L : List Nat} {f : Nat → va_E} (hh : hok X0.2.2.1 K B L f) {v0 v1 v2 v3 v4 v5 : Int} {r0 : Nat} (hb0 : (-2147483648) ≤ v0 ∧ v0 ≤ 2147483647) (hb1 : 0 ≤ v1 ∧ v1 ≤ 990) (hb2 : 0 ≤ v2 ∧ v2 ≤ 990) (hb3 : 0 ≤ v3 ∧ v3 ≤ 9) (hb4 : 0 ≤ v4 ∧ v4 ≤ 99) (hb5 : 0 ≤ v5 ∧ v5 ≤ 99) (hq0 : 0 ≤ ((-1) + (v4 + ((-1) * v0)))) (hr0 : r0 ∈ L ∧ K r0 = 200) (hm0 : (∀ b ∈ L, K b = 201 → (0 : Int) ≤ (157 + (3 * v3)) ∧ gi (f b) (((157 + (3 * v3)) : Int)).toNat = v4)) (hm1 : (∀ b ∈ L, K b = 201 → (0 : Int) ≤ (158 + (3 * v3)) ∧ gi (f b) (((158 + (3 * v3)) : Int)).toNat = v5)) (hm2 : (∀ b ∈ L, K b = 201 → (0 : Int) ≤ (156 + (3 * v3)) ∧ gi (f b) (((156 + (3 * v3)) : Int)).toNat = 0)) (k7 : ∀ (K' : Nat → Nat) (B' : Int) (L' : List Nat) (f' : Nat → va_E), hok X0.2.2.1 K' B' L' f' → extC [] K B L f K' B' L' f' → ((-2147483648) ≤ v0 ∧ v0 ≤ 98) → (0 ≤ v1 ∧ v1 ≤ 990) → (0 ≤ v2 ∧ v2 ≤ 990) → (0 ≤ v3 ∧ v3 ≤ 9) → (0 ≤ v4 ∧ v4 ≤ 99) → (0 ≤ v5 ∧ v5 ≤ 99) → (0 ≤ ((-1) + ((-1) * v0 + v4))) → (r0 ∈ L' ∧ K' r0 = 200) → (∀ b ∈ L', K' b = 201 → (0 : Int) ≤ (157 + (3 * v3)) ∧ gi (f' b) (((157 + (3 * v3)) : Int)).toNat = v4) → (∀ b ∈ L', K' b = 201 → (0 : Int) ≤ (158 + (3 * v3)) ∧ gi (f' b) (((158 + (3 * v3)) : Int)).toNat = v5) → (∀ b ∈ L', K' b = 201 → (0 : Int) ≤ (156 + (3 * v3)) ∧ gi (f' b) (((156 + (3 * v3)) : Int)).toNat = 0) → eW E 0 0 L' f' 7 [(0, .ref r0), (1, .int (Int32.ofInt v0)), (2, .int (Int32.ofInt v1)), (3, .int (Int32.ofInt v2)), (4, .int (Int32.ofInt (1 + v3))), (5, .int (Int32.ofInt (156 + (3 * v3))))] []) : eW E 0 0 L f 19 [(0, .ref r0), (1, .int (Int32.ofInt v0)), (2, .int (Int32.ofInt v1)), (3, .int (Int32.ofInt v2)), (4, .int (Int32.ofInt v3))] [] := by
  obtain ⟨l0, D0, cy0, ax0⟩ := X0
  have hraw : eW E 0 0 L f 19 [(0, .ref r0), (1, .int (Int32.ofInt (0 + (1 * v0 + 0)))), (2, .int (Int32.ofInt (0 + (1 * v1 + 0)))), (3, .int (Int32.ofInt (0 + (1 * v2 + 0)))), (4, .int (Int32.ofInt (0 + (1 * v3 + 0))))] [] := ?_
  · simpa only [Int.zero_add, Int.one_mul, Int.add_zero] using hraw
  have rq0 : 0 ≤ ((-1) + (1 * v4 + ((-1) * v0 + 0))) := by simpa only [Int.zero_add, Int.one_mul, Int.add_zero] using hq0
  have rm0 : (∀ b ∈ L, K b = 201 → (0 : Int) ≤ (157 + (3 * v3 + 0)) ∧ gi (f b) (((157 + (3 * v3 + 0)) : Int)).toNat = (0 + (1 * v4 + 0))) := by simpa only [Int.zero_add, Int.one_mul, Int.add_zero] using hm0
  have rm1 : (∀ b ∈ L, K b = 201 → (0 : Int) ≤ (158 + (3 * v3 + 0)) ∧ gi (f b) (((158 + (3 * v3 + 0)) : Int)).toNat = (0 + (1 * v5 + 0))) := by simpa only [Int.zero_add, Int.one_mul, Int.add_zero] using hm1
  have rm2 : (∀ b ∈ L, K b = 201 → (0 : Int) ≤ (156 + (3 * v3 + 0)) ∧ gi (f b) (((156 + (3 * v3 + 0)) : Int)).toNat = (0 + 0)) := by simpa only [Int.zero_add, Int.one_mul, Int.add_zero] using hm2
  refine seg_ok (D := D_tt19d) (νi := fun i => [v0, v1, v2, v3, v4, v5].getD i 0) (μi := fun i => [r0].getD i 0) k_tt19d hE (mk_ok (ins := iX12_tradedAt) jX12_tradedAt fX12_ok lX12_ok kX12_ok kkX12_ok H) (by decide) rfl rfl rfl rfl hh ?_ ?_
  · refine ⟨(eok_of (fun i q hq => ?_) (fun i hi => ?_)), (fa_cons (rq0) fa0), fa0, ?_, (fa_cons (Amok hh (show (zkd 201).1 = 2 by decide) (by decide) rm0) (fa_cons (Amok hh (show (zkd 201).1 = 2 by decide) (by decide) rm1) (fa_cons (Amok hh (show (zkd 201).1 = 2 by decide) (by decide) rm2) fa0))), fa0, fa0⟩
    · match i, hq with
      | 0, hq => cases hq; exact hb0
      | 1, hq => cases hq; exact hb1
      | 2, hq => cases hq; exact hb2
      | 3, hq => cases hq; exact hb3
      | 4, hq => cases hq; exact hb4
      | 5, hq => cases hq; exact hb5
      | i + 6, hq => cases hq
    · match i, hi with
      | 0, hi => exact absurd hi (by decide)
      | 1, hi => exact absurd hi (by decide)
      | 2, hi => exact absurd hi (by decide)
      | 3, hi => exact absurd hi (by decide)
      | 4, hi => exact absurd hi (by decide)
      | 5, hi => exact absurd hi (by decide)
      | i + 6, _ => rfl
    · intro i k hk
      match i, hk with
      | 0, hk => cases hk; exact hr0
      | i + 1, hk => cases hk
  · intro q hq hst K' B' L' f' ν μ h1 h2 h3 h4 h5
    have e0 : ν 0 = v0 := h4 0 (by decide)
    have e1 : ν 1 = v1 := h4 1 (by decide)
    have e2 : ν 2 = v2 := h4 2 (by decide)
    have e3 : ν 3 = v3 := h4 3 (by decide)
    have e4 : ν 4 = v4 := h4 4 (by decide)
    have e5 : ν 5 = v5 := h4 5 (by decide)
    have d0 : μ 0 = r0 := h5 0 (by decide)
    subst e0
    subst e1
    subst e2
    subst e3
    subst e4
    subst e5
    subst d0
    replace hq : q ∈ u_tt19d := hq
    unfold u_tt19d at hq
    simp only [List.mem_cons, List.not_mem_nil, or_false] at hq
    rcases hq with rfl
    · have hst2 : eW E 0 0 L' f' 7 [(0, .ref (μ 0)), (1, .int (Int32.ofInt (0 + (1 * ν 0 + 0)))), (2, .int (Int32.ofInt (0 + (1 * ν 1 + 0)))), (3, .int (Int32.ofInt (0 + (1 * ν 2 + 0)))), (4, .int (Int32.ofInt (1 + (1 * ν 3 + 0)))), (5, .int (Int32.ofInt (156 + (3 * ν 3 + 0))))] [] := ?_
      · exact hst2
      try simp only [Int.zero_add, Int.one_mul, Int.add_zero]
      exact k7 K' B' L' f'   h1 h2 (h3.1 0) (h3.1 1) (h3.1 2) (h3.1 3) (h3.1 4) (h3.1 5) (by simpa only [xv, xvT, Int.zero_add, Int.one_mul, Int.add_zero] using (h3.2.1 _ (List.mem_of_getElem? (i := 0) rfl))) (h3.2.2.2.1 0 200 rfl) (by simpa only [xv, xvT, Int.zero_add, Int.one_mul, Int.add_zero] using (mokA h1 (show (zkd 201).1 = 2 by decide) (by decide) (h3.2.2.2.2.1 _ (List.mem_of_getElem? (i := 0) rfl)))) (by simpa only [xv, xvT, Int.zero_add, Int.one_mul, Int.add_zero] using (mokA h1 (show (zkd 201).1 = 2 by decide) (by decide) (h3.2.2.2.2.1 _ (List.mem_of_getElem? (i := 1) rfl)))) (by simpa only [xv, xvT, Int.zero_add, Int.one_mul, Int.add_zero] using (mokA h1 (show (zkd 201).1 = 2 by decide) (by decide) (h3.2.2.2.2.1 _ (List.mem_of_getElem? (i := 2) rfl))))

/-! tt107a: from 107 to [117] -/
def w_tt107a : TP := ([(0, (2, 0, (0, []))), (1, (0, 0, (0, [(1, 0)]))), (2, (0, 0, (0, [(1, 1)]))), (3, (0, 0, (0, [(1, 2)]))), (4, (0, 0, (0, [(1, 3)])))], [], ([((-2147483648), 2147483647), (0, 990), (0, 990), (0, 10)], [((-1), [(1, 2), ((-1), 1)])], [], [200], [], [], []), [], [])
def u_tt107a : List (Nat × TP × EX × Nat × Nat) := [(117, ([(0, (2, 0, (0, []))), (1, (0, 0, (0, [(1, 0)]))), (2, (0, 0, (0, [(1, 1)]))), (3, (0, 0, (0, [(1, 2)]))), (4, (0, 0, (0, [(1, 3)])))], [(0, 0, (0, [(1, 1)]))], ([((-2147483648), 2147483647), (0, 989), (1, 990), (0, 10)], [((-1), [((-1), 1), (1, 2)])], [], [200], [], [], []), [], []), ((-1), []), 0, 0)]
def D_tt107a : DT := (mkD iX12_tradedAt fX12 lX12 kX12 kkX12 427 [] (w_tt107a, [], [], 1, 0, 0, 3) false 6 u_tt107a)
theorem k_tt107a : chkS D_tt107a 4000 0 0 107 = true := by decide +kernel
theorem s_tt107a {X0 : zC0} {E : zCx} (H : ∀ j, j < 427 → CMj X0 j) (hE : zOk E X0 RX12 cX12_tradedAt 6 (zrm 1 0 0)) {K : Nat → Nat} {B : Int} {L : List Nat} {f : Nat → va_E} (hh : hok X0.2.2.1 K B L f) {v0 v1 v2 v3 : Int} {r0 : Nat} (hb0 : (-2147483648) ≤ v0 ∧ v0 ≤ 2147483647) (hb1 : 0 ≤ v1 ∧ v1 ≤ 990) (hb2 : 0 ≤ v2 ∧ v2 ≤ 990) (hb3 : 0 ≤ v3 ∧ v3 ≤ 10) (hq0 : 0 ≤ ((-1) + (v2 + ((-1) * v1)))) (hr0 : r0 ∈ L ∧ K r0 = 200) (k117 : ∀ (K' : Nat → Nat) (B' : Int) (L' : List Nat) (f' : Nat → va_E), hok X0.2.2.1 K' B' L' f' → extC [] K B L f K' B' L' f' → ((-2147483648) ≤ v0 ∧ v0 ≤ 2147483647) → (0 ≤ v1 ∧ v1 ≤ 989) → (1 ≤ v2 ∧ v2 ≤ 990) → (0 ≤ v3 ∧ v3 ≤ 10) → (0 ≤ ((-1) + ((-1) * v1 + v2))) → (r0 ∈ L' ∧ K' r0 = 200) → eW E 0 0 L' f' 117 [(0, .ref r0), (1, .int (Int32.ofInt v0)), (2, .int (Int32.ofInt v1)), (3, .int (Int32.ofInt v2)), (4, .int (Int32.ofInt v3))] [.int (Int32.ofInt v1)]) : eW E 0 0 L f 107 [(0, .ref r0), (1, .int (Int32.ofInt v0)), (2, .int (Int32.ofInt v1)), (3, .int (Int32.ofInt v2)), (4, .int (Int32.ofInt v3))] [] := by
  obtain ⟨l0, D0, cy0, ax0⟩ := X0
  have hraw : eW E 0 0 L f 107 [(0, .ref r0), (1, .int (Int32.ofInt (0 + (1 * v0 + 0)))), (2, .int (Int32.ofInt (0 + (1 * v1 + 0)))), (3, .int (Int32.ofInt (0 + (1 * v2 + 0)))), (4, .int (Int32.ofInt (0 + (1 * v3 + 0))))] [] := ?_
  · simpa only [Int.zero_add, Int.one_mul, Int.add_zero] using hraw
  have rq0 : 0 ≤ ((-1) + (1 * v2 + ((-1) * v1 + 0))) := by simpa only [Int.zero_add, Int.one_mul, Int.add_zero] using hq0
  refine seg_ok (D := D_tt107a) (νi := fun i => [v0, v1, v2, v3].getD i 0) (μi := fun i => [r0].getD i 0) k_tt107a hE (mk_ok (ins := iX12_tradedAt) jX12_tradedAt fX12_ok lX12_ok kX12_ok kkX12_ok H) (by decide) rfl rfl rfl rfl hh ?_ ?_
  · refine ⟨(eok_of (fun i q hq => ?_) (fun i hi => ?_)), (fa_cons (rq0) fa0), fa0, ?_, fa0, fa0, fa0⟩
    · match i, hq with
      | 0, hq => cases hq; exact hb0
      | 1, hq => cases hq; exact hb1
      | 2, hq => cases hq; exact hb2
      | 3, hq => cases hq; exact hb3
      | i + 4, hq => cases hq
    · match i, hi with
      | 0, hi => exact absurd hi (by decide)
      | 1, hi => exact absurd hi (by decide)
      | 2, hi => exact absurd hi (by decide)
      | 3, hi => exact absurd hi (by decide)
      | i + 4, _ => rfl
    · intro i k hk
      match i, hk with
      | 0, hk => cases hk; exact hr0
      | i + 1, hk => cases hk
  · intro q hq hst K' B' L' f' ν μ h1 h2 h3 h4 h5
    have e0 : ν 0 = v0 := h4 0 (by decide)
    have e1 : ν 1 = v1 := h4 1 (by decide)
    have e2 : ν 2 = v2 := h4 2 (by decide)
    have e3 : ν 3 = v3 := h4 3 (by decide)
    have d0 : μ 0 = r0 := h5 0 (by decide)
    subst e0
    subst e1
    subst e2
    subst e3
    subst d0
    replace hq : q ∈ u_tt107a := hq
    unfold u_tt107a at hq
    simp only [List.mem_cons, List.not_mem_nil, or_false] at hq
    rcases hq with rfl
    · have hst2 : eW E 0 0 L' f' 117 [(0, .ref (μ 0)), (1, .int (Int32.ofInt (0 + (1 * ν 0 + 0)))), (2, .int (Int32.ofInt (0 + (1 * ν 1 + 0)))), (3, .int (Int32.ofInt (0 + (1 * ν 2 + 0)))), (4, .int (Int32.ofInt (0 + (1 * ν 3 + 0))))] [.int (Int32.ofInt (0 + (1 * ν 1 + 0)))] := ?_
      · exact hst2
      try simp only [Int.zero_add, Int.one_mul, Int.add_zero]
      exact k117 K' B' L' f'   h1 h2 (h3.1 0) (h3.1 1) (h3.1 2) (h3.1 3) (by simpa only [xv, xvT, Int.zero_add, Int.one_mul, Int.add_zero] using (h3.2.1 _ (List.mem_of_getElem? (i := 0) rfl))) (h3.2.2.2.1 0 200 rfl)

/-! tt107b: from 107 to [117] -/
def w_tt107b : TP := ([(0, (2, 0, (0, []))), (1, (0, 0, (0, [(1, 0)]))), (2, (0, 0, (0, [(1, 1)]))), (3, (0, 0, (0, [(1, 2)]))), (4, (0, 0, (0, [(1, 3)])))], [], ([((-2147483648), 2147483647), (0, 990), (0, 990), (0, 10)], [(0, [(1, 1), ((-1), 2)])], [], [200], [], [], []), [], [])
def u_tt107b : List (Nat × TP × EX × Nat × Nat) := [(117, ([(0, (2, 0, (0, []))), (1, (0, 0, (0, [(1, 0)]))), (2, (0, 0, (0, [(1, 1)]))), (3, (0, 0, (0, [(1, 2)]))), (4, (0, 0, (0, [(1, 3)])))], [(0, 0, (0, [(1, 2)]))], ([((-2147483648), 2147483647), (0, 990), (0, 990), (0, 10)], [(0, [(1, 1), ((-1), 2)])], [], [200], [], [], []), [], []), ((-1), []), 0, 0)]
def D_tt107b : DT := (mkD iX12_tradedAt fX12 lX12 kX12 kkX12 427 [] (w_tt107b, [], [], 1, 0, 0, 3) false 6 u_tt107b)
theorem k_tt107b : chkS D_tt107b 4000 0 0 107 = true := by decide +kernel
theorem s_tt107b {X0 : zC0} {E : zCx} (H : ∀ j, j < 427 → CMj X0 j) (hE : zOk E X0 RX12 cX12_tradedAt 6 (zrm 1 0 0)) {K : Nat → Nat} {B : Int} {L : List Nat} {f : Nat → va_E} (hh : hok X0.2.2.1 K B L f) {v0 v1 v2 v3 : Int} {r0 : Nat} (hb0 : (-2147483648) ≤ v0 ∧ v0 ≤ 2147483647) (hb1 : 0 ≤ v1 ∧ v1 ≤ 990) (hb2 : 0 ≤ v2 ∧ v2 ≤ 990) (hb3 : 0 ≤ v3 ∧ v3 ≤ 10) (hq0 : 0 ≤ (v1 + ((-1) * v2))) (hr0 : r0 ∈ L ∧ K r0 = 200) (k117 : ∀ (K' : Nat → Nat) (B' : Int) (L' : List Nat) (f' : Nat → va_E), hok X0.2.2.1 K' B' L' f' → extC [] K B L f K' B' L' f' → ((-2147483648) ≤ v0 ∧ v0 ≤ 2147483647) → (0 ≤ v1 ∧ v1 ≤ 990) → (0 ≤ v2 ∧ v2 ≤ 990) → (0 ≤ v3 ∧ v3 ≤ 10) → (0 ≤ (v1 + ((-1) * v2))) → (r0 ∈ L' ∧ K' r0 = 200) → eW E 0 0 L' f' 117 [(0, .ref r0), (1, .int (Int32.ofInt v0)), (2, .int (Int32.ofInt v1)), (3, .int (Int32.ofInt v2)), (4, .int (Int32.ofInt v3))] [.int (Int32.ofInt v2)]) : eW E 0 0 L f 107 [(0, .ref r0), (1, .int (Int32.ofInt v0)), (2, .int (Int32.ofInt v1)), (3, .int (Int32.ofInt v2)), (4, .int (Int32.ofInt v3))] [] := by
  obtain ⟨l0, D0, cy0, ax0⟩ := X0
  have hraw : eW E 0 0 L f 107 [(0, .ref r0), (1, .int (Int32.ofInt (0 + (1 * v0 + 0)))), (2, .int (Int32.ofInt (0 + (1 * v1 + 0)))), (3, .int (Int32.ofInt (0 + (1 * v2 + 0)))), (4, .int (Int32.ofInt (0 + (1 * v3 + 0))))] [] := ?_
  · simpa only [Int.zero_add, Int.one_mul, Int.add_zero] using hraw
  have rq0 : 0 ≤ (0 + (1 * v1 + ((-1) * v2 + 0))) := by simpa only [Int.zero_add, Int.one_mul, Int.add_zero] using hq0
  refine seg_ok (D := D_tt107b) (νi := fun i => [v0, v1, v2, v3].getD i 0) (μi := fun i => [r0].getD i 0) k_tt107b hE (mk_ok (ins := iX12_tradedAt) jX12_tradedAt fX12_ok lX12_ok kX12_ok kkX12_ok H) (by decide) rfl rfl rfl rfl hh ?_ ?_
  · refine ⟨(eok_of (fun i q hq => ?_) (fun i hi => ?_)), (fa_cons (rq0) fa0), fa0, ?_, fa0, fa0, fa0⟩
    · match i, hq with
      | 0, hq => cases hq; exact hb0
      | 1, hq => cases hq; exact hb1
      | 2, hq => cases hq; exact hb2
      | 3, hq => cases hq; exact hb3
      | i + 4, hq => cases hq
    · match i, hi with
      | 0, hi => exact absurd hi (by decide)
      | 1, hi => exact absurd hi (by decide)
      | 2, hi => exact absurd hi (by decide)
      | 3, hi => exact absurd hi (by decide)
      | i + 4, _ => rfl
    · intro i k hk
      match i, hk with
      | 0, hk => cases hk; exact hr0
      | i + 1, hk => cases hk
  · intro q hq hst K' B' L' f' ν μ h1 h2 h3 h4 h5
    have e0 : ν 0 = v0 := h4 0 (by decide)
    have e1 : ν 1 = v1 := h4 1 (by decide)
    have e2 : ν 2 = v2 := h4 2 (by decide)
    have e3 : ν 3 = v3 := h4 3 (by decide)
    have d0 : μ 0 = r0 := h5 0 (by decide)
    subst e0
    subst e1
    subst e2
    subst e3
    subst d0
    replace hq : q ∈ u_tt107b := hq
    unfold u_tt107b at hq
    simp only [List.mem_cons, List.not_mem_nil, or_false] at hq
    rcases hq with rfl
    · have hst2 : eW E 0 0 L' f' 117 [(0, .ref (μ 0)), (1, .int (Int32.ofInt (0 + (1 * ν 0 + 0)))), (2, .int (Int32.ofInt (0 + (1 * ν 1 + 0)))), (3, .int (Int32.ofInt (0 + (1 * ν 2 + 0)))), (4, .int (Int32.ofInt (0 + (1 * ν 3 + 0))))] [.int (Int32.ofInt (0 + (1 * ν 2 + 0)))] := ?_
      · exact hst2
      try simp only [Int.zero_add, Int.one_mul, Int.add_zero]
      exact k117 K' B' L' f'   h1 h2 (h3.1 0) (h3.1 1) (h3.1 2) (h3.1 3) (by simpa only [xv, xvT, Int.zero_add, Int.one_mul, Int.add_zero] using (h3.2.1 _ (List.mem_of_getElem? (i := 0) rfl))) (h3.2.2.2.1 0 200 rfl)

/-! mkA: from 0 to [35] -/
def w_mkA : TP := ([(0, (2, 0, (0, []))), (1, (0, 0, ((-1), [])))], [], ([], [], [], [197], [], [], []), [], [])
def u_mkA : List (Nat × TP × EX × Nat × Nat) := [(35, ([(0, (2, 0, (0, []))), (1, (0, 0, ((-1), []))), (2, (0, 0, (0, []))), (3, (0, 0, (1, [])))], [], ([], [], [], [197], [], [], []), [], []), ((-1), []), 0, 0)]
def D_mkA : DT := (mkD iX11_market fX11 lX11 kX11 kkX11 427 [] (w_mkA, [], [], 2, 0, 0, 3) false 4 u_mkA)
theorem k_mkA : chkS D_mkA 4000 0 0 0 = true := by decide +kernel
theorem s_mkA {X0 : zC0} {E : zCx} (H : ∀ j, j < 427 → CMj X0 j) (hE : zOk E X0 RX11 cX11_market 4 (zrm 2 0 0)) {K : Nat → Nat} {B : Int} {L : List Nat} {f : Nat → va_E} (hh : hok X0.2.2.1 K B L f) {r0 : Nat} (hr0 : r0 ∈ L ∧ K r0 = 197) (k35 : ∀ (K' : Nat → Nat) (B' : Int) (L' : List Nat) (f' : Nat → va_E), hok X0.2.2.1 K' B' L' f' → extC [] K B L f K' B' L' f' → (r0 ∈ L' ∧ K' r0 = 197) → eW E 0 0 L' f' 35 [(0, .ref r0), (1, .int (Int32.ofInt (-1))), (2, .int (Int32.ofInt 0)), (3, .int (Int32.ofInt 1))] []) : eW E 0 0 L f 0 [(0, .ref r0), (1, .int (Int32.ofInt (-1)))] [] := by
  obtain ⟨l0, D0, cy0, ax0⟩ := X0
  have hraw : eW E 0 0 L f 0 [(0, .ref r0), (1, .int (Int32.ofInt ((-1) + 0)))] [] := ?_
  · simpa only [Int.zero_add, Int.one_mul, Int.add_zero] using hraw
  refine seg_ok (D := D_mkA) (νi := fun i => [].getD i 0) (μi := fun i => [r0].getD i 0) k_mkA hE (mk_ok (ins := iX11_market) jX11_market fX11_ok lX11_ok kX11_ok kkX11_ok H) (by decide) rfl rfl rfl rfl hh ?_ ?_
  · refine ⟨(eok_of (fun i q hq => by cases hq) (fun i _ => rfl)), fa0, fa0, ?_, fa0, fa0, fa0⟩
    · intro i k hk
      match i, hk with
      | 0, hk => cases hk; exact hr0
      | i + 1, hk => cases hk
  · intro q hq hst K' B' L' f' ν μ h1 h2 h3 h4 h5
    have d0 : μ 0 = r0 := h5 0 (by decide)
    subst d0
    replace hq : q ∈ u_mkA := hq
    unfold u_mkA at hq
    simp only [List.mem_cons, List.not_mem_nil, or_false] at hq
    rcases hq with rfl
    · have hst2 : eW E 0 0 L' f' 35 [(0, .ref (μ 0)), (1, .int (Int32.ofInt ((-1) + 0))), (2, .int (Int32.ofInt (0 + 0))), (3, .int (Int32.ofInt (1 + 0)))] [] := ?_
      · exact hst2
      try simp only [Int.zero_add, Int.one_mul, Int.add_zero]
      exact k35 K' B' L' f'   h1 h2 (h3.2.2.2.1 0 197 rfl)

/-! mkB: from 0 to [30] -/
def w_mkB : TP := ([(0, (2, 0, (0, []))), (1, (0, 0, (0, [(1, 0)])))], [], ([((-2147483648), (-2))], [], [], [197], [], [], []), [], [])
def u_mkB : List (Nat × TP × EX × Nat × Nat) := [(30, ([(0, (2, 0, (0, []))), (1, (0, 0, (0, [(1, 0)])))], [(0, 0, ((-1), []))], ([((-2147483648), (-2))], [], [], [197], [], [], []), [], []), ((-1), []), 0, 0)]
def D_mkB : DT := (mkD iX11_market fX11 lX11 kX11 kkX11 427 [(9, [421])] (w_mkB, [], [], 2, 0, 0, 3) false 4 u_mkB)
theorem k_mkB : chkS D_mkB 4000 0 0 0 = true := by decide +kernel
theorem s_mkB {X0 : zC0} {E : zCx} (H : ∀ j, j < 427 → CMj X0 j) (hE : zOk E X0 RX11 cX11_market 4 (zrm 2 0 0)) {K : Nat → Nat} {B : Int} {L : List Nat} {f : Nat → va_E} (hh : hok X0.2.2.1 K B L f) {v0 : Int} {r0 : Nat} (hb0 : (-2147483648) ≤ v0 ∧ v0 ≤ (-2)) (hr0 : r0 ∈ L ∧ K r0 = 197) (k30 : ∀ (K' : Nat → Nat) (B' : Int) (L' : List Nat) (f' : Nat → va_E), hok X0.2.2.1 K' B' L' f' → extC [] K B L f K' B' L' f' → ((-2147483648) ≤ v0 ∧ v0 ≤ (-2)) → (r0 ∈ L' ∧ K' r0 = 197) → eW E 0 0 L' f' 30 [(0, .ref r0), (1, .int (Int32.ofInt v0))] [.int (Int32.ofInt (-1))]) : eW E 0 0 L f 0 [(0, .ref r0), (1, .int (Int32.ofInt v0))] [] := by
  obtain ⟨l0, D0, cy0, ax0⟩ := X0
  have hraw : eW E 0 0 L f 0 [(0, .ref r0), (1, .int (Int32.ofInt (0 + (1 * v0 + 0))))] [] := ?_
  · simpa only [Int.zero_add, Int.one_mul, Int.add_zero] using hraw
  refine seg_ok (D := D_mkB) (νi := fun i => [v0].getD i 0) (μi := fun i => [r0].getD i 0) k_mkB hE (mk_ok (ins := iX11_market) jX11_market fX11_ok lX11_ok kX11_ok kkX11_ok H) (by decide) rfl rfl rfl rfl hh ?_ ?_
  · refine ⟨(eok_of (fun i q hq => ?_) (fun i hi => ?_)), fa0, fa0, ?_, fa0, fa0, fa0⟩
    · match i, hq with
      | 0, hq => cases hq; exact hb0
      | i + 1, hq => cases hq
    · match i, hi with
      | 0, hi => exact absurd hi (by decide)
      | i + 1, _ => rfl
    · intro i k hk
      match i, hk with
      | 0, hk => cases hk; exact hr0
      | i + 1, hk => cases hk
  · intro q hq hst K' B' L' f' ν μ h1 h2 h3 h4 h5
    have e0 : ν 0 = v0 := h4 0 (by decide)
    have d0 : μ 0 = r0 := h5 0 (by decide)
    subst e0
    subst d0
    replace hq : q ∈ u_mkB := hq
    unfold u_mkB at hq
    simp only [List.mem_cons, List.not_mem_nil, or_false] at hq
    rcases hq with rfl
    · have hst2 : eW E 0 0 L' f' 30 [(0, .ref (μ 0)), (1, .int (Int32.ofInt (0 + (1 * ν 0 + 0))))] [.int (Int32.ofInt ((-1) + 0))] := ?_
      · exact hst2
      try simp only [Int.zero_add, Int.one_mul, Int.add_zero]
      exact k30 K' B' L' f'   h1 h2 (h3.1 0) (h3.2.2.2.1 0 197 rfl)

/-! mkC: from 0 to [30] -/
def w_mkC : TP := ([(0, (2, 0, (0, []))), (1, (0, 0, (0, [(1, 0)])))], [], ([(100, 2147483647)], [], [], [197], [], [], []), [], [])
def u_mkC : List (Nat × TP × EX × Nat × Nat) := [(30, ([(0, (2, 0, (0, []))), (1, (0, 0, (0, [(1, 0)])))], [(0, 0, ((-1), []))], ([(100, 2147483647)], [], [], [197], [], [], []), [], []), ((-1), []), 0, 0)]
def D_mkC : DT := (mkD iX11_market fX11 lX11 kX11 kkX11 427 [(9, [421])] (w_mkC, [], [], 2, 0, 0, 3) false 4 u_mkC)
theorem k_mkC : chkS D_mkC 4000 0 0 0 = true := by decide +kernel
theorem s_mkC {X0 : zC0} {E : zCx} (H : ∀ j, j < 427 → CMj X0 j) (hE : zOk E X0 RX11 cX11_market 4 (zrm 2 0 0)) {K : Nat → Nat} {B : Int} {L : List Nat} {f : Nat → va_E} (hh : hok X0.2.2.1 K B L f) {v0 : Int} {r0 : Nat} (hb0 : 100 ≤ v0 ∧ v0 ≤ 2147483647) (hr0 : r0 ∈ L ∧ K r0 = 197) (k30 : ∀ (K' : Nat → Nat) (B' : Int) (L' : List Nat) (f' : Nat → va_E), hok X0.2.2.1 K' B' L' f' → extC [] K B L f K' B' L' f' → (100 ≤ v0 ∧ v0 ≤ 2147483647) → (r0 ∈ L' ∧ K' r0 = 197) → eW E 0 0 L' f' 30 [(0, .ref r0), (1, .int (Int32.ofInt v0))] [.int (Int32.ofInt (-1))]) : eW E 0 0 L f 0 [(0, .ref r0), (1, .int (Int32.ofInt v0))] [] := by
  obtain ⟨l0, D0, cy0, ax0⟩ := X0
  have hraw : eW E 0 0 L f 0 [(0, .ref r0), (1, .int (Int32.ofInt (0 + (1 * v0 + 0))))] [] := ?_
  · simpa only [Int.zero_add, Int.one_mul, Int.add_zero] using hraw
  refine seg_ok (D := D_mkC) (νi := fun i => [v0].getD i 0) (μi := fun i => [r0].getD i 0) k_mkC hE (mk_ok (ins := iX11_market) jX11_market fX11_ok lX11_ok kX11_ok kkX11_ok H) (by decide) rfl rfl rfl rfl hh ?_ ?_
  · refine ⟨(eok_of (fun i q hq => ?_) (fun i hi => ?_)), fa0, fa0, ?_, fa0, fa0, fa0⟩
    · match i, hq with
      | 0, hq => cases hq; exact hb0
      | i + 1, hq => cases hq
    · match i, hi with
      | 0, hi => exact absurd hi (by decide)
      | i + 1, _ => rfl
    · intro i k hk
      match i, hk with
      | 0, hk => cases hk; exact hr0
      | i + 1, hk => cases hk
  · intro q hq hst K' B' L' f' ν μ h1 h2 h3 h4 h5
    have e0 : ν 0 = v0 := h4 0 (by decide)
    have d0 : μ 0 = r0 := h5 0 (by decide)
    subst e0
    subst d0
    replace hq : q ∈ u_mkC := hq
    unfold u_mkC at hq
    simp only [List.mem_cons, List.not_mem_nil, or_false] at hq
    rcases hq with rfl
    · have hst2 : eW E 0 0 L' f' 30 [(0, .ref (μ 0)), (1, .int (Int32.ofInt (0 + (1 * ν 0 + 0))))] [.int (Int32.ofInt ((-1) + 0))] := ?_
      · exact hst2
      try simp only [Int.zero_add, Int.one_mul, Int.add_zero]
      exact k30 K' B' L' f'   h1 h2 (h3.1 0) (h3.2.2.2.1 0 197 rfl)

/-! mkD: from 0 to [23] -/
def w_mkD : TP := ([(0, (2, 0, (0, []))), (1, (0, 0, (0, [(1, 0)])))], [], ([(0, 99)], [], [], [197], [], [], []), [], [])
def u_mkD : List (Nat × TP × EX × Nat × Nat) := [(23, ([(0, (2, 0, (0, []))), (1, (0, 0, (0, [(1, 0)])))], [(0, 0, (0, [(1, 0)])), (2, 1, (0, []))], ([(0, 99)], [], [], [197, 62], [], [], []), [], [(1, 1)]), ((-1), []), 0, 0)]
def D_mkD : DT := (mkD iX11_market fX11 lX11 kX11 kkX11 427 [(9, [421])] (w_mkD, [], [], 2, 0, 0, 3) false 4 u_mkD)
theorem k_mkD : chkS D_mkD 4000 0 0 0 = true := by decide +kernel
theorem s_mkD {X0 : zC0} {E : zCx} (H : ∀ j, j < 427 → CMj X0 j) (hE : zOk E X0 RX11 cX11_market 4 (zrm 2 0 0)) {K : Nat → Nat} {B : Int} {L : List Nat} {f : Nat → va_E} (hh : hok X0.2.2.1 K B L f) {v0 : Int} {r0 : Nat} (hb0 : 0 ≤ v0 ∧ v0 ≤ 99) (hr0 : r0 ∈ L ∧ K r0 = 197) (k23 : ∀ (K' : Nat → Nat) (B' : Int) (L' : List Nat) (f' : Nat → va_E) (r1 : Nat), hok X0.2.2.1 K' B' L' f' → extC [] K B L f K' B' L' f' → (0 ≤ v0 ∧ v0 ≤ 99) → (r0 ∈ L' ∧ K' r0 = 197) → (r1 ∈ L' ∧ K' r1 = 62) → eW E 0 0 L' f' 23 [(0, .ref r0), (1, .int (Int32.ofInt v0))] [.int (Int32.ofInt v0), .ref r1]) : eW E 0 0 L f 0 [(0, .ref r0), (1, .int (Int32.ofInt v0))] [] := by
  obtain ⟨l0, D0, cy0, ax0⟩ := X0
  have hraw : eW E 0 0 L f 0 [(0, .ref r0), (1, .int (Int32.ofInt (0 + (1 * v0 + 0))))] [] := ?_
  · simpa only [Int.zero_add, Int.one_mul, Int.add_zero] using hraw
  refine seg_ok (D := D_mkD) (νi := fun i => [v0].getD i 0) (μi := fun i => [r0].getD i 0) k_mkD hE (mk_ok (ins := iX11_market) jX11_market fX11_ok lX11_ok kX11_ok kkX11_ok H) (by decide) rfl rfl rfl rfl hh ?_ ?_
  · refine ⟨(eok_of (fun i q hq => ?_) (fun i hi => ?_)), fa0, fa0, ?_, fa0, fa0, fa0⟩
    · match i, hq with
      | 0, hq => cases hq; exact hb0
      | i + 1, hq => cases hq
    · match i, hi with
      | 0, hi => exact absurd hi (by decide)
      | i + 1, _ => rfl
    · intro i k hk
      match i, hk with
      | 0, hk => cases hk; exact hr0
      | i + 1, hk => cases hk
  · intro q hq hst K' B' L' f' ν μ h1 h2 h3 h4 h5
    have e0 : ν 0 = v0 := h4 0 (by decide)
    have d0 : μ 0 = r0 := h5 0 (by decide)
    subst e0
    subst d0
    replace hq : q ∈ u_mkD := hq
    unfold u_mkD at hq
    simp only [List.mem_cons, List.not_mem_nil, or_false] at hq
    rcases hq with rfl
    · have hst2 : eW E 0 0 L' f' 23 [(0, .ref (μ 0)), (1, .int (Int32.ofInt (0 + (1 * ν 0 + 0))))] [.int (Int32.ofInt (0 + (1 * ν 0 + 0))), .ref (μ 1)] := ?_
      · exact hst2
      try simp only [Int.zero_add, Int.one_mul, Int.add_zero]
      exact k23 K' B' L' f'  (μ 1) h1 h2 (h3.1 0) (h3.2.2.2.1 0 197 rfl) (h3.2.2.2.1 1 62 rfl)

/-! mk26: from 26 to [30] -/
def w_mk26 : TP := ([(0, (2, 0, (0, []))), (1, (0, 0, (0, [(1, 0)])))], [(0, 0, (0, [(1, 1)]))], ([(0, 99), ((-2147483648), 2147483647)], [], [], [197], [], [], []), [], [])
def u_mk26 : List (Nat × TP × EX × Nat × Nat) := [(30, ([(0, (2, 0, (0, []))), (1, (0, 0, (0, [(1, 0)])))], [(0, 0, (0, [(1, 1)]))], ([(0, 99), ((-2147483648), 2147483647)], [], [], [197], [], [], []), [], []), ((-1), []), 0, 0)]
def D_mk26 : DT := (mkD iX11_market fX11 lX11 kX11 kkX11 427 [] (w_mk26, [], [], 2, 0, 0, 3) false 4 u_mk26)
theorem k_mk26 : chkS D_mk26 4000 0 0 26 = true := by decide +kernel
theorem s_mk26 {X0 : zC0} {E : zCx} (H : ∀ j, j < 427 → CMj X0 j) (hE : zOk E X0 RX11 cX11_market 4 (zrm 2 0 0)) {K : Nat → Nat} {B : Int} {L : List Nat} {f : Nat → va_E} (hh : hok X0.2.2.1 K B L f) {v0 v1 : Int} {r0 : Nat} (hb0 : 0 ≤ v0 ∧ v0 ≤ 99) (hb1 : (-2147483648) ≤ v1 ∧ v1 ≤ 2147483647) (hr0 : r0 ∈ L ∧ K r0 = 197) (k30 : ∀ (K' : Nat → Nat) (B' : Int) (L' : List Nat) (f' : Nat → va_E), hok X0.2.2.1 K' B' L' f' → extC [] K B L f K' B' L' f' → (0 ≤ v0 ∧ v0 ≤ 99) → ((-2147483648) ≤ v1 ∧ v1 ≤ 2147483647) → (r0 ∈ L' ∧ K' r0 = 197) → eW E 0 0 L' f' 30 [(0, .ref r0), (1, .int (Int32.ofInt v0))] [.int (Int32.ofInt v1)]) : eW E 0 0 L f 26 [(0, .ref r0), (1, .int (Int32.ofInt v0))] [.int (Int32.ofInt v1)] := by
  obtain ⟨l0, D0, cy0, ax0⟩ := X0
  have hraw : eW E 0 0 L f 26 [(0, .ref r0), (1, .int (Int32.ofInt (0 + (1 * v0 + 0))))] [.int (Int32.ofInt (0 + (1 * v1 + 0)))] := ?_
  · simpa only [Int.zero_add, Int.one_mul, Int.add_zero] using hraw
  refine seg_ok (D := D_mk26) (νi := fun i => [v0, v1].getD i 0) (μi := fun i => [r0].getD i 0) k_mk26 hE (mk_ok (ins := iX11_market) jX11_market fX11_ok lX11_ok kX11_ok kkX11_ok H) (by decide) rfl rfl rfl rfl hh ?_ ?_
  · refine ⟨(eok_of (fun i q hq => ?_) (fun i hi => ?_)), fa0, fa0, ?_, fa0, fa0, fa0⟩
    · match i, hq with
      | 0, hq => cases hq; exact hb0
      | 1, hq => cases hq; exact hb1
      | i + 2, hq => cases hq
    · match i, hi with
      | 0, hi => exact absurd hi (by decide)
      | 1, hi => exact absurd hi (by decide)
      | i + 2, _ => rfl
    · intro i k hk
      match i, hk with
      | 0, hk => cases hk; exact hr0
      | i + 1, hk => cases hk
  · intro q hq hst K' B' L' f' ν μ h1 h2 h3 h4 h5
    have e0 : ν 0 = v0 := h4 0 (by decide)
    have e1 : ν 1 = v1 := h4 1 (by decide)
    have d0 : μ 0 = r0 := h5 0 (by decide)
    subst e0
    subst e1
    subst d0
    replace hq : q ∈ u_mk26 := hq
    unfold u_mk26 at hq
    simp only [List.mem_cons, List.not_mem_nil, or_false] at hq
    rcases hq with rfl
    · have hst2 : eW E 0 0 L' f' 30 [(0, .ref (μ 0)), (1, .int (Int32.ofInt (0 + (1 * ν 0 + 0))))] [.int (Int32.ofInt (0 + (1 * ν 1 + 0)))] := ?_
      · exact hst2
      try simp only [Int.zero_add, Int.one_mul, Int.add_zero]
      exact k30 K' B' L' f'   h1 h2 (h3.1 0) (h3.1 1) (h3.2.2.2.1 0 197 rfl)

/-! mk35: from 35 to [49, 74] -/
def w_mk35 : TP := ([(0, (2, 0, (0, []))), (1, (0, 0, ((-1), []))), (2, (0, 0, (0, [(1, 0)]))), (3, (0, 0, (0, [(1, 1)])))], [], ([(0, 99), (1, 100)], [], [], [197], [], [], []), [], [])
def u_mk35 : List (Nat × TP × EX × Nat × Nat) := [(49, ([(0, (2, 0, (0, []))), (1, (0, 0, ((-1), []))), (2, (0, 0, (0, [(1, 0)]))), (3, (0, 0, (0, [(1, 1)])))], [(0, 0, (0, [(1, 1)])), (2, 1, (0, []))], ([(0, 99), (1, 99)], [], [], [197, 62], [], [], []), [], [(1, 1)]), ((-1), []), 0, 0), (74, ([(0, (2, 0, (0, []))), (1, (0, 0, ((-1), []))), (2, (0, 0, (0, [(1, 0)]))), (3, (0, 0, (0, [(1, 1)])))], [], ([(0, 99), (100, 100)], [], [], [197], [], [], []), [], []), ((-1), []), 0, 0)]
def D_mk35 : DT := (mkD iX11_market fX11 lX11 kX11 kkX11 427 [] (w_mk35, [], [], 2, 0, 0, 3) false 4 u_mk35)
theorem k_mk35 : chkS D_mk35 4000 0 0 35 = true := by decide +kernel
theorem s_mk35 {X0 : zC0} {E : zCx} (H : ∀ j, j < 427 → CMj X0 j) (hE : zOk E X0 RX11 cX11_market 4 (zrm 2 0 0)) {K : Nat → Nat} {B : Int} {L : List Nat} {f : Nat → va_E} (hh : hok X0.2.2.1 K B L f) {v0 v1 : Int} {r0 : Nat} (hb0 : 0 ≤ v0 ∧ v0 ≤ 99) (hb1 : 1 ≤ v1 ∧ v1 ≤ 100) (hr0 : r0 ∈ L ∧ K r0 = 197) (k49 : ∀ (K' : Nat → Nat) (B' : Int) (L' : List Nat) (f' : Nat → va_E) (r1 : Nat), hok X0.2.2.1 K' B' L' f' → extC [] K B L f K' B' L' f' → (0 ≤ v0 ∧ v0 ≤ 99) → (1 ≤ v1 ∧ v1 ≤ 99) → (r0 ∈ L' ∧ K' r0 = 197) → (r1 ∈ L' ∧ K' r1 = 62) → eW E 0 0 L' f' 49 [(0, .ref r0), (1, .int (Int32.ofInt (-1))), (2, .int (Int32.ofInt v0)), (3, .int (Int32.ofInt v1))] [.int (Int32.ofInt v1), .ref r1]) (k74 : ∀ (K' : Nat → Nat) (B' : Int) (L' : List Nat) (f' : Nat → va_E), hok X0.2.2.1 K' B' L' f' → extC [] K B L f K' B' L' f' → (0 ≤ v0 ∧ v0 ≤ 99) → (100 ≤ v1 ∧ v1 ≤ 100) → (r0 ∈ L' ∧ K' r0 = 197) → eW E 0 0 L' f' 74 [(0, .ref r0), (1, .int (Int32.ofInt (-1))), (2, .int (Int32.ofInt v0)), (3, .int (Int32.ofInt v1))] []) : eW E 0 0 L f 35 [(0, .ref r0), (1, .int (Int32.ofInt (-1))), (2, .int (Int32.ofInt v0)), (3, .int (Int32.ofInt v1))] [] := by
  obtain ⟨l0, D0, cy0, ax0⟩ := X0
  have hraw : eW E 0 0 L f 35 [(0, .ref r0), (1, .int (Int32.ofInt ((-1) + 0))), (2, .int (Int32.ofInt (0 + (1 * v0 + 0)))), (3, .int (Int32.ofInt (0 + (1 * v1 + 0))))] [] := ?_
  · simpa only [Int.zero_add, Int.one_mul, Int.add_zero] using hraw
  refine seg_ok (D := D_mk35) (νi := fun i => [v0, v1].getD i 0) (μi := fun i => [r0].getD i 0) k_mk35 hE (mk_ok (ins := iX11_market) jX11_market fX11_ok lX11_ok kX11_ok kkX11_ok H) (by decide) rfl rfl rfl rfl hh ?_ ?_
  · refine ⟨(eok_of (fun i q hq => ?_) (fun i hi => ?_)), fa0, fa0, ?_, fa0, fa0, fa0⟩
    · match i, hq with
      | 0, hq => cases hq; exact hb0
      | 1, hq => cases hq; exact hb1
      | i + 2, hq => cases hq
    · match i, hi with
      | 0, hi => exact absurd hi (by decide)
      | 1, hi => exact absurd hi (by decide)
      | i + 2, _ => rfl
    · intro i k hk
      match i, hk with
      | 0, hk => cases hk; exact hr0
      | i + 1, hk => cases hk
  · intro q hq hst K' B' L' f' ν μ h1 h2 h3 h4 h5
    have e0 : ν 0 = v0 := h4 0 (by decide)
    have e1 : ν 1 = v1 := h4 1 (by decide)
    have d0 : μ 0 = r0 := h5 0 (by decide)
    subst e0
    subst e1
    subst d0
    replace hq : q ∈ u_mk35 := hq
    unfold u_mk35 at hq
    simp only [List.mem_cons, List.not_mem_nil, or_false] at hq
    rcases hq with rfl | rfl
    · have hst2 : eW E 0 0 L' f' 49 [(0, .ref (μ 0)), (1, .int (Int32.ofInt ((-1) + 0))), (2, .int (Int32.ofInt (0 + (1 * ν 0 + 0)))), (3, .int (Int32.ofInt (0 + (1 * ν 1 + 0))))] [.int (Int32.ofInt (0 + (1 * ν 1 + 0))), .ref (μ 1)] := ?_
      · exact hst2
      try simp only [Int.zero_add, Int.one_mul, Int.add_zero]
      exact k49 K' B' L' f'  (μ 1) h1 h2 (h3.1 0) (h3.1 1) (h3.2.2.2.1 0 197 rfl) (h3.2.2.2.1 1 62 rfl)
    · have hst2 : eW E 0 0 L' f' 74 [(0, .ref (μ 0)), (1, .int (Int32.ofInt ((-1) + 0))), (2, .int (Int32.ofInt (0 + (1 * ν 0 + 0)))), (3, .int (Int32.ofInt (0 + (1 * ν 1 + 0))))] [] := ?_
      · exact hst2
      try simp only [Int.zero_add, Int.one_mul, Int.add_zero]
      exact k74 K' B' L' f'   h1 h2 (h3.1 0) (h3.1 1) (h3.2.2.2.1 0 197 rfl)

/-! mk52: from 52 to [60] -/
def w_mk52 : TP := ([(0, (2, 0, (0, []))), (1, (0, 0, ((-1), []))), (2, (0, 0, (0, [(1, 0)]))), (3, (0, 0, (0, [(1, 1)])))], [(0, 0, (0, [(1, 2)]))], ([(0, 99), (1, 99), (0, 990)], [], [], [197], [], [], []), [], [])
def u_mk52 : List (Nat × TP × EX × Nat × Nat) := [(60, ([(0, (2, 0, (0, []))), (1, (0, 0, ((-1), []))), (2, (0, 0, (0, [(1, 0)]))), (3, (0, 0, (0, [(1, 1)])))], [(0, 0, (0, [(1, 0)])), (2, 1, (0, [])), (0, 0, (0, [(1, 2)]))], ([(0, 99), (1, 99), (0, 990)], [], [], [197, 62], [], [], []), [], [(1, 1)]), ((-1), []), 0, 0)]
def D_mk52 : DT := (mkD iX11_market fX11 lX11 kX11 kkX11 427 [] (w_mk52, [], [], 2, 0, 0, 3) false 4 u_mk52)
theorem k_mk52 : chkS D_mk52 4000 0 0 52 = true := by decide +kernel
theorem s_mk52 {X0 : zC0} {E : zCx} (H : ∀ j, j < 427 → CMj X0 j) (hE : zOk E X0 RX11 cX11_market 4 (zrm 2 0 0)) {K : Nat → Nat} {B : Int} {L : List Nat} {f : Nat → va_E} (hh : hok X0.2.2.1 K B L f) {v0 v1 v2 : Int} {r0 : Nat} (hb0 : 0 ≤ v0 ∧ v0 ≤ 99) (hb1 : 1 ≤ v1 ∧ v1 ≤ 99) (hb2 : 0 ≤ v2 ∧ v2 ≤ 990) (hr0 : r0 ∈ L ∧ K r0 = 197) (k60 : ∀ (K' : Nat → Nat) (B' : Int) (L' : List Nat) (f' : Nat → va_E) (r1 : Nat), hok X0.2.2.1 K' B' L' f' → extC [] K B L f K' B' L' f' → (0 ≤ v0 ∧ v0 ≤ 99) → (1 ≤ v1 ∧ v1 ≤ 99) → (0 ≤ v2 ∧ v2 ≤ 990) → (r0 ∈ L' ∧ K' r0 = 197) → (r1 ∈ L' ∧ K' r1 = 62) → eW E 0 0 L' f' 60 [(0, .ref r0), (1, .int (Int32.ofInt (-1))), (2, .int (Int32.ofInt v0)), (3, .int (Int32.ofInt v1))] [.int (Int32.ofInt v0), .ref r1, .int (Int32.ofInt v2)]) : eW E 0 0 L f 52 [(0, .ref r0), (1, .int (Int32.ofInt (-1))), (2, .int (Int32.ofInt v0)), (3, .int (Int32.ofInt v1))] [.int (Int32.ofInt v2)] := by
  obtain ⟨l0, D0, cy0, ax0⟩ := X0
  have hraw : eW E 0 0 L f 52 [(0, .ref r0), (1, .int (Int32.ofInt ((-1) + 0))), (2, .int (Int32.ofInt (0 + (1 * v0 + 0)))), (3, .int (Int32.ofInt (0 + (1 * v1 + 0))))] [.int (Int32.ofInt (0 + (1 * v2 + 0)))] := ?_
  · simpa only [Int.zero_add, Int.one_mul, Int.add_zero] using hraw
  refine seg_ok (D := D_mk52) (νi := fun i => [v0, v1, v2].getD i 0) (μi := fun i => [r0].getD i 0) k_mk52 hE (mk_ok (ins := iX11_market) jX11_market fX11_ok lX11_ok kX11_ok kkX11_ok H) (by decide) rfl rfl rfl rfl hh ?_ ?_
  · refine ⟨(eok_of (fun i q hq => ?_) (fun i hi => ?_)), fa0, fa0, ?_, fa0, fa0, fa0⟩
    · match i, hq with
      | 0, hq => cases hq; exact hb0
      | 1, hq => cases hq; exact hb1
      | 2, hq => cases hq; exact hb2
      | i + 3, hq => cases hq
    · match i, hi with
      | 0, hi => exact absurd hi (by decide)
      | 1, hi => exact absurd hi (by decide)
      | 2, hi => exact absurd hi (by decide)
      | i + 3, _ => rfl
    · intro i k hk
      match i, hk with
      | 0, hk => cases hk; exact hr0
      | i + 1, hk => cases hk
  · intro q hq hst K' B' L' f' ν μ h1 h2 h3 h4 h5
    have e0 : ν 0 = v0 := h4 0 (by decide)
    have e1 : ν 1 = v1 := h4 1 (by decide)
    have e2 : ν 2 = v2 := h4 2 (by decide)
    have d0 : μ 0 = r0 := h5 0 (by decide)
    subst e0
    subst e1
    subst e2
    subst d0
    replace hq : q ∈ u_mk52 := hq
    unfold u_mk52 at hq
    simp only [List.mem_cons, List.not_mem_nil, or_false] at hq
    rcases hq with rfl
    · have hst2 : eW E 0 0 L' f' 60 [(0, .ref (μ 0)), (1, .int (Int32.ofInt ((-1) + 0))), (2, .int (Int32.ofInt (0 + (1 * ν 0 + 0)))), (3, .int (Int32.ofInt (0 + (1 * ν 1 + 0))))] [.int (Int32.ofInt (0 + (1 * ν 0 + 0))), .ref (μ 1), .int (Int32.ofInt (0 + (1 * ν 2 + 0)))] := ?_
      · exact hst2
      try simp only [Int.zero_add, Int.one_mul, Int.add_zero]
      exact k60 K' B' L' f'  (μ 1) h1 h2 (h3.1 0) (h3.1 1) (h3.1 2) (h3.2.2.2.1 0 197 rfl) (h3.2.2.2.1 1 62 rfl)

/-! mk63a: from 63 to [35] -/
def w_mk63a : TP := ([(0, (2, 0, (0, []))), (1, (0, 0, ((-1), []))), (2, (0, 0, (0, [(1, 0)]))), (3, (0, 0, (0, [(1, 1)])))], [(0, 0, (0, [(1, 2)])), (0, 0, (0, [(1, 3)]))], ([(0, 99), (1, 99), (0, 990), (0, 990)], [((-1), [(1, 3), ((-1), 2)])], [], [197], [], [], []), [], [])
def u_mk63a : List (Nat × TP × EX × Nat × Nat) := [(35, ([(0, (2, 0, (0, []))), (1, (0, 0, ((-1), []))), (2, (0, 0, (0, [(1, 1)]))), (3, (0, 0, (1, [(1, 1)])))], [], ([(0, 99), (1, 99), (0, 989), (1, 990)], [((-1), [(1, 3), ((-1), 2)])], [], [197], [], [], []), [], []), ((-1), []), 0, 0)]
def D_mk63a : DT := (mkD iX11_market fX11 lX11 kX11 kkX11 427 [] (w_mk63a, [], [], 2, 0, 0, 3) false 4 u_mk63a)
theorem k_mk63a : chkS D_mk63a 4000 0 0 63 = true := by decide +kernel
theorem s_mk63a {X0 : zC0} {E : zCx} (H : ∀ j, j < 427 → CMj X0 j) (hE : zOk E X0 RX11 cX11_market 4 (zrm 2 0 0)) {K : Nat → Nat} {B : Int} {L : List Nat} {f : Nat → va_E} (hh : hok X0.2.2.1 K B L f) {v0 v1 v2 v3 : Int} {r0 : Nat} (hb0 : 0 ≤ v0 ∧ v0 ≤ 99) (hb1 : 1 ≤ v1 ∧ v1 ≤ 99) (hb2 : 0 ≤ v2 ∧ v2 ≤ 990) (hb3 : 0 ≤ v3 ∧ v3 ≤ 990) (hq0 : 0 ≤ ((-1) + (v3 + ((-1) * v2)))) (hr0 : r0 ∈ L ∧ K r0 = 197) (k35 : ∀ (K' : Nat → Nat) (B' : Int) (L' : List Nat) (f' : Nat → va_E), hok X0.2.2.1 K' B' L' f' → extC [] K B L f K' B' L' f' → (0 ≤ v0 ∧ v0 ≤ 99) → (1 ≤ v1 ∧ v1 ≤ 99) → (0 ≤ v2 ∧ v2 ≤ 989) → (1 ≤ v3 ∧ v3 ≤ 990) → (0 ≤ ((-1) + (v3 + ((-1) * v2)))) → (r0 ∈ L' ∧ K' r0 = 197) → eW E 0 0 L' f' 35 [(0, .ref r0), (1, .int (Int32.ofInt (-1))), (2, .int (Int32.ofInt v1)), (3, .int (Int32.ofInt (1 + v1)))] []) : eW E 0 0 L f 63 [(0, .ref r0), (1, .int (Int32.ofInt (-1))), (2, .int (Int32.ofInt v0)), (3, .int (Int32.ofInt v1))] [.int (Int32.ofInt v2), .int (Int32.ofInt v3)] := by
  obtain ⟨l0, D0, cy0, ax0⟩ := X0
  have hraw : eW E 0 0 L f 63 [(0, .ref r0), (1, .int (Int32.ofInt ((-1) + 0))), (2, .int (Int32.ofInt (0 + (1 * v0 + 0)))), (3, .int (Int32.ofInt (0 + (1 * v1 + 0))))] [.int (Int32.ofInt (0 + (1 * v2 + 0))), .int (Int32.ofInt (0 + (1 * v3 + 0)))] := ?_
  · simpa only [Int.zero_add, Int.one_mul, Int.add_zero] using hraw
  have rq0 : 0 ≤ ((-1) + (1 * v3 + ((-1) * v2 + 0))) := by simpa only [Int.zero_add, Int.one_mul, Int.add_zero] using hq0
  refine seg_ok (D := D_mk63a) (νi := fun i => [v0, v1, v2, v3].getD i 0) (μi := fun i => [r0].getD i 0) k_mk63a hE (mk_ok (ins := iX11_market) jX11_market fX11_ok lX11_ok kX11_ok kkX11_ok H) (by decide) rfl rfl rfl rfl hh ?_ ?_
  · refine ⟨(eok_of (fun i q hq => ?_) (fun i hi => ?_)), (fa_cons (rq0) fa0), fa0, ?_, fa0, fa0, fa0⟩
    · match i, hq with
      | 0, hq => cases hq; exact hb0
      | 1, hq => cases hq; exact hb1
      | 2, hq => cases hq; exact hb2
      | 3, hq => cases hq; exact hb3
      | i + 4, hq => cases hq
    · match i, hi with
      | 0, hi => exact absurd hi (by decide)
      | 1, hi => exact absurd hi (by decide)
      | 2, hi => exact absurd hi (by decide)
      | 3, hi => exact absurd hi (by decide)
      | i + 4, _ => rfl
    · intro i k hk
      match i, hk with
      | 0, hk => cases hk; exact hr0
      | i + 1, hk => cases hk
  · intro q hq hst K' B' L' f' ν μ h1 h2 h3 h4 h5
    have e0 : ν 0 = v0 := h4 0 (by decide)
    have e1 : ν 1 = v1 := h4 1 (by decide)
    have e2 : ν 2 = v2 := h4 2 (by decide)
    have e3 : ν 3 = v3 := h4 3 (by decide)
    have d0 : μ 0 = r0 := h5 0 (by decide)
    subst e0
    subst e1
    subst e2
    subst e3
    subst d0
    replace hq : q ∈ u_mk63a := hq
    unfold u_mk63a at hq
    simp only [List.mem_cons, List.not_mem_nil, or_false] at hq
    rcases hq with rfl
    · have hst2 : eW E 0 0 L' f' 35 [(0, .ref (μ 0)), (1, .int (Int32.ofInt ((-1) + 0))), (2, .int (Int32.ofInt (0 + (1 * ν 1 + 0)))), (3, .int (Int32.ofInt (1 + (1 * ν 1 + 0))))] [] := ?_
      · exact hst2
      try simp only [Int.zero_add, Int.one_mul, Int.add_zero]
      exact k35 K' B' L' f'   h1 h2 (h3.1 0) (h3.1 1) (h3.1 2) (h3.1 3) (by simpa only [xv, xvT, Int.zero_add, Int.one_mul, Int.add_zero] using (h3.2.1 _ (List.mem_of_getElem? (i := 0) rfl))) (h3.2.2.2.1 0 197 rfl)

/-! mk63b: from 63 to [35] -/
def w_mk63b : TP := ([(0, (2, 0, (0, []))), (1, (0, 0, ((-1), []))), (2, (0, 0, (0, [(1, 0)]))), (3, (0, 0, (0, [(1, 1)])))], [(0, 0, (0, [(1, 2)])), (0, 0, (0, [(1, 3)]))], ([(0, 99), (1, 99), (0, 990), (0, 990)], [(0, [(1, 2), ((-1), 3)])], [], [197], [], [], []), [], [])
def u_mk63b : List (Nat × TP × EX × Nat × Nat) := [(35, ([(0, (2, 0, (0, []))), (1, (0, 0, ((-1), []))), (2, (0, 0, (0, [(1, 0)]))), (3, (0, 0, (1, [(1, 1)])))], [], ([(0, 99), (1, 99), (0, 990), (0, 990)], [(0, [((-1), 3), (1, 2)])], [], [197], [], [], []), [], []), ((-1), []), 0, 0)]
def D_mk63b : DT := (mkD iX11_market fX11 lX11 kX11 kkX11 427 [] (w_mk63b, [], [], 2, 0, 0, 3) false 4 u_mk63b)
theorem k_mk63b : chkS D_mk63b 4000 0 0 63 = true := by decide +kernel
theorem s_mk63b {X0 : zC0} {E : zCx} (H : ∀ j, j < 427 → CMj X0 j) (hE : zOk E X0 RX11 cX11_market 4 (zrm 2 0 0)) {K : Nat → Nat} {B : Int} {L : List Nat} {f : Nat → va_E} (hh : hok X0.2.2.1 K B L f) {v0 v1 v2 v3 : Int} {r0 : Nat} (hb0 : 0 ≤ v0 ∧ v0 ≤ 99) (hb1 : 1 ≤ v1 ∧ v1 ≤ 99) (hb2 : 0 ≤ v2 ∧ v2 ≤ 990) (hb3 : 0 ≤ v3 ∧ v3 ≤ 990) (hq0 : 0 ≤ (v2 + ((-1) * v3))) (hr0 : r0 ∈ L ∧ K r0 = 197) (k35 : ∀ (K' : Nat → Nat) (B' : Int) (L' : List Nat) (f' : Nat → va_E), hok X0.2.2.1 K' B' L' f' → extC [] K B L f K' B' L' f' → (0 ≤ v0 ∧ v0 ≤ 99) → (1 ≤ v1 ∧ v1 ≤ 99) → (0 ≤ v2 ∧ v2 ≤ 990) → (0 ≤ v3 ∧ v3 ≤ 990) → (0 ≤ ((-1) * v3 + v2)) → (r0 ∈ L' ∧ K' r0 = 197) → eW E 0 0 L' f' 35 [(0, .ref r0), (1, .int (Int32.ofInt (-1))), (2, .int (Int32.ofInt v0)), (3, .int (Int32.ofInt (1 + v1)))] []) : eW E 0 0 L f 63 [(0, .ref r0), (1, .int (Int32.ofInt (-1))), (2, .int (Int32.ofInt v0)), (3, .int (Int32.ofInt v1))] [.int (Int32.ofInt v2), .int (Int32.ofInt v3)] := by
  obtain ⟨l0, D0, cy0, ax0⟩ := X0
  have hraw : eW E 0 0 L f 63 [(0, .ref r0), (1, .int (Int32.ofInt ((-1) + 0))), (2, .int (Int32.ofInt (0 + (1 * v0 + 0)))), (3, .int (Int32.ofInt (0 + (1 * v1 + 0))))] [.int (Int32.ofInt (0 + (1 * v2 + 0))), .int (Int32.ofInt (0 + (1 * v3 + 0)))] := ?_
  · simpa only [Int.zero_add, Int.one_mul, Int.add_zero] using hraw
  have rq0 : 0 ≤ (0 + (1 * v2 + ((-1) * v3 + 0))) := by simpa only [Int.zero_add, Int.one_mul, Int.add_zero] using hq0
  refine seg_ok (D := D_mk63b) (νi := fun i => [v0, v1, v2, v3].getD i 0) (μi := fun i => [r0].getD i 0) k_mk63b hE (mk_ok (ins := iX11_market) jX11_market fX11_ok lX11_ok kX11_ok kkX11_ok H) (by decide) rfl rfl rfl rfl hh ?_ ?_
  · refine ⟨(eok_of (fun i q hq => ?_) (fun i hi => ?_)), (fa_cons (rq0) fa0), fa0, ?_, fa0, fa0, fa0⟩
    · match i, hq with
      | 0, hq => cases hq; exact hb0
      | 1, hq => cases hq; exact hb1
      | 2, hq => cases hq; exact hb2
      | 3, hq => cases hq; exact hb3
      | i + 4, hq => cases hq
    · match i, hi with
      | 0, hi => exact absurd hi (by decide)
      | 1, hi => exact absurd hi (by decide)
      | 2, hi => exact absurd hi (by decide)
      | 3, hi => exact absurd hi (by decide)
      | i + 4, _ => rfl
    · intro i k hk
      match i, hk with
      | 0, hk => cases hk; exact hr0
      | i + 1, hk => cases hk
  · intro q hq hst K' B' L' f' ν μ h1 h2 h3 h4 h5
    have e0 : ν 0 = v0 := h4 0 (by decide)
    have e1 : ν 1 = v1 := h4 1 (by decide)
    have e2 : ν 2 = v2 := h4 2 (by decide)
    have e3 : ν 3 = v3 := h4 3 (by decide)
    have d0 : μ 0 = r0 := h5 0 (by decide)
    subst e0
    subst e1
    subst e2
    subst e3
    subst d0
    replace hq : q ∈ u_mk63b := hq
    unfold u_mk63b at hq
    simp only [List.mem_cons, List.not_mem_nil, or_false] at hq
    rcases hq with rfl
    · have hst2 : eW E 0 0 L' f' 35 [(0, .ref (μ 0)), (1, .int (Int32.ofInt ((-1) + 0))), (2, .int (Int32.ofInt (0 + (1 * ν 0 + 0)))), (3, .int (Int32.ofInt (1 + (1 * ν 1 + 0))))] [] := ?_
      · exact hst2
      try simp only [Int.zero_add, Int.one_mul, Int.add_zero]
      exact k35 K' B' L' f'   h1 h2 (h3.1 0) (h3.1 1) (h3.1 2) (h3.1 3) (by simpa only [xv, xvT, Int.zero_add, Int.one_mul, Int.add_zero] using (h3.2.1 _ (List.mem_of_getElem? (i := 0) rfl))) (h3.2.2.2.1 0 197 rfl)

/-! mk74: from 74 to [75] -/
def w_mk74 : TP := ([(0, (2, 0, (0, []))), (1, (0, 0, ((-1), []))), (2, (0, 0, (0, [(1, 0)]))), (3, (0, 0, (0, [(1, 1)])))], [], ([(0, 99), (1, 100)], [], [], [197], [], [], []), [], [])
def u_mk74 : List (Nat × TP × EX × Nat × Nat) := [(75, ([(0, (2, 0, (0, []))), (1, (0, 0, ((-1), []))), (2, (0, 0, (0, [(1, 0)]))), (3, (0, 0, (0, [(1, 1)])))], [(0, 0, (0, [(1, 0)]))], ([(0, 99), (1, 100)], [], [], [197], [], [], []), [], []), ((-1), []), 0, 0)]
def D_mk74 : DT := (mkD iX11_market fX11 lX11 kX11 kkX11 427 [] (w_mk74, [], [], 2, 0, 0, 3) false 4 u_mk74)
theorem k_mk74 : chkS D_mk74 4000 0 0 74 = true := by decide +kernel
theorem s_mk74 {X0 : zC0} {E : zCx} (H : ∀ j, j < 427 → CMj X0 j) (hE : zOk E X0 RX11 cX11_market 4 (zrm 2 0 0)) {K : Nat → Nat} {B : Int} {L : List Nat} {f : Nat → va_E} (hh : hok X0.2.2.1 K B L f) {v0 v1 : Int} {r0 : Nat} (hb0 : 0 ≤ v0 ∧ v0 ≤ 99) (hb1 : 1 ≤ v1 ∧ v1 ≤ 100) (hr0 : r0 ∈ L ∧ K r0 = 197) (k75 : ∀ (K' : Nat → Nat) (B' : Int) (L' : List Nat) (f' : Nat → va_E), hok X0.2.2.1 K' B' L' f' → extC [] K B L f K' B' L' f' → (0 ≤ v0 ∧ v0 ≤ 99) → (1 ≤ v1 ∧ v1 ≤ 100) → (r0 ∈ L' ∧ K' r0 = 197) → eW E 0 0 L' f' 75 [(0, .ref r0), (1, .int (Int32.ofInt (-1))), (2, .int (Int32.ofInt v0)), (3, .int (Int32.ofInt v1))] [.int (Int32.ofInt v0)]) : eW E 0 0 L f 74 [(0, .ref r0), (1, .int (Int32.ofInt (-1))), (2, .int (Int32.ofInt v0)), (3, .int (Int32.ofInt v1))] [] := by
  obtain ⟨l0, D0, cy0, ax0⟩ := X0
  have hraw : eW E 0 0 L f 74 [(0, .ref r0), (1, .int (Int32.ofInt ((-1) + 0))), (2, .int (Int32.ofInt (0 + (1 * v0 + 0)))), (3, .int (Int32.ofInt (0 + (1 * v1 + 0))))] [] := ?_
  · simpa only [Int.zero_add, Int.one_mul, Int.add_zero] using hraw
  refine seg_ok (D := D_mk74) (νi := fun i => [v0, v1].getD i 0) (μi := fun i => [r0].getD i 0) k_mk74 hE (mk_ok (ins := iX11_market) jX11_market fX11_ok lX11_ok kX11_ok kkX11_ok H) (by decide) rfl rfl rfl rfl hh ?_ ?_
  · refine ⟨(eok_of (fun i q hq => ?_) (fun i hi => ?_)), fa0, fa0, ?_, fa0, fa0, fa0⟩
    · match i, hq with
      | 0, hq => cases hq; exact hb0
      | 1, hq => cases hq; exact hb1
      | i + 2, hq => cases hq
    · match i, hi with
      | 0, hi => exact absurd hi (by decide)
      | 1, hi => exact absurd hi (by decide)
      | i + 2, _ => rfl
    · intro i k hk
      match i, hk with
      | 0, hk => cases hk; exact hr0
      | i + 1, hk => cases hk
  · intro q hq hst K' B' L' f' ν μ h1 h2 h3 h4 h5
    have e0 : ν 0 = v0 := h4 0 (by decide)
    have e1 : ν 1 = v1 := h4 1 (by decide)
    have d0 : μ 0 = r0 := h5 0 (by decide)
    subst e0
    subst e1
    subst d0
    replace hq : q ∈ u_mk74 := hq
    unfold u_mk74 at hq
    simp only [List.mem_cons, List.not_mem_nil, or_false] at hq
    rcases hq with rfl
    · have hst2 : eW E 0 0 L' f' 75 [(0, .ref (μ 0)), (1, .int (Int32.ofInt ((-1) + 0))), (2, .int (Int32.ofInt (0 + (1 * ν 0 + 0)))), (3, .int (Int32.ofInt (0 + (1 * ν 1 + 0))))] [.int (Int32.ofInt (0 + (1 * ν 0 + 0)))] := ?_
      · exact hst2
      try simp only [Int.zero_add, Int.one_mul, Int.add_zero]
      exact k75 K' B' L' f'   h1 h2 (h3.1 0) (h3.1 1) (h3.2.2.2.1 0 197 rfl)

/-! mmA: from 0 to [26] -/
def w_mmA : TP := ([(0, (2, 0, (0, []))), (1, (0, 0, ((-1), [])))], [], ([], [], [], [200], [], [], []), [], [])
def u_mmA : List (Nat × TP × EX × Nat × Nat) := [(26, ([(0, (2, 0, (0, []))), (1, (0, 0, ((-1), []))), (2, (0, 0, (0, []))), (3, (0, 0, (1, [])))], [], ([], [], [], [200], [], [], []), [], []), ((-1), []), 0, 0)]
def D_mmA : DT := (mkD iX12_market fX12 lX12 kX12 kkX12 427 [(4, [423])] (w_mmA, [], [], 2, 0, 0, 3) false 4 u_mmA)
theorem k_mmA : chkS D_mmA 4000 0 0 0 = true := by decide +kernel
theorem s_mmA {X0 : zC0} {E : zCx} (H : ∀ j, j < 427 → CMj X0 j) (hE : zOk E X0 RX12 cX12_market 4 (zrm 2 0 0)) {K : Nat → Nat} {B : Int} {L : List Nat} {f : Nat → va_E} (hh : hok X0.2.2.1 K B L f) {r0 : Nat} (hr0 : r0 ∈ L ∧ K r0 = 200) (k26 : ∀ (K' : Nat → Nat) (B' : Int) (L' : List Nat) (f' : Nat → va_E), hok X0.2.2.1 K' B' L' f' → extC [] K B L f K' B' L' f' → (r0 ∈ L' ∧ K' r0 = 200) → eW E 0 0 L' f' 26 [(0, .ref r0), (1, .int (Int32.ofInt (-1))), (2, .int (Int32.ofInt 0)), (3, .int (Int32.ofInt 1))] []) : eW E 0 0 L f 0 [(0, .ref r0), (1, .int (Int32.ofInt (-1)))] [] := by
  obtain ⟨l0, D0, cy0, ax0⟩ := X0
  have hraw : eW E 0 0 L f 0 [(0, .ref r0), (1, .int (Int32.ofInt ((-1) + 0)))] [] := ?_
  · simpa only [Int.zero_add, Int.one_mul, Int.add_zero] using hraw
  refine seg_ok (D := D_mmA) (νi := fun i => [].getD i 0) (μi := fun i => [r0].getD i 0) k_mmA hE (mk_ok (ins := iX12_market) jX12_market fX12_ok lX12_ok kX12_ok kkX12_ok H) (by decide) rfl rfl rfl rfl hh ?_ ?_
  · refine ⟨(eok_of (fun i q hq => by cases hq) (fun i _ => rfl)), fa0, fa0, ?_, fa0, fa0, fa0⟩
    · intro i k hk
      match i, hk with
      | 0, hk => cases hk; exact hr0
      | i + 1, hk => cases hk
  · intro q hq hst K' B' L' f' ν μ h1 h2 h3 h4 h5
    have d0 : μ 0 = r0 := h5 0 (by decide)
    subst d0
    replace hq : q ∈ u_mmA := hq
    unfold u_mmA at hq
    simp only [List.mem_cons, List.not_mem_nil, or_false] at hq
    rcases hq with rfl
    · have hst2 : eW E 0 0 L' f' 26 [(0, .ref (μ 0)), (1, .int (Int32.ofInt ((-1) + 0))), (2, .int (Int32.ofInt (0 + 0))), (3, .int (Int32.ofInt (1 + 0)))] [] := ?_
      · exact hst2
      try simp only [Int.zero_add, Int.one_mul, Int.add_zero]
      exact k26 K' B' L' f'   h1 h2 (h3.2.2.2.1 0 200 rfl)

/-! mmB: from 0 to [11] -/
def w_mmB : TP := ([(0, (2, 0, (0, []))), (1, (0, 0, (0, [(1, 0)])))], [], ([((-2147483648), (-2))], [], [], [200], [], [], []), [], [])
def u_mmB : List (Nat × TP × EX × Nat × Nat) := [(11, ([(0, (2, 0, (0, []))), (1, (0, 0, (0, [(1, 0)])))], [(0, 0, ((-1), []))], ([((-2147483648), (-2))], [], [], [200], [], [], []), [], []), ((-1), []), 0, 0)]
def D_mmB : DT := (mkD iX12_market fX12 lX12 kX12 kkX12 427 [(4, [423])] (w_mmB, [], [], 2, 0, 0, 3) false 4 u_mmB)
theorem k_mmB : chkS D_mmB 4000 0 0 0 = true := by decide +kernel
theorem s_mmB {X0 : zC0} {E : zCx} (H : ∀ j, j < 427 → CMj X0 j) (hE : zOk E X0 RX12 cX12_market 4 (zrm 2 0 0)) {K : Nat → Nat} {B : Int} {L : List Nat} {f : Nat → va_E} (hh : hok X0.2.2.1 K B L f) {v0 : Int} {r0 : Nat} (hb0 : (-2147483648) ≤ v0 ∧ v0 ≤ (-2)) (hr0 : r0 ∈ L ∧ K r0 = 200) (k11 : ∀ (K' : Nat → Nat) (B' : Int) (L' : List Nat) (f' : Nat → va_E), hok X0.2.2.1 K' B' L' f' → extC [] K B L f K' B' L' f' → ((-2147483648) ≤ v0 ∧ v0 ≤ (-2)) → (r0 ∈ L' ∧ K' r0 = 200) → eW E 0 0 L' f' 11 [(0, .ref r0), (1, .int (Int32.ofInt v0))] [.int (Int32.ofInt (-1))]) : eW E 0 0 L f 0 [(0, .ref r0), (1, .int (Int32.ofInt v0))] [] := by
  obtain ⟨l0, D0, cy0, ax0⟩ := X0
  have hraw : eW E 0 0 L f 0 [(0, .ref r0), (1, .int (Int32.ofInt (0 + (1 * v0 + 0))))] [] := ?_
  · simpa only [Int.zero_add, Int.one_mul, Int.add_zero] using hraw
  refine seg_ok (D := D_mmB) (νi := fun i => [v0].getD i 0) (μi := fun i => [r0].getD i 0) k_mmB hE (mk_ok (ins := iX12_market) jX12_market fX12_ok lX12_ok kX12_ok kkX12_ok H) (by decide) rfl rfl rfl rfl hh ?_ ?_
  · refine ⟨(eok_of (fun i q hq => ?_) (fun i hi => ?_)), fa0, fa0, ?_, fa0, fa0, fa0⟩
    · match i, hq with
      | 0, hq => cases hq; exact hb0
      | i + 1, hq => cases hq
    · match i, hi with
      | 0, hi => exact absurd hi (by decide)
      | i + 1, _ => rfl
    · intro i k hk
      match i, hk with
      | 0, hk => cases hk; exact hr0
      | i + 1, hk => cases hk
  · intro q hq hst K' B' L' f' ν μ h1 h2 h3 h4 h5
    have e0 : ν 0 = v0 := h4 0 (by decide)
    have d0 : μ 0 = r0 := h5 0 (by decide)
    subst e0
    subst d0
    replace hq : q ∈ u_mmB := hq
    unfold u_mmB at hq
    simp only [List.mem_cons, List.not_mem_nil, or_false] at hq
    rcases hq with rfl
    · have hst2 : eW E 0 0 L' f' 11 [(0, .ref (μ 0)), (1, .int (Int32.ofInt (0 + (1 * ν 0 + 0))))] [.int (Int32.ofInt ((-1) + 0))] := ?_
      · exact hst2
      try simp only [Int.zero_add, Int.one_mul, Int.add_zero]
      exact k11 K' B' L' f'   h1 h2 (h3.1 0) (h3.2.2.2.1 0 200 rfl)

/-! mmC: from 0 to [11] -/
def w_mmC : TP := ([(0, (2, 0, (0, []))), (1, (0, 0, (0, [(1, 0)])))], [], ([(100, 2147483647)], [], [], [200], [], [], []), [], [])
def u_mmC : List (Nat × TP × EX × Nat × Nat) := [(11, ([(0, (2, 0, (0, []))), (1, (0, 0, (0, [(1, 0)])))], [(0, 0, ((-1), []))], ([(100, 2147483647)], [], [], [200], [], [], []), [], []), ((-1), []), 0, 0)]
def D_mmC : DT := (mkD iX12_market fX12 lX12 kX12 kkX12 427 [(4, [423])] (w_mmC, [], [], 2, 0, 0, 3) false 4 u_mmC)
theorem k_mmC : chkS D_mmC 4000 0 0 0 = true := by decide +kernel
theorem s_mmC {X0 : zC0} {E : zCx} (H : ∀ j, j < 427 → CMj X0 j) (hE : zOk E X0 RX12 cX12_market 4 (zrm 2 0 0)) {K : Nat → Nat} {B : Int} {L : List Nat} {f : Nat → va_E} (hh : hok X0.2.2.1 K B L f) {v0 : Int} {r0 : Nat} (hb0 : 100 ≤ v0 ∧ v0 ≤ 2147483647) (hr0 : r0 ∈ L ∧ K r0 = 200) (k11 : ∀ (K' : Nat → Nat) (B' : Int) (L' : List Nat) (f' : Nat → va_E), hok X0.2.2.1 K' B' L' f' → extC [] K B L f K' B' L' f' → (100 ≤ v0 ∧ v0 ≤ 2147483647) → (r0 ∈ L' ∧ K' r0 = 200) → eW E 0 0 L' f' 11 [(0, .ref r0), (1, .int (Int32.ofInt v0))] [.int (Int32.ofInt (-1))]) : eW E 0 0 L f 0 [(0, .ref r0), (1, .int (Int32.ofInt v0))] [] := by
  obtain ⟨l0, D0, cy0, ax0⟩ := X0
  have hraw : eW E 0 0 L f 0 [(0, .ref r0), (1, .int (Int32.ofInt (0 + (1 * v0 + 0))))] [] := ?_
  · simpa only [Int.zero_add, Int.one_mul, Int.add_zero] using hraw
  refine seg_ok (D := D_mmC) (νi := fun i => [v0].getD i 0) (μi := fun i => [r0].getD i 0) k_mmC hE (mk_ok (ins := iX12_market) jX12_market fX12_ok lX12_ok kX12_ok kkX12_ok H) (by decide) rfl rfl rfl rfl hh ?_ ?_
  · refine ⟨(eok_of (fun i q hq => ?_) (fun i hi => ?_)), fa0, fa0, ?_, fa0, fa0, fa0⟩
    · match i, hq with
      | 0, hq => cases hq; exact hb0
      | i + 1, hq => cases hq
    · match i, hi with
      | 0, hi => exact absurd hi (by decide)
      | i + 1, _ => rfl
    · intro i k hk
      match i, hk with
      | 0, hk => cases hk; exact hr0
      | i + 1, hk => cases hk
  · intro q hq hst K' B' L' f' ν μ h1 h2 h3 h4 h5
    have e0 : ν 0 = v0 := h4 0 (by decide)
    have d0 : μ 0 = r0 := h5 0 (by decide)
    subst e0
    subst d0
    replace hq : q ∈ u_mmC := hq
    unfold u_mmC at hq
    simp only [List.mem_cons, List.not_mem_nil, or_false] at hq
    rcases hq with rfl
    · have hst2 : eW E 0 0 L' f' 11 [(0, .ref (μ 0)), (1, .int (Int32.ofInt (0 + (1 * ν 0 + 0))))] [.int (Int32.ofInt ((-1) + 0))] := ?_
      · exact hst2
      try simp only [Int.zero_add, Int.one_mul, Int.add_zero]
      exact k11 K' B' L' f'   h1 h2 (h3.1 0) (h3.2.2.2.1 0 200 rfl)

/-! mmD: from 0 to [18] -/
def w_mmD : TP := ([(0, (2, 0, (0, []))), (1, (0, 0, (0, [(1, 0)])))], [], ([(0, 99)], [], [], [200], [], [], []), [], [])
def u_mmD : List (Nat × TP × EX × Nat × Nat) := [(18, ([(0, (2, 0, (0, []))), (1, (0, 0, (0, [(1, 0)])))], [(0, 0, (0, [(1, 0)])), (2, 0, (0, []))], ([(0, 99)], [], [], [200], [], [], []), [], []), ((-1), []), 0, 0)]
def D_mmD : DT := (mkD iX12_market fX12 lX12 kX12 kkX12 427 [(4, [423])] (w_mmD, [], [], 2, 0, 0, 3) false 4 u_mmD)
theorem k_mmD : chkS D_mmD 4000 0 0 0 = true := by decide +kernel
theorem s_mmD {X0 : zC0} {E : zCx} (H : ∀ j, j < 427 → CMj X0 j) (hE : zOk E X0 RX12 cX12_market 4 (zrm 2 0 0)) {K : Nat → Nat} {B : Int} {L : List Nat} {f : Nat → va_E} (hh : hok X0.2.2.1 K B L f) {v0 : Int} {r0 : Nat} (hb0 : 0 ≤ v0 ∧ v0 ≤ 99) (hr0 : r0 ∈ L ∧ K r0 = 200) (k18 : ∀ (K' : Nat → Nat) (B' : Int) (L' : List Nat) (f' : Nat → va_E), hok X0.2.2.1 K' B' L' f' → extC [] K B L f K' B' L' f' → (0 ≤ v0 ∧ v0 ≤ 99) → (r0 ∈ L' ∧ K' r0 = 200) → eW E 0 0 L' f' 18 [(0, .ref r0), (1, .int (Int32.ofInt v0))] [.int (Int32.ofInt v0), .ref r0]) : eW E 0 0 L f 0 [(0, .ref r0), (1, .int (Int32.ofInt v0))] [] := by
  obtain ⟨l0, D0, cy0, ax0⟩ := X0
  have hraw : eW E 0 0 L f 0 [(0, .ref r0), (1, .int (Int32.ofInt (0 + (1 * v0 + 0))))] [] := ?_
  · simpa only [Int.zero_add, Int.one_mul, Int.add_zero] using hraw
  refine seg_ok (D := D_mmD) (νi := fun i => [v0].getD i 0) (μi := fun i => [r0].getD i 0) k_mmD hE (mk_ok (ins := iX12_market) jX12_market fX12_ok lX12_ok kX12_ok kkX12_ok H) (by decide) rfl rfl rfl rfl hh ?_ ?_
  · refine ⟨(eok_of (fun i q hq => ?_) (fun i hi => ?_)), fa0, fa0, ?_, fa0, fa0, fa0⟩
    · match i, hq with
      | 0, hq => cases hq; exact hb0
      | i + 1, hq => cases hq
    · match i, hi with
      | 0, hi => exact absurd hi (by decide)
      | i + 1, _ => rfl
    · intro i k hk
      match i, hk with
      | 0, hk => cases hk; exact hr0
      | i + 1, hk => cases hk
  · intro q hq hst K' B' L' f' ν μ h1 h2 h3 h4 h5
    have e0 : ν 0 = v0 := h4 0 (by decide)
    have d0 : μ 0 = r0 := h5 0 (by decide)
    subst e0
    subst d0
    replace hq : q ∈ u_mmD := hq
    unfold u_mmD at hq
    simp only [List.mem_cons, List.not_mem_nil, or_false] at hq
    rcases hq with rfl
    · have hst2 : eW E 0 0 L' f' 18 [(0, .ref (μ 0)), (1, .int (Int32.ofInt (0 + (1 * ν 0 + 0))))] [.int (Int32.ofInt (0 + (1 * ν 0 + 0))), .ref (μ 0)] := ?_
      · exact hst2
      try simp only [Int.zero_add, Int.one_mul, Int.add_zero]
      exact k18 K' B' L' f'   h1 h2 (h3.1 0) (h3.2.2.2.1 0 200 rfl)

/-! mm26: from 26 to [34, 53] -/
def w_mm26 : TP := ([(0, (2, 0, (0, []))), (1, (0, 0, ((-1), []))), (2, (0, 0, (0, [(1, 0)]))), (3, (0, 0, (0, [(1, 1)])))], [], ([(0, 99), (1, 100)], [], [], [200], [], [], []), [], [])
def u_mm26 : List (Nat × TP × EX × Nat × Nat) := [(34, ([(0, (2, 0, (0, []))), (1, (0, 0, ((-1), []))), (2, (0, 0, (0, [(1, 0)]))), (3, (0, 0, (0, [(1, 1)])))], [(0, 0, (0, [(1, 1)])), (2, 0, (0, []))], ([(0, 99), (1, 99)], [], [], [200], [], [], []), [], []), ((-1), []), 0, 0), (53, ([(0, (2, 0, (0, []))), (1, (0, 0, ((-1), []))), (2, (0, 0, (0, [(1, 0)]))), (3, (0, 0, (0, [(1, 1)])))], [], ([(0, 99), (100, 100)], [], [], [200], [], [], []), [], []), ((-1), []), 0, 0)]
def D_mm26 : DT := (mkD iX12_market fX12 lX12 kX12 kkX12 427 [] (w_mm26, [], [], 2, 0, 0, 3) false 4 u_mm26)
theorem k_mm26 : chkS D_mm26 4000 0 0 26 = true := by decide +kernel
theorem s_mm26 {X0 : zC0} {E : zCx} (H : ∀ j, j < 427 → CMj X0 j) (hE : zOk E X0 RX12 cX12_market 4 (zrm 2 0 0)) {K : Nat → Nat} {B : Int} {L : List Nat} {f : Nat → va_E} (hh : hok X0.2.2.1 K B L f) {v0 v1 : Int} {r0 : Nat} (hb0 : 0 ≤ v0 ∧ v0 ≤ 99) (hb1 : 1 ≤ v1 ∧ v1 ≤ 100) (hr0 : r0 ∈ L ∧ K r0 = 200) (k34 : ∀ (K' : Nat → Nat) (B' : Int) (L' : List Nat) (f' : Nat → va_E), hok X0.2.2.1 K' B' L' f' → extC [] K B L f K' B' L' f' → (0 ≤ v0 ∧ v0 ≤ 99) → (1 ≤ v1 ∧ v1 ≤ 99) → (r0 ∈ L' ∧ K' r0 = 200) → eW E 0 0 L' f' 34 [(0, .ref r0), (1, .int (Int32.ofInt (-1))), (2, .int (Int32.ofInt v0)), (3, .int (Int32.ofInt v1))] [.int (Int32.ofInt v1), .ref r0]) (k53 : ∀ (K' : Nat → Nat) (B' : Int) (L' : List Nat) (f' : Nat → va_E), hok X0.2.2.1 K' B' L' f' → extC [] K B L f K' B' L' f' → (0 ≤ v0 ∧ v0 ≤ 99) → (100 ≤ v1 ∧ v1 ≤ 100) → (r0 ∈ L' ∧ K' r0 = 200) → eW E 0 0 L' f' 53 [(0, .ref r0), (1, .int (Int32.ofInt (-1))), (2, .int (Int32.ofInt v0)), (3, .int (Int32.ofInt v1))] []) : eW E 0 0 L f 26 [(0, .ref r0), (1, .int (Int32.ofInt (-1))), (2, .int (Int32.ofInt v0)), (3, .int (Int32.ofInt v1))] [] := by
  obtain ⟨l0, D0, cy0, ax0⟩ := X0
  have hraw : eW E 0 0 L f 26 [(0, .ref r0), (1, .int (Int32.ofInt ((-1) + 0))), (2, .int (Int32.ofInt (0 + (1 * v0 + 0)))), (3, .int (Int32.ofInt (0 + (1 * v1 + 0))))] [] := ?_
  · simpa only [Int.zero_add, Int.one_mul, Int.add_zero] using hraw
  refine seg_ok (D := D_mm26) (νi := fun i => [v0, v1].getD i 0) (μi := fun i => [r0].getD i 0) k_mm26 hE (mk_ok (ins := iX12_market) jX12_market fX12_ok lX12_ok kX12_ok kkX12_ok H) (by decide) rfl rfl rfl rfl hh ?_ ?_
  · refine ⟨(eok_of (fun i q hq => ?_) (fun i hi => ?_)), fa0, fa0, ?_, fa0, fa0, fa0⟩
    · match i, hq with
      | 0, hq => cases hq; exact hb0
      | 1, hq => cases hq; exact hb1
      | i + 2, hq => cases hq
    · match i, hi with
      | 0, hi => exact absurd hi (by decide)
      | 1, hi => exact absurd hi (by decide)
      | i + 2, _ => rfl
    · intro i k hk
      match i, hk with
      | 0, hk => cases hk; exact hr0
      | i + 1, hk => cases hk
  · intro q hq hst K' B' L' f' ν μ h1 h2 h3 h4 h5
    have e0 : ν 0 = v0 := h4 0 (by decide)
    have e1 : ν 1 = v1 := h4 1 (by decide)
    have d0 : μ 0 = r0 := h5 0 (by decide)
    subst e0
    subst e1
    subst d0
    replace hq : q ∈ u_mm26 := hq
    unfold u_mm26 at hq
    simp only [List.mem_cons, List.not_mem_nil, or_false] at hq
    rcases hq with rfl | rfl
    · have hst2 : eW E 0 0 L' f' 34 [(0, .ref (μ 0)), (1, .int (Int32.ofInt ((-1) + 0))), (2, .int (Int32.ofInt (0 + (1 * ν 0 + 0)))), (3, .int (Int32.ofInt (0 + (1 * ν 1 + 0))))] [.int (Int32.ofInt (0 + (1 * ν 1 + 0))), .ref (μ 0)] := ?_
      · exact hst2
      try simp only [Int.zero_add, Int.one_mul, Int.add_zero]
      exact k34 K' B' L' f'   h1 h2 (h3.1 0) (h3.1 1) (h3.2.2.2.1 0 200 rfl)
    · have hst2 : eW E 0 0 L' f' 53 [(0, .ref (μ 0)), (1, .int (Int32.ofInt ((-1) + 0))), (2, .int (Int32.ofInt (0 + (1 * ν 0 + 0)))), (3, .int (Int32.ofInt (0 + (1 * ν 1 + 0))))] [] := ?_
      · exact hst2
      try simp only [Int.zero_add, Int.one_mul, Int.add_zero]
      exact k53 K' B' L' f'   h1 h2 (h3.1 0) (h3.1 1) (h3.2.2.2.1 0 200 rfl)

/-! mm37: from 37 to [39] -/
def w_mm37 : TP := ([(0, (2, 0, (0, []))), (1, (0, 0, ((-1), []))), (2, (0, 0, (0, [(1, 0)]))), (3, (0, 0, (0, [(1, 1)])))], [(0, 0, (0, [(1, 2)]))], ([(0, 99), (1, 99), (0, 990)], [], [], [200], [], [], []), [], [])
def u_mm37 : List (Nat × TP × EX × Nat × Nat) := [(39, ([(0, (2, 0, (0, []))), (1, (0, 0, ((-1), []))), (2, (0, 0, (0, [(1, 0)]))), (3, (0, 0, (0, [(1, 1)])))], [(0, 0, (0, [(1, 0)])), (2, 0, (0, [])), (0, 0, (0, [(1, 2)]))], ([(0, 99), (1, 99), (0, 990)], [], [], [200], [], [], []), [], []), ((-1), []), 0, 0)]
def D_mm37 : DT := (mkD iX12_market fX12 lX12 kX12 kkX12 427 [] (w_mm37, [], [], 2, 0, 0, 3) false 4 u_mm37)
theorem k_mm37 : chkS D_mm37 4000 0 0 37 = true := by decide +kernel
theorem s_mm37 {X0 : zC0} {E : zCx} (H : ∀ j, j < 427 → CMj X0 j) (hE : zOk E X0 RX12 cX12_market 4 (zrm 2 0 0)) {K : Nat → Nat} {B : Int} {L : List Nat} {f : Nat → va_E} (hh : hok X0.2.2.1 K B L f) {v0 v1 v2 : Int} {r0 : Nat} (hb0 : 0 ≤ v0 ∧ v0 ≤ 99) (hb1 : 1 ≤ v1 ∧ v1 ≤ 99) (hb2 : 0 ≤ v2 ∧ v2 ≤ 990) (hr0 : r0 ∈ L ∧ K r0 = 200) (k39 : ∀ (K' : Nat → Nat) (B' : Int) (L' : List Nat) (f' : Nat → va_E), hok X0.2.2.1 K' B' L' f' → extC [] K B L f K' B' L' f' → (0 ≤ v0 ∧ v0 ≤ 99) → (1 ≤ v1 ∧ v1 ≤ 99) → (0 ≤ v2 ∧ v2 ≤ 990) → (r0 ∈ L' ∧ K' r0 = 200) → eW E 0 0 L' f' 39 [(0, .ref r0), (1, .int (Int32.ofInt (-1))), (2, .int (Int32.ofInt v0)), (3, .int (Int32.ofInt v1))] [.int (Int32.ofInt v0), .ref r0, .int (Int32.ofInt v2)]) : eW E 0 0 L f 37 [(0, .ref r0), (1, .int (Int32.ofInt (-1))), (2, .int (Int32.ofInt v0)), (3, .int (Int32.ofInt v1))] [.int (Int32.ofInt v2)] := by
  obtain ⟨l0, D0, cy0, ax0⟩ := X0
  have hraw : eW E 0 0 L f 37 [(0, .ref r0), (1, .int (Int32.ofInt ((-1) + 0))), (2, .int (Int32.ofInt (0 + (1 * v0 + 0)))), (3, .int (Int32.ofInt (0 + (1 * v1 + 0))))] [.int (Int32.ofInt (0 + (1 * v2 + 0)))] := ?_
  · simpa only [Int.zero_add, Int.one_mul, Int.add_zero] using hraw
  refine seg_ok (D := D_mm37) (νi := fun i => [v0, v1, v2].getD i 0) (μi := fun i => [r0].getD i 0) k_mm37 hE (mk_ok (ins := iX12_market) jX12_market fX12_ok lX12_ok kX12_ok kkX12_ok H) (by decide) rfl rfl rfl rfl hh ?_ ?_
  · refine ⟨(eok_of (fun i q hq => ?_) (fun i hi => ?_)), fa0, fa0, ?_, fa0, fa0, fa0⟩
    · match i, hq with
      | 0, hq => cases hq; exact hb0
      | 1, hq => cases hq; exact hb1
      | 2, hq => cases hq; exact hb2
      | i + 3, hq => cases hq
    · match i, hi with
      | 0, hi => exact absurd hi (by decide)
      | 1, hi => exact absurd hi (by decide)
      | 2, hi => exact absurd hi (by decide)
      | i + 3, _ => rfl
    · intro i k hk
      match i, hk with
      | 0, hk => cases hk; exact hr0
      | i + 1, hk => cases hk
  · intro q hq hst K' B' L' f' ν μ h1 h2 h3 h4 h5
    have e0 : ν 0 = v0 := h4 0 (by decide)
    have e1 : ν 1 = v1 := h4 1 (by decide)
    have e2 : ν 2 = v2 := h4 2 (by decide)
    have d0 : μ 0 = r0 := h5 0 (by decide)
    subst e0
    subst e1
    subst e2
    subst d0
    replace hq : q ∈ u_mm37 := hq
    unfold u_mm37 at hq
    simp only [List.mem_cons, List.not_mem_nil, or_false] at hq
    rcases hq with rfl
    · have hst2 : eW E 0 0 L' f' 39 [(0, .ref (μ 0)), (1, .int (Int32.ofInt ((-1) + 0))), (2, .int (Int32.ofInt (0 + (1 * ν 0 + 0)))), (3, .int (Int32.ofInt (0 + (1 * ν 1 + 0))))] [.int (Int32.ofInt (0 + (1 * ν 0 + 0))), .ref (μ 0), .int (Int32.ofInt (0 + (1 * ν 2 + 0)))] := ?_
      · exact hst2
      try simp only [Int.zero_add, Int.one_mul, Int.add_zero]
      exact k39 K' B' L' f'   h1 h2 (h3.1 0) (h3.1 1) (h3.1 2) (h3.2.2.2.1 0 200 rfl)

/-! mm42a: from 42 to [26] -/
def w_mm42a : TP := ([(0, (2, 0, (0, []))), (1, (0, 0, ((-1), []))), (2, (0, 0, (0, [(1, 0)]))), (3, (0, 0, (0, [(1, 1)])))], [(0, 0, (0, [(1, 2)])), (0, 0, (0, [(1, 3)]))], ([(0, 99), (1, 99), (0, 990), (0, 990)], [((-1), [(1, 3), ((-1), 2)])], [], [200], [], [], []), [], [])
def u_mm42a : List (Nat × TP × EX × Nat × Nat) := [(26, ([(0, (2, 0, (0, []))), (1, (0, 0, ((-1), []))), (2, (0, 0, (0, [(1, 1)]))), (3, (0, 0, (1, [(1, 1)])))], [], ([(0, 99), (1, 99), (0, 989), (1, 990)], [((-1), [(1, 3), ((-1), 2)])], [], [200], [], [], []), [], []), ((-1), []), 0, 0)]
def D_mm42a : DT := (mkD iX12_market fX12 lX12 kX12 kkX12 427 [] (w_mm42a, [], [], 2, 0, 0, 3) false 4 u_mm42a)
theorem k_mm42a : chkS D_mm42a 4000 0 0 42 = true := by decide +kernel
theorem s_mm42a {X0 : zC0} {E : zCx} (H : ∀ j, j < 427 → CMj X0 j) (hE : zOk E X0 RX12 cX12_market 4 (zrm 2 0 0)) {K : Nat → Nat} {B : Int} {L : List Nat} {f : Nat → va_E} (hh : hok X0.2.2.1 K B L f) {v0 v1 v2 v3 : Int} {r0 : Nat} (hb0 : 0 ≤ v0 ∧ v0 ≤ 99) (hb1 : 1 ≤ v1 ∧ v1 ≤ 99) (hb2 : 0 ≤ v2 ∧ v2 ≤ 990) (hb3 : 0 ≤ v3 ∧ v3 ≤ 990) (hq0 : 0 ≤ ((-1) + (v3 + ((-1) * v2)))) (hr0 : r0 ∈ L ∧ K r0 = 200) (k26 : ∀ (K' : Nat → Nat) (B' : Int) (L' : List Nat) (f' : Nat → va_E), hok X0.2.2.1 K' B' L' f' → extC [] K B L f K' B' L' f' → (0 ≤ v0 ∧ v0 ≤ 99) → (1 ≤ v1 ∧ v1 ≤ 99) → (0 ≤ v2 ∧ v2 ≤ 989) → (1 ≤ v3 ∧ v3 ≤ 990) → (0 ≤ ((-1) + (v3 + ((-1) * v2)))) → (r0 ∈ L' ∧ K' r0 = 200) → eW E 0 0 L' f' 26 [(0, .ref r0), (1, .int (Int32.ofInt (-1))), (2, .int (Int32.ofInt v1)), (3, .int (Int32.ofInt (1 + v1)))] []) : eW E 0 0 L f 42 [(0, .ref r0), (1, .int (Int32.ofInt (-1))), (2, .int (Int32.ofInt v0)), (3, .int (Int32.ofInt v1))] [.int (Int32.ofInt v2), .int (Int32.ofInt v3)] := by
  obtain ⟨l0, D0, cy0, ax0⟩ := X0
  have hraw : eW E 0 0 L f 42 [(0, .ref r0), (1, .int (Int32.ofInt ((-1) + 0))), (2, .int (Int32.ofInt (0 + (1 * v0 + 0)))), (3, .int (Int32.ofInt (0 + (1 * v1 + 0))))] [.int (Int32.ofInt (0 + (1 * v2 + 0))), .int (Int32.ofInt (0 + (1 * v3 + 0)))] := ?_
  · simpa only [Int.zero_add, Int.one_mul, Int.add_zero] using hraw
  have rq0 : 0 ≤ ((-1) + (1 * v3 + ((-1) * v2 + 0))) := by simpa only [Int.zero_add, Int.one_mul, Int.add_zero] using hq0
  refine seg_ok (D := D_mm42a) (νi := fun i => [v0, v1, v2, v3].getD i 0) (μi := fun i => [r0].getD i 0) k_mm42a hE (mk_ok (ins := iX12_market) jX12_market fX12_ok lX12_ok kX12_ok kkX12_ok H) (by decide) rfl rfl rfl rfl hh ?_ ?_
  · refine ⟨(eok_of (fun i q hq => ?_) (fun i hi => ?_)), (fa_cons (rq0) fa0), fa0, ?_, fa0, fa0, fa0⟩
    · match i, hq with
      | 0, hq => cases hq; exact hb0
      | 1, hq => cases hq; exact hb1
      | 2, hq => cases hq; exact hb2
      | 3, hq => cases hq; exact hb3
      | i + 4, hq => cases hq
    · match i, hi with
      | 0, hi => exact absurd hi (by decide)
      | 1, hi => exact absurd hi (by decide)
      | 2, hi => exact absurd hi (by decide)
      | 3, hi => exact absurd hi (by decide)
      | i + 4, _ => rfl
    · intro i k hk
      match i, hk with
      | 0, hk => cases hk; exact hr0
      | i + 1, hk => cases hk
  · intro q hq hst K' B' L' f' ν μ h1 h2 h3 h4 h5
    have e0 : ν 0 = v0 := h4 0 (by decide)
    have e1 : ν 1 = v1 := h4 1 (by decide)
    have e2 : ν 2 = v2 := h4 2 (by decide)
    have e3 : ν 3 = v3 := h4 3 (by decide)
    have d0 : μ 0 = r0 := h5 0 (by decide)
    subst e0
    subst e1
    subst e2
    subst e3
    subst d0
    replace hq : q ∈ u_mm42a := hq
    unfold u_mm42a at hq
    simp only [List.mem_cons, List.not_mem_nil, or_false] at hq
    rcases hq with rfl
    · have hst2 : eW E 0 0 L' f' 26 [(0, .ref (μ 0)), (1, .int (Int32.ofInt ((-1) + 0))), (2, .int (Int32.ofInt (0 + (1 * ν 1 + 0)))), (3, .int (Int32.ofInt (1 + (1 * ν 1 + 0))))] [] := ?_
      · exact hst2
      try simp only [Int.zero_add, Int.one_mul, Int.add_zero]
      exact k26 K' B' L' f'   h1 h2 (h3.1 0) (h3.1 1) (h3.1 2) (h3.1 3) (by simpa only [xv, xvT, Int.zero_add, Int.one_mul, Int.add_zero] using (h3.2.1 _ (List.mem_of_getElem? (i := 0) rfl))) (h3.2.2.2.1 0 200 rfl)

/-! mm42b: from 42 to [26] -/
def w_mm42b : TP := ([(0, (2, 0, (0, []))), (1, (0, 0, ((-1), []))), (2, (0, 0, (0, [(1, 0)]))), (3, (0, 0, (0, [(1, 1)])))], [(0, 0, (0, [(1, 2)])), (0, 0, (0, [(1, 3)]))], ([(0, 99), (1, 99), (0, 990), (0, 990)], [(0, [(1, 2), ((-1), 3)])], [], [200], [], [], []), [], [])
def u_mm42b : List (Nat × TP × EX × Nat × Nat) := [(26, ([(0, (2, 0, (0, []))), (1, (0, 0, ((-1), []))), (2, (0, 0, (0, [(1, 0)]))), (3, (0, 0, (1, [(1, 1)])))], [], ([(0, 99), (1, 99), (0, 990), (0, 990)], [(0, [((-1), 3), (1, 2)])], [], [200], [], [], []), [], []), ((-1), []), 0, 0)]
def D_mm42b : DT := (mkD iX12_market fX12 lX12 kX12 kkX12 427 [] (w_mm42b, [], [], 2, 0, 0, 3) false 4 u_mm42b)
theorem k_mm42b : chkS D_mm42b 4000 0 0 42 = true := by decide +kernel
theorem s_mm42b {X0 : zC0} {E : zCx} (H : ∀ j, j < 427 → CMj X0 j) (hE : zOk E X0 RX12 cX12_market 4 (zrm 2 0 0)) {K : Nat → Nat} {B : Int} {L : List Nat} {f : Nat → va_E} (hh : hok X0.2.2.1 K B L f) {v0 v1 v2 v3 : Int} {r0 : Nat} (hb0 : 0 ≤ v0 ∧ v0 ≤ 99) (hb1 : 1 ≤ v1 ∧ v1 ≤ 99) (hb2 : 0 ≤ v2 ∧ v2 ≤ 990) (hb3 : 0 ≤ v3 ∧ v3 ≤ 990) (hq0 : 0 ≤ (v2 + ((-1) * v3))) (hr0 : r0 ∈ L ∧ K r0 = 200) (k26 : ∀ (K' : Nat → Nat) (B' : Int) (L' : List Nat) (f' : Nat → va_E), hok X0.2.2.1 K' B' L' f' → extC [] K B L f K' B' L' f' → (0 ≤ v0 ∧ v0 ≤ 99) → (1 ≤ v1 ∧ v1 ≤ 99) → (0 ≤ v2 ∧ v2 ≤ 990) → (0 ≤ v3 ∧ v3 ≤ 990) → (0 ≤ ((-1) * v3 + v2)) → (r0 ∈ L' ∧ K' r0 = 200) → eW E 0 0 L' f' 26 [(0, .ref r0), (1, .int (Int32.ofInt (-1))), (2, .int (Int32.ofInt v0)), (3, .int (Int32.ofInt (1 + v1)))] []) : eW E 0 0 L f 42 [(0, .ref r0), (1, .int (Int32.ofInt (-1))), (2, .int (Int32.ofInt v0)), (3, .int (Int32.ofInt v1))] [.int (Int32.ofInt v2), .int (Int32.ofInt v3)] := by
  obtain ⟨l0, D0, cy0, ax0⟩ := X0
  have hraw : eW E 0 0 L f 42 [(0, .ref r0), (1, .int (Int32.ofInt ((-1) + 0))), (2, .int (Int32.ofInt (0 + (1 * v0 + 0)))), (3, .int (Int32.ofInt (0 + (1 * v1 + 0))))] [.int (Int32.ofInt (0 + (1 * v2 + 0))), .int (Int32.ofInt (0 + (1 * v3 + 0)))] := ?_
  · simpa only [Int.zero_add, Int.one_mul, Int.add_zero] using hraw
  have rq0 : 0 ≤ (0 + (1 * v2 + ((-1) * v3 + 0))) := by simpa only [Int.zero_add, Int.one_mul, Int.add_zero] using hq0
  refine seg_ok (D := D_mm42b) (νi := fun i => [v0, v1, v2, v3].getD i 0) (μi := fun i => [r0].getD i 0) k_mm42b hE (mk_ok (ins := iX12_market) jX12_market fX12_ok lX12_ok kX12_ok kkX12_ok H) (by decide) rfl rfl rfl rfl hh ?_ ?_
  · refine ⟨(eok_of (fun i q hq => ?_) (fun i hi => ?_)), (fa_cons (rq0) fa0), fa0, ?_, fa0, fa0, fa0⟩
    · match i, hq with
      | 0, hq => cases hq; exact hb0
      | 1, hq => cases hq; exact hb1
      | 2, hq => cases hq; exact hb2
      | 3, hq => cases hq; exact hb3
      | i + 4, hq => cases hq
    · match i, hi with
      | 0, hi => exact absurd hi (by decide)
      | 1, hi => exact absurd hi (by decide)
      | 2, hi => exact absurd hi (by decide)
      | 3, hi => exact absurd hi (by decide)
      | i + 4, _ => rfl
    · intro i k hk
      match i, hk with
      | 0, hk => cases hk; exact hr0
      | i + 1, hk => cases hk
  · intro q hq hst K' B' L' f' ν μ h1 h2 h3 h4 h5
    have e0 : ν 0 = v0 := h4 0 (by decide)
    have e1 : ν 1 = v1 := h4 1 (by decide)
    have e2 : ν 2 = v2 := h4 2 (by decide)
    have e3 : ν 3 = v3 := h4 3 (by decide)
    have d0 : μ 0 = r0 := h5 0 (by decide)
    subst e0
    subst e1
    subst e2
    subst e3
    subst d0
    replace hq : q ∈ u_mm42b := hq
    unfold u_mm42b at hq
    simp only [List.mem_cons, List.not_mem_nil, or_false] at hq
    rcases hq with rfl
    · have hst2 : eW E 0 0 L' f' 26 [(0, .ref (μ 0)), (1, .int (Int32.ofInt ((-1) + 0))), (2, .int (Int32.ofInt (0 + (1 * ν 0 + 0)))), (3, .int (Int32.ofInt (1 + (1 * ν 1 + 0))))] [] := ?_
      · exact hst2
      try simp only [Int.zero_add, Int.one_mul, Int.add_zero]
      exact k26 K' B' L' f'   h1 h2 (h3.1 0) (h3.1 1) (h3.1 2) (h3.1 3) (by simpa only [xv, xvT, Int.zero_add, Int.one_mul, Int.add_zero] using (h3.2.1 _ (List.mem_of_getElem? (i := 0) rfl))) (h3.2.2.2.1 0 200 rfl)

/-! mm53: from 53 to [54] -/
def w_mm53 : TP := ([(0, (2, 0, (0, []))), (1, (0, 0, ((-1), []))), (2, (0, 0, (0, [(1, 0)]))), (3, (0, 0, (0, [(1, 1)])))], [], ([(0, 99), (1, 100)], [], [], [200], [], [], []), [], [])
def u_mm53 : List (Nat × TP × EX × Nat × Nat) := [(54, ([(0, (2, 0, (0, []))), (1, (0, 0, ((-1), []))), (2, (0, 0, (0, [(1, 0)]))), (3, (0, 0, (0, [(1, 1)])))], [(0, 0, (0, [(1, 0)]))], ([(0, 99), (1, 100)], [], [], [200], [], [], []), [], []), ((-1), []), 0, 0)]
def D_mm53 : DT := (mkD iX12_market fX12 lX12 kX12 kkX12 427 [] (w_mm53, [], [], 2, 0, 0, 3) false 4 u_mm53)
theorem k_mm53 : chkS D_mm53 4000 0 0 53 = true := by decide +kernel
theorem s_mm53 {X0 : zC0} {E : zCx} (H : ∀ j, j < 427 → CMj X0 j) (hE : zOk E X0 RX12 cX12_market 4 (zrm 2 0 0)) {K : Nat → Nat} {B : Int} {L : List Nat} {f : Nat → va_E} (hh : hok X0.2.2.1 K B L f) {v0 v1 : Int} {r0 : Nat} (hb0 : 0 ≤ v0 ∧ v0 ≤ 99) (hb1 : 1 ≤ v1 ∧ v1 ≤ 100) (hr0 : r0 ∈ L ∧ K r0 = 200) (k54 : ∀ (K' : Nat → Nat) (B' : Int) (L' : List Nat) (f' : Nat → va_E), hok X0.2.2.1 K' B' L' f' → extC [] K B L f K' B' L' f' → (0 ≤ v0 ∧ v0 ≤ 99) → (1 ≤ v1 ∧ v1 ≤ 100) → (r0 ∈ L' ∧ K' r0 = 200) → eW E 0 0 L' f' 54 [(0, .ref r0), (1, .int (Int32.ofInt (-1))), (2, .int (Int32.ofInt v0)), (3, .int (Int32.ofInt v1))] [.int (Int32.ofInt v0)]) : eW E 0 0 L f 53 [(0, .ref r0), (1, .int (Int32.ofInt (-1))), (2, .int (Int32.ofInt v0)), (3, .int (Int32.ofInt v1))] [] := by
  obtain ⟨l0, D0, cy0, ax0⟩ := X0
  have hraw : eW E 0 0 L f 53 [(0, .ref r0), (1, .int (Int32.ofInt ((-1) + 0))), (2, .int (Int32.ofInt (0 + (1 * v0 + 0)))), (3, .int (Int32.ofInt (0 + (1 * v1 + 0))))] [] := ?_
  · simpa only [Int.zero_add, Int.one_mul, Int.add_zero] using hraw
  refine seg_ok (D := D_mm53) (νi := fun i => [v0, v1].getD i 0) (μi := fun i => [r0].getD i 0) k_mm53 hE (mk_ok (ins := iX12_market) jX12_market fX12_ok lX12_ok kX12_ok kkX12_ok H) (by decide) rfl rfl rfl rfl hh ?_ ?_
  · refine ⟨(eok_of (fun i q hq => ?_) (fun i hi => ?_)), fa0, fa0, ?_, fa0, fa0, fa0⟩
    · match i, hq with
      | 0, hq => cases hq; exact hb0
      | 1, hq => cases hq; exact hb1
      | i + 2, hq => cases hq
    · match i, hi with
      | 0, hi => exact absurd hi (by decide)
      | 1, hi => exact absurd hi (by decide)
      | i + 2, _ => rfl
    · intro i k hk
      match i, hk with
      | 0, hk => cases hk; exact hr0
      | i + 1, hk => cases hk
  · intro q hq hst K' B' L' f' ν μ h1 h2 h3 h4 h5
    have e0 : ν 0 = v0 := h4 0 (by decide)
    have e1 : ν 1 = v1 := h4 1 (by decide)
    have d0 : μ 0 = r0 := h5 0 (by decide)
    subst e0
    subst e1
    subst d0
    replace hq : q ∈ u_mm53 := hq
    unfold u_mm53 at hq
    simp only [List.mem_cons, List.not_mem_nil, or_false] at hq
    rcases hq with rfl
    · have hst2 : eW E 0 0 L' f' 54 [(0, .ref (μ 0)), (1, .int (Int32.ofInt ((-1) + 0))), (2, .int (Int32.ofInt (0 + (1 * ν 0 + 0)))), (3, .int (Int32.ofInt (0 + (1 * ν 1 + 0))))] [.int (Int32.ofInt (0 + (1 * ν 0 + 0)))] := ?_
      · exact hst2
      try simp only [Int.zero_add, Int.one_mul, Int.add_zero]
      exact k54 K' B' L' f'   h1 h2 (h3.1 0) (h3.1 1) (h3.2.2.2.1 0 200 rfl)
