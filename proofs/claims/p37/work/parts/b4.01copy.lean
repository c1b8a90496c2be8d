/-! lq0: from 0 to [81] -/
def w_lq0 : TP := ([(0, (2, 0, (0, []))), (1, (2, 1, (0, [])))], [], ([(0, 12), (0, 10)], [], [], [62, 102], [((102, (1, [])), (0, [(1, 0)])), ((102, (2, [])), (0, [(1, 1)]))], [], []), [], [])
def u_lq0 : List (Nat × TP × EX × Nat × Nat) := [(81, ([(0, (2, 0, (0, []))), (1, (2, 1, (0, [])))], [(0, 0, (12, [])), (0, 0, (0, [])), (2, 2, (0, [])), (0, 0, (0, [])), (2, 3, (0, []))], ([(0, 12), (0, 10), (0, 6)], [], [], [62, 102, 66, 106], [((62, (2, [])), (0, [(1, 1)])), ((62, (1, [])), (0, [(1, 0)])), ((62, (0, [])), (0, [(1, 2)])), ((102, (0, [])), (0, [(1, 2)])), ((102, (1, [])), (0, [(1, 0)])), ((102, (2, [])), (0, [(1, 1)]))], [], []), [(2, 62, (0, []))], [(1, 2), (1, 4)]), ((-1), []), 0, 0)]
def D_lq0 : DT := (mkD iX1_copyFrom fX1 lX1 kX1 kkX1 427 [] (w_lq0, [(62, 0), (62, 1), (62, 2), (63, 0), (64, 0), (65, 0)], [], 1, 0, 0, 3) false 3 u_lq0)
theorem k_lq0 : chkS D_lq0 4000 0 0 0 = true := by decide +kernel
theorem s_lq0 {X0 : zC0} {E : zCx} (H : ∀ j, j < 427 → CMj X0 j) (hE : zOk E X0 RX1 cX1_copyFrom 3 (zrm 1 0 0)) {K : Nat → Nat} {B : Int} {L : List Nat} {f : Nat → va_E} (hh : hok X0.2.2.1 K B L f) {v0 v1 : Int} {r0 r1 : Nat} (hb0 : 0 ≤ v0 ∧ v0 ≤ 12) (hb1 : 0 ≤ v1 ∧ v1 ≤ 10) (hr0 : r0 ∈ L ∧ K r0 = 62) (hr1 : r1 ∈ L ∧ K r1 = 102) (hm0 : (∀ b ∈ L, K b = 102 → gi (f b) 1 = v0)) (hm1 : (∀ b ∈ L, K b = 102 → gi (f b) 2 = v1)) (k81 : ∀ (K' : Nat → Nat) (B' : Int) (L' : List Nat) (f' : Nat → va_E) (v2 : Int) (r2 r3 : Nat), hok X0.2.2.1 K' B' L' f' → extC [(62, 0), (62, 1), (62, 2), (63, 0), (64, 0), (65, 0)] K B L f K' B' L' f' → (0 ≤ v0 ∧ v0 ≤ 12) → (0 ≤ v1 ∧ v1 ≤ 10) → (0 ≤ v2 ∧ v2 ≤ 6) → (r0 ∈ L' ∧ K' r0 = 62) → (r1 ∈ L' ∧ K' r1 = 102) → (r2 ∈ L' ∧ K' r2 = 66) → (r3 ∈ L' ∧ K' r3 = 106) → (∀ b ∈ L', K' b = 62 → gi (f' b) 2 = v1) → (∀ b ∈ L', K' b = 62 → gi (f' b) 1 = v0) → (∀ b ∈ L', K' b = 62 → gi (f' b) 0 = v2) → (∀ b ∈ L', K' b = 102 → gi (f' b) 0 = v2) → (∀ b ∈ L', K' b = 102 → gi (f' b) 1 = v0) → (∀ b ∈ L', K' b = 102 → gi (f' b) 2 = v1) → eW E 0 0 L' f' 81 [(0, .ref r0), (1, .ref r1)] [.int (Int32.ofInt 12), .int (Int32.ofInt 0), .ref r2, .int (Int32.ofInt 0), .ref r3]) : eW E 0 0 L f 0 [(0, .ref r0), (1, .ref r1)] [] := by
  obtain ⟨l0, D0, cy0, ax0⟩ := X0
  have hraw : eW E 0 0 L f 0 [(0, .ref r0), (1, .ref r1)] [] := ?_
  · simpa only [Int.zero_add, Int.one_mul, Int.add_zero] using hraw
  have rm0 : (∀ b ∈ L, K b = 102 → gi (f b) 1 = (0 + (1 * v0 + 0))) := by simpa only [Int.zero_add, Int.one_mul, Int.add_zero] using hm0
  have rm1 : (∀ b ∈ L, K b = 102 → gi (f b) 2 = (0 + (1 * v1 + 0))) := by simpa only [Int.zero_add, Int.one_mul, Int.add_zero] using hm1
  refine seg_ok (D := D_lq0) (νi := fun i => [v0, v1].getD i 0) (μi := fun i => [r0, r1].getD i 0) k_lq0 hE (mk_ok (ins := iX1_copyFrom) jX1_copyFrom fX1_ok lX1_ok kX1_ok kkX1_ok H) (by decide) rfl rfl rfl rfl hh ?_ ?_
  · refine ⟨(eok_of (fun i q hq => ?_) (fun i hi => ?_)), fa0, fa0, ?_, (fa_cons (Fmok hh (show (zkd 102).1 = 1 by decide) (j := 1) rfl (by decide) rm0) (fa_cons (Fmok hh (show (zkd 102).1 = 1 by decide) (j := 2) rfl (by decide) rm1) fa0)), fa0, fa0⟩
    · match i, hq with
      | 0, hq => cases hq; exact hb0
      | 1, hq => cases hq; exact hb1
      | i + 2, hq => cases hq
    · match i, hi with
      | 0, hi => exact absurd hi (by decide)
      | 1, hi => exact absurd hi (by decide)
      | i + 2, _ => rfl
    · intro i k hk
      match i, hk with
      | 0, hk => cases hk; exact hr0
      | 1, hk => cases hk; exact hr1
      | i + 2, hk => cases hk
  · intro q hq hst K' B' L' f' ν μ h1 h2 h3 h4 h5
    have e0 : ν 0 = v0 := h4 0 (by decide)
    have e1 : ν 1 = v1 := h4 1 (by decide)
    have d0 : μ 0 = r0 := h5 0 (by decide)
    have d1 : μ 1 = r1 := h5 1 (by decide)
    subst e0
    subst e1
    subst d0
    subst d1
    replace hq : q ∈ u_lq0 := hq
    unfold u_lq0 at hq
    simp only [List.mem_cons, List.not_mem_nil, or_false] at hq
    rcases hq with rfl
    · have hst2 : eW E 0 0 L' f' 81 [(0, .ref (μ 0)), (1, .ref (μ 1))] [.int (Int32.ofInt (12 + 0)), .int (Int32.ofInt (0 + 0)), .ref (μ 2), .int (Int32.ofInt (0 + 0)), .ref (μ 3)] := ?_
      · exact hst2
      try simp only [Int.zero_add, Int.one_mul, Int.add_zero]
      exact k81 K' B' L' f' (ν 2) (μ 2) (μ 3) h1 h2 (h3.1 0) (h3.1 1) (h3.1 2) (h3.2.2.2.1 0 62 rfl) (h3.2.2.2.1 1 102 rfl) (h3.2.2.2.1 2 66 rfl) (h3.2.2.2.1 3 106 rfl) (by simpa only [xv, xvT, Int.zero_add, Int.one_mul, Int.add_zero] using (mokF h1 (show (zkd 62).1 = 1 by decide) (j := 2) rfl (by decide) (h3.2.2.2.2.1 _ (List.mem_of_getElem? (i := 0) rfl)))) (by simpa only [xv, xvT, Int.zero_add, Int.one_mul, Int.add_zero] using (mokF h1 (show (zkd 62).1 = 1 by decide) (j := 1) rfl (by decide) (h3.2.2.2.2.1 _ (List.mem_of_getElem? (i := 1) rfl)))) (by simpa only [xv, xvT, Int.zero_add, Int.one_mul, Int.add_zero] using (mokF h1 (show (zkd 62).1 = 1 by decide) (j := 0) rfl (by decide) (h3.2.2.2.2.1 _ (List.mem_of_getElem? (i := 2) rfl)))) (by simpa only [xv, xvT, Int.zero_add, Int.one_mul, Int.add_zero] using (mokF h1 (show (zkd 102).1 = 1 by decide) (j := 0) rfl (by decide) (h3.2.2.2.2.1 _ (List.mem_of_getElem? (i := 3) rfl)))) (by simpa only [xv, xvT, Int.zero_add, Int.one_mul, Int.add_zero] using (mokF h1 (show (zkd 102).1 = 1 by decide) (j := 1) rfl (by decide) (h3.2.2.2.2.1 _ (List.mem_of_getElem? (i := 4) rfl)))) (by simpa only [xv, xvT, Int.zero_add, Int.one_mul, Int.add_zero] using (mokF h1 (show (zkd 102).1 = 1 by decide) (j := 2) rfl (by decide) (h3.2.2.2.2.1 _ (List.mem_of_getElem? (i := 5) rfl))))

/-! lq84: from 84 to [86] -/
def w_lq84 : TP := ([(0, (2, 0, (0, []))), (1, (2, 1, (0, [])))], [], ([], [], [], [62, 102], [], [], []), [], [])
def u_lq84 : List (Nat × TP × EX × Nat × Nat) := [(86, ([(0, (2, 0, (0, []))), (1, (2, 1, (0, []))), (2, (0, 0, (0, [])))], [], ([], [], [], [62, 102], [], [], []), [], []), ((-1), []), 0, 0)]
def D_lq84 : DT := (mkD iX1_copyFrom fX1 lX1 kX1 kkX1 427 [] (w_lq84, [], [], 1, 0, 0, 3) false 3 u_lq84)
theorem k_lq84 : chkS D_lq84 4000 0 0 84 = true := by decide +kernel
theorem s_lq84 {X0 : zC0} {E : zCx} (H : ∀ j, j < 427 → CMj X0 j) (hE : zOk E X0 RX1 cX1_copyFrom 3 (zrm 1 0 0)) {K : Nat → Nat} {B : Int} {L : List Nat} {f : Nat → va_E} (hh : hok X0.2.2.1 K B L f) {r0 r1 : Nat} (hr0 : r0 ∈ L ∧ K r0 = 62) (hr1 : r1 ∈ L ∧ K r1 = 102) (k86 : ∀ (K' : Nat → Nat) (B' : Int) (L' : List Nat) (f' : Nat → va_E), hok X0.2.2.1 K' B' L' f' → extC [] K B L f K' B' L' f' → (r0 ∈ L' ∧ K' r0 = 62) → (r1 ∈ L' ∧ K' r1 = 102) → eW E 0 0 L' f' 86 [(0, .ref r0), (1, .ref r1), (2, .int (Int32.ofInt 0))] []) : eW E 0 0 L f 84 [(0, .ref r0), (1, .ref r1)] [] := by
  obtain ⟨l0, D0, cy0, ax0⟩ := X0
  have hraw : eW E 0 0 L f 84 [(0, .ref r0), (1, .ref r1)] [] := ?_
  · simpa only [Int.zero_add, Int.one_mul, Int.add_zero] using hraw
  refine seg_ok (D := D_lq84) (νi := fun i => [].getD i 0) (μi := fun i => [r0, r1].getD i 0) k_lq84 hE (mk_ok (ins := iX1_copyFrom) jX1_copyFrom fX1_ok lX1_ok kX1_ok kkX1_ok H) (by decide) rfl rfl rfl rfl hh ?_ ?_
  · refine ⟨(eok_of (fun i q hq => by cases hq) (fun i _ => rfl)), fa0, fa0, ?_, fa0, fa0, fa0⟩
    · intro i k hk
      match i, hk with
      | 0, hk => cases hk; exact hr0
      | 1, hk => cases hk; exact hr1
      | i + 2, hk => cases hk
  · intro q hq hst K' B' L' f' ν μ h1 h2 h3 h4 h5
    have d0 : μ 0 = r0 := h5 0 (by decide)
    have d1 : μ 1 = r1 := h5 1 (by decide)
    subst d0
    subst d1
    replace hq : q ∈ u_lq84 := hq
    unfold u_lq84 at hq
    simp only [List.mem_cons, List.not_mem_nil, or_false] at hq
    rcases hq with rfl
    · have hst2 : eW E 0 0 L' f' 86 [(0, .ref (μ 0)), (1, .ref (μ 1)), (2, .int (Int32.ofInt (0 + 0)))] [] := ?_
      · exact hst2
      try simp only [Int.zero_add, Int.one_mul, Int.add_zero]
      exact k86 K' B' L' f'   h1 h2 (h3.2.2.2.1 0 62 rfl) (h3.2.2.2.1 1 102 rfl)

/-! lq86: from 86 to [102, 110] -/
def w_lq86 : TP := ([(0, (2, 0, (0, []))), (1, (2, 1, (0, []))), (2, (0, 0, (0, [(1, 0)])))], [], ([(0, 12)], [], [], [62, 102], [], [], []), [], [])
def u_lq86 : List (Nat × TP × EX × Nat × Nat) := [(102, ([(0, (2, 0, (0, []))), (1, (2, 1, (0, []))), (2, (0, 0, (0, [(1, 0)])))], [(0, 0, (0, [(1, 0)])), (2, 2, (0, [])), (0, 0, (0, [(1, 0)])), (2, 3, (0, []))], ([(0, 11)], [], [], [62, 102, 107, 67], [], [], []), [], [(1, 1), (1, 3)]), ((-1), []), 0, 0), (110, ([(0, (2, 0, (0, []))), (1, (2, 1, (0, []))), (2, (0, 0, (0, [(1, 0)])))], [], ([(12, 12)], [], [], [62, 102], [], [], []), [], []), ((-1), []), 0, 0)]
def D_lq86 : DT := (mkD iX1_copyFrom fX1 lX1 kX1 kkX1 427 [] (w_lq86, [], [], 1, 0, 0, 3) false 3 u_lq86)
theorem k_lq86 : chkS D_lq86 4000 0 0 86 = true := by decide +kernel
theorem s_lq86 {X0 : zC0} {E : zCx} (H : ∀ j, j < 427 → CMj X0 j) (hE : zOk E X0 RX1 cX1_copyFrom 3 (zrm 1 0 0)) {K : Nat → Nat} {B : Int} {L : List Nat} {f : Nat → va_E} (hh : hok X0.2.2.1 K B L f) {v0 : Int} {r0 r1 : Nat} (hb0 : 0 ≤ v0 ∧ v0 ≤ 12) (hr0 : r0 ∈ L ∧ K r0 = 62) (hr1 : r1 ∈ L ∧ K r1 = 102) (k102 : ∀ (K' : Nat → Nat) (B' : Int) (L' : List Nat) (f' : Nat → va_E) (r2 r3 : Nat), hok X0.2.2.1 K' B' L' f' → extC [] K B L f K' B' L' f' → (0 ≤ v0 ∧ v0 ≤ 11) → (r0 ∈ L' ∧ K' r0 = 62) → (r1 ∈ L' ∧ K' r1 = 102) → (r2 ∈ L' ∧ K' r2 = 107) → (r3 ∈ L' ∧ K' r3 = 67) → eW E 0 0 L' f' 102 [(0, .ref r0), (1, .ref r1), (2, .int (Int32.ofInt v0))] [.int (Int32.ofInt v0), .ref r2, .int (Int32.ofInt v0), .ref r3]) (k110 : ∀ (K' : Nat → Nat) (B' : Int) (L' : List Nat) (f' : Nat → va_E), hok X0.2.2.1 K' B' L' f' → extC [] K B L f K' B' L' f' → (12 ≤ v0 ∧ v0 ≤ 12) → (r0 ∈ L' ∧ K' r0 = 62) → (r1 ∈ L' ∧ K' r1 = 102) → eW E 0 0 L' f' 110 [(0, .ref r0), (1, .ref r1), (2, .int (Int32.ofInt v0))] []) : eW E 0 0 L f 86 [(0, .ref r0), (1, .ref r1), (2, .int (Int32.ofInt v0))] [] := by
  obtain ⟨l0, D0, cy0, ax0⟩ := X0
  have hraw : eW E 0 0 L f 86 [(0, .ref r0), (1, .ref r1), (2, .int (Int32.ofInt (0 + (1 * v0 + 0))))] [] := ?_
  · simpa only [Int.zero_add, Int.one_mul, Int.add_zero] using hraw
  refine seg_ok (D := D_lq86) (νi := fun i => [v0].getD i 0) (μi := fun i => [r0, r1].getD i 0) k_lq86 hE (mk_ok (ins := iX1_copyFrom) jX1_copyFrom fX1_ok lX1_ok kX1_ok kkX1_ok H) (by decide) rfl rfl rfl rfl hh ?_ ?_
  · refine ⟨(eok_of (fun i q hq => ?_) (fun i hi => ?_)), fa0, fa0, ?_, fa0, fa0, fa0⟩
    · match i, hq with
      | 0, hq => cases hq; exact hb0
      | i + 1, hq => cases hq
    · match i, hi with
      | 0, hi => exact absurd hi (by decide)
      | i + 1, _ => rfl
    · intro i k hk
      match i, hk with
      | 0, hk => cases hk; exact hr0
      | 1, hk => cases hk; exact hr1
      | i + 2, hk => cases hk
  · intro q hq hst K' B' L' f' ν μ h1 h2 h3 h4 h5
    have e0 : ν 0 = v0 := h4 0 (by decide)
    have d0 : μ 0 = r0 := h5 0 (by decide)
    have d1 : μ 1 = r1 := h5 1 (by decide)
    subst e0
    subst d0
    subst d1
    replace hq : q ∈ u_lq86 := hq
    unfold u_lq86 at hq
    simp only [List.mem_cons, List.not_mem_nil, or_false] at hq
    rcases hq with rfl | rfl
    · have hst2 : eW E 0 0 L' f' 102 [(0, .ref (μ 0)), (1, .ref (μ 1)), (2, .int (Int32.ofInt (0 + (1 * ν 0 + 0))))] [.int (Int32.ofInt (0 + (1 * ν 0 + 0))), .ref (μ 2), .int (Int32.ofInt (0 + (1 * ν 0 + 0))), .ref (μ 3)] := ?_
      · exact hst2
      try simp only [Int.zero_add, Int.one_mul, Int.add_zero]
      exact k102 K' B' L' f'  (μ 2) (μ 3) h1 h2 (h3.1 0) (h3.2.2.2.1 0 62 rfl) (h3.2.2.2.1 1 102 rfl) (h3.2.2.2.1 2 107 rfl) (h3.2.2.2.1 3 67 rfl)
    · have hst2 : eW E 0 0 L' f' 110 [(0, .ref (μ 0)), (1, .ref (μ 1)), (2, .int (Int32.ofInt (0 + (1 * ν 0 + 0))))] [] := ?_
      · exact hst2
      try simp only [Int.zero_add, Int.one_mul, Int.add_zero]
      exact k110 K' B' L' f'   h1 h2 (h3.1 0) (h3.2.2.2.1 0 62 rfl) (h3.2.2.2.1 1 102 rfl)

/-! lq104: from 104 to [86] -/
def w_lq104 : TP := ([(0, (2, 0, (0, []))), (1, (2, 1, (0, []))), (2, (0, 0, (0, [(1, 0)])))], [], ([(0, 11)], [], [], [62, 102], [], [], []), [], [])
def u_lq104 : List (Nat × TP × EX × Nat × Nat) := [(86, ([(0, (2, 0, (0, []))), (1, (2, 1, (0, []))), (2, (0, 0, (1, [(1, 0)])))], [], ([(0, 11)], [], [], [62, 102], [], [], []), [], []), ((-1), []), 0, 0)]
def D_lq104 : DT := (mkD iX1_copyFrom fX1 lX1 kX1 kkX1 427 [] (w_lq104, [], [], 1, 0, 0, 3) false 3 u_lq104)
theorem k_lq104 : chkS D_lq104 4000 0 0 104 = true := by decide +kernel
theorem s_lq104 {X0 : zC0} {E : zCx} (H : ∀ j, j < 427 → CMj X0 j) (hE : zOk E X0 RX1 cX1_copyFrom 3 (zrm 1 0 0)) {K : Nat → Nat} {B : Int} {L : List Nat} {f : Nat → va_E} (hh : hok X0.2.2.1 K B L f) {v0 : Int} {r0 r1 : Nat} (hb0 : 0 ≤ v0 ∧ v0 ≤ 11) (hr0 : r0 ∈ L ∧ K r0 = 62) (hr1 : r1 ∈ L ∧ K r1 = 102) (k86 : ∀ (K' : Nat → Nat) (B' : Int) (L' : List Nat) (f' : Nat → va_E), hok X0.2.2.1 K' B' L' f' → extC [] K B L f K' B' L' f' → (0 ≤ v0 ∧ v0 ≤ 11) → (r0 ∈ L' ∧ K' r0 = 62) → (r1 ∈ L' ∧ K' r1 = 102) → eW E 0 0 L' f' 86 [(0, .ref r0), (1, .ref r1), (2, .int (Int32.ofInt (1 + v0)))] []) : eW E 0 0 L f 104 [(0, .ref r0), (1, .ref r1), (2, .int (Int32.ofInt v0))] [] := by
  obtain ⟨l0, D0, cy0, ax0⟩ := X0
  have hraw : eW E 0 0 L f 104 [(0, .ref r0), (1, .ref r1), (2, .int (Int32.ofInt (0 + (1 * v0 + 0))))] [] := ?_
  · simpa only [Int.zero_add, Int.one_mul, Int.add_zero] using hraw
  refine seg_ok (D := D_lq104) (νi := fun i => [v0].getD i 0) (μi := fun i => [r0, r1].getD i 0) k_lq104 hE (mk_ok (ins := iX1_copyFrom) jX1_copyFrom fX1_ok lX1_ok kX1_ok kkX1_ok H) (by decide) rfl rfl rfl rfl hh ?_ ?_
  · refine ⟨(eok_of (fun i q hq => ?_) (fun i hi => ?_)), fa0, fa0, ?_, fa0, fa0, fa0⟩
    · match i, hq with
      | 0, hq => cases hq; exact hb0
      | i + 1, hq => cases hq
    · match i, hi with
      | 0, hi => exact absurd hi (by decide)
      | i + 1, _ => rfl
    · intro i k hk
      match i, hk with
      | 0, hk => cases hk; exact hr0
      | 1, hk => cases hk; exact hr1
      | i + 2, hk => cases hk
  · intro q hq hst K' B' L' f' ν μ h1 h2 h3 h4 h5
    have e0 : ν 0 = v0 := h4 0 (by decide)
    have d0 : μ 0 = r0 := h5 0 (by decide)
    have d1 : μ 1 = r1 := h5 1 (by decide)
    subst e0
    subst d0
    subst d1
    replace hq : q ∈ u_lq104 := hq
    unfold u_lq104 at hq
    simp only [List.mem_cons, List.not_mem_nil, or_false] at hq
    rcases hq with rfl
    · have hst2 : eW E 0 0 L' f' 86 [(0, .ref (μ 0)), (1, .ref (μ 1)), (2, .int (Int32.ofInt (1 + (1 * ν 0 + 0))))] [] := ?_
      · exact hst2
      try simp only [Int.zero_add, Int.one_mul, Int.add_zero]
      exact k86 K' B' L' f'   h1 h2 (h3.1 0) (h3.2.2.2.1 0 62 rfl) (h3.2.2.2.1 1 102 rfl)

/-! lq110: from 110 to [112] -/
def w_lq110 : TP := ([(0, (2, 0, (0, []))), (1, (2, 1, (0, [])))], [], ([], [], [], [62, 102], [], [], []), [], [])
def u_lq110 : List (Nat × TP × EX × Nat × Nat) := [(112, ([(0, (2, 0, (0, []))), (1, (2, 1, (0, []))), (2, (0, 0, (0, [])))], [], ([], [], [], [62, 102], [], [], []), [], []), ((-1), []), 0, 0)]
def D_lq110 : DT := (mkD iX1_copyFrom fX1 lX1 kX1 kkX1 427 [] (w_lq110, [], [], 1, 0, 0, 3) false 3 u_lq110)
theorem k_lq110 : chkS D_lq110 4000 0 0 110 = true := by decide +kernel
theorem s_lq110 {X0 : zC0} {E : zCx} (H : ∀ j, j < 427 → CMj X0 j) (hE : zOk E X0 RX1 cX1_copyFrom 3 (zrm 1 0 0)) {K : Nat → Nat} {B : Int} {L : List Nat} {f : Nat → va_E} (hh : hok X0.2.2.1 K B L f) {r0 r1 : Nat} (hr0 : r0 ∈ L ∧ K r0 = 62) (hr1 : r1 ∈ L ∧ K r1 = 102) (k112 : ∀ (K' : Nat → Nat) (B' : Int) (L' : List Nat) (f' : Nat → va_E), hok X0.2.2.1 K' B' L' f' → extC [] K B L f K' B' L' f' → (r0 ∈ L' ∧ K' r0 = 62) → (r1 ∈ L' ∧ K' r1 = 102) → eW E 0 0 L' f' 112 [(0, .ref r0), (1, .ref r1), (2, .int (Int32.ofInt 0))] []) : eW E 0 0 L f 110 [(0, .ref r0), (1, .ref r1)] [] := by
  obtain ⟨l0, D0, cy0, ax0⟩ := X0
  have hraw : eW E 0 0 L f 110 [(0, .ref r0), (1, .ref r1)] [] := ?_
  · simpa only [Int.zero_add, Int.one_mul, Int.add_zero] using hraw
  refine seg_ok (D := D_lq110) (νi := fun i => [].getD i 0) (μi := fun i => [r0, r1].getD i 0) k_lq110 hE (mk_ok (ins := iX1_copyFrom) jX1_copyFrom fX1_ok lX1_ok kX1_ok kkX1_ok H) (by decide) rfl rfl rfl rfl hh ?_ ?_
  · refine ⟨(eok_of (fun i q hq => by cases hq) (fun i _ => rfl)), fa0, fa0, ?_, fa0, fa0, fa0⟩
    · intro i k hk
      match i, hk with
      | 0, hk => cases hk; exact hr0
      | 1, hk => cases hk; exact hr1
      | i + 2, hk => cases hk
  · intro q hq hst K' B' L' f' ν μ h1 h2 h3 h4 h5
    have d0 : μ 0 = r0 := h5 0 (by decide)
    have d1 : μ 1 = r1 := h5 1 (by decide)
    subst d0
    subst d1
    replace hq : q ∈ u_lq110 := hq
    unfold u_lq110 at hq
    simp only [List.mem_cons, List.not_mem_nil, or_false] at hq
    rcases hq with rfl
    · have hst2 : eW E 0 0 L' f' 112 [(0, .ref (μ 0)), (1, .ref (μ 1)), (2, .int (Int32.ofInt (0 + 0)))] [] := ?_
      · exact hst2
      try simp only [Int.zero_add, Int.one_mul, Int.add_zero]
      exact k112 K' B' L' f'   h1 h2 (h3.2.2.2.1 0 62 rfl) (h3.2.2.2.1 1 102 rfl)

/-! lq112: from 112 to [128, 136] -/
def w_lq112 : TP := ([(0, (2, 0, (0, []))), (1, (2, 1, (0, []))), (2, (0, 0, (0, [(1, 0)])))], [], ([(0, 10)], [], [], [62, 102], [], [], []), [], [])
def u_lq112 : List (Nat × TP × EX × Nat × Nat) := [(128, ([(0, (2, 0, (0, []))), (1, (2, 1, (0, []))), (2, (0, 0, (0, [(1, 0)])))], [(0, 0, (0, [(1, 0)])), (2, 2, (0, [])), (0, 0, (0, [(1, 0)])), (2, 3, (0, []))], ([(0, 9)], [], [], [62, 102, 108, 68], [], [], []), [], [(1, 1), (1, 3)]), ((-1), []), 0, 0), (136, ([(0, (2, 0, (0, []))), (1, (2, 1, (0, []))), (2, (0, 0, (0, [(1, 0)])))], [], ([(10, 10)], [], [], [62, 102], [], [], []), [], []), ((-1), []), 0, 0)]
def D_lq112 : DT := (mkD iX1_copyFrom fX1 lX1 kX1 kkX1 427 [] (w_lq112, [], [], 1, 0, 0, 3) false 3 u_lq112)
theorem k_lq112 : chkS D_lq112 4000 0 0 112 = true := by decide +kernel
theorem s_lq112 {X0 : zC0} {E : zCx} (H : ∀ j, j < 427 → CMj X0 j) (hE : zOk E X0 RX1 cX1_copyFrom 3 (zrm 1 0 0)) {K : Nat → Nat} {B : Int} {L : List Nat} {f : Nat → va_E} (hh : hok X0.2.2.1 K B L f) {v0 : Int} {r0 r1 : Nat} (hb0 : 0 ≤ v0 ∧ v0 ≤ 10) (hr0 : r0 ∈ L ∧ K r0 = 62) (hr1 : r1 ∈ L ∧ K r1 = 102) (k128 : ∀ (K' : Nat → Nat) (B' : Int) (L' : List Nat) (f' : Nat → va_E) (r2 r3 : Nat), hok X0.2.2.1 K' B' L' f' → extC [] K B L f K' B' L' f' → (0 ≤ v0 ∧ v0 ≤ 9) → (r0 ∈ L' ∧ K' r0 = 62) → (r1 ∈ L' ∧ K' r1 = 102) → (r2 ∈ L' ∧ K' r2 = 108) → (r3 ∈ L' ∧ K' r3 = 68) → eW E 0 0 L' f' 128 [(0, .ref r0), (1, .ref r1), (2, .int (Int32.ofInt v0))] [.int (Int32.ofInt v0), .ref r2, .int (Int32.ofInt v0), .ref r3]) (k136 : ∀ (K' : Nat → Nat) (B' : Int) (L' : List Nat) (f' : Nat → va_E), hok X0.2.2.1 K' B' L' f' → extC [] K B L f K' B' L' f' → (10 ≤ v0 ∧ v0 ≤ 10) → (r0 ∈ L' ∧ K' r0 = 62) → (r1 ∈ L' ∧ K' r1 = 102) → eW E 0 0 L' f' 136 [(0, .ref r0), (1, .ref r1), (2, .int (Int32.ofInt v0))] []) : eW E 0 0 L f 112 [(0, .ref r0), (1, .ref r1), (2, .int (Int32.ofInt v0))] [] := by
  obtain ⟨l0, D0, cy0, ax0⟩ := X0
  have hraw : eW E 0 0 L f 112 [(0, .ref r0), (1, .ref r1), (2, .int (Int32.ofInt (0 + (1 * v0 + 0))))] [] := ?_
  · simpa only [Int.zero_add, Int.one_mul, Int.add_zero] using hraw
  refine seg_ok (D := D_lq112) (νi := fun i => [v0].getD i 0) (μi := fun i => [r0, r1].getD i 0) k_lq112 hE (mk_ok (ins := iX1_copyFrom) jX1_copyFrom fX1_ok lX1_ok kX1_ok kkX1_ok H) (by decide) rfl rfl rfl rfl hh ?_ ?_
  · refine ⟨(eok_of (fun i q hq => ?_) (fun i hi => ?_)), fa0, fa0, ?_, fa0, fa0, fa0⟩
    · match i, hq with
      | 0, hq => cases hq; exact hb0
      | i + 1, hq => cases hq
    · match i, hi with
      | 0, hi => exact absurd hi (by decide)
      | i + 1, _ => rfl
    · intro i k hk
      match i, hk with
      | 0, hk => cases hk; exact hr0
      | 1, hk => cases hk; exact hr1
      | i + 2, hk => cases hk
  · intro q hq hst K' B' L' f' ν μ h1 h2 h3 h4 h5
    have e0 : ν 0 = v0 := h4 0 (by decide)
    have d0 : μ 0 = r0 := h5 0 (by decide)
    have d1 : μ 1 = r1 := h5 1 (by decide)
    subst e0
    subst d0
    subst d1
    replace hq : q ∈ u_lq112 := hq
    unfold u_lq112 at hq
    simp only [List.mem_cons, List.not_mem_nil, or_false] at hq
    rcases hq with rfl | rfl
    · have hst2 : eW E 0 0 L' f' 128 [(0, .ref (μ 0)), (1, .ref (μ 1)), (2, .int (Int32.ofInt (0 + (1 * ν 0 + 0))))] [.int (Int32.ofInt (0 + (1 * ν 0 + 0))), .ref (μ 2), .int (Int32.ofInt (0 + (1 * ν 0 + 0))), .ref (μ 3)] := ?_
      · exact hst2
      try simp only [Int.zero_add, Int.one_mul, Int.add_zero]
      exact k128 K' B' L' f'  (μ 2) (μ 3) h1 h2 (h3.1 0) (h3.2.2.2.1 0 62 rfl) (h3.2.2.2.1 1 102 rfl) (h3.2.2.2.1 2 108 rfl) (h3.2.2.2.1 3 68 rfl)
    · have hst2 : eW E 0 0 L' f' 136 [(0, .ref (μ 0)), (1, .ref (μ 1)), (2, .int (Int32.ofInt (0 + (1 * ν 0 + 0))))] [] := ?_
      · exact hst2
      try simp only [Int.zero_add, Int.one_mul, Int.add_zero]
      exact k136 K' B' L' f'   h1 h2 (h3.1 0) (h3.2.2.2.1 0 62 rfl) (h3.2.2.2.1 1 102 rfl)

/-! lq130: from 130 to [112] -/
def w_lq130 : TP := ([(0, (2, 0, (0, []))), (1, (2, 1, (0, []))), (2, (0, 0, (0, [(1, 0)])))], [], ([(0, 9)], [], [], [62, 102], [], [], []), [], [])
def u_lq130 : List (Nat × TP × EX × Nat × Nat) := [(112, ([(0, (2, 0, (0, []))), (1, (2, 1, (0, []))), (2, (0, 0, (1, [(1, 0)])))], [], ([(0, 9)], [], [], [62, 102], [], [], []), [], []), ((-1), []), 0, 0)]
def D_lq130 : DT := (mkD iX1_copyFrom fX1 lX1 kX1 kkX1 427 [] (w_lq130, [], [], 1, 0, 0, 3) false 3 u_lq130)
theorem k_lq130 : chkS D_lq130 4000 0 0 130 = true := by decide +kernel
theorem s_lq130 {X0 : zC0} {E : zCx} (H : ∀ j, j < 427 → CMj X0 j) (hE : zOk E X0 RX1 cX1_copyFrom 3 (zrm 1 0 0)) {K : Nat → Nat} {B : Int} {L : List Nat} {f : Nat → va_E} (hh : hok X0.2.2.1 K B L f) {v0 : Int} {r0 r1 : Nat} (hb0 : 0 ≤ v0 ∧ v0 ≤ 9) (hr0 : r0 ∈ L ∧ K r0 = 62) (hr1 : r1 ∈ L ∧ K r1 = 102) (k112 : ∀ (K' : Nat → Nat) (B' : Int) (L' : List Nat) (f' : Nat → va_E), hok X0.2.2.1 K' B' L' f' → extC [] K B L f K' B' L' f' → (0 ≤ v0 ∧ v0 ≤ 9) → (r0 ∈ L' ∧ K' r0 = 62) → (r1 ∈ L' ∧ K' r1 = 102) → eW E 0 0 L' f' 112 [(0, .ref r0), (1, .ref r1), (2, .int (Int32.ofInt (1 + v0)))] []) : eW E 0 0 L f 130 [(0, .ref r0), (1, .ref r1), (2, .int (Int32.ofInt v0))] [] := by
  obtain ⟨l0, D0, cy0, ax0⟩ := X0
  have hraw : eW E 0 0 L f 130 [(0, .ref r0), (1, .ref r1), (2, .int (Int32.ofInt (0 + (1 * v0 + 0))))] [] := ?_
  · simpa only [Int.zero_add, Int.one_mul, Int.add_zero] using hraw
  refine seg_ok (D := D_lq130) (νi := fun i => [v0].getD i 0) (μi := fun i => [r0, r1].getD i 0) k_lq130 hE (mk_ok (ins := iX1_copyFrom) jX1_copyFrom fX1_ok lX1_ok kX1_ok kkX1_ok H) (by decide) rfl rfl rfl rfl hh ?_ ?_
  · refine ⟨(eok_of (fun i q hq => ?_) (fun i hi => ?_)), fa0, fa0, ?_, fa0, fa0, fa0⟩
    · match i, hq with
      | 0, hq => cases hq; exact hb0
      | i + 1, hq => cases hq
    · match i, hi with
      | 0, hi => exact absurd hi (by decide)
      | i + 1, _ => rfl
    · intro i k hk
      match i, hk with
      | 0, hk => cases hk; exact hr0
      | 1, hk => cases hk; exact hr1
      | i + 2, hk => cases hk
  · intro q hq hst K' B' L' f' ν μ h1 h2 h3 h4 h5
    have e0 : ν 0 = v0 := h4 0 (by decide)
    have d0 : μ 0 = r0 := h5 0 (by decide)
    have d1 : μ 1 = r1 := h5 1 (by decide)
    subst e0
    subst d0
    subst d1
    replace hq : q ∈ u_lq130 := hq
    unfold u_lq130 at hq
    simp only [List.mem_cons, List.not_mem_nil, or_false] at hq
    rcases hq with rfl
    · have hst2 : eW E 0 0 L' f' 112 [(0, .ref (μ 0)), (1, .ref (μ 1)), (2, .int (Int32.ofInt (1 + (1 * ν 0 + 0))))] [] := ?_
      · exact hst2
      try simp only [Int.zero_add, Int.one_mul, Int.add_zero]
      exact k112 K' B' L' f'   h1 h2 (h3.1 0) (h3.2.2.2.1 0 62 rfl) (h3.2.2.2.1 1 102 rfl)

/-! lq136: from 136 to [148] -/
def w_lq136 : TP := ([(0, (2, 0, (0, []))), (1, (2, 1, (0, [])))], [], ([], [], [], [62, 102], [], [], []), [], [])
def u_lq136 : List (Nat × TP × EX × Nat × Nat) := [(148, ([(0, (2, 0, (0, []))), (1, (2, 1, (0, [])))], [(0, 0, (10, [])), (0, 0, (0, [])), (2, 2, (0, [])), (0, 0, (0, [])), (2, 3, (0, []))], ([], [], [], [62, 102, 69, 109], [], [], []), [], [(1, 2), (1, 4)]), ((-1), []), 0, 0)]
def D_lq136 : DT := (mkD iX1_copyFrom fX1 lX1 kX1 kkX1 427 [] (w_lq136, [], [], 1, 0, 0, 3) false 3 u_lq136)
theorem k_lq136 : chkS D_lq136 4000 0 0 136 = true := by decide +kernel
theorem s_lq136 {X0 : zC0} {E : zCx} (H : ∀ j, j < 427 → CMj X0 j) (hE : zOk E X0 RX1 cX1_copyFrom 3 (zrm 1 0 0)) {K : Nat → Nat} {B : Int} {L : List Nat} {f : Nat → va_E} (hh : hok X0.2.2.1 K B L f) {r0 r1 : Nat} (hr0 : r0 ∈ L ∧ K r0 = 62) (hr1 : r1 ∈ L ∧ K r1 = 102) (k148 : ∀ (K' : Nat → Nat) (B' : Int) (L' : List Nat) (f' : Nat → va_E) (r2 r3 : Nat), hok X0.2.2.1 K' B' L' f' → extC [] K B L f K' B' L' f' → (r0 ∈ L' ∧ K' r0 = 62) → (r1 ∈ L' ∧ K' r1 = 102) → (r2 ∈ L' ∧ K' r2 = 69) → (r3 ∈ L' ∧ K' r3 = 109) → eW E 0 0 L' f' 148 [(0, .ref r0), (1, .ref r1)] [.int (Int32.ofInt 10), .int (Int32.ofInt 0), .ref r2, .int (Int32.ofInt 0), .ref r3]) : eW E 0 0 L f 136 [(0, .ref r0), (1, .ref r1)] [] := by
  obtain ⟨l0, D0, cy0, ax0⟩ := X0
  have hraw : eW E 0 0 L f 136 [(0, .ref r0), (1, .ref r1)] [] := ?_
  · simpa only [Int.zero_add, Int.one_mul, Int.add_zero] using hraw
  refine seg_ok (D := D_lq136) (νi := fun i => [].getD i 0) (μi := fun i => [r0, r1].getD i 0) k_lq136 hE (mk_ok (ins := iX1_copyFrom) jX1_copyFrom fX1_ok lX1_ok kX1_ok kkX1_ok H) (by decide) rfl rfl rfl rfl hh ?_ ?_
  · refine ⟨(eok_of (fun i q hq => by cases hq) (fun i _ => rfl)), fa0, fa0, ?_, fa0, fa0, fa0⟩
    · intro i k hk
      match i, hk with
      | 0, hk => cases hk; exact hr0
      | 1, hk => cases hk; exact hr1
      | i + 2, hk => cases hk
  · intro q hq hst K' B' L' f' ν μ h1 h2 h3 h4 h5
    have d0 : μ 0 = r0 := h5 0 (by decide)
    have d1 : μ 1 = r1 := h5 1 (by decide)
    subst d0
    subst d1
    replace hq : q ∈ u_lq136 := hq
    unfold u_lq136 at hq
    simp only [List.mem_cons, List.not_mem_nil, or_false] at hq
    rcases hq with rfl
    · have hst2 : eW E 0 0 L' f' 148 [(0, .ref (μ 0)), (1, .ref (μ 1))] [.int (Int32.ofInt (10 + 0)), .int (Int32.ofInt (0 + 0)), .ref (μ 2), .int (Int32.ofInt (0 + 0)), .ref (μ 3)] := ?_
      · exact hst2
      try simp only [Int.zero_add, Int.one_mul, Int.add_zero]
      exact k148 K' B' L' f'  (μ 2) (μ 3) h1 h2 (h3.2.2.2.1 0 62 rfl) (h3.2.2.2.1 1 102 rfl) (h3.2.2.2.1 2 69 rfl) (h3.2.2.2.1 3 109 rfl)

/-! lq151: from 151 to [163] -/
def w_lq151 : TP := ([(0, (2, 0, (0, []))), (1, (2, 1, (0, [])))], [], ([], [], [], [62, 102], [], [], []), [], [])
def u_lq151 : List (Nat × TP × EX × Nat × Nat) := [(163, ([(0, (2, 0, (0, []))), (1, (2, 1, (0, [])))], [(0, 0, (10, [])), (0, 0, (0, [])), (2, 2, (0, [])), (0, 0, (0, [])), (2, 3, (0, []))], ([], [], [], [62, 102, 70, 110], [], [], []), [], [(1, 2), (1, 4)]), ((-1), []), 0, 0)]
def D_lq151 : DT := (mkD iX1_copyFrom fX1 lX1 kX1 kkX1 427 [] (w_lq151, [], [], 1, 0, 0, 3) false 3 u_lq151)
theorem k_lq151 : chkS D_lq151 4000 0 0 151 = true := by decide +kernel
theorem s_lq151 {X0 : zC0} {E : zCx} (H : ∀ j, j < 427 → CMj X0 j) (hE : zOk E X0 RX1 cX1_copyFrom 3 (zrm 1 0 0)) {K : Nat → Nat} {B : Int} {L : List Nat} {f : Nat → va_E} (hh : hok X0.2.2.1 K B L f) {r0 r1 : Nat} (hr0 : r0 ∈ L ∧ K r0 = 62) (hr1 : r1 ∈ L ∧ K r1 = 102) (k163 : ∀ (K' : Nat → Nat) (B' : Int) (L' : List Nat) (f' : Nat → va_E) (r2 r3 : Nat), hok X0.2.2.1 K' B' L' f' → extC [] K B L f K' B' L' f' → (r0 ∈ L' ∧ K' r0 = 62) → (r1 ∈ L' ∧ K' r1 = 102) → (r2 ∈ L' ∧ K' r2 = 70) → (r3 ∈ L' ∧ K' r3 = 110) → eW E 0 0 L' f' 163 [(0, .ref r0), (1, .ref r1)] [.int (Int32.ofInt 10), .int (Int32.ofInt 0), .ref r2, .int (Int32.ofInt 0), .ref r3]) : eW E 0 0 L f 151 [(0, .ref r0), (1, .ref r1)] [] := by
  obtain ⟨l0, D0, cy0, ax0⟩ := X0
  have hraw : eW E 0 0 L f 151 [(0, .ref r0), (1, .ref r1)] [] := ?_
  · simpa only [Int.zero_add, Int.one_mul, Int.add_zero] using hraw
  refine seg_ok (D := D_lq151) (νi := fun i => [].getD i 0) (μi := fun i => [r0, r1].getD i 0) k_lq151 hE (mk_ok (ins := iX1_copyFrom) jX1_copyFrom fX1_ok lX1_ok kX1_ok kkX1_ok H) (by decide) rfl rfl rfl rfl hh ?_ ?_
  · refine ⟨(eok_of (fun i q hq => by cases hq) (fun i _ => rfl)), fa0, fa0, ?_, fa0, fa0, fa0⟩
    · intro i k hk
      match i, hk with
      | 0, hk => cases hk; exact hr0
      | 1, hk => cases hk; exact hr1
      | i + 2, hk => cases hk
  · intro q hq hst K' B' L' f' ν μ h1 h2 h3 h4 h5
    have d0 : μ 0 = r0 := h5 0 (by decide)
    have d1 : μ 1 = r1 := h5 1 (by decide)
    subst d0
    subst d1
    replace hq : q ∈ u_lq151 := hq
    unfold u_lq151 at hq
    simp only [List.mem_cons, List.not_mem_nil, or_false] at hq
    rcases hq with rfl
    · have hst2 : eW E 0 0 L' f' 163 [(0, .ref (μ 0)), (1, .ref (μ 1))] [.int (Int32.ofInt (10 + 0)), .int (Int32.ofInt (0 + 0)), .ref (μ 2), .int (Int32.ofInt (0 + 0)), .ref (μ 3)] := ?_
      · exact hst2
      try simp only [Int.zero_add, Int.one_mul, Int.add_zero]
      exact k163 K' B' L' f'  (μ 2) (μ 3) h1 h2 (h3.2.2.2.1 0 62 rfl) (h3.2.2.2.1 1 102 rfl) (h3.2.2.2.1 2 70 rfl) (h3.2.2.2.1 3 110 rfl)

/-! lr0: from 0 to [81] -/
def w_lr0 : TP := ([(0, (2, 0, (0, []))), (1, (2, 1, (0, [])))], [], ([(0, 12), (0, 10)], [], [], [102, 62], [((62, (1, [])), (0, [(1, 0)])), ((62, (2, [])), (0, [(1, 1)]))], [], []), [], [])
def u_lr0 : List (Nat × TP × EX × Nat × Nat) := [(81, ([(0, (2, 0, (0, []))), (1, (2, 1, (0, [])))], [(0, 0, (12, [])), (0, 0, (0, [])), (2, 2, (0, [])), (0, 0, (0, [])), (2, 3, (0, []))], ([(0, 12), (0, 10), (0, 6)], [], [], [102, 62, 106, 66], [((102, (2, [])), (0, [(1, 1)])), ((102, (1, [])), (0, [(1, 0)])), ((102, (0, [])), (0, [(1, 2)])), ((62, (0, [])), (0, [(1, 2)])), ((62, (1, [])), (0, [(1, 0)])), ((62, (2, [])), (0, [(1, 1)]))], [], []), [(2, 102, (0, []))], [(1, 2), (1, 4)]), ((-1), []), 0, 0)]
def D_lr0 : DT := (mkD iX1_copyFrom fX1 lX1 kX1 kkX1 427 [] (w_lr0, [(102, 0), (102, 1), (102, 2), (103, 0), (104, 0), (105, 0)], [], 1, 0, 0, 3) false 3 u_lr0)
theorem k_lr0 : chkS D_lr0 4000 0 0 0 = true := by decide +kernel
theorem s_lr0 {X0 : zC0} {E : zCx} (H : ∀ j, j < 427 → CMj X0 j) (hE : zOk E X0 RX1 cX1_copyFrom 3 (zrm 1 0 0)) {K : Nat → Nat} {B : Int} {L : List Nat} {f : Nat → va_E} (hh : hok X0.2.2.1 K B L f) {v0 v1 : Int} {r0 r1 : Nat} (hb0 : 0 ≤ v0 ∧ v0 ≤ 12) (hb1 : 0 ≤ v1 ∧ v1 ≤ 10) (hr0 : r0 ∈ L ∧ K r0 = 102) (hr1 : r1 ∈ L ∧ K r1 = 62) (hm0 : (∀ b ∈ L, K b = 62 → gi (f b) 1 = v0)) (hm1 : (∀ b ∈ L, K b = 62 → gi (f b) 2 = v1)) (k81 : ∀ (K' : Nat → Nat) (B' : Int) (L' : List Nat) (f' : Nat → va_E) (v2 : Int) (r2 r3 : Nat), hok X0.2.2.1 K' B' L' f' → extC [(102, 0), (102, 1), (102, 2), (103, 0), (104, 0), (105, 0)] K B L f K' B' L' f' → (0 ≤ v0 ∧ v0 ≤ 12) → (0 ≤ v1 ∧ v1 ≤ 10) → (0 ≤ v2 ∧ v2 ≤ 6) → (r0 ∈ L' ∧ K' r0 = 102) → (r1 ∈ L' ∧ K' r1 = 62) → (r2 ∈ L' ∧ K' r2 = 106) → (r3 ∈ L' ∧ K' r3 = 66) → (∀ b ∈ L', K' b = 102 → gi (f' b) 2 = v1) → (∀ b ∈ L', K' b = 102 → gi (f' b) 1 = v0) → (∀ b ∈ L', K' b = 102 → gi (f' b) 0 = v2) → (∀ b ∈ L', K' b = 62 → gi (f' b) 0 = v2) → (∀ b ∈ L', K' b = 62 → gi (f' b) 1 = v0) → (∀ b ∈ L', K' b = 62 → gi (f' b) 2 = v1) → eW E 0 0 L' f' 81 [(0, .ref r0), (1, .ref r1)] [.int (Int32.ofInt 12), .int (Int32.ofInt 0), .ref r2, .int (Int32.ofInt 0), .ref r3]) : eW E 0 0 L f 0 [(0, .ref r0), (1, .ref r1)] [] := by
  obtain ⟨l0, D0, cy0, ax0⟩ := X0
  have hraw : eW E 0 0 L f 0 [(0, .ref r0), (1, .ref r1)] [] := ?_
  · simpa only [Int.zero_add, Int.one_mul, Int.add_zero] using hraw
  have rm0 : (∀ b ∈ L, K b = 62 → gi (f b) 1 = (0 + (1 * v0 + 0))) := by simpa only [Int.zero_add, Int.one_mul, Int.add_zero] using hm0
  have rm1 : (∀ b ∈ L, K b = 62 → gi (f b) 2 = (0 + (1 * v1 + 0))) := by simpa only [Int.zero_add, Int.one_mul, Int.add_zero] using hm1
  refine seg_ok (D := D_lr0) (νi := fun i => [v0, v1].getD i 0) (μi := fun i => [r0, r1].getD i 0) k_lr0 hE (mk_ok (ins := iX1_copyFrom) jX1_copyFrom fX1_ok lX1_ok kX1_ok kkX1_ok H) (by decide) rfl rfl rfl rfl hh ?_ ?_
  · refine ⟨(eok_of (fun i q hq => ?_) (fun i hi => ?_)), fa0, fa0, ?_, (fa_cons (Fmok hh (show (zkd 62).1 = 1 by decide) (j := 1) rfl (by decide) rm0) (fa_cons (Fmok hh (show (zkd 62).1 = 1 by decide) (j := 2) rfl (by decide) rm1) fa0)), fa0, fa0⟩
    · match i, hq with
      | 0, hq => cases hq; exact hb0
      | 1, hq => cases hq; exact hb1
      | i + 2, hq => cases hq
    · match i, hi with
      | 0, hi => exact absurd hi (by decide)
      | 1, hi => exact absurd hi (by decide)
      | i + 2, _ => rfl
    · intro i k hk
      match i, hk with
      | 0, hk => cases hk; exact hr0
      | 1, hk => cases hk; exact hr1
      | i + 2, hk => cases hk
  · intro q hq hst K' B' L' f' ν μ h1 h2 h3 h4 h5
    have e0 : ν 0 = v0 := h4 0 (by decide)
    have e1 : ν 1 = v1 := h4 1 (by decide)
    have d0 : μ 0 = r0 := h5 0 (by decide)
    have d1 : μ 1 = r1 := h5 1 (by decide)
    subst e0
    subst e1
    subst d0
    subst d1
    replace hq : q ∈ u_lr0 := hq
    unfold u_lr0 at hq
    simp only [List.mem_cons, List.not_mem_nil, or_false] at hq
    rcases hq with rfl
    · have hst2 : eW E 0 0 L' f' 81 [(0, .ref (μ 0)), (1, .ref (μ 1))] [.int (Int32.ofInt (12 + 0)), .int (Int32.ofInt (0 + 0)), .ref (μ 2), .int (Int32.ofInt (0 + 0)), .ref (μ 3)] := ?_
      · exact hst2
      try simp only [Int.zero_add, Int.one_mul, Int.add_zero]
      exact k81 K' B' L' f' (ν 2) (μ 2) (μ 3) h1 h2 (h3.1 0) (h3.1 1) (h3.1 2) (h3.2.2.2.1 0 102 rfl) (h3.2.2.2.1 1 62 rfl) (h3.2.2.2.1 2 106 rfl) (h3.2.2.2.1 3 66 rfl) (by simpa only [xv, xvT, Int.zero_add, Int.one_mul, Int.add_zero] using (mokF h1 (show (zkd 102).1 = 1 by decide) (j := 2) rfl (by decide) (h3.2.2.2.2.1 _ (List.mem_of_getElem? (i := 0) rfl)))) (by simpa only [xv, xvT, Int.zero_add, Int.one_mul, Int.add_zero] using (mokF h1 (show (zkd 102).1 = 1 by decide) (j := 1) rfl (by decide) (h3.2.2.2.2.1 _ (List.mem_of_getElem? (i := 1) rfl)))) (by simpa only [xv, xvT, Int.zero_add, Int.one_mul, Int.add_zero] using (mokF h1 (show (zkd 102).1 = 1 by decide) (j := 0) rfl (by decide) (h3.2.2.2.2.1 _ (List.mem_of_getElem? (i := 2) rfl)))) (by simpa only [xv, xvT, Int.zero_add, Int.one_mul, Int.add_zero] using (mokF h1 (show (zkd 62).1 = 1 by decide) (j := 0) rfl (by decide) (h3.2.2.2.2.1 _ (List.mem_of_getElem? (i := 3) rfl)))) (by simpa only [xv, xvT, Int.zero_add, Int.one_mul, Int.add_zero] using (mokF h1 (show (zkd 62).1 = 1 by decide) (j := 1) rfl (by decide) (h3.2.2.2.2.1 _ (List.mem_of_getElem? (i := 4) rfl)))) (by simpa only [xv, xvT, Int.zero_add, Int.one_mul, Int.add_zero] using (mokF h1 (show (zkd 62).1 = 1 by decide) (j := 2) rfl (by decide) (h3.2.2.2.2.1 _ (List.mem_of_getElem? (i := 5) rfl))))

/-! lr84: from 84 to [86] -/
def w_lr84 : TP := ([(0, (2, 0, (0, []))), (1, (2, 1, (0, [])))], [], ([], [], [], [102, 62], [], [], []), [], [])
def u_lr84 : List (Nat × TP × EX × Nat × Nat) := [(86, ([(0, (2, 0, (0, []))), (1, (2, 1, (0, []))), (2, (0, 0, (0, [])))], [], ([], [], [], [102, 62], [], [], []), [], []), ((-1), []), 0, 0)]
def D_lr84 : DT := (mkD iX1_copyFrom fX1 lX1 kX1 kkX1 427 [] (w_lr84, [], [], 1, 0, 0, 3) false 3 u_lr84)
theorem k_lr84 : chkS D_lr84 4000 0 0 84 = true := by decide +kernel
theorem s_lr84 {X0 : zC0} {E : zCx} (H : ∀ j, j < 427 → CMj X0 j) (hE : zOk E X0 RX1 cX1_copyFrom 3 (zrm 1 0 0)) {K : Nat → Nat} {B : Int} {L : List Nat} {f : Nat → va_E} (hh : hok X0.2.2.1 K B L f) {r0 r1 : Nat} (hr0 : r0 ∈ L ∧ K r0 = 102) (hr1 : r1 ∈ L ∧ K r1 = 62) (k86 : ∀ (K' : Nat → Nat) (B' : Int) (L' : List Nat) (f' : Nat → va_E), hok X0.2.2.1 K' B' L' f' → extC [] K B L f K' B' L' f' → (r0 ∈ L' ∧ K' r0 = 102) → (r1 ∈ L' ∧ K' r1 = 62) → eW E 0 0 L' f' 86 [(0, .ref r0), (1, .ref r1), (2, .int (Int32.ofInt 0))] []) : eW E 0 0 L f 84 [(0, .ref r0), (1, .ref r1)] [] := by
  obtain ⟨l0, D0, cy0, ax0⟩ := X0
  have hraw : eW E 0 0 L f 84 [(0, .ref r0), (1, .ref r1)] [] := ?_
  · simpa only [Int.zero_add, Int.one_mul, Int.add_zero] using hraw
  refine seg_ok (D := D_lr84) (νi := fun i => [].getD i 0) (μi := fun i => [r0, r1].getD i 0) k_lr84 hE (mk_ok (ins := iX1_copyFrom) jX1_copyFrom fX1_ok lX1_ok kX1_ok kkX1_ok H) (by decide) rfl rfl rfl rfl hh ?_ ?_
  · refine ⟨(eok_of (fun i q hq => by cases hq) (fun i _ => rfl)), fa0, fa0, ?_, fa0, fa0, fa0⟩
    · intro i k hk
      match i, hk with
      | 0, hk => cases hk; exact hr0
      | 1, hk => cases hk; exact hr1
      | i + 2, hk => cases hk
  · intro q hq hst K' B' L' f' ν μ h1 h2 h3 h4 h5
    have d0 : μ 0 = r0 := h5 0 (by decide)
    have d1 : μ 1 = r1 := h5 1 (by decide)
    subst d0
    subst d1
    replace hq : q ∈ u_lr84 := hq
    unfold u_lr84 at hq
    simp only [List.mem_cons, List.not_mem_nil, or_false] at hq
    rcases hq with rfl
    · have hst2 : eW E 0 0 L' f' 86 [(0, .ref (μ 0)), (1, .ref (μ 1)), (2, .int (Int32.ofInt (0 + 0)))] [] := ?_
      · exact hst2
      try simp only [Int.zero_add, Int.one_mul, Int.add_zero]
      exact k86 K' B' L' f'   h1 h2 (h3.2.2.2.1 0 102 rfl) (h3.2.2.2.1 1 62 rfl)

/-! lr86: from 86 to [102, 110] -/
def w_lr86 : TP := ([(0, (2, 0, (0, []))), (1, (2, 1, (0, []))), (2, (0, 0, (0, [(1, 0)])))], [], ([(0, 12)], [], [], [102, 62], [], [], []), [], [])
def u_lr86 : List (Nat × TP × EX × Nat × Nat) := [(102, ([(0, (2, 0, (0, []))), (1, (2, 1, (0, []))), (2, (0, 0, (0, [(1, 0)])))], [(0, 0, (0, [(1, 0)])), (2, 2, (0, [])), (0, 0, (0, [(1, 0)])), (2, 3, (0, []))], ([(0, 11)], [], [], [102, 62, 67, 107], [], [], []), [], [(1, 1), (1, 3)]), ((-1), []), 0, 0), (110, ([(0, (2, 0, (0, []))), (1, (2, 1, (0, []))), (2, (0, 0, (0, [(1, 0)])))], [], ([(12, 12)], [], [], [102, 62], [], [], []), [], []), ((-1), []), 0, 0)]
def D_lr86 : DT := (mkD iX1_copyFrom fX1 lX1 kX1 kkX1 427 [] (w_lr86, [], [], 1, 0, 0, 3) false 3 u_lr86)
theorem k_lr86 : chkS D_lr86 4000 0 0 86 = true := by decide +kernel
theorem s_lr86 {X0 : zC0} {E : zCx} (H : ∀ j, j < 427 → CMj X0 j) (hE : zOk E X0 RX1 cX1_copyFrom 3 (zrm 1 0 0)) {K : Nat → Nat} {B : Int} {L : List Nat} {f : Nat → va_E} (hh : hok X0.2.2.1 K B L f) {v0 : Int} {r0 r1 : Nat} (hb0 : 0 ≤ v0 ∧ v0 ≤ 12) (hr0 : r0 ∈ L ∧ K r0 = 102) (hr1 : r1 ∈ L ∧ K r1 = 62) (k102 : ∀ (K' : Nat → Nat) (B' : Int) (L' : List Nat) (f' : Nat → va_E) (r2 r3 : Nat), hok X0.2.2.1 K' B' L' f' → extC [] K B L f K' B' L' f' → (0 ≤ v0 ∧ v0 ≤ 11) → (r0 ∈ L' ∧ K' r0 = 102) → (r1 ∈ L' ∧ K' r1 = 62) → (r2 ∈ L' ∧ K' r2 = 67) → (r3 ∈ L' ∧ K' r3 = 107) → eW E 0 0 L' f' 102 [(0, .ref r0), (1, .ref r1), (2, .int (Int32.ofInt v0))] [.int (Int32.ofInt v0), .ref r2, .int (Int32.ofInt v0), .ref r3]) (k110 : ∀ (K' : Nat → Nat) (B' : Int) (L' : List Nat) (f' : Nat → va_E), hok X0.2.2.1 K' B' L' f' → extC [] K B L f K' B' L' f' → (12 ≤ v0 ∧ v0 ≤ 12) → (r0 ∈ L' ∧ K' r0 = 102) → (r1 ∈ L' ∧ K' r1 = 62) → eW E 0 0 L' f' 110 [(0, .ref r0), (1, .ref r1), (2, .int (Int32.ofInt v0))] []) : eW E 0 0 L f 86 [(0, .ref r0), (1, .ref r1), (2, .int (Int32.ofInt v0))] [] := by
  obtain ⟨l0, D0, cy0, ax0⟩ := X0
  have hraw : eW E 0 0 L f 86 [(0, .ref r0), (1, .ref r1), (2, .int (Int32.ofInt (0 + (1 * v0 + 0))))] [] := ?_
  · simpa only [Int.zero_add, Int.one_mul, Int.add_zero] using hraw
  refine seg_ok (D := D_lr86) (νi := fun i => [v0].getD i 0) (μi := fun i => [r0, r1].getD i 0) k_lr86 hE (mk_ok (ins := iX1_copyFrom) jX1_copyFrom fX1_ok lX1_ok kX1_ok kkX1_ok H) (by decide) rfl rfl rfl rfl hh ?_ ?_
  · refine ⟨(eok_of (fun i q hq => ?_) (fun i hi => ?_)), fa0, fa0, ?_, fa0, fa0, fa0⟩
    · match i, hq with
      | 0, hq => cases hq; exact hb0
      | i + 1, hq => cases hq
    · match i, hi with
      | 0, hi => exact absurd hi (by decide)
      | i + 1, _ => rfl
    · intro i k hk
      match i, hk with
      | 0, hk => cases hk; exact hr0
      | 1, hk => cases hk; exact hr1
      | i + 2, hk => cases hk
  · intro q hq hst K' B' L' f' ν μ h1 h2 h3 h4 h5
    have e0 : ν 0 = v0 := h4 0 (by decide)
    have d0 : μ 0 = r0 := h5 0 (by decide)
    have d1 : μ 1 = r1 := h5 1 (by decide)
    subst e0
    subst d0
    subst d1
    replace hq : q ∈ u_lr86 := hq
    unfold u_lr86 at hq
    simp only [List.mem_cons, List.not_mem_nil, or_false] at hq
    rcases hq with rfl | rfl
    · have hst2 : eW E 0 0 L' f' 102 [(0, .ref (μ 0)), (1, .ref (μ 1)), (2, .int (Int32.ofInt (0 + (1 * ν 0 + 0))))] [.int (Int32.ofInt (0 + (1 * ν 0 + 0))), .ref (μ 2), .int (Int32.ofInt (0 + (1 * ν 0 + 0))), .ref (μ 3)] := ?_
      · exact hst2
      try simp only [Int.zero_add, Int.one_mul, Int.add_zero]
      exact k102 K' B' L' f'  (μ 2) (μ 3) h1 h2 (h3.1 0) (h3.2.2.2.1 0 102 rfl) (h3.2.2.2.1 1 62 rfl) (h3.2.2.2.1 2 67 rfl) (h3.2.2.2.1 3 107 rfl)
    · have hst2 : eW E 0 0 L' f' 110 [(0, .ref (μ 0)), (1, .ref (μ 1)), (2, .int (Int32.ofInt (0 + (1 * ν 0 + 0))))] [] := ?_
      · exact hst2
      try simp only [Int.zero_add, Int.one_mul, Int.add_zero]
      exact k110 K' B' L' f'   h1 h2 (h3.1 0) (h3.2.2.2.1 0 102 rfl) (h3.2.2.2.1 1 62 rfl)

/-! lr104: from 104 to [86] -/
def w_lr104 : TP := ([(0, (2, 0, (0, []))), (1, (2, 1, (0, []))), (2, (0, 0, (0, [(1, 0)])))], [], ([(0, 11)], [], [], [102, 62], [], [], []), [], [])
def u_lr104 : List (Nat × TP × EX × Nat × Nat) := [(86, ([(0, (2, 0, (0, []))), (1, (2, 1, (0, []))), (2, (0, 0, (1, [(1, 0)])))], [], ([(0, 11)], [], [], [102, 62], [], [], []), [], []), ((-1), []), 0, 0)]
def D_lr104 : DT := (mkD iX1_copyFrom fX1 lX1 kX1 kkX1 427 [] (w_lr104, [], [], 1, 0, 0, 3) false 3 u_lr104)
theorem k_lr104 : chkS D_lr104 4000 0 0 104 = true := by decide +kernel
theorem s_lr104 {X0 : zC0} {E : zCx} (H : ∀ j, j < 427 → CMj X0 j) (hE : zOk E X0 RX1 cX1_copyFrom 3 (zrm 1 0 0)) {K : Nat → Nat} {B : Int} {L : List Nat} {f : Nat → va_E} (hh : hok X0.2.2.1 K B L f) {v0 : Int} {r0 r1 : Nat} (hb0 : 0 ≤ v0 ∧ v0 ≤ 11) (hr0 : r0 ∈ L ∧ K r0 = 102) (hr1 : r1 ∈ L ∧ K r1 = 62) (k86 : ∀ (K' : Nat → Nat) (B' : Int) (L' : List Nat) (f' : Nat → va_E), hok X0.2.2.1 K' B' L' f' → extC [] K B L f K' B' L' f' → (0 ≤ v0 ∧ v0 ≤ 11) → (r0 ∈ L' ∧ K' r0 = 102) → (r1 ∈ L' ∧ K' r1 = 62) → eW E 0 0 L' f' 86 [(0, .ref r0), (1, .ref r1), (2, .int (Int32.ofInt (1 + v0)))] []) : eW E 0 0 L f 104 [(0, .ref r0), (1, .ref r1), (2, .int (Int32.ofInt v0))] [] := by
  obtain ⟨l0, D0, cy0, ax0⟩ := X0
  have hraw : eW E 0 0 L f 104 [(0, .ref r0), (1, .ref r1), (2, .int (Int32.ofInt (0 + (1 * v0 + 0))))] [] := ?_
  · simpa only [Int.zero_add, Int.one_mul, Int.add_zero] using hraw
  refine seg_ok (D := D_lr104) (νi := fun i => [v0].getD i 0) (μi := fun i => [r0, r1].getD i 0) k_lr104 hE (mk_ok (ins := iX1_copyFrom) jX1_copyFrom fX1_ok lX1_ok kX1_ok kkX1_ok H) (by decide) rfl rfl rfl rfl hh ?_ ?_
  · refine ⟨(eok_of (fun i q hq => ?_) (fun i hi => ?_)), fa0, fa0, ?_, fa0, fa0, fa0⟩
    · match i, hq with
      | 0, hq => cases hq; exact hb0
      | i + 1, hq => cases hq
    · match i, hi with
      | 0, hi => exact absurd hi (by decide)
      | i + 1, _ => rfl
    · intro i k hk
      match i, hk with
      | 0, hk => cases hk; exact hr0
      | 1, hk => cases hk; exact hr1
      | i + 2, hk => cases hk
  · intro q hq hst K' B' L' f' ν μ h1 h2 h3 h4 h5
    have e0 : ν 0 = v0 := h4 0 (by decide)
    have d0 : μ 0 = r0 := h5 0 (by decide)
    have d1 : μ 1 = r1 := h5 1 (by decide)
    subst e0
    subst d0
    subst d1
    replace hq : q ∈ u_lr104 := hq
    unfold u_lr104 at hq
    simp only [List.mem_cons, List.not_mem_nil, or_false] at hq
    rcases hq with rfl
    · have hst2 : eW E 0 0 L' f' 86 [(0, .ref (μ 0)), (1, .ref (μ 1)), (2, .int (Int32.ofInt (1 + (1 * ν 0 + 0))))] [] := ?_
      · exact hst2
      try simp only [Int.zero_add, Int.one_mul, Int.add_zero]
      exact k86 K' B' L' f'   h1 h2 (h3.1 0) (h3.2.2.2.1 0 102 rfl) (h3.2.2.2.1 1 62 rfl)

/-! lr110: from 110 to [112] -/
def w_lr110 : TP := ([(0, (2, 0, (0, []))), (1, (2, 1, (0, [])))], [], ([], [], [], [102, 62], [], [], []), [], [])
def u_lr110 : List (Nat × TP × EX × Nat × Nat) := [(112, ([(0, (2, 0, (0, []))), (1, (2, 1, (0, []))), (2, (0, 0, (0, [])))], [], ([], [], [], [102, 62], [], [], []), [], []), ((-1), []), 0, 0)]
def D_lr110 : DT := (mkD iX1_copyFrom fX1 lX1 kX1 kkX1 427 [] (w_lr110, [], [], 1, 0, 0, 3) false 3 u_lr110)
theorem k_lr110 : chkS D_lr110 4000 0 0 110 = true := by decide +kernel
theorem s_lr110 {X0 : zC0} {E : zCx} (H : ∀ j, j < 427 → CMj X0 j) (hE : zOk E X0 RX1 cX1_copyFrom 3 (zrm 1 0 0)) {K : Nat → Nat} {B : Int} {L : List Nat} {f : Nat → va_E} (hh : hok X0.2.2.1 K B L f) {r0 r1 : Nat} (hr0 : r0 ∈ L ∧ K r0 = 102) (hr1 : r1 ∈ L ∧ K r1 = 62) (k112 : ∀ (K' : Nat → Nat) (B' : Int) (L' : List Nat) (f' : Nat → va_E), hok X0.2.2.1 K' B' L' f' → extC [] K B L f K' B' L' f' → (r0 ∈ L' ∧ K' r0 = 102) → (r1 ∈ L' ∧ K' r1 = 62) → eW E 0 0 L' f' 112 [(0, .ref r0), (1, .ref r1), (2, .int (Int32.ofInt 0))] []) : eW E 0 0 L f 110 [(0, .ref r0), (1, .ref r1)] [] := by
  obtain ⟨l0, D0, cy0, ax0⟩ := X0
  have hraw : eW E 0 0 L f 110 [(0, .ref r0), (1, .ref r1)] [] := ?_
  · simpa only [Int.zero_add, Int.one_mul, Int.add_zero] using hraw
  refine seg_ok (D := D_lr110) (νi := fun i => [].getD i 0) (μi := fun i => [r0, r1].getD i 0) k_lr110 hE (mk_ok (ins := iX1_copyFrom) jX1_copyFrom fX1_ok lX1_ok kX1_ok kkX1_ok H) (by decide) rfl rfl rfl rfl hh ?_ ?_
  · refine ⟨(eok_of (fun i q hq => by cases hq) (fun i _ => rfl)), fa0, fa0, ?_, fa0, fa0, fa0⟩
    · intro i k hk
      match i, hk with
      | 0, hk => cases hk; exact hr0
      | 1, hk => cases hk; exact hr1
      | i + 2, hk => cases hk
  · intro q hq hst K' B' L' f' ν μ h1 h2 h3 h4 h5
    have d0 : μ 0 = r0 := h5 0 (by decide)
    have d1 : μ 1 = r1 := h5 1 (by decide)
    subst d0
    subst d1
    replace hq : q ∈ u_lr110 := hq
    unfold u_lr110 at hq
    simp only [List.mem_cons, List.not_mem_nil, or_false] at hq
    rcases hq with rfl
    · have hst2 : eW E 0 0 L' f' 112 [(0, .ref (μ 0)), (1, .ref (μ 1)), (2, .int (Int32.ofInt (0 + 0)))] [] := ?_
      · exact hst2
      try simp only [Int.zero_add, Int.one_mul, Int.add_zero]
      exact k112 K' B' L' f'   h1 h2 (h3.2.2.2.1 0 102 rfl) (h3.2.2.2.1 1 62 rfl)

/-! lr112: from 112 to [128, 136] -/
def w_lr112 : TP := ([(0, (2, 0, (0, []))), (1, (2, 1, (0, []))), (2, (0, 0, (0, [(1, 0)])))], [], ([(0, 10)], [], [], [102, 62], [], [], []), [], [])
def u_lr112 : List (Nat × TP × EX × Nat × Nat) := [(128, ([(0, (2, 0, (0, []))), (1, (2, 1, (0, []))), (2, (0, 0, (0, [(1, 0)])))], [(0, 0, (0, [(1, 0)])), (2, 2, (0, [])), (0, 0, (0, [(1, 0)])), (2, 3, (0, []))], ([(0, 9)], [], [], [102, 62, 68, 108], [], [], []), [], [(1, 1), (1, 3)]), ((-1), []), 0, 0), (136, ([(0, (2, 0, (0, []))), (1, (2, 1, (0, []))), (2, (0, 0, (0, [(1, 0)])))], [], ([(10, 10)], [], [], [102, 62], [], [], []), [], []), ((-1), []), 0, 0)]
def D_lr112 : DT := (mkD iX1_copyFrom fX1 lX1 kX1 kkX1 427 [] (w_lr112, [], [], 1, 0, 0, 3) false 3 u_lr112)
theorem k_lr112 : chkS D_lr112 4000 0 0 112 = true := by decide +kernel
theorem s_lr112 {X0 : zC0} {E : zCx} (H : ∀ j, j < 427 → CMj X0 j) (hE : zOk E X0 RX1 cX1_copyFrom 3 (zrm 1 0 0)) {K : Nat → Nat} {B : Int} {L : List Nat} {f : Nat → va_E} (hh : hok X0.2.2.1 K B L f) {v0 : Int} {r0 r1 : Nat} (hb0 : 0 ≤ v0 ∧ v0 ≤ 10) (hr0 : r0 ∈ L ∧ K r0 = 102) (hr1 : r1 ∈ L ∧ K r1 = 62) (k128 : ∀ (K' : Nat → Nat) (B' : Int) (L' : List Nat) (f' : Nat → va_E) (r2 r3 : Nat), hok X0.2.2.1 K' B' L' f' → extC [] K B L f K' B' L' f' → (0 ≤ v0 ∧ v0 ≤ 9) → (r0 ∈ L' ∧ K' r0 = 102) → (r1 ∈ L' ∧ K' r1 = 62) → (r2 ∈ L' ∧ K' r2 = 68) → (r3 ∈ L' ∧ K' r3 = 108) → eW E 0 0 L' f' 128 [(0, .ref r0), (1, .ref r1), (2, .int (Int32.ofInt v0))] [.int (Int32.ofInt v0), .ref r2, .int (Int32.ofInt v0), .ref r3]) (k136 : ∀ (K' : Nat → Nat) (B' : Int) (L' : List Nat) (f' : Nat → va_E), hok X0.2.2.1 K' B' L' f' → extC [] K B L f K' B' L' f' → (10 ≤ v0 ∧ v0 ≤ 10) → (r0 ∈ L' ∧ K' r0 = 102) → (r1 ∈ L' ∧ K' r1 = 62) → eW E 0 0 L' f' 136 [(0, .ref r0), (1, .ref r1), (2, .int (Int32.ofInt v0))] []) : eW E 0 0 L f 112 [(0, .ref r0), (1, .ref r1), (2, .int (Int32.ofInt v0))] [] := by
  obtain ⟨l0, D0, cy0, ax0⟩ := X0
  have hraw : eW E 0 0 L f 112 [(0, .ref r0), (1, .ref r1), (2, .int (Int32.ofInt (0 + (1 * v0 + 0))))] [] := ?_
  · simpa only [Int.zero_add, Int.one_mul, Int.add_zero] using hraw
  refine seg_ok (D := D_lr112) (νi := fun i => [v0].getD i 0) (μi := fun i => [r0, r1].getD i 0) k_lr112 hE (mk_ok (ins := iX1_copyFrom) jX1_copyFrom fX1_ok lX1_ok kX1_ok kkX1_ok H) (by decide) rfl rfl rfl rfl hh ?_ ?_
  · refine ⟨(eok_of (fun i q hq => ?_) (fun i hi => ?_)), fa0, fa0, ?_, fa0, fa0, fa0⟩
    · match i, hq with
      | 0, hq => cases hq; exact hb0
      | i + 1, hq => cases hq
    · match i, hi with
      | 0, hi => exact absurd hi (by decide)
      | i + 1, _ => rfl
    · intro i k hk
      match i, hk with
      | 0, hk => cases hk; exact hr0
      | 1, hk => cases hk; exact hr1
      | i + 2, hk => cases hk
  · intro q hq hst K' B' L' f' ν μ h1 h2 h3 h4 h5
    have e0 : ν 0 = v0 := h4 0 (by decide)
    have d0 : μ 0 = r0 := h5 0 (by decide)
    have d1 : μ 1 = r1 := h5 1 (by decide)
    subst e0
    subst d0
    subst d1
    replace hq : q ∈ u_lr112 := hq
    unfold u_lr112 at hq
    simp only [List.mem_cons, List.not_mem_nil, or_false] at hq
    rcases hq with rfl | rfl
    · have hst2 : eW E 0 0 L' f' 128 [(0, .ref (μ 0)), (1, .ref (μ 1)), (2, .int (Int32.ofInt (0 + (1 * ν 0 + 0))))] [.int (Int32.ofInt (0 + (1 * ν 0 + 0))), .ref (μ 2), .int (Int32.ofInt (0 + (1 * ν 0 + 0))), .ref (μ 3)] := ?_
      · exact hst2
      try simp only [Int.zero_add, Int.one_mul, Int.add_zero]
      exact k128 K' B' L' f'  (μ 2) (μ 3) h1 h2 (h3.1 0) (h3.2.2.2.1 0 102 rfl) (h3.2.2.2.1 1 62 rfl) (h3.2.2.2.1 2 68 rfl) (h3.2.2.2.1 3 108 rfl)
    · have hst2 : eW E 0 0 L' f' 136 [(0, .ref (μ 0)), (1, .ref (μ 1)), (2, .int (Int32.ofInt (0 + (1 * ν 0 + 0))))] [] := ?_
      · exact hst2
      try simp only [Int.zero_add, Int.one_mul, Int.add_zero]
      exact k136 K' B' L' f'   h1 h2 (h3.1 0) (h3.2.2.2.1 0 102 rfl) (h3.2.2.2.1 1 62 rfl)

/-! lr130: from 130 to [112] -/
def w_lr130 : TP := ([(0, (2, 0, (0, []))), (1, (2, 1, (0, []))), (2, (0, 0, (0, [(1, 0)])))], [], ([(0, 9)], [], [], [102, 62], [], [], []), [], [])
def u_lr130 : List (Nat × TP × EX × Nat × Nat) := [(112, ([(0, (2, 0, (0, []))), (1, (2, 1, (0, []))), (2, (0, 0, (1, [(1, 0)])))], [], ([(0, 9)], [], [], [102, 62], [], [], []), [], []), ((-1), []), 0, 0)]
def D_lr130 : DT := (mkD iX1_copyFrom fX1 lX1 kX1 kkX1 427 [] (w_lr130, [], [], 1, 0, 0, 3) false 3 u_lr130)
theorem k_lr130 : chkS D_lr130 4000 0 0 130 = true := by decide +kernel
theorem s_lr130 {X0 : zC0} {E : zCx} (H : ∀ j, j < 427 → CMj X0 j) (hE : zOk E X0 RX1 cX1_copyFrom 3 (zrm 1 0 0)) {K : Nat → Nat} {B : Int} {L : List Nat} {f : Nat → va_E} (hh : hok X0.2.2.1 K B L f) {v0 : Int} {r0 r1 : Nat} (hb0 : 0 ≤ v0 ∧ v0 ≤ 9) (hr0 : r0 ∈ L ∧ K r0 = 102) (hr1 : r1 ∈ L ∧ K r1 = 62) (k112 : ∀ (K' : Nat → Nat) (B' : Int) (L' : List Nat) (f' : Nat → va_E), hok X0.2.2.1 K' B' L' f' → extC [] K B L f K' B' L' f' → (0 ≤ v0 ∧ v0 ≤ 9) → (r0 ∈ L' ∧ K' r0 = 102) → (r1 ∈ L' ∧ K' r1 = 62) → eW E 0 0 L' f' 112 [(0, .ref r0), (1, .ref r1), (2, .int (Int32.ofInt (1 + v0)))] []) : eW E 0 0 L f 130 [(0, .ref r0), (1, .ref r1), (2, .int (Int32.ofInt v0))] [] := by
  obtain ⟨l0, D0, cy0, ax0⟩ := X0
  have hraw : eW E 0 0 L f 130 [(0, .ref r0), (1, .ref r1), (2, .int (Int32.ofInt (0 + (1 * v0 + 0))))] [] := ?_
  · simpa only [Int.zero_add, Int.one_mul, Int.add_zero] using hraw
  refine seg_ok (D := D_lr130) (νi := fun i => [v0].getD i 0) (μi := fun i => [r0, r1].getD i 0) k_lr130 hE (mk_ok (ins := iX1_copyFrom) jX1_copyFrom fX1_ok lX1_ok kX1_ok kkX1_ok H) (by decide) rfl rfl rfl rfl hh ?_ ?_
  · refine ⟨(eok_of (fun i q hq => ?_) (fun i hi => ?_)), fa0, fa0, ?_, fa0, fa0, fa0⟩
    · match i, hq with
      | 0, hq => cases hq; exact hb0
      | i + 1, hq => cases hq
    · match i, hi with
      | 0, hi => exact absurd hi (by decide)
      | i + 1, _ => rfl
    · intro i k hk
      match i, hk with
      | 0, hk => cases hk; exact hr0
      | 1, hk => cases hk; exact hr1
      | i + 2, hk => cases hk
  · intro q hq hst K' B' L' f' ν μ h1 h2 h3 h4 h5
    have e0 : ν 0 = v0 := h4 0 (by decide)
    have d0 : μ 0 = r0 := h5 0 (by decide)
    have d1 : μ 1 = r1 := h5 1 (by decide)
    subst e0
    subst d0
    subst d1
    replace hq : q ∈ u_lr130 := hq
    unfold u_lr130 at hq
    simp only [List.mem_cons, List.not_mem_nil, or_false] at hq
    rcases hq with rfl
    · have hst2 : eW E 0 0 L' f' 112 [(0, .ref (μ 0)), (1, .ref (μ 1)), (2, .int (Int32.ofInt (1 + (1 * ν 0 + 0))))] [] := ?_
      · exact hst2
      try simp only [Int.zero_add, Int.one_mul, Int.add_zero]
      exact k112 K' B' L' f'   h1 h2 (h3.1 0) (h3.2.2.2.1 0 102 rfl) (h3.2.2.2.1 1 62 rfl)

/-! lr136: from 136 to [148] -/
def w_lr136 : TP := ([(0, (2, 0, (0, []))), (1, (2, 1, (0, [])))], [], ([], [], [], [102, 62], [], [], []), [], [])
def u_lr136 : List (Nat × TP × EX × Nat × Nat) := [(148, ([(0, (2, 0, (0, []))), (1, (2, 1, (0, [])))], [(0, 0, (10, [])), (0, 0, (0, [])), (2, 2, (0, [])), (0, 0, (0, [])), (2, 3, (0, []))], ([], [], [], [102, 62, 109, 69], [], [], []), [], [(1, 2), (1, 4)]), ((-1), []), 0, 0)]
def D_lr136 : DT := (mkD iX1_copyFrom fX1 lX1 kX1 kkX1 427 [] (w_lr136, [], [], 1, 0, 0, 3) false 3 u_lr136)
theorem k_lr136 : chkS D_lr136 4000 0 0 136 = true := by decide +kernel
theorem s_lr136 {X0 : zC0} {E : zCx} (H : ∀ j, j < 427 → CMj X0 j) (hE : zOk E X0 RX1 cX1_copyFrom 3 (zrm 1 0 0)) {K : Nat → Nat} {B : Int} {L : List Nat} {f : Nat → va_E} (hh : hok X0.2.2.1 K B L f) {r0 r1 : Nat} (hr0 : r0 ∈ L ∧ K r0 = 102) (hr1 : r1 ∈ L ∧ K r1 = 62) (k148 : ∀ (K' : Nat → Nat) (B' : Int) (L' : List Nat) (f' : Nat → va_E) (r2 r3 : Nat), hok X0.2.2.1 K' B' L' f' → extC [] K B L f K' B' L' f' → (r0 ∈ L' ∧ K' r0 = 102) → (r1 ∈ L' ∧ K' r1 = 62) → (r2 ∈ L' ∧ K' r2 = 109) → (r3 ∈ L' ∧ K' r3 = 69) → eW E 0 0 L' f' 148 [(0, .ref r0), (1, .ref r1)] [.int (Int32.ofInt 10), .int (Int32.ofInt 0), .ref r2, .int (Int32.ofInt 0), .ref r3]) : eW E 0 0 L f 136 [(0, .ref r0), (1, .ref r1)] [] := by
  obtain ⟨l0, D0, cy0, ax0⟩ := X0
  have hraw : eW E 0 0 L f 136 [(0, .ref r0), (1, .ref r1)] [] := ?_
  · simpa only [Int.zero_add, Int.one_mul, Int.add_zero] using hraw
  refine seg_ok (D := D_lr136) (νi := fun i => [].getD i 0) (μi := fun i => [r0, r1].getD i 0) k_lr136 hE (mk_ok (ins := iX1_copyFrom) jX1_copyFrom fX1_ok lX1_ok kX1_ok kkX1_ok H) (by decide) rfl rfl rfl rfl hh ?_ ?_
  · refine ⟨(eok_of (fun i q hq => by cases hq) (fun i _ => rfl)), fa0, fa0, ?_, fa0, fa0, fa0⟩
    · intro i k hk
      match i, hk with
      | 0, hk => cases hk; exact hr0
      | 1, hk => cases hk; exact hr1
      | i + 2, hk => cases hk
  · intro q hq hst K' B' L' f' ν μ h1 h2 h3 h4 h5
    have d0 : μ 0 = r0 := h5 0 (by decide)
    have d1 : μ 1 = r1 := h5 1 (by decide)
    subst d0
    subst d1
    replace hq : q ∈ u_lr136 := hq
    unfold u_lr136 at hq
    simp only [List.mem_cons, List.not_mem_nil, or_false] at hq
    rcases hq with rfl
    · have hst2 : eW E 0 0 L' f' 148 [(0, .ref (μ 0)), (1, .ref (μ 1))] [.int (Int32.ofInt (10 + 0)), .int (Int32.ofInt (0 + 0)), .ref (μ 2), .int (Int32.ofInt (0 + 0)), .ref (μ 3)] := ?_
      · exact hst2
      try simp only [Int.zero_add, Int.one_mul, Int.add_zero]
      exact k148 K' B' L' f'  (μ 2) (μ 3) h1 h2 (h3.2.2.2.1 0 102 rfl) (h3.2.2.2.1 1 62 rfl) (h3.2.2.2.1 2 109 rfl) (h3.2.2.2.1 3 69 rfl)

/-! lr151: from 151 to [163] -/
def w_lr151 : TP := ([(0, (2, 0, (0, []))), (1, (2, 1, (0, [])))], [], ([], [], [], [102, 62], [], [], []), [], [])
def u_lr151 : List (Nat × TP × EX × Nat × Nat) := [(163, ([(0, (2, 0, (0, []))), (1, (2, 1, (0, [])))], [(0, 0, (10, [])), (0, 0, (0, [])), (2, 2, (0, [])), (0, 0, (0, [])), (2, 3, (0, []))], ([], [], [], [102, 62, 110, 70], [], [], []), [], [(1, 2), (1, 4)]), ((-1), []), 0, 0)]
def D_lr151 : DT := (mkD iX1_copyFrom fX1 lX1 kX1 kkX1 427 [] (w_lr151, [], [], 1, 0, 0, 3) false 3 u_lr151)
theorem k_lr151 : chkS D_lr151 4000 0 0 151 = true := by decide +kernel
theorem s_lr151 {X0 : zC0} {E : zCx} (H : ∀ j, j < 427 → CMj X0 j) (hE : zOk E X0 RX1 cX1_copyFrom 3 (zrm 1 0 0)) {K : Nat → Nat} {B : Int} {L : List Nat} {f : Nat → va_E} (hh : hok X0.2.2.1 K B L f) {r0 r1 : Nat} (hr0 : r0 ∈ L ∧ K r0 = 102) (hr1 : r1 ∈ L ∧ K r1 = 62) (k163 : ∀ (K' : Nat → Nat) (B' : Int) (L' : List Nat) (f' : Nat → va_E) (r2 r3 : Nat), hok X0.2.2.1 K' B' L' f' → extC [] K B L f K' B' L' f' → (r0 ∈ L' ∧ K' r0 = 102) → (r1 ∈ L' ∧ K' r1 = 62) → (r2 ∈ L' ∧ K' r2 = 110) → (r3 ∈ L' ∧ K' r3 = 70) → eW E 0 0 L' f' 163 [(0, .ref r0), (1, .ref r1)] [.int (Int32.ofInt 10), .int (Int32.ofInt 0), .ref r2, .int (Int32.ofInt 0), .ref r3]) : eW E 0 0 L f 151 [(0, .ref r0), (1, .ref r1)] [] := by
  obtain ⟨l0, D0, cy0, ax0⟩ := X0
  have hraw : eW E 0 0 L f 151 [(0, .ref r0), (1, .ref r1)] [] := ?_
  · simpa only [Int.zero_add, Int.one_mul, Int.add_zero] using hraw
  refine seg_ok (D := D_lr151) (νi := fun i => [].getD i 0) (μi := fun i => [r0, r1].getD i 0) k_lr151 hE (mk_ok (ins := iX1_copyFrom) jX1_copyFrom fX1_ok lX1_ok kX1_ok kkX1_ok H) (by decide) rfl rfl rfl rfl hh ?_ ?_
  · refine ⟨(eok_of (fun i q hq => by cases hq) (fun i _ => rfl)), fa0, fa0, ?_, fa0, fa0, fa0⟩
    · intro i k hk
      match i, hk with
      | 0, hk => cases hk; exact hr0
      | 1, hk => cases hk; exact hr1
      | i + 2, hk => cases hk
  · intro q hq hst K' B' L' f' ν μ h1 h2 h3 h4 h5
    have d0 : μ 0 = r0 := h5 0 (by decide)
    have d1 : μ 1 = r1 := h5 1 (by decide)
    subst d0
    subst d1
    replace hq : q ∈ u_lr151 := hq
    unfold u_lr151 at hq
    simp only [List.mem_cons, List.not_mem_nil, or_false] at hq
    rcases hq with rfl
    · have hst2 : eW E 0 0 L' f' 163 [(0, .ref (μ 0)), (1, .ref (μ 1))] [.int (Int32.ofInt (10 + 0)), .int (Int32.ofInt (0 + 0)), .ref (μ 2), .int (Int32.ofInt (0 + 0)), .ref (μ 3)] := ?_
      · exact hst2
      try simp only [Int.zero_add, Int.one_mul, Int.add_zero]
      exact k163 K' B' L' f'  (μ 2) (μ 3) h1 h2 (h3.2.2.2.1 0 102 rfl) (h3.2.2.2.1 1 62 rfl) (h3.2.2.2.1 2 110 rfl) (h3.2.2.2.1 3 70 rfl)

/-! sq0: from 0 to [41] -/
def w_sq0 : TP := ([(0, (2, 0, (0, []))), (1, (2, 1, (0, [])))], [], ([], [], [], [40, 80], [], [], []), [], [])
def u_sq0 : List (Nat × TP × EX × Nat × Nat) := [(41, ([(0, (2, 0, (0, []))), (1, (2, 1, (0, [])))], [(2, 2, (0, [])), (2, 3, (0, []))], ([(0, 30), (0, 29), ((-2147483648), 2147483647), ((-2147483648), 2147483647), ((-2147483648), 2147483647), (0, 999), (0, 30186), (0, 40), (0, 39), (0, 6), (0, 8)], [], [], [40, 80, 102, 62], [((99, (0, [])), (0, [(1, 0)])), ((59, (0, [])), (0, [(1, 0)])), ((99, (1, [])), (0, [(1, 1)])), ((59, (1, [])), (0, [(1, 1)])), ((90, (6, [])), (0, [(1, 2)])), ((50, (6, [])), (0, [(1, 2)])), ((90, (7, [])), (0, [(1, 3)])), ((50, (7, [])), (0, [(1, 3)])), ((90, (8, [])), (0, [(1, 4)])), ((50, (8, [])), (0, [(1, 4)])), ((90, (9, [])), (0, [(1, 5)])), ((50, (9, [])), (0, [(1, 5)])), ((90, (10, [])), (0, [(1, 6)])), ((50, (10, [])), (0, [(1, 6)])), ((90, (11, [])), (0, [(1, 7)])), ((50, (11, [])), (0, [(1, 7)])), ((90, (12, [])), (0, [(1, 8)])), ((50, (12, [])), (0, [(1, 8)])), ((81, (0, [])), (0, [(1, 9)])), ((41, (0, [])), (0, [(1, 9)])), ((81, (1, [])), (0, [(1, 10)])), ((41, (1, [])), (0, [(1, 10)]))], [], []), [(2, 99, (0, [])), (2, 99, (1, [])), (2, 90, (6, [])), (2, 90, (7, [])), (2, 90, (8, [])), (2, 90, (9, [])), (2, 90, (10, [])), (2, 90, (11, [])), (2, 90, (12, [])), (2, 81, (0, [])), (2, 81, (1, []))], [(1, 0), (1, 1)]), ((-1), []), 0, 0)]
def D_sq0 : DT := (mkD iX4_copyFrom fX4 lX4 kX4 kkX4 427 [(8, [4]), (19, [19]), (30, [46])] (w_sq0, [(1, 6), (1, 7), (1, 8), (1, 9), (1, 10), (1, 11), (1, 12), (2, 0), (3, 0), (4, 0), (5, 0), (6, 0), (7, 0), (8, 0), (9, 0), (41, 0), (41, 1), (42, 0), (43, 0), (44, 0), (45, 0), (46, 0), (47, 0), (48, 0), (49, 0), (50, 6), (50, 7), (50, 8), (50, 9), (50, 10), (50, 11), (50, 12), (51, 0), (52, 0), (53, 0), (54, 0), (55, 0), (56, 0), (57, 0), (58, 0), (59, 0), (59, 1), (61, 0)], [], 3, 0, 0, 3) false 3 u_sq0)
theorem k_sq0 : chkS D_sq0 4000 0 0 0 = true := by decide +kernel
theorem s_sq0 {X0 : zC0} {E : zCx} (H : ∀ j, j < 427 → CMj X0 j) (hE : zOk E X0 RX4 cX4_copyFrom 3 (zrm 3 0 0)) {K : Nat → Nat} {B : Int} {L : List Nat} {f : Nat → va_E} (hh : hok X0.2.2.1 K B L f) {r0 r1 : Nat} (hr0 : r0 ∈ L ∧ K r0 = 40) (hr1 : r1 ∈ L ∧ K r1 = 80) (k41 : ∀ (K' : Nat → Nat) (B' : Int) (L' : List Nat) (f' : Nat → va_E) (v0 v1 v2 v3 v4 v5 v6 v7 v8 v9 v10 : Int) (r2 r3 : Nat), hok X0.2.2.1 K' B' L' f' → extC [(1, 6), (1, 7), (1, 8), (1, 9), (1, 10), (1, 11), (1, 12), (2, 0), (3, 0), (4, 0), (5, 0), (6, 0), (7, 0), (8, 0), (9, 0), (41, 0), (41, 1), (42, 0), (43, 0), (44, 0), (45, 0), (46, 0), (47, 0), (48, 0), (49, 0), (50, 6), (50, 7), (50, 8), (50, 9), (50, 10), (50, 11), (50, 12), (51, 0), (52, 0), (53, 0), (54, 0), (55, 0), (56, 0), (57, 0), (58, 0), (59, 0), (59, 1), (61, 0)] K B L f K' B' L' f' → (0 ≤ v0 ∧ v0 ≤ 30) → (0 ≤ v1 ∧ v1 ≤ 29) → ((-2147483648) ≤ v2 ∧ v2 ≤ 2147483647) → ((-2147483648) ≤ v3 ∧ v3 ≤ 2147483647) → ((-2147483648) ≤ v4 ∧ v4 ≤ 2147483647) → (0 ≤ v5 ∧ v5 ≤ 999) → (0 ≤ v6 ∧ v6 ≤ 30186) → (0 ≤ v7 ∧ v7 ≤ 40) → (0 ≤ v8 ∧ v8 ≤ 39) → (0 ≤ v9 ∧ v9 ≤ 6) → (0 ≤ v10 ∧ v10 ≤ 8) → (r0 ∈ L' ∧ K' r0 = 40) → (r1 ∈ L' ∧ K' r1 = 80) → (r2 ∈ L' ∧ K' r2 = 102) → (r3 ∈ L' ∧ K' r3 = 62) → (∀ b ∈ L', K' b = 99 → gi (f' b) 0 = v0) → (∀ b ∈ L', K' b = 59 → gi (f' b) 0 = v0) → (∀ b ∈ L', K' b = 99 → gi (f' b) 1 = v1) → (∀ b ∈ L', K' b = 59 → gi (f' b) 1 = v1) → (∀ b ∈ L', K' b = 90 → gi (f' b) 6 = v2) → (∀ b ∈ L', K' b = 50 → gi (f' b) 6 = v2) → (∀ b ∈ L', K' b = 90 → gi (f' b) 7 = v3) → (∀ b ∈ L', K' b = 50 → gi (f' b) 7 = v3) → (∀ b ∈ L', K' b = 90 → gi (f' b) 8 = v4) → (∀ b ∈ L', K' b = 50 → gi (f' b) 8 = v4) → (∀ b ∈ L', K' b = 90 → gi (f' b) 9 = v5) → (∀ b ∈ L', K' b = 50 → gi (f' b) 9 = v5) → (∀ b ∈ L', K' b = 90 → gi (f' b) 10 = v6) → (∀ b ∈ L', K' b = 50 → gi (f' b) 10 = v6) → (∀ b ∈ L', K' b = 90 → gi (f' b) 11 = v7) → (∀ b ∈ L', K' b = 50 → gi (f' b) 11 = v7) → (∀ b ∈ L', K' b = 90 → gi (f' b) 12 = v8) → (∀ b ∈ L', K' b = 50 → gi (f' b) 12 = v8) → (∀ b ∈ L', K' b = 81 → gi (f' b) 0 = v9) → (∀ b ∈ L', K' b = 41 → gi (f' b) 0 = v9) → (∀ b ∈ L', K' b = 81 → gi (f' b) 1 = v10) → (∀ b ∈ L', K' b = 41 → gi (f' b) 1 = v10) → eW E 0 0 L' f' 41 [(0, .ref r0), (1, .ref r1)] [.ref r2, .ref r3]) : eW E 0 0 L f 0 [(0, .ref r0), (1, .ref r1)] [] := by
  obtain ⟨l0, D0, cy0, ax0⟩ := X0
  have hraw : eW E 0 0 L f 0 [(0, .ref r0), (1, .ref r1)] [] := ?_
  · simpa only [Int.zero_add, Int.one_mul, Int.add_zero] using hraw
  refine seg_ok (D := D_sq0) (νi := fun i => [].getD i 0) (μi := fun i => [r0, r1].getD i 0) k_sq0 hE (mk_ok (ins := iX4_copyFrom) jX4_copyFrom fX4_ok lX4_ok kX4_ok kkX4_ok H) (by decide) rfl rfl rfl rfl hh ?_ ?_
  · refine ⟨(eok_of (fun i q hq => by cases hq) (fun i _ => rfl)), fa0, fa0, ?_, fa0, fa0, fa0⟩
    · intro i k hk
      match i, hk with
      | 0, hk => cases hk; exact hr0
      | 1, hk => cases hk; exact hr1
      | i + 2, hk => cases hk
  · intro q hq hst K' B' L' f' ν μ h1 h2 h3 h4 h5
    have d0 : μ 0 = r0 := h5 0 (by decide)
    have d1 : μ 1 = r1 := h5 1 (by decide)
    subst d0
    subst d1
    replace hq : q ∈ u_sq0 := hq
    unfold u_sq0 at hq
    simp only [List.mem_cons, List.not_mem_nil, or_false] at hq
    rcases hq with rfl
    · have hst2 : eW E 0 0 L' f' 41 [(0, .ref (μ 0)), (1, .ref (μ 1))] [.ref (μ 2), .ref (μ 3)] := ?_
      · exact hst2
      try simp only [Int.zero_add, Int.one_mul, Int.add_zero]
      exact k41 K' B' L' f' (ν 0) (ν 1) (ν 2) (ν 3) (ν 4) (ν 5) (ν 6) (ν 7) (ν 8) (ν 9) (ν 10) (μ 2) (μ 3) h1 h2 (h3.1 0) (h3.1 1) (h3.1 2) (h3.1 3) (h3.1 4) (h3.1 5) (h3.1 6) (h3.1 7) (h3.1 8) (h3.1 9) (h3.1 10) (h3.2.2.2.1 0 40 rfl) (h3.2.2.2.1 1 80 rfl) (h3.2.2.2.1 2 102 rfl) (h3.2.2.2.1 3 62 rfl) (by simpa only [xv, xvT, Int.zero_add, Int.one_mul, Int.add_zero] using (mokF h1 (show (zkd 99).1 = 1 by decide) (j := 0) rfl (by decide) (h3.2.2.2.2.1 _ (List.mem_of_getElem? (i := 0) rfl)))) (by simpa only [xv, xvT, Int.zero_add, Int.one_mul, Int.add_zero] using (mokF h1 (show (zkd 59).1 = 1 by decide) (j := 0) rfl (by decide) (h3.2.2.2.2.1 _ (List.mem_of_getElem? (i := 1) rfl)))) (by simpa only [xv, xvT, Int.zero_add, Int.one_mul, Int.add_zero] using (mokF h1 (show (zkd 99).1 = 1 by decide) (j := 1) rfl (by decide) (h3.2.2.2.2.1 _ (List.mem_of_getElem? (i := 2) rfl)))) (by simpa only [xv, xvT, Int.zero_add, Int.one_mul, Int.add_zero] using (mokF h1 (show (zkd 59).1 = 1 by decide) (j := 1) rfl (by decide) (h3.2.2.2.2.1 _ (List.mem_of_getElem? (i := 3) rfl)))) (by simpa only [xv, xvT, Int.zero_add, Int.one_mul, Int.add_zero] using (mokF h1 (show (zkd 90).1 = 1 by decide) (j := 6) rfl (by decide) (h3.2.2.2.2.1 _ (List.mem_of_getElem? (i := 4) rfl)))) (by simpa only [xv, xvT, Int.zero_add, Int.one_mul, Int.add_zero] using (mokF h1 (show (zkd 50).1 = 1 by decide) (j := 6) rfl (by decide) (h3.2.2.2.2.1 _ (List.mem_of_getElem? (i := 5) rfl)))) (by simpa only [xv, xvT, Int.zero_add, Int.one_mul, Int.add_zero] using (mokF h1 (show (zkd 90).1 = 1 by decide) (j := 7) rfl (by decide) (h3.2.2.2.2.1 _ (List.mem_of_getElem? (i := 6) rfl)))) (by simpa only [xv, xvT, Int.zero_add, Int.one_mul, Int.add_zero] using (mokF h1 (show (zkd 50).1 = 1 by decide) (j := 7) rfl (by decide) (h3.2.2.2.2.1 _ (List.mem_of_getElem? (i := 7) rfl)))) (by simpa only [xv, xvT, Int.zero_add, Int.one_mul, Int.add_zero] using (mokF h1 (show (zkd 90).1 = 1 by decide) (j := 8) rfl (by decide) (h3.2.2.2.2.1 _ (List.mem_of_getElem? (i := 8) rfl)))) (by simpa only [xv, xvT, Int.zero_add, Int.one_mul, Int.add_zero] using (mokF h1 (show (zkd 50).1 = 1 by decide) (j := 8) rfl (by decide) (h3.2.2.2.2.1 _ (List.mem_of_getElem? (i := 9) rfl)))) (by simpa only [xv, xvT, Int.zero_add, Int.one_mul, Int.add_zero] using (mokF h1 (show (zkd 90).1 = 1 by decide) (j := 9) rfl (by decide) (h3.2.2.2.2.1 _ (List.mem_of_getElem? (i := 10) rfl)))) (by simpa only [xv, xvT, Int.zero_add, Int.one_mul, Int.add_zero] using (mokF h1 (show (zkd 50).1 = 1 by decide) (j := 9) rfl (by decide) (h3.2.2.2.2.1 _ (List.mem_of_getElem? (i := 11) rfl)))) (by simpa only [xv, xvT, Int.zero_add, Int.one_mul, Int.add_zero] using (mokF h1 (show (zkd 90).1 = 1 by decide) (j := 10) rfl (by decide) (h3.2.2.2.2.1 _ (List.mem_of_getElem? (i := 12) rfl)))) (by simpa only [xv, xvT, Int.zero_add, Int.one_mul, Int.add_zero] using (mokF h1 (show (zkd 50).1 = 1 by decide) (j := 10) rfl (by decide) (h3.2.2.2.2.1 _ (List.mem_of_getElem? (i := 13) rfl)))) (by simpa only [xv, xvT, Int.zero_add, Int.one_mul, Int.add_zero] using (mokF h1 (show (zkd 90).1 = 1 by decide) (j := 11) rfl (by decide) (h3.2.2.2.2.1 _ (List.mem_of_getElem? (i := 14) rfl)))) (by simpa only [xv, xvT, Int.zero_add, Int.one_mul, Int.add_zero] using (mokF h1 (show (zkd 50).1 = 1 by decide) (j := 11) rfl (by decide) (h3.2.2.2.2.1 _ (List.mem_of_getElem? (i := 15) rfl)))) (by simpa only [xv, xvT, Int.zero_add, Int.one_mul, Int.add_zero] using (mokF h1 (show (zkd 90).1 = 1 by decide) (j := 12) rfl (by decide) (h3.2.2.2.2.1 _ (List.mem_of_getElem? (i := 16) rfl)))) (by simpa only [xv, xvT, Int.zero_add, Int.one_mul, Int.add_zero] using (mokF h1 (show (zkd 50).1 = 1 by decide) (j := 12) rfl (by decide) (h3.2.2.2.2.1 _ (List.mem_of_getElem? (i := 17) rfl)))) (by simpa only [xv, xvT, Int.zero_add, Int.one_mul, Int.add_zero] using (mokF h1 (show (zkd 81).1 = 1 by decide) (j := 0) rfl (by decide) (h3.2.2.2.2.1 _ (List.mem_of_getElem? (i := 18) rfl)))) (by simpa only [xv, xvT, Int.zero_add, Int.one_mul, Int.add_zero] using (mokF h1 (show (zkd 41).1 = 1 by decide) (j := 0) rfl (by decide) (h3.2.2.2.2.1 _ (List.mem_of_getElem? (i := 19) rfl)))) (by simpa only [xv, xvT, Int.zero_add, Int.one_mul, Int.add_zero] using (mokF h1 (show (zkd 81).1 = 1 by decide) (j := 1) rfl (by decide) (h3.2.2.2.2.1 _ (List.mem_of_getElem? (i := 20) rfl)))) (by simpa only [xv, xvT, Int.zero_add, Int.one_mul, Int.add_zero] using (mokF h1 (show (zkd 41).1 = 1 by decide) (j := 1) rfl (by decide) (h3.2.2.2.2.1 _ (List.mem_of_getElem? (i := 21) rfl))))

/-! sq44: from 44 to [85] -/
def w_sq44 : TP := ([(0, (2, 0, (0, []))), (1, (2, 1, (0, [])))], [], ([], [], [], [40, 80], [], [], []), [], [])
def u_sq44 : List (Nat × TP × EX × Nat × Nat) := [(46, ([(0, (2, 0, (0, []))), (1, (2, 1, (0, []))), (2, (0, 0, (0, [(1, 0)])))], [], ([(0, 4)], [], [], [40, 80], [], [], []), [(0, 2, (0, []))], []), (4, [((-1), 0)]), 0, 0), (85, ([(0, (2, 0, (0, []))), (1, (2, 1, (0, []))), (2, (0, 0, (0, [(1, 0)])))], [], ([(4, 4), ((-2147483648), 2147483647), (0, 4)], [], [], [40, 80], [((40, (6, [])), (0, [(1, 1)])), ((80, (6, [])), (0, [(1, 1)])), ((40, (5, [])), (0, [(1, 2)])), ((80, (5, [])), (0, [(1, 2)]))], [], []), [(0, 2, (0, [])), (2, 40, (6, [])), (2, 40, (5, []))], []), ((-1), []), 0, 0)]
def D_sq44 : DT := (mkD iX4_copyFrom fX4 lX4 kX4 kkX4 427 [] (w_sq44, [(40, 5), (40, 6), (71, 0)], [], 3, 0, 0, 3) false 3 u_sq44)
theorem k_sq44 : chkS D_sq44 4000 0 0 44 = true := by decide +kernel
theorem s_sq44 {X0 : zC0} {E : zCx} (H : ∀ j, j < 427 → CMj X0 j) (hE : zOk E X0 RX4 cX4_copyFrom 3 (zrm 3 0 0)) {K : Nat → Nat} {B : Int} {L : List Nat} {f : Nat → va_E} (hh : hok X0.2.2.1 K B L f) {r0 r1 : Nat} (hr0 : r0 ∈ L ∧ K r0 = 40) (hr1 : r1 ∈ L ∧ K r1 = 80) (k85 : ∀ (K' : Nat → Nat) (B' : Int) (L' : List Nat) (f' : Nat → va_E) (v0 v1 v2 : Int), hok X0.2.2.1 K' B' L' f' → extC [(40, 5), (40, 6), (71, 0)] K B L f K' B' L' f' → (4 ≤ v0 ∧ v0 ≤ 4) → ((-2147483648) ≤ v1 ∧ v1 ≤ 2147483647) → (0 ≤ v2 ∧ v2 ≤ 4) → (r0 ∈ L' ∧ K' r0 = 40) → (r1 ∈ L' ∧ K' r1 = 80) → (∀ b ∈ L', K' b = 40 → gi (f' b) 6 = v1) → (∀ b ∈ L', K' b = 80 → gi (f' b) 6 = v1) → (∀ b ∈ L', K' b = 40 → gi (f' b) 5 = v2) → (∀ b ∈ L', K' b = 80 → gi (f' b) 5 = v2) → eW E 0 0 L' f' 85 [(0, .ref r0), (1, .ref r1), (2, .int (Int32.ofInt v0))] []) : eW E 0 0 L f 44 [(0, .ref r0), (1, .ref r1)] [] := by
  obtain ⟨l0, D0, cy0, ax0⟩ := X0
  have hraw : eW E 0 0 L f 44 [(0, .ref r0), (1, .ref r1)] [] := ?_
  · simpa only [Int.zero_add, Int.one_mul, Int.add_zero] using hraw
  refine seg_ok (D := D_sq44) (νi := fun i => [].getD i 0) (μi := fun i => [r0, r1].getD i 0) k_sq44 hE (mk_ok (ins := iX4_copyFrom) jX4_copyFrom fX4_ok lX4_ok kX4_ok kkX4_ok H) (by decide) rfl rfl rfl rfl hh ?_ ?_
  · refine ⟨(eok_of (fun i q hq => by cases hq) (fun i _ => rfl)), fa0, fa0, ?_, fa0, fa0, fa0⟩
    · intro i k hk
      match i, hk with
      | 0, hk => cases hk; exact hr0
      | 1, hk => cases hk; exact hr1
      | i + 2, hk => cases hk
  · intro q hq hst K' B' L' f' ν μ h1 h2 h3 h4 h5
    have d0 : μ 0 = r0 := h5 0 (by decide)
    have d1 : μ 1 = r1 := h5 1 (by decide)
    subst d0
    subst d1
    replace hq : q ∈ u_sq44 := hq
    unfold u_sq44 at hq
    simp only [List.mem_cons, List.not_mem_nil, or_false] at hq
    rcases hq with rfl | rfl
    · exact absurd hst (by decide)
    · have hst2 : eW E 0 0 L' f' 85 [(0, .ref (μ 0)), (1, .ref (μ 1)), (2, .int (Int32.ofInt (0 + (1 * ν 0 + 0))))] [] := ?_
      · exact hst2
      try simp only [Int.zero_add, Int.one_mul, Int.add_zero]
      exact k85 K' B' L' f' (ν 0) (ν 1) (ν 2)  h1 h2 (h3.1 0) (h3.1 1) (h3.1 2) (h3.2.2.2.1 0 40 rfl) (h3.2.2.2.1 1 80 rfl) (by simpa only [xv, xvT, Int.zero_add, Int.one_mul, Int.add_zero] using (mokF h1 (show (zkd 40).1 = 1 by decide) (j := 6) rfl (by decide) (h3.2.2.2.2.1 _ (List.mem_of_getElem? (i := 0) rfl)))) (by simpa only [xv, xvT, Int.zero_add, Int.one_mul, Int.add_zero] using (mokF h1 (show (zkd 80).1 = 1 by decide) (j := 6) rfl (by decide) (h3.2.2.2.2.1 _ (List.mem_of_getElem? (i := 1) rfl)))) (by simpa only [xv, xvT, Int.zero_add, Int.one_mul, Int.add_zero] using (mokF h1 (show (zkd 40).1 = 1 by decide) (j := 5) rfl (by decide) (h3.2.2.2.2.1 _ (List.mem_of_getElem? (i := 2) rfl)))) (by simpa only [xv, xvT, Int.zero_add, Int.one_mul, Int.add_zero] using (mokF h1 (show (zkd 80).1 = 1 by decide) (j := 5) rfl (by decide) (h3.2.2.2.2.1 _ (List.mem_of_getElem? (i := 3) rfl))))

/-! sr0: from 0 to [41] -/
def w_sr0 : TP := ([(0, (2, 0, (0, []))), (1, (2, 1, (0, [])))], [], ([], [], [], [80, 40], [], [], []), [], [])
def u_sr0 : List (Nat × TP × EX × Nat × Nat) := [(41, ([(0, (2, 0, (0, []))), (1, (2, 1, (0, [])))], [(2, 2, (0, [])), (2, 3, (0, []))], ([(0, 30), (0, 29), ((-2147483648), 2147483647), ((-2147483648), 2147483647), ((-2147483648), 2147483647), (0, 999), (0, 30186), (0, 40), (0, 39), (0, 6), (0, 8)], [], [], [80, 40, 62, 102], [((59, (0, [])), (0, [(1, 0)])), ((99, (0, [])), (0, [(1, 0)])), ((59, (1, [])), (0, [(1, 1)])), ((99, (1, [])), (0, [(1, 1)])), ((50, (6, [])), (0, [(1, 2)])), ((90, (6, [])), (0, [(1, 2)])), ((50, (7, [])), (0, [(1, 3)])), ((90, (7, [])), (0, [(1, 3)])), ((50, (8, [])), (0, [(1, 4)])), ((90, (8, [])), (0, [(1, 4)])), ((50, (9, [])), (0, [(1, 5)])), ((90, (9, [])), (0, [(1, 5)])), ((50, (10, [])), (0, [(1, 6)])), ((90, (10, [])), (0, [(1, 6)])), ((50, (11, [])), (0, [(1, 7)])), ((90, (11, [])), (0, [(1, 7)])), ((50, (12, [])), (0, [(1, 8)])), ((90, (12, [])), (0, [(1, 8)])), ((41, (0, [])), (0, [(1, 9)])), ((81, (0, [])), (0, [(1, 9)])), ((41, (1, [])), (0, [(1, 10)])), ((81, (1, [])), (0, [(1, 10)]))], [], []), [(2, 59, (0, [])), (2, 59, (1, [])), (2, 50, (6, [])), (2, 50, (7, [])), (2, 50, (8, [])), (2, 50, (9, [])), (2, 50, (10, [])), (2, 50, (11, [])), (2, 50, (12, [])), (2, 41, (0, [])), (2, 41, (1, []))], [(1, 0), (1, 1)]), ((-1), []), 0, 0)]
def D_sr0 : DT := (mkD iX4_copyFrom fX4 lX4 kX4 kkX4 427 [(8, [5]), (19, [20]), (30, [116])] (w_sr0, [(10, 6), (10, 7), (10, 8), (10, 9), (10, 10), (10, 11), (10, 12), (11, 0), (12, 0), (13, 0), (14, 0), (15, 0), (16, 0), (17, 0), (18, 0), (81, 0), (81, 1), (82, 0), (83, 0), (84, 0), (85, 0), (86, 0), (87, 0), (88, 0), (89, 0), (90, 6), (90, 7), (90, 8), (90, 9), (90, 10), (90, 11), (90, 12), (91, 0), (92, 0), (93, 0), (94, 0), (95, 0), (96, 0), (97, 0), (98, 0), (99, 0), (99, 1), (101, 0)], [], 3, 0, 0, 3) false 3 u_sr0)
theorem k_sr0 : chkS D_sr0 4000 0 0 0 = true := by decide +kernel
theorem s_sr0 {X0 : zC0} {E : zCx} (H : ∀ j, j < 427 → CMj X0 j) (hE : zOk E X0 RX4 cX4_copyFrom 3 (zrm 3 0 0)) {K : Nat → Nat} {B : Int} {L : List Nat} {f : Nat → va_E} (hh : hok X0.2.2.1 K B L f) {r0 r1 : Nat} (hr0 : r0 ∈ L ∧ K r0 = 80) (hr1 : r1 ∈ L ∧ K r1 = 40) (k41 : ∀ (K' : Nat → Nat) (B' : Int) (L' : List Nat) (f' : Nat → va_E) (v0 v1 v2 v3 v4 v5 v6 v7 v8 v9 v10 : Int) (r2 r3 : Nat), hok X0.2.2.1 K' B' L' f' → extC [(10, 6), (10, 7), (10, 8), (10, 9), (10, 10), (10, 11), (10, 12), (11, 0), (12, 0), (13, 0), (14, 0), (15, 0), (16, 0), (17, 0), (18, 0), (81, 0), (81, 1), (82, 0), (83, 0), (84, 0), (85, 0), (86, 0), (87, 0), (88, 0), (89, 0), (90, 6), (90, 7), (90, 8), (90, 9), (90, 10), (90, 11), (90, 12), (91, 0), (92, 0), (93, 0), (94, 0), (95, 0), (96, 0), (97, 0), (98, 0), (99, 0), (99, 1), (101, 0)] K B L f K' B' L' f' → (0 ≤ v0 ∧ v0 ≤ 30) → (0 ≤ v1 ∧ v1 ≤ 29) → ((-2147483648) ≤ v2 ∧ v2 ≤ 2147483647) → ((-2147483648) ≤ v3 ∧ v3 ≤ 2147483647) → ((-2147483648) ≤ v4 ∧ v4 ≤ 2147483647) → (0 ≤ v5 ∧ v5 ≤ 999) → (0 ≤ v6 ∧ v6 ≤ 30186) → (0 ≤ v7 ∧ v7 ≤ 40) → (0 ≤ v8 ∧ v8 ≤ 39) → (0 ≤ v9 ∧ v9 ≤ 6) → (0 ≤ v10 ∧ v10 ≤ 8) → (r0 ∈ L' ∧ K' r0 = 80) → (r1 ∈ L' ∧ K' r1 = 40) → (r2 ∈ L' ∧ K' r2 = 62) → (r3 ∈ L' ∧ K' r3 = 102) → (∀ b ∈ L', K' b = 59 → gi (f' b) 0 = v0) → (∀ b ∈ L', K' b = 99 → gi (f' b) 0 = v0) → (∀ b ∈ L', K' b = 59 → gi (f' b) 1 = v1) → (∀ b ∈ L', K' b = 99 → gi (f' b) 1 = v1) → (∀ b ∈ L', K' b = 50 → gi (f' b) 6 = v2) → (∀ b ∈ L', K' b = 90 → gi (f' b) 6 = v2) → (∀ b ∈ L', K' b = 50 → gi (f' b) 7 = v3) → (∀ b ∈ L', K' b = 90 → gi (f' b) 7 = v3) → (∀ b ∈ L', K' b = 50 → gi (f' b) 8 = v4) → (∀ b ∈ L', K' b = 90 → gi (f' b) 8 = v4) → (∀ b ∈ L', K' b = 50 → gi (f' b) 9 = v5) → (∀ b ∈ L', K' b = 90 → gi (f' b) 9 = v5) → (∀ b ∈ L', K' b = 50 → gi (f' b) 10 = v6) → (∀ b ∈ L', K' b = 90 → gi (f' b) 10 = v6) → (∀ b ∈ L', K' b = 50 → gi (f' b) 11 = v7) → (∀ b ∈ L', K' b = 90 → gi (f' b) 11 = v7) → (∀ b ∈ L', K' b = 50 → gi (f' b) 12 = v8) → (∀ b ∈ L', K' b = 90 → gi (f' b) 12 = v8) → (∀ b ∈ L', K' b = 41 → gi (f' b) 0 = v9) → (∀ b ∈ L', K' b = 81 → gi (f' b) 0 = v9) → (∀ b ∈ L', K' b = 41 → gi (f' b) 1 = v10) → (∀ b ∈ L', K' b = 81 → gi (f' b) 1 = v10) → eW E 0 0 L' f' 41 [(0, .ref r0), (1, .ref r1)] [.ref r2, .ref r3]) : eW E 0 0 L f 0 [(0, .ref r0), (1, .ref r1)] [] := by
  obtain ⟨l0, D0, cy0, ax0⟩ := X0
  have hraw : eW E 0 0 L f 0 [(0, .ref r0), (1, .ref r1)] [] := ?_
  · simpa only [Int.zero_add, Int.one_mul, Int.add_zero] using hraw
  refine seg_ok (D := D_sr0) (νi := fun i => [].getD i 0) (μi := fun i => [r0, r1].getD i 0) k_sr0 hE (mk_ok (ins := iX4_copyFrom) jX4_copyFrom fX4_ok lX4_ok kX4_ok kkX4_ok H) (by decide) rfl rfl rfl rfl hh ?_ ?_
  · refine ⟨(eok_of (fun i q hq => by cases hq) (fun i _ => rfl)), fa0, fa0, ?_, fa0, fa0, fa0⟩
    · intro i k hk
      match i, hk with
      | 0, hk => cases hk; exact hr0
      | 1, hk => cases hk; exact hr1
      | i + 2, hk => cases hk
  · intro q hq hst K' B' L' f' ν μ h1 h2 h3 h4 h5
    have d0 : μ 0 = r0 := h5 0 (by decide)
    have d1 : μ 1 = r1 := h5 1 (by decide)
    subst d0
    subst d1
    replace hq : q ∈ u_sr0 := hq
    unfold u_sr0 at hq
    simp only [List.mem_cons, List.not_mem_nil, or_false] at hq
    rcases hq with rfl
    · have hst2 : eW E 0 0 L' f' 41 [(0, .ref (μ 0)), (1, .ref (μ 1))] [.ref (μ 2), .ref (μ 3)] := ?_
      · exact hst2
      try simp only [Int.zero_add, Int.one_mul, Int.add_zero]
      exact k41 K' B' L' f' (ν 0) (ν 1) (ν 2) (ν 3) (ν 4) (ν 5) (ν 6) (ν 7) (ν 8) (ν 9) (ν 10) (μ 2) (μ 3) h1 h2 (h3.1 0) (h3.1 1) (h3.1 2) (h3.1 3) (h3.1 4) (h3.1 5) (h3.1 6) (h3.1 7) (h3.1 8) (h3.1 9) (h3.1 10) (h3.2.2.2.1 0 80 rfl) (h3.2.2.2.1 1 40 rfl) (h3.2.2.2.1 2 62 rfl) (h3.2.2.2.1 3 102 rfl) (by simpa only [xv, xvT, Int.zero_add, Int.one_mul, Int.add_zero] using (mokF h1 (show (zkd 59).1 = 1 by decide) (j := 0) rfl (by decide) (h3.2.2.2.2.1 _ (List.mem_of_getElem? (i := 0) rfl)))) (by simpa only [xv, xvT, Int.zero_add, Int.one_mul, Int.add_zero] using (mokF h1 (show (zkd 99).1 = 1 by decide) (j := 0) rfl (by decide) (h3.2.2.2.2.1 _ (List.mem_of_getElem? (i := 1) rfl)))) (by simpa only [xv, xvT, Int.zero_add, Int.one_mul, Int.add_zero] using (mokF h1 (show (zkd 59).1 = 1 by decide) (j := 1) rfl (by decide) (h3.2.2.2.2.1 _ (List.mem_of_getElem? (i := 2) rfl)))) (by simpa only [xv, xvT, Int.zero_add, Int.one_mul, Int.add_zero] using (mokF h1 (show (zkd 99).1 = 1 by decide) (j := 1) rfl (by decide) (h3.2.2.2.2.1 _ (List.mem_of_getElem? (i := 3) rfl)))) (by simpa only [xv, xvT, Int.zero_add, Int.one_mul, Int.add_zero] using (mokF h1 (show (zkd 50).1 = 1 by decide) (j := 6) rfl (by decide) (h3.2.2.2.2.1 _ (List.mem_of_getElem? (i := 4) rfl)))) (by simpa only [xv, xvT, Int.zero_add, Int.one_mul, Int.add_zero] using (mokF h1 (show (zkd 90).1 = 1 by decide) (j := 6) rfl (by decide) (h3.2.2.2.2.1 _ (List.mem_of_getElem? (i := 5) rfl)))) (by simpa only [xv, xvT, Int.zero_add, Int.one_mul, Int.add_zero] using (mokF h1 (show (zkd 50).1 = 1 by decide) (j := 7) rfl (by decide) (h3.2.2.2.2.1 _ (List.mem_of_getElem? (i := 6) rfl)))) (by simpa only [xv, xvT, Int.zero_add, Int.one_mul, Int.add_zero] using (mokF h1 (show (zkd 90).1 = 1 by decide) (j := 7) rfl (by decide) (h3.2.2.2.2.1 _ (List.mem_of_getElem? (i := 7) rfl)))) (by simpa only [xv, xvT, Int.zero_add, Int.one_mul, Int.add_zero] using (mokF h1 (show (zkd 50).1 = 1 by decide) (j := 8) rfl (by decide) (h3.2.2.2.2.1 _ (List.mem_of_getElem? (i := 8) rfl)))) (by simpa only [xv, xvT, Int.zero_add, Int.one_mul, Int.add_zero] using (mokF h1 (show (zkd 90).1 = 1 by decide) (j := 8) rfl (by decide) (h3.2.2.2.2.1 _ (List.mem_of_getElem? (i := 9) rfl)))) (by simpa only [xv, xvT, Int.zero_add, Int.one_mul, Int.add_zero] using (mokF h1 (show (zkd 50).1 = 1 by decide) (j := 9) rfl (by decide) (h3.2.2.2.2.1 _ (List.mem_of_getElem? (i := 10) rfl)))) (by simpa only [xv, xvT, Int.zero_add, Int.one_mul, Int.add_zero] using (mokF h1 (show (zkd 90).1 = 1 by decide) (j := 9) rfl (by decide) (h3.2.2.2.2.1 _ (List.mem_of_getElem? (i := 11) rfl)))) (by simpa only [xv, xvT, Int.zero_add, Int.one_mul, Int.add_zero] using (mokF h1 (show (zkd 50).1 = 1 by decide) (j := 10) rfl (by decide) (h3.2.2.2.2.1 _ (List.mem_of_getElem? (i := 12) rfl)))) (by simpa only [xv, xvT, Int.zero_add, Int.one_mul, Int.add_zero] using (mokF h1 (show (zkd 90).1 = 1 by decide) (j := 10) rfl (by decide) (h3.2.2.2.2.1 _ (List.mem_of_getElem? (i := 13) rfl)))) (by simpa only [xv, xvT, Int.zero_add, Int.one_mul, Int.add_zero] using (mokF h1 (show (zkd 50).1 = 1 by decide) (j := 11) rfl (by decide) (h3.2.2.2.2.1 _ (List.mem_of_getElem? (i := 14) rfl)))) (by simpa only [xv, xvT, Int.zero_add, Int.one_mul, Int.add_zero] using (mokF h1 (show (zkd 90).1 = 1 by decide) (j := 11) rfl (by decide) (h3.2.2.2.2.1 _ (List.mem_of_getElem? (i := 15) rfl)))) (by simpa only [xv, xvT, Int.zero_add, Int.one_mul, Int.add_zero] using (mokF h1 (show (zkd 50).1 = 1 by decide) (j := 12) rfl (by decide) (h3.2.2.2.2.1 _ (List.mem_of_getElem? (i := 16) rfl)))) (by simpa only [xv, xvT, Int.zero_add, Int.one_mul, Int.add_zero] using (mokF h1 (show (zkd 90).1 = 1 by decide) (j := 12) rfl (by decide) (h3.2.2.2.2.1 _ (List.mem_of_getElem? (i := 17) rfl)))) (by simpa only [xv, xvT, Int.zero_add, Int.one_mul, Int.add_zero] using (mokF h1 (show (zkd 41).1 = 1 by decide) (j := 0) rfl (by decide) (h3.2.2.2.2.1 _ (List.mem_of_getElem? (i := 18) rfl)))) (by simpa only [xv, xvT, Int.zero_add, Int.one_mul, Int.add_zero] using (mokF h1 (show (zkd 81).1 = 1 by decide) (j := 0) rfl (by decide) (h3.2.2.2.2.1 _ (List.mem_of_getElem? (i := 19) rfl)))) (by simpa only [xv, xvT, Int.zero_add, Int.one_mul, Int.add_zero] using (mokF h1 (show (zkd 41).1 = 1 by decide) (j := 1) rfl (by decide) (h3.2.2.2.2.1 _ (List.mem_of_getElem? (i := 20) rfl)))) (by simpa only [xv, xvT, Int.zero_add, Int.one_mul, Int.add_zero] using (mokF h1 (show (zkd 81).1 = 1 by decide) (j := 1) rfl (by decide) (h3.2.2.2.2.1 _ (List.mem_of_getElem? (i := 21) rfl))))

/-! sr44: from 44 to [85] -/
def w_sr44 : TP := ([(0, (2, 0, (0, []))), (1, (2, 1, (0, [])))], [], ([], [], [], [80, 40], [], [], []), [], [])
def u_sr44 : List (Nat × TP × EX × Nat × Nat) := [(46, ([(0, (2, 0, (0, []))), (1, (2, 1, (0, []))), (2, (0, 0, (0, [(1, 0)])))], [], ([(0, 4)], [], [], [80, 40], [], [], []), [(0, 2, (0, []))], []), (4, [((-1), 0)]), 0, 0), (85, ([(0, (2, 0, (0, []))), (1, (2, 1, (0, []))), (2, (0, 0, (0, [(1, 0)])))], [], ([(4, 4), ((-2147483648), 2147483647), (0, 4)], [], [], [80, 40], [((80, (6, [])), (0, [(1, 1)])), ((40, (6, [])), (0, [(1, 1)])), ((80, (5, [])), (0, [(1, 2)])), ((40, (5, [])), (0, [(1, 2)]))], [], []), [(0, 2, (0, [])), (2, 80, (6, [])), (2, 80, (5, []))], []), ((-1), []), 0, 0)]
def D_sr44 : DT := (mkD iX4_copyFrom fX4 lX4 kX4 kkX4 427 [] (w_sr44, [(80, 5), (80, 6), (111, 0)], [], 3, 0, 0, 3) false 3 u_sr44)
theorem k_sr44 : chkS D_sr44 4000 0 0 44 = true := by decide +kernel
theorem s_sr44 {X0 : zC0} {E : zCx} (H : ∀ j, j < 427 → CMj X0 j) (hE : zOk E X0 RX4 cX4_copyFrom 3 (zrm 3 0 0)) {K : Nat → Nat} {B : Int} {L : List Nat} {f : Nat → va_E} (hh : hok X0.2.2.1 K B L f) {r0 r1 : Nat} (hr0 : r0 ∈ L ∧ K r0 = 80) (hr1 : r1 ∈ L ∧ K r1 = 40) (k85 : ∀ (K' : Nat → Nat) (B' : Int) (L' : List Nat) (f' : Nat → va_E) (v0 v1 v2 : Int), hok X0.2.2.1 K' B' L' f' → extC [(80, 5), (80, 6), (111, 0)] K B L f K' B' L' f' → (4 ≤ v0 ∧ v0 ≤ 4) → ((-2147483648) ≤ v1 ∧ v1 ≤ 2147483647) → (0 ≤ v2 ∧ v2 ≤ 4) → (r0 ∈ L' ∧ K' r0 = 80) → (r1 ∈ L' ∧ K' r1 = 40) → (∀ b ∈ L', K' b = 80 → gi (f' b) 6 = v1) → (∀ b ∈ L', K' b = 40 → gi (f' b) 6 = v1) → (∀ b ∈ L', K' b = 80 → gi (f' b) 5 = v2) → (∀ b ∈ L', K' b = 40 → gi (f' b) 5 = v2) → eW E 0 0 L' f' 85 [(0, .ref r0), (1, .ref r1), (2, .int (Int32.ofInt v0))] []) : eW E 0 0 L f 44 [(0, .ref r0), (1, .ref r1)] [] := by
  obtain ⟨l0, D0, cy0, ax0⟩ := X0
  have hraw : eW E 0 0 L f 44 [(0, .ref r0), (1, .ref r1)] [] := ?_
  · simpa only [Int.zero_add, Int.one_mul, Int.add_zero] using hraw
  refine seg_ok (D := D_sr44) (νi := fun i => [].getD i 0) (μi := fun i => [r0, r1].getD i 0) k_sr44 hE (mk_ok (ins := iX4_copyFrom) jX4_copyFrom fX4_ok lX4_ok kX4_ok kkX4_ok H) (by decide) rfl rfl rfl rfl hh ?_ ?_
  · refine ⟨(eok_of (fun i q hq => by cases hq) (fun i _ => rfl)), fa0, fa0, ?_, fa0, fa0, fa0⟩
    · intro i k hk
      match i, hk with
      | 0, hk => cases hk; exact hr0
      | 1, hk => cases hk; exact hr1
      | i + 2, hk => cases hk
  · intro q hq hst K' B' L' f' ν μ h1 h2 h3 h4 h5
    have d0 : μ 0 = r0 := h5 0 (by decide)
    have d1 : μ 1 = r1 := h5 1 (by decide)
    subst d0
    subst d1
    replace hq : q ∈ u_sr44 := hq
    unfold u_sr44 at hq
    simp only [List.mem_cons, List.not_mem_nil, or_false] at hq
    rcases hq with rfl | rfl
    · exact absurd hst (by decide)
    · have hst2 : eW E 0 0 L' f' 85 [(0, .ref (μ 0)), (1, .ref (μ 1)), (2, .int (Int32.ofInt (0 + (1 * ν 0 + 0))))] [] := ?_
      · exact hst2
      try simp only [Int.zero_add, Int.one_mul, Int.add_zero]
      exact k85 K' B' L' f' (ν 0) (ν 1) (ν 2)  h1 h2 (h3.1 0) (h3.1 1) (h3.1 2) (h3.2.2.2.1 0 80 rfl) (h3.2.2.2.1 1 40 rfl) (by simpa only [xv, xvT, Int.zero_add, Int.one_mul, Int.add_zero] using (mokF h1 (show (zkd 80).1 = 1 by decide) (j := 6) rfl (by decide) (h3.2.2.2.2.1 _ (List.mem_of_getElem? (i := 0) rfl)))) (by simpa only [xv, xvT, Int.zero_add, Int.one_mul, Int.add_zero] using (mokF h1 (show (zkd 40).1 = 1 by decide) (j := 6) rfl (by decide) (h3.2.2.2.2.1 _ (List.mem_of_getElem? (i := 1) rfl)))) (by simpa only [xv, xvT, Int.zero_add, Int.one_mul, Int.add_zero] using (mokF h1 (show (zkd 80).1 = 1 by decide) (j := 5) rfl (by decide) (h3.2.2.2.2.1 _ (List.mem_of_getElem? (i := 2) rfl)))) (by simpa only [xv, xvT, Int.zero_add, Int.one_mul, Int.add_zero] using (mokF h1 (show (zkd 40).1 = 1 by decide) (j := 5) rfl (by decide) (h3.2.2.2.2.1 _ (List.mem_of_getElem? (i := 3) rfl))))

/-! im0: from 0 to [8] -/
def w_im0 : TP := ([(0, (2, 0, (0, [])))], [], ([], [], [], [197], [], [], []), [], [])
def u_im0 : List (Nat × TP × EX × Nat × Nat) := [(8, ([(0, (2, 0, (0, [])))], [(2, 1, (0, [])), (2, 2, (0, []))], ([], [], [], [197, 40, 80], [], [], []), [], [(1, 0), (1, 1)]), ((-1), []), 0, 0)]
def D_im0 : DT := (mkD iX11_image fX11 lX11 kX11 kkX11 427 [] (w_im0, [], [], 4, 0, 0, 3) false 1 u_im0)
theorem k_im0 : chkS D_im0 4000 0 0 0 = true := by decide +kernel
theorem s_im0 {X0 : zC0} {E : zCx} (H : ∀ j, j < 427 → CMj X0 j) (hE : zOk E X0 RX11 cX11_image 1 (zrm 4 0 0)) {K : Nat → Nat} {B : Int} {L : List Nat} {f : Nat → va_E} (hh : hok X0.2.2.1 K B L f) {r0 : Nat} (hr0 : r0 ∈ L ∧ K r0 = 197) (k8 : ∀ (K' : Nat → Nat) (B' : Int) (L' : List Nat) (f' : Nat → va_E) (r1 r2 : Nat), hok X0.2.2.1 K' B' L' f' → extC [] K B L f K' B' L' f' → (r0 ∈ L' ∧ K' r0 = 197) → (r1 ∈ L' ∧ K' r1 = 40) → (r2 ∈ L' ∧ K' r2 = 80) → eW E 0 0 L' f' 8 [(0, .ref r0)] [.ref r1, .ref r2]) : eW E 0 0 L f 0 [(0, .ref r0)] [] := by
  obtain ⟨l0, D0, cy0, ax0⟩ := X0
  have hraw : eW E 0 0 L f 0 [(0, .ref r0)] [] := ?_
  · simpa only [Int.zero_add, Int.one_mul, Int.add_zero] using hraw
  refine seg_ok (D := D_im0) (νi := fun i => [].getD i 0) (μi := fun i => [r0].getD i 0) k_im0 hE (mk_ok (ins := iX11_image) jX11_image fX11_ok lX11_ok kX11_ok kkX11_ok H) (by decide) rfl rfl rfl rfl hh ?_ ?_
  · refine ⟨(eok_of (fun i q hq => by cases hq) (fun i _ => rfl)), fa0, fa0, ?_, fa0, fa0, fa0⟩
    · intro i k hk
      match i, hk with
      | 0, hk => cases hk; exact hr0
      | i + 1, hk => cases hk
  · intro q hq hst K' B' L' f' ν μ h1 h2 h3 h4 h5
    have d0 : μ 0 = r0 := h5 0 (by decide)
    subst d0
    replace hq : q ∈ u_im0 := hq
    unfold u_im0 at hq
    simp only [List.mem_cons, List.not_mem_nil, or_false] at hq
    rcases hq with rfl
    · have hst2 : eW E 0 0 L' f' 8 [(0, .ref (μ 0))] [.ref (μ 1), .ref (μ 2)] := ?_
      · exact hst2
      try simp only [Int.zero_add, Int.one_mul, Int.add_zero]
      exact k8 K' B' L' f'  (μ 1) (μ 2) h1 h2 (h3.2.2.2.1 0 197 rfl) (h3.2.2.2.1 1 40 rfl) (h3.2.2.2.1 2 80 rfl)

/-! im11: from 11 to [21] -/
def w_im11 : TP := ([(0, (2, 0, (0, [])))], [], ([], [], [], [197], [], [], []), [], [])
def u_im11 : List (Nat × TP × EX × Nat × Nat) := [(21, ([(0, (2, 0, (0, [])))], [(0, 0, (0, [(1, 0)]))], ([(0, 999)], [], [], [197], [((50, (9, [])), (0, [(1, 0)]))], [], []), [(1, 0, (0, []))], []), ((-1), []), 0, 0)]
def D_im11 : DT := (mkD iX11_image fX11 lX11 kX11 kkX11 427 [] (w_im11, [], [], 4, 0, 0, 3) false 1 u_im11)
theorem k_im11 : chkS D_im11 4000 0 0 11 = true := by decide +kernel
theorem s_im11 {X0 : zC0} {E : zCx} (H : ∀ j, j < 427 → CMj X0 j) (hE : zOk E X0 RX11 cX11_image 1 (zrm 4 0 0)) {K : Nat → Nat} {B : Int} {L : List Nat} {f : Nat → va_E} (hh : hok X0.2.2.1 K B L f) {r0 : Nat} (hr0 : r0 ∈ L ∧ K r0 = 197) (k21 : ∀ (K' : Nat → Nat) (B' : Int) (L' : List Nat) (f' : Nat → va_E) (v0 : Int), hok X0.2.2.1 K' B' L' f' → extC [] K B L f K' B' L' f' → (0 ≤ v0 ∧ v0 ≤ 999) → (r0 ∈ L' ∧ K' r0 = 197) → (∀ b ∈ L', K' b = 50 → gi (f' b) 9 = v0) → eW E 0 0 L' f' 21 [(0, .ref r0)] [.int (Int32.ofInt v0)]) : eW E 0 0 L f 11 [(0, .ref r0)] [] := by
  obtain ⟨l0, D0, cy0, ax0⟩ := X0
  have hraw : eW E 0 0 L f 11 [(0, .ref r0)] [] := ?_
  · simpa only [Int.zero_add, Int.one_mul, Int.add_zero] using hraw
  refine seg_ok (D := D_im11) (νi := fun i => [].getD i 0) (μi := fun i => [r0].getD i 0) k_im11 hE (mk_ok (ins := iX11_image) jX11_image fX11_ok lX11_ok kX11_ok kkX11_ok H) (by decide) rfl rfl rfl rfl hh ?_ ?_
  · refine ⟨(eok_of (fun i q hq => by cases hq) (fun i _ => rfl)), fa0, fa0, ?_, fa0, fa0, fa0⟩
    · intro i k hk
      match i, hk with
      | 0, hk => cases hk; exact hr0
      | i + 1, hk => cases hk
  · intro q hq hst K' B' L' f' ν μ h1 h2 h3 h4 h5
    have d0 : μ 0 = r0 := h5 0 (by decide)
    subst d0
    replace hq : q ∈ u_im11 := hq
    unfold u_im11 at hq
    simp only [List.mem_cons, List.not_mem_nil, or_false] at hq
    rcases hq with rfl
    · have hst2 : eW E 0 0 L' f' 21 [(0, .ref (μ 0))] [.int (Int32.ofInt (0 + (1 * ν 0 + 0)))] := ?_
      · exact hst2
      try simp only [Int.zero_add, Int.one_mul, Int.add_zero]
      exact k21 K' B' L' f' (ν 0)  h1 h2 (h3.1 0) (h3.2.2.2.1 0 197 rfl) (by simpa only [xv, xvT, Int.zero_add, Int.one_mul, Int.add_zero] using (mokF h1 (show (zkd 50).1 = 1 by decide) (j := 9) rfl (by decide) (h3.2.2.2.2.1 _ (List.mem_of_getElem? (i := 0) rfl))))

/-! bk0: from 0 to [8] -/
def w_bk0 : TP := ([(0, (2, 0, (0, [])))], [], ([], [], [], [197], [], [], []), [], [])
def u_bk0 : List (Nat × TP × EX × Nat × Nat) := [(8, ([(0, (2, 0, (0, [])))], [(2, 1, (0, [])), (2, 2, (0, []))], ([], [], [], [197, 80, 40], [], [], []), [], [(1, 0), (1, 1)]), ((-1), []), 0, 0)]
def D_bk0 : DT := (mkD iX11_back fX11 lX11 kX11 kkX11 427 [] (w_bk0, [], [], 4, 0, 0, 3) false 1 u_bk0)
theorem k_bk0 : chkS D_bk0 4000 0 0 0 = true := by decide +kernel
theorem s_bk0 {X0 : zC0} {E : zCx} (H : ∀ j, j < 427 → CMj X0 j) (hE : zOk E X0 RX11 cX11_back 1 (zrm 4 0 0)) {K : Nat → Nat} {B : Int} {L : List Nat} {f : Nat → va_E} (hh : hok X0.2.2.1 K B L f) {r0 : Nat} (hr0 : r0 ∈ L ∧ K r0 = 197) (k8 : ∀ (K' : Nat → Nat) (B' : Int) (L' : List Nat) (f' : Nat → va_E) (r1 r2 : Nat), hok X0.2.2.1 K' B' L' f' → extC [] K B L f K' B' L' f' → (r0 ∈ L' ∧ K' r0 = 197) → (r1 ∈ L' ∧ K' r1 = 80) → (r2 ∈ L' ∧ K' r2 = 40) → eW E 0 0 L' f' 8 [(0, .ref r0)] [.ref r1, .ref r2]) : eW E 0 0 L f 0 [(0, .ref r0)] [] := by
  obtain ⟨l0, D0, cy0, ax0⟩ := X0
  have hraw : eW E 0 0 L f 0 [(0, .ref r0)] [] := ?_
  · simpa only [Int.zero_add, Int.one_mul, Int.add_zero] using hraw
  refine seg_ok (D := D_bk0) (νi := fun i => [].getD i 0) (μi := fun i => [r0].getD i 0) k_bk0 hE (mk_ok (ins := iX11_back) jX11_back fX11_ok lX11_ok kX11_ok kkX11_ok H) (by decide) rfl rfl rfl rfl hh ?_ ?_
  · refine ⟨(eok_of (fun i q hq => by cases hq) (fun i _ => rfl)), fa0, fa0, ?_, fa0, fa0, fa0⟩
    · intro i k hk
      match i, hk with
      | 0, hk => cases hk; exact hr0
      | i + 1, hk => cases hk
  · intro q hq hst K' B' L' f' ν μ h1 h2 h3 h4 h5
    have d0 : μ 0 = r0 := h5 0 (by decide)
    subst d0
    replace hq : q ∈ u_bk0 := hq
    unfold u_bk0 at hq
    simp only [List.mem_cons, List.not_mem_nil, or_false] at hq
    rcases hq with rfl
    · have hst2 : eW E 0 0 L' f' 8 [(0, .ref (μ 0))] [.ref (μ 1), .ref (μ 2)] := ?_
      · exact hst2
      try simp only [Int.zero_add, Int.one_mul, Int.add_zero]
      exact k8 K' B' L' f'  (μ 1) (μ 2) h1 h2 (h3.2.2.2.1 0 197 rfl) (h3.2.2.2.1 1 80 rfl) (h3.2.2.2.1 2 40 rfl)

/-! bk11: from 11 to [21] -/
def w_bk11 : TP := ([(0, (2, 0, (0, [])))], [], ([], [], [], [197], [], [], []), [], [])
def u_bk11 : List (Nat × TP × EX × Nat × Nat) := [(21, ([(0, (2, 0, (0, [])))], [(0, 0, (0, [(1, 0)]))], ([(0, 999)], [], [], [197], [((50, (9, [])), (0, [(1, 0)]))], [], []), [(1, 0, (0, []))], []), ((-1), []), 0, 0)]
def D_bk11 : DT := (mkD iX11_back fX11 lX11 kX11 kkX11 427 [] (w_bk11, [], [], 4, 0, 0, 3) false 1 u_bk11)
theorem k_bk11 : chkS D_bk11 4000 0 0 11 = true := by decide +kernel
theorem s_bk11 {X0 : zC0} {E : zCx} (H : ∀ j, j < 427 → CMj X0 j) (hE : zOk E X0 RX11 cX11_back 1 (zrm 4 0 0)) {K : Nat → Nat} {B : Int} {L : List Nat} {f : Nat → va_E} (hh : hok X0.2.2.1 K B L f) {r0 : Nat} (hr0 : r0 ∈ L ∧ K r0 = 197) (k21 : ∀ (K' : Nat → Nat) (B' : Int) (L' : List Nat) (f' : Nat → va_E) (v0 : Int), hok X0.2.2.1 K' B' L' f' → extC [] K B L f K' B' L' f' → (0 ≤ v0 ∧ v0 ≤ 999) → (r0 ∈ L' ∧ K' r0 = 197) → (∀ b ∈ L', K' b = 50 → gi (f' b) 9 = v0) → eW E 0 0 L' f' 21 [(0, .ref r0)] [.int (Int32.ofInt v0)]) : eW E 0 0 L f 11 [(0, .ref r0)] [] := by
  obtain ⟨l0, D0, cy0, ax0⟩ := X0
  have hraw : eW E 0 0 L f 11 [(0, .ref r0)] [] := ?_
  · simpa only [Int.zero_add, Int.one_mul, Int.add_zero] using hraw
  refine seg_ok (D := D_bk11) (νi := fun i => [].getD i 0) (μi := fun i => [r0].getD i 0) k_bk11 hE (mk_ok (ins := iX11_back) jX11_back fX11_ok lX11_ok kX11_ok kkX11_ok H) (by decide) rfl rfl rfl rfl hh ?_ ?_
  · refine ⟨(eok_of (fun i q hq => by cases hq) (fun i _ => rfl)), fa0, fa0, ?_, fa0, fa0, fa0⟩
    · intro i k hk
      match i, hk with
      | 0, hk => cases hk; exact hr0
      | i + 1, hk => cases hk
  · intro q hq hst K' B' L' f' ν μ h1 h2 h3 h4 h5
    have d0 : μ 0 = r0 := h5 0 (by decide)
    subst d0
    replace hq : q ∈ u_bk11 := hq
    unfold u_bk11 at hq
    simp only [List.mem_cons, List.not_mem_nil, or_false] at hq
    rcases hq with rfl
    · have hst2 : eW E 0 0 L' f' 21 [(0, .ref (μ 0))] [.int (Int32.ofInt (0 + (1 * ν 0 + 0)))] := ?_
      · exact hst2
      try simp only [Int.zero_add, Int.one_mul, Int.add_zero]
      exact k21 K' B' L' f' (ν 0)  h1 h2 (h3.1 0) (h3.2.2.2.1 0 197 rfl) (by simpa only [xv, xvT, Int.zero_add, Int.one_mul, Int.add_zero] using (mokF h1 (show (zkd 50).1 = 1 by decide) (j := 9) rfl (by decide) (h3.2.2.2.2.1 _ (List.mem_of_getElem? (i := 0) rfl))))

/-! jm0: from 0 to [8] -/
def w_jm0 : TP := ([(0, (2, 0, (0, [])))], [], ([], [], [], [200], [], [], []), [], [])
def u_jm0 : List (Nat × TP × EX × Nat × Nat) := [(8, ([(0, (2, 0, (0, [])))], [(2, 1, (0, [])), (2, 2, (0, []))], ([], [], [], [200, 202, 201], [], [], []), [], [(1, 0), (1, 1)]), ((-1), []), 0, 0)]
def D_jm0 : DT := (mkD iX12_image fX12 lX12 kX12 kkX12 427 [] (w_jm0, [], [], 2, 0, 0, 3) false 1 u_jm0)
theorem k_jm0 : chkS D_jm0 4000 0 0 0 = true := by decide +kernel
theorem s_jm0 {X0 : zC0} {E : zCx} (H : ∀ j, j < 427 → CMj X0 j) (hE : zOk E X0 RX12 cX12_image 1 (zrm 2 0 0)) {K : Nat → Nat} {B : Int} {L : List Nat} {f : Nat → va_E} (hh : hok X0.2.2.1 K B L f) {r0 : Nat} (hr0 : r0 ∈ L ∧ K r0 = 200) (k8 : ∀ (K' : Nat → Nat) (B' : Int) (L' : List Nat) (f' : Nat → va_E) (r1 r2 : Nat), hok X0.2.2.1 K' B' L' f' → extC [] K B L f K' B' L' f' → (r0 ∈ L' ∧ K' r0 = 200) → (r1 ∈ L' ∧ K' r1 = 202) → (r2 ∈ L' ∧ K' r2 = 201) → eW E 0 0 L' f' 8 [(0, .ref r0)] [.ref r1, .ref r2]) : eW E 0 0 L f 0 [(0, .ref r0)] [] := by
  obtain ⟨l0, D0, cy0, ax0⟩ := X0
  have hraw : eW E 0 0 L f 0 [(0, .ref r0)] [] := ?_
  · simpa only [Int.zero_add, Int.one_mul, Int.add_zero] using hraw
  refine seg_ok (D := D_jm0) (νi := fun i => [].getD i 0) (μi := fun i => [r0].getD i 0) k_jm0 hE (mk_ok (ins := iX12_image) jX12_image fX12_ok lX12_ok kX12_ok kkX12_ok H) (by decide) rfl rfl rfl rfl hh ?_ ?_
  · refine ⟨(eok_of (fun i q hq => by cases hq) (fun i _ => rfl)), fa0, fa0, ?_, fa0, fa0, fa0⟩
    · intro i k hk
      match i, hk with
      | 0, hk => cases hk; exact hr0
      | i + 1, hk => cases hk
  · intro q hq hst K' B' L' f' ν μ h1 h2 h3 h4 h5
    have d0 : μ 0 = r0 := h5 0 (by decide)
    subst d0
    replace hq : q ∈ u_jm0 := hq
    unfold u_jm0 at hq
    simp only [List.mem_cons, List.not_mem_nil, or_false] at hq
    rcases hq with rfl
    · have hst2 : eW E 0 0 L' f' 8 [(0, .ref (μ 0))] [.ref (μ 1), .ref (μ 2)] := ?_
      · exact hst2
      try simp only [Int.zero_add, Int.one_mul, Int.add_zero]
      exact k8 K' B' L' f'  (μ 1) (μ 2) h1 h2 (h3.2.2.2.1 0 200 rfl) (h3.2.2.2.1 1 202 rfl) (h3.2.2.2.1 2 201 rfl)

/-! jm11: from 11 to [17] -/
def w_jm11 : TP := ([(0, (2, 0, (0, [])))], [], ([], [], [], [200], [], [], []), [], [])
def u_jm11 : List (Nat × TP × EX × Nat × Nat) := [(17, ([(0, (2, 0, (0, [])))], [(0, 0, (0, [(1, 0)]))], ([(0, 999)], [], [], [200], [((201, (2, [])), (0, [(1, 0)]))], [], []), [(1, 0, (0, []))], []), ((-1), []), 0, 0)]
def D_jm11 : DT := (mkD iX12_image fX12 lX12 kX12 kkX12 427 [] (w_jm11, [], [], 2, 0, 0, 3) false 1 u_jm11)
theorem k_jm11 : chkS D_jm11 4000 0 0 11 = true := by decide +kernel
theorem s_jm11 {X0 : zC0} {E : zCx} (H : ∀ j, j < 427 → CMj X0 j) (hE : zOk E X0 RX12 cX12_image 1 (zrm 2 0 0)) {K : Nat → Nat} {B : Int} {L : List Nat} {f : Nat → va_E} (hh : hok X0.2.2.1 K B L f) {r0 : Nat} (hr0 : r0 ∈ L ∧ K r0 = 200) (k17 : ∀ (K' : Nat → Nat) (B' : Int) (L' : List Nat) (f' : Nat → va_E) (v0 : Int), hok X0.2.2.1 K' B' L' f' → extC [] K B L f K' B' L' f' → (0 ≤ v0 ∧ v0 ≤ 999) → (r0 ∈ L' ∧ K' r0 = 200) → (∀ b ∈ L', K' b = 201 → (0 : Int) ≤ 2 ∧ gi (f' b) ((2 : Int)).toNat = v0) → eW E 0 0 L' f' 17 [(0, .ref r0)] [.int (Int32.ofInt v0)]) : eW E 0 0 L f 11 [(0, .ref r0)] [] := by
  obtain ⟨l0, D0, cy0, ax0⟩ := X0
  have hraw : eW E 0 0 L f 11 [(0, .ref r0)] [] := ?_
  · simpa only [Int.zero_add, Int.one_mul, Int.add_zero] using hraw
  refine seg_ok (D := D_jm11) (νi := fun i => [].getD i 0) (μi := fun i => [r0].getD i 0) k_jm11 hE (mk_ok (ins := iX12_image) jX12_image fX12_ok lX12_ok kX12_ok kkX12_ok H) (by decide) rfl rfl rfl rfl hh ?_ ?_
  · refine ⟨(eok_of (fun i q hq => by cases hq) (fun i _ => rfl)), fa0, fa0, ?_, fa0, fa0, fa0⟩
    · intro i k hk
      match i, hk with
      | 0, hk => cases hk; exact hr0
      | i + 1, hk => cases hk
  · intro q hq hst K' B' L' f' ν μ h1 h2 h3 h4 h5
    have d0 : μ 0 = r0 := h5 0 (by decide)
    subst d0
    replace hq : q ∈ u_jm11 := hq
    unfold u_jm11 at hq
    simp only [List.mem_cons, List.not_mem_nil, or_false] at hq
    rcases hq with rfl
    · have hst2 : eW E 0 0 L' f' 17 [(0, .ref (μ 0))] [.int (Int32.ofInt (0 + (1 * ν 0 + 0)))] := ?_
      · exact hst2
      try simp only [Int.zero_add, Int.one_mul, Int.add_zero]
      exact k17 K' B' L' f' (ν 0)  h1 h2 (h3.1 0) (h3.2.2.2.1 0 200 rfl) (by simpa only [xv, xvT, Int.zero_add, Int.one_mul, Int.add_zero] using (mokA h1 (show (zkd 201).1 = 2 by decide) (by decide) (h3.2.2.2.2.1 _ (List.mem_of_getElem? (i := 0) rfl))))

/-! jb0: from 0 to [8] -/
def w_jb0 : TP := ([(0, (2, 0, (0, [])))], [], ([], [], [], [200], [], [], []), [], [])
def u_jb0 : List (Nat × TP × EX × Nat × Nat) := [(8, ([(0, (2, 0, (0, [])))], [(2, 1, (0, [])), (2, 2, (0, []))], ([], [], [], [200, 201, 202], [], [], []), [], [(1, 0), (1, 1)]), ((-1), []), 0, 0)]
def D_jb0 : DT := (mkD iX12_back fX12 lX12 kX12 kkX12 427 [] (w_jb0, [], [], 2, 0, 0, 3) false 1 u_jb0)
theorem k_jb0 : chkS D_jb0 4000 0 0 0 = true := by decide +kernel
theorem s_jb0 {X0 : zC0} {E : zCx} (H : ∀ j, j < 427 → CMj X0 j) (hE : zOk E X0 RX12 cX12_back 1 (zrm 2 0 0)) {K : Nat → Nat} {B : Int} {L : List Nat} {f : Nat → va_E} (hh : hok X0.2.2.1 K B L f) {r0 : Nat} (hr0 : r0 ∈ L ∧ K r0 = 200) (k8 : ∀ (K' : Nat → Nat) (B' : Int) (L' : List Nat) (f' : Nat → va_E) (r1 r2 : Nat), hok X0.2.2.1 K' B' L' f' → extC [] K B L f K' B' L' f' → (r0 ∈ L' ∧ K' r0 = 200) → (r1 ∈ L' ∧ K' r1 = 201) → (r2 ∈ L' ∧ K' r2 = 202) → eW E 0 0 L' f' 8 [(0, .ref r0)] [.ref r1, .ref r2]) : eW E 0 0 L f 0 [(0, .ref r0)] [] := by
  obtain ⟨l0, D0, cy0, ax0⟩ := X0
  have hraw : eW E 0 0 L f 0 [(0, .ref r0)] [] := ?_
  · simpa only [Int.zero_add, Int.one_mul, Int.add_zero] using hraw
  refine seg_ok (D := D_jb0) (νi := fun i => [].getD i 0) (μi := fun i => [r0].getD i 0) k_jb0 hE (mk_ok (ins := iX12_back) jX12_back fX12_ok lX12_ok kX12_ok kkX12_ok H) (by decide) rfl rfl rfl rfl hh ?_ ?_
  · refine ⟨(eok_of (fun i q hq => by cases hq) (fun i _ => rfl)), fa0, fa0, ?_, fa0, fa0, fa0⟩
    · intro i k hk
      match i, hk with
      | 0, hk => cases hk; exact hr0
      | i + 1, hk => cases hk
  · intro q hq hst K' B' L' f' ν μ h1 h2 h3 h4 h5
    have d0 : μ 0 = r0 := h5 0 (by decide)
    subst d0
    replace hq : q ∈ u_jb0 := hq
    unfold u_jb0 at hq
    simp only [List.mem_cons, List.not_mem_nil, or_false] at hq
    rcases hq with rfl
    · have hst2 : eW E 0 0 L' f' 8 [(0, .ref (μ 0))] [.ref (μ 1), .ref (μ 2)] := ?_
      · exact hst2
      try simp only [Int.zero_add, Int.one_mul, Int.add_zero]
      exact k8 K' B' L' f'  (μ 1) (μ 2) h1 h2 (h3.2.2.2.1 0 200 rfl) (h3.2.2.2.1 1 201 rfl) (h3.2.2.2.1 2 202 rfl)

/-! jb11: from 11 to [17] -/
def w_jb11 : TP := ([(0, (2, 0, (0, [])))], [], ([], [], [], [200], [], [], []), [], [])
def u_jb11 : List (Nat × TP × EX × Nat × Nat) := [(17, ([(0, (2, 0, (0, [])))], [(0, 0, (0, [(1, 0)]))], ([(0, 999)], [], [], [200], [((201, (2, [])), (0, [(1, 0)]))], [], []), [(1, 0, (0, []))], []), ((-1), []), 0, 0)]
def D_jb11 : DT := (mkD iX12_back fX12 lX12 kX12 kkX12 427 [] (w_jb11, [], [], 2, 0, 0, 3) false 1 u_jb11)
theorem k_jb11 : chkS D_jb11 4000 0 0 11 = true := by decide +kernel
theorem s_jb11 {X0 : zC0} {E : zCx} (H : ∀ j, j < 427 → CMj X0 j) (hE : zOk E X0 RX12 cX12_back 1 (zrm 2 0 0)) {K : Nat → Nat} {B : Int} {L : List Nat} {f : Nat → va_E} (hh : hok X0.2.2.1 K B L f) {r0 : Nat} (hr0 : r0 ∈ L ∧ K r0 = 200) (k17 : ∀ (K' : Nat → Nat) (B' : Int) (L' : List Nat) (f' : Nat → va_E) (v0 : Int), hok X0.2.2.1 K' B' L' f' → extC [] K B L f K' B' L' f' → (0 ≤ v0 ∧ v0 ≤ 999) → (r0 ∈ L' ∧ K' r0 = 200) → (∀ b ∈ L', K' b = 201 → (0 : Int) ≤ 2 ∧ gi (f' b) ((2 : Int)).toNat = v0) → eW E 0 0 L' f' 17 [(0, .ref r0)] [.int (Int32.ofInt v0)]) : eW E 0 0 L f 11 [(0, .ref r0)] [] := by
  obtain ⟨l0, D0, cy0, ax0⟩ := X0
  have hraw : eW E 0 0 L f 11 [(0, .ref r0)] [] := ?_
  · simpa only [Int.zero_add, Int.one_mul, Int.add_zero] using hraw
  refine seg_ok (D := D_jb11) (νi := fun i => [].getD i 0) (μi := fun i => [r0].getD i 0) k_jb11 hE (mk_ok (ins := iX12_back) jX12_back fX12_ok lX12_ok kX12_ok kkX12_ok H) (by decide) rfl rfl rfl rfl hh ?_ ?_
  · refine ⟨(eok_of (fun i q hq => by cases hq) (fun i _ => rfl)), fa0, fa0, ?_, fa0, fa0, fa0⟩
    · intro i k hk
      match i, hk with
      | 0, hk => cases hk; exact hr0
      | i + 1, hk => cases hk
  · intro q hq hst K' B' L' f' ν μ h1 h2 h3 h4 h5
    have d0 : μ 0 = r0 := h5 0 (by decide)
    subst d0
    replace hq : q ∈ u_jb11 := hq
    unfold u_jb11 at hq
    simp only [List.mem_cons, List.not_mem_nil, or_false] at hq
    rcases hq with rfl
    · have hst2 : eW E 0 0 L' f' 17 [(0, .ref (μ 0))] [.int (Int32.ofInt (0 + (1 * ν 0 + 0)))] := ?_
      · exact hst2
      try simp only [Int.zero_add, Int.one_mul, Int.add_zero]
      exact k17 K' B' L' f' (ν 0)  h1 h2 (h3.1 0) (h3.2.2.2.1 0 200 rfl) (by simpa only [xv, xvT, Int.zero_add, Int.one_mul, Int.add_zero] using (mokA h1 (show (zkd 201).1 = 2 by decide) (by decide) (h3.2.2.2.2.1 _ (List.mem_of_getElem? (i := 0) rfl))))
