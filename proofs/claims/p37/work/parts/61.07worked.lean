/-! wk0: from 0 to [64] -/
def w_wk0 : TP := ([(0, (2, 0, (0, []))), (1, (0, 0, (0, [(1, 0)])))], [], ([(0, 23), (0, 3), (0, 304)], [], [], [200], [((201, (8, [])), (0, [(1, 1)])), ((203, (2, [(4, 0), (705, 1)])), (0, [(1, 2)]))], [], []), [], [])
def u_wk0 : List (Nat × TP × EX × Nat × Nat) := [(64, ([(0, (2, 0, (0, []))), (1, (0, 0, (0, [(1, 0)]))), (2, (0, 0, (1, [(4, 0), (705, 1)]))), (3, (0, 0, (97, [(705, 1)]))), (4, (0, 0, (0, []))), (5, (0, 0, (0, []))), (6, (0, 0, (0, [(1, 3)])))], [], ([(0, 23), (0, 3), (0, 304), ((-2147483648), 2147483647), ((-2147483648), 2147483647)], [], [], [200], [((203, (2, [(705, 1), (4, 0)])), (0, [(1, 2)])), ((200, (35, [])), (0, [(1, 4)])), ((200, (31, [])), ((-1), [])), ((201, (8, [])), (0, [(1, 1)])), ((203, (2, [(4, 0), (705, 1)])), (0, [(1, 3)]))], [], []), [(0, 6, (0, [])), (2, 200, (35, []))], []), ((-1), []), 0, 0)]
def D_wk0 : DT := (mkD iX12_worked fX12 lX12 kX12 kkX12 309 [] (w_wk0, [(200, 31), (200, 35)], [], 6, 0, 0, 3) false 9 u_wk0)
theorem k_wk0 : chkS D_wk0 4000 0 0 0 = true := by decide +kernel
theorem s_wk0 {X0 : zC0} {E : zCx} (H : ∀ j, j < 309 → CMj X0 j) (hE : zOk E X0 RX12 cX12_worked 9 (zrm 6 0 0)) {K : Nat → Nat} {B : Int} {L : List Nat} {f : Nat → va_E} (hh : hok X0.2.2.1 K B L f) {v0 v1 v2 : Int} {r0 : Nat} (hb0 : 0 ≤ v0 ∧ v0 ≤ 23) (hb1 : 0 ≤ v1 ∧ v1 ≤ 3) (hb2 : 0 ≤ v2 ∧ v2 ≤ 304) (hr0 : r0 ∈ L ∧ K r0 = 200) (hm0 : (∀ b ∈ L, K b = 201 → (0 : Int) ≤ 8 ∧ gi (f b) ((8 : Int)).toNat = v1)) (hm1 : (∀ b ∈ L, K b = 203 → (0 : Int) ≤ (2 + (4 * v0 + (705 * v1))) ∧ gi (f b) (((2 + (4 * v0 + (705 * v1))) : Int)).toNat = v2)) (k64 : ∀ (K' : Nat → Nat) (B' : Int) (L' : List Nat) (f' : Nat → va_E) (v3 v4 : Int), hok X0.2.2.1 K' B' L' f' → extC [(200, 31), (200, 35)] K B L f K' B' L' f' → (0 ≤ v0 ∧ v0 ≤ 23) → (0 ≤ v1 ∧ v1 ≤ 3) → (0 ≤ v2 ∧ v2 ≤ 304) → ((-2147483648) ≤ v3 ∧ v3 ≤ 2147483647) → ((-2147483648) ≤ v4 ∧ v4 ≤ 2147483647) → (r0 ∈ L' ∧ K' r0 = 200) → (∀ b ∈ L', K' b = 203 → (0 : Int) ≤ (2 + (705 * v1 + (4 * v0))) ∧ gi (f' b) (((2 + (705 * v1 + (4 * v0))) : Int)).toNat = v2) → (∀ b ∈ L', K' b = 200 → gi (f' b) 35 = v4) → (∀ b ∈ L', K' b = 200 → gi (f' b) 31 = (-1)) → (∀ b ∈ L', K' b = 201 → (0 : Int) ≤ 8 ∧ gi (f' b) ((8 : Int)).toNat = v1) → (∀ b ∈ L', K' b = 203 → (0 : Int) ≤ (2 + (4 * v0 + (705 * v1))) ∧ gi (f' b) (((2 + (4 * v0 + (705 * v1))) : Int)).toNat = v3) → eW E 0 0 L' f' 64 [(0, .ref r0), (1, .int (Int32.ofInt v0)), (2, .int (Int32.ofInt (1 + (4 * v0 + (705 * v1))))), (3, .int (Int32.ofInt (97 + (705 * v1)))), (4, .int (Int32.ofInt 0)), (5, .int (Int32.ofInt 0)), (6, .int (Int32.ofInt v3))] []) : eW E 0 0 L f 0 [(0, .ref r0), (1, .int (Int32.ofInt v0))] [] := by
  obtain ⟨l0, D0, cy0, ax0⟩ := X0
  have hraw : eW E 0 0 L f 0 [(0, .ref r0), (1, .int (Int32.ofInt (0 + (1 * v0 + 0))))] [] := ?_
  · simpa only [Int.zero_add, Int.one_mul, Int.add_zero] using hraw
  have rm0 : (∀ b ∈ L, K b = 201 → (0 : Int) ≤ (8 + 0) ∧ gi (f b) (((8 + 0) : Int)).toNat = (0 + (1 * v1 + 0))) := by simpa only [Int.zero_add, Int.one_mul, Int.add_zero] using hm0
  have rm1 : (∀ b ∈ L, K b = 203 → (0 : Int) ≤ (2 + (4 * v0 + (705 * v1 + 0))) ∧ gi (f b) (((2 + (4 * v0 + (705 * v1 + 0))) : Int)).toNat = (0 + (1 * v2 + 0))) := by simpa only [Int.zero_add, Int.one_mul, Int.add_zero] using hm1
  refine seg_ok (D := D_wk0) (νi := fun i => [v0, v1, v2].getD i 0) (μi := fun i => [r0].getD i 0) k_wk0 hE (mk_ok (ins := iX12_worked) jX12_worked fX12_ok lX12_ok kX12_ok kkX12_ok H) (by decide) rfl rfl rfl rfl hh ?_ ?_
  · refine ⟨(eok_of (fun i q hq => ?_) (fun i hi => ?_)), fa0, fa0, ?_, (fa_cons (Amok hh (show (zkd 201).1 = 2 by decide) (by decide) rm0) (fa_cons (Amok hh (show (zkd 203).1 = 2 by decide) (by decide) rm1) fa0)), fa0, fa0⟩
    · match i, hq with
      | 0, hq => cases hq; exact hb0
      | 1, hq => cases hq; exact hb1
      | 2, hq => cases hq; exact hb2
      | i + 3, hq => cases hq
    · match i, hi with
      | 0, hi => exact absurd hi (by decide)
      | 1, hi => exact absurd hi (by decide)
      | 2, hi => exact absurd hi (by decide)
      | i + 3, _ => rfl
    · intro i k hk
      match i, hk with
      | 0, hk => cases hk; exact hr0
      | i + 1, hk => cases hk
  · intro q hq hst K' B' L' f' ν μ h1 h2 h3 h4 h5
    have e0 : ν 0 = v0 := h4 0 (by decide)
    have e1 : ν 1 = v1 := h4 1 (by decide)
    have e2 : ν 2 = v2 := h4 2 (by decide)
    have d0 : μ 0 = r0 := h5 0 (by decide)
    subst e0
    subst e1
    subst e2
    subst d0
    replace hq : q ∈ u_wk0 := hq
    unfold u_wk0 at hq
    simp only [List.mem_cons, List.not_mem_nil, or_false] at hq
    rcases hq with rfl
    · have hst2 : eW E 0 0 L' f' 64 [(0, .ref (μ 0)), (1, .int (Int32.ofInt (0 + (1 * ν 0 + 0)))), (2, .int (Int32.ofInt (1 + (4 * ν 0 + (705 * ν 1 + 0))))), (3, .int (Int32.ofInt (97 + (705 * ν 1 + 0)))), (4, .int (Int32.ofInt (0 + 0))), (5, .int (Int32.ofInt (0 + 0))), (6, .int (Int32.ofInt (0 + (1 * ν 3 + 0))))] [] := ?_
      · exact hst2
      try simp only [Int.zero_add, Int.one_mul, Int.add_zero]
      exact k64 K' B' L' f' (ν 3) (ν 4)  h1 h2 (h3.1 0) (h3.1 1) (h3.1 2) (h3.1 3) (h3.1 4) (h3.2.2.2.1 0 200 rfl) (by simpa only [xv, xvT, Int.zero_add, Int.one_mul, Int.add_zero] using (mokA h1 (show (zkd 203).1 = 2 by decide) (by decide) (h3.2.2.2.2.1 _ (List.mem_of_getElem? (i := 0) rfl)))) (by simpa only [xv, xvT, Int.zero_add, Int.one_mul, Int.add_zero] using (mokF h1 (show (zkd 200).1 = 1 by decide) (j := 35) rfl (by decide) (h3.2.2.2.2.1 _ (List.mem_of_getElem? (i := 1) rfl)))) (by simpa only [xv, xvT, Int.zero_add, Int.one_mul, Int.add_zero] using (mokF h1 (show (zkd 200).1 = 1 by decide) (j := 31) rfl (by decide) (h3.2.2.2.2.1 _ (List.mem_of_getElem? (i := 2) rfl)))) (by simpa only [xv, xvT, Int.zero_add, Int.one_mul, Int.add_zero] using (mokA h1 (show (zkd 201).1 = 2 by decide) (by decide) (h3.2.2.2.2.1 _ (List.mem_of_getElem? (i := 3) rfl)))) (by simpa only [xv, xvT, Int.zero_add, Int.one_mul, Int.add_zero] using (mokA h1 (show (zkd 203).1 = 2 by decide) (by decide) (h3.2.2.2.2.1 _ (List.mem_of_getElem? (i := 4) rfl))))

/-! wkN: from 64 to [64] -/
def w_wkN : TP := ([(0, (2, 0, (0, []))), (1, (0, 0, (0, [(1, 0)]))), (2, (0, 0, (0, [(1, 1)]))), (3, (0, 0, (0, [(1, 2)]))), (4, (0, 0, (0, [(1, 3)]))), (5, (0, 0, (0, [(1, 4)]))), (6, (0, 0, (0, [(1, 5)])))], [], ([(0, 23), (1, 2300), (97, 2212), (0, 329), (0, 330), (0, 303), ((-2147483648), 2147483647), ((-2147483648), 2147483647)], [((-1), [(1, 6), ((-1), 5)])], [], [200], [((203, (2, [(1, 1)])), (0, [(1, 6)])), ((203, (0, [(2, 5), (1, 2)])), (0, [])), ((203, (1, [(1, 2), (2, 5)])), (0, [(1, 7)]))], [], []), [], [])
def u_wkN : List (Nat × TP × EX × Nat × Nat) := [(64, ([(0, (2, 0, (0, []))), (1, (0, 0, (0, [(1, 0)]))), (2, (0, 0, (0, [(1, 1)]))), (3, (0, 0, (0, [(1, 2)]))), (4, (0, 0, (1, [(1, 3)]))), (5, (0, 0, (0, [(1, 4)]))), (6, (0, 0, (1, [(1, 5)]))), (7, (0, 0, (0, []))), (8, (0, 0, (0, [(1, 7)])))], [], ([(0, 23), (1, 2300), (97, 2212), (0, 329), (0, 330), (0, 303), (1, 2147483647), ((-2147483648), 2147483647)], [((-1), [((-1), 5), (1, 6)])], [], [200], [((203, (2, [(1, 1)])), (0, [(1, 6)]))], [], []), [], []), ((-1), []), 0, 0)]
def D_wkN : DT := (mkD iX12_worked fX12 lX12 kX12 kkX12 309 [] (w_wkN, [(208, 0)], [], 6, 0, 0, 3) false 9 u_wkN)
theorem k_wkN : chkS D_wkN 4000 0 0 64 = true := by decide +kernel
theorem s_wkN {X0 : zC0} {E : zCx} (H : ∀ j, j < 309 → CMj X0 j) (hE : zOk E X0 RX12 cX12_worked 9 (zrm 6 0 0)) {K : Nat → Nat} {B : Int} {L : List Nat} {f : Nat → va_E} (hh : hok X0.2.2.1 K B L f) {v0 v1 v2 v3 v4 v5 v6 v7 : Int} {r0 : Nat} (hb0 : 0 ≤ v0 ∧ v0 ≤ 23) (hb1 : 1 ≤ v1 ∧ v1 ≤ 2300) (hb2 : 97 ≤ v2 ∧ v2 ≤ 2212) (hb3 : 0 ≤ v3 ∧ v3 ≤ 329) (hb4 : 0 ≤ v4 ∧ v4 ≤ 330) (hb5 : 0 ≤ v5 ∧ v5 ≤ 303) (hb6 : (-2147483648) ≤ v6 ∧ v6 ≤ 2147483647) (hb7 : (-2147483648) ≤ v7 ∧ v7 ≤ 2147483647) (hq0 : 0 ≤ ((-1) + (v6 + ((-1) * v5)))) (hr0 : r0 ∈ L ∧ K r0 = 200) (hm0 : (∀ b ∈ L, K b = 203 → (0 : Int) ≤ (2 + v1) ∧ gi (f b) (((2 + v1) : Int)).toNat = v6)) (hm1 : (∀ b ∈ L, K b = 203 → (0 : Int) ≤ (2 * v5 + v2) ∧ gi (f b) (((2 * v5 + v2) : Int)).toNat = 0)) (hm2 : (∀ b ∈ L, K b = 203 → (0 : Int) ≤ (1 + (v2 + (2 * v5))) ∧ gi (f b) (((1 + (v2 + (2 * v5))) : Int)).toNat = v7)) (k64 : ∀ (K' : Nat → Nat) (B' : Int) (L' : List Nat) (f' : Nat → va_E), hok X0.2.2.1 K' B' L' f' → extC [(208, 0)] K B L f K' B' L' f' → (0 ≤ v0 ∧ v0 ≤ 23) → (1 ≤ v1 ∧ v1 ≤ 2300) → (97 ≤ v2 ∧ v2 ≤ 2212) → (0 ≤ v3 ∧ v3 ≤ 329) → (0 ≤ v4 ∧ v4 ≤ 330) → (0 ≤ v5 ∧ v5 ≤ 303) → (1 ≤ v6 ∧ v6 ≤ 2147483647) → ((-2147483648) ≤ v7 ∧ v7 ≤ 2147483647) → (0 ≤ ((-1) + ((-1) * v5 + v6))) → (r0 ∈ L' ∧ K' r0 = 200) → (∀ b ∈ L', K' b = 203 → (0 : Int) ≤ (2 + v1) ∧ gi (f' b) (((2 + v1) : Int)).toNat = v6) → eW E 0 0 L' f' 64 [(0, .ref r0), (1, .int (Int32.ofInt v0)), (2, .int (Int32.ofInt v1)), (3, .int (Int32.ofInt v2)), (4, .int (Int32.ofInt (1 + v3))), (5, .int (Int32.ofInt v4)), (6, .int (Int32.ofInt (1 + v5))), (7, .int (Int32.ofInt 0)), (8, .int (Int32.ofInt v7))] []) : eW E 0 0 L f 64 [(0, .ref r0), (1, .int (Int32.ofInt v0)), (2, .int (Int32.ofInt v1)), (3, .int (Int32.ofInt v2)), (4, .int (Int32.ofInt v3)), (5, .int (Int32.ofInt v4)), (6, .int (Int32.ofInt v5))] [] := by
  obtain ⟨l0, D0, cy0, ax0⟩ := X0
  have hraw : eW E 0 0 L f 64 [(0, .ref r0), (1, .int (Int32.ofInt (0 + (1 * v0 + 0)))), (2, .int (Int32.ofInt (0 + (1 * v1 + 0)))), (3, .int (Int32.ofInt (0 + (1 * v2 + 0)))), (4, .int (Int32.ofInt (0 + (1 * v3 + 0)))), (5, .int (Int32.ofInt (0 + (1 * v4 + 0)))), (6, .int (Int32.ofInt (0 + (1 * v5 + 0))))] [] := ?_
  · simpa only [Int.zero_add, Int.one_mul, Int.add_zero] using hraw
  have rq0 : 0 ≤ ((-1) + (1 * v6 + ((-1) * v5 + 0))) := by simpa only [Int.zero_add, Int.one_mul, Int.add_zero] using hq0
  have rm0 : (∀ b ∈ L, K b = 203 → (0 : Int) ≤ (2 + (1 * v1 + 0)) ∧ gi (f b) (((2 + (1 * v1 + 0)) : Int)).toNat = (0 + (1 * v6 + 0))) := by simpa only [Int.zero_add, Int.one_mul, Int.add_zero] using hm0
  have rm1 : (∀ b ∈ L, K b = 203 → (0 : Int) ≤ (0 + (2 * v5 + (1 * v2 + 0))) ∧ gi (f b) (((0 + (2 * v5 + (1 * v2 + 0))) : Int)).toNat = (0 + 0)) := by simpa only [Int.zero_add, Int.one_mul, Int.add_zero] using hm1
  have rm2 : (∀ b ∈ L, K b = 203 → (0 : Int) ≤ (1 + (1 * v2 + (2 * v5 + 0))) ∧ gi (f b) (((1 + (1 * v2 + (2 * v5 + 0))) : Int)).toNat = (0 + (1 * v7 + 0))) := by simpa only [Int.zero_add, Int.one_mul, Int.add_zero] using hm2
  refine seg_ok (D := D_wkN) (νi := fun i => [v0, v1, v2, v3, v4, v5, v6, v7].getD i 0) (μi := fun i => [r0].getD i 0) k_wkN hE (mk_ok (ins := iX12_worked) jX12_worked fX12_ok lX12_ok kX12_ok kkX12_ok H) (by decide) rfl rfl rfl rfl hh ?_ ?_
  · refine ⟨(eok_of (fun i q hq => ?_) (fun i hi => ?_)), (fa_cons (rq0) fa0), fa0, ?_, (fa_cons (Amok hh (show (zkd 203).1 = 2 by decide) (by decide) rm0) (fa_cons (Amok hh (show (zkd 203).1 = 2 by decide) (by decide) rm1) (fa_cons (Amok hh (show (zkd 203).1 = 2 by decide) (by decide) rm2) fa0))), fa0, fa0⟩
    · match i, hq with
      | 0, hq => cases hq; exact hb0
      | 1, hq => cases hq; exact hb1
      | 2, hq => cases hq; exact hb2
      | 3, hq => cases hq; exact hb3
      | 4, hq => cases hq; exact hb4
      | 5, hq => cases hq; exact hb5
      | 6, hq => cases hq; exact hb6
      | 7, hq => cases hq; exact hb7
      | i + 8, hq => cases hq
    · match i, hi with
      | 0, hi => exact absurd hi (by decide)
      | 1, hi => exact absurd hi (by decide)
      | 2, hi => exact absurd hi (by decide)
      | 3, hi => exact absurd hi (by decide)
      | 4, hi => exact absurd hi (by decide)
      | 5, hi => exact absurd hi (by decide)
      | 6, hi => exact absurd hi (by decide)
      | 7, hi => exact absurd hi (by decide)
      | i + 8, _ => rfl
    · intro i k hk
      match i, hk with
      | 0, hk => cases hk; exact hr0
      | i + 1, hk => cases hk
  · intro q hq hst K' B' L' f' ν μ h1 h2 h3 h4 h5
    have e0 : ν 0 = v0 := h4 0 (by decide)
    have e1 : ν 1 = v1 := h4 1 (by decide)
    have e2 : ν 2 = v2 := h4 2 (by decide)
    have e3 : ν 3 = v3 := h4 3 (by decide)
    have e4 : ν 4 = v4 := h4 4 (by decide)
    have e5 : ν 5 = v5 := h4 5 (by decide)
    have e6 : ν 6 = v6 := h4 6 (by decide)
    have e7 : ν 7 = v7 := h4 7 (by decide)
    have d0 : μ 0 = r0 := h5 0 (by decide)
    subst e0
    subst e1
    subst e2
    subst e3
    subst e4
    subst e5
    subst e6
    subst e7
    subst d0
    replace hq : q ∈ u_wkN := hq
    unfold u_wkN at hq
    simp only [List.mem_cons, List.not_mem_nil, or_false] at hq
    rcases hq with rfl
    · have hst2 : eW E 0 0 L' f' 64 [(0, .ref (μ 0)), (1, .int (Int32.ofInt (0 + (1 * ν 0 + 0)))), (2, .int (Int32.ofInt (0 + (1 * ν 1 + 0)))), (3, .int (Int32.ofInt (0 + (1 * ν 2 + 0)))), (4, .int (Int32.ofInt (1 + (1 * ν 3 + 0)))), (5, .int (Int32.ofInt (0 + (1 * ν 4 + 0)))), (6, .int (Int32.ofInt (1 + (1 * ν 5 + 0)))), (7, .int (Int32.ofInt (0 + 0))), (8, .int (Int32.ofInt (0 + (1 * ν 7 + 0))))] [] := ?_
      · exact hst2
      try simp only [Int.zero_add, Int.one_mul, Int.add_zero]
      exact k64 K' B' L' f'   h1 h2 (h3.1 0) (h3.1 1) (h3.1 2) (h3.1 3) (h3.1 4) (h3.1 5) (h3.1 6) (h3.1 7) (by simpa only [xv, xvT, Int.zero_add, Int.one_mul, Int.add_zero] using (h3.2.1 _ (List.mem_of_getElem? (i := 0) rfl))) (h3.2.2.2.1 0 200 rfl) (by simpa only [xv, xvT, Int.zero_add, Int.one_mul, Int.add_zero] using (mokA h1 (show (zkd 203).1 = 2 by decide) (by decide) (h3.2.2.2.2.1 _ (List.mem_of_getElem? (i := 0) rfl))))

/-! wkM: from 64 to [64] -/
def w_wkM : TP := ([(0, (2, 0, (0, []))), (1, (0, 0, (0, [(1, 0)]))), (2, (0, 0, (0, [(1, 1)]))), (3, (0, 0, (0, [(1, 2)]))), (4, (0, 0, (0, [(1, 3)]))), (5, (0, 0, (0, [(1, 4)]))), (6, (0, 0, (0, [(1, 5)])))], [], ([(0, 23), (1, 2300), (97, 2212), (0, 329), (0, 330), (0, 303), ((-2147483648), 2147483647), (0, 10)], [((-1), [(1, 6), ((-1), 5)])], [], [200], [((203, (2, [(1, 1)])), (0, [(1, 6)])), ((203, (0, [(2, 5), (1, 2)])), (1, [])), ((203, (1, [(1, 2), (2, 5)])), (0, [(1, 7)]))], [], []), [], [])
def u_wkM : List (Nat × TP × EX × Nat × Nat) := [(64, ([(0, (2, 0, (0, []))), (1, (0, 0, (0, [(1, 0)]))), (2, (0, 0, (0, [(1, 1)]))), (3, (0, 0, (0, [(1, 2)]))), (4, (0, 0, (1, [(1, 3)]))), (5, (0, 0, (0, [(1, 4)]))), (6, (0, 0, (1, [(1, 5)]))), (7, (0, 0, (1, []))), (8, (0, 0, (0, [(1, 7)])))], [], ([(0, 23), (1, 2300), (97, 2212), (0, 329), (0, 330), (0, 303), (1, 2147483647), (0, 10), ((-2147483648), 2147483647)], [((-1), [((-1), 5), (1, 6)])], [], [200], [((207, (0, [(1, 7)])), (0, [(1, 8)])), ((203, (2, [(1, 1)])), (0, [(1, 6)]))], [], []), [(2, 207, (0, [(1, 7)]))], []), ((-1), []), 0, 0)]
def D_wkM : DT := (mkD iX12_worked fX12 lX12 kX12 kkX12 309 [] (w_wkM, [(208, 0)], [], 6, 0, 0, 3) false 9 u_wkM)
theorem k_wkM : chkS D_wkM 4000 0 0 64 = true := by decide +kernel
theorem s_wkM {X0 : zC0} {E : zCx} (H : ∀ j, j < 309 → CMj X0 j) (hE : zOk E X0 RX12 cX12_worked 9 (zrm 6 0 0)) {K : Nat → Nat} {B : Int} {L : List Nat} {f : Nat → va_E} (hh : hok X0.2.2.1 K B L f) {v0 v1 v2 v3 v4 v5 v6 v7 : Int} {r0 : Nat} (hb0 : 0 ≤ v0 ∧ v0 ≤ 23) (hb1 : 1 ≤ v1 ∧ v1 ≤ 2300) (hb2 : 97 ≤ v2 ∧ v2 ≤ 2212) (hb3 : 0 ≤ v3 ∧ v3 ≤ 329) (hb4 : 0 ≤ v4 ∧ v4 ≤ 330) (hb5 : 0 ≤ v5 ∧ v5 ≤ 303) (hb6 : (-2147483648) ≤ v6 ∧ v6 ≤ 2147483647) (hb7 : 0 ≤ v7 ∧ v7 ≤ 10) (hq0 : 0 ≤ ((-1) + (v6 + ((-1) * v5)))) (hr0 : r0 ∈ L ∧ K r0 = 200) (hm0 : (∀ b ∈ L, K b = 203 → (0 : Int) ≤ (2 + v1) ∧ gi (f b) (((2 + v1) : Int)).toNat = v6)) (hm1 : (∀ b ∈ L, K b = 203 → (0 : Int) ≤ (2 * v5 + v2) ∧ gi (f b) (((2 * v5 + v2) : Int)).toNat = 1)) (hm2 : (∀ b ∈ L, K b = 203 → (0 : Int) ≤ (1 + (v2 + (2 * v5))) ∧ gi (f b) (((1 + (v2 + (2 * v5))) : Int)).toNat = v7)) (k64 : ∀ (K' : Nat → Nat) (B' : Int) (L' : List Nat) (f' : Nat → va_E) (v8 : Int), hok X0.2.2.1 K' B' L' f' → extC [(208, 0)] K B L f K' B' L' f' → (0 ≤ v0 ∧ v0 ≤ 23) → (1 ≤ v1 ∧ v1 ≤ 2300) → (97 ≤ v2 ∧ v2 ≤ 2212) → (0 ≤ v3 ∧ v3 ≤ 329) → (0 ≤ v4 ∧ v4 ≤ 330) → (0 ≤ v5 ∧ v5 ≤ 303) → (1 ≤ v6 ∧ v6 ≤ 2147483647) → (0 ≤ v7 ∧ v7 ≤ 10) → ((-2147483648) ≤ v8 ∧ v8 ≤ 2147483647) → (0 ≤ ((-1) + ((-1) * v5 + v6))) → (r0 ∈ L' ∧ K' r0 = 200) → (∀ b ∈ L', K' b = 207 → (0 : Int) ≤ v7 ∧ gi (f' b) ((v7 : Int)).toNat = v8) → (∀ b ∈ L', K' b = 203 → (0 : Int) ≤ (2 + v1) ∧ gi (f' b) (((2 + v1) : Int)).toNat = v6) → eW E 0 0 L' f' 64 [(0, .ref r0), (1, .int (Int32.ofInt v0)), (2, .int (Int32.ofInt v1)), (3, .int (Int32.ofInt v2)), (4, .int (Int32.ofInt (1 + v3))), (5, .int (Int32.ofInt v4)), (6, .int (Int32.ofInt (1 + v5))), (7, .int (Int32.ofInt 1)), (8, .int (Int32.ofInt v7))] []) : eW E 0 0 L f 64 [(0, .ref r0), (1, .int (Int32.ofInt v0)), (2, .int (Int32.ofInt v1)), (3, .int (Int32.ofInt v2)), (4, .int (Int32.ofInt v3)), (5, .int (Int32.ofInt v4)), (6, .int (Int32.ofInt v5))] [] := by
  obtain ⟨l0, D0, cy0, ax0⟩ := X0
  have hraw : eW E 0 0 L f 64 [(0, .ref r0), (1, .int (Int32.ofInt (0 + (1 * v0 + 0)))), (2, .int (Int32.ofInt (0 + (1 * v1 + 0)))), (3, .int (Int32.ofInt (0 + (1 * v2 + 0)))), (4, .int (Int32.ofInt (0 + (1 * v3 + 0)))), (5, .int (Int32.ofInt (0 + (1 * v4 + 0)))), (6, .int (Int32.ofInt (0 + (1 * v5 + 0))))] [] := ?_
  · simpa only [Int.zero_add, Int.one_mul, Int.add_zero] using hraw
  have rq0 : 0 ≤ ((-1) + (1 * v6 + ((-1) * v5 + 0))) := by simpa only [Int.zero_add, Int.one_mul, Int.add_zero] using hq0
  have rm0 : (∀ b ∈ L, K b = 203 → (0 : Int) ≤ (2 + (1 * v1 + 0)) ∧ gi (f b) (((2 + (1 * v1 + 0)) : Int)).toNat = (0 + (1 * v6 + 0))) := by simpa only [Int.zero_add, Int.one_mul, Int.add_zero] using hm0
  have rm1 : (∀ b ∈ L, K b = 203 → (0 : Int) ≤ (0 + (2 * v5 + (1 * v2 + 0))) ∧ gi (f b) (((0 + (2 * v5 + (1 * v2 + 0))) : Int)).toNat = (1 + 0)) := by simpa only [Int.zero_add, Int.one_mul, Int.add_zero] using hm1
  have rm2 : (∀ b ∈ L, K b = 203 → (0 : Int) ≤ (1 + (1 * v2 + (2 * v5 + 0))) ∧ gi (f b) (((1 + (1 * v2 + (2 * v5 + 0))) : Int)).toNat = (0 + (1 * v7 + 0))) := by simpa only [Int.zero_add, Int.one_mul, Int.add_zero] using hm2
  refine seg_ok (D := D_wkM) (νi := fun i => [v0, v1, v2, v3, v4, v5, v6, v7].getD i 0) (μi := fun i => [r0].getD i 0) k_wkM hE (mk_ok (ins := iX12_worked) jX12_worked fX12_ok lX12_ok kX12_ok kkX12_ok H) (by decide) rfl rfl rfl rfl hh ?_ ?_
  · refine ⟨(eok_of (fun i q hq => ?_) (fun i hi => ?_)), (fa_cons (rq0) fa0), fa0, ?_, (fa_cons (Amok hh (show (zkd 203).1 = 2 by decide) (by decide) rm0) (fa_cons (Amok hh (show (zkd 203).1 = 2 by decide) (by decide) rm1) (fa_cons (Amok hh (show (zkd 203).1 = 2 by decide) (by decide) rm2) fa0))), fa0, fa0⟩
    · match i, hq with
      | 0, hq => cases hq; exact hb0
      | 1, hq => cases hq; exact hb1
      | 2, hq => cases hq; exact hb2
      | 3, hq => cases hq; exact hb3
      | 4, hq => cases hq; exact hb4
      | 5, hq => cases hq; exact hb5
      | 6, hq => cases hq; exact hb6
      | 7, hq => cases hq; exact hb7
      | i + 8, hq => cases hq
    · match i, hi with
      | 0, hi => exact absurd hi (by decide)
      | 1, hi => exact absurd hi (by decide)
      | 2, hi => exact absurd hi (by decide)
      | 3, hi => exact absurd hi (by decide)
      | 4, hi => exact absurd hi (by decide)
      | 5, hi => exact absurd hi (by decide)
      | 6, hi => exact absurd hi (by decide)
      | 7, hi => exact absurd hi (by decide)
      | i + 8, _ => rfl
    · intro i k hk
      match i, hk with
      | 0, hk => cases hk; exact hr0
      | i + 1, hk => cases hk
  · intro q hq hst K' B' L' f' ν μ h1 h2 h3 h4 h5
    have e0 : ν 0 = v0 := h4 0 (by decide)
    have e1 : ν 1 = v1 := h4 1 (by decide)
    have e2 : ν 2 = v2 := h4 2 (by decide)
    have e3 : ν 3 = v3 := h4 3 (by decide)
    have e4 : ν 4 = v4 := h4 4 (by decide)
    have e5 : ν 5 = v5 := h4 5 (by decide)
    have e6 : ν 6 = v6 := h4 6 (by decide)
    have e7 : ν 7 = v7 := h4 7 (by decide)
    have d0 : μ 0 = r0 := h5 0 (by decide)
    subst e0
    subst e1
    subst e2
    subst e3
    subst e4
    subst e5
    subst e6
    subst e7
    subst d0
    replace hq : q ∈ u_wkM := hq
    unfold u_wkM at hq
    simp only [List.mem_cons, List.not_mem_nil, or_false] at hq
    rcases hq with rfl
    · have hst2 : eW E 0 0 L' f' 64 [(0, .ref (μ 0)), (1, .int (Int32.ofInt (0 + (1 * ν 0 + 0)))), (2, .int (Int32.ofInt (0 + (1 * ν 1 + 0)))), (3, .int (Int32.ofInt (0 + (1 * ν 2 + 0)))), (4, .int (Int32.ofInt (1 + (1 * ν 3 + 0)))), (5, .int (Int32.ofInt (0 + (1 * ν 4 + 0)))), (6, .int (Int32.ofInt (1 + (1 * ν 5 + 0)))), (7, .int (Int32.ofInt (1 + 0))), (8, .int (Int32.ofInt (0 + (1 * ν 7 + 0))))] [] := ?_
      · exact hst2
      try simp only [Int.zero_add, Int.one_mul, Int.add_zero]
      exact k64 K' B' L' f' (ν 8)  h1 h2 (h3.1 0) (h3.1 1) (h3.1 2) (h3.1 3) (h3.1 4) (h3.1 5) (h3.1 6) (h3.1 7) (h3.1 8) (by simpa only [xv, xvT, Int.zero_add, Int.one_mul, Int.add_zero] using (h3.2.1 _ (List.mem_of_getElem? (i := 0) rfl))) (h3.2.2.2.1 0 200 rfl) (by simpa only [xv, xvT, Int.zero_add, Int.one_mul, Int.add_zero] using (mokA h1 (show (zkd 207).1 = 2 by decide) (by decide) (h3.2.2.2.2.1 _ (List.mem_of_getElem? (i := 0) rfl)))) (by simpa only [xv, xvT, Int.zero_add, Int.one_mul, Int.add_zero] using (mokA h1 (show (zkd 203).1 = 2 by decide) (by decide) (h3.2.2.2.2.1 _ (List.mem_of_getElem? (i := 1) rfl))))

/-! wk2: from 64 to [64] -/
def w_wk2 : TP := ([(0, (2, 0, (0, []))), (1, (0, 0, (0, [(1, 0)]))), (2, (0, 0, (0, [(1, 1)]))), (3, (0, 0, (0, [(1, 2)]))), (4, (0, 0, (0, [(1, 3)]))), (5, (0, 0, (0, [(1, 4)]))), (6, (0, 0, (0, [(1, 5)])))], [], ([(0, 23), (1, 2300), (97, 2212), (1, 330), (0, 330), (0, 303), ((-2147483648), 2147483647), ((-2147483648), 2147483647)], [((-1), [(1, 6), ((-1), 5)])], [], [200], [((203, (2, [(1, 1)])), (0, [(1, 6)])), ((203, (0, [(2, 5), (1, 2)])), (2, [])), ((203, (1, [(1, 2), (2, 5)])), (0, [(1, 7)]))], [], []), [], [])
def u_wk2 : List (Nat × TP × EX × Nat × Nat) := [(64, ([(0, (2, 0, (0, []))), (1, (0, 0, (0, [(1, 0)]))), (2, (0, 0, (0, [(1, 1)]))), (3, (0, 0, (0, [(1, 2)]))), (4, (0, 0, (0, [(1, 3)]))), (5, (0, 0, (0, [(1, 4)]))), (6, (0, 0, (1, [(1, 5)]))), (7, (0, 0, (2, []))), (8, (0, 0, (0, [(1, 7)])))], [], ([(0, 23), (1, 2300), (97, 2212), (1, 330), (0, 330), (0, 303), (1, 2147483647), ((-2147483648), 2147483647)], [((-1), [((-1), 5), (1, 6)])], [], [200], [((203, (2, [(1, 1)])), (0, [(1, 6)]))], [], []), [], []), ((-1), []), 0, 0)]
def D_wk2 : DT := (mkD iX12_worked fX12 lX12 kX12 kkX12 309 [] (w_wk2, [(208, 0)], [], 6, 0, 0, 3) false 9 u_wk2)
theorem k_wk2 : chkS D_wk2 4000 0 0 64 = true := by decide +kernel
theorem s_wk2 {X0 : zC0} {E : zCx} (H : ∀ j, j < 309 → CMj X0 j) (hE : zOk E X0 RX12 cX12_worked 9 (zrm 6 0 0)) {K : Nat → Nat} {B : Int} {L : List Nat} {f : Nat → va_E} (hh : hok X0.2.2.1 K B L f) {v0 v1 v2 v3 v4 v5 v6 v7 : Int} {r0 : Nat} (hb0 : 0 ≤ v0 ∧ v0 ≤ 23) (hb1 : 1 ≤ v1 ∧ v1 ≤ 2300) (hb2 : 97 ≤ v2 ∧ v2 ≤ 2212) (hb3 : 1 ≤ v3 ∧ v3 ≤ 330) (hb4 : 0 ≤ v4 ∧ v4 ≤ 330) (hb5 : 0 ≤ v5 ∧ v5 ≤ 303) (hb6 : (-2147483648) ≤ v6 ∧ v6 ≤ 2147483647) (hb7 : (-2147483648) ≤ v7 ∧ v7 ≤ 2147483647) (hq0 : 0 ≤ ((-1) + (v6 + ((-1) * v5)))) (hr0 : r0 ∈ L ∧ K r0 = 200) (hm0 : (∀ b ∈ L, K b = 203 → (0 : Int) ≤ (2 + v1) ∧ gi (f b) (((2 + v1) : Int)).toNat = v6)) (hm1 : (∀ b ∈ L, K b = 203 → (0 : Int) ≤ (2 * v5 + v2) ∧ gi (f b) (((2 * v5 + v2) : Int)).toNat = 2)) (hm2 : (∀ b ∈ L, K b = 203 → (0 : Int) ≤ (1 + (v2 + (2 * v5))) ∧ gi (f b) (((1 + (v2 + (2 * v5))) : Int)).toNat = v7)) (k64 : ∀ (K' : Nat → Nat) (B' : Int) (L' : List Nat) (f' : Nat → va_E), hok X0.2.2.1 K' B' L' f' → extC [(208, 0)] K B L f K' B' L' f' → (0 ≤ v0 ∧ v0 ≤ 23) → (1 ≤ v1 ∧ v1 ≤ 2300) → (97 ≤ v2 ∧ v2 ≤ 2212) → (1 ≤ v3 ∧ v3 ≤ 330) → (0 ≤ v4 ∧ v4 ≤ 330) → (0 ≤ v5 ∧ v5 ≤ 303) → (1 ≤ v6 ∧ v6 ≤ 2147483647) → ((-2147483648) ≤ v7 ∧ v7 ≤ 2147483647) → (0 ≤ ((-1) + ((-1) * v5 + v6))) → (r0 ∈ L' ∧ K' r0 = 200) → (∀ b ∈ L', K' b = 203 → (0 : Int) ≤ (2 + v1) ∧ gi (f' b) (((2 + v1) : Int)).toNat = v6) → eW E 0 0 L' f' 64 [(0, .ref r0), (1, .int (Int32.ofInt v0)), (2, .int (Int32.ofInt v1)), (3, .int (Int32.ofInt v2)), (4, .int (Int32.ofInt v3)), (5, .int (Int32.ofInt v4)), (6, .int (Int32.ofInt (1 + v5))), (7, .int (Int32.ofInt 2)), (8, .int (Int32.ofInt v7))] []) : eW E 0 0 L f 64 [(0, .ref r0), (1, .int (Int32.ofInt v0)), (2, .int (Int32.ofInt v1)), (3, .int (Int32.ofInt v2)), (4, .int (Int32.ofInt v3)), (5, .int (Int32.ofInt v4)), (6, .int (Int32.ofInt v5))] [] := by
  obtain ⟨l0, D0, cy0, ax0⟩ := X0
  have hraw : eW E 0 0 L f 64 [(0, .ref r0), (1, .int (Int32.ofInt (0 + (1 * v0 + 0)))), (2, .int (Int32.ofInt (0 + (1 * v1 + 0)))), (3, .int (Int32.ofInt (0 + (1 * v2 + 0)))), (4, .int (Int32.ofInt (0 + (1 * v3 + 0)))), (5, .int (Int32.ofInt (0 + (1 * v4 + 0)))), (6, .int (Int32.ofInt (0 + (1 * v5 + 0))))] [] := ?_
  · simpa only [Int.zero_add, Int.one_mul, Int.add_zero] using hraw
  have rq0 : 0 ≤ ((-1) + (1 * v6 + ((-1) * v5 + 0))) := by simpa only [Int.zero_add, Int.one_mul, Int.add_zero] using hq0
  have rm0 : (∀ b ∈ L, K b = 203 → (0 : Int) ≤ (2 + (1 * v1 + 0)) ∧ gi (f b) (((2 + (1 * v1 + 0)) : Int)).toNat = (0 + (1 * v6 + 0))) := by simpa only [Int.zero_add, Int.one_mul, Int.add_zero] using hm0
  have rm1 : (∀ b ∈ L, K b = 203 → (0 : Int) ≤ (0 + (2 * v5 + (1 * v2 + 0))) ∧ gi (f b) (((0 + (2 * v5 + (1 * v2 + 0))) : Int)).toNat = (2 + 0)) := by simpa only [Int.zero_add, Int.one_mul, Int.add_zero] using hm1
  have rm2 : (∀ b ∈ L, K b = 203 → (0 : Int) ≤ (1 + (1 * v2 + (2 * v5 + 0))) ∧ gi (f b) (((1 + (1 * v2 + (2 * v5 + 0))) : Int)).toNat = (0 + (1 * v7 + 0))) := by simpa only [Int.zero_add, Int.one_mul, Int.add_zero] using hm2
  refine seg_ok (D := D_wk2) (νi := fun i => [v0, v1, v2, v3, v4, v5, v6, v7].getD i 0) (μi := fun i => [r0].getD i 0) k_wk2 hE (mk_ok (ins := iX12_worked) jX12_worked fX12_ok lX12_ok kX12_ok kkX12_ok H) (by decide) rfl rfl rfl rfl hh ?_ ?_
  · refine ⟨(eok_of (fun i q hq => ?_) (fun i hi => ?_)), (fa_cons (rq0) fa0), fa0, ?_, (fa_cons (Amok hh (show (zkd 203).1 = 2 by decide) (by decide) rm0) (fa_cons (Amok hh (show (zkd 203).1 = 2 by decide) (by decide) rm1) (fa_cons (Amok hh (show (zkd 203).1 = 2 by decide) (by decide) rm2) fa0))), fa0, fa0⟩
    · match i, hq with
      | 0, hq => cases hq; exact hb0
      | 1, hq => cases hq; exact hb1
      | 2, hq => cases hq; exact hb2
      | 3, hq => cases hq; exact hb3
      | 4, hq => cases hq; exact hb4
      | 5, hq => cases hq; exact hb5
      | 6, hq => cases hq; exact hb6
      | 7, hq => cases hq; exact hb7
      | i + 8, hq => cases hq
    · match i, hi with
      | 0, hi => exact absurd hi (by decide)
      | 1, hi => exact absurd hi (by decide)
      | 2, hi => exact absurd hi (by decide)
      | 3, hi => exact absurd hi (by decide)
      | 4, hi => exact absurd hi (by decide)
      | 5, hi => exact absurd hi (by decide)
      | 6, hi => exact absurd hi (by decide)
      | 7, hi => exact absurd hi (by decide)
      | i + 8, _ => rfl
    · intro i k hk
      match i, hk with
      | 0, hk => cases hk; exact hr0
      | i + 1, hk => cases hk
  · intro q hq hst K' B' L' f' ν μ h1 h2 h3 h4 h5
    have e0 : ν 0 = v0 := h4 0 (by decide)
    have e1 : ν 1 = v1 := h4 1 (by decide)
    have e2 : ν 2 = v2 := h4 2 (by decide)
    have e3 : ν 3 = v3 := h4 3 (by decide)
    have e4 : ν 4 = v4 := h4 4 (by decide)
    have e5 : ν 5 = v5 := h4 5 (by decide)
    have e6 : ν 6 = v6 := h4 6 (by decide)
    have e7 : ν 7 = v7 := h4 7 (by decide)
    have d0 : μ 0 = r0 := h5 0 (by decide)
    subst e0
    subst e1
    subst e2
    subst e3
    subst e4
    subst e5
    subst e6
    subst e7
    subst d0
    replace hq : q ∈ u_wk2 := hq
    unfold u_wk2 at hq
    simp only [List.mem_cons, List.not_mem_nil, or_false] at hq
    rcases hq with rfl
    · have hst2 : eW E 0 0 L' f' 64 [(0, .ref (μ 0)), (1, .int (Int32.ofInt (0 + (1 * ν 0 + 0)))), (2, .int (Int32.ofInt (0 + (1 * ν 1 + 0)))), (3, .int (Int32.ofInt (0 + (1 * ν 2 + 0)))), (4, .int (Int32.ofInt (0 + (1 * ν 3 + 0)))), (5, .int (Int32.ofInt (0 + (1 * ν 4 + 0)))), (6, .int (Int32.ofInt (1 + (1 * ν 5 + 0)))), (7, .int (Int32.ofInt (2 + 0))), (8, .int (Int32.ofInt (0 + (1 * ν 7 + 0))))] [] := ?_
      · exact hst2
      try simp only [Int.zero_add, Int.one_mul, Int.add_zero]
      exact k64 K' B' L' f'   h1 h2 (h3.1 0) (h3.1 1) (h3.1 2) (h3.1 3) (h3.1 4) (h3.1 5) (h3.1 6) (h3.1 7) (by simpa only [xv, xvT, Int.zero_add, Int.one_mul, Int.add_zero] using (h3.2.1 _ (List.mem_of_getElem? (i := 0) rfl))) (h3.2.2.2.1 0 200 rfl) (by simpa only [xv, xvT, Int.zero_add, Int.one_mul, Int.add_zero] using (mokA h1 (show (zkd 203).1 = 2 by decide) (by decide) (h3.2.2.2.2.1 _ (List.mem_of_getElem? (i := 0) rfl))))

/-! wk3: from 64 to [64] -/
def w_wk3 : TP := ([(0, (2, 0, (0, []))), (1, (0, 0, (0, [(1, 0)]))), (2, (0, 0, (0, [(1, 1)]))), (3, (0, 0, (0, [(1, 2)]))), (4, (0, 0, (0, [(1, 3)]))), (5, (0, 0, (0, [(1, 4)]))), (6, (0, 0, (0, [(1, 5)])))], [], ([(0, 23), (1, 2300), (97, 2212), (2, 330), (0, 330), (0, 303), ((-2147483648), 2147483647), (3, 6), ((-2147483648), 2147483647)], [((-1), [(1, 6), ((-1), 5)])], [], [200], [((203, (2, [(1, 1)])), (0, [(1, 6)])), ((203, (0, [(2, 5), (1, 2)])), (0, [(1, 7)])), ((203, (1, [(1, 2), (2, 5)])), (0, [(1, 8)]))], [], []), [], [])
def u_wk3 : List (Nat × TP × EX × Nat × Nat) := [(64, ([(0, (2, 0, (0, []))), (1, (0, 0, (0, [(1, 0)]))), (2, (0, 0, (0, [(1, 1)]))), (3, (0, 0, (0, [(1, 2)]))), (4, (0, 0, ((-1), [(1, 3)]))), (5, (0, 0, (0, [(1, 4)]))), (6, (0, 0, (1, [(1, 5)]))), (7, (0, 0, (0, [(1, 7)]))), (8, (0, 0, (0, [(1, 8)])))], [], ([(0, 23), (1, 2300), (97, 2212), (2, 330), (0, 330), (0, 303), (1, 2147483647), (3, 6), ((-2147483648), 2147483647)], [((-1), [((-1), 5), (1, 6)])], [], [200], [((203, (2, [(1, 1)])), (0, [(1, 6)]))], [], []), [], []), ((-1), []), 0, 0)]
def D_wk3 : DT := (mkD iX12_worked fX12 lX12 kX12 kkX12 309 [(207, [308])] (w_wk3, [(208, 0)], [], 6, 0, 0, 3) false 9 u_wk3)
theorem k_wk3 : chkS D_wk3 4000 0 0 64 = true := by decide +kernel
theorem s_wk3 {X0 : zC0} {E : zCx} (H : ∀ j, j < 309 → CMj X0 j) (hE : zOk E X0 RX12 cX12_worked 9 (zrm 6 0 0)) {K : Nat → Nat} {B : Int} {L : List Nat} {f : Nat → va_E} (hh : hok X0.2.2.1 K B L f) {v0 v1 v2 v3 v4 v5 v6 v7 v8 : Int} {r0 : Nat} (hb0 : 0 ≤ v0 ∧ v0 ≤ 23) (hb1 : 1 ≤ v1 ∧ v1 ≤ 2300) (hb2 : 97 ≤ v2 ∧ v2 ≤ 2212) (hb3 : 2 ≤ v3 ∧ v3 ≤ 330) (hb4 : 0 ≤ v4 ∧ v4 ≤ 330) (hb5 : 0 ≤ v5 ∧ v5 ≤ 303) (hb6 : (-2147483648) ≤ v6 ∧ v6 ≤ 2147483647) (hb7 : 3 ≤ v7 ∧ v7 ≤ 6) (hb8 : (-2147483648) ≤ v8 ∧ v8 ≤ 2147483647) (hq0 : 0 ≤ ((-1) + (v6 + ((-1) * v5)))) (hr0 : r0 ∈ L ∧ K r0 = 200) (hm0 : (∀ b ∈ L, K b = 203 → (0 : Int) ≤ (2 + v1) ∧ gi (f b) (((2 + v1) : Int)).toNat = v6)) (hm1 : (∀ b ∈ L, K b = 203 → (0 : Int) ≤ (2 * v5 + v2) ∧ gi (f b) (((2 * v5 + v2) : Int)).toNat = v7)) (hm2 : (∀ b ∈ L, K b = 203 → (0 : Int) ≤ (1 + (v2 + (2 * v5))) ∧ gi (f b) (((1 + (v2 + (2 * v5))) : Int)).toNat = v8)) (k64 : ∀ (K' : Nat → Nat) (B' : Int) (L' : List Nat) (f' : Nat → va_E), hok X0.2.2.1 K' B' L' f' → extC [(208, 0)] K B L f K' B' L' f' → (0 ≤ v0 ∧ v0 ≤ 23) → (1 ≤ v1 ∧ v1 ≤ 2300) → (97 ≤ v2 ∧ v2 ≤ 2212) → (2 ≤ v3 ∧ v3 ≤ 330) → (0 ≤ v4 ∧ v4 ≤ 330) → (0 ≤ v5 ∧ v5 ≤ 303) → (1 ≤ v6 ∧ v6 ≤ 2147483647) → (3 ≤ v7 ∧ v7 ≤ 6) → ((-2147483648) ≤ v8 ∧ v8 ≤ 2147483647) → (0 ≤ ((-1) + ((-1) * v5 + v6))) → (r0 ∈ L' ∧ K' r0 = 200) → (∀ b ∈ L', K' b = 203 → (0 : Int) ≤ (2 + v1) ∧ gi (f' b) (((2 + v1) : Int)).toNat = v6) → eW E 0 0 L' f' 64 [(0, .ref r0), (1, .int (Int32.ofInt v0)), (2, .int (Int32.ofInt v1)), (3, .int (Int32.ofInt v2)), (4, .int (Int32.ofInt ((-1) + v3))), (5, .int (Int32.ofInt v4)), (6, .int (Int32.ofInt (1 + v5))), (7, .int (Int32.ofInt v7)), (8, .int (Int32.ofInt v8))] []) : eW E 0 0 L f 64 [(0, .ref r0), (1, .int (Int32.ofInt v0)), (2, .int (Int32.ofInt v1)), (3, .int (Int32.ofInt v2)), (4, .int (Int32.ofInt v3)), (5, .int (Int32.ofInt v4)), (6, .int (Int32.ofInt v5))] [] := by
  obtain ⟨l0, D0, cy0, ax0⟩ := X0
  have hraw : eW E 0 0 L f 64 [(0, .ref r0), (1, .int (Int32.ofInt (0 + (1 * v0 + 0)))), (2, .int (Int32.ofInt (0 + (1 * v1 + 0)))), (3, .int (Int32.ofInt (0 + (1 * v2 + 0)))), (4, .int (Int32.ofInt (0 + (1 * v3 + 0)))), (5, .int (Int32.ofInt (0 + (1 * v4 + 0)))), (6, .int (Int32.ofInt (0 + (1 * v5 + 0))))] [] := ?_
  · simpa only [Int.zero_add, Int.one_mul, Int.add_zero] using hraw
  have rq0 : 0 ≤ ((-1) + (1 * v6 + ((-1) * v5 + 0))) := by simpa only [Int.zero_add, Int.one_mul, Int.add_zero] using hq0
  have rm0 : (∀ b ∈ L, K b = 203 → (0 : Int) ≤ (2 + (1 * v1 + 0)) ∧ gi (f b) (((2 + (1 * v1 + 0)) : Int)).toNat = (0 + (1 * v6 + 0))) := by simpa only [Int.zero_add, Int.one_mul, Int.add_zero] using hm0
  have rm1 : (∀ b ∈ L, K b = 203 → (0 : Int) ≤ (0 + (2 * v5 + (1 * v2 + 0))) ∧ gi (f b) (((0 + (2 * v5 + (1 * v2 + 0))) : Int)).toNat = (0 + (1 * v7 + 0))) := by simpa only [Int.zero_add, Int.one_mul, Int.add_zero] using hm1
  have rm2 : (∀ b ∈ L, K b = 203 → (0 : Int) ≤ (1 + (1 * v2 + (2 * v5 + 0))) ∧ gi (f b) (((1 + (1 * v2 + (2 * v5 + 0))) : Int)).toNat = (0 + (1 * v8 + 0))) := by simpa only [Int.zero_add, Int.one_mul, Int.add_zero] using hm2
  refine seg_ok (D := D_wk3) (νi := fun i => [v0, v1, v2, v3, v4, v5, v6, v7, v8].getD i 0) (μi := fun i => [r0].getD i 0) k_wk3 hE (mk_ok (ins := iX12_worked) jX12_worked fX12_ok lX12_ok kX12_ok kkX12_ok H) (by decide) rfl rfl rfl rfl hh ?_ ?_
  · refine ⟨(eok_of (fun i q hq => ?_) (fun i hi => ?_)), (fa_cons (rq0) fa0), fa0, ?_, (fa_cons (Amok hh (show (zkd 203).1 = 2 by decide) (by decide) rm0) (fa_cons (Amok hh (show (zkd 203).1 = 2 by decide) (by decide) rm1) (fa_cons (Amok hh (show (zkd 203).1 = 2 by decide) (by decide) rm2) fa0))), fa0, fa0⟩
    · match i, hq with
      | 0, hq => cases hq; exact hb0
      | 1, hq => cases hq; exact hb1
      | 2, hq => cases hq; exact hb2
      | 3, hq => cases hq; exact hb3
      | 4, hq => cases hq; exact hb4
      | 5, hq => cases hq; exact hb5
      | 6, hq => cases hq; exact hb6
      | 7, hq => cases hq; exact hb7
      | 8, hq => cases hq; exact hb8
      | i + 9, hq => cases hq
    · match i, hi with
      | 0, hi => exact absurd hi (by decide)
      | 1, hi => exact absurd hi (by decide)
      | 2, hi => exact absurd hi (by decide)
      | 3, hi => exact absurd hi (by decide)
      | 4, hi => exact absurd hi (by decide)
      | 5, hi => exact absurd hi (by decide)
      | 6, hi => exact absurd hi (by decide)
      | 7, hi => exact absurd hi (by decide)
      | 8, hi => exact absurd hi (by decide)
      | i + 9, _ => rfl
    · intro i k hk
      match i, hk with
      | 0, hk => cases hk; exact hr0
      | i + 1, hk => cases hk
  · intro q hq hst K' B' L' f' ν μ h1 h2 h3 h4 h5
    have e0 : ν 0 = v0 := h4 0 (by decide)
    have e1 : ν 1 = v1 := h4 1 (by decide)
    have e2 : ν 2 = v2 := h4 2 (by decide)
    have e3 : ν 3 = v3 := h4 3 (by decide)
    have e4 : ν 4 = v4 := h4 4 (by decide)
    have e5 : ν 5 = v5 := h4 5 (by decide)
    have e6 : ν 6 = v6 := h4 6 (by decide)
    have e7 : ν 7 = v7 := h4 7 (by decide)
    have e8 : ν 8 = v8 := h4 8 (by decide)
    have d0 : μ 0 = r0 := h5 0 (by decide)
    subst e0
    subst e1
    subst e2
    subst e3
    subst e4
    subst e5
    subst e6
    subst e7
    subst e8
    subst d0
    replace hq : q ∈ u_wk3 := hq
    unfold u_wk3 at hq
    simp only [List.mem_cons, List.not_mem_nil, or_false] at hq
    rcases hq with rfl
    · have hst2 : eW E 0 0 L' f' 64 [(0, .ref (μ 0)), (1, .int (Int32.ofInt (0 + (1 * ν 0 + 0)))), (2, .int (Int32.ofInt (0 + (1 * ν 1 + 0)))), (3, .int (Int32.ofInt (0 + (1 * ν 2 + 0)))), (4, .int (Int32.ofInt ((-1) + (1 * ν 3 + 0)))), (5, .int (Int32.ofInt (0 + (1 * ν 4 + 0)))), (6, .int (Int32.ofInt (1 + (1 * ν 5 + 0)))), (7, .int (Int32.ofInt (0 + (1 * ν 7 + 0)))), (8, .int (Int32.ofInt (0 + (1 * ν 8 + 0))))] [] := ?_
      · exact hst2
      try simp only [Int.zero_add, Int.one_mul, Int.add_zero]
      exact k64 K' B' L' f'   h1 h2 (h3.1 0) (h3.1 1) (h3.1 2) (h3.1 3) (h3.1 4) (h3.1 5) (h3.1 6) (h3.1 7) (h3.1 8) (by simpa only [xv, xvT, Int.zero_add, Int.one_mul, Int.add_zero] using (h3.2.1 _ (List.mem_of_getElem? (i := 0) rfl))) (h3.2.2.2.1 0 200 rfl) (by simpa only [xv, xvT, Int.zero_add, Int.one_mul, Int.add_zero] using (mokA h1 (show (zkd 203).1 = 2 by decide) (by decide) (h3.2.2.2.2.1 _ (List.mem_of_getElem? (i := 0) rfl))))

/-! wk10: from 64 to [64] -/
def w_wk10 : TP := ([(0, (2, 0, (0, []))), (1, (0, 0, (0, [(1, 0)]))), (2, (0, 0, (0, [(1, 1)]))), (3, (0, 0, (0, [(1, 2)]))), (4, (0, 0, (0, [(1, 3)]))), (5, (0, 0, (0, [(1, 4)]))), (6, (0, 0, (0, [(1, 5)])))], [], ([(0, 23), (1, 2300), (97, 2212), (2, 330), (0, 329), (0, 303), ((-2147483648), 2147483647), (10, 15), ((-2147483648), 2147483647)], [((-1), [(1, 6), ((-1), 5)])], [], [200], [((203, (2, [(1, 1)])), (0, [(1, 6)])), ((203, (0, [(2, 5), (1, 2)])), (0, [(1, 7)])), ((203, (1, [(1, 2), (2, 5)])), (0, [(1, 8)]))], [], []), [], [])
def u_wk10 : List (Nat × TP × EX × Nat × Nat) := [(64, ([(0, (2, 0, (0, []))), (1, (0, 0, (0, [(1, 0)]))), (2, (0, 0, (0, [(1, 1)]))), (3, (0, 0, (0, [(1, 2)]))), (4, (0, 0, ((-2), [(1, 3)]))), (5, (0, 0, (1, [(1, 4)]))), (6, (0, 0, (1, [(1, 5)]))), (7, (0, 0, (0, [(1, 7)]))), (8, (0, 0, (0, [(1, 8)])))], [], ([(0, 23), (1, 2300), (97, 2212), (2, 330), (0, 329), (0, 303), (1, 2147483647), (10, 15), ((-2147483648), 2147483647)], [((-1), [((-1), 5), (1, 6)])], [], [200], [((203, (2, [(1, 1)])), (0, [(1, 6)]))], [], []), [], []), ((-1), []), 0, 0)]
def D_wk10 : DT := (mkD iX12_worked fX12 lX12 kX12 kkX12 309 [(248, [305])] (w_wk10, [(209, 0)], [], 6, 0, 0, 3) false 9 u_wk10)
theorem k_wk10 : chkS D_wk10 4000 0 0 64 = true := by decide +kernel
theorem s_wk10 {X0 : zC0} {E : zCx} (H : ∀ j, j < 309 → CMj X0 j) (hE : zOk E X0 RX12 cX12_worked 9 (zrm 6 0 0)) {K : Nat → Nat} {B : Int} {L : List Nat} {f : Nat → va_E} (hh : hok X0.2.2.1 K B L f) {v0 v1 v2 v3 v4 v5 v6 v7 v8 : Int} {r0 : Nat} (hb0 : 0 ≤ v0 ∧ v0 ≤ 23) (hb1 : 1 ≤ v1 ∧ v1 ≤ 2300) (hb2 : 97 ≤ v2 ∧ v2 ≤ 2212) (hb3 : 2 ≤ v3 ∧ v3 ≤ 330) (hb4 : 0 ≤ v4 ∧ v4 ≤ 329) (hb5 : 0 ≤ v5 ∧ v5 ≤ 303) (hb6 : (-2147483648) ≤ v6 ∧ v6 ≤ 2147483647) (hb7 : 10 ≤ v7 ∧ v7 ≤ 15) (hb8 : (-2147483648) ≤ v8 ∧ v8 ≤ 2147483647) (hq0 : 0 ≤ ((-1) + (v6 + ((-1) * v5)))) (hr0 : r0 ∈ L ∧ K r0 = 200) (hm0 : (∀ b ∈ L, K b = 203 → (0 : Int) ≤ (2 + v1) ∧ gi (f b) (((2 + v1) : Int)).toNat = v6)) (hm1 : (∀ b ∈ L, K b = 203 → (0 : Int) ≤ (2 * v5 + v2) ∧ gi (f b) (((2 * v5 + v2) : Int)).toNat = v7)) (hm2 : (∀ b ∈ L, K b = 203 → (0 : Int) ≤ (1 + (v2 + (2 * v5))) ∧ gi (f b) (((1 + (v2 + (2 * v5))) : Int)).toNat = v8)) (k64 : ∀ (K' : Nat → Nat) (B' : Int) (L' : List Nat) (f' : Nat → va_E), hok X0.2.2.1 K' B' L' f' → extC [(209, 0)] K B L f K' B' L' f' → (0 ≤ v0 ∧ v0 ≤ 23) → (1 ≤ v1 ∧ v1 ≤ 2300) → (97 ≤ v2 ∧ v2 ≤ 2212) → (2 ≤ v3 ∧ v3 ≤ 330) → (0 ≤ v4 ∧ v4 ≤ 329) → (0 ≤ v5 ∧ v5 ≤ 303) → (1 ≤ v6 ∧ v6 ≤ 2147483647) → (10 ≤ v7 ∧ v7 ≤ 15) → ((-2147483648) ≤ v8 ∧ v8 ≤ 2147483647) → (0 ≤ ((-1) + ((-1) * v5 + v6))) → (r0 ∈ L' ∧ K' r0 = 200) → (∀ b ∈ L', K' b = 203 → (0 : Int) ≤ (2 + v1) ∧ gi (f' b) (((2 + v1) : Int)).toNat = v6) → eW E 0 0 L' f' 64 [(0, .ref r0), (1, .int (Int32.ofInt v0)), (2, .int (Int32.ofInt v1)), (3, .int (Int32.ofInt v2)), (4, .int (Int32.ofInt ((-2) + v3))), (5, .int (Int32.ofInt (1 + v4))), (6, .int (Int32.ofInt (1 + v5))), (7, .int (Int32.ofInt v7)), (8, .int (Int32.ofInt v8))] []) : eW E 0 0 L f 64 [(0, .ref r0), (1, .int (Int32.ofInt v0)), (2, .int (Int32.ofInt v1)), (3, .int (Int32.ofInt v2)), (4, .int (Int32.ofInt v3)), (5, .int (Int32.ofInt v4)), (6, .int (Int32.ofInt v5))] [] := by
  obtain ⟨l0, D0, cy0, ax0⟩ := X0
  have hraw : eW E 0 0 L f 64 [(0, .ref r0), (1, .int (Int32.ofInt (0 + (1 * v0 + 0)))), (2, .int (Int32.ofInt (0 + (1 * v1 + 0)))), (3, .int (Int32.ofInt (0 + (1 * v2 + 0)))), (4, .int (Int32.ofInt (0 + (1 * v3 + 0)))), (5, .int (Int32.ofInt (0 + (1 * v4 + 0)))), (6, .int (Int32.ofInt (0 + (1 * v5 + 0))))] [] := ?_
  · simpa only [Int.zero_add, Int.one_mul, Int.add_zero] using hraw
  have rq0 : 0 ≤ ((-1) + (1 * v6 + ((-1) * v5 + 0))) := by simpa only [Int.zero_add, Int.one_mul, Int.add_zero] using hq0
  have rm0 : (∀ b ∈ L, K b = 203 → (0 : Int) ≤ (2 + (1 * v1 + 0)) ∧ gi (f b) (((2 + (1 * v1 + 0)) : Int)).toNat = (0 + (1 * v6 + 0))) := by simpa only [Int.zero_add, Int.one_mul, Int.add_zero] using hm0
  have rm1 : (∀ b ∈ L, K b = 203 → (0 : Int) ≤ (0 + (2 * v5 + (1 * v2 + 0))) ∧ gi (f b) (((0 + (2 * v5 + (1 * v2 + 0))) : Int)).toNat = (0 + (1 * v7 + 0))) := by simpa only [Int.zero_add, Int.one_mul, Int.add_zero] using hm1
  have rm2 : (∀ b ∈ L, K b = 203 → (0 : Int) ≤ (1 + (1 * v2 + (2 * v5 + 0))) ∧ gi (f b) (((1 + (1 * v2 + (2 * v5 + 0))) : Int)).toNat = (0 + (1 * v8 + 0))) := by simpa only [Int.zero_add, Int.one_mul, Int.add_zero] using hm2
  refine seg_ok (D := D_wk10) (νi := fun i => [v0, v1, v2, v3, v4, v5, v6, v7, v8].getD i 0) (μi := fun i => [r0].getD i 0) k_wk10 hE (mk_ok (ins := iX12_worked) jX12_worked fX12_ok lX12_ok kX12_ok kkX12_ok H) (by decide) rfl rfl rfl rfl hh ?_ ?_
  · refine ⟨(eok_of (fun i q hq => ?_) (fun i hi => ?_)), (fa_cons (rq0) fa0), fa0, ?_, (fa_cons (Amok hh (show (zkd 203).1 = 2 by decide) (by decide) rm0) (fa_cons (Amok hh (show (zkd 203).1 = 2 by decide) (by decide) rm1) (fa_cons (Amok hh (show (zkd 203).1 = 2 by decide) (by decide) rm2) fa0))), fa0, fa0⟩
    · match i, hq with
      | 0, hq => cases hq; exact hb0
      | 1, hq => cases hq; exact hb1
      | 2, hq => cases hq; exact hb2
      | 3, hq => cases hq; exact hb3
      | 4, hq => cases hq; exact hb4
      | 5, hq => cases hq; exact hb5
      | 6, hq => cases hq; exact hb6
      | 7, hq => cases hq; exact hb7
      | 8, hq => cases hq; exact hb8
      | i + 9, hq => cases hq
    · match i, hi with
      | 0, hi => exact absurd hi (by decide)
      | 1, hi => exact absurd hi (by decide)
      | 2, hi => exact absurd hi (by decide)
      | 3, hi => exact absurd hi (by decide)
      | 4, hi => exact absurd hi (by decide)
      | 5, hi => exact absurd hi (by decide)
      | 6, hi => exact absurd hi (by decide)
      | 7, hi => exact absurd hi (by decide)
      | 8, hi => exact absurd hi (by decide)
      | i + 9, _ => rfl
    · intro i k hk
      match i, hk with
      | 0, hk => cases hk; exact hr0
      | i + 1, hk => cases hk
  · intro q hq hst K' B' L' f' ν μ h1 h2 h3 h4 h5
    have e0 : ν 0 = v0 := h4 0 (by decide)
    have e1 : ν 1 = v1 := h4 1 (by decide)
    have e2 : ν 2 = v2 := h4 2 (by decide)
    have e3 : ν 3 = v3 := h4 3 (by decide)
    have e4 : ν 4 = v4 := h4 4 (by decide)
    have e5 : ν 5 = v5 := h4 5 (by decide)
    have e6 : ν 6 = v6 := h4 6 (by decide)
    have e7 : ν 7 = v7 := h4 7 (by decide)
    have e8 : ν 8 = v8 := h4 8 (by decide)
    have d0 : μ 0 = r0 := h5 0 (by decide)
    subst e0
    subst e1
    subst e2
    subst e3
    subst e4
    subst e5
    subst e6
    subst e7
    subst e8
    subst d0
    replace hq : q ∈ u_wk10 := hq
    unfold u_wk10 at hq
    simp only [List.mem_cons, List.not_mem_nil, or_false] at hq
    rcases hq with rfl
    · have hst2 : eW E 0 0 L' f' 64 [(0, .ref (μ 0)), (1, .int (Int32.ofInt (0 + (1 * ν 0 + 0)))), (2, .int (Int32.ofInt (0 + (1 * ν 1 + 0)))), (3, .int (Int32.ofInt (0 + (1 * ν 2 + 0)))), (4, .int (Int32.ofInt ((-2) + (1 * ν 3 + 0)))), (5, .int (Int32.ofInt (1 + (1 * ν 4 + 0)))), (6, .int (Int32.ofInt (1 + (1 * ν 5 + 0)))), (7, .int (Int32.ofInt (0 + (1 * ν 7 + 0)))), (8, .int (Int32.ofInt (0 + (1 * ν 8 + 0))))] [] := ?_
      · exact hst2
      try simp only [Int.zero_add, Int.one_mul, Int.add_zero]
      exact k64 K' B' L' f'   h1 h2 (h3.1 0) (h3.1 1) (h3.1 2) (h3.1 3) (h3.1 4) (h3.1 5) (h3.1 6) (h3.1 7) (h3.1 8) (by simpa only [xv, xvT, Int.zero_add, Int.one_mul, Int.add_zero] using (h3.2.1 _ (List.mem_of_getElem? (i := 0) rfl))) (h3.2.2.2.1 0 200 rfl) (by simpa only [xv, xvT, Int.zero_add, Int.one_mul, Int.add_zero] using (mokA h1 (show (zkd 203).1 = 2 by decide) (by decide) (h3.2.2.2.2.1 _ (List.mem_of_getElem? (i := 0) rfl))))

/-! wk20: from 64 to [64] -/
def w_wk20 : TP := ([(0, (2, 0, (0, []))), (1, (0, 0, (0, [(1, 0)]))), (2, (0, 0, (0, [(1, 1)]))), (3, (0, 0, (0, [(1, 2)]))), (4, (0, 0, (0, [(1, 3)]))), (5, (0, 0, (0, [(1, 4)]))), (6, (0, 0, (0, [(1, 5)])))], [], ([(0, 23), (1, 2300), (97, 2212), (0, 330), (1, 330), (0, 303), ((-2147483648), 2147483647), ((-2147483648), 2147483647)], [((-1), [(1, 6), ((-1), 5)])], [], [200], [((203, (2, [(1, 1)])), (0, [(1, 6)])), ((203, (0, [(2, 5), (1, 2)])), (20, [])), ((203, (1, [(1, 2), (2, 5)])), (0, [(1, 7)]))], [], []), [], [])
def u_wk20 : List (Nat × TP × EX × Nat × Nat) := [(64, ([(0, (2, 0, (0, []))), (1, (0, 0, (0, [(1, 0)]))), (2, (0, 0, (0, [(1, 1)]))), (3, (0, 0, (0, [(1, 2)]))), (4, (0, 0, (0, [(1, 3)]))), (5, (0, 0, (0, [(1, 4)]))), (6, (0, 0, (1, [(1, 5)]))), (7, (0, 0, (20, []))), (8, (0, 0, (0, [(1, 7)])))], [], ([(0, 23), (1, 2300), (97, 2212), (0, 330), (1, 330), (0, 303), (1, 2147483647), ((-2147483648), 2147483647)], [((-1), [((-1), 5), (1, 6)])], [], [200], [((203, (2, [(1, 1)])), (0, [(1, 6)]))], [], []), [], []), ((-1), []), 0, 0)]
def D_wk20 : DT := (mkD iX12_worked fX12 lX12 kX12 kkX12 309 [] (w_wk20, [(209, 0)], [], 6, 0, 0, 3) false 9 u_wk20)
theorem k_wk20 : chkS D_wk20 4000 0 0 64 = true := by decide +kernel
theorem s_wk20 {X0 : zC0} {E : zCx} (H : ∀ j, j < 309 → CMj X0 j) (hE : zOk E X0 RX12 cX12_worked 9 (zrm 6 0 0)) {K : Nat → Nat} {B : Int} {L : List Nat} {f : Nat → va_E} (hh : hok X0.2.2.1 K B L f) {v0 v1 v2 v3 v4 v5 v6 v7 : Int} {r0 : Nat} (hb0 : 0 ≤ v0 ∧ v0 ≤ 23) (hb1 : 1 ≤ v1 ∧ v1 ≤ 2300) (hb2 : 97 ≤ v2 ∧ v2 ≤ 2212) (hb3 : 0 ≤ v3 ∧ v3 ≤ 330) (hb4 : 1 ≤ v4 ∧ v4 ≤ 330) (hb5 : 0 ≤ v5 ∧ v5 ≤ 303) (hb6 : (-2147483648) ≤ v6 ∧ v6 ≤ 2147483647) (hb7 : (-2147483648) ≤ v7 ∧ v7 ≤ 2147483647) (hq0 : 0 ≤ ((-1) + (v6 + ((-1) * v5)))) (hr0 : r0 ∈ L ∧ K r0 = 200) (hm0 : (∀ b ∈ L, K b = 203 → (0 : Int) ≤ (2 + v1) ∧ gi (f b) (((2 + v1) : Int)).toNat = v6)) (hm1 : (∀ b ∈ L, K b = 203 → (0 : Int) ≤ (2 * v5 + v2) ∧ gi (f b) (((2 * v5 + v2) : Int)).toNat = 20)) (hm2 : (∀ b ∈ L, K b = 203 → (0 : Int) ≤ (1 + (v2 + (2 * v5))) ∧ gi (f b) (((1 + (v2 + (2 * v5))) : Int)).toNat = v7)) (k64 : ∀ (K' : Nat → Nat) (B' : Int) (L' : List Nat) (f' : Nat → va_E), hok X0.2.2.1 K' B' L' f' → extC [(209, 0)] K B L f K' B' L' f' → (0 ≤ v0 ∧ v0 ≤ 23) → (1 ≤ v1 ∧ v1 ≤ 2300) → (97 ≤ v2 ∧ v2 ≤ 2212) → (0 ≤ v3 ∧ v3 ≤ 330) → (1 ≤ v4 ∧ v4 ≤ 330) → (0 ≤ v5 ∧ v5 ≤ 303) → (1 ≤ v6 ∧ v6 ≤ 2147483647) → ((-2147483648) ≤ v7 ∧ v7 ≤ 2147483647) → (0 ≤ ((-1) + ((-1) * v5 + v6))) → (r0 ∈ L' ∧ K' r0 = 200) → (∀ b ∈ L', K' b = 203 → (0 : Int) ≤ (2 + v1) ∧ gi (f' b) (((2 + v1) : Int)).toNat = v6) → eW E 0 0 L' f' 64 [(0, .ref r0), (1, .int (Int32.ofInt v0)), (2, .int (Int32.ofInt v1)), (3, .int (Int32.ofInt v2)), (4, .int (Int32.ofInt v3)), (5, .int (Int32.ofInt v4)), (6, .int (Int32.ofInt (1 + v5))), (7, .int (Int32.ofInt 20)), (8, .int (Int32.ofInt v7))] []) : eW E 0 0 L f 64 [(0, .ref r0), (1, .int (Int32.ofInt v0)), (2, .int (Int32.ofInt v1)), (3, .int (Int32.ofInt v2)), (4, .int (Int32.ofInt v3)), (5, .int (Int32.ofInt v4)), (6, .int (Int32.ofInt v5))] [] := by
  obtain ⟨l0, D0, cy0, ax0⟩ := X0
  have hraw : eW E 0 0 L f 64 [(0, .ref r0), (1, .int (Int32.ofInt (0 + (1 * v0 + 0)))), (2, .int (Int32.ofInt (0 + (1 * v1 + 0)))), (3, .int (Int32.ofInt (0 + (1 * v2 + 0)))), (4, .int (Int32.ofInt (0 + (1 * v3 + 0)))), (5, .int (Int32.ofInt (0 + (1 * v4 + 0)))), (6, .int (Int32.ofInt (0 + (1 * v5 + 0))))] [] := ?_
  · simpa only [Int.zero_add, Int.one_mul, Int.add_zero] using hraw
  have rq0 : 0 ≤ ((-1) + (1 * v6 + ((-1) * v5 + 0))) := by simpa only [Int.zero_add, Int.one_mul, Int.add_zero] using hq0
  have rm0 : (∀ b ∈ L, K b = 203 → (0 : Int) ≤ (2 + (1 * v1 + 0)) ∧ gi (f b) (((2 + (1 * v1 + 0)) : Int)).toNat = (0 + (1 * v6 + 0))) := by simpa only [Int.zero_add, Int.one_mul, Int.add_zero] using hm0
  have rm1 : (∀ b ∈ L, K b = 203 → (0 : Int) ≤ (0 + (2 * v5 + (1 * v2 + 0))) ∧ gi (f b) (((0 + (2 * v5 + (1 * v2 + 0))) : Int)).toNat = (20 + 0)) := by simpa only [Int.zero_add, Int.one_mul, Int.add_zero] using hm1
  have rm2 : (∀ b ∈ L, K b = 203 → (0 : Int) ≤ (1 + (1 * v2 + (2 * v5 + 0))) ∧ gi (f b) (((1 + (1 * v2 + (2 * v5 + 0))) : Int)).toNat = (0 + (1 * v7 + 0))) := by simpa only [Int.zero_add, Int.one_mul, Int.add_zero] using hm2
  refine seg_ok (D := D_wk20) (νi := fun i => [v0, v1, v2, v3, v4, v5, v6, v7].getD i 0) (μi := fun i => [r0].getD i 0) k_wk20 hE (mk_ok (ins := iX12_worked) jX12_worked fX12_ok lX12_ok kX12_ok kkX12_ok H) (by decide) rfl rfl rfl rfl hh ?_ ?_
  · refine ⟨(eok_of (fun i q hq => ?_) (fun i hi => ?_)), (fa_cons (rq0) fa0), fa0, ?_, (fa_cons (Amok hh (show (zkd 203).1 = 2 by decide) (by decide) rm0) (fa_cons (Amok hh (show (zkd 203).1 = 2 by decide) (by decide) rm1) (fa_cons (Amok hh (show (zkd 203).1 = 2 by decide) (by decide) rm2) fa0))), fa0, fa0⟩
    · match i, hq with
      | 0, hq => cases hq; exact hb0
      | 1, hq => cases hq; exact hb1
      | 2, hq => cases hq; exact hb2
      | 3, hq => cases hq; exact hb3
      | 4, hq => cases hq; exact hb4
      | 5, hq => cases hq; exact hb5
      | 6, hq => cases hq; exact hb6
      | 7, hq => cases hq; exact hb7
      | i + 8, hq => cases hq
    · match i, hi with
      | 0, hi => exact absurd hi (by decide)
      | 1, hi => exact absurd hi (by decide)
      | 2, hi => exact absurd hi (by decide)
      | 3, hi => exact absurd hi (by decide)
      | 4, hi => exact absurd hi (by decide)
      | 5, hi => exact absurd hi (by decide)
      | 6, hi => exact absurd hi (by decide)
      | 7, hi => exact absurd hi (by decide)
      | i + 8, _ => rfl
    · intro i k hk
      match i, hk with
      | 0, hk => cases hk; exact hr0
      | i + 1, hk => cases hk
  · intro q hq hst K' B' L' f' ν μ h1 h2 h3 h4 h5
    have e0 : ν 0 = v0 := h4 0 (by decide)
    have e1 : ν 1 = v1 := h4 1 (by decide)
    have e2 : ν 2 = v2 := h4 2 (by decide)
    have e3 : ν 3 = v3 := h4 3 (by decide)
    have e4 : ν 4 = v4 := h4 4 (by decide)
    have e5 : ν 5 = v5 := h4 5 (by decide)
    have e6 : ν 6 = v6 := h4 6 (by decide)
    have e7 : ν 7 = v7 := h4 7 (by decide)
    have d0 : μ 0 = r0 := h5 0 (by decide)
    subst e0
    subst e1
    subst e2
    subst e3
    subst e4
    subst e5
    subst e6
    subst e7
    subst d0
    replace hq : q ∈ u_wk20 := hq
    unfold u_wk20 at hq
    simp only [List.mem_cons, List.not_mem_nil, or_false] at hq
    rcases hq with rfl
    · have hst2 : eW E 0 0 L' f' 64 [(0, .ref (μ 0)), (1, .int (Int32.ofInt (0 + (1 * ν 0 + 0)))), (2, .int (Int32.ofInt (0 + (1 * ν 1 + 0)))), (3, .int (Int32.ofInt (0 + (1 * ν 2 + 0)))), (4, .int (Int32.ofInt (0 + (1 * ν 3 + 0)))), (5, .int (Int32.ofInt (0 + (1 * ν 4 + 0)))), (6, .int (Int32.ofInt (1 + (1 * ν 5 + 0)))), (7, .int (Int32.ofInt (20 + 0))), (8, .int (Int32.ofInt (0 + (1 * ν 7 + 0))))] [] := ?_
      · exact hst2
      try simp only [Int.zero_add, Int.one_mul, Int.add_zero]
      exact k64 K' B' L' f'   h1 h2 (h3.1 0) (h3.1 1) (h3.1 2) (h3.1 3) (h3.1 4) (h3.1 5) (h3.1 6) (h3.1 7) (by simpa only [xv, xvT, Int.zero_add, Int.one_mul, Int.add_zero] using (h3.2.1 _ (List.mem_of_getElem? (i := 0) rfl))) (h3.2.2.2.1 0 200 rfl) (by simpa only [xv, xvT, Int.zero_add, Int.one_mul, Int.add_zero] using (mokA h1 (show (zkd 203).1 = 2 by decide) (by decide) (h3.2.2.2.2.1 _ (List.mem_of_getElem? (i := 0) rfl))))

/-! wk21: from 64 to [64] -/
def w_wk21 : TP := ([(0, (2, 0, (0, []))), (1, (0, 0, (0, [(1, 0)]))), (2, (0, 0, (0, [(1, 1)]))), (3, (0, 0, (0, [(1, 2)]))), (4, (0, 0, (0, [(1, 3)]))), (5, (0, 0, (0, [(1, 4)]))), (6, (0, 0, (0, [(1, 5)])))], [], ([(0, 23), (1, 2300), (97, 2212), (0, 330), (2, 330), (0, 303), ((-2147483648), 2147483647), (21, 22), ((-2147483648), 2147483647)], [((-1), [(1, 6), ((-1), 5)])], [], [200], [((203, (2, [(1, 1)])), (0, [(1, 6)])), ((203, (0, [(2, 5), (1, 2)])), (0, [(1, 7)])), ((203, (1, [(1, 2), (2, 5)])), (0, [(1, 8)]))], [], []), [], [])
def u_wk21 : List (Nat × TP × EX × Nat × Nat) := [(64, ([(0, (2, 0, (0, []))), (1, (0, 0, (0, [(1, 0)]))), (2, (0, 0, (0, [(1, 1)]))), (3, (0, 0, (0, [(1, 2)]))), (4, (0, 0, (0, [(1, 3)]))), (5, (0, 0, ((-1), [(1, 4)]))), (6, (0, 0, (1, [(1, 5)]))), (7, (0, 0, (0, [(1, 7)]))), (8, (0, 0, (0, [(1, 8)])))], [], ([(0, 23), (1, 2300), (97, 2212), (0, 330), (2, 330), (0, 303), (1, 2147483647), (21, 22), ((-2147483648), 2147483647)], [((-1), [((-1), 5), (1, 6)])], [], [200], [((203, (2, [(1, 1)])), (0, [(1, 6)]))], [], []), [], []), ((-1), []), 0, 0)]
def D_wk21 : DT := (mkD iX12_worked fX12 lX12 kX12 kkX12 309 [] (w_wk21, [(209, 0)], [], 6, 0, 0, 3) false 9 u_wk21)
theorem k_wk21 : chkS D_wk21 4000 0 0 64 = true := by decide +kernel
theorem s_wk21 {X0 : zC0} {E : zCx} (H : ∀ j, j < 309 → CMj X0 j) (hE : zOk E X0 RX12 cX12_worked 9 (zrm 6 0 0)) {K : Nat → Nat} {B : Int} {L : List Nat} {f : Nat → va_E} (hh : hok X0.2.2.1 K B L f) {v0 v1 v2 v3 v4 v5 v6 v7 v8 : Int} {r0 : Nat} (hb0 : 0 ≤ v0 ∧ v0 ≤ 23) (hb1 : 1 ≤ v1 ∧ v1 ≤ 2300) (hb2 : 97 ≤ v2 ∧ v2 ≤ 2212) (hb3 : 0 ≤ v3 ∧ v3 ≤ 330) (hb4 : 2 ≤ v4 ∧ v4 ≤ 330) (hb5 : 0 ≤ v5 ∧ v5 ≤ 303) (hb6 : (-2147483648) ≤ v6 ∧ v6 ≤ 2147483647) (hb7 : 21 ≤ v7 ∧ v7 ≤ 22) (hb8 : (-2147483648) ≤ v8 ∧ v8 ≤ 2147483647) (hq0 : 0 ≤ ((-1) + (v6 + ((-1) * v5)))) (hr0 : r0 ∈ L ∧ K r0 = 200) (hm0 : (∀ b ∈ L, K b = 203 → (0 : Int) ≤ (2 + v1) ∧ gi (f b) (((2 + v1) : Int)).toNat = v6)) (hm1 : (∀ b ∈ L, K b = 203 → (0 : Int) ≤ (2 * v5 + v2) ∧ gi (f b) (((2 * v5 + v2) : Int)).toNat = v7)) (hm2 : (∀ b ∈ L, K b = 203 → (0 : Int) ≤ (1 + (v2 + (2 * v5))) ∧ gi (f b) (((1 + (v2 + (2 * v5))) : Int)).toNat = v8)) (k64 : ∀ (K' : Nat → Nat) (B' : Int) (L' : List Nat) (f' : Nat → va_E), hok X0.2.2.1 K' B' L' f' → extC [(209, 0)] K B L f K' B' L' f' → (0 ≤ v0 ∧ v0 ≤ 23) → (1 ≤ v1 ∧ v1 ≤ 2300) → (97 ≤ v2 ∧ v2 ≤ 2212) → (0 ≤ v3 ∧ v3 ≤ 330) → (2 ≤ v4 ∧ v4 ≤ 330) → (0 ≤ v5 ∧ v5 ≤ 303) → (1 ≤ v6 ∧ v6 ≤ 2147483647) → (21 ≤ v7 ∧ v7 ≤ 22) → ((-2147483648) ≤ v8 ∧ v8 ≤ 2147483647) → (0 ≤ ((-1) + ((-1) * v5 + v6))) → (r0 ∈ L' ∧ K' r0 = 200) → (∀ b ∈ L', K' b = 203 → (0 : Int) ≤ (2 + v1) ∧ gi (f' b) (((2 + v1) : Int)).toNat = v6) → eW E 0 0 L' f' 64 [(0, .ref r0), (1, .int (Int32.ofInt v0)), (2, .int (Int32.ofInt v1)), (3, .int (Int32.ofInt v2)), (4, .int (Int32.ofInt v3)), (5, .int (Int32.ofInt ((-1) + v4))), (6, .int (Int32.ofInt (1 + v5))), (7, .int (Int32.ofInt v7)), (8, .int (Int32.ofInt v8))] []) : eW E 0 0 L f 64 [(0, .ref r0), (1, .int (Int32.ofInt v0)), (2, .int (Int32.ofInt v1)), (3, .int (Int32.ofInt v2)), (4, .int (Int32.ofInt v3)), (5, .int (Int32.ofInt v4)), (6, .int (Int32.ofInt v5))] [] := by
  obtain ⟨l0, D0, cy0, ax0⟩ := X0
  have hraw : eW E 0 0 L f 64 [(0, .ref r0), (1, .int (Int32.ofInt (0 + (1 * v0 + 0)))), (2, .int (Int32.ofInt (0 + (1 * v1 + 0)))), (3, .int (Int32.ofInt (0 + (1 * v2 + 0)))), (4, .int (Int32.ofInt (0 + (1 * v3 + 0)))), (5, .int (Int32.ofInt (0 + (1 * v4 + 0)))), (6, .int (Int32.ofInt (0 + (1 * v5 + 0))))] [] := ?_
  · simpa only [Int.zero_add, Int.one_mul, Int.add_zero] using hraw
  have rq0 : 0 ≤ ((-1) + (1 * v6 + ((-1) * v5 + 0))) := by simpa only [Int.zero_add, Int.one_mul, Int.add_zero] using hq0
  have rm0 : (∀ b ∈ L, K b = 203 → (0 : Int) ≤ (2 + (1 * v1 + 0)) ∧ gi (f b) (((2 + (1 * v1 + 0)) : Int)).toNat = (0 + (1 * v6 + 0))) := by simpa only [Int.zero_add, Int.one_mul, Int.add_zero] using hm0
  have rm1 : (∀ b ∈ L, K b = 203 → (0 : Int) ≤ (0 + (2 * v5 + (1 * v2 + 0))) ∧ gi (f b) (((0 + (2 * v5 + (1 * v2 + 0))) : Int)).toNat = (0 + (1 * v7 + 0))) := by simpa only [Int.zero_add, Int.one_mul, Int.add_zero] using hm1
  have rm2 : (∀ b ∈ L, K b = 203 → (0 : Int) ≤ (1 + (1 * v2 + (2 * v5 + 0))) ∧ gi (f b) (((1 + (1 * v2 + (2 * v5 + 0))) : Int)).toNat = (0 + (1 * v8 + 0))) := by simpa only [Int.zero_add, Int.one_mul, Int.add_zero] using hm2
  refine seg_ok (D := D_wk21) (νi := fun i => [v0, v1, v2, v3, v4, v5, v6, v7, v8].getD i 0) (μi := fun i => [r0].getD i 0) k_wk21 hE (mk_ok (ins := iX12_worked) jX12_worked fX12_ok lX12_ok kX12_ok kkX12_ok H) (by decide) rfl rfl rfl rfl hh ?_ ?_
  · refine ⟨(eok_of (fun i q hq => ?_) (fun i hi => ?_)), (fa_cons (rq0) fa0), fa0, ?_, (fa_cons (Amok hh (show (zkd 203).1 = 2 by decide) (by decide) rm0) (fa_cons (Amok hh (show (zkd 203).1 = 2 by decide) (by decide) rm1) (fa_cons (Amok hh (show (zkd 203).1 = 2 by decide) (by decide) rm2) fa0))), fa0, fa0⟩
    · match i, hq with
      | 0, hq => cases hq; exact hb0
      | 1, hq => cases hq; exact hb1
      | 2, hq => cases hq; exact hb2
      | 3, hq => cases hq; exact hb3
      | 4, hq => cases hq; exact hb4
      | 5, hq => cases hq; exact hb5
      | 6, hq => cases hq; exact hb6
      | 7, hq => cases hq; exact hb7
      | 8, hq => cases hq; exact hb8
      | i + 9, hq => cases hq
    · match i, hi with
      | 0, hi => exact absurd hi (by decide)
      | 1, hi => exact absurd hi (by decide)
      | 2, hi => exact absurd hi (by decide)
      | 3, hi => exact absurd hi (by decide)
      | 4, hi => exact absurd hi (by decide)
      | 5, hi => exact absurd hi (by decide)
      | 6, hi => exact absurd hi (by decide)
      | 7, hi => exact absurd hi (by decide)
      | 8, hi => exact absurd hi (by decide)
      | i + 9, _ => rfl
    · intro i k hk
      match i, hk with
      | 0, hk => cases hk; exact hr0
      | i + 1, hk => cases hk
  · intro q hq hst K' B' L' f' ν μ h1 h2 h3 h4 h5
    have e0 : ν 0 = v0 := h4 0 (by decide)
    have e1 : ν 1 = v1 := h4 1 (by decide)
    have e2 : ν 2 = v2 := h4 2 (by decide)
    have e3 : ν 3 = v3 := h4 3 (by decide)
    have e4 : ν 4 = v4 := h4 4 (by decide)
    have e5 : ν 5 = v5 := h4 5 (by decide)
    have e6 : ν 6 = v6 := h4 6 (by decide)
    have e7 : ν 7 = v7 := h4 7 (by decide)
    have e8 : ν 8 = v8 := h4 8 (by decide)
    have d0 : μ 0 = r0 := h5 0 (by decide)
    subst e0
    subst e1
    subst e2
    subst e3
    subst e4
    subst e5
    subst e6
    subst e7
    subst e8
    subst d0
    replace hq : q ∈ u_wk21 := hq
    unfold u_wk21 at hq
    simp only [List.mem_cons, List.not_mem_nil, or_false] at hq
    rcases hq with rfl
    · have hst2 : eW E 0 0 L' f' 64 [(0, .ref (μ 0)), (1, .int (Int32.ofInt (0 + (1 * ν 0 + 0)))), (2, .int (Int32.ofInt (0 + (1 * ν 1 + 0)))), (3, .int (Int32.ofInt (0 + (1 * ν 2 + 0)))), (4, .int (Int32.ofInt (0 + (1 * ν 3 + 0)))), (5, .int (Int32.ofInt ((-1) + (1 * ν 4 + 0)))), (6, .int (Int32.ofInt (1 + (1 * ν 5 + 0)))), (7, .int (Int32.ofInt (0 + (1 * ν 7 + 0)))), (8, .int (Int32.ofInt (0 + (1 * ν 8 + 0))))] [] := ?_
      · exact hst2
      try simp only [Int.zero_add, Int.one_mul, Int.add_zero]
      exact k64 K' B' L' f'   h1 h2 (h3.1 0) (h3.1 1) (h3.1 2) (h3.1 3) (h3.1 4) (h3.1 5) (h3.1 6) (h3.1 7) (h3.1 8) (by simpa only [xv, xvT, Int.zero_add, Int.one_mul, Int.add_zero] using (h3.2.1 _ (List.mem_of_getElem? (i := 0) rfl))) (h3.2.2.2.1 0 200 rfl) (by simpa only [xv, xvT, Int.zero_add, Int.one_mul, Int.add_zero] using (mokA h1 (show (zkd 203).1 = 2 by decide) (by decide) (h3.2.2.2.2.1 _ (List.mem_of_getElem? (i := 0) rfl))))

/-! wk30: from 64 to [64, 472] -/
def w_wk30 : TP := ([(0, (2, 0, (0, []))), (1, (0, 0, (0, [(1, 0)]))), (2, (0, 0, (0, [(1, 1)]))), (3, (0, 0, (0, [(1, 2)]))), (4, (0, 0, (0, [(1, 3)]))), (5, (0, 0, (0, [(1, 4)]))), (6, (0, 0, (0, [(1, 5)])))], [], ([(0, 23), (1, 2300), (97, 2212), (0, 329), (0, 330), (0, 303), ((-2147483648), 2147483647), (1, 303), ((-1), 7)], [((-1), [(1, 6), ((-1), 5)])], [], [200], [((203, (2, [(1, 1)])), (0, [(1, 6)])), ((203, (0, [(2, 5), (1, 2)])), (30, [])), ((203, (1, [(1, 2), (2, 5)])), (0, [(1, 7)])), ((200, (31, [])), (0, [(1, 8)]))], [], []), [], [])
def u_wk30 : List (Nat × TP × EX × Nat × Nat) := [(64, ([(0, (2, 0, (0, []))), (1, (0, 0, (0, [(1, 0)]))), (2, (0, 0, (0, [(1, 1)]))), (3, (0, 0, (0, [(1, 2)]))), (4, (0, 0, (1, [(1, 3)]))), (5, (0, 0, (0, [(1, 4)]))), (6, (0, 0, (1, [(1, 7)]))), (7, (0, 0, (30, []))), (8, (0, 0, (0, [(1, 7)])))], [], ([(0, 23), (1, 2300), (97, 2212), (0, 329), (0, 330), (0, 303), (1, 2147483647), (1, 303), ((-1), 7), ((-2147483648), 2147483647), ((-2147483648), 2147483647)], [(0, [((-1), 10), (1, 9)]), (0, [(1, 10), ((-1), 9)]), ((-1), [((-1), 5), (1, 6)])], [], [200], [((200, (35, [])), (0, [(1, 9)])), ((215, (0, [(1, 5)])), (0, [(1, 10)])), ((203, (2, [(1, 1)])), (0, [(1, 6)])), ((200, (31, [])), (0, [(1, 8)]))], [], []), [(2, 200, (35, [])), (2, 215, (0, [(1, 5)]))], []), ((-1), []), 0, 0), (472, ([(0, (2, 0, (0, []))), (1, (0, 0, (0, [(1, 0)]))), (2, (0, 0, (0, [(1, 1)]))), (3, (0, 0, (0, [(1, 2)]))), (4, (0, 0, (0, [(1, 3)]))), (5, (0, 0, (0, [(1, 4)]))), (6, (0, 0, (0, [(1, 5)]))), (7, (0, 0, (30, []))), (8, (0, 0, (0, [(1, 7)])))], [(0, 0, ((-1), [])), (0, 0, (1, [(1, 8)])), (2, 1, (0, []))], ([(0, 23), (1, 2300), (97, 2212), (0, 329), (0, 330), (0, 303), (1, 2147483647), (1, 303), ((-1), 7), ((-2147483648), 2147483647), ((-2147483648), 2147483647)], [((-1), [((-1), 5), (1, 6)])], [], [200, 211], [((213, (1, [(1, 8)])), (0, [(1, 5)])), ((200, (31, [])), (1, [(1, 8)])), ((200, (35, [])), (0, [(1, 9)])), ((215, (0, [(1, 5)])), (0, [(1, 10)])), ((203, (2, [(1, 1)])), (0, [(1, 6)]))], [], []), [(2, 200, (35, [])), (2, 215, (0, [(1, 5)]))], [(1, 2)]), ((-1), []), 0, 0)]
def D_wk30 : DT := (mkD iX12_worked fX12 lX12 kX12 kkX12 309 [] (w_wk30, [(200, 31), (208, 0), (210, 0), (213, 0)], [], 6, 0, 0, 3) false 9 u_wk30)
theorem k_wk30 : chkS D_wk30 4000 0 0 64 = true := by decide +kernel
theorem s_wk30 {X0 : zC0} {E : zCx} (H : ∀ j, j < 309 → CMj X0 j) (hE : zOk E X0 RX12 cX12_worked 9 (zrm 6 0 0)) {K : Nat → Nat} {B : Int} {L : List Nat} {f : Nat → va_E} (hh : hok X0.2.2.1 K B L f) {v0 v1 v2 v3 v4 v5 v6 v7 v8 : Int} {r0 : Nat} (hb0 : 0 ≤ v0 ∧ v0 ≤ 23) (hb1 : 1 ≤ v1 ∧ v1 ≤ 2300) (hb2 : 97 ≤ v2 ∧ v2 ≤ 2212) (hb3 : 0 ≤ v3 ∧ v3 ≤ 329) (hb4 : 0 ≤ v4 ∧ v4 ≤ 330) (hb5 : 0 ≤ v5 ∧ v5 ≤ 303) (hb6 : (-2147483648) ≤ v6 ∧ v6 ≤ 2147483647) (hb7 : 1 ≤ v7 ∧ v7 ≤ 303) (hb8 : (-1) ≤ v8 ∧ v8 ≤ 7) (hq0 : 0 ≤ ((-1) + (v6 + ((-1) * v5)))) (hr0 : r0 ∈ L ∧ K r0 = 200) (hm0 : (∀ b ∈ L, K b = 203 → (0 : Int) ≤ (2 + v1) ∧ gi (f b) (((2 + v1) : Int)).toNat = v6)) (hm1 : (∀ b ∈ L, K b = 203 → (0 : Int) ≤ (2 * v5 + v2) ∧ gi (f b) (((2 * v5 + v2) : Int)).toNat = 30)) (hm2 : (∀ b ∈ L, K b = 203 → (0 : Int) ≤ (1 + (v2 + (2 * v5))) ∧ gi (f b) (((1 + (v2 + (2 * v5))) : Int)).toNat = v7)) (hm3 : (∀ b ∈ L, K b = 200 → gi (f b) 31 = v8)) (k64 : ∀ (K' : Nat → Nat) (B' : Int) (L' : List Nat) (f' : Nat → va_E) (v9 v10 : Int), hok X0.2.2.1 K' B' L' f' → extC [(200, 31), (208, 0), (210, 0), (213, 0)] K B L f K' B' L' f' → (0 ≤ v0 ∧ v0 ≤ 23) → (1 ≤ v1 ∧ v1 ≤ 2300) → (97 ≤ v2 ∧ v2 ≤ 2212) → (0 ≤ v3 ∧ v3 ≤ 329) → (0 ≤ v4 ∧ v4 ≤ 330) → (0 ≤ v5 ∧ v5 ≤ 303) → (1 ≤ v6 ∧ v6 ≤ 2147483647) → (1 ≤ v7 ∧ v7 ≤ 303) → ((-1) ≤ v8 ∧ v8 ≤ 7) → ((-2147483648) ≤ v9 ∧ v9 ≤ 2147483647) → ((-2147483648) ≤ v10 ∧ v10 ≤ 2147483647) → (0 ≤ ((-1) * v10 + v9)) → (0 ≤ (v10 + ((-1) * v9))) → (0 ≤ ((-1) + ((-1) * v5 + v6))) → (r0 ∈ L' ∧ K' r0 = 200) → (∀ b ∈ L', K' b = 200 → gi (f' b) 35 = v9) → (∀ b ∈ L', K' b = 215 → (0 : Int) ≤ v5 ∧ gi (f' b) ((v5 : Int)).toNat = v10) → (∀ b ∈ L', K' b = 203 → (0 : Int) ≤ (2 + v1) ∧ gi (f' b) (((2 + v1) : Int)).toNat = v6) → (∀ b ∈ L', K' b = 200 → gi (f' b) 31 = v8) → eW E 0 0 L' f' 64 [(0, .ref r0), (1, .int (Int32.ofInt v0)), (2, .int (Int32.ofInt v1)), (3, .int (Int32.ofInt v2)), (4, .int (Int32.ofInt (1 + v3))), (5, .int (Int32.ofInt v4)), (6, .int (Int32.ofInt (1 + v7))), (7, .int (Int32.ofInt 30)), (8, .int (Int32.ofInt v7))] []) (k472 : ∀ (K' : Nat → Nat) (B' : Int) (L' : List Nat) (f' : Nat → va_E) (v9 v10 : Int) (r1 : Nat), hok X0.2.2.1 K' B' L' f' → extC [(200, 31), (208, 0), (210, 0), (213, 0)] K B L f K' B' L' f' → (0 ≤ v0 ∧ v0 ≤ 23) → (1 ≤ v1 ∧ v1 ≤ 2300) → (97 ≤ v2 ∧ v2 ≤ 2212) → (0 ≤ v3 ∧ v3 ≤ 329) → (0 ≤ v4 ∧ v4 ≤ 330) → (0 ≤ v5 ∧ v5 ≤ 303) → (1 ≤ v6 ∧ v6 ≤ 2147483647) → (1 ≤ v7 ∧ v7 ≤ 303) → ((-1) ≤ v8 ∧ v8 ≤ 7) → ((-2147483648) ≤ v9 ∧ v9 ≤ 2147483647) → ((-2147483648) ≤ v10 ∧ v10 ≤ 2147483647) → (0 ≤ ((-1) + ((-1) * v5 + v6))) → (r0 ∈ L' ∧ K' r0 = 200) → (r1 ∈ L' ∧ K' r1 = 211) → (∀ b ∈ L', K' b = 213 → (0 : Int) ≤ (1 + v8) ∧ gi (f' b) (((1 + v8) : Int)).toNat = v5) → (∀ b ∈ L', K' b = 200 → gi (f' b) 31 = (1 + v8)) → (∀ b ∈ L', K' b = 200 → gi (f' b) 35 = v9) → (∀ b ∈ L', K' b = 215 → (0 : Int) ≤ v5 ∧ gi (f' b) ((v5 : Int)).toNat = v10) → (∀ b ∈ L', K' b = 203 → (0 : Int) ≤ (2 + v1) ∧ gi (f' b) (((2 + v1) : Int)).toNat = v6) → eW E 0 0 L' f' 472 [(0, .ref r0), (1, .int (Int32.ofInt v0)), (2, .int (Int32.ofInt v1)), (3, .int (Int32.ofInt v2)), (4, .int (Int32.ofInt v3)), (5, .int (Int32.ofInt v4)), (6, .int (Int32.ofInt v5)), (7, .int (Int32.ofInt 30)), (8, .int (Int32.ofInt v7))] [.int (Int32.ofInt (-1)), .int (Int32.ofInt (1 + v8)), .ref r1]) : eW E 0 0 L f 64 [(0, .ref r0), (1, .int (Int32.ofInt v0)), (2, .int (Int32.ofInt v1)), (3, .int (Int32.ofInt v2)), (4, .int (Int32.ofInt v3)), (5, .int (Int32.ofInt v4)), (6, .int (Int32.ofInt v5))] [] := by
  obtain ⟨l0, D0, cy0, ax0⟩ := X0
  have hraw : eW E 0 0 L f 64 [(0, .ref r0), (1, .int (Int32.ofInt (0 + (1 * v0 + 0)))), (2, .int (Int32.ofInt (0 + (1 * v1 + 0)))), (3, .int (Int32.ofInt (0 + (1 * v2 + 0)))), (4, .int (Int32.ofInt (0 + (1 * v3 + 0)))), (5, .int (Int32.ofInt (0 + (1 * v4 + 0)))), (6, .int (Int32.ofInt (0 + (1 * v5 + 0))))] [] := ?_
  · simpa only [Int.zero_add, Int.one_mul, Int.add_zero] using hraw
  have rq0 : 0 ≤ ((-1) + (1 * v6 + ((-1) * v5 + 0))) := by simpa only [Int.zero_add, Int.one_mul, Int.add_zero] using hq0
  have rm0 : (∀ b ∈ L, K b = 203 → (0 : Int) ≤ (2 + (1 * v1 + 0)) ∧ gi (f b) (((2 + (1 * v1 + 0)) : Int)).toNat = (0 + (1 * v6 + 0))) := by simpa only [Int.zero_add, Int.one_mul, Int.add_zero] using hm0
  have rm1 : (∀ b ∈ L, K b = 203 → (0 : Int) ≤ (0 + (2 * v5 + (1 * v2 + 0))) ∧ gi (f b) (((0 + (2 * v5 + (1 * v2 + 0))) : Int)).toNat = (30 + 0)) := by simpa only [Int.zero_add, Int.one_mul, Int.add_zero] using hm1
  have rm2 : (∀ b ∈ L, K b = 203 → (0 : Int) ≤ (1 + (1 * v2 + (2 * v5 + 0))) ∧ gi (f b) (((1 + (1 * v2 + (2 * v5 + 0))) : Int)).toNat = (0 + (1 * v7 + 0))) := by simpa only [Int.zero_add, Int.one_mul, Int.add_zero] using hm2
  have rm3 : (∀ b ∈ L, K b = 200 → gi (f b) 31 = (0 + (1 * v8 + 0))) := by simpa only [Int.zero_add, Int.one_mul, Int.add_zero] using hm3
  refine seg_ok (D := D_wk30) (νi := fun i => [v0, v1, v2, v3, v4, v5, v6, v7, v8].getD i 0) (μi := fun i => [r0].getD i 0) k_wk30 hE (mk_ok (ins := iX12_worked) jX12_worked fX12_ok lX12_ok kX12_ok kkX12_ok H) (by decide) rfl rfl rfl rfl hh ?_ ?_
  · refine ⟨(eok_of (fun i q hq => ?_) (fun i hi => ?_)), (fa_cons (rq0) fa0), fa0, ?_, (fa_cons (Amok hh (show (zkd 203).1 = 2 by decide) (by decide) rm0) (fa_cons (Amok hh (show (zkd 203).1 = 2 by decide) (by decide) rm1) (fa_cons (Amok hh (show (zkd 203).1 = 2 by decide) (by decide) rm2) (fa_cons (Fmok hh (show (zkd 200).1 = 1 by decide) (j := 31) rfl (by decide) rm3) fa0)))), fa0, fa0⟩
    · match i, hq with
      | 0, hq => cases hq; exact hb0
      | 1, hq => cases hq; exact hb1
      | 2, hq => cases hq; exact hb2
      | 3, hq => cases hq; exact hb3
      | 4, hq => cases hq; exact hb4
      | 5, hq => cases hq; exact hb5
      | 6, hq => cases hq; exact hb6
      | 7, hq => cases hq; exact hb7
      | 8, hq => cases hq; exact hb8
      | i + 9, hq => cases hq
    · match i, hi with
      | 0, hi => exact absurd hi (by decide)
      | 1, hi => exact absurd hi (by decide)
      | 2, hi => exact absurd hi (by decide)
      | 3, hi => exact absurd hi (by decide)
      | 4, hi => exact absurd hi (by decide)
      | 5, hi => exact absurd hi (by decide)
      | 6, hi => exact absurd hi (by decide)
      | 7, hi => exact absurd hi (by decide)
      | 8, hi => exact absurd hi (by decide)
      | i + 9, _ => rfl
    · intro i k hk
      match i, hk with
      | 0, hk => cases hk; exact hr0
      | i + 1, hk => cases hk
  · intro q hq hst K' B' L' f' ν μ h1 h2 h3 h4 h5
    have e0 : ν 0 = v0 := h4 0 (by decide)
    have e1 : ν 1 = v1 := h4 1 (by decide)
    have e2 : ν 2 = v2 := h4 2 (by decide)
    have e3 : ν 3 = v3 := h4 3 (by decide)
    have e4 : ν 4 = v4 := h4 4 (by decide)
    have e5 : ν 5 = v5 := h4 5 (by decide)
    have e6 : ν 6 = v6 := h4 6 (by decide)
    have e7 : ν 7 = v7 := h4 7 (by decide)
    have e8 : ν 8 = v8 := h4 8 (by decide)
    have d0 : μ 0 = r0 := h5 0 (by decide)
    subst e0
    subst e1
    subst e2
    subst e3
    subst e4
    subst e5
    subst e6
    subst e7
    subst e8
    subst d0
    replace hq : q ∈ u_wk30 := hq
    unfold u_wk30 at hq
    simp only [List.mem_cons, List.not_mem_nil, or_false] at hq
    rcases hq with rfl | rfl
    · have hst2 : eW E 0 0 L' f' 64 [(0, .ref (μ 0)), (1, .int (Int32.ofInt (0 + (1 * ν 0 + 0)))), (2, .int (Int32.ofInt (0 + (1 * ν 1 + 0)))), (3, .int (Int32.ofInt (0 + (1 * ν 2 + 0)))), (4, .int (Int32.ofInt (1 + (1 * ν 3 + 0)))), (5, .int (Int32.ofInt (0 + (1 * ν 4 + 0)))), (6, .int (Int32.ofInt (1 + (1 * ν 7 + 0)))), (7, .int (Int32.ofInt (30 + 0))), (8, .int (Int32.ofInt (0 + (1 * ν 7 + 0))))] [] := ?_
      · exact hst2
      try simp only [Int.zero_add, Int.one_mul, Int.add_zero]
      exact k64 K' B' L' f' (ν 9) (ν 10)  h1 h2 (h3.1 0) (h3.1 1) (h3.1 2) (h3.1 3) (h3.1 4) (h3.1 5) (h3.1 6) (h3.1 7) (h3.1 8) (h3.1 9) (h3.1 10) (by simpa only [xv, xvT, Int.zero_add, Int.one_mul, Int.add_zero] using (h3.2.1 _ (List.mem_of_getElem? (i := 0) rfl))) (by simpa only [xv, xvT, Int.zero_add, Int.one_mul, Int.add_zero] using (h3.2.1 _ (List.mem_of_getElem? (i := 1) rfl))) (by simpa only [xv, xvT, Int.zero_add, Int.one_mul, Int.add_zero] using (h3.2.1 _ (List.mem_of_getElem? (i := 2) rfl))) (h3.2.2.2.1 0 200 rfl) (by simpa only [xv, xvT, Int.zero_add, Int.one_mul, Int.add_zero] using (mokF h1 (show (zkd 200).1 = 1 by decide) (j := 35) rfl (by decide) (h3.2.2.2.2.1 _ (List.mem_of_getElem? (i := 0) rfl)))) (by simpa only [xv, xvT, Int.zero_add, Int.one_mul, Int.add_zero] using (mokA h1 (show (zkd 215).1 = 2 by decide) (by decide) (h3.2.2.2.2.1 _ (List.mem_of_getElem? (i := 1) rfl)))) (by simpa only [xv, xvT, Int.zero_add, Int.one_mul, Int.add_zero] using (mokA h1 (show (zkd 203).1 = 2 by decide) (by decide) (h3.2.2.2.2.1 _ (List.mem_of_getElem? (i := 2) rfl)))) (by simpa only [xv, xvT, Int.zero_add, Int.one_mul, Int.add_zero] using (mokF h1 (show (zkd 200).1 = 1 by decide) (j := 31) rfl (by decide) (h3.2.2.2.2.1 _ (List.mem_of_getElem? (i := 3) rfl))))
    · have hst2 : eW E 0 0 L' f' 472 [(0, .ref (μ 0)), (1, .int (Int32.ofInt (0 + (1 * ν 0 + 0)))), (2, .int (Int32.ofInt (0 + (1 * ν 1 + 0)))), (3, .int (Int32.ofInt (0 + (1 * ν 2 + 0)))), (4, .int (Int32.ofInt (0 + (1 * ν 3 + 0)))), (5, .int (Int32.ofInt (0 + (1 * ν 4 + 0)))), (6, .int (Int32.ofInt (0 + (1 * ν 5 + 0)))), (7, .int (Int32.ofInt (30 + 0))), (8, .int (Int32.ofInt (0 + (1 * ν 7 + 0))))] [.int (Int32.ofInt ((-1) + 0)), .int (Int32.ofInt (1 + (1 * ν 8 + 0))), .ref (μ 1)] := ?_
      · exact hst2
      try simp only [Int.zero_add, Int.one_mul, Int.add_zero]
      exact k472 K' B' L' f' (ν 9) (ν 10) (μ 1) h1 h2 (h3.1 0) (h3.1 1) (h3.1 2) (h3.1 3) (h3.1 4) (h3.1 5) (h3.1 6) (h3.1 7) (h3.1 8) (h3.1 9) (h3.1 10) (by simpa only [xv, xvT, Int.zero_add, Int.one_mul, Int.add_zero] using (h3.2.1 _ (List.mem_of_getElem? (i := 0) rfl))) (h3.2.2.2.1 0 200 rfl) (h3.2.2.2.1 1 211 rfl) (by simpa only [xv, xvT, Int.zero_add, Int.one_mul, Int.add_zero] using (mokA h1 (show (zkd 213).1 = 2 by decide) (by decide) (h3.2.2.2.2.1 _ (List.mem_of_getElem? (i := 0) rfl)))) (by simpa only [xv, xvT, Int.zero_add, Int.one_mul, Int.add_zero] using (mokF h1 (show (zkd 200).1 = 1 by decide) (j := 31) rfl (by decide) (h3.2.2.2.2.1 _ (List.mem_of_getElem? (i := 1) rfl)))) (by simpa only [xv, xvT, Int.zero_add, Int.one_mul, Int.add_zero] using (mokF h1 (show (zkd 200).1 = 1 by decide) (j := 35) rfl (by decide) (h3.2.2.2.2.1 _ (List.mem_of_getElem? (i := 2) rfl)))) (by simpa only [xv, xvT, Int.zero_add, Int.one_mul, Int.add_zero] using (mokA h1 (show (zkd 215).1 = 2 by decide) (by decide) (h3.2.2.2.2.1 _ (List.mem_of_getElem? (i := 3) rfl)))) (by simpa only [xv, xvT, Int.zero_add, Int.one_mul, Int.add_zero] using (mokA h1 (show (zkd 203).1 = 2 by decide) (by decide) (h3.2.2.2.2.1 _ (List.mem_of_getElem? (i := 4) rfl))))

/-! wk473: from 473 to [562] -/
def w_wk473 : TP := ([(0, (2, 0, (0, []))), (1, (0, 0, (0, [(1, 0)]))), (2, (0, 0, (0, [(1, 1)]))), (3, (0, 0, (0, [(1, 2)]))), (4, (0, 0, (0, [(1, 3)]))), (5, (0, 0, (0, [(1, 4)]))), (6, (0, 0, (0, [(1, 5)]))), (7, (0, 0, (30, []))), (8, (0, 0, (0, [(1, 6)])))], [], ([(0, 23), (1, 2300), (97, 2212), (0, 329), (0, 330), (0, 303), (0, 303), (0, 8)], [], [], [200], [((200, (31, [])), (0, [(1, 7)]))], [], []), [], [])
def u_wk473 : List (Nat × TP × EX × Nat × Nat) := [(562, ([(0, (2, 0, (0, []))), (1, (0, 0, (0, [(1, 0)]))), (2, (0, 0, (0, [(1, 1)]))), (3, (0, 0, (0, [(1, 2)]))), (4, (0, 0, (0, [(1, 3)]))), (5, (0, 0, (0, [(1, 4)]))), (6, (0, 0, (0, [(1, 5)]))), (7, (0, 0, (30, []))), (8, (0, 0, (0, [(1, 6)])))], [(2, 0, (0, []))], ([(0, 23), (1, 2300), (97, 2212), (0, 329), (0, 330), (0, 303), (0, 303), (0, 8), ((-1), 7)], [], [], [200], [((212, (0, [(1, 7)])), (0, [(1, 8)])), ((200, (30, [])), (0, [(1, 8)])), ((200, (31, [])), (0, [(1, 7)]))], [], []), [(2, 212, (0, [(1, 7)]))], []), ((-1), []), 0, 0)]
def D_wk473 : DT := (mkD iX12_worked fX12 lX12 kX12 kkX12 309 [] (w_wk473, [(212, 0)], [], 6, 0, 0, 3) false 9 u_wk473)
theorem k_wk473 : chkS D_wk473 4000 0 0 473 = true := by decide +kernel
theorem s_wk473 {X0 : zC0} {E : zCx} (H : ∀ j, j < 309 → CMj X0 j) (hE : zOk E X0 RX12 cX12_worked 9 (zrm 6 0 0)) {K : Nat → Nat} {B : Int} {L : List Nat} {f : Nat → va_E} (hh : hok X0.2.2.1 K B L f) {v0 v1 v2 v3 v4 v5 v6 v7 : Int} {r0 : Nat} (hb0 : 0 ≤ v0 ∧ v0 ≤ 23) (hb1 : 1 ≤ v1 ∧ v1 ≤ 2300) (hb2 : 97 ≤ v2 ∧ v2 ≤ 2212) (hb3 : 0 ≤ v3 ∧ v3 ≤ 329) (hb4 : 0 ≤ v4 ∧ v4 ≤ 330) (hb5 : 0 ≤ v5 ∧ v5 ≤ 303) (hb6 : 0 ≤ v6 ∧ v6 ≤ 303) (hb7 : 0 ≤ v7 ∧ v7 ≤ 8) (hr0 : r0 ∈ L ∧ K r0 = 200) (hm0 : (∀ b ∈ L, K b = 200 → gi (f b) 31 = v7)) (k562 : ∀ (K' : Nat → Nat) (B' : Int) (L' : List Nat) (f' : Nat → va_E) (v8 : Int), hok X0.2.2.1 K' B' L' f' → extC [(212, 0)] K B L f K' B' L' f' → (0 ≤ v0 ∧ v0 ≤ 23) → (1 ≤ v1 ∧ v1 ≤ 2300) → (97 ≤ v2 ∧ v2 ≤ 2212) → (0 ≤ v3 ∧ v3 ≤ 329) → (0 ≤ v4 ∧ v4 ≤ 330) → (0 ≤ v5 ∧ v5 ≤ 303) → (0 ≤ v6 ∧ v6 ≤ 303) → (0 ≤ v7 ∧ v7 ≤ 8) → ((-1) ≤ v8 ∧ v8 ≤ 7) → (r0 ∈ L' ∧ K' r0 = 200) → (∀ b ∈ L', K' b = 212 → (0 : Int) ≤ v7 ∧ gi (f' b) ((v7 : Int)).toNat = v8) → (∀ b ∈ L', K' b = 200 → gi (f' b) 30 = v8) → (∀ b ∈ L', K' b = 200 → gi (f' b) 31 = v7) → eW E 0 0 L' f' 562 [(0, .ref r0), (1, .int (Int32.ofInt v0)), (2, .int (Int32.ofInt v1)), (3, .int (Int32.ofInt v2)), (4, .int (Int32.ofInt v3)), (5, .int (Int32.ofInt v4)), (6, .int (Int32.ofInt v5)), (7, .int (Int32.ofInt 30)), (8, .int (Int32.ofInt v6))] [.ref r0]) : eW E 0 0 L f 473 [(0, .ref r0), (1, .int (Int32.ofInt v0)), (2, .int (Int32.ofInt v1)), (3, .int (Int32.ofInt v2)), (4, .int (Int32.ofInt v3)), (5, .int (Int32.ofInt v4)), (6, .int (Int32.ofInt v5)), (7, .int (Int32.ofInt 30)), (8, .int (Int32.ofInt v6))] [] := by
  obtain ⟨l0, D0, cy0, ax0⟩ := X0
  have hraw : eW E 0 0 L f 473 [(0, .ref r0), (1, .int (Int32.ofInt (0 + (1 * v0 + 0)))), (2, .int (Int32.ofInt (0 + (1 * v1 + 0)))), (3, .int (Int32.ofInt (0 + (1 * v2 + 0)))), (4, .int (Int32.ofInt (0 + (1 * v3 + 0)))), (5, .int (Int32.ofInt (0 + (1 * v4 + 0)))), (6, .int (Int32.ofInt (0 + (1 * v5 + 0)))), (7, .int (Int32.ofInt (30 + 0))), (8, .int (Int32.ofInt (0 + (1 * v6 + 0))))] [] := ?_
  · simpa only [Int.zero_add, Int.one_mul, Int.add_zero] using hraw
  have rm0 : (∀ b ∈ L, K b = 200 → gi (f b) 31 = (0 + (1 * v7 + 0))) := by simpa only [Int.zero_add, Int.one_mul, Int.add_zero] using hm0
  refine seg_ok (D := D_wk473) (νi := fun i => [v0, v1, v2, v3, v4, v5, v6, v7].getD i 0) (μi := fun i => [r0].getD i 0) k_wk473 hE (mk_ok (ins := iX12_worked) jX12_worked fX12_ok lX12_ok kX12_ok kkX12_ok H) (by decide) rfl rfl rfl rfl hh ?_ ?_
  · refine ⟨(eok_of (fun i q hq => ?_) (fun i hi => ?_)), fa0, fa0, ?_, (fa_cons (Fmok hh (show (zkd 200).1 = 1 by decide) (j := 31) rfl (by decide) rm0) fa0), fa0, fa0⟩
    · match i, hq with
      | 0, hq => cases hq; exact hb0
      | 1, hq => cases hq; exact hb1
      | 2, hq => cases hq; exact hb2
      | 3, hq => cases hq; exact hb3
      | 4, hq => cases hq; exact hb4
      | 5, hq => cases hq; exact hb5
      | 6, hq => cases hq; exact hb6
      | 7, hq => cases hq; exact hb7
      | i + 8, hq => cases hq
    · match i, hi with
      | 0, hi => exact absurd hi (by decide)
      | 1, hi => exact absurd hi (by decide)
      | 2, hi => exact absurd hi (by decide)
      | 3, hi => exact absurd hi (by decide)
      | 4, hi => exact absurd hi (by decide)
      | 5, hi => exact absurd hi (by decide)
      | 6, hi => exact absurd hi (by decide)
      | 7, hi => exact absurd hi (by decide)
      | i + 8, _ => rfl
    · intro i k hk
      match i, hk with
      | 0, hk => cases hk; exact hr0
      | i + 1, hk => cases hk
  · intro q hq hst K' B' L' f' ν μ h1 h2 h3 h4 h5
    have e0 : ν 0 = v0 := h4 0 (by decide)
    have e1 : ν 1 = v1 := h4 1 (by decide)
    have e2 : ν 2 = v2 := h4 2 (by decide)
    have e3 : ν 3 = v3 := h4 3 (by decide)
    have e4 : ν 4 = v4 := h4 4 (by decide)
    have e5 : ν 5 = v5 := h4 5 (by decide)
    have e6 : ν 6 = v6 := h4 6 (by decide)
    have e7 : ν 7 = v7 := h4 7 (by decide)
    have d0 : μ 0 = r0 := h5 0 (by decide)
    subst e0
    subst e1
    subst e2
    subst e3
    subst e4
    subst e5
    subst e6
    subst e7
    subst d0
    replace hq : q ∈ u_wk473 := hq
    unfold u_wk473 at hq
    simp only [List.mem_cons, List.not_mem_nil, or_false] at hq
    rcases hq with rfl
    · have hst2 : eW E 0 0 L' f' 562 [(0, .ref (μ 0)), (1, .int (Int32.ofInt (0 + (1 * ν 0 + 0)))), (2, .int (Int32.ofInt (0 + (1 * ν 1 + 0)))), (3, .int (Int32.ofInt (0 + (1 * ν 2 + 0)))), (4, .int (Int32.ofInt (0 + (1 * ν 3 + 0)))), (5, .int (Int32.ofInt (0 + (1 * ν 4 + 0)))), (6, .int (Int32.ofInt (0 + (1 * ν 5 + 0)))), (7, .int (Int32.ofInt (30 + 0))), (8, .int (Int32.ofInt (0 + (1 * ν 6 + 0))))] [.ref (μ 0)] := ?_
      · exact hst2
      try simp only [Int.zero_add, Int.one_mul, Int.add_zero]
      exact k562 K' B' L' f' (ν 8)  h1 h2 (h3.1 0) (h3.1 1) (h3.1 2) (h3.1 3) (h3.1 4) (h3.1 5) (h3.1 6) (h3.1 7) (h3.1 8) (h3.2.2.2.1 0 200 rfl) (by simpa only [xv, xvT, Int.zero_add, Int.one_mul, Int.add_zero] using (mokA h1 (show (zkd 212).1 = 2 by decide) (by decide) (h3.2.2.2.2.1 _ (List.mem_of_getElem? (i := 0) rfl)))) (by simpa only [xv, xvT, Int.zero_add, Int.one_mul, Int.add_zero] using (mokF h1 (show (zkd 200).1 = 1 by decide) (j := 30) rfl (by decide) (h3.2.2.2.2.1 _ (List.mem_of_getElem? (i := 1) rfl)))) (by simpa only [xv, xvT, Int.zero_add, Int.one_mul, Int.add_zero] using (mokF h1 (show (zkd 200).1 = 1 by decide) (j := 31) rfl (by decide) (h3.2.2.2.2.1 _ (List.mem_of_getElem? (i := 2) rfl))))

/-! wk31: from 64 to [562] -/
def w_wk31 : TP := ([(0, (2, 0, (0, []))), (1, (0, 0, (0, [(1, 0)]))), (2, (0, 0, (0, [(1, 1)]))), (3, (0, 0, (0, [(1, 2)]))), (4, (0, 0, (0, [(1, 3)]))), (5, (0, 0, (0, [(1, 4)]))), (6, (0, 0, (0, [(1, 5)])))], [], ([(0, 23), (1, 2300), (97, 2212), (1, 330), (0, 330), (0, 303), ((-2147483648), 2147483647), (0, 303), (0, 8)], [((-1), [(1, 6), ((-1), 5)])], [], [200], [((203, (2, [(1, 1)])), (0, [(1, 6)])), ((203, (0, [(2, 5), (1, 2)])), (31, [])), ((203, (1, [(1, 2), (2, 5)])), (0, [(1, 7)])), ((200, (31, [])), (0, [(1, 8)]))], [], []), [], [])
def u_wk31 : List (Nat × TP × EX × Nat × Nat) := [(562, ([(0, (2, 0, (0, []))), (1, (0, 0, (0, [(1, 0)]))), (2, (0, 0, (0, [(1, 1)]))), (3, (0, 0, (0, [(1, 2)]))), (4, (0, 0, ((-1), [(1, 3)]))), (5, (0, 0, (0, [(1, 4)]))), (6, (0, 0, (0, [(1, 5)]))), (7, (0, 0, (31, []))), (8, (0, 0, (0, [(1, 7)])))], [(2, 0, (0, []))], ([(0, 23), (1, 2300), (97, 2212), (1, 330), (0, 330), (0, 303), (1, 2147483647), (0, 303), (0, 8)], [((-1), [((-1), 5), (1, 6)])], [], [200], [((203, (2, [(1, 1)])), (0, [(1, 6)])), ((200, (31, [])), (0, [(1, 8)]))], [], []), [], []), ((-1), []), 0, 0)]
def D_wk31 : DT := (mkD iX12_worked fX12 lX12 kX12 kkX12 309 [(524, [308])] (w_wk31, [(210, 0)], [], 6, 0, 0, 3) false 9 u_wk31)
theorem k_wk31 : chkS D_wk31 4000 0 0 64 = true := by decide +kernel
theorem s_wk31 {X0 : zC0} {E : zCx} (H : ∀ j, j < 309 → CMj X0 j) (hE : zOk E X0 RX12 cX12_worked 9 (zrm 6 0 0)) {K : Nat → Nat} {B : Int} {L : List Nat} {f : Nat → va_E} (hh : hok X0.2.2.1 K B L f) {v0 v1 v2 v3 v4 v5 v6 v7 v8 : Int} {r0 : Nat} (hb0 : 0 ≤ v0 ∧ v0 ≤ 23) (hb1 : 1 ≤ v1 ∧ v1 ≤ 2300) (hb2 : 97 ≤ v2 ∧ v2 ≤ 2212) (hb3 : 1 ≤ v3 ∧ v3 ≤ 330) (hb4 : 0 ≤ v4 ∧ v4 ≤ 330) (hb5 : 0 ≤ v5 ∧ v5 ≤ 303) (hb6 : (-2147483648) ≤ v6 ∧ v6 ≤ 2147483647) (hb7 : 0 ≤ v7 ∧ v7 ≤ 303) (hb8 : 0 ≤ v8 ∧ v8 ≤ 8) (hq0 : 0 ≤ ((-1) + (v6 + ((-1) * v5)))) (hr0 : r0 ∈ L ∧ K r0 = 200) (hm0 : (∀ b ∈ L, K b = 203 → (0 : Int) ≤ (2 + v1) ∧ gi (f b) (((2 + v1) : Int)).toNat = v6)) (hm1 : (∀ b ∈ L, K b = 203 → (0 : Int) ≤ (2 * v5 + v2) ∧ gi (f b) (((2 * v5 + v2) : Int)).toNat = 31)) (hm2 : (∀ b ∈ L, K b = 203 → (0 : Int) ≤ (1 + (v2 + (2 * v5))) ∧ gi (f b) (((1 + (v2 + (2 * v5))) : Int)).toNat = v7)) (hm3 : (∀ b ∈ L, K b = 200 → gi (f b) 31 = v8)) (k562 : ∀ (K' : Nat → Nat) (B' : Int) (L' : List Nat) (f' : Nat → va_E), hok X0.2.2.1 K' B' L' f' → extC [(210, 0)] K B L f K' B' L' f' → (0 ≤ v0 ∧ v0 ≤ 23) → (1 ≤ v1 ∧ v1 ≤ 2300) → (97 ≤ v2 ∧ v2 ≤ 2212) → (1 ≤ v3 ∧ v3 ≤ 330) → (0 ≤ v4 ∧ v4 ≤ 330) → (0 ≤ v5 ∧ v5 ≤ 303) → (1 ≤ v6 ∧ v6 ≤ 2147483647) → (0 ≤ v7 ∧ v7 ≤ 303) → (0 ≤ v8 ∧ v8 ≤ 8) → (0 ≤ ((-1) + ((-1) * v5 + v6))) → (r0 ∈ L' ∧ K' r0 = 200) → (∀ b ∈ L', K' b = 203 → (0 : Int) ≤ (2 + v1) ∧ gi (f' b) (((2 + v1) : Int)).toNat = v6) → (∀ b ∈ L', K' b = 200 → gi (f' b) 31 = v8) → eW E 0 0 L' f' 562 [(0, .ref r0), (1, .int (Int32.ofInt v0)), (2, .int (Int32.ofInt v1)), (3, .int (Int32.ofInt v2)), (4, .int (Int32.ofInt ((-1) + v3))), (5, .int (Int32.ofInt v4)), (6, .int (Int32.ofInt v5)), (7, .int (Int32.ofInt 31)), (8, .int (Int32.ofInt v7))] [.ref r0]) : eW E 0 0 L f 64 [(0, .ref r0), (1, .int (Int32.ofInt v0)), (2, .int (Int32.ofInt v1)), (3, .int (Int32.ofInt v2)), (4, .int (Int32.ofInt v3)), (5, .int (Int32.ofInt v4)), (6, .int (Int32.ofInt v5))] [] := by
  obtain ⟨l0, D0, cy0, ax0⟩ := X0
  have hraw : eW E 0 0 L f 64 [(0, .ref r0), (1, .int (Int32.ofInt (0 + (1 * v0 + 0)))), (2, .int (Int32.ofInt (0 + (1 * v1 + 0)))), (3, .int (Int32.ofInt (0 + (1 * v2 + 0)))), (4, .int (Int32.ofInt (0 + (1 * v3 + 0)))), (5, .int (Int32.ofInt (0 + (1 * v4 + 0)))), (6, .int (Int32.ofInt (0 + (1 * v5 + 0))))] [] := ?_
  · simpa only [Int.zero_add, Int.one_mul, Int.add_zero] using hraw
  have rq0 : 0 ≤ ((-1) + (1 * v6 + ((-1) * v5 + 0))) := by simpa only [Int.zero_add, Int.one_mul, Int.add_zero] using hq0
  have rm0 : (∀ b ∈ L, K b = 203 → (0 : Int) ≤ (2 + (1 * v1 + 0)) ∧ gi (f b) (((2 + (1 * v1 + 0)) : Int)).toNat = (0 + (1 * v6 + 0))) := by simpa only [Int.zero_add, Int.one_mul, Int.add_zero] using hm0
  have rm1 : (∀ b ∈ L, K b = 203 → (0 : Int) ≤ (0 + (2 * v5 + (1 * v2 + 0))) ∧ gi (f b) (((0 + (2 * v5 + (1 * v2 + 0))) : Int)).toNat = (31 + 0)) := by simpa only [Int.zero_add, Int.one_mul, Int.add_zero] using hm1
  have rm2 : (∀ b ∈ L, K b = 203 → (0 : Int) ≤ (1 + (1 * v2 + (2 * v5 + 0))) ∧ gi (f b) (((1 + (1 * v2 + (2 * v5 + 0))) : Int)).toNat = (0 + (1 * v7 + 0))) := by simpa only [Int.zero_add, Int.one_mul, Int.add_zero] using hm2
  have rm3 : (∀ b ∈ L, K b = 200 → gi (f b) 31 = (0 + (1 * v8 + 0))) := by simpa only [Int.zero_add, Int.one_mul, Int.add_zero] using hm3
  refine seg_ok (D := D_wk31) (νi := fun i => [v0, v1, v2, v3, v4, v5, v6, v7, v8].getD i 0) (μi := fun i => [r0].getD i 0) k_wk31 hE (mk_ok (ins := iX12_worked) jX12_worked fX12_ok lX12_ok kX12_ok kkX12_ok H) (by decide) rfl rfl rfl rfl hh ?_ ?_
  · refine ⟨(eok_of (fun i q hq => ?_) (fun i hi => ?_)), (fa_cons (rq0) fa0), fa0, ?_, (fa_cons (Amok hh (show (zkd 203).1 = 2 by decide) (by decide) rm0) (fa_cons (Amok hh (show (zkd 203).1 = 2 by decide) (by decide) rm1) (fa_cons (Amok hh (show (zkd 203).1 = 2 by decide) (by decide) rm2) (fa_cons (Fmok hh (show (zkd 200).1 = 1 by decide) (j := 31) rfl (by decide) rm3) fa0)))), fa0, fa0⟩
    · match i, hq with
      | 0, hq => cases hq; exact hb0
      | 1, hq => cases hq; exact hb1
      | 2, hq => cases hq; exact hb2
      | 3, hq => cases hq; exact hb3
      | 4, hq => cases hq; exact hb4
      | 5, hq => cases hq; exact hb5
      | 6, hq => cases hq; exact hb6
      | 7, hq => cases hq; exact hb7
      | 8, hq => cases hq; exact hb8
      | i + 9, hq => cases hq
    · match i, hi with
      | 0, hi => exact absurd hi (by decide)
      | 1, hi => exact absurd hi (by decide)
      | 2, hi => exact absurd hi (by decide)
      | 3, hi => exact absurd hi (by decide)
      | 4, hi => exact absurd hi (by decide)
      | 5, hi => exact absurd hi (by decide)
      | 6, hi => exact absurd hi (by decide)
      | 7, hi => exact absurd hi (by decide)
      | 8, hi => exact absurd hi (by decide)
      | i + 9, _ => rfl
    · intro i k hk
      match i, hk with
      | 0, hk => cases hk; exact hr0
      | i + 1, hk => cases hk
  · intro q hq hst K' B' L' f' ν μ h1 h2 h3 h4 h5
    have e0 : ν 0 = v0 := h4 0 (by decide)
    have e1 : ν 1 = v1 := h4 1 (by decide)
    have e2 : ν 2 = v2 := h4 2 (by decide)
    have e3 : ν 3 = v3 := h4 3 (by decide)
    have e4 : ν 4 = v4 := h4 4 (by decide)
    have e5 : ν 5 = v5 := h4 5 (by decide)
    have e6 : ν 6 = v6 := h4 6 (by decide)
    have e7 : ν 7 = v7 := h4 7 (by decide)
    have e8 : ν 8 = v8 := h4 8 (by decide)
    have d0 : μ 0 = r0 := h5 0 (by decide)
    subst e0
    subst e1
    subst e2
    subst e3
    subst e4
    subst e5
    subst e6
    subst e7
    subst e8
    subst d0
    replace hq : q ∈ u_wk31 := hq
    unfold u_wk31 at hq
    simp only [List.mem_cons, List.not_mem_nil, or_false] at hq
    rcases hq with rfl
    · have hst2 : eW E 0 0 L' f' 562 [(0, .ref (μ 0)), (1, .int (Int32.ofInt (0 + (1 * ν 0 + 0)))), (2, .int (Int32.ofInt (0 + (1 * ν 1 + 0)))), (3, .int (Int32.ofInt (0 + (1 * ν 2 + 0)))), (4, .int (Int32.ofInt ((-1) + (1 * ν 3 + 0)))), (5, .int (Int32.ofInt (0 + (1 * ν 4 + 0)))), (6, .int (Int32.ofInt (0 + (1 * ν 5 + 0)))), (7, .int (Int32.ofInt (31 + 0))), (8, .int (Int32.ofInt (0 + (1 * ν 7 + 0))))] [.ref (μ 0)] := ?_
      · exact hst2
      try simp only [Int.zero_add, Int.one_mul, Int.add_zero]
      exact k562 K' B' L' f'   h1 h2 (h3.1 0) (h3.1 1) (h3.1 2) (h3.1 3) (h3.1 4) (h3.1 5) (h3.1 6) (h3.1 7) (h3.1 8) (by simpa only [xv, xvT, Int.zero_add, Int.one_mul, Int.add_zero] using (h3.2.1 _ (List.mem_of_getElem? (i := 0) rfl))) (h3.2.2.2.1 0 200 rfl) (by simpa only [xv, xvT, Int.zero_add, Int.one_mul, Int.add_zero] using (mokA h1 (show (zkd 203).1 = 2 by decide) (by decide) (h3.2.2.2.2.1 _ (List.mem_of_getElem? (i := 0) rfl)))) (by simpa only [xv, xvT, Int.zero_add, Int.one_mul, Int.add_zero] using (mokF h1 (show (zkd 200).1 = 1 by decide) (j := 31) rfl (by decide) (h3.2.2.2.2.1 _ (List.mem_of_getElem? (i := 1) rfl))))

/-! wk32: from 64 to [562] -/
def w_wk32 : TP := ([(0, (2, 0, (0, []))), (1, (0, 0, (0, [(1, 0)]))), (2, (0, 0, (0, [(1, 1)]))), (3, (0, 0, (0, [(1, 2)]))), (4, (0, 0, (0, [(1, 3)]))), (5, (0, 0, (0, [(1, 4)]))), (6, (0, 0, (0, [(1, 5)])))], [], ([(0, 23), (1, 2300), (97, 2212), (0, 330), (1, 330), (0, 303), ((-2147483648), 2147483647), (0, 303), (0, 8)], [((-1), [(1, 6), ((-1), 5)])], [], [200], [((203, (2, [(1, 1)])), (0, [(1, 6)])), ((203, (0, [(2, 5), (1, 2)])), (32, [])), ((203, (1, [(1, 2), (2, 5)])), (0, [(1, 7)])), ((200, (31, [])), (0, [(1, 8)]))], [], []), [], [])
def u_wk32 : List (Nat × TP × EX × Nat × Nat) := [(562, ([(0, (2, 0, (0, []))), (1, (0, 0, (0, [(1, 0)]))), (2, (0, 0, (0, [(1, 1)]))), (3, (0, 0, (0, [(1, 2)]))), (4, (0, 0, (0, [(1, 3)]))), (5, (0, 0, ((-1), [(1, 4)]))), (6, (0, 0, (0, [(1, 5)]))), (7, (0, 0, (32, []))), (8, (0, 0, (0, [(1, 7)])))], [(2, 0, (0, []))], ([(0, 23), (1, 2300), (97, 2212), (0, 330), (1, 330), (0, 303), (1, 2147483647), (0, 303), (0, 8)], [((-1), [((-1), 5), (1, 6)])], [], [200], [((203, (2, [(1, 1)])), (0, [(1, 6)])), ((200, (31, [])), (0, [(1, 8)]))], [], []), [], []), ((-1), []), 0, 0)]
def D_wk32 : DT := (mkD iX12_worked fX12 lX12 kX12 kkX12 309 [] (w_wk32, [(210, 0)], [], 6, 0, 0, 3) false 9 u_wk32)
theorem k_wk32 : chkS D_wk32 4000 0 0 64 = true := by decide +kernel
theorem s_wk32 {X0 : zC0} {E : zCx} (H : ∀ j, j < 309 → CMj X0 j) (hE : zOk E X0 RX12 cX12_worked 9 (zrm 6 0 0)) {K : Nat → Nat} {B : Int} {L : List Nat} {f : Nat → va_E} (hh : hok X0.2.2.1 K B L f) {v0 v1 v2 v3 v4 v5 v6 v7 v8 : Int} {r0 : Nat} (hb0 : 0 ≤ v0 ∧ v0 ≤ 23) (hb1 : 1 ≤ v1 ∧ v1 ≤ 2300) (hb2 : 97 ≤ v2 ∧ v2 ≤ 2212) (hb3 : 0 ≤ v3 ∧ v3 ≤ 330) (hb4 : 1 ≤ v4 ∧ v4 ≤ 330) (hb5 : 0 ≤ v5 ∧ v5 ≤ 303) (hb6 : (-2147483648) ≤ v6 ∧ v6 ≤ 2147483647) (hb7 : 0 ≤ v7 ∧ v7 ≤ 303) (hb8 : 0 ≤ v8 ∧ v8 ≤ 8) (hq0 : 0 ≤ ((-1) + (v6 + ((-1) * v5)))) (hr0 : r0 ∈ L ∧ K r0 = 200) (hm0 : (∀ b ∈ L, K b = 203 → (0 : Int) ≤ (2 + v1) ∧ gi (f b) (((2 + v1) : Int)).toNat = v6)) (hm1 : (∀ b ∈ L, K b = 203 → (0 : Int) ≤ (2 * v5 + v2) ∧ gi (f b) (((2 * v5 + v2) : Int)).toNat = 32)) (hm2 : (∀ b ∈ L, K b = 203 → (0 : Int) ≤ (1 + (v2 + (2 * v5))) ∧ gi (f b) (((1 + (v2 + (2 * v5))) : Int)).toNat = v7)) (hm3 : (∀ b ∈ L, K b = 200 → gi (f b) 31 = v8)) (k562 : ∀ (K' : Nat → Nat) (B' : Int) (L' : List Nat) (f' : Nat → va_E), hok X0.2.2.1 K' B' L' f' → extC [(210, 0)] K B L f K' B' L' f' → (0 ≤ v0 ∧ v0 ≤ 23) → (1 ≤ v1 ∧ v1 ≤ 2300) → (97 ≤ v2 ∧ v2 ≤ 2212) → (0 ≤ v3 ∧ v3 ≤ 330) → (1 ≤ v4 ∧ v4 ≤ 330) → (0 ≤ v5 ∧ v5 ≤ 303) → (1 ≤ v6 ∧ v6 ≤ 2147483647) → (0 ≤ v7 ∧ v7 ≤ 303) → (0 ≤ v8 ∧ v8 ≤ 8) → (0 ≤ ((-1) + ((-1) * v5 + v6))) → (r0 ∈ L' ∧ K' r0 = 200) → (∀ b ∈ L', K' b = 203 → (0 : Int) ≤ (2 + v1) ∧ gi (f' b) (((2 + v1) : Int)).toNat = v6) → (∀ b ∈ L', K' b = 200 → gi (f' b) 31 = v8) → eW E 0 0 L' f' 562 [(0, .ref r0), (1, .int (Int32.ofInt v0)), (2, .int (Int32.ofInt v1)), (3, .int (Int32.ofInt v2)), (4, .int (Int32.ofInt v3)), (5, .int (Int32.ofInt ((-1) + v4))), (6, .int (Int32.ofInt v5)), (7, .int (Int32.ofInt 32)), (8, .int (Int32.ofInt v7))] [.ref r0]) : eW E 0 0 L f 64 [(0, .ref r0), (1, .int (Int32.ofInt v0)), (2, .int (Int32.ofInt v1)), (3, .int (Int32.ofInt v2)), (4, .int (Int32.ofInt v3)), (5, .int (Int32.ofInt v4)), (6, .int (Int32.ofInt v5))] [] := by
  obtain ⟨l0, D0, cy0, ax0⟩ := X0
  have hraw : eW E 0 0 L f 64 [(0, .ref r0), (1, .int (Int32.ofInt (0 + (1 * v0 + 0)))), (2, .int (Int32.ofInt (0 + (1 * v1 + 0)))), (3, .int (Int32.ofInt (0 + (1 * v2 + 0)))), (4, .int (Int32.ofInt (0 + (1 * v3 + 0)))), (5, .int (Int32.ofInt (0 + (1 * v4 + 0)))), (6, .int (Int32.ofInt (0 + (1 * v5 + 0))))] [] := ?_
  · simpa only [Int.zero_add, Int.one_mul, Int.add_zero] using hraw
  have rq0 : 0 ≤ ((-1) + (1 * v6 + ((-1) * v5 + 0))) := by simpa only [Int.zero_add, Int.one_mul, Int.add_zero] using hq0
  have rm0 : (∀ b ∈ L, K b = 203 → (0 : Int) ≤ (2 + (1 * v1 + 0)) ∧ gi (f b) (((2 + (1 * v1 + 0)) : Int)).toNat = (0 + (1 * v6 + 0))) := by simpa only [Int.zero_add, Int.one_mul, Int.add_zero] using hm0
  have rm1 : (∀ b ∈ L, K b = 203 → (0 : Int) ≤ (0 + (2 * v5 + (1 * v2 + 0))) ∧ gi (f b) (((0 + (2 * v5 + (1 * v2 + 0))) : Int)).toNat = (32 + 0)) := by simpa only [Int.zero_add, Int.one_mul, Int.add_zero] using hm1
  have rm2 : (∀ b ∈ L, K b = 203 → (0 : Int) ≤ (1 + (1 * v2 + (2 * v5 + 0))) ∧ gi (f b) (((1 + (1 * v2 + (2 * v5 + 0))) : Int)).toNat = (0 + (1 * v7 + 0))) := by simpa only [Int.zero_add, Int.one_mul, Int.add_zero] using hm2
  have rm3 : (∀ b ∈ L, K b = 200 → gi (f b) 31 = (0 + (1 * v8 + 0))) := by simpa only [Int.zero_add, Int.one_mul, Int.add_zero] using hm3
  refine seg_ok (D := D_wk32) (νi := fun i => [v0, v1, v2, v3, v4, v5, v6, v7, v8].getD i 0) (μi := fun i => [r0].getD i 0) k_wk32 hE (mk_ok (ins := iX12_worked) jX12_worked fX12_ok lX12_ok kX12_ok kkX12_ok H) (by decide) rfl rfl rfl rfl hh ?_ ?_
  · refine ⟨(eok_of (fun i q hq => ?_) (fun i hi => ?_)), (fa_cons (rq0) fa0), fa0, ?_, (fa_cons (Amok hh (show (zkd 203).1 = 2 by decide) (by decide) rm0) (fa_cons (Amok hh (show (zkd 203).1 = 2 by decide) (by decide) rm1) (fa_cons (Amok hh (show (zkd 203).1 = 2 by decide) (by decide) rm2) (fa_cons (Fmok hh (show (zkd 200).1 = 1 by decide) (j := 31) rfl (by decide) rm3) fa0)))), fa0, fa0⟩
    · match i, hq with
      | 0, hq => cases hq; exact hb0
      | 1, hq => cases hq; exact hb1
      | 2, hq => cases hq; exact hb2
      | 3, hq => cases hq; exact hb3
      | 4, hq => cases hq; exact hb4
      | 5, hq => cases hq; exact hb5
      | 6, hq => cases hq; exact hb6
      | 7, hq => cases hq; exact hb7
      | 8, hq => cases hq; exact hb8
      | i + 9, hq => cases hq
    · match i, hi with
      | 0, hi => exact absurd hi (by decide)
      | 1, hi => exact absurd hi (by decide)
      | 2, hi => exact absurd hi (by decide)
      | 3, hi => exact absurd hi (by decide)
      | 4, hi => exact absurd hi (by decide)
      | 5, hi => exact absurd hi (by decide)
      | 6, hi => exact absurd hi (by decide)
      | 7, hi => exact absurd hi (by decide)
      | 8, hi => exact absurd hi (by decide)
      | i + 9, _ => rfl
    · intro i k hk
      match i, hk with
      | 0, hk => cases hk; exact hr0
      | i + 1, hk => cases hk
  · intro q hq hst K' B' L' f' ν μ h1 h2 h3 h4 h5
    have e0 : ν 0 = v0 := h4 0 (by decide)
    have e1 : ν 1 = v1 := h4 1 (by decide)
    have e2 : ν 2 = v2 := h4 2 (by decide)
    have e3 : ν 3 = v3 := h4 3 (by decide)
    have e4 : ν 4 = v4 := h4 4 (by decide)
    have e5 : ν 5 = v5 := h4 5 (by decide)
    have e6 : ν 6 = v6 := h4 6 (by decide)
    have e7 : ν 7 = v7 := h4 7 (by decide)
    have e8 : ν 8 = v8 := h4 8 (by decide)
    have d0 : μ 0 = r0 := h5 0 (by decide)
    subst e0
    subst e1
    subst e2
    subst e3
    subst e4
    subst e5
    subst e6
    subst e7
    subst e8
    subst d0
    replace hq : q ∈ u_wk32 := hq
    unfold u_wk32 at hq
    simp only [List.mem_cons, List.not_mem_nil, or_false] at hq
    rcases hq with rfl
    · have hst2 : eW E 0 0 L' f' 562 [(0, .ref (μ 0)), (1, .int (Int32.ofInt (0 + (1 * ν 0 + 0)))), (2, .int (Int32.ofInt (0 + (1 * ν 1 + 0)))), (3, .int (Int32.ofInt (0 + (1 * ν 2 + 0)))), (4, .int (Int32.ofInt (0 + (1 * ν 3 + 0)))), (5, .int (Int32.ofInt ((-1) + (1 * ν 4 + 0)))), (6, .int (Int32.ofInt (0 + (1 * ν 5 + 0)))), (7, .int (Int32.ofInt (32 + 0))), (8, .int (Int32.ofInt (0 + (1 * ν 7 + 0))))] [.ref (μ 0)] := ?_
      · exact hst2
      try simp only [Int.zero_add, Int.one_mul, Int.add_zero]
      exact k562 K' B' L' f'   h1 h2 (h3.1 0) (h3.1 1) (h3.1 2) (h3.1 3) (h3.1 4) (h3.1 5) (h3.1 6) (h3.1 7) (h3.1 8) (by simpa only [xv, xvT, Int.zero_add, Int.one_mul, Int.add_zero] using (h3.2.1 _ (List.mem_of_getElem? (i := 0) rfl))) (h3.2.2.2.1 0 200 rfl) (by simpa only [xv, xvT, Int.zero_add, Int.one_mul, Int.add_zero] using (mokA h1 (show (zkd 203).1 = 2 by decide) (by decide) (h3.2.2.2.2.1 _ (List.mem_of_getElem? (i := 0) rfl)))) (by simpa only [xv, xvT, Int.zero_add, Int.one_mul, Int.add_zero] using (mokF h1 (show (zkd 200).1 = 1 by decide) (j := 31) rfl (by decide) (h3.2.2.2.2.1 _ (List.mem_of_getElem? (i := 1) rfl))))

/-! wk565a: from 565 to [64, 590] -/
def w_wk565a : TP := ([(0, (2, 0, (0, []))), (1, (0, 0, (0, [(1, 0)]))), (2, (0, 0, (0, [(1, 1)]))), (3, (0, 0, (0, [(1, 2)]))), (4, (0, 0, (0, [(1, 3)]))), (5, (0, 0, (0, [(1, 4)]))), (6, (0, 0, (0, [(1, 5)]))), (7, (0, 0, (30, []))), (8, (0, 0, (0, [(1, 6)])))], [(0, 0, (0, [(1, 7)]))], ([(0, 23), (1, 2300), (97, 2212), (0, 329), (0, 330), (0, 303), (0, 303), (0, 1)], [], [], [200], [], [], []), [], [])
def u_wk565a : List (Nat × TP × EX × Nat × Nat) := [(64, ([(0, (2, 0, (0, []))), (1, (0, 0, (0, [(1, 0)]))), (2, (0, 0, (0, [(1, 1)]))), (3, (0, 0, (0, [(1, 2)]))), (4, (0, 0, (0, [(1, 3)]))), (5, (0, 0, (0, [(1, 4)]))), (6, (0, 0, (1, [(1, 5)]))), (7, (0, 0, (30, []))), (8, (0, 0, (0, [(1, 6)])))], [], ([(0, 23), (1, 2300), (97, 2212), (0, 329), (0, 330), (0, 303), (0, 303), (1, 1)], [], [], [200], [], [], []), [], []), ((-1), []), 0, 0), (590, ([(0, (2, 0, (0, []))), (1, (0, 0, (0, [(1, 0)]))), (2, (0, 0, (0, [(1, 1)]))), (3, (0, 0, (0, [(1, 2)]))), (4, (0, 0, (0, [(1, 3)]))), (5, (0, 0, (0, [(1, 4)]))), (6, (0, 0, (0, [(1, 5)]))), (7, (0, 0, (30, []))), (8, (0, 0, (0, [(1, 6)])))], [(0, 0, (0, [(1, 3)])), (2, 0, (0, []))], ([(0, 23), (1, 2300), (97, 2212), (0, 329), (0, 330), (0, 303), (0, 303), (0, 0)], [], [], [200], [], [], []), [], []), ((-1), []), 0, 0)]
def D_wk565a : DT := (mkD iX12_worked fX12 lX12 kX12 kkX12 309 [] (w_wk565a, [], [], 6, 0, 0, 3) false 9 u_wk565a)
theorem k_wk565a : chkS D_wk565a 4000 0 0 565 = true := by decide +kernel
theorem s_wk565a {X0 : zC0} {E : zCx} (H : ∀ j, j < 309 → CMj X0 j) (hE : zOk E X0 RX12 cX12_worked 9 (zrm 6 0 0)) {K : Nat → Nat} {B : Int} {L : List Nat} {f : Nat → va_E} (hh : hok X0.2.2.1 K B L f) {v0 v1 v2 v3 v4 v5 v6 v7 : Int} {r0 : Nat} (hb0 : 0 ≤ v0 ∧ v0 ≤ 23) (hb1 : 1 ≤ v1 ∧ v1 ≤ 2300) (hb2 : 97 ≤ v2 ∧ v2 ≤ 2212) (hb3 : 0 ≤ v3 ∧ v3 ≤ 329) (hb4 : 0 ≤ v4 ∧ v4 ≤ 330) (hb5 : 0 ≤ v5 ∧ v5 ≤ 303) (hb6 : 0 ≤ v6 ∧ v6 ≤ 303) (hb7 : 0 ≤ v7 ∧ v7 ≤ 1) (hr0 : r0 ∈ L ∧ K r0 = 200) (k64 : ∀ (K' : Nat → Nat) (B' : Int) (L' : List Nat) (f' : Nat → va_E), hok X0.2.2.1 K' B' L' f' → extC [] K B L f K' B' L' f' → (0 ≤ v0 ∧ v0 ≤ 23) → (1 ≤ v1 ∧ v1 ≤ 2300) → (97 ≤ v2 ∧ v2 ≤ 2212) → (0 ≤ v3 ∧ v3 ≤ 329) → (0 ≤ v4 ∧ v4 ≤ 330) → (0 ≤ v5 ∧ v5 ≤ 303) → (0 ≤ v6 ∧ v6 ≤ 303) → (1 ≤ v7 ∧ v7 ≤ 1) → (r0 ∈ L' ∧ K' r0 = 200) → eW E 0 0 L' f' 64 [(0, .ref r0), (1, .int (Int32.ofInt v0)), (2, .int (Int32.ofInt v1)), (3, .int (Int32.ofInt v2)), (4, .int (Int32.ofInt v3)), (5, .int (Int32.ofInt v4)), (6, .int (Int32.ofInt (1 + v5))), (7, .int (Int32.ofInt 30)), (8, .int (Int32.ofInt v6))] []) (k590 : ∀ (K' : Nat → Nat) (B' : Int) (L' : List Nat) (f' : Nat → va_E), hok X0.2.2.1 K' B' L' f' → extC [] K B L f K' B' L' f' → (0 ≤ v0 ∧ v0 ≤ 23) → (1 ≤ v1 ∧ v1 ≤ 2300) → (97 ≤ v2 ∧ v2 ≤ 2212) → (0 ≤ v3 ∧ v3 ≤ 329) → (0 ≤ v4 ∧ v4 ≤ 330) → (0 ≤ v5 ∧ v5 ≤ 303) → (0 ≤ v6 ∧ v6 ≤ 303) → (0 ≤ v7 ∧ v7 ≤ 0) → (r0 ∈ L' ∧ K' r0 = 200) → eW E 0 0 L' f' 590 [(0, .ref r0), (1, .int (Int32.ofInt v0)), (2, .int (Int32.ofInt v1)), (3, .int (Int32.ofInt v2)), (4, .int (Int32.ofInt v3)), (5, .int (Int32.ofInt v4)), (6, .int (Int32.ofInt v5)), (7, .int (Int32.ofInt 30)), (8, .int (Int32.ofInt v6))] [.int (Int32.ofInt v3), .ref r0]) : eW E 0 0 L f 565 [(0, .ref r0), (1, .int (Int32.ofInt v0)), (2, .int (Int32.ofInt v1)), (3, .int (Int32.ofInt v2)), (4, .int (Int32.ofInt v3)), (5, .int (Int32.ofInt v4)), (6, .int (Int32.ofInt v5)), (7, .int (Int32.ofInt 30)), (8, .int (Int32.ofInt v6))] [.int (Int32.ofInt v7)] := by
  obtain ⟨l0, D0, cy0, ax0⟩ := X0
  have hraw : eW E 0 0 L f 565 [(0, .ref r0), (1, .int (Int32.ofInt (0 + (1 * v0 + 0)))), (2, .int (Int32.ofInt (0 + (1 * v1 + 0)))), (3, .int (Int32.ofInt (0 + (1 * v2 + 0)))), (4, .int (Int32.ofInt (0 + (1 * v3 + 0)))), (5, .int (Int32.ofInt (0 + (1 * v4 + 0)))), (6, .int (Int32.ofInt (0 + (1 * v5 + 0)))), (7, .int (Int32.ofInt (30 + 0))), (8, .int (Int32.ofInt (0 + (1 * v6 + 0))))] [.int (Int32.ofInt (0 + (1 * v7 + 0)))] := ?_
  · simpa only [Int.zero_add, Int.one_mul, Int.add_zero] using hraw
  refine seg_ok (D := D_wk565a) (νi := fun i => [v0, v1, v2, v3, v4, v5, v6, v7].getD i 0) (μi := fun i => [r0].getD i 0) k_wk565a hE (mk_ok (ins := iX12_worked) jX12_worked fX12_ok lX12_ok kX12_ok kkX12_ok H) (by decide) rfl rfl rfl rfl hh ?_ ?_
  · refine ⟨(eok_of (fun i q hq => ?_) (fun i hi => ?_)), fa0, fa0, ?_, fa0, fa0, fa0⟩
    · match i, hq with
      | 0, hq => cases hq; exact hb0
      | 1, hq => cases hq; exact hb1
      | 2, hq => cases hq; exact hb2
      | 3, hq => cases hq; exact hb3
      | 4, hq => cases hq; exact hb4
      | 5, hq => cases hq; exact hb5
      | 6, hq => cases hq; exact hb6
      | 7, hq => cases hq; exact hb7
      | i + 8, hq => cases hq
    · match i, hi with
      | 0, hi => exact absurd hi (by decide)
      | 1, hi => exact absurd hi (by decide)
      | 2, hi => exact absurd hi (by decide)
      | 3, hi => exact absurd hi (by decide)
      | 4, hi => exact absurd hi (by decide)
      | 5, hi => exact absurd hi (by decide)
      | 6, hi => exact absurd hi (by decide)
      | 7, hi => exact absurd hi (by decide)
      | i + 8, _ => rfl
    · intro i k hk
      match i, hk with
      | 0, hk => cases hk; exact hr0
      | i + 1, hk => cases hk
  · intro q hq hst K' B' L' f' ν μ h1 h2 h3 h4 h5
    have e0 : ν 0 = v0 := h4 0 (by decide)
    have e1 : ν 1 = v1 := h4 1 (by decide)
    have e2 : ν 2 = v2 := h4 2 (by decide)
    have e3 : ν 3 = v3 := h4 3 (by decide)
    have e4 : ν 4 = v4 := h4 4 (by decide)
    have e5 : ν 5 = v5 := h4 5 (by decide)
    have e6 : ν 6 = v6 := h4 6 (by decide)
    have e7 : ν 7 = v7 := h4 7 (by decide)
    have d0 : μ 0 = r0 := h5 0 (by decide)
    subst e0
    subst e1
    subst e2
    subst e3
    subst e4
    subst e5
    subst e6
    subst e7
    subst d0
    replace hq : q ∈ u_wk565a := hq
    unfold u_wk565a at hq
    simp only [List.mem_cons, List.not_mem_nil, or_false] at hq
    rcases hq with rfl | rfl
    · have hst2 : eW E 0 0 L' f' 64 [(0, .ref (μ 0)), (1, .int (Int32.ofInt (0 + (1 * ν 0 + 0)))), (2, .int (Int32.ofInt (0 + (1 * ν 1 + 0)))), (3, .int (Int32.ofInt (0 + (1 * ν 2 + 0)))), (4, .int (Int32.ofInt (0 + (1 * ν 3 + 0)))), (5, .int (Int32.ofInt (0 + (1 * ν 4 + 0)))), (6, .int (Int32.ofInt (1 + (1 * ν 5 + 0)))), (7, .int (Int32.ofInt (30 + 0))), (8, .int (Int32.ofInt (0 + (1 * ν 6 + 0))))] [] := ?_
      · exact hst2
      try simp only [Int.zero_add, Int.one_mul, Int.add_zero]
      exact k64 K' B' L' f'   h1 h2 (h3.1 0) (h3.1 1) (h3.1 2) (h3.1 3) (h3.1 4) (h3.1 5) (h3.1 6) (h3.1 7) (h3.2.2.2.1 0 200 rfl)
    · have hst2 : eW E 0 0 L' f' 590 [(0, .ref (μ 0)), (1, .int (Int32.ofInt (0 + (1 * ν 0 + 0)))), (2, .int (Int32.ofInt (0 + (1 * ν 1 + 0)))), (3, .int (Int32.ofInt (0 + (1 * ν 2 + 0)))), (4, .int (Int32.ofInt (0 + (1 * ν 3 + 0)))), (5, .int (Int32.ofInt (0 + (1 * ν 4 + 0)))), (6, .int (Int32.ofInt (0 + (1 * ν 5 + 0)))), (7, .int (Int32.ofInt (30 + 0))), (8, .int (Int32.ofInt (0 + (1 * ν 6 + 0))))] [.int (Int32.ofInt (0 + (1 * ν 3 + 0))), .ref (μ 0)] := ?_
      · exact hst2
      try simp only [Int.zero_add, Int.one_mul, Int.add_zero]
      exact k590 K' B' L' f'   h1 h2 (h3.1 0) (h3.1 1) (h3.1 2) (h3.1 3) (h3.1 4) (h3.1 5) (h3.1 6) (h3.1 7) (h3.2.2.2.1 0 200 rfl)

/-! wk593a: from 593 to [64] -/
def w_wk593a : TP := ([(0, (2, 0, (0, []))), (1, (0, 0, (0, [(1, 0)]))), (2, (0, 0, (0, [(1, 1)]))), (3, (0, 0, (0, [(1, 2)]))), (4, (0, 0, (0, [(1, 3)]))), (5, (0, 0, (0, [(1, 4)]))), (6, (0, 0, (0, [(1, 5)]))), (7, (0, 0, (30, []))), (8, (0, 0, (0, [(1, 6)])))], [(0, 0, (0, [(1, 7)]))], ([(0, 23), (1, 2300), (97, 2212), (0, 329), (0, 330), (0, 303), (0, 303), (0, 330)], [], [], [200], [], [], []), [], [])
def u_wk593a : List (Nat × TP × EX × Nat × Nat) := [(64, ([(0, (2, 0, (0, []))), (1, (0, 0, (0, [(1, 0)]))), (2, (0, 0, (0, [(1, 1)]))), (3, (0, 0, (0, [(1, 2)]))), (4, (0, 0, (0, [(1, 7)]))), (5, (0, 0, (0, [(1, 4)]))), (6, (0, 0, (1, [(1, 6)]))), (7, (0, 0, (30, []))), (8, (0, 0, (0, [(1, 6)])))], [], ([(0, 23), (1, 2300), (97, 2212), (0, 329), (0, 330), (0, 303), (0, 303), (0, 330)], [], [], [200], [], [], []), [], []), ((-1), []), 0, 0)]
def D_wk593a : DT := (mkD iX12_worked fX12 lX12 kX12 kkX12 309 [] (w_wk593a, [], [], 6, 0, 0, 3) false 9 u_wk593a)
theorem k_wk593a : chkS D_wk593a 4000 0 0 593 = true := by decide +kernel
theorem s_wk593a {X0 : zC0} {E : zCx} (H : ∀ j, j < 309 → CMj X0 j) (hE : zOk E X0 RX12 cX12_worked 9 (zrm 6 0 0)) {K : Nat → Nat} {B : Int} {L : List Nat} {f : Nat → va_E} (hh : hok X0.2.2.1 K B L f) {v0 v1 v2 v3 v4 v5 v6 v7 : Int} {r0 : Nat} (hb0 : 0 ≤ v0 ∧ v0 ≤ 23) (hb1 : 1 ≤ v1 ∧ v1 ≤ 2300) (hb2 : 97 ≤ v2 ∧ v2 ≤ 2212) (hb3 : 0 ≤ v3 ∧ v3 ≤ 329) (hb4 : 0 ≤ v4 ∧ v4 ≤ 330) (hb5 : 0 ≤ v5 ∧ v5 ≤ 303) (hb6 : 0 ≤ v6 ∧ v6 ≤ 303) (hb7 : 0 ≤ v7 ∧ v7 ≤ 330) (hr0 : r0 ∈ L ∧ K r0 = 200) (k64 : ∀ (K' : Nat → Nat) (B' : Int) (L' : List Nat) (f' : Nat → va_E), hok X0.2.2.1 K' B' L' f' → extC [] K B L f K' B' L' f' → (0 ≤ v0 ∧ v0 ≤ 23) → (1 ≤ v1 ∧ v1 ≤ 2300) → (97 ≤ v2 ∧ v2 ≤ 2212) → (0 ≤ v3 ∧ v3 ≤ 329) → (0 ≤ v4 ∧ v4 ≤ 330) → (0 ≤ v5 ∧ v5 ≤ 303) → (0 ≤ v6 ∧ v6 ≤ 303) → (0 ≤ v7 ∧ v7 ≤ 330) → (r0 ∈ L' ∧ K' r0 = 200) → eW E 0 0 L' f' 64 [(0, .ref r0), (1, .int (Int32.ofInt v0)), (2, .int (Int32.ofInt v1)), (3, .int (Int32.ofInt v2)), (4, .int (Int32.ofInt v7)), (5, .int (Int32.ofInt v4)), (6, .int (Int32.ofInt (1 + v6))), (7, .int (Int32.ofInt 30)), (8, .int (Int32.ofInt v6))] []) : eW E 0 0 L f 593 [(0, .ref r0), (1, .int (Int32.ofInt v0)), (2, .int (Int32.ofInt v1)), (3, .int (Int32.ofInt v2)), (4, .int (Int32.ofInt v3)), (5, .int (Int32.ofInt v4)), (6, .int (Int32.ofInt v5)), (7, .int (Int32.ofInt 30)), (8, .int (Int32.ofInt v6))] [.int (Int32.ofInt v7)] := by
  obtain ⟨l0, D0, cy0, ax0⟩ := X0
  have hraw : eW E 0 0 L f 593 [(0, .ref r0), (1, .int (Int32.ofInt (0 + (1 * v0 + 0)))), (2, .int (Int32.ofInt (0 + (1 * v1 + 0)))), (3, .int (Int32.ofInt (0 + (1 * v2 + 0)))), (4, .int (Int32.ofInt (0 + (1 * v3 + 0)))), (5, .int (Int32.ofInt (0 + (1 * v4 + 0)))), (6, .int (Int32.ofInt (0 + (1 * v5 + 0)))), (7, .int (Int32.ofInt (30 + 0))), (8, .int (Int32.ofInt (0 + (1 * v6 + 0))))] [.int (Int32.ofInt (0 + (1 * v7 + 0)))] := ?_
  · simpa only [Int.zero_add, Int.one_mul, Int.add_zero] using hraw
  refine seg_ok (D := D_wk593a) (νi := fun i => [v0, v1, v2, v3, v4, v5, v6, v7].getD i 0) (μi := fun i => [r0].getD i 0) k_wk593a hE (mk_ok (ins := iX12_worked) jX12_worked fX12_ok lX12_ok kX12_ok kkX12_ok H) (by decide) rfl rfl rfl rfl hh ?_ ?_
  · refine ⟨(eok_of (fun i q hq => ?_) (fun i hi => ?_)), fa0, fa0, ?_, fa0, fa0, fa0⟩
    · match i, hq with
      | 0, hq => cases hq; exact hb0
      | 1, hq => cases hq; exact hb1
      | 2, hq => cases hq; exact hb2
      | 3, hq => cases hq; exact hb3
      | 4, hq => cases hq; exact hb4
      | 5, hq => cases hq; exact hb5
      | 6, hq => cases hq; exact hb6
      | 7, hq => cases hq; exact hb7
      | i + 8, hq => cases hq
    · match i, hi with
      | 0, hi => exact absurd hi (by decide)
      | 1, hi => exact absurd hi (by decide)
      | 2, hi => exact absurd hi (by decide)
      | 3, hi => exact absurd hi (by decide)
      | 4, hi => exact absurd hi (by decide)
      | 5, hi => exact absurd hi (by decide)
      | 6, hi => exact absurd hi (by decide)
      | 7, hi => exact absurd hi (by decide)
      | i + 8, _ => rfl
    · intro i k hk
      match i, hk with
      | 0, hk => cases hk; exact hr0
      | i + 1, hk => cases hk
  · intro q hq hst K' B' L' f' ν μ h1 h2 h3 h4 h5
    have e0 : ν 0 = v0 := h4 0 (by decide)
    have e1 : ν 1 = v1 := h4 1 (by decide)
    have e2 : ν 2 = v2 := h4 2 (by decide)
    have e3 : ν 3 = v3 := h4 3 (by decide)
    have e4 : ν 4 = v4 := h4 4 (by decide)
    have e5 : ν 5 = v5 := h4 5 (by decide)
    have e6 : ν 6 = v6 := h4 6 (by decide)
    have e7 : ν 7 = v7 := h4 7 (by decide)
    have d0 : μ 0 = r0 := h5 0 (by decide)
    subst e0
    subst e1
    subst e2
    subst e3
    subst e4
    subst e5
    subst e6
    subst e7
    subst d0
    replace hq : q ∈ u_wk593a := hq
    unfold u_wk593a at hq
    simp only [List.mem_cons, List.not_mem_nil, or_false] at hq
    rcases hq with rfl
    · have hst2 : eW E 0 0 L' f' 64 [(0, .ref (μ 0)), (1, .int (Int32.ofInt (0 + (1 * ν 0 + 0)))), (2, .int (Int32.ofInt (0 + (1 * ν 1 + 0)))), (3, .int (Int32.ofInt (0 + (1 * ν 2 + 0)))), (4, .int (Int32.ofInt (0 + (1 * ν 7 + 0)))), (5, .int (Int32.ofInt (0 + (1 * ν 4 + 0)))), (6, .int (Int32.ofInt (1 + (1 * ν 6 + 0)))), (7, .int (Int32.ofInt (30 + 0))), (8, .int (Int32.ofInt (0 + (1 * ν 6 + 0))))] [] := ?_
      · exact hst2
      try simp only [Int.zero_add, Int.one_mul, Int.add_zero]
      exact k64 K' B' L' f'   h1 h2 (h3.1 0) (h3.1 1) (h3.1 2) (h3.1 3) (h3.1 4) (h3.1 5) (h3.1 6) (h3.1 7) (h3.2.2.2.1 0 200 rfl)

/-! wk565b: from 565 to [64, 590] -/
def w_wk565b : TP := ([(0, (2, 0, (0, []))), (1, (0, 0, (0, [(1, 0)]))), (2, (0, 0, (0, [(1, 1)]))), (3, (0, 0, (0, [(1, 2)]))), (4, (0, 0, (0, [(1, 3)]))), (5, (0, 0, (0, [(1, 4)]))), (6, (0, 0, (0, [(1, 5)]))), (7, (0, 0, (0, [(1, 6)]))), (8, (0, 0, (0, [(1, 7)])))], [(0, 0, (0, [(1, 8)]))], ([(0, 23), (1, 2300), (97, 2212), (0, 329), (0, 330), (0, 303), (31, 32), (0, 303), (0, 1)], [], [], [200], [], [], []), [], [])
def u_wk565b : List (Nat × TP × EX × Nat × Nat) := [(64, ([(0, (2, 0, (0, []))), (1, (0, 0, (0, [(1, 0)]))), (2, (0, 0, (0, [(1, 1)]))), (3, (0, 0, (0, [(1, 2)]))), (4, (0, 0, (0, [(1, 3)]))), (5, (0, 0, (0, [(1, 4)]))), (6, (0, 0, (1, [(1, 7)]))), (7, (0, 0, (0, [(1, 6)]))), (8, (0, 0, (0, [(1, 7)])))], [], ([(0, 23), (1, 2300), (97, 2212), (0, 329), (0, 330), (0, 303), (31, 32), (0, 303), (1, 1)], [], [], [200], [], [], []), [], []), ((-1), []), 0, 0), (590, ([(0, (2, 0, (0, []))), (1, (0, 0, (0, [(1, 0)]))), (2, (0, 0, (0, [(1, 1)]))), (3, (0, 0, (0, [(1, 2)]))), (4, (0, 0, (0, [(1, 3)]))), (5, (0, 0, (0, [(1, 4)]))), (6, (0, 0, (0, [(1, 5)]))), (7, (0, 0, (0, [(1, 6)]))), (8, (0, 0, (0, [(1, 7)])))], [(0, 0, (0, [(1, 3)])), (2, 0, (0, []))], ([(0, 23), (1, 2300), (97, 2212), (0, 329), (0, 330), (0, 303), (31, 32), (0, 303), (0, 0)], [], [], [200], [], [], []), [], []), ((-1), []), 0, 0)]
def D_wk565b : DT := (mkD iX12_worked fX12 lX12 kX12 kkX12 309 [] (w_wk565b, [], [], 6, 0, 0, 3) false 9 u_wk565b)
theorem k_wk565b : chkS D_wk565b 4000 0 0 565 = true := by decide +kernel
theorem s_wk565b {X0 : zC0} {E : zCx} (H : ∀ j, j < 309 → CMj X0 j) (hE : zOk E X0 RX12 cX12_worked 9 (zrm 6 0 0)) {K : Nat → Nat} {B : Int} {L : List Nat} {f : Nat → va_E} (hh : hok X0.2.2.1 K B L f) {v0 v1 v2 v3 v4 v5 v6 v7 v8 : Int} {r0 : Nat} (hb0 : 0 ≤ v0 ∧ v0 ≤ 23) (hb1 : 1 ≤ v1 ∧ v1 ≤ 2300) (hb2 : 97 ≤ v2 ∧ v2 ≤ 2212) (hb3 : 0 ≤ v3 ∧ v3 ≤ 329) (hb4 : 0 ≤ v4 ∧ v4 ≤ 330) (hb5 : 0 ≤ v5 ∧ v5 ≤ 303) (hb6 : 31 ≤ v6 ∧ v6 ≤ 32) (hb7 : 0 ≤ v7 ∧ v7 ≤ 303) (hb8 : 0 ≤ v8 ∧ v8 ≤ 1) (hr0 : r0 ∈ L ∧ K r0 = 200) (k64 : ∀ (K' : Nat → Nat) (B' : Int) (L' : List Nat) (f' : Nat → va_E), hok X0.2.2.1 K' B' L' f' → extC [] K B L f K' B' L' f' → (0 ≤ v0 ∧ v0 ≤ 23) → (1 ≤ v1 ∧ v1 ≤ 2300) → (97 ≤ v2 ∧ v2 ≤ 2212) → (0 ≤ v3 ∧ v3 ≤ 329) → (0 ≤ v4 ∧ v4 ≤ 330) → (0 ≤ v5 ∧ v5 ≤ 303) → (31 ≤ v6 ∧ v6 ≤ 32) → (0 ≤ v7 ∧ v7 ≤ 303) → (1 ≤ v8 ∧ v8 ≤ 1) → (r0 ∈ L' ∧ K' r0 = 200) → eW E 0 0 L' f' 64 [(0, .ref r0), (1, .int (Int32.ofInt v0)), (2, .int (Int32.ofInt v1)), (3, .int (Int32.ofInt v2)), (4, .int (Int32.ofInt v3)), (5, .int (Int32.ofInt v4)), (6, .int (Int32.ofInt (1 + v7))), (7, .int (Int32.ofInt v6)), (8, .int (Int32.ofInt v7))] []) (k590 : ∀ (K' : Nat → Nat) (B' : Int) (L' : List Nat) (f' : Nat → va_E), hok X0.2.2.1 K' B' L' f' → extC [] K B L f K' B' L' f' → (0 ≤ v0 ∧ v0 ≤ 23) → (1 ≤ v1 ∧ v1 ≤ 2300) → (97 ≤ v2 ∧ v2 ≤ 2212) → (0 ≤ v3 ∧ v3 ≤ 329) → (0 ≤ v4 ∧ v4 ≤ 330) → (0 ≤ v5 ∧ v5 ≤ 303) → (31 ≤ v6 ∧ v6 ≤ 32) → (0 ≤ v7 ∧ v7 ≤ 303) → (0 ≤ v8 ∧ v8 ≤ 0) → (r0 ∈ L' ∧ K' r0 = 200) → eW E 0 0 L' f' 590 [(0, .ref r0), (1, .int (Int32.ofInt v0)), (2, .int (Int32.ofInt v1)), (3, .int (Int32.ofInt v2)), (4, .int (Int32.ofInt v3)), (5, .int (Int32.ofInt v4)), (6, .int (Int32.ofInt v5)), (7, .int (Int32.ofInt v6)), (8, .int (Int32.ofInt v7))] [.int (Int32.ofInt v3), .ref r0]) : eW E 0 0 L f 565 [(0, .ref r0), (1, .int (Int32.ofInt v0)), (2, .int (Int32.ofInt v1)), (3, .int (Int32.ofInt v2)), (4, .int (Int32.ofInt v3)), (5, .int (Int32.ofInt v4)), (6, .int (Int32.ofInt v5)), (7, .int (Int32.ofInt v6)), (8, .int (Int32.ofInt v7))] [.int (Int32.ofInt v8)] := by
  obtain ⟨l0, D0, cy0, ax0⟩ := X0
  have hraw : eW E 0 0 L f 565 [(0, .ref r0), (1, .int (Int32.ofInt (0 + (1 * v0 + 0)))), (2, .int (Int32.ofInt (0 + (1 * v1 + 0)))), (3, .int (Int32.ofInt (0 + (1 * v2 + 0)))), (4, .int (Int32.ofInt (0 + (1 * v3 + 0)))), (5, .int (Int32.ofInt (0 + (1 * v4 + 0)))), (6, .int (Int32.ofInt (0 + (1 * v5 + 0)))), (7, .int (Int32.ofInt (0 + (1 * v6 + 0)))), (8, .int (Int32.ofInt (0 + (1 * v7 + 0))))] [.int (Int32.ofInt (0 + (1 * v8 + 0)))] := ?_
  · simpa only [Int.zero_add, Int.one_mul, Int.add_zero] using hraw
  refine seg_ok (D := D_wk565b) (νi := fun i => [v0, v1, v2, v3, v4, v5, v6, v7, v8].getD i 0) (μi := fun i => [r0].getD i 0) k_wk565b hE (mk_ok (ins := iX12_worked) jX12_worked fX12_ok lX12_ok kX12_ok kkX12_ok H) (by decide) rfl rfl rfl rfl hh ?_ ?_
  · refine ⟨(eok_of (fun i q hq => ?_) (fun i hi => ?_)), fa0, fa0, ?_, fa0, fa0, fa0⟩
    · match i, hq with
      | 0, hq => cases hq; exact hb0
      | 1, hq => cases hq; exact hb1
      | 2, hq => cases hq; exact hb2
      | 3, hq => cases hq; exact hb3
      | 4, hq => cases hq; exact hb4
      | 5, hq => cases hq; exact hb5
      | 6, hq => cases hq; exact hb6
      | 7, hq => cases hq; exact hb7
      | 8, hq => cases hq; exact hb8
      | i + 9, hq => cases hq
    · match i, hi with
      | 0, hi => exact absurd hi (by decide)
      | 1, hi => exact absurd hi (by decide)
      | 2, hi => exact absurd hi (by decide)
      | 3, hi => exact absurd hi (by decide)
      | 4, hi => exact absurd hi (by decide)
      | 5, hi => exact absurd hi (by decide)
      | 6, hi => exact absurd hi (by decide)
      | 7, hi => exact absurd hi (by decide)
      | 8, hi => exact absurd hi (by decide)
      | i + 9, _ => rfl
    · intro i k hk
      match i, hk with
      | 0, hk => cases hk; exact hr0
      | i + 1, hk => cases hk
  · intro q hq hst K' B' L' f' ν μ h1 h2 h3 h4 h5
    have e0 : ν 0 = v0 := h4 0 (by decide)
    have e1 : ν 1 = v1 := h4 1 (by decide)
    have e2 : ν 2 = v2 := h4 2 (by decide)
    have e3 : ν 3 = v3 := h4 3 (by decide)
    have e4 : ν 4 = v4 := h4 4 (by decide)
    have e5 : ν 5 = v5 := h4 5 (by decide)
    have e6 : ν 6 = v6 := h4 6 (by decide)
    have e7 : ν 7 = v7 := h4 7 (by decide)
    have e8 : ν 8 = v8 := h4 8 (by decide)
    have d0 : μ 0 = r0 := h5 0 (by decide)
    subst e0
    subst e1
    subst e2
    subst e3
    subst e4
    subst e5
    subst e6
    subst e7
    subst e8
    subst d0
    replace hq : q ∈ u_wk565b := hq
    unfold u_wk565b at hq
    simp only [List.mem_cons, List.not_mem_nil, or_false] at hq
    rcases hq with rfl | rfl
    · have hst2 : eW E 0 0 L' f' 64 [(0, .ref (μ 0)), (1, .int (Int32.ofInt (0 + (1 * ν 0 + 0)))), (2, .int (Int32.ofInt (0 + (1 * ν 1 + 0)))), (3, .int (Int32.ofInt (0 + (1 * ν 2 + 0)))), (4, .int (Int32.ofInt (0 + (1 * ν 3 + 0)))), (5, .int (Int32.ofInt (0 + (1 * ν 4 + 0)))), (6, .int (Int32.ofInt (1 + (1 * ν 7 + 0)))), (7, .int (Int32.ofInt (0 + (1 * ν 6 + 0)))), (8, .int (Int32.ofInt (0 + (1 * ν 7 + 0))))] [] := ?_
      · exact hst2
      try simp only [Int.zero_add, Int.one_mul, Int.add_zero]
      exact k64 K' B' L' f'   h1 h2 (h3.1 0) (h3.1 1) (h3.1 2) (h3.1 3) (h3.1 4) (h3.1 5) (h3.1 6) (h3.1 7) (h3.1 8) (h3.2.2.2.1 0 200 rfl)
    · have hst2 : eW E 0 0 L' f' 590 [(0, .ref (μ 0)), (1, .int (Int32.ofInt (0 + (1 * ν 0 + 0)))), (2, .int (Int32.ofInt (0 + (1 * ν 1 + 0)))), (3, .int (Int32.ofInt (0 + (1 * ν 2 + 0)))), (4, .int (Int32.ofInt (0 + (1 * ν 3 + 0)))), (5, .int (Int32.ofInt (0 + (1 * ν 4 + 0)))), (6, .int (Int32.ofInt (0 + (1 * ν 5 + 0)))), (7, .int (Int32.ofInt (0 + (1 * ν 6 + 0)))), (8, .int (Int32.ofInt (0 + (1 * ν 7 + 0))))] [.int (Int32.ofInt (0 + (1 * ν 3 + 0))), .ref (μ 0)] := ?_
      · exact hst2
      try simp only [Int.zero_add, Int.one_mul, Int.add_zero]
      exact k590 K' B' L' f'   h1 h2 (h3.1 0) (h3.1 1) (h3.1 2) (h3.1 3) (h3.1 4) (h3.1 5) (h3.1 6) (h3.1 7) (h3.1 8) (h3.2.2.2.1 0 200 rfl)

/-! wk593b: from 593 to [64] -/
def w_wk593b : TP := ([(0, (2, 0, (0, []))), (1, (0, 0, (0, [(1, 0)]))), (2, (0, 0, (0, [(1, 1)]))), (3, (0, 0, (0, [(1, 2)]))), (4, (0, 0, (0, [(1, 3)]))), (5, (0, 0, (0, [(1, 4)]))), (6, (0, 0, (0, [(1, 5)]))), (7, (0, 0, (0, [(1, 6)]))), (8, (0, 0, (0, [(1, 7)])))], [(0, 0, (0, [(1, 8)]))], ([(0, 23), (1, 2300), (97, 2212), (0, 329), (0, 330), (0, 303), (31, 32), (0, 303), (0, 330)], [], [], [200], [], [], []), [], [])
def u_wk593b : List (Nat × TP × EX × Nat × Nat) := [(64, ([(0, (2, 0, (0, []))), (1, (0, 0, (0, [(1, 0)]))), (2, (0, 0, (0, [(1, 1)]))), (3, (0, 0, (0, [(1, 2)]))), (4, (0, 0, (0, [(1, 8)]))), (5, (0, 0, (0, [(1, 4)]))), (6, (0, 0, (1, [(1, 5)]))), (7, (0, 0, (0, [(1, 6)]))), (8, (0, 0, (0, [(1, 7)])))], [], ([(0, 23), (1, 2300), (97, 2212), (0, 329), (0, 330), (0, 303), (31, 32), (0, 303), (0, 330)], [], [], [200], [], [], []), [], []), ((-1), []), 0, 0)]
def D_wk593b : DT := (mkD iX12_worked fX12 lX12 kX12 kkX12 309 [] (w_wk593b, [], [], 6, 0, 0, 3) false 9 u_wk593b)
theorem k_wk593b : chkS D_wk593b 4000 0 0 593 = true := by decide +kernel
theorem s_wk593b {X0 : zC0} {E : zCx} (H : ∀ j, j < 309 → CMj X0 j) (hE : zOk E X0 RX12 cX12_worked 9 (zrm 6 0 0)) {K : Nat → Nat} {B : Int} {L : List Nat} {f : Nat → va_E} (hh : hok X0.2.2.1 K B L f) {v0 v1 v2 v3 v4 v5 v6 v7 v8 : Int} {r0 : Nat} (hb0 : 0 ≤ v0 ∧ v0 ≤ 23) (hb1 : 1 ≤ v1 ∧ v1 ≤ 2300) (hb2 : 97 ≤ v2 ∧ v2 ≤ 2212) (hb3 : 0 ≤ v3 ∧ v3 ≤ 329) (hb4 : 0 ≤ v4 ∧ v4 ≤ 330) (hb5 : 0 ≤ v5 ∧ v5 ≤ 303) (hb6 : 31 ≤ v6 ∧ v6 ≤ 32) (hb7 : 0 ≤ v7 ∧ v7 ≤ 303) (hb8 : 0 ≤ v8 ∧ v8 ≤ 330) (hr0 : r0 ∈ L ∧ K r0 = 200) (k64 : ∀ (K' : Nat → Nat) (B' : Int) (L' : List Nat) (f' : Nat → va_E), hok X0.2.2.1 K' B' L' f' → extC [] K B L f K' B' L' f' → (0 ≤ v0 ∧ v0 ≤ 23) → (1 ≤ v1 ∧ v1 ≤ 2300) → (97 ≤ v2 ∧ v2 ≤ 2212) → (0 ≤ v3 ∧ v3 ≤ 329) → (0 ≤ v4 ∧ v4 ≤ 330) → (0 ≤ v5 ∧ v5 ≤ 303) → (31 ≤ v6 ∧ v6 ≤ 32) → (0 ≤ v7 ∧ v7 ≤ 303) → (0 ≤ v8 ∧ v8 ≤ 330) → (r0 ∈ L' ∧ K' r0 = 200) → eW E 0 0 L' f' 64 [(0, .ref r0), (1, .int (Int32.ofInt v0)), (2, .int (Int32.ofInt v1)), (3, .int (Int32.ofInt v2)), (4, .int (Int32.ofInt v8)), (5, .int (Int32.ofInt v4)), (6, .int (Int32.ofInt (1 + v5))), (7, .int (Int32.ofInt v6)), (8, .int (Int32.ofInt v7))] []) : eW E 0 0 L f 593 [(0, .ref r0), (1, .int (Int32.ofInt v0)), (2, .int (Int32.ofInt v1)), (3, .int (Int32.ofInt v2)), (4, .int (Int32.ofInt v3)), (5, .int (Int32.ofInt v4)), (6, .int (Int32.ofInt v5)), (7, .int (Int32.ofInt v6)), (8, .int (Int32.ofInt v7))] [.int (Int32.ofInt v8)] := by
  obtain ⟨l0, D0, cy0, ax0⟩ := X0
  have hraw : eW E 0 0 L f 593 [(0, .ref r0), (1, .int (Int32.ofInt (0 + (1 * v0 + 0)))), (2, .int (Int32.ofInt (0 + (1 * v1 + 0)))), (3, .int (Int32.ofInt (0 + (1 * v2 + 0)))), (4, .int (Int32.ofInt (0 + (1 * v3 + 0)))), (5, .int (Int32.ofInt (0 + (1 * v4 + 0)))), (6, .int (Int32.ofInt (0 + (1 * v5 + 0)))), (7, .int (Int32.ofInt (0 + (1 * v6 + 0)))), (8, .int (Int32.ofInt (0 + (1 * v7 + 0))))] [.int (Int32.ofInt (0 + (1 * v8 + 0)))] := ?_
  · simpa only [Int.zero_add, Int.one_mul, Int.add_zero] using hraw
  refine seg_ok (D := D_wk593b) (νi := fun i => [v0, v1, v2, v3, v4, v5, v6, v7, v8].getD i 0) (μi := fun i => [r0].getD i 0) k_wk593b hE (mk_ok (ins := iX12_worked) jX12_worked fX12_ok lX12_ok kX12_ok kkX12_ok H) (by decide) rfl rfl rfl rfl hh ?_ ?_
  · refine ⟨(eok_of (fun i q hq => ?_) (fun i hi => ?_)), fa0, fa0, ?_, fa0, fa0, fa0⟩
    · match i, hq with
      | 0, hq => cases hq; exact hb0
      | 1, hq => cases hq; exact hb1
      | 2, hq => cases hq; exact hb2
      | 3, hq => cases hq; exact hb3
      | 4, hq => cases hq; exact hb4
      | 5, hq => cases hq; exact hb5
      | 6, hq => cases hq; exact hb6
      | 7, hq => cases hq; exact hb7
      | 8, hq => cases hq; exact hb8
      | i + 9, hq => cases hq
    · match i, hi with
      | 0, hi => exact absurd hi (by decide)
      | 1, hi => exact absurd hi (by decide)
      | 2, hi => exact absurd hi (by decide)
      | 3, hi => exact absurd hi (by decide)
      | 4, hi => exact absurd hi (by decide)
      | 5, hi => exact absurd hi (by decide)
      | 6, hi => exact absurd hi (by decide)
      | 7, hi => exact absurd hi (by decide)
      | 8, hi => exact absurd hi (by decide)
      | i + 9, _ => rfl
    · intro i k hk
      match i, hk with
      | 0, hk => cases hk; exact hr0
      | i + 1, hk => cases hk
  · intro q hq hst K' B' L' f' ν μ h1 h2 h3 h4 h5
    have e0 : ν 0 = v0 := h4 0 (by decide)
    have e1 : ν 1 = v1 := h4 1 (by decide)
    have e2 : ν 2 = v2 := h4 2 (by decide)
    have e3 : ν 3 = v3 := h4 3 (by decide)
    have e4 : ν 4 = v4 := h4 4 (by decide)
    have e5 : ν 5 = v5 := h4 5 (by decide)
    have e6 : ν 6 = v6 := h4 6 (by decide)
    have e7 : ν 7 = v7 := h4 7 (by decide)
    have e8 : ν 8 = v8 := h4 8 (by decide)
    have d0 : μ 0 = r0 := h5 0 (by decide)
    subst e0
    subst e1
    subst e2
    subst e3
    subst e4
    subst e5
    subst e6
    subst e7
    subst e8
    subst d0
    replace hq : q ∈ u_wk593b := hq
    unfold u_wk593b at hq
    simp only [List.mem_cons, List.not_mem_nil, or_false] at hq
    rcases hq with rfl
    · have hst2 : eW E 0 0 L' f' 64 [(0, .ref (μ 0)), (1, .int (Int32.ofInt (0 + (1 * ν 0 + 0)))), (2, .int (Int32.ofInt (0 + (1 * ν 1 + 0)))), (3, .int (Int32.ofInt (0 + (1 * ν 2 + 0)))), (4, .int (Int32.ofInt (0 + (1 * ν 8 + 0)))), (5, .int (Int32.ofInt (0 + (1 * ν 4 + 0)))), (6, .int (Int32.ofInt (1 + (1 * ν 5 + 0)))), (7, .int (Int32.ofInt (0 + (1 * ν 6 + 0)))), (8, .int (Int32.ofInt (0 + (1 * ν 7 + 0))))] [] := ?_
      · exact hst2
      try simp only [Int.zero_add, Int.one_mul, Int.add_zero]
      exact k64 K' B' L' f'   h1 h2 (h3.1 0) (h3.1 1) (h3.1 2) (h3.1 3) (h3.1 4) (h3.1 5) (h3.1 6) (h3.1 7) (h3.1 8) (h3.2.2.2.1 0 200 rfl)

/-! wkE: from 64 to [624] -/
def w_wkE : TP := ([(0, (2, 0, (0, []))), (1, (0, 0, (0, [(1, 0)]))), (2, (0, 0, (0, [(1, 1)]))), (3, (0, 0, (0, [(1, 2)]))), (4, (0, 0, (0, [(1, 3)]))), (5, (0, 0, (0, [(1, 4)]))), (6, (0, 0, (0, [(1, 5)])))], [], ([(0, 23), (1, 2300), (97, 2212), (0, 330), (0, 330), (0, 304), ((-2147483648), 2147483647)], [(0, [(1, 5), ((-1), 6)])], [], [200], [((203, (2, [(1, 1)])), (0, [(1, 6)]))], [], []), [], [])
def u_wkE : List (Nat × TP × EX × Nat × Nat) := [(624, ([(0, (2, 0, (0, []))), (1, (0, 0, (0, [(1, 0)]))), (2, (0, 0, (0, [(1, 1)]))), (3, (0, 0, (0, [(1, 2)]))), (4, (0, 0, (0, [(1, 3)]))), (5, (0, 0, (0, [(1, 4)]))), (6, (0, 0, (0, [(1, 5)])))], [(0, 0, (0, [(1, 7)]))], ([(0, 23), (1, 2300), (97, 2212), (0, 330), (0, 330), (0, 304), ((-2147483648), 304), ((-2147483648), 2147483647)], [(0, [(1, 5), ((-1), 6)])], [], [200], [((203, (2, [(1, 1)])), (0, [(1, 6)]))], [], []), [(1, 0, (0, []))], []), ((-1), []), 0, 0)]
def D_wkE : DT := (mkD iX12_worked fX12 lX12 kX12 kkX12 309 [] (w_wkE, [], [], 6, 0, 0, 3) false 9 u_wkE)
theorem k_wkE : chkS D_wkE 4000 0 0 64 = true := by decide +kernel
theorem s_wkE {X0 : zC0} {E : zCx} (H : ∀ j, j < 309 → CMj X0 j) (hE : zOk E X0 RX12 cX12_worked 9 (zrm 6 0 0)) {K : Nat → Nat} {B : Int} {L : List Nat} {f : Nat → va_E} (hh : hok X0.2.2.1 K B L f) {v0 v1 v2 v3 v4 v5 v6 : Int} {r0 : Nat} (hb0 : 0 ≤ v0 ∧ v0 ≤ 23) (hb1 : 1 ≤ v1 ∧ v1 ≤ 2300) (hb2 : 97 ≤ v2 ∧ v2 ≤ 2212) (hb3 : 0 ≤ v3 ∧ v3 ≤ 330) (hb4 : 0 ≤ v4 ∧ v4 ≤ 330) (hb5 : 0 ≤ v5 ∧ v5 ≤ 304) (hb6 : (-2147483648) ≤ v6 ∧ v6 ≤ 2147483647) (hq0 : 0 ≤ (v5 + ((-1) * v6))) (hr0 : r0 ∈ L ∧ K r0 = 200) (hm0 : (∀ b ∈ L, K b = 203 → (0 : Int) ≤ (2 + v1) ∧ gi (f b) (((2 + v1) : Int)).toNat = v6)) (k624 : ∀ (K' : Nat → Nat) (B' : Int) (L' : List Nat) (f' : Nat → va_E) (v7 : Int), hok X0.2.2.1 K' B' L' f' → extC [] K B L f K' B' L' f' → (0 ≤ v0 ∧ v0 ≤ 23) → (1 ≤ v1 ∧ v1 ≤ 2300) → (97 ≤ v2 ∧ v2 ≤ 2212) → (0 ≤ v3 ∧ v3 ≤ 330) → (0 ≤ v4 ∧ v4 ≤ 330) → (0 ≤ v5 ∧ v5 ≤ 304) → ((-2147483648) ≤ v6 ∧ v6 ≤ 304) → ((-2147483648) ≤ v7 ∧ v7 ≤ 2147483647) → (0 ≤ (v5 + ((-1) * v6))) → (r0 ∈ L' ∧ K' r0 = 200) → (∀ b ∈ L', K' b = 203 → (0 : Int) ≤ (2 + v1) ∧ gi (f' b) (((2 + v1) : Int)).toNat = v6) → eW E 0 0 L' f' 624 [(0, .ref r0), (1, .int (Int32.ofInt v0)), (2, .int (Int32.ofInt v1)), (3, .int (Int32.ofInt v2)), (4, .int (Int32.ofInt v3)), (5, .int (Int32.ofInt v4)), (6, .int (Int32.ofInt v5))] [.int (Int32.ofInt v7)]) : eW E 0 0 L f 64 [(0, .ref r0), (1, .int (Int32.ofInt v0)), (2, .int (Int32.ofInt v1)), (3, .int (Int32.ofInt v2)), (4, .int (Int32.ofInt v3)), (5, .int (Int32.ofInt v4)), (6, .int (Int32.ofInt v5))] [] := by
  obtain ⟨l0, D0, cy0, ax0⟩ := X0
  have hraw : eW E 0 0 L f 64 [(0, .ref r0), (1, .int (Int32.ofInt (0 + (1 * v0 + 0)))), (2, .int (Int32.ofInt (0 + (1 * v1 + 0)))), (3, .int (Int32.ofInt (0 + (1 * v2 + 0)))), (4, .int (Int32.ofInt (0 + (1 * v3 + 0)))), (5, .int (Int32.ofInt (0 + (1 * v4 + 0)))), (6, .int (Int32.ofInt (0 + (1 * v5 + 0))))] [] := ?_
  · simpa only [Int.zero_add, Int.one_mul, Int.add_zero] using hraw
  have rq0 : 0 ≤ (0 + (1 * v5 + ((-1) * v6 + 0))) := by simpa only [Int.zero_add, Int.one_mul, Int.add_zero] using hq0
  have rm0 : (∀ b ∈ L, K b = 203 → (0 : Int) ≤ (2 + (1 * v1 + 0)) ∧ gi (f b) (((2 + (1 * v1 + 0)) : Int)).toNat = (0 + (1 * v6 + 0))) := by simpa only [Int.zero_add, Int.one_mul, Int.add_zero] using hm0
  refine seg_ok (D := D_wkE) (νi := fun i => [v0, v1, v2, v3, v4, v5, v6].getD i 0) (μi := fun i => [r0].getD i 0) k_wkE hE (mk_ok (ins := iX12_worked) jX12_worked fX12_ok lX12_ok kX12_ok kkX12_ok H) (by decide) rfl rfl rfl rfl hh ?_ ?_
  · refine ⟨(eok_of (fun i q hq => ?_) (fun i hi => ?_)), (fa_cons (rq0) fa0), fa0, ?_, (fa_cons (Amok hh (show (zkd 203).1 = 2 by decide) (by decide) rm0) fa0), fa0, fa0⟩
    · match i, hq with
      | 0, hq => cases hq; exact hb0
      | 1, hq => cases hq; exact hb1
      | 2, hq => cases hq; exact hb2
      | 3, hq => cases hq; exact hb3
      | 4, hq => cases hq; exact hb4
      | 5, hq => cases hq; exact hb5
      | 6, hq => cases hq; exact hb6
      | i + 7, hq => cases hq
    · match i, hi with
      | 0, hi => exact absurd hi (by decide)
      | 1, hi => exact absurd hi (by decide)
      | 2, hi => exact absurd hi (by decide)
      | 3, hi => exact absurd hi (by decide)
      | 4, hi => exact absurd hi (by decide)
      | 5, hi => exact absurd hi (by decide)
      | 6, hi => exact absurd hi (by decide)
      | i + 7, _ => rfl
    · intro i k hk
      match i, hk with
      | 0, hk => cases hk; exact hr0
      | i + 1, hk => cases hk
  · intro q hq hst K' B' L' f' ν μ h1 h2 h3 h4 h5
    have e0 : ν 0 = v0 := h4 0 (by decide)
    have e1 : ν 1 = v1 := h4 1 (by decide)
    have e2 : ν 2 = v2 := h4 2 (by decide)
    have e3 : ν 3 = v3 := h4 3 (by decide)
    have e4 : ν 4 = v4 := h4 4 (by decide)
    have e5 : ν 5 = v5 := h4 5 (by decide)
    have e6 : ν 6 = v6 := h4 6 (by decide)
    have d0 : μ 0 = r0 := h5 0 (by decide)
    subst e0
    subst e1
    subst e2
    subst e3
    subst e4
    subst e5
    subst e6
    subst d0
    replace hq : q ∈ u_wkE := hq
    unfold u_wkE at hq
    simp only [List.mem_cons, List.not_mem_nil, or_false] at hq
    rcases hq with rfl
    · have hst2 : eW E 0 0 L' f' 624 [(0, .ref (μ 0)), (1, .int (Int32.ofInt (0 + (1 * ν 0 + 0)))), (2, .int (Int32.ofInt (0 + (1 * ν 1 + 0)))), (3, .int (Int32.ofInt (0 + (1 * ν 2 + 0)))), (4, .int (Int32.ofInt (0 + (1 * ν 3 + 0)))), (5, .int (Int32.ofInt (0 + (1 * ν 4 + 0)))), (6, .int (Int32.ofInt (0 + (1 * ν 5 + 0))))] [.int (Int32.ofInt (0 + (1 * ν 7 + 0)))] := ?_
      · exact hst2
      try simp only [Int.zero_add, Int.one_mul, Int.add_zero]
      exact k624 K' B' L' f' (ν 7)  h1 h2 (h3.1 0) (h3.1 1) (h3.1 2) (h3.1 3) (h3.1 4) (h3.1 5) (h3.1 6) (h3.1 7) (by simpa only [xv, xvT, Int.zero_add, Int.one_mul, Int.add_zero] using (h3.2.1 _ (List.mem_of_getElem? (i := 0) rfl))) (h3.2.2.2.1 0 200 rfl) (by simpa only [xv, xvT, Int.zero_add, Int.one_mul, Int.add_zero] using (mokA h1 (show (zkd 203).1 = 2 by decide) (by decide) (h3.2.2.2.2.1 _ (List.mem_of_getElem? (i := 0) rfl))))

/-! tn0: from 0 to [18] -/
def w_tn0 : TP := ([(0, (2, 0, (0, [])))], [], ([(0, 8)], [], [], [200], [((200, (31, [])), (0, [(1, 0)]))], [], []), [], [])
def u_tn0 : List (Nat × TP × EX × Nat × Nat) := [(18, ([(0, (2, 0, (0, [])))], [(0, 0, (0, [(1, 1)])), (2, 0, (0, [])), (0, 0, (0, [(1, 0)])), (2, 1, (0, []))], ([(0, 8), ((-1), 7)], [], [], [200, 211], [((211, (0, [(1, 0)])), (0, [(1, 1)])), ((200, (31, [])), (0, [(1, 0)]))], [], []), [(1, 0, (0, []))], [(1, 3)]), ((-1), []), 0, 0)]
def D_tn0 : DT := (mkD iX12_takeNext fX12 lX12 kX12 kkX12 309 [] (w_tn0, [], [], 4, 0, 0, 3) false 1 u_tn0)
theorem k_tn0 : chkS D_tn0 4000 0 0 0 = true := by decide +kernel
theorem s_tn0 {X0 : zC0} {E : zCx} (H : ∀ j, j < 309 → CMj X0 j) (hE : zOk E X0 RX12 cX12_takeNext 1 (zrm 4 0 0)) {K : Nat → Nat} {B : Int} {L : List Nat} {f : Nat → va_E} (hh : hok X0.2.2.1 K B L f) {v0 : Int} {r0 : Nat} (hb0 : 0 ≤ v0 ∧ v0 ≤ 8) (hr0 : r0 ∈ L ∧ K r0 = 200) (hm0 : (∀ b ∈ L, K b = 200 → gi (f b) 31 = v0)) (k18 : ∀ (K' : Nat → Nat) (B' : Int) (L' : List Nat) (f' : Nat → va_E) (v1 : Int) (r1 : Nat), hok X0.2.2.1 K' B' L' f' → extC [] K B L f K' B' L' f' → (0 ≤ v0 ∧ v0 ≤ 8) → ((-1) ≤ v1 ∧ v1 ≤ 7) → (r0 ∈ L' ∧ K' r0 = 200) → (r1 ∈ L' ∧ K' r1 = 211) → (∀ b ∈ L', K' b = 211 → (0 : Int) ≤ v0 ∧ gi (f' b) ((v0 : Int)).toNat = v1) → (∀ b ∈ L', K' b = 200 → gi (f' b) 31 = v0) → eW E 0 0 L' f' 18 [(0, .ref r0)] [.int (Int32.ofInt v1), .ref r0, .int (Int32.ofInt v0), .ref r1]) : eW E 0 0 L f 0 [(0, .ref r0)] [] := by
  obtain ⟨l0, D0, cy0, ax0⟩ := X0
  have hraw : eW E 0 0 L f 0 [(0, .ref r0)] [] := ?_
  · simpa only [Int.zero_add, Int.one_mul, Int.add_zero] using hraw
  have rm0 : (∀ b ∈ L, K b = 200 → gi (f b) 31 = (0 + (1 * v0 + 0))) := by simpa only [Int.zero_add, Int.one_mul, Int.add_zero] using hm0
  refine seg_ok (D := D_tn0) (νi := fun i => [v0].getD i 0) (μi := fun i => [r0].getD i 0) k_tn0 hE (mk_ok (ins := iX12_takeNext) jX12_takeNext fX12_ok lX12_ok kX12_ok kkX12_ok H) (by decide) rfl rfl rfl rfl hh ?_ ?_
  · refine ⟨(eok_of (fun i q hq => ?_) (fun i hi => ?_)), fa0, fa0, ?_, (fa_cons (Fmok hh (show (zkd 200).1 = 1 by decide) (j := 31) rfl (by decide) rm0) fa0), fa0, fa0⟩
    · match i, hq with
      | 0, hq => cases hq; exact hb0
      | i + 1, hq => cases hq
    · match i, hi with
      | 0, hi => exact absurd hi (by decide)
      | i + 1, _ => rfl
    · intro i k hk
      match i, hk with
      | 0, hk => cases hk; exact hr0
      | i + 1, hk => cases hk
  · intro q hq hst K' B' L' f' ν μ h1 h2 h3 h4 h5
    have e0 : ν 0 = v0 := h4 0 (by decide)
    have d0 : μ 0 = r0 := h5 0 (by decide)
    subst e0
    subst d0
    replace hq : q ∈ u_tn0 := hq
    unfold u_tn0 at hq
    simp only [List.mem_cons, List.not_mem_nil, or_false] at hq
    rcases hq with rfl
    · have hst2 : eW E 0 0 L' f' 18 [(0, .ref (μ 0))] [.int (Int32.ofInt (0 + (1 * ν 1 + 0))), .ref (μ 0), .int (Int32.ofInt (0 + (1 * ν 0 + 0))), .ref (μ 1)] := ?_
      · exact hst2
      try simp only [Int.zero_add, Int.one_mul, Int.add_zero]
      exact k18 K' B' L' f' (ν 1) (μ 1) h1 h2 (h3.1 0) (h3.1 1) (h3.2.2.2.1 0 200 rfl) (h3.2.2.2.1 1 211 rfl) (by simpa only [xv, xvT, Int.zero_add, Int.one_mul, Int.add_zero] using (mokA h1 (show (zkd 211).1 = 2 by decide) (by decide) (h3.2.2.2.2.1 _ (List.mem_of_getElem? (i := 0) rfl)))) (by simpa only [xv, xvT, Int.zero_add, Int.one_mul, Int.add_zero] using (mokF h1 (show (zkd 200).1 = 1 by decide) (j := 31) rfl (by decide) (h3.2.2.2.2.1 _ (List.mem_of_getElem? (i := 1) rfl))))

/-! tn22: from 22 to [35, 50] -/
def w_tn22 : TP := ([(0, (2, 0, (0, [])))], [], ([(0, 8)], [], [], [200], [((200, (31, [])), (0, [(1, 0)]))], [], []), [], [])
def u_tn22 : List (Nat × TP × EX × Nat × Nat) := [(35, ([(0, (2, 0, (0, [])))], [(0, 0, (0, []))], ([(0, 8), ((-1), (-1))], [], [], [200], [((211, (0, [(1, 0)])), (0, [(1, 1)])), ((200, (31, [])), (0, [(1, 0)]))], [], []), [(2, 211, (0, [(1, 0)]))], []), ((-1), []), 0, 0), (50, ([(0, (2, 0, (0, [])))], [(0, 0, (1, []))], ([(0, 8), (0, 7)], [], [], [200], [((200, (30, [])), (0, [(1, 1)])), ((211, (0, [(1, 0)])), (0, [(1, 1)])), ((200, (31, [])), (0, [(1, 0)]))], [], []), [(2, 200, (30, []))], []), ((-1), []), 0, 0)]
def D_tn22 : DT := (mkD iX12_takeNext fX12 lX12 kX12 kkX12 309 [(46, [304])] (w_tn22, [(200, 30), (207, 0)], [], 4, 0, 0, 3) false 1 u_tn22)
theorem k_tn22 : chkS D_tn22 4000 0 0 22 = true := by decide +kernel
theorem s_tn22 {X0 : zC0} {E : zCx} (H : ∀ j, j < 309 → CMj X0 j) (hE : zOk E X0 RX12 cX12_takeNext 1 (zrm 4 0 0)) {K : Nat → Nat} {B : Int} {L : List Nat} {f : Nat → va_E} (hh : hok X0.2.2.1 K B L f) {v0 : Int} {r0 : Nat} (hb0 : 0 ≤ v0 ∧ v0 ≤ 8) (hr0 : r0 ∈ L ∧ K r0 = 200) (hm0 : (∀ b ∈ L, K b = 200 → gi (f b) 31 = v0)) (k35 : ∀ (K' : Nat → Nat) (B' : Int) (L' : List Nat) (f' : Nat → va_E) (v1 : Int), hok X0.2.2.1 K' B' L' f' → extC [(200, 30), (207, 0)] K B L f K' B' L' f' → (0 ≤ v0 ∧ v0 ≤ 8) → ((-1) ≤ v1 ∧ v1 ≤ (-1)) → (r0 ∈ L' ∧ K' r0 = 200) → (∀ b ∈ L', K' b = 211 → (0 : Int) ≤ v0 ∧ gi (f' b) ((v0 : Int)).toNat = v1) → (∀ b ∈ L', K' b = 200 → gi (f' b) 31 = v0) → eW E 0 0 L' f' 35 [(0, .ref r0)] [.int (Int32.ofInt 0)]) (k50 : ∀ (K' : Nat → Nat) (B' : Int) (L' : List Nat) (f' : Nat → va_E) (v1 : Int), hok X0.2.2.1 K' B' L' f' → extC [(200, 30), (207, 0)] K B L f K' B' L' f' → (0 ≤ v0 ∧ v0 ≤ 8) → (0 ≤ v1 ∧ v1 ≤ 7) → (r0 ∈ L' ∧ K' r0 = 200) → (∀ b ∈ L', K' b = 200 → gi (f' b) 30 = v1) → (∀ b ∈ L', K' b = 211 → (0 : Int) ≤ v0 ∧ gi (f' b) ((v0 : Int)).toNat = v1) → (∀ b ∈ L', K' b = 200 → gi (f' b) 31 = v0) → eW E 0 0 L' f' 50 [(0, .ref r0)] [.int (Int32.ofInt 1)]) : eW E 0 0 L f 22 [(0, .ref r0)] [] := by
  obtain ⟨l0, D0, cy0, ax0⟩ := X0
  have hraw : eW E 0 0 L f 22 [(0, .ref r0)] [] := ?_
  · simpa only [Int.zero_add, Int.one_mul, Int.add_zero] using hraw
  have rm0 : (∀ b ∈ L, K b = 200 → gi (f b) 31 = (0 + (1 * v0 + 0))) := by simpa only [Int.zero_add, Int.one_mul, Int.add_zero] using hm0
  refine seg_ok (D := D_tn22) (νi := fun i => [v0].getD i 0) (μi := fun i => [r0].getD i 0) k_tn22 hE (mk_ok (ins := iX12_takeNext) jX12_takeNext fX12_ok lX12_ok kX12_ok kkX12_ok H) (by decide) rfl rfl rfl rfl hh ?_ ?_
  · refine ⟨(eok_of (fun i q hq => ?_) (fun i hi => ?_)), fa0, fa0, ?_, (fa_cons (Fmok hh (show (zkd 200).1 = 1 by decide) (j := 31) rfl (by decide) rm0) fa0), fa0, fa0⟩
    · match i, hq with
      | 0, hq => cases hq; exact hb0
      | i + 1, hq => cases hq
    · match i, hi with
      | 0, hi => exact absurd hi (by decide)
      | i + 1, _ => rfl
    · intro i k hk
      match i, hk with
      | 0, hk => cases hk; exact hr0
      | i + 1, hk => cases hk
  · intro q hq hst K' B' L' f' ν μ h1 h2 h3 h4 h5
    have e0 : ν 0 = v0 := h4 0 (by decide)
    have d0 : μ 0 = r0 := h5 0 (by decide)
    subst e0
    subst d0
    replace hq : q ∈ u_tn22 := hq
    unfold u_tn22 at hq
    simp only [List.mem_cons, List.not_mem_nil, or_false] at hq
    rcases hq with rfl | rfl
    · have hst2 : eW E 0 0 L' f' 35 [(0, .ref (μ 0))] [.int (Int32.ofInt (0 + 0))] := ?_
      · exact hst2
      try simp only [Int.zero_add, Int.one_mul, Int.add_zero]
      exact k35 K' B' L' f' (ν 1)  h1 h2 (h3.1 0) (h3.1 1) (h3.2.2.2.1 0 200 rfl) (by simpa only [xv, xvT, Int.zero_add, Int.one_mul, Int.add_zero] using (mokA h1 (show (zkd 211).1 = 2 by decide) (by decide) (h3.2.2.2.2.1 _ (List.mem_of_getElem? (i := 0) rfl)))) (by simpa only [xv, xvT, Int.zero_add, Int.one_mul, Int.add_zero] using (mokF h1 (show (zkd 200).1 = 1 by decide) (j := 31) rfl (by decide) (h3.2.2.2.2.1 _ (List.mem_of_getElem? (i := 1) rfl))))
    · have hst2 : eW E 0 0 L' f' 50 [(0, .ref (μ 0))] [.int (Int32.ofInt (1 + 0))] := ?_
      · exact hst2
      try simp only [Int.zero_add, Int.one_mul, Int.add_zero]
      exact k50 K' B' L' f' (ν 1)  h1 h2 (h3.1 0) (h3.1 1) (h3.2.2.2.1 0 200 rfl) (by simpa only [xv, xvT, Int.zero_add, Int.one_mul, Int.add_zero] using (mokF h1 (show (zkd 200).1 = 1 by decide) (j := 30) rfl (by decide) (h3.2.2.2.2.1 _ (List.mem_of_getElem? (i := 0) rfl)))) (by simpa only [xv, xvT, Int.zero_add, Int.one_mul, Int.add_zero] using (mokA h1 (show (zkd 211).1 = 2 by decide) (by decide) (h3.2.2.2.2.1 _ (List.mem_of_getElem? (i := 1) rfl)))) (by simpa only [xv, xvT, Int.zero_add, Int.one_mul, Int.add_zero] using (mokF h1 (show (zkd 200).1 = 1 by decide) (j := 31) rfl (by decide) (h3.2.2.2.2.1 _ (List.mem_of_getElem? (i := 2) rfl))))

/-! ee0: from 0 to [82] -/
def w_ee0 : TP := ([(0, (2, 0, (0, []))), (1, (0, 0, (0, [(1, 0)])))], [], ([(0, 329), (0, 8)], [], [], [200], [((200, (31, [])), (0, [(1, 1)]))], [], []), [], [])
def u_ee0 : List (Nat × TP × EX × Nat × Nat) := [(82, ([(0, (2, 0, (0, []))), (1, (0, 0, (0, [(1, 0)])))], [(0, 0, (1, [(1, 0)]))], ([(0, 329), (0, 8), ((-1), 7), ((-2147483648), 2147483647), (0, 304)], [], [], [200], [((200, (31, [])), ((-1), [(1, 1)])), ((200, (30, [])), (0, [(1, 2)])), ((212, (0, [(1, 1)])), (0, [(1, 2)])), ((215, (0, [(1, 4)])), (0, [(1, 3)])), ((200, (35, [])), (0, [(1, 3)])), ((213, (0, [(1, 1)])), (0, [(1, 4)]))], [], []), [(2, 200, (30, [])), (2, 200, (35, [])), (2, 213, (0, [(1, 1)]))], []), ((-1), []), 0, 0)]
def D_ee0 : DT := (mkD iX12_endEach fX12 lX12 kX12 kkX12 309 [(66, [304])] (w_ee0, [(200, 30), (200, 31), (207, 0), (208, 0), (214, 0), (215, 0)], [], 5, 0, 0, 3) false 2 u_ee0)
theorem k_ee0 : chkS D_ee0 4000 0 0 0 = true := by decide +kernel
theorem s_ee0 {X0 : zC0} {E : zCx} (H : ∀ j, j < 309 → CMj X0 j) (hE : zOk E X0 RX12 cX12_endEach 2 (zrm 5 0 0)) {K : Nat → Nat} {B : Int} {L : List Nat} {f : Nat → va_E} (hh : hok X0.2.2.1 K B L f) {v0 v1 : Int} {r0 : Nat} (hb0 : 0 ≤ v0 ∧ v0 ≤ 329) (hb1 : 0 ≤ v1 ∧ v1 ≤ 8) (hr0 : r0 ∈ L ∧ K r0 = 200) (hm0 : (∀ b ∈ L, K b = 200 → gi (f b) 31 = v1)) (k82 : ∀ (K' : Nat → Nat) (B' : Int) (L' : List Nat) (f' : Nat → va_E) (v2 v3 v4 : Int), hok X0.2.2.1 K' B' L' f' → extC [(200, 30), (200, 31), (207, 0), (208, 0), (214, 0), (215, 0)] K B L f K' B' L' f' → (0 ≤ v0 ∧ v0 ≤ 329) → (0 ≤ v1 ∧ v1 ≤ 8) → ((-1) ≤ v2 ∧ v2 ≤ 7) → ((-2147483648) ≤ v3 ∧ v3 ≤ 2147483647) → (0 ≤ v4 ∧ v4 ≤ 304) → (r0 ∈ L' ∧ K' r0 = 200) → (∀ b ∈ L', K' b = 200 → gi (f' b) 31 = ((-1) + v1)) → (∀ b ∈ L', K' b = 200 → gi (f' b) 30 = v2) → (∀ b ∈ L', K' b = 212 → (0 : Int) ≤ v1 ∧ gi (f' b) ((v1 : Int)).toNat = v2) → (∀ b ∈ L', K' b = 215 → (0 : Int) ≤ v4 ∧ gi (f' b) ((v4 : Int)).toNat = v3) → (∀ b ∈ L', K' b = 200 → gi (f' b) 35 = v3) → (∀ b ∈ L', K' b = 213 → (0 : Int) ≤ v1 ∧ gi (f' b) ((v1 : Int)).toNat = v4) → eW E 0 0 L' f' 82 [(0, .ref r0), (1, .int (Int32.ofInt v0))] [.int (Int32.ofInt (1 + v0))]) : eW E 0 0 L f 0 [(0, .ref r0), (1, .int (Int32.ofInt v0))] [] := by
  obtain ⟨l0, D0, cy0, ax0⟩ := X0
  have hraw : eW E 0 0 L f 0 [(0, .ref r0), (1, .int (Int32.ofInt (0 + (1 * v0 + 0))))] [] := ?_
  · simpa only [Int.zero_add, Int.one_mul, Int.add_zero] using hraw
  have rm0 : (∀ b ∈ L, K b = 200 → gi (f b) 31 = (0 + (1 * v1 + 0))) := by simpa only [Int.zero_add, Int.one_mul, Int.add_zero] using hm0
  refine seg_ok (D := D_ee0) (νi := fun i => [v0, v1].getD i 0) (μi := fun i => [r0].getD i 0) k_ee0 hE (mk_ok (ins := iX12_endEach) jX12_endEach fX12_ok lX12_ok kX12_ok kkX12_ok H) (by decide) rfl rfl rfl rfl hh ?_ ?_
  · refine ⟨(eok_of (fun i q hq => ?_) (fun i hi => ?_)), fa0, fa0, ?_, (fa_cons (Fmok hh (show (zkd 200).1 = 1 by decide) (j := 31) rfl (by decide) rm0) fa0), fa0, fa0⟩
    · match i, hq with
      | 0, hq => cases hq; exact hb0
      | 1, hq => cases hq; exact hb1
      | i + 2, hq => cases hq
    · match i, hi with
      | 0, hi => exact absurd hi (by decide)
      | 1, hi => exact absurd hi (by decide)
      | i + 2, _ => rfl
    · intro i k hk
      match i, hk with
      | 0, hk => cases hk; exact hr0
      | i + 1, hk => cases hk
  · intro q hq hst K' B' L' f' ν μ h1 h2 h3 h4 h5
    have e0 : ν 0 = v0 := h4 0 (by decide)
    have e1 : ν 1 = v1 := h4 1 (by decide)
    have d0 : μ 0 = r0 := h5 0 (by decide)
    subst e0
    subst e1
    subst d0
    replace hq : q ∈ u_ee0 := hq
    unfold u_ee0 at hq
    simp only [List.mem_cons, List.not_mem_nil, or_false] at hq
    rcases hq with rfl
    · have hst2 : eW E 0 0 L' f' 82 [(0, .ref (μ 0)), (1, .int (Int32.ofInt (0 + (1 * ν 0 + 0))))] [.int (Int32.ofInt (1 + (1 * ν 0 + 0)))] := ?_
      · exact hst2
      try simp only [Int.zero_add, Int.one_mul, Int.add_zero]
      exact k82 K' B' L' f' (ν 2) (ν 3) (ν 4)  h1 h2 (h3.1 0) (h3.1 1) (h3.1 2) (h3.1 3) (h3.1 4) (h3.2.2.2.1 0 200 rfl) (by simpa only [xv, xvT, Int.zero_add, Int.one_mul, Int.add_zero] using (mokF h1 (show (zkd 200).1 = 1 by decide) (j := 31) rfl (by decide) (h3.2.2.2.2.1 _ (List.mem_of_getElem? (i := 0) rfl)))) (by simpa only [xv, xvT, Int.zero_add, Int.one_mul, Int.add_zero] using (mokF h1 (show (zkd 200).1 = 1 by decide) (j := 30) rfl (by decide) (h3.2.2.2.2.1 _ (List.mem_of_getElem? (i := 1) rfl)))) (by simpa only [xv, xvT, Int.zero_add, Int.one_mul, Int.add_zero] using (mokA h1 (show (zkd 212).1 = 2 by decide) (by decide) (h3.2.2.2.2.1 _ (List.mem_of_getElem? (i := 2) rfl)))) (by simpa only [xv, xvT, Int.zero_add, Int.one_mul, Int.add_zero] using (mokA h1 (show (zkd 215).1 = 2 by decide) (by decide) (h3.2.2.2.2.1 _ (List.mem_of_getElem? (i := 3) rfl)))) (by simpa only [xv, xvT, Int.zero_add, Int.one_mul, Int.add_zero] using (mokF h1 (show (zkd 200).1 = 1 by decide) (j := 35) rfl (by decide) (h3.2.2.2.2.1 _ (List.mem_of_getElem? (i := 4) rfl)))) (by simpa only [xv, xvT, Int.zero_add, Int.one_mul, Int.add_zero] using (mokA h1 (show (zkd 213).1 = 2 by decide) (by decide) (h3.2.2.2.2.1 _ (List.mem_of_getElem? (i := 5) rfl))))
