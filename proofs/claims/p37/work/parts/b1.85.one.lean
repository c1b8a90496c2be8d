/-! One, a group, an ask; and all of them together. -/
section CR
variable {ax : zAx} {CE : g_E} {L : List Nat} {A : Nat → Nat} {m : Nat} {lw : Int} {tk vl : Nat → Int} {ps : Nat → Nat} {sh : Bool} {r : Option g_V} {h : g_H} {d : Nat} {own : Bool}
theorem RES_f {t i c0 k0 s : Nat} {g g' : Nat → Nat → Int} {c : Int} {j : Nat} (hf : fP A g g') (hu : UP tk vl sh t d own i (c, j)) (hc : c ≠ 0) (hF : FA A ps g' c j) : RES A m tk vl ps sh t d own i c0 k0 s g g' := ⟨hf, c, j, hu, fun h => absurd h hc, fun _ => hF⟩
theorem one_w (hA : HD A) (hm : m ≤ 300) {g : Nat → Nat → Int} (hP : PI A m lw tk vl ps g) {i c0 k0 : Nat} (hS : ST A m tk g i c0 k0) (hc : c0 ≤ i) (him : i < m) (x y : Int) : fP A g (F_X3_advance (A 0 : Int) (F_X7_write (A 5 : Int) x y g)) ∧ ST A m tk (F_X3_advance (A 0 : Int) (F_X7_write (A 5 : Int) x y g)) (i + 1) (c0 + 1) k0 := by
  have hw := wr_any hA hP x y
  have hP1 := PI_mo hA hP hw.1.1
  obtain ⟨f, s⟩ := adv_ST hA hm hP1 (wr_ST hA hP hS (by omega) x y) him
  exact ⟨fP_tr hw.1.1 f, s⟩
theorem xn_eq (hA : HD A) {g : Nat → Nat → Int} (hP : PI A m lw tk vl ps g) {i c0 k0 : Nat} (hS : ST A m tk g i c0 k0) (lo hi : Int) (ht : tk i = 53) : F_X3_expectNumber (A 0 : Int) lo hi g = if lo ≤ vl i ∧ vl i ≤ hi then F_X3_advance (A 0 : Int) g else F_X3_fail (A 0 : Int) 2 g := by
  obtain ⟨⟨a1, a2, a3⟩, ⟨b1, b2, b3, b4⟩, -, dd⟩ := hP
  obtain ⟨s0, s5, s6, si, -⟩ := hS
  unfold F_X3_expectNumber F_X11_isWithin
  simp only [Int.toNat_natCast, s0, s5, s6, a1, b3, (dd i si).2.1]
  rw [if_pos ht]
  by_cases h1 : vl i < lo
  · rw [if_pos h1, if_pos rfl, if_neg (by omega)]
  · rw [if_neg h1]
    by_cases h2 : hi < vl i
    · rw [if_pos h2, if_pos rfl, if_neg (by omega)]
    · rw [if_neg h2, if_neg (by decide), if_pos trivial, if_pos ⟨by omega, by omega⟩]
theorem xn_no {g : Nat → Nat → Int} {i c0 k0 : Nat} (hS : ST A m tk g i c0 k0) (lo hi : Int) (ht : tk i ≠ 53) : F_X3_expectNumber (A 0 : Int) lo hi g = F_X3_fail (A 0 : Int) 1 g := by
  unfold F_X3_expectNumber
  rw [Int.toNat_natCast, hS.2.2.1, if_neg ht]
theorem name_eq {g : Nat → Nat → Int} (hP : PI A m lw tk vl ps g) {i c0 k0 : Nat} (hS : ST A m tk g i c0 k0) (hsh : sh = decide (lw = 4)) : F_X3_readName (A 0 : Int) (if own = true then 1 else 0) g = if u_ok sh own (tk i) = true then F_X3_advance (A 0 : Int) (F_X7_write (A 5 : Int) 60 (tk i) g) else F_X3_fail (A 0 : Int) 5 g := by
  obtain ⟨⟨a1, a2, a3⟩, -⟩ := hP
  unfold F_X3_readName u_ok
  simp only [Int.toNat_natCast, hS.2.2.1, a2, a3, own_eq, hsh]
  cases u_own (tk i) <;> cases own <;> by_cases h1 : tk i = 34 <;> by_cases h2 : lw = 4 <;> simp [h1, h2]
theorem md_readAsk (hA : HD A) (hm : m ≤ 300) (hE : tk m = 54) (hd : d ≤ 8) (hC : ∀ y cc as h r h', CE y cc as h r h' → g_ex ax y cc as h r h' ∧ PSp A m lw tk vl ps sh y cc as h r h') {N : Nat} {ρ : Nat → Int} {g : Nat → Nat → Int} (hP : PI A m lw tk vl ps g) (r0 : ρ 0 = (A 0 : Int)) (r1 : ρ 1 = (d : Int)) (hr : g_run RX3 ax CE cX3_readAsk N (0, ρ, [], L, g) r h) : (g (A 0) 0 ≠ 0 → r = none ∧ ∃ g', h = (L, g') ∧ KEP A g g') ∧ ∀ i c0 k0, ST A m tk g i c0 k0 → c0 ≤ i → k0 ≤ i → r = none ∧ ∃ g', h = (L, g') ∧ RES A m tk vl ps sh 5 d own i c0 k0 1 g g' := by
  have hCE : ∀ y cc as h r h', CE y cc as h r h' → g_ex ax y cc as h r h' := fun _ _ _ _ _ _ h => (hC _ _ _ _ _ _ h).1
  have hx := pt_X3_readAsk_0 hCE hr
  simp only [r0, r1, Int.toNat_natCast] at hx
  have sum1 : ∀ {g1 : Nat → Nat → Int} {r1' : Option g_V} {h1' : g_H}, PI A m lw tk vl ps g1 → CE yX3_readSum cX3_readSum [(0, (A 0 : Int)), (1, (d : Int)), (2, 1)] (L, g1) r1' h1' → (g1 (A 0) 0 ≠ 0 → r1' = none ∧ ∃ g', h1' = (L, g') ∧ KEP A g1 g') ∧ ∀ i c0 k0, ST A m tk g1 i c0 k0 → c0 ≤ i → k0 ≤ i → r1' = none ∧ ∃ g', h1' = (L, g') ∧ RES A m tk vl ps sh 3 d true i c0 k0 1 g1 g' := by
    intro g1 r1' h1' hP1 hw
    obtain ⟨q1, q2⟩ := (hC _ _ _ _ _ _ hw).2 L g1 3 d true rfl hP1 ⟨rfl, rfl, rfl⟩ hd
    exact ⟨q1, fun i c0 k0 a b c => q2 i c0 k0 a b c (fun h => absurd h (by decide))⟩
  refine ⟨fun hf => ?_, fun i c0 k0 hS hc hk => ?_⟩
  · rw [op_k hf] at hx
    rcases hx with ⟨c1, ⟨c2, e1, e2⟩ | ⟨c2, -⟩⟩ | ⟨c1, n1, r1', h1', l1, hw, h1⟩
    · exact ⟨e1, g, e2, KEP_rf⟩
    · exact absurd rfl c2
    · obtain ⟨e1, g2, e2, k⟩ := (sum1 hP hw).1 hf
      subst e1
      subst e2
      have hP2 := PI_mo hA hP k.1
      have hf2 : g2 (A 0) 0 ≠ 0 := by rw [k.2.1]; exact hf
      have hy := pt_X3_readAsk_41 hCE h1
      simp only [r0, r1, Int.toNat_natCast, exp_k hf2, fail_n hf2] at hy
      have go : ∀ {n' : Nat} {r1' : Option g_V} {h1' : g_H} {x : Int}, CE yX3_readSum cX3_readSum [(0, (A 0 : Int)), (1, (d : Int)), (2, 1)] (L, g2) r1' h1' → g_run RX3 ax CE cX3_readAsk n' (93, va_up ρ 2 x, g_push r1' [], h1') r h → r = none ∧ ∃ g', h = (L, g') ∧ KEP A g g' := by
        intro n' r1' h1' x hw h1
        obtain ⟨e1, g3, e2, k3⟩ := (sum1 hP2 hw).1 hf2
        subst e1
        subst e2
        have hP3 := PI_mo hA hP2 k3.1
        obtain ⟨e3, e4⟩ := pt_X3_readAsk_93 hCE h1
        rw [show (va_up ρ 2 x) 0 = (A 0 : Int) by simp [va_up, r0], Int.toNat_natCast, hP3.1.2.1] at e4
        exact ⟨e3, _, e4, KEP_tr k (KEP_tr k3 (wr_any hA hP3 _ _).1)⟩
      rcases hy with ⟨-, n1, r1', h1', l1, hw, h1⟩ | ⟨-, ⟨-, n1, r1', h1', l1, hw, h1⟩ | ⟨-, ⟨-, n1, r1', h1', l1, hw, h1⟩ | ⟨-, ⟨-, n1, r1', h1', l1, hw, h1⟩ | ⟨-, ⟨-, n1, r1', h1', l1, hw, h1⟩ | ⟨-, ⟨-, n1, r1', h1', l1, hw, h1⟩ | ⟨-, e1, e2⟩⟩⟩⟩⟩⟩
      · exact go hw h1
      · exact go hw h1
      · exact go hw h1
      · exact go hw h1
      · exact go hw h1
      · exact go hw h1
      · exact ⟨e1, _, e2, k⟩
  · have him : tk i ≠ 54 → i < m := by
      intro ht
      have h1 := hS.2.2.2.1
      by_cases hx : i = m
      · rw [hx, hE] at ht; exact absurd rfl ht
      · omega
    rcases hx with ⟨c1, hx⟩ | ⟨c1, n1, r1', h1', l1, hw, h1⟩
    · rw [hS.2.2.1] at c1
      have hi := him (by omega)
      by_cases h8 : 8 ≤ d
      · rw [op_n hA hP hS h8] at hx
        rcases hx with ⟨c2, e1, e2⟩ | ⟨c2, -⟩
        · have hF := fail_FA hA hP hS (why := 3)
          exact ⟨e1, _, e2, RES_f hF.1 ⟨1, by rw [uP5, if_pos c1, if_pos h8]⟩ (by decide) hF.2⟩
        · exact absurd rfl c2
      · rw [op_y hS (by omega)] at hx
        rcases hx with ⟨c2, -⟩ | ⟨c2, n1, r1', h1', l1, hw, h1⟩
        · exact absurd c2 (show ¬ (1 : Int) = 0 by decide)
        · obtain ⟨fa, hS1⟩ := adv_ST hA hm hP hS hi
          have hP1 := PI_mo hA hP fa
          rw [show g_i ((d : Int) + 1) = ((d + 1 : Nat) : Int) from (gi_of (by omega) (by omega)).trans (by omega)] at hw
          obtain ⟨e1, g2, e2, f2, c, j, hu, hy, hn⟩ := ((hC _ _ _ _ _ _ hw).2 L _ 5 (d + 1) true rfl hP1 ⟨rfl, rfl, rfl⟩ (by omega)).2 (i + 1) c0 k0 hS1 (by omega) (by omega) (fun h => absurd h (by decide))
          subst e1
          subst e2
          have hP2 := PI_mo hA hP1 f2
          obtain ⟨e3, e4⟩ := pt_X3_readAsk_24 hCE h1
          rw [r0, Int.toNat_natCast, hP2.1.2.1] at e4
          have hw2 := wr_any hA hP2 25 0
          obtain ⟨f, ef⟩ := hu
          refine ⟨e3, _, e4, fP_tr fa (fP_tr f2 hw2.1.1), c, j, ⟨f + 1, by rw [uP5, if_pos c1, if_neg h8]; exact ef⟩, fun h0 => ?_, fun h0 => FA_kep (hn h0) hw2.1⟩
          obtain ⟨hij, c1', k1, hS2, b1, b2, b3⟩ := hy h0
          have := hS2.2.2.2.1
          exact ⟨by omega, c1' + 1, k1, wr_ST hA hP2 hS2 (by omega) _ _, by omega, by omega, by omega⟩
    · rw [hS.2.2.1] at c1
      obtain ⟨e1, g2, e2, f2, c, j, hu, hy, hn⟩ := (sum1 hP hw).2 i c0 k0 hS hc hk
      subst e1
      subst e2
      have hP2 := PI_mo hA hP f2
      have hx := pt_X3_readAsk_41 hCE h1
      simp only [r0, r1, Int.toNat_natCast] at hx
      by_cases h0 : c = 0
      · subst h0
        obtain ⟨hij, c1', k1, hS2, b1, b2, b3⟩ := hy rfl
        have hjm := hS2.2.2.2.1
        simp only [hS2.2.2.1] at hx
        have go : ∀ {n' : Nat} {r1' : Option g_V} {h1' : g_H}, (u_cmp (tk j) = true) → tk j ≠ 54 → CE yX3_readSum cX3_readSum [(0, (A 0 : Int)), (1, (d : Int)), (2, 1)] (L, F_X3_expect (A 0 : Int) (tk j) g2) r1' h1' → g_run RX3 ax CE cX3_readAsk n' (93, va_up ρ 2 (tk j), g_push r1' [], h1') r h → r = none ∧ ∃ g', h = (L, g') ∧ RES A m tk vl ps sh 5 d own i c0 k0 1 g g' := by
          intro n' r1' h1' hcm hne hw h1
          have hj : j < m := by
            by_cases hx : j = m
            · rw [hx, hE] at hne; exact absurd rfl hne
            · omega
          obtain ⟨f3, hS3⟩ := exp_y hA hm hP2 hS2 rfl hj
          have hP3 := PI_mo hA hP2 f3
          obtain ⟨e1, g4, e2, f4, c', j', hu', hy', hn'⟩ := (sum1 hP3 hw).2 (j + 1) c1' k1 hS3 (by omega) (by omega)
          subst e1
          subst e2
          have hP4 := PI_mo hA hP3 f4
          obtain ⟨e3, e4⟩ := pt_X3_readAsk_93 hCE h1
          rw [show (va_up ρ 2 (tk j)) 0 = (A 0 : Int) by simp [va_up, r0], Int.toNat_natCast, hP4.1.2.1] at e4
          have hw2 := wr_any hA hP4 ((va_up ρ 2 (tk j)) 2) 0
          refine ⟨e3, _, e4, fP_tr f2 (fP_tr f3 (fP_tr f4 hw2.1.1)), c', j', ?_, fun h0 => ?_, fun h0 => FA_kep (hn' h0) hw2.1⟩
          · obtain ⟨f1, e1⟩ := hu
            obtain ⟨f2, e2⟩ := hu'
            refine ⟨f1 + f2 + 1, ?_⟩
            rw [uP5, if_neg c1, uP_mo e1 (by omega), u_b0, if_pos hcm]
            exact uP_mo e2 (by omega)
          · obtain ⟨hij', c2, k2, hS4, b4, b5, b6⟩ := hy' h0
            have := hS4.2.2.2.1
            exact ⟨by omega, c2 + 1, k2, wr_ST hA hP4 hS4 (by omega) _ _, by omega, by omega, by omega⟩
        have cm : ∀ {x : Int}, (x = 44 ∨ x = 51 ∨ x = 45 ∨ x = 52 ∨ x = 46 ∨ x = 47) → u_cmp x = true := by
          intro x hx
          rcases hx with rfl | rfl | rfl | rfl | rfl | rfl <;> decide
        rcases hx with ⟨q1, n1, r1', h1', l1, hw, h1⟩ | ⟨q1, ⟨q2, n1, r1', h1', l1, hw, h1⟩ | ⟨q2, ⟨q3, n1, r1', h1', l1, hw, h1⟩ | ⟨q3, ⟨q4, n1, r1', h1', l1, hw, h1⟩ | ⟨q4, ⟨q5, n1, r1', h1', l1, hw, h1⟩ | ⟨q5, ⟨q6, n1, r1', h1', l1, hw, h1⟩ | ⟨q6, e1, e2⟩⟩⟩⟩⟩⟩
        · exact go (cm (by omega)) (by omega) hw h1
        · exact go (cm (by omega)) (by omega) hw h1
        · exact go (cm (by omega)) (by omega) hw h1
        · exact go (cm (by omega)) (by omega) hw h1
        · exact go (cm (by omega)) (by omega) hw h1
        · exact go (cm (by omega)) (by omega) hw h1
        · have hF := fail_FA hA hP2 hS2 (why := 1)
          obtain ⟨f1, e3⟩ := hu
          refine ⟨e1, _, e2, RES_f (fP_tr f2 hF.1) ⟨f1 + 1, ?_⟩ (by decide) hF.2⟩
          have hcm : u_cmp (tk j) ≠ true := by
            unfold u_cmp
            simp only [ne_eq, Bool.or_eq_true, decide_eq_true_eq]
            omega
          rw [uP5, if_neg c1, e3, u_b0, if_neg hcm]
      · have hF := hn h0
        have hf2 : g2 (A 0) 0 ≠ 0 := by rw [hF.1]; exact h0
        simp only [exp_k hf2, fail_n hf2] at hx
        have hu5 : UP tk vl sh 5 d own i (c, j) := by
          obtain ⟨f1, e3⟩ := hu
          exact ⟨f1 + 1, by rw [uP5, if_neg c1, e3, u_bn h0]⟩
        have go : ∀ {n' : Nat} {r1' : Option g_V} {h1' : g_H} {x : Int}, CE yX3_readSum cX3_readSum [(0, (A 0 : Int)), (1, (d : Int)), (2, 1)] (L, g2) r1' h1' → g_run RX3 ax CE cX3_readAsk n' (93, va_up ρ 2 x, g_push r1' [], h1') r h → r = none ∧ ∃ g', h = (L, g') ∧ RES A m tk vl ps sh 5 d own i c0 k0 1 g g' := by
          intro n' r1' h1' x hw h1
          obtain ⟨e1, g3, e2, k3⟩ := (sum1 hP2 hw).1 hf2
          subst e1
          subst e2
          have hP3 := PI_mo hA hP2 k3.1
          obtain ⟨e3, e4⟩ := pt_X3_readAsk_93 hCE h1
          rw [show (va_up ρ 2 x) 0 = (A 0 : Int) by simp [va_up, r0], Int.toNat_natCast, hP3.1.2.1] at e4
          have hw2 := wr_any hA hP3 ((va_up ρ 2 x) 2) 0
          exact ⟨e3, _, e4, RES_f (fP_tr f2 (fP_tr k3.1 hw2.1.1)) hu5 h0 (FA_kep (FA_kep hF k3) hw2.1)⟩
        rcases hx with ⟨-, n1, r1', h1', l1, hw, h1⟩ | ⟨-, ⟨-, n1, r1', h1', l1, hw, h1⟩ | ⟨-, ⟨-, n1, r1', h1', l1, hw, h1⟩ | ⟨-, ⟨-, n1, r1', h1', l1, hw, h1⟩ | ⟨-, ⟨-, n1, r1', h1', l1, hw, h1⟩ | ⟨-, ⟨-, n1, r1', h1', l1, hw, h1⟩ | ⟨-, e1, e2⟩⟩⟩⟩⟩⟩
        · exact go hw h1
        · exact go hw h1
        · exact go hw h1
        · exact go hw h1
        · exact go hw h1
        · exact go hw h1
        · exact ⟨e1, _, e2, RES_f f2 hu5 h0 hF⟩
end CR
section CS
variable {ax : zAx} {CE : g_E} {L : List Nat} {A : Nat → Nat} {m : Nat} {lw : Int} {tk vl : Nat → Int} {ps : Nat → Nat} {sh : Bool} {r : Option g_V} {h : g_H} {d : Nat} {own : Bool}
theorem up_ST (hA : HD A) {k : Nat} (hk : 6 ≤ k ∧ k ≤ 9) {j : Nat} {v : Int} {g : Nat → Nat → Int} {i c0 k0 : Nat} (hS : ST A m tk g i c0 k0) : ST A m tk (g_up g (A k) j v) i c0 k0 := by
  obtain ⟨s0, s5, s6, si, s7, s8, s9⟩ := hS
  have n0 : A 0 ≠ A k := fun e => by have := hA 0 k (by decide) (by omega) e; omega
  have n5 : A 5 ≠ A k := fun e => by have := hA 5 k (by decide) (by omega) e; omega
  exact ⟨(g_up_a n0).trans s0, (g_up_a n0).trans s5, (g_up_a n0).trans s6, si, (g_up_a n5).trans s7, (g_up_a n5).trans s8, (g_up_a n0).trans s9⟩
theorem uP0_g {n i : Nat} (ht : tk i = 20 ∨ tk i = 21) : uP tk vl sh (n + 1) 0 d own i = if 8 ≤ d then some (3, i) else u_b (if tk i = 20 then uP tk vl sh n 3 (d + 1) true (i + 1) else uP tk vl sh n 8 (d + 1) true (i + 1)) (fun j => if tk j = 22 then some (0, j + 1) else some (1, j)) := by
  have hn : u_nam (tk i) = false := by rcases ht with h | h <;> rw [h] <;> decide
  rw [uP0, if_neg (by omega), hn, if_neg (by decide), if_neg (by omega), if_neg (by omega)]
  rcases ht with h | h
  · rw [if_pos h]
    simp only [if_pos h]
  · rw [if_neg (by omega), if_pos h]
    simp only [if_neg (show ¬ tk i = 20 by omega)]
theorem md_readGroup (hA : HD A) (hm : m ≤ 300) (hE : tk m = 54) (hd : d ≤ 8) (hC : ∀ y cc as h r h', CE y cc as h r h' → g_ex ax y cc as h r h' ∧ PSp A m lw tk vl ps sh y cc as h r h') {N : Nat} {ρ : Nat → Int} {g : Nat → Nat → Int} (hP : PI A m lw tk vl ps g) (r0 : ρ 0 = (A 0 : Int)) (r1 : ρ 1 = (d : Int)) (hr : g_run RX3 ax CE cX3_readGroup N (0, ρ, [], L, g) r h) : (g (A 0) 0 ≠ 0 → r = none ∧ ∃ g', h = (L, g') ∧ KEP A g g') ∧ ∀ i c0 k0, ST A m tk g i c0 k0 → c0 ≤ i → k0 ≤ i → (tk i = 20 ∨ tk i = 21) → r = none ∧ ∃ g', h = (L, g') ∧ RES A m tk vl ps sh 0 d own i c0 k0 1 g g' := by
  have hCE : ∀ y cc as h r h', CE y cc as h r h' → g_ex ax y cc as h r h' := fun _ _ _ _ _ _ h => (hC _ _ _ _ _ _ h).1
  have hx := pt_X3_readGroup_0 hCE hr
  simp only [r0, r1, Int.toNat_natCast] at hx
  refine ⟨fun hf => ?_, fun i c0 k0 hS hc hk ht => ?_⟩
  · simp only [op_k hf] at hx
    rcases hx with ⟨-, ⟨-, e1, e2⟩ | ⟨c2, -⟩⟩ | ⟨-, ⟨-, e1, e2⟩ | ⟨c2, -⟩⟩
    · exact ⟨e1, g, e2, KEP_rf⟩
    · exact absurd trivial c2
    · exact ⟨e1, g, e2, KEP_rf⟩
    · exact absurd trivial c2
  have him : i < m := by
    have h1 := hS.2.2.2.1
    by_cases hx : i = m
    · rw [hx, hE] at ht; omega
    · omega
  by_cases h8 : 8 ≤ d
  · rw [op_n hA hP hS h8] at hx
    have hF := fail_FA hA hP hS (why := 3)
    have fin : r = none → h = (L, F_X3_fail (A 0 : Int) 3 g) → r = none ∧ ∃ g', h = (L, g') ∧ RES A m tk vl ps sh 0 d own i c0 k0 1 g g' := fun e1 e2 => ⟨e1, _, e2, RES_f hF.1 ⟨1, by rw [uP0_g ht, if_pos h8]⟩ (by decide) hF.2⟩
    rcases hx with ⟨-, ⟨-, e1, e2⟩ | ⟨c2, -⟩⟩ | ⟨-, ⟨-, e1, e2⟩ | ⟨c2, -⟩⟩
    · exact fin e1 e2
    · exact absurd rfl c2
    · exact fin e1 e2
    · exact absurd rfl c2
  obtain ⟨fa, hS1⟩ := adv_ST hA hm hP hS him
  have hP1 := PI_mo hA hP fa
  have ek : g_i ((k0 : Int) + 1) = ((k0 + 1 : Nat) : Int) := (gi_of (by omega) (by omega)).trans (by omega)
  replace ek : EqG (g_i ((k0 : Int) + 1)) (((k0 + 1 : Nat) : Int)) := ek
  have ed : g_i ((d : Int) + 1) = ((d + 1 : Nat) : Int) := (gi_of (by omega) (by omega)).trans (by omega)
  replace ed : EqG (g_i ((d : Int) + 1)) (((d + 1 : Nat) : Int)) := ed
  have n05 : A 0 ≠ A 5 := fun e => absurd (hA 0 5 (by decide) (by decide) e) (by decide)
  have f2 : fP A (F_X3_advance (A 0 : Int) g) (g_up (F_X3_advance (A 0 : Int) g) (A 5) 8 ((k0 + 1 : Nat) : Int)) := fP_up fP_rf (Or.inr (Or.inl ⟨rfl, Or.inr rfl⟩))
  have hP2 := PI_mo hA hP1 f2
  have hS2 : ST A m tk (g_up (F_X3_advance (A 0 : Int) g) (A 5) 8 ((k0 + 1 : Nat) : Int)) (i + 1) c0 (k0 + 1) := by
    obtain ⟨s0, s5, s6, si, s7, s8, s9⟩ := hS1
    exact ⟨(g_up_a n05).trans s0, (g_up_a n05).trans s5, (g_up_a n05).trans s6, si, (g_up_j (by decide)).trans s7, g_up_s .., (g_up_a n05).trans s9⟩
  have hw3 := wr_any hA hP2 62 (k0 : Int)
  have hP3 := PI_mo hA hP2 hw3.1.1
  have hS3 := wr_ST hA hP2 hS2 (by omega) 62 (k0 : Int)
  rw [op_y hS (by omega)] at hx
  simp only [hP1.1.2.1, hP.1.2.1, Int.toNat_natCast, hS1.2.2.2.2.2.1, hS.2.2.2.2.2.1, ek.e, ed.e, hP3.1.2.1, hP3.2.2.1.2.2.1, hS.2.2.1] at hx
  have hS4 := up_ST hA (k := 8) (by decide) (j := k0) (v := (F_X7_write (A 5 : Int) 62 (k0 : Int) (g_up (F_X3_advance (A 0 : Int) g) (A 5) 8 ((k0 + 1 : Nat) : Int))) (A 5) 5) hS3
  have f4 : fP A g (g_up (F_X7_write (A 5 : Int) 62 (k0 : Int) (g_up (F_X3_advance (A 0 : Int) g) (A 5) 8 ((k0 + 1 : Nat) : Int))) (A 8) k0 ((F_X7_write (A 5 : Int) 62 (k0 : Int) (g_up (F_X3_advance (A 0 : Int) g) (A 5) 8 ((k0 + 1 : Nat) : Int))) (A 5) 5)) := fP_up (fP_tr fa (fP_tr f2 hw3.1.1)) (Or.inr (Or.inr ⟨8, by decide, by decide, rfl⟩))
  have hP4 := PI_mo hA hP f4
  have fin : ∀ {n' : Nat} {ρ' : Nat → Int} {g5 : Nat → Nat → Int} {t : Nat} {h2 : r = none ∧ h = (L, F_X3_expect (ρ' 0) 22 (g_up g5 (g5 (g5 (ρ' 0).toNat 3).toNat 7).toNat (ρ' 3).toNat (g5 (g5 (ρ' 0).toNat 3).toNat 5)))}, ρ' 0 = (A 0 : Int) → ρ' 3 = (k0 : Int) → RES A m tk vl ps sh t (d + 1) true (i + 1) (c0 + 1) (k0 + 1) 1 (g_up (F_X7_write (A 5 : Int) 62 (k0 : Int) (g_up (F_X3_advance (A 0 : Int) g) (A 5) 8 ((k0 + 1 : Nat) : Int))) (A 8) k0 ((F_X7_write (A 5 : Int) 62 (k0 : Int) (g_up (F_X3_advance (A 0 : Int) g) (A 5) 8 ((k0 + 1 : Nat) : Int))) (A 5) 5)) g5 → (∀ n, uP tk vl sh (n + 1) 0 d own i = u_b (uP tk vl sh n t (d + 1) true (i + 1)) (fun j => if tk j = 22 then some (0, j + 1) else some (1, j))) → r = none ∧ ∃ g', h = (L, g') ∧ RES A m tk vl ps sh 0 d own i c0 k0 1 g g' := by
    intro n' ρ' g5 t h2 r0 r3 ⟨f5, c, j, hu, hy, hn⟩ hX
    obtain ⟨e3, e4⟩ := h2
    have hP5 := PI_mo hA hP4 f5
    simp only [r0, r3, Int.toNat_natCast, hP5.1.2.1, hP5.2.2.1.2.2.2] at e4
    have f6 : fP A g5 (g_up g5 (A 9) k0 (g5 (A 5) 5)) := fP_up fP_rf (Or.inr (Or.inr ⟨9, by decide, by decide, rfl⟩))
    have hP6 := PI_mo hA hP5 f6
    by_cases h0 : c = 0
    · subst h0
      obtain ⟨hij, c1, k1, hS5, b1, b2, b3⟩ := hy rfl
      have hS6 := up_ST hA (k := 9) (by decide) (j := k0) (v := g5 (A 5) 5) hS5
      have hjm := hS5.2.2.2.1
      by_cases h22 : tk j = 22
      · have hj : j < m := by
          by_cases hx : j = m
          · rw [hx, hE] at h22; omega
          · omega
        obtain ⟨f7, hS7⟩ := exp_y hA hm hP6 hS6 h22 hj
        obtain ⟨f, ef⟩ := UP_fin (q := (0, j + 1)) (X := fun j => if tk j = 22 then some (0, j + 1) else some (1, j)) hu (fun _ => if_pos h22) (fun h => absurd rfl h)
        exact ⟨e3, _, e4, fP_tr f4 (fP_tr f5 (fP_tr f6 f7)), 0, j + 1, ⟨f + 1, by rw [hX]; exact ef⟩, fun _ => ⟨by omega, c1, k1, hS7, by omega, by omega, by omega⟩, fun h => absurd rfl h⟩
      · obtain ⟨f7, hF⟩ := exp_n hA hP6 hS6 h22
        obtain ⟨f, ef⟩ := UP_fin (q := (1, j)) (X := fun j => if tk j = 22 then some (0, j + 1) else some (1, j)) hu (fun _ => if_neg h22) (fun h => absurd rfl h)
        exact ⟨e3, _, e4, RES_f (fP_tr f4 (fP_tr f5 (fP_tr f6 f7))) ⟨f + 1, by rw [hX]; exact ef⟩ (by decide) hF⟩
    · have hF := hn h0
      have hF6 : FA A ps (g_up g5 (A 9) k0 (g5 (A 5) 5)) c j := by
        have n09 : A 0 ≠ A 9 := fun e => absurd (hA 0 9 (by decide) (by decide) e) (by decide)
        exact ⟨(g_up_a n09).trans hF.1, (g_up_a n09).trans hF.2⟩
      rw [exp_k (by rw [hF6.1]; exact h0)] at e4
      obtain ⟨f, ef⟩ := UP_fin (q := (c, j)) (X := fun j => if tk j = 22 then some (0, j + 1) else some (1, j)) hu (fun h => absurd h h0) (fun _ => rfl)
      exact ⟨e3, _, e4, RES_f (fP_tr f4 (fP_tr f5 f6)) ⟨f + 1, by rw [hX]; exact ef⟩ h0 hF6⟩
  rcases hx with ⟨c1, ⟨c2, -⟩ | ⟨c2, ⟨c3, n1, r1', h1', l1, hw, h1⟩ | ⟨c3, -⟩⟩⟩ | ⟨c1, ⟨c2, -⟩ | ⟨c2, ⟨c3, n1, r1', h1', l1, hw, h1⟩ | ⟨c3, -⟩⟩⟩
  · exact absurd c2 (by decide)
  · obtain ⟨e1, g5, e2, hR⟩ := ((hC _ _ _ _ _ _ hw).2 L _ 8 (d + 1) true rfl hP4 ⟨rfl, rfl, rfl⟩ (by omega)).2 (i + 1) (c0 + 1) (k0 + 1) hS4 (by omega) (by omega) (fun h => absurd h (by decide))
    subst e1
    subst e2
    exact fin (n' := 0) (h2 := pt_X3_readGroup_89 hCE h1) (by simp [va_up, r0]) (by simp [va_up]) hR (fun n => by rw [uP0_g ht, if_neg h8, if_neg (by omega)]; rfl)
  · exact absurd (by omega : (k0 : Int) < 300) c3
  · exact absurd c2 (by decide)
  · obtain ⟨e1, g5, e2, hR⟩ := ((hC _ _ _ _ _ _ hw).2 L _ 3 (d + 1) true rfl hP4 ⟨rfl, rfl, rfl⟩ (by omega)).2 (i + 1) (c0 + 1) (k0 + 1) hS4 (by omega) (by omega) (fun h => absurd h (by decide))
    subst e1
    subst e2
    exact fin (n' := 0) (h2 := pt_X3_readGroup_100 hCE h1) (by simp [va_up, r0]) (by simp [va_up]) hR (fun n => by rw [uP0_g ht, if_neg h8, if_pos (by omega)]; rfl)
  · exact absurd (by omega : (k0 : Int) < 300) c3
end CS
section CT
variable {ax : zAx} {CE : g_E} {L : List Nat} {A : Nat → Nat} {m : Nat} {lw : Int} {tk vl : Nat → Int} {ps : Nat → Nat} {sh : Bool} {r : Option g_V} {h : g_H} {d : Nat} {own : Bool}
theorem md_readOne (hA : HD A) (hm : m ≤ 300) (hE : tk m = 54) (hv : ∀ j, tk j = 53 → 0 ≤ vl j) (hsh : sh = decide (lw = 4)) (hd : d ≤ 8) (hC : ∀ y cc as h r h', CE y cc as h r h' → g_ex ax y cc as h r h' ∧ PSp A m lw tk vl ps sh y cc as h r h') {N : Nat} {ρ : Nat → Int} {g : Nat → Nat → Int} (hP : PI A m lw tk vl ps g) (r0 : ρ 0 = (A 0 : Int)) (r1 : ρ 1 = (d : Int)) (r2 : ρ 2 = (if own = true then 1 else 0)) (hr : g_run RX3 ax CE cX3_readOne N (0, ρ, [], L, g) r h) : (g (A 0) 0 ≠ 0 → r = none ∧ ∃ g', h = (L, g') ∧ KEP A g g') ∧ ∀ i c0 k0, ST A m tk g i c0 k0 → c0 ≤ i → k0 ≤ i → r = none ∧ ∃ g', h = (L, g') ∧ RES A m tk vl ps sh 0 d own i c0 k0 1 g g' := by
  have hCE : ∀ y cc as h r h', CE y cc as h r h' → g_ex ax y cc as h r h' := fun _ _ _ _ _ _ h => (hC _ _ _ _ _ _ h).1
  have hx := pt_X3_readOne_0 hCE hr
  simp only [r0, r1, r2, Int.toNat_natCast] at hx
  refine ⟨fun hf => ?_, fun i c0 k0 hS hc hk => ?_⟩
  · rcases hx with ⟨c1, -⟩ | ⟨c1, e1, e2⟩
    · exact absurd c1 hf
    · exact ⟨e1, g, e2, KEP_rf⟩
  rcases hx with ⟨c1, hx⟩ | ⟨c1, -⟩
  rotate_left
  · exact absurd hS.1 c1
  have him : tk i ≠ 54 → i < m := by
    intro ht
    have h1 := hS.2.2.2.1
    by_cases hx : i = m
    · rw [hx, hE] at ht; exact absurd rfl ht
    · omega
  have ed : d < 8 → g_i ((d : Int) + 1) = ((d + 1 : Nat) : Int) := fun h => (gi_of (by omega) (by omega)).trans (by omega)
  simp only [hS.2.2.1, nam_eq] at hx
  rcases hx with ⟨t1, n1, l1, h1⟩ | ⟨t1, ⟨t2, ⟨t3, hx⟩ | ⟨t3, ⟨t4, hx⟩ | ⟨t4, hx⟩⟩⟩ | ⟨t2, n1, l1, h1⟩⟩
  · -- a number
    have hi := him (by omega)
    simp only [hP.1.1, hP.1.2.1, hP.2.1.2.2.1, Int.toNat_natCast, hS.2.1, (hP.2.2.2 i hS.2.2.2.1).2.1] at h1
    obtain ⟨e1, e2⟩ := pt_X3_readOne_170 hCE h1
    have hw := wr_any hA hP 53 (vl i)
    have hP1 := PI_mo hA hP hw.1.1
    have hS1 := wr_ST hA hP hS (by omega) 53 (vl i)
    rw [xn_eq hA hP1 hS1 0 9999 t1] at e2
    by_cases h9 : vl i ≤ 9999
    · rw [if_pos ⟨hv i t1, h9⟩] at e2
      obtain ⟨f1, hS2⟩ := one_w hA hm hP hS hc hi 53 (vl i)
      exact ⟨e1, _, e2, f1, 0, i + 1, ⟨1, by rw [uP0, if_pos t1, if_pos h9]⟩, fun _ => ⟨by omega, c0 + 1, k0, hS2, by omega, by omega, by omega⟩, fun h => absurd rfl h⟩
    · rw [if_neg (fun h => h9 h.2)] at e2
      have hF := fail_FA hA hP1 hS1 (why := 2)
      exact ⟨e1, _, e2, RES_f (fP_tr hw.1.1 hF.1) ⟨1, by rw [uP0, if_pos t1, if_neg h9]⟩ (by decide) hF.2⟩
  · -- a paren
    have hn : u_nam (tk i) ≠ true := fun h => by rw [h, if_pos rfl] at t2; cases t2
    have hi := him (by omega)
    have eu : ∀ n, uP tk vl sh (n + 1) 0 d own i = if 8 ≤ d then some (3, i) else u_b (uP tk vl sh n 3 (d + 1) own (i + 1)) (fun j => if tk j = 49 then some (0, j + 1) else some (1, j)) := fun n => by rw [uP0, if_neg t1, if_neg hn, if_pos t3]
    by_cases h8 : 8 ≤ d
    · rw [op_n hA hP hS h8] at hx
      rcases hx with ⟨c2, n1, l1, h1⟩ | ⟨c2, -⟩
      · obtain ⟨e1, e2⟩ := pt_X3_readOne_170 hCE h1
        have hF := fail_FA hA hP hS (why := 3)
        exact ⟨e1, _, e2, RES_f hF.1 ⟨1, by rw [eu, if_pos h8]⟩ (by decide) hF.2⟩
      · exact absurd rfl c2
    · rw [op_y hS (by omega), ed (by omega)] at hx
      rcases hx with ⟨c2, -⟩ | ⟨c2, n1, r1', h1', l1, hw, h1⟩
      · exact absurd c2 (show ¬ (1 : Int) = 0 by decide)
      · obtain ⟨fa, hS1⟩ := adv_ST hA hm hP hS hi
        have hP1 := PI_mo hA hP fa
        obtain ⟨e1, g2, e2, f2, c, j, hu, hy, hn⟩ := ((hC _ _ _ _ _ _ hw).2 L _ 3 (d + 1) own rfl hP1 ⟨rfl, rfl, rfl⟩ (by omega)).2 (i + 1) c0 k0 hS1 (by omega) (by omega) (fun h => absurd h (by decide))
        subst e1
        subst e2
        have hP2 := PI_mo hA hP1 f2
        obtain ⟨n2, l2, h2⟩ := pt_X3_readOne_92 hCE h1
        rw [r0] at h2
        obtain ⟨e3, e4⟩ := pt_X3_readOne_170 hCE h2
        by_cases h0 : c = 0
        · subst h0
          obtain ⟨hij, c1', k1, hS2, b1, b2, b3⟩ := hy rfl
          have hjm := hS2.2.2.2.1
          by_cases h49 : tk j = 49
          · have hj : j < m := by
              by_cases hx : j = m
              · rw [hx, hE] at h49; omega
              · omega
            obtain ⟨f3, hS3⟩ := exp_y hA hm hP2 hS2 h49 hj
            obtain ⟨f, ef⟩ := UP_fin (q := (0, j + 1)) (X := fun j => if tk j = 49 then some (0, j + 1) else some (1, j)) hu (fun _ => if_pos h49) (fun h => absurd rfl h)
            exact ⟨e3, _, e4, fP_tr fa (fP_tr f2 f3), 0, j + 1, ⟨f + 1, by rw [eu, if_neg h8]; exact ef⟩, fun _ => ⟨by omega, c1', k1, hS3, by omega, by omega, by omega⟩, fun h => absurd rfl h⟩
          · obtain ⟨f3, hF⟩ := exp_n hA hP2 hS2 h49
            obtain ⟨f, ef⟩ := UP_fin (q := (1, j)) (X := fun j => if tk j = 49 then some (0, j + 1) else some (1, j)) hu (fun _ => if_neg h49) (fun h => absurd rfl h)
            exact ⟨e3, _, e4, RES_f (fP_tr fa (fP_tr f2 f3)) ⟨f + 1, by rw [eu, if_neg h8]; exact ef⟩ (by decide) hF⟩
        · have hF := hn h0
          rw [exp_k (by rw [hF.1]; exact h0)] at e4
          obtain ⟨f, ef⟩ := UP_fin (q := (c, j)) (X := fun j => if tk j = 49 then some (0, j + 1) else some (1, j)) hu (fun h => absurd h h0) (fun _ => rfl)
          exact ⟨e3, _, e4, RES_f (fP_tr fa f2) ⟨f + 1, by rw [eu, if_neg h8]; exact ef⟩ h0 hF⟩
  · -- a minus
    have hn : u_nam (tk i) ≠ true := fun h => by rw [h, if_pos rfl] at t2; cases t2
    have hi := him (by omega)
    have eu : ∀ n, uP tk vl sh (n + 1) 0 d own i = if 8 ≤ d then some (3, i) else uP tk vl sh n 0 (d + 1) own (i + 1) := fun n => by rw [uP0, if_neg t1, if_neg hn, if_neg t3, if_pos t4]
    by_cases h8 : 8 ≤ d
    · rw [op_n hA hP hS h8] at hx
      rcases hx with ⟨c2, n1, l1, h1⟩ | ⟨c2, -⟩
      · obtain ⟨e1, e2⟩ := pt_X3_readOne_170 hCE h1
        have hF := fail_FA hA hP hS (why := 3)
        exact ⟨e1, _, e2, RES_f hF.1 ⟨1, by rw [eu, if_pos h8]⟩ (by decide) hF.2⟩
      · exact absurd rfl c2
    · rw [op_y hS (by omega), ed (by omega)] at hx
      rcases hx with ⟨c2, -⟩ | ⟨c2, n1, r1', h1', l1, hw, h1⟩
      · exact absurd c2 (show ¬ (1 : Int) = 0 by decide)
      · obtain ⟨fa, hS1⟩ := adv_ST hA hm hP hS hi
        have hP1 := PI_mo hA hP fa
        obtain ⟨e1, g2, e2, f2, c, j, hu, hy, hn⟩ := ((hC _ _ _ _ _ _ hw).2 L _ 0 (d + 1) own rfl hP1 ⟨rfl, rfl, rfl⟩ (by omega)).2 (i + 1) c0 k0 hS1 (by omega) (by omega) (fun h => absurd h (by decide))
        subst e1
        subst e2
        have hP2 := PI_mo hA hP1 f2
        obtain ⟨n2, l2, h2⟩ := pt_X3_readOne_126 hCE h1
        rw [r0, Int.toNat_natCast, hP2.1.2.1] at h2
        obtain ⟨e3, e4⟩ := pt_X3_readOne_170 hCE h2
        have hw2 := wr_any hA hP2 61 0
        obtain ⟨f, ef⟩ := hu
        refine ⟨e3, _, e4, fP_tr fa (fP_tr f2 hw2.1.1), c, j, ⟨f + 1, by rw [eu, if_neg h8]; exact ef⟩, fun h0 => ?_, fun h0 => FA_kep (hn h0) hw2.1⟩
        obtain ⟨hij, c1', k1, hS2, b1, b2, b3⟩ := hy h0
        have := hS2.2.2.2.1
        exact ⟨by omega, c1' + 1, k1, wr_ST hA hP2 hS2 (by omega) _ _, by omega, by omega, by omega⟩
  · -- groups, and nothing
    have hn : u_nam (tk i) ≠ true := fun h => by rw [h, if_pos rfl] at t2; cases t2
    have grp : ∀ {n' : Nat}, (tk i = 20 ∨ tk i = 21) → g_run RX3 ax CE cX3_readOne n' (157, ρ, [], L, g) r h → r = none ∧ ∃ g', h = (L, g') ∧ RES A m tk vl ps sh 0 d own i c0 k0 1 g g' := by
      intro n' ht h1
      obtain ⟨n2, r1', h1', l2, hw, h2⟩ := pt_X3_readOne_157 hCE h1
      rw [r0, r1] at hw
      obtain ⟨e1, g2, e2, hR⟩ := ((hC _ _ _ _ _ _ hw).2 L g 10 d own rfl hP ⟨rfl, rfl, rfl⟩ hd).2 i c0 k0 hS hc hk (fun _ => ht)
      subst e1
      subst e2
      obtain ⟨n3, l3, h3⟩ := pt_X3_readOne_162 hCE h2
      obtain ⟨e3, e4⟩ := pt_X3_readOne_170 hCE h3
      exact ⟨e3, g2, e4, hR⟩
    rcases hx with ⟨t5, n1, l1, h1⟩ | ⟨t5, ⟨t6, n1, l1, h1⟩ | ⟨t6, n1, l1, h1⟩⟩
    · exact grp (Or.inl t5) h1
    · exact grp (Or.inr t6) h1
    · obtain ⟨e1, e2⟩ := pt_X3_readOne_170 hCE h1
      have hF := fail_FA hA hP hS (why := 1)
      exact ⟨e1, _, e2, RES_f hF.1 ⟨1, by rw [uP0, if_neg t1, if_neg hn, if_neg t3, if_neg t4, if_neg t5, if_neg t6]⟩ (by decide) hF.2⟩
  · -- a name
    have hn : u_nam (tk i) = true := by
      cases hx : u_nam (tk i) with
      | true => rfl
      | false => rw [hx] at t2; exact absurd rfl t2
    have hi := him (fun h => by rw [h] at hn; cases hn)
    obtain ⟨e1, e2⟩ := pt_X3_readOne_170 hCE h1
    rw [name_eq hP hS hsh] at e2
    by_cases ho : u_ok sh own (tk i) = true
    · rw [if_pos ho] at e2
      obtain ⟨f1, hS2⟩ := one_w hA hm hP hS hc hi 60 (tk i)
      exact ⟨e1, _, e2, f1, 0, i + 1, ⟨1, by rw [uP0, if_neg t1, if_pos hn, if_pos ho]⟩, fun _ => ⟨by omega, c0 + 1, k0, hS2, by omega, by omega, by omega⟩, fun h => absurd rfl h⟩
    · rw [if_neg ho] at e2
      have hF := fail_FA hA hP hS (why := 5)
      exact ⟨e1, _, e2, RES_f hF.1 ⟨1, by rw [uP0, if_neg t1, if_pos hn, if_neg ho]⟩ (by decide) hF.2⟩
/-- all of them, by induction over calls -/
theorem ps_all (hA : HD A) (hm : m ≤ 300) (hE : tk m = 54) (hv : ∀ j, tk j = 53 → 0 ≤ vl j) (hsh : sh = decide (lw = 4)) {y : MethodName} {cc : ByteArray} {as : List (Nat × Int)} {h h' : g_H} {r : Option g_V} (hx : g_ex ax y cc as h r h') : PSp A m lw tk vl ps sh y cc as h r h' := by
  refine g_ind (S := PSp A m lw tk vl ps sh) (fun y cc as h r h' hb => ?_) hx
  intro L g t d own hh hP hs hd
  subst hh
  obtain ⟨ρ, N, hρ, hr⟩ := g_run_bd hb
  have hC : ∀ y cc as h r h', (fun y cc as h r h' => g_ex ax y cc as h r h' ∧ PSp A m lw tk vl ps sh y cc as h r h') y cc as h r h' → g_ex ax y cc as h r h' ∧ PSp A m lw tk vl ps sh y cc as h r h' := fun _ _ _ _ _ _ h => h
  match t, hs with
  | 0, ⟨h1, h2, h3⟩ =>
    subst h1 h2 h3
    obtain ⟨a, b⟩ := md_readOne hA hm hE hv hsh hd hC hP (hρ (0, _) (by simp)) (hρ (1, _) (by simp)) (hρ (2, if own = true then 1 else 0) (by simp)) hr
    exact ⟨a, fun i c0 k0 p q s _ => b i c0 k0 p q s⟩
  | 1, ⟨h1, h2, h3⟩ =>
    subst h1 h2 h3
    obtain ⟨a, b⟩ := md_readProduct hA hm hE hd hC hP (hρ (0, _) (by simp)) (hρ (1, _) (by simp)) (hρ (2, if own = true then 1 else 0) (by simp)) hr
    exact ⟨a, fun i c0 k0 p q s _ => b i c0 k0 p q s⟩
  | 3, ⟨h1, h2, h3⟩ =>
    subst h1 h2 h3
    obtain ⟨a, b⟩ := md_readSum hA hm hE hd hC hP (hρ (0, _) (by simp)) (hρ (1, _) (by simp)) (hρ (2, if own = true then 1 else 0) (by simp)) hr
    exact ⟨a, fun i c0 k0 p q s _ => b i c0 k0 p q s⟩
  | 5, ⟨h1, h2, h3⟩ =>
    subst h1 h2 h3
    obtain ⟨a, b⟩ := md_readAsk hA hm hE hd hC hP (hρ (0, _) (by simp)) (hρ (1, _) (by simp)) hr
    exact ⟨a, fun i c0 k0 p q s _ => b i c0 k0 p q s⟩
  | 6, ⟨h1, h2, h3⟩ =>
    subst h1 h2 h3
    obtain ⟨a, b⟩ := md_readBoth hA hm hE hd hC hP (hρ (0, _) (by simp)) (hρ (1, _) (by simp)) hr
    exact ⟨a, fun i c0 k0 p q s _ => b i c0 k0 p q s⟩
  | 8, ⟨h1, h2, h3⟩ =>
    subst h1 h2 h3
    obtain ⟨a, b⟩ := md_readEither hA hm hE hd hC hP (hρ (0, _) (by simp)) (hρ (1, _) (by simp)) hr
    exact ⟨a, fun i c0 k0 p q s _ => b i c0 k0 p q s⟩
  | 10, ⟨h1, h2, h3⟩ =>
    subst h1 h2 h3
    obtain ⟨a, b⟩ := md_readGroup hA hm hE hd hC hP (hρ (0, _) (by simp)) (hρ (1, _) (by simp)) hr
    exact ⟨a, fun i c0 k0 p q s ht => b i c0 k0 p q s (ht rfl)⟩
end CT
