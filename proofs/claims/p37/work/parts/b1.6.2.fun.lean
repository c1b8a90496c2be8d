/-! Functions. -/
theorem jI_X12_compareOf : ∀ (pc : Nat) (q : Instr × Nat), lkp iX12_compareOf pc = some q → decode cX12_compareOf pc = .ok q := fun pc q hq => jX12_compareOf (pc, q) (lkp_in iX12_compareOf hq)
theorem bk_X12_compareOf_0 {ax : zAx} {CE : g_E} {n : Nat} {ρ : Nat → Int} {L : List Nat} {g : Nat → Nat → Int} {r : Option g_V} {h : g_H} (hr : g_run RX12 ax CE cX12_compareOf n (0, ρ, [], L, g) r h) : ∃ n', n' < n ∧ ((g (ρ 0).toNat 9 = 60 ∧ g_run RX12 ax CE cX12_compareOf n' (9, ρ, [], L, g) r h) ∨ (¬ (g (ρ 0).toNat 9 = 60) ∧ g_run RX12 ax CE cX12_compareOf n' (14, ρ, [], L, g) r h)) := by
  obtain ⟨n1, e, h1⟩ := g_blk_ok noX12 jI_X12_compareOf tab_X12 4 n hr (c2 := (if g (ρ 0).toNat 9 = 60 then 9 else 14, ρ, [], L, g)) rfl
  refine ⟨n1, by omega, ?_⟩
  by_cases hc : g (ρ 0).toNat 9 = 60
  · exact Or.inl ⟨hc, by rw [if_pos hc] at h1; exact h1⟩
  · exact Or.inr ⟨hc, by rw [if_neg hc] at h1; exact h1⟩
theorem bk_X12_compareOf_9 {ax : zAx} {CE : g_E} {n : Nat} {ρ : Nat → Int} {L : List Nat} {g : Nat → Nat → Int} {r : Option g_V} {h : g_H} (hr : g_run RX12 ax CE cX12_compareOf n (9, ρ, [], L, g) r h) : ∃ n', n' < n ∧ g_run RX12 ax CE cX12_compareOf n' (83, ρ, [(1, 10)], L, g) r h := by
  obtain ⟨n1, e, h1⟩ := g_blk_ok noX12 jI_X12_compareOf tab_X12 2 n hr (c2 := (83, ρ, [(1, 10)], L, g)) rfl
  exact ⟨n1, by omega, h1⟩
theorem bk_X12_compareOf_14 {ax : zAx} {CE : g_E} {n : Nat} {ρ : Nat → Int} {L : List Nat} {g : Nat → Nat → Int} {r : Option g_V} {h : g_H} (hr : g_run RX12 ax CE cX12_compareOf n (14, ρ, [], L, g) r h) : ∃ n', n' < n ∧ ((g (ρ 0).toNat 9 = 4 ∧ g_run RX12 ax CE cX12_compareOf n' (22, ρ, [], L, g) r h) ∨ (¬ (g (ρ 0).toNat 9 = 4) ∧ g_run RX12 ax CE cX12_compareOf n' (27, ρ, [], L, g) r h)) := by
  obtain ⟨n1, e, h1⟩ := g_blk_ok noX12 jI_X12_compareOf tab_X12 4 n hr (c2 := (if g (ρ 0).toNat 9 = 4 then 22 else 27, ρ, [], L, g)) rfl
  refine ⟨n1, by omega, ?_⟩
  by_cases hc : g (ρ 0).toNat 9 = 4
  · exact Or.inl ⟨hc, by rw [if_pos hc] at h1; exact h1⟩
  · exact Or.inr ⟨hc, by rw [if_neg hc] at h1; exact h1⟩
theorem bk_X12_compareOf_22 {ax : zAx} {CE : g_E} {n : Nat} {ρ : Nat → Int} {L : List Nat} {g : Nat → Nat → Int} {r : Option g_V} {h : g_H} (hr : g_run RX12 ax CE cX12_compareOf n (22, ρ, [], L, g) r h) : ∃ n', n' < n ∧ g_run RX12 ax CE cX12_compareOf n' (83, ρ, [(1, 11)], L, g) r h := by
  obtain ⟨n1, e, h1⟩ := g_blk_ok noX12 jI_X12_compareOf tab_X12 2 n hr (c2 := (83, ρ, [(1, 11)], L, g)) rfl
  exact ⟨n1, by omega, h1⟩
theorem bk_X12_compareOf_27 {ax : zAx} {CE : g_E} {n : Nat} {ρ : Nat → Int} {L : List Nat} {g : Nat → Nat → Int} {r : Option g_V} {h : g_H} (hr : g_run RX12 ax CE cX12_compareOf n (27, ρ, [], L, g) r h) : ∃ n', n' < n ∧ ((g (ρ 0).toNat 9 = 62 ∧ g_run RX12 ax CE cX12_compareOf n' (36, ρ, [], L, g) r h) ∨ (¬ (g (ρ 0).toNat 9 = 62) ∧ g_run RX12 ax CE cX12_compareOf n' (41, ρ, [], L, g) r h)) := by
  obtain ⟨n1, e, h1⟩ := g_blk_ok noX12 jI_X12_compareOf tab_X12 4 n hr (c2 := (if g (ρ 0).toNat 9 = 62 then 36 else 41, ρ, [], L, g)) rfl
  refine ⟨n1, by omega, ?_⟩
  by_cases hc : g (ρ 0).toNat 9 = 62
  · exact Or.inl ⟨hc, by rw [if_pos hc] at h1; exact h1⟩
  · exact Or.inr ⟨hc, by rw [if_neg hc] at h1; exact h1⟩
theorem bk_X12_compareOf_36 {ax : zAx} {CE : g_E} {n : Nat} {ρ : Nat → Int} {L : List Nat} {g : Nat → Nat → Int} {r : Option g_V} {h : g_H} (hr : g_run RX12 ax CE cX12_compareOf n (36, ρ, [], L, g) r h) : ∃ n', n' < n ∧ g_run RX12 ax CE cX12_compareOf n' (83, ρ, [(1, 12)], L, g) r h := by
  obtain ⟨n1, e, h1⟩ := g_blk_ok noX12 jI_X12_compareOf tab_X12 2 n hr (c2 := (83, ρ, [(1, 12)], L, g)) rfl
  exact ⟨n1, by omega, h1⟩
theorem bk_X12_compareOf_41 {ax : zAx} {CE : g_E} {n : Nat} {ρ : Nat → Int} {L : List Nat} {g : Nat → Nat → Int} {r : Option g_V} {h : g_H} (hr : g_run RX12 ax CE cX12_compareOf n (41, ρ, [], L, g) r h) : ∃ n', n' < n ∧ ((g (ρ 0).toNat 9 = 5 ∧ g_run RX12 ax CE cX12_compareOf n' (49, ρ, [], L, g) r h) ∨ (¬ (g (ρ 0).toNat 9 = 5) ∧ g_run RX12 ax CE cX12_compareOf n' (54, ρ, [], L, g) r h)) := by
  obtain ⟨n1, e, h1⟩ := g_blk_ok noX12 jI_X12_compareOf tab_X12 4 n hr (c2 := (if g (ρ 0).toNat 9 = 5 then 49 else 54, ρ, [], L, g)) rfl
  refine ⟨n1, by omega, ?_⟩
  by_cases hc : g (ρ 0).toNat 9 = 5
  · exact Or.inl ⟨hc, by rw [if_pos hc] at h1; exact h1⟩
  · exact Or.inr ⟨hc, by rw [if_neg hc] at h1; exact h1⟩
theorem bk_X12_compareOf_49 {ax : zAx} {CE : g_E} {n : Nat} {ρ : Nat → Int} {L : List Nat} {g : Nat → Nat → Int} {r : Option g_V} {h : g_H} (hr : g_run RX12 ax CE cX12_compareOf n (49, ρ, [], L, g) r h) : ∃ n', n' < n ∧ g_run RX12 ax CE cX12_compareOf n' (83, ρ, [(1, 13)], L, g) r h := by
  obtain ⟨n1, e, h1⟩ := g_blk_ok noX12 jI_X12_compareOf tab_X12 2 n hr (c2 := (83, ρ, [(1, 13)], L, g)) rfl
  exact ⟨n1, by omega, h1⟩
theorem bk_X12_compareOf_54 {ax : zAx} {CE : g_E} {n : Nat} {ρ : Nat → Int} {L : List Nat} {g : Nat → Nat → Int} {r : Option g_V} {h : g_H} (hr : g_run RX12 ax CE cX12_compareOf n (54, ρ, [], L, g) r h) : ∃ n', n' < n ∧ ((g (ρ 0).toNat 9 = 61 ∧ g_run RX12 ax CE cX12_compareOf n' (63, ρ, [], L, g) r h) ∨ (¬ (g (ρ 0).toNat 9 = 61) ∧ g_run RX12 ax CE cX12_compareOf n' (68, ρ, [], L, g) r h)) := by
  obtain ⟨n1, e, h1⟩ := g_blk_ok noX12 jI_X12_compareOf tab_X12 4 n hr (c2 := (if g (ρ 0).toNat 9 = 61 then 63 else 68, ρ, [], L, g)) rfl
  refine ⟨n1, by omega, ?_⟩
  by_cases hc : g (ρ 0).toNat 9 = 61
  · exact Or.inl ⟨hc, by rw [if_pos hc] at h1; exact h1⟩
  · exact Or.inr ⟨hc, by rw [if_neg hc] at h1; exact h1⟩
theorem bk_X12_compareOf_63 {ax : zAx} {CE : g_E} {n : Nat} {ρ : Nat → Int} {L : List Nat} {g : Nat → Nat → Int} {r : Option g_V} {h : g_H} (hr : g_run RX12 ax CE cX12_compareOf n (63, ρ, [], L, g) r h) : ∃ n', n' < n ∧ g_run RX12 ax CE cX12_compareOf n' (83, ρ, [(1, 14)], L, g) r h := by
  obtain ⟨n1, e, h1⟩ := g_blk_ok noX12 jI_X12_compareOf tab_X12 2 n hr (c2 := (83, ρ, [(1, 14)], L, g)) rfl
  exact ⟨n1, by omega, h1⟩
theorem bk_X12_compareOf_68 {ax : zAx} {CE : g_E} {n : Nat} {ρ : Nat → Int} {L : List Nat} {g : Nat → Nat → Int} {r : Option g_V} {h : g_H} (hr : g_run RX12 ax CE cX12_compareOf n (68, ρ, [], L, g) r h) : ∃ n', n' < n ∧ ((g (ρ 0).toNat 9 = 35 ∧ g_run RX12 ax CE cX12_compareOf n' (77, ρ, [], L, g) r h) ∨ (¬ (g (ρ 0).toNat 9 = 35) ∧ g_run RX12 ax CE cX12_compareOf n' (82, ρ, [], L, g) r h)) := by
  obtain ⟨n1, e, h1⟩ := g_blk_ok noX12 jI_X12_compareOf tab_X12 4 n hr (c2 := (if g (ρ 0).toNat 9 = 35 then 77 else 82, ρ, [], L, g)) rfl
  refine ⟨n1, by omega, ?_⟩
  by_cases hc : g (ρ 0).toNat 9 = 35
  · exact Or.inl ⟨hc, by rw [if_pos hc] at h1; exact h1⟩
  · exact Or.inr ⟨hc, by rw [if_neg hc] at h1; exact h1⟩
theorem bk_X12_compareOf_77 {ax : zAx} {CE : g_E} {n : Nat} {ρ : Nat → Int} {L : List Nat} {g : Nat → Nat → Int} {r : Option g_V} {h : g_H} (hr : g_run RX12 ax CE cX12_compareOf n (77, ρ, [], L, g) r h) : ∃ n', n' < n ∧ g_run RX12 ax CE cX12_compareOf n' (83, ρ, [(1, 15)], L, g) r h := by
  obtain ⟨n1, e, h1⟩ := g_blk_ok noX12 jI_X12_compareOf tab_X12 2 n hr (c2 := (83, ρ, [(1, 15)], L, g)) rfl
  exact ⟨n1, by omega, h1⟩
theorem bk_X12_compareOf_82 {ax : zAx} {CE : g_E} {n : Nat} {ρ : Nat → Int} {L : List Nat} {g : Nat → Nat → Int} {r : Option g_V} {h : g_H} (hr : g_run RX12 ax CE cX12_compareOf n (82, ρ, [], L, g) r h) : ∃ n', n' < n ∧ g_run RX12 ax CE cX12_compareOf n' (83, ρ, [(1, (-1))], L, g) r h := by
  obtain ⟨n1, e, h1⟩ := g_blk_ok noX12 jI_X12_compareOf tab_X12 1 n hr (c2 := (83, ρ, [(1, (-1))], L, g)) rfl
  exact ⟨n1, by omega, h1⟩
theorem bk_X12_compareOf_83 {ax : zAx} {CE : g_E} {n : Nat} {ρ : Nat → Int} {s0 : Int} {L : List Nat} {g : Nat → Nat → Int} {r : Option g_V} {h : g_H} (hr : g_run RX12 ax CE cX12_compareOf n (83, ρ, [(1, s0)], L, g) r h) : r = some (1, s0) ∧ h = (L, g) := by
  obtain ⟨n1, e, h1⟩ := g_blk_ok noX12 jI_X12_compareOf tab_X12 0 n hr (c2 := (83, ρ, [(1, s0)], L, g)) rfl
  exact g_ret_un noX12 (i := .ireturn) (jI_X12_compareOf 83 _ rfl) (by decide) h1
def F_X12_compareOf (x0 : Int) (g : Nat → Nat → Int) : Int := if g x0.toNat 9 = 60 then 10 else if g x0.toNat 9 = 4 then 11 else if g x0.toNat 9 = 62 then 12 else if g x0.toNat 9 = 5 then 13 else if g x0.toNat 9 = 61 then 14 else if g x0.toNat 9 = 35 then 15 else (-1)
theorem f_X12_compareOf {ax : zAx} {x0 : Int} {L : List Nat} {g : Nat → Nat → Int} {r : Option g_V} {h : g_H} (hx : g_ex ax yX12_compareOf cX12_compareOf [(0, x0)] (L, g) r h) : r = some (1, F_X12_compareOf x0 g) ∧ h = (L, g) := by
  obtain ⟨ρ, n0, hρ, h0⟩ := g_run_of hx
  obtain rfl : ρ 0 = x0 := hρ (0, x0) (by simp)
  obtain ⟨n1, l1, h1⟩ := bk_X12_compareOf_0 h0
  rcases h1 with ⟨c1, h1⟩ | ⟨c1, h1⟩
  · obtain ⟨n2, l2, h2⟩ := bk_X12_compareOf_9 h1
    obtain ⟨e3, d3⟩ := bk_X12_compareOf_83 h2
    unfold F_X12_compareOf
    rw [if_pos c1]
    exact ⟨e3, d3⟩
  · obtain ⟨n4, l4, h4⟩ := bk_X12_compareOf_14 h1
    rcases h4 with ⟨c4, h4⟩ | ⟨c4, h4⟩
    · obtain ⟨n5, l5, h5⟩ := bk_X12_compareOf_22 h4
      obtain ⟨e6, d6⟩ := bk_X12_compareOf_83 h5
      unfold F_X12_compareOf
      rw [if_neg c1, if_pos c4]
      exact ⟨e6, d6⟩
    · obtain ⟨n7, l7, h7⟩ := bk_X12_compareOf_27 h4
      rcases h7 with ⟨c7, h7⟩ | ⟨c7, h7⟩
      · obtain ⟨n8, l8, h8⟩ := bk_X12_compareOf_36 h7
        obtain ⟨e9, d9⟩ := bk_X12_compareOf_83 h8
        unfold F_X12_compareOf
        rw [if_neg c1, if_neg c4, if_pos c7]
        exact ⟨e9, d9⟩
      · obtain ⟨n10, l10, h10⟩ := bk_X12_compareOf_41 h7
        rcases h10 with ⟨c10, h10⟩ | ⟨c10, h10⟩
        · obtain ⟨n11, l11, h11⟩ := bk_X12_compareOf_49 h10
          obtain ⟨e12, d12⟩ := bk_X12_compareOf_83 h11
          unfold F_X12_compareOf
          rw [if_neg c1, if_neg c4, if_neg c7, if_pos c10]
          exact ⟨e12, d12⟩
        · obtain ⟨n13, l13, h13⟩ := bk_X12_compareOf_54 h10
          rcases h13 with ⟨c13, h13⟩ | ⟨c13, h13⟩
          · obtain ⟨n14, l14, h14⟩ := bk_X12_compareOf_63 h13
            obtain ⟨e15, d15⟩ := bk_X12_compareOf_83 h14
            unfold F_X12_compareOf
            rw [if_neg c1, if_neg c4, if_neg c7, if_neg c10, if_pos c13]
            exact ⟨e15, d15⟩
          · obtain ⟨n16, l16, h16⟩ := bk_X12_compareOf_68 h13
            rcases h16 with ⟨c16, h16⟩ | ⟨c16, h16⟩
            · obtain ⟨n17, l17, h17⟩ := bk_X12_compareOf_77 h16
              obtain ⟨e18, d18⟩ := bk_X12_compareOf_83 h17
              unfold F_X12_compareOf
              rw [if_neg c1, if_neg c4, if_neg c7, if_neg c10, if_neg c13, if_pos c16]
              exact ⟨e18, d18⟩
            · obtain ⟨n19, l19, h19⟩ := bk_X12_compareOf_82 h16
              obtain ⟨e20, d20⟩ := bk_X12_compareOf_83 h19
              unfold F_X12_compareOf
              rw [if_neg c1, if_neg c4, if_neg c7, if_neg c10, if_neg c13, if_neg c16]
              exact ⟨e20, d20⟩

theorem jI_X12_has : ∀ (pc : Nat) (q : Instr × Nat), lkp iX12_has pc = some q → decode cX12_has pc = .ok q := fun pc q hq => jX12_has (pc, q) (lkp_in iX12_has hq)
theorem bk_X12_has_0 {ax : zAx} {CE : g_E} {n : Nat} {ρ : Nat → Int} {L : List Nat} {g : Nat → Nat → Int} {r : Option g_V} {h : g_H} (hr : g_run RX12 ax CE cX12_has n (0, ρ, [], L, g) r h) : ∃ n', n' < n ∧ (((Int32.ofInt ((Int32.ofInt (ρ 0) >>> (Int32.ofInt (ρ 1) &&& 31)).toInt) &&& Int32.ofInt 1).toInt = 1 ∧ g_run RX12 ax CE cX12_has n' (9, ρ, [], L, g) r h) ∨ (¬ ((Int32.ofInt ((Int32.ofInt (ρ 0) >>> (Int32.ofInt (ρ 1) &&& 31)).toInt) &&& Int32.ofInt 1).toInt = 1) ∧ g_run RX12 ax CE cX12_has n' (13, ρ, [], L, g) r h)) := by
  obtain ⟨n1, e, h1⟩ := g_blk_ok noX12 jI_X12_has tab_X12 7 n hr (c2 := (if (Int32.ofInt ((Int32.ofInt (ρ 0) >>> (Int32.ofInt (ρ 1) &&& 31)).toInt) &&& Int32.ofInt 1).toInt = 1 then 9 else 13, ρ, [], L, g)) rfl
  refine ⟨n1, by omega, ?_⟩
  by_cases hc : (Int32.ofInt ((Int32.ofInt (ρ 0) >>> (Int32.ofInt (ρ 1) &&& 31)).toInt) &&& Int32.ofInt 1).toInt = 1
  · exact Or.inl ⟨hc, by rw [if_pos hc] at h1; exact h1⟩
  · exact Or.inr ⟨hc, by rw [if_neg hc] at h1; exact h1⟩
theorem bk_X12_has_9 {ax : zAx} {CE : g_E} {n : Nat} {ρ : Nat → Int} {L : List Nat} {g : Nat → Nat → Int} {r : Option g_V} {h : g_H} (hr : g_run RX12 ax CE cX12_has n (9, ρ, [], L, g) r h) : ∃ n', n' < n ∧ g_run RX12 ax CE cX12_has n' (14, ρ, [(1, 1)], L, g) r h := by
  obtain ⟨n1, e, h1⟩ := g_blk_ok noX12 jI_X12_has tab_X12 2 n hr (c2 := (14, ρ, [(1, 1)], L, g)) rfl
  exact ⟨n1, by omega, h1⟩
theorem bk_X12_has_13 {ax : zAx} {CE : g_E} {n : Nat} {ρ : Nat → Int} {L : List Nat} {g : Nat → Nat → Int} {r : Option g_V} {h : g_H} (hr : g_run RX12 ax CE cX12_has n (13, ρ, [], L, g) r h) : ∃ n', n' < n ∧ g_run RX12 ax CE cX12_has n' (14, ρ, [(1, 0)], L, g) r h := by
  obtain ⟨n1, e, h1⟩ := g_blk_ok noX12 jI_X12_has tab_X12 1 n hr (c2 := (14, ρ, [(1, 0)], L, g)) rfl
  exact ⟨n1, by omega, h1⟩
theorem bk_X12_has_14 {ax : zAx} {CE : g_E} {n : Nat} {ρ : Nat → Int} {s0 : Int} {L : List Nat} {g : Nat → Nat → Int} {r : Option g_V} {h : g_H} (hr : g_run RX12 ax CE cX12_has n (14, ρ, [(1, s0)], L, g) r h) : r = some (1, s0) ∧ h = (L, g) := by
  obtain ⟨n1, e, h1⟩ := g_blk_ok noX12 jI_X12_has tab_X12 0 n hr (c2 := (14, ρ, [(1, s0)], L, g)) rfl
  exact g_ret_un noX12 (i := .ireturn) (jI_X12_has 14 _ rfl) (by decide) h1
def F_X12_has (x0 x1 : Int) (g : Nat → Nat → Int) : Int := if (Int32.ofInt ((Int32.ofInt x0 >>> (Int32.ofInt x1 &&& 31)).toInt) &&& Int32.ofInt 1).toInt = 1 then 1 else 0
theorem f_X12_has {ax : zAx} {x0 x1 : Int} {L : List Nat} {g : Nat → Nat → Int} {r : Option g_V} {h : g_H} (hx : g_ex ax yX12_has cX12_has [(0, x0), (1, x1)] (L, g) r h) : r = some (1, F_X12_has x0 x1 g) ∧ h = (L, g) := by
  obtain ⟨ρ, n0, hρ, h0⟩ := g_run_of hx
  obtain rfl : ρ 0 = x0 := hρ (0, x0) (by simp)
  obtain rfl : ρ 1 = x1 := hρ (1, x1) (by simp)
  obtain ⟨n1, l1, h1⟩ := bk_X12_has_0 h0
  rcases h1 with ⟨c1, h1⟩ | ⟨c1, h1⟩
  · obtain ⟨n2, l2, h2⟩ := bk_X12_has_9 h1
    obtain ⟨e3, d3⟩ := bk_X12_has_14 h2
    unfold F_X12_has
    rw [if_pos c1]
    exact ⟨e3, d3⟩
  · obtain ⟨n4, l4, h4⟩ := bk_X12_has_13 h1
    obtain ⟨e5, d5⟩ := bk_X12_has_14 h4
    unfold F_X12_has
    rw [if_neg c1]
    exact ⟨e5, d5⟩

theorem jI_X12_isIn : ∀ (pc : Nat) (q : Instr × Nat), lkp iX12_isIn pc = some q → decode cX12_isIn pc = .ok q := fun pc q hq => jX12_isIn (pc, q) (lkp_in iX12_isIn hq)
theorem bk_X12_isIn_0 {ax : zAx} {CE : g_E} {n : Nat} {ρ : Nat → Int} {L : List Nat} {g : Nat → Nat → Int} {r : Option g_V} {h : g_H} (hr : g_run RX12 ax CE cX12_isIn n (0, ρ, [], L, g) r h) : ∃ n', n' < n ∧ ((ρ 0 < ρ 1 ∧ g_run RX12 ax CE cX12_isIn n' (14, ρ, [], L, g) r h) ∨ (¬ (ρ 0 < ρ 1) ∧ g_run RX12 ax CE cX12_isIn n' (5, ρ, [], L, g) r h)) := by
  obtain ⟨n1, e, h1⟩ := g_blk_ok noX12 jI_X12_isIn tab_X12 3 n hr (c2 := (if ρ 0 < ρ 1 then 14 else 5, ρ, [], L, g)) rfl
  refine ⟨n1, by omega, ?_⟩
  by_cases hc : ρ 0 < ρ 1
  · exact Or.inl ⟨hc, by rw [if_pos hc] at h1; exact h1⟩
  · exact Or.inr ⟨hc, by rw [if_neg hc] at h1; exact h1⟩
theorem bk_X12_isIn_5 {ax : zAx} {CE : g_E} {n : Nat} {ρ : Nat → Int} {L : List Nat} {g : Nat → Nat → Int} {r : Option g_V} {h : g_H} (hr : g_run RX12 ax CE cX12_isIn n (5, ρ, [], L, g) r h) : ∃ n', n' < n ∧ ((ρ 2 < ρ 0 ∧ g_run RX12 ax CE cX12_isIn n' (14, ρ, [], L, g) r h) ∨ (¬ (ρ 2 < ρ 0) ∧ g_run RX12 ax CE cX12_isIn n' (10, ρ, [], L, g) r h)) := by
  obtain ⟨n1, e, h1⟩ := g_blk_ok noX12 jI_X12_isIn tab_X12 3 n hr (c2 := (if ρ 2 < ρ 0 then 14 else 10, ρ, [], L, g)) rfl
  refine ⟨n1, by omega, ?_⟩
  by_cases hc : ρ 2 < ρ 0
  · exact Or.inl ⟨hc, by rw [if_pos hc] at h1; exact h1⟩
  · exact Or.inr ⟨hc, by rw [if_neg hc] at h1; exact h1⟩
theorem bk_X12_isIn_10 {ax : zAx} {CE : g_E} {n : Nat} {ρ : Nat → Int} {L : List Nat} {g : Nat → Nat → Int} {r : Option g_V} {h : g_H} (hr : g_run RX12 ax CE cX12_isIn n (10, ρ, [], L, g) r h) : ∃ n', n' < n ∧ g_run RX12 ax CE cX12_isIn n' (15, ρ, [(1, 1)], L, g) r h := by
  obtain ⟨n1, e, h1⟩ := g_blk_ok noX12 jI_X12_isIn tab_X12 2 n hr (c2 := (15, ρ, [(1, 1)], L, g)) rfl
  exact ⟨n1, by omega, h1⟩
theorem bk_X12_isIn_14 {ax : zAx} {CE : g_E} {n : Nat} {ρ : Nat → Int} {L : List Nat} {g : Nat → Nat → Int} {r : Option g_V} {h : g_H} (hr : g_run RX12 ax CE cX12_isIn n (14, ρ, [], L, g) r h) : ∃ n', n' < n ∧ g_run RX12 ax CE cX12_isIn n' (15, ρ, [(1, 0)], L, g) r h := by
  obtain ⟨n1, e, h1⟩ := g_blk_ok noX12 jI_X12_isIn tab_X12 1 n hr (c2 := (15, ρ, [(1, 0)], L, g)) rfl
  exact ⟨n1, by omega, h1⟩
theorem bk_X12_isIn_15 {ax : zAx} {CE : g_E} {n : Nat} {ρ : Nat → Int} {s0 : Int} {L : List Nat} {g : Nat → Nat → Int} {r : Option g_V} {h : g_H} (hr : g_run RX12 ax CE cX12_isIn n (15, ρ, [(1, s0)], L, g) r h) : r = some (1, s0) ∧ h = (L, g) := by
  obtain ⟨n1, e, h1⟩ := g_blk_ok noX12 jI_X12_isIn tab_X12 0 n hr (c2 := (15, ρ, [(1, s0)], L, g)) rfl
  exact g_ret_un noX12 (i := .ireturn) (jI_X12_isIn 15 _ rfl) (by decide) h1
def F_X12_isIn (x0 x1 x2 : Int) (g : Nat → Nat → Int) : Int := if x0 < x1 then 0 else if x2 < x0 then 0 else 1
theorem f_X12_isIn {ax : zAx} {x0 x1 x2 : Int} {L : List Nat} {g : Nat → Nat → Int} {r : Option g_V} {h : g_H} (hx : g_ex ax yX12_isIn cX12_isIn [(0, x0), (1, x1), (2, x2)] (L, g) r h) : r = some (1, F_X12_isIn x0 x1 x2 g) ∧ h = (L, g) := by
  obtain ⟨ρ, n0, hρ, h0⟩ := g_run_of hx
  obtain rfl : ρ 0 = x0 := hρ (0, x0) (by simp)
  obtain rfl : ρ 1 = x1 := hρ (1, x1) (by simp)
  obtain rfl : ρ 2 = x2 := hρ (2, x2) (by simp)
  obtain ⟨n1, l1, h1⟩ := bk_X12_isIn_0 h0
  rcases h1 with ⟨c1, h1⟩ | ⟨c1, h1⟩
  · obtain ⟨n2, l2, h2⟩ := bk_X12_isIn_14 h1
    obtain ⟨e3, d3⟩ := bk_X12_isIn_15 h2
    unfold F_X12_isIn
    rw [if_pos c1]
    exact ⟨e3, d3⟩
  · obtain ⟨n4, l4, h4⟩ := bk_X12_isIn_5 h1
    rcases h4 with ⟨c4, h4⟩ | ⟨c4, h4⟩
    · obtain ⟨n5, l5, h5⟩ := bk_X12_isIn_14 h4
      obtain ⟨e6, d6⟩ := bk_X12_isIn_15 h5
      unfold F_X12_isIn
      rw [if_neg c1, if_pos c4]
      exact ⟨e6, d6⟩
    · obtain ⟨n7, l7, h7⟩ := bk_X12_isIn_10 h4
      obtain ⟨e8, d8⟩ := bk_X12_isIn_15 h7
      unfold F_X12_isIn
      rw [if_neg c1, if_neg c4]
      exact ⟨e8, d8⟩

theorem jI_X12_end : ∀ (pc : Nat) (q : Instr × Nat), lkp iX12_end pc = some q → decode cX12_end pc = .ok q := fun pc q hq => jX12_end (pc, q) (lkp_in iX12_end hq)
theorem bk_X12_end_0 {ax : zAx} {CE : g_E} {n : Nat} {ρ : Nat → Int} {L : List Nat} {g : Nat → Nat → Int} {r : Option g_V} {h : g_H} (hr : g_run RX12 ax CE cX12_end n (0, ρ, [], L, g) r h) : ∃ n' r1 h1', n' < n ∧ CE yX12_isIn cX12_isIn [(0, ρ 1), (1, 0), (2, g (ρ 0).toNat 4)] (L, g) r1 h1' ∧ g_run RX12 ax CE cX12_end n' (9, ρ, g_push r1 [], h1') r h := by
  obtain ⟨n1, e, h1⟩ := g_blk_ok noX12 jI_X12_end tab_X12 4 n hr (c2 := (6, ρ, [(1, g (ρ 0).toNat 4), (1, 0), (1, ρ 1)], L, g)) rfl
  obtain ⟨n2, c', e2, h2, h3⟩ := g_step_un noX12 (i := .invokestatic 113) (len := 3) (jI_X12_end 6 _ rfl) (gnrS _) h1
  obtain ⟨r1, h1', hx, hc⟩ := g_static_un lk_X12 nat_all lX12_ok (idx := 113) (mode := 1) (mi := 126) (ci := 0) (na := 3) rfl (by decide) (by decide) mq_X12_isIn [(1, ρ 1), (1, 0), (1, g (ρ 0).toNat 4)] [] rfl rfl h2
  subst hc
  exact ⟨n2, r1, h1', by omega, hx, h3⟩
theorem bk_X12_end_9 {ax : zAx} {CE : g_E} {n : Nat} {ρ : Nat → Int} {s0 : Int} {L : List Nat} {g : Nat → Nat → Int} {r : Option g_V} {h : g_H} (hr : g_run RX12 ax CE cX12_end n (9, ρ, [(1, s0)], L, g) r h) : ∃ n', n' < n ∧ ((s0 = 0 ∧ g_run RX12 ax CE cX12_end n' (12, ρ, [], L, g) r h) ∨ (¬ (s0 = 0) ∧ g_run RX12 ax CE cX12_end n' (14, ρ, [], L, g) r h)) := by
  obtain ⟨n1, e, h1⟩ := g_blk_ok noX12 jI_X12_end tab_X12 1 n hr (c2 := (if s0 = 0 then 12 else 14, ρ, [], L, g)) rfl
  refine ⟨n1, by omega, ?_⟩
  by_cases hc : s0 = 0
  · exact Or.inl ⟨hc, by rw [if_pos hc] at h1; exact h1⟩
  · exact Or.inr ⟨hc, by rw [if_neg hc] at h1; exact h1⟩
theorem bk_X12_end_12 {ax : zAx} {CE : g_E} {n : Nat} {ρ : Nat → Int} {L : List Nat} {g : Nat → Nat → Int} {r : Option g_V} {h : g_H} (hr : g_run RX12 ax CE cX12_end n (12, ρ, [], L, g) r h) : r = some (1, (-1)) ∧ h = (L, g) := by
  obtain ⟨n1, e, h1⟩ := g_blk_ok noX12 jI_X12_end tab_X12 1 n hr (c2 := (13, ρ, [(1, (-1))], L, g)) rfl
  exact g_ret_un noX12 (i := .ireturn) (jI_X12_end 13 _ rfl) (by decide) h1
theorem bk_X12_end_14 {ax : zAx} {CE : g_E} {n : Nat} {ρ : Nat → Int} {L : List Nat} {g : Nat → Nat → Int} {r : Option g_V} {h : g_H} (hr : g_run RX12 ax CE cX12_end n (14, ρ, [], L, g) r h) : r = some (1, ρ 1) ∧ h = (L, (g_up g (ρ 0).toNat 4 (ρ 1))) := by
  obtain ⟨n1, e, h1⟩ := g_blk_ok noX12 jI_X12_end tab_X12 4 n hr (c2 := (20, ρ, [(1, ρ 1)], L, (g_up g (ρ 0).toNat 4 (ρ 1)))) rfl
  exact g_ret_un noX12 (i := .ireturn) (jI_X12_end 20 _ rfl) (by decide) h1
def F_X12_end (x0 x1 : Int) (g : Nat → Nat → Int) : Int × (Nat → Nat → Int) := if F_X12_isIn x1 0 (g x0.toNat 4) g = 0 then ((-1), g) else (x1, (g_up g x0.toNat 4 x1))
theorem f_X12_end {ax : zAx} {x0 x1 : Int} {L : List Nat} {g : Nat → Nat → Int} {r : Option g_V} {h : g_H} (hx : g_ex ax yX12_end cX12_end [(0, x0), (1, x1)] (L, g) r h) : r = some (1, (F_X12_end x0 x1 g).1) ∧ h = (L, (F_X12_end x0 x1 g).2) := by
  obtain ⟨ρ, n0, hρ, h0⟩ := g_run_of hx
  obtain rfl : ρ 0 = x0 := hρ (0, x0) (by simp)
  obtain rfl : ρ 1 = x1 := hρ (1, x1) (by simp)
  obtain ⟨n1, r1, k1, l1, x1, h1⟩ := bk_X12_end_0 h0
  obtain ⟨e1, d1⟩ := f_X12_isIn x1
  subst e1
  subst d1
  obtain ⟨n2, l2, h2⟩ := bk_X12_end_9 h1
  rcases h2 with ⟨c2, h2⟩ | ⟨c2, h2⟩
  · obtain ⟨e3, d3⟩ := bk_X12_end_12 h2
    unfold F_X12_end
    rw [if_pos c2]
    exact ⟨e3, d3⟩
  · obtain ⟨e4, d4⟩ := bk_X12_end_14 h2
    unfold F_X12_end
    rw [if_neg c2]
    exact ⟨e4, d4⟩

theorem jI_X11_by : ∀ (pc : Nat) (q : Instr × Nat), lkp iX11_by pc = some q → decode cX11_by pc = .ok q := fun pc q hq => jX11_by (pc, q) (lkp_in iX11_by hq)
theorem bk_X11_by_0 {ax : zAx} {CE : g_E} {n : Nat} {ρ : Nat → Int} {L : List Nat} {g : Nat → Nat → Int} {r : Option g_V} {h : g_H} (hr : g_run RX11 ax CE cX11_by n (0, ρ, [], L, g) r h) : ∃ n', n' < n ∧ ((ρ 1 = (-1) ∧ g_run RX11 ax CE cX11_by n' (18, ρ, [], L, g) r h) ∨ (¬ (ρ 1 = (-1)) ∧ g_run RX11 ax CE cX11_by n' (5, ρ, [], L, g) r h)) := by
  obtain ⟨n1, e, h1⟩ := g_blk_ok noX11 jI_X11_by tab_X11 3 n hr (c2 := (if ρ 1 = (-1) then 18 else 5, ρ, [], L, g)) rfl
  refine ⟨n1, by omega, ?_⟩
  by_cases hc : ρ 1 = (-1)
  · exact Or.inl ⟨hc, by rw [if_pos hc] at h1; exact h1⟩
  · exact Or.inr ⟨hc, by rw [if_neg hc] at h1; exact h1⟩
theorem bk_X11_by_5 {ax : zAx} {CE : g_E} {n : Nat} {ρ : Nat → Int} {L : List Nat} {g : Nat → Nat → Int} {r : Option g_V} {h : g_H} (hr : g_run RX11 ax CE cX11_by n (5, ρ, [], L, g) r h) : ∃ n' r1 h1', n' < n ∧ CE yX4_hasText cX4_hasText [(0, g (ρ 0).toNat 0), (1, ρ 1)] (L, g) r1 h1' ∧ g_run RX11 ax CE cX11_by n' (13, ρ, g_push r1 [], h1') r h := by
  obtain ⟨n1, e, h1⟩ := g_blk_ok noX11 jI_X11_by tab_X11 3 n hr (c2 := (10, ρ, [(1, ρ 1), (1, g (ρ 0).toNat 0)], L, g)) rfl
  obtain ⟨n2, c', e2, h2, h3⟩ := g_step_un noX11 (i := .invokevirtual 131) (len := 3) (jI_X11_by 10 _ rfl) (gnrV _) h1
  obtain ⟨r1, h1', hx, hc⟩ := g_virt_un lk_X11 nat_all lX11_ok (idx := 131) (mi := 247) (ci := 4) (na := 2) rfl (by decide) mq_X4_hasText [(1, ρ 1)] [] (g (ρ 0).toNat 0) rfl rfl h2
  subst hc
  exact ⟨n2, r1, h1', by omega, hx, h3⟩
theorem bk_X11_by_13 {ax : zAx} {CE : g_E} {n : Nat} {ρ : Nat → Int} {s0 : Int} {L : List Nat} {g : Nat → Nat → Int} {r : Option g_V} {h : g_H} (hr : g_run RX11 ax CE cX11_by n (13, ρ, [(1, s0)], L, g) r h) : ∃ n', n' < n ∧ ((s0 = 0 ∧ g_run RX11 ax CE cX11_by n' (16, ρ, [], L, g) r h) ∨ (¬ (s0 = 0) ∧ g_run RX11 ax CE cX11_by n' (18, ρ, [], L, g) r h)) := by
  obtain ⟨n1, e, h1⟩ := g_blk_ok noX11 jI_X11_by tab_X11 1 n hr (c2 := (if s0 = 0 then 16 else 18, ρ, [], L, g)) rfl
  refine ⟨n1, by omega, ?_⟩
  by_cases hc : s0 = 0
  · exact Or.inl ⟨hc, by rw [if_pos hc] at h1; exact h1⟩
  · exact Or.inr ⟨hc, by rw [if_neg hc] at h1; exact h1⟩
theorem bk_X11_by_16 {ax : zAx} {CE : g_E} {n : Nat} {ρ : Nat → Int} {L : List Nat} {g : Nat → Nat → Int} {r : Option g_V} {h : g_H} (hr : g_run RX11 ax CE cX11_by n (16, ρ, [], L, g) r h) : r = some (1, 0) ∧ h = (L, g) := by
  obtain ⟨n1, e, h1⟩ := g_blk_ok noX11 jI_X11_by tab_X11 1 n hr (c2 := (17, ρ, [(1, 0)], L, g)) rfl
  exact g_ret_un noX11 (i := .ireturn) (jI_X11_by 17 _ rfl) (by decide) h1
theorem bk_X11_by_18 {ax : zAx} {CE : g_E} {n : Nat} {ρ : Nat → Int} {L : List Nat} {g : Nat → Nat → Int} {r : Option g_V} {h : g_H} (hr : g_run RX11 ax CE cX11_by n (18, ρ, [], L, g) r h) : r = some (1, 1) ∧ h = (L, (g_up g (g (ρ 0).toNat 0).toNat 6 (ρ 1))) := by
  obtain ⟨n1, e, h1⟩ := g_blk_ok noX11 jI_X11_by tab_X11 5 n hr (c2 := (27, ρ, [(1, 1)], L, (g_up g (g (ρ 0).toNat 0).toNat 6 (ρ 1)))) rfl
  exact g_ret_un noX11 (i := .ireturn) (jI_X11_by 27 _ rfl) (by decide) h1
def F_X11_by (x0 x1 : Int) (g : Nat → Nat → Int) : Int × (Nat → Nat → Int) := if x1 = (-1) then (1, (g_up g (g x0.toNat 0).toNat 6 x1)) else if F_X4_hasText (g x0.toNat 0) x1 g = 0 then (0, g) else (1, (g_up g (g x0.toNat 0).toNat 6 x1))
theorem f_X11_by {ax : zAx} {x0 x1 : Int} {L : List Nat} {g : Nat → Nat → Int} {r : Option g_V} {h : g_H} (hx : g_ex ax yX11_by cX11_by [(0, x0), (1, x1)] (L, g) r h) : r = some (1, (F_X11_by x0 x1 g).1) ∧ h = (L, (F_X11_by x0 x1 g).2) := by
  obtain ⟨ρ, n0, hρ, h0⟩ := g_run_of hx
  obtain rfl : ρ 0 = x0 := hρ (0, x0) (by simp)
  obtain rfl : ρ 1 = x1 := hρ (1, x1) (by simp)
  obtain ⟨n1, l1, h1⟩ := bk_X11_by_0 h0
  rcases h1 with ⟨c1, h1⟩ | ⟨c1, h1⟩
  · obtain ⟨e2, d2⟩ := bk_X11_by_18 h1
    unfold F_X11_by
    rw [if_pos c1]
    exact ⟨e2, d2⟩
  · obtain ⟨n3, r3, k3, l3, x3, h3⟩ := bk_X11_by_5 h1
    obtain ⟨e3, d3⟩ := f_X4_hasText x3
    subst e3
    subst d3
    obtain ⟨n4, l4, h4⟩ := bk_X11_by_13 h3
    rcases h4 with ⟨c4, h4⟩ | ⟨c4, h4⟩
    · obtain ⟨e5, d5⟩ := bk_X11_by_16 h4
      unfold F_X11_by
      rw [if_neg c1, if_pos c4]
      exact ⟨e5, d5⟩
    · obtain ⟨e6, d6⟩ := bk_X11_by_18 h4
      unfold F_X11_by
      rw [if_neg c1, if_neg c4]
      exact ⟨e6, d6⟩

theorem jI_X12_by : ∀ (pc : Nat) (q : Instr × Nat), lkp iX12_by pc = some q → decode cX12_by pc = .ok q := fun pc q hq => jX12_by (pc, q) (lkp_in iX12_by hq)
theorem bk_X12_by_0 {ax : zAx} {CE : g_E} {n : Nat} {ρ : Nat → Int} {L : List Nat} {g : Nat → Nat → Int} {r : Option g_V} {h : g_H} (hr : g_run RX12 ax CE cX12_by n (0, ρ, [], L, g) r h) : ∃ n' r1 h1', n' < n ∧ CE yX12_isIn cX12_isIn [(0, ρ 1), (1, (-1)), (2, g_i ((g (g (ρ 0).toNat 0).toNat 7) - 1))] (L, g) r1 h1' ∧ g_run RX12 ax CE cX12_by n' (14, ρ, g_push r1 [], h1') r h := by
  obtain ⟨n1, e, h1⟩ := g_blk_ok noX12 jI_X12_by tab_X12 8 n hr (c2 := (11, ρ, [(1, g_i ((g (g (ρ 0).toNat 0).toNat 7) - 1)), (1, (-1)), (1, ρ 1)], L, g)) rfl
  obtain ⟨n2, c', e2, h2, h3⟩ := g_step_un noX12 (i := .invokestatic 113) (len := 3) (jI_X12_by 11 _ rfl) (gnrS _) h1
  obtain ⟨r1, h1', hx, hc⟩ := g_static_un lk_X12 nat_all lX12_ok (idx := 113) (mode := 1) (mi := 126) (ci := 0) (na := 3) rfl (by decide) (by decide) mq_X12_isIn [(1, ρ 1), (1, (-1)), (1, g_i ((g (g (ρ 0).toNat 0).toNat 7) - 1))] [] rfl rfl h2
  subst hc
  exact ⟨n2, r1, h1', by omega, hx, h3⟩
theorem bk_X12_by_14 {ax : zAx} {CE : g_E} {n : Nat} {ρ : Nat → Int} {s0 : Int} {L : List Nat} {g : Nat → Nat → Int} {r : Option g_V} {h : g_H} (hr : g_run RX12 ax CE cX12_by n (14, ρ, [(1, s0)], L, g) r h) : ∃ n', n' < n ∧ ((s0 = 0 ∧ g_run RX12 ax CE cX12_by n' (17, ρ, [], L, g) r h) ∨ (¬ (s0 = 0) ∧ g_run RX12 ax CE cX12_by n' (19, ρ, [], L, g) r h)) := by
  obtain ⟨n1, e, h1⟩ := g_blk_ok noX12 jI_X12_by tab_X12 1 n hr (c2 := (if s0 = 0 then 17 else 19, ρ, [], L, g)) rfl
  refine ⟨n1, by omega, ?_⟩
  by_cases hc : s0 = 0
  · exact Or.inl ⟨hc, by rw [if_pos hc] at h1; exact h1⟩
  · exact Or.inr ⟨hc, by rw [if_neg hc] at h1; exact h1⟩
theorem bk_X12_by_17 {ax : zAx} {CE : g_E} {n : Nat} {ρ : Nat → Int} {L : List Nat} {g : Nat → Nat → Int} {r : Option g_V} {h : g_H} (hr : g_run RX12 ax CE cX12_by n (17, ρ, [], L, g) r h) : r = some (1, 0) ∧ h = (L, g) := by
  obtain ⟨n1, e, h1⟩ := g_blk_ok noX12 jI_X12_by tab_X12 1 n hr (c2 := (18, ρ, [(1, 0)], L, g)) rfl
  exact g_ret_un noX12 (i := .ireturn) (jI_X12_by 18 _ rfl) (by decide) h1
theorem bk_X12_by_19 {ax : zAx} {CE : g_E} {n : Nat} {ρ : Nat → Int} {L : List Nat} {g : Nat → Nat → Int} {r : Option g_V} {h : g_H} (hr : g_run RX12 ax CE cX12_by n (19, ρ, [], L, g) r h) : r = some (1, 1) ∧ h = (L, (g_up g (g (ρ 0).toNat 0).toNat 8 (ρ 1))) := by
  obtain ⟨n1, e, h1⟩ := g_blk_ok noX12 jI_X12_by tab_X12 6 n hr (c2 := (28, ρ, [(1, 1)], L, (g_up g (g (ρ 0).toNat 0).toNat 8 (ρ 1)))) rfl
  exact g_ret_un noX12 (i := .ireturn) (jI_X12_by 28 _ rfl) (by decide) h1
def F_X12_by (x0 x1 : Int) (g : Nat → Nat → Int) : Int × (Nat → Nat → Int) := if F_X12_isIn x1 (-1) (g_i ((g (g x0.toNat 0).toNat 7) - 1)) g = 0 then (0, g) else (1, (g_up g (g x0.toNat 0).toNat 8 x1))
theorem f_X12_by {ax : zAx} {x0 x1 : Int} {L : List Nat} {g : Nat → Nat → Int} {r : Option g_V} {h : g_H} (hx : g_ex ax yX12_by cX12_by [(0, x0), (1, x1)] (L, g) r h) : r = some (1, (F_X12_by x0 x1 g).1) ∧ h = (L, (F_X12_by x0 x1 g).2) := by
  obtain ⟨ρ, n0, hρ, h0⟩ := g_run_of hx
  obtain rfl : ρ 0 = x0 := hρ (0, x0) (by simp)
  obtain rfl : ρ 1 = x1 := hρ (1, x1) (by simp)
  obtain ⟨n1, r1, k1, l1, x1, h1⟩ := bk_X12_by_0 h0
  obtain ⟨e1, d1⟩ := f_X12_isIn x1
  subst e1
  subst d1
  obtain ⟨n2, l2, h2⟩ := bk_X12_by_14 h1
  rcases h2 with ⟨c2, h2⟩ | ⟨c2, h2⟩
  · obtain ⟨e3, d3⟩ := bk_X12_by_17 h2
    unfold F_X12_by
    rw [if_pos c2]
    exact ⟨e3, d3⟩
  · obtain ⟨e4, d4⟩ := bk_X12_by_19 h2
    unfold F_X12_by
    rw [if_neg c2]
    exact ⟨e4, d4⟩

theorem jI_X6_isLetter : ∀ (pc : Nat) (q : Instr × Nat), lkp iX6_isLetter pc = some q → decode cX6_isLetter pc = .ok q := fun pc q hq => jX6_isLetter (pc, q) (lkp_in iX6_isLetter hq)
theorem bk_X6_isLetter_0 {ax : zAx} {CE : g_E} {n : Nat} {ρ : Nat → Int} {L : List Nat} {g : Nat → Nat → Int} {r : Option g_V} {h : g_H} (hr : g_run RX6 ax CE cX6_isLetter n (0, ρ, [], L, g) r h) : ∃ n' r1 h1', n' < n ∧ CE yX11_isWithin cX11_isWithin [(0, ρ 0), (1, 97), (2, 122)] (L, g) r1 h1' ∧ g_run RX6 ax CE cX6_isLetter n' (8, ρ, g_push r1 [], h1') r h := by
  obtain ⟨n1, e, h1⟩ := g_blk_ok noX6 jI_X6_isLetter tab_X6 3 n hr (c2 := (5, ρ, [(1, 122), (1, 97), (1, ρ 0)], L, g)) rfl
  obtain ⟨n2, c', e2, h2, h3⟩ := g_step_un noX6 (i := .invokestatic 77) (len := 3) (jI_X6_isLetter 5 _ rfl) (gnrS _) h1
  obtain ⟨r1, h1', hx, hc⟩ := g_static_un lk_X6 nat_all lX6_ok (idx := 77) (mode := 2) (mi := 46) (ci := 0) (na := 3) rfl (by decide) (by decide) mq_X11_isWithin [(1, ρ 0), (1, 97), (1, 122)] [] rfl rfl h2
  subst hc
  exact ⟨n2, r1, h1', by omega, hx, h3⟩
theorem bk_X6_isLetter_8 {ax : zAx} {CE : g_E} {n : Nat} {ρ : Nat → Int} {s0 : Int} {L : List Nat} {g : Nat → Nat → Int} {r : Option g_V} {h : g_H} (hr : g_run RX6 ax CE cX6_isLetter n (8, ρ, [(1, s0)], L, g) r h) : ∃ n', n' < n ∧ ((s0 = 0 ∧ g_run RX6 ax CE cX6_isLetter n' (11, ρ, [], L, g) r h) ∨ (¬ (s0 = 0) ∧ g_run RX6 ax CE cX6_isLetter n' (22, ρ, [], L, g) r h)) := by
  obtain ⟨n1, e, h1⟩ := g_blk_ok noX6 jI_X6_isLetter tab_X6 1 n hr (c2 := (if s0 = 0 then 11 else 22, ρ, [], L, g)) rfl
  refine ⟨n1, by omega, ?_⟩
  by_cases hc : s0 = 0
  · exact Or.inl ⟨hc, by rw [if_pos hc] at h1; exact h1⟩
  · exact Or.inr ⟨hc, by rw [if_neg hc] at h1; exact h1⟩
theorem bk_X6_isLetter_11 {ax : zAx} {CE : g_E} {n : Nat} {ρ : Nat → Int} {L : List Nat} {g : Nat → Nat → Int} {r : Option g_V} {h : g_H} (hr : g_run RX6 ax CE cX6_isLetter n (11, ρ, [], L, g) r h) : ∃ n' r1 h1', n' < n ∧ CE yX11_isWithin cX11_isWithin [(0, ρ 0), (1, 65), (2, 90)] (L, g) r1 h1' ∧ g_run RX6 ax CE cX6_isLetter n' (19, ρ, g_push r1 [], h1') r h := by
  obtain ⟨n1, e, h1⟩ := g_blk_ok noX6 jI_X6_isLetter tab_X6 3 n hr (c2 := (16, ρ, [(1, 90), (1, 65), (1, ρ 0)], L, g)) rfl
  obtain ⟨n2, c', e2, h2, h3⟩ := g_step_un noX6 (i := .invokestatic 77) (len := 3) (jI_X6_isLetter 16 _ rfl) (gnrS _) h1
  obtain ⟨r1, h1', hx, hc⟩ := g_static_un lk_X6 nat_all lX6_ok (idx := 77) (mode := 2) (mi := 46) (ci := 0) (na := 3) rfl (by decide) (by decide) mq_X11_isWithin [(1, ρ 0), (1, 65), (1, 90)] [] rfl rfl h2
  subst hc
  exact ⟨n2, r1, h1', by omega, hx, h3⟩
theorem bk_X6_isLetter_19 {ax : zAx} {CE : g_E} {n : Nat} {ρ : Nat → Int} {s0 : Int} {L : List Nat} {g : Nat → Nat → Int} {r : Option g_V} {h : g_H} (hr : g_run RX6 ax CE cX6_isLetter n (19, ρ, [(1, s0)], L, g) r h) : ∃ n', n' < n ∧ ((s0 = 0 ∧ g_run RX6 ax CE cX6_isLetter n' (26, ρ, [], L, g) r h) ∨ (¬ (s0 = 0) ∧ g_run RX6 ax CE cX6_isLetter n' (22, ρ, [], L, g) r h)) := by
  obtain ⟨n1, e, h1⟩ := g_blk_ok noX6 jI_X6_isLetter tab_X6 1 n hr (c2 := (if s0 = 0 then 26 else 22, ρ, [], L, g)) rfl
  refine ⟨n1, by omega, ?_⟩
  by_cases hc : s0 = 0
  · exact Or.inl ⟨hc, by rw [if_pos hc] at h1; exact h1⟩
  · exact Or.inr ⟨hc, by rw [if_neg hc] at h1; exact h1⟩
theorem bk_X6_isLetter_22 {ax : zAx} {CE : g_E} {n : Nat} {ρ : Nat → Int} {L : List Nat} {g : Nat → Nat → Int} {r : Option g_V} {h : g_H} (hr : g_run RX6 ax CE cX6_isLetter n (22, ρ, [], L, g) r h) : ∃ n', n' < n ∧ g_run RX6 ax CE cX6_isLetter n' (27, ρ, [(1, 1)], L, g) r h := by
  obtain ⟨n1, e, h1⟩ := g_blk_ok noX6 jI_X6_isLetter tab_X6 2 n hr (c2 := (27, ρ, [(1, 1)], L, g)) rfl
  exact ⟨n1, by omega, h1⟩
theorem bk_X6_isLetter_26 {ax : zAx} {CE : g_E} {n : Nat} {ρ : Nat → Int} {L : List Nat} {g : Nat → Nat → Int} {r : Option g_V} {h : g_H} (hr : g_run RX6 ax CE cX6_isLetter n (26, ρ, [], L, g) r h) : ∃ n', n' < n ∧ g_run RX6 ax CE cX6_isLetter n' (27, ρ, [(1, 0)], L, g) r h := by
  obtain ⟨n1, e, h1⟩ := g_blk_ok noX6 jI_X6_isLetter tab_X6 1 n hr (c2 := (27, ρ, [(1, 0)], L, g)) rfl
  exact ⟨n1, by omega, h1⟩
theorem bk_X6_isLetter_27 {ax : zAx} {CE : g_E} {n : Nat} {ρ : Nat → Int} {s0 : Int} {L : List Nat} {g : Nat → Nat → Int} {r : Option g_V} {h : g_H} (hr : g_run RX6 ax CE cX6_isLetter n (27, ρ, [(1, s0)], L, g) r h) : r = some (1, s0) ∧ h = (L, g) := by
  obtain ⟨n1, e, h1⟩ := g_blk_ok noX6 jI_X6_isLetter tab_X6 0 n hr (c2 := (27, ρ, [(1, s0)], L, g)) rfl
  exact g_ret_un noX6 (i := .ireturn) (jI_X6_isLetter 27 _ rfl) (by decide) h1
def F_X6_isLetter (x0 : Int) (g : Nat → Nat → Int) : Int := if F_X11_isWithin x0 97 122 g = 0 then if F_X11_isWithin x0 65 90 g = 0 then 0 else 1 else 1
theorem f_X6_isLetter {ax : zAx} {x0 : Int} {L : List Nat} {g : Nat → Nat → Int} {r : Option g_V} {h : g_H} (hx : g_ex ax yX6_isLetter cX6_isLetter [(0, x0)] (L, g) r h) : r = some (1, F_X6_isLetter x0 g) ∧ h = (L, g) := by
  obtain ⟨ρ, n0, hρ, h0⟩ := g_run_of hx
  obtain rfl : ρ 0 = x0 := hρ (0, x0) (by simp)
  obtain ⟨n1, r1, k1, l1, x1, h1⟩ := bk_X6_isLetter_0 h0
  obtain ⟨e1, d1⟩ := f_X11_isWithin x1
  subst e1
  subst d1
  obtain ⟨n2, l2, h2⟩ := bk_X6_isLetter_8 h1
  rcases h2 with ⟨c2, h2⟩ | ⟨c2, h2⟩
  · obtain ⟨n3, r3, k3, l3, x3, h3⟩ := bk_X6_isLetter_11 h2
    obtain ⟨e3, d3⟩ := f_X11_isWithin x3
    subst e3
    subst d3
    obtain ⟨n4, l4, h4⟩ := bk_X6_isLetter_19 h3
    rcases h4 with ⟨c4, h4⟩ | ⟨c4, h4⟩
    · obtain ⟨n5, l5, h5⟩ := bk_X6_isLetter_26 h4
      obtain ⟨e6, d6⟩ := bk_X6_isLetter_27 h5
      unfold F_X6_isLetter
      rw [if_pos c2, if_pos c4]
      exact ⟨e6, d6⟩
    · obtain ⟨n7, l7, h7⟩ := bk_X6_isLetter_22 h4
      obtain ⟨e8, d8⟩ := bk_X6_isLetter_27 h7
      unfold F_X6_isLetter
      rw [if_pos c2, if_neg c4]
      exact ⟨e8, d8⟩
  · obtain ⟨n9, l9, h9⟩ := bk_X6_isLetter_22 h2
    obtain ⟨e10, d10⟩ := bk_X6_isLetter_27 h9
    unfold F_X6_isLetter
    rw [if_neg c2]
    exact ⟨e10, d10⟩

theorem jI_X6_isDigit : ∀ (pc : Nat) (q : Instr × Nat), lkp iX6_isDigit pc = some q → decode cX6_isDigit pc = .ok q := fun pc q hq => jX6_isDigit (pc, q) (lkp_in iX6_isDigit hq)
theorem bk_X6_isDigit_0 {ax : zAx} {CE : g_E} {n : Nat} {ρ : Nat → Int} {L : List Nat} {g : Nat → Nat → Int} {r : Option g_V} {h : g_H} (hr : g_run RX6 ax CE cX6_isDigit n (0, ρ, [], L, g) r h) : ∃ n' r1 h1', n' < n ∧ CE yX11_isWithin cX11_isWithin [(0, ρ 0), (1, 48), (2, 57)] (L, g) r1 h1' ∧ g_run RX6 ax CE cX6_isDigit n' (8, ρ, g_push r1 [], h1') r h := by
  obtain ⟨n1, e, h1⟩ := g_blk_ok noX6 jI_X6_isDigit tab_X6 3 n hr (c2 := (5, ρ, [(1, 57), (1, 48), (1, ρ 0)], L, g)) rfl
  obtain ⟨n2, c', e2, h2, h3⟩ := g_step_un noX6 (i := .invokestatic 77) (len := 3) (jI_X6_isDigit 5 _ rfl) (gnrS _) h1
  obtain ⟨r1, h1', hx, hc⟩ := g_static_un lk_X6 nat_all lX6_ok (idx := 77) (mode := 2) (mi := 46) (ci := 0) (na := 3) rfl (by decide) (by decide) mq_X11_isWithin [(1, ρ 0), (1, 48), (1, 57)] [] rfl rfl h2
  subst hc
  exact ⟨n2, r1, h1', by omega, hx, h3⟩
theorem bk_X6_isDigit_8 {ax : zAx} {CE : g_E} {n : Nat} {ρ : Nat → Int} {s0 : Int} {L : List Nat} {g : Nat → Nat → Int} {r : Option g_V} {h : g_H} (hr : g_run RX6 ax CE cX6_isDigit n (8, ρ, [(1, s0)], L, g) r h) : r = some (1, s0) ∧ h = (L, g) := by
  obtain ⟨n1, e, h1⟩ := g_blk_ok noX6 jI_X6_isDigit tab_X6 0 n hr (c2 := (8, ρ, [(1, s0)], L, g)) rfl
  exact g_ret_un noX6 (i := .ireturn) (jI_X6_isDigit 8 _ rfl) (by decide) h1
def F_X6_isDigit (x0 : Int) (g : Nat → Nat → Int) : Int := F_X11_isWithin x0 48 57 g
theorem f_X6_isDigit {ax : zAx} {x0 : Int} {L : List Nat} {g : Nat → Nat → Int} {r : Option g_V} {h : g_H} (hx : g_ex ax yX6_isDigit cX6_isDigit [(0, x0)] (L, g) r h) : r = some (1, F_X6_isDigit x0 g) ∧ h = (L, g) := by
  obtain ⟨ρ, n0, hρ, h0⟩ := g_run_of hx
  obtain rfl : ρ 0 = x0 := hρ (0, x0) (by simp)
  obtain ⟨n1, r1, k1, l1, x1, h1⟩ := bk_X6_isDigit_0 h0
  obtain ⟨e1, d1⟩ := f_X11_isWithin x1
  subst e1
  subst d1
  obtain ⟨e2, d2⟩ := bk_X6_isDigit_8 h1
  exact ⟨e2, d2⟩

theorem jI_X3_readName : ∀ (pc : Nat) (q : Instr × Nat), lkp iX3_readName pc = some q → decode cX3_readName pc = .ok q := fun pc q hq => jX3_readName (pc, q) (lkp_in iX3_readName hq)
theorem bk_X3_readName_0 {ax : zAx} {CE : g_E} {n : Nat} {ρ : Nat → Int} {L : List Nat} {g : Nat → Nat → Int} {r : Option g_V} {h : g_H} (hr : g_run RX3 ax CE cX3_readName n (0, ρ, [], L, g) r h) : ∃ n' r1 h1', n' < n ∧ CE yX3_isOwnName cX3_isOwnName [(0, g (ρ 0).toNat 6)] (L, g) r1 h1' ∧ g_run RX3 ax CE cX3_readName n' (7, ρ, g_push r1 [], h1') r h := by
  obtain ⟨n1, e, h1⟩ := g_blk_ok noX3 jI_X3_readName tab_X3 2 n hr (c2 := (4, ρ, [(1, g (ρ 0).toNat 6)], L, g)) rfl
  obtain ⟨n2, c', e2, h2, h3⟩ := g_step_un noX3 (i := .invokestatic 159) (len := 3) (jI_X3_readName 4 _ rfl) (gnrS _) h1
  obtain ⟨r1, h1', hx, hc⟩ := g_static_un lk_X3 nat_all lX3_ok (idx := 159) (mode := 1) (mi := 228) (ci := 0) (na := 1) rfl (by decide) (by decide) mq_X3_isOwnName [(1, g (ρ 0).toNat 6)] [] rfl rfl h2
  subst hc
  exact ⟨n2, r1, h1', by omega, hx, h3⟩
theorem bk_X3_readName_7 {ax : zAx} {CE : g_E} {n : Nat} {ρ : Nat → Int} {s0 : Int} {L : List Nat} {g : Nat → Nat → Int} {r : Option g_V} {h : g_H} (hr : g_run RX3 ax CE cX3_readName n (7, ρ, [(1, s0)], L, g) r h) : ∃ n', n' < n ∧ ((s0 = 0 ∧ g_run RX3 ax CE cX3_readName n' (14, ρ, [], L, g) r h) ∨ (¬ (s0 = 0) ∧ g_run RX3 ax CE cX3_readName n' (10, ρ, [], L, g) r h)) := by
  obtain ⟨n1, e, h1⟩ := g_blk_ok noX3 jI_X3_readName tab_X3 1 n hr (c2 := (if s0 = 0 then 14 else 10, ρ, [], L, g)) rfl
  refine ⟨n1, by omega, ?_⟩
  by_cases hc : s0 = 0
  · exact Or.inl ⟨hc, by rw [if_pos hc] at h1; exact h1⟩
  · exact Or.inr ⟨hc, by rw [if_neg hc] at h1; exact h1⟩
theorem bk_X3_readName_10 {ax : zAx} {CE : g_E} {n : Nat} {ρ : Nat → Int} {L : List Nat} {g : Nat → Nat → Int} {r : Option g_V} {h : g_H} (hr : g_run RX3 ax CE cX3_readName n (10, ρ, [], L, g) r h) : ∃ n', n' < n ∧ g_run RX3 ax CE cX3_readName n' (36, ρ, [(1, ρ 1)], L, g) r h := by
  obtain ⟨n1, e, h1⟩ := g_blk_ok noX3 jI_X3_readName tab_X3 2 n hr (c2 := (36, ρ, [(1, ρ 1)], L, g)) rfl
  exact ⟨n1, by omega, h1⟩
theorem bk_X3_readName_14 {ax : zAx} {CE : g_E} {n : Nat} {ρ : Nat → Int} {L : List Nat} {g : Nat → Nat → Int} {r : Option g_V} {h : g_H} (hr : g_run RX3 ax CE cX3_readName n (14, ρ, [], L, g) r h) : ∃ n', n' < n ∧ ((g (ρ 0).toNat 6 = 34 ∧ g_run RX3 ax CE cX3_readName n' (23, ρ, [], L, g) r h) ∨ (¬ (g (ρ 0).toNat 6 = 34) ∧ g_run RX3 ax CE cX3_readName n' (31, ρ, [], L, g) r h)) := by
  obtain ⟨n1, e, h1⟩ := g_blk_ok noX3 jI_X3_readName tab_X3 4 n hr (c2 := (if g (ρ 0).toNat 6 = 34 then 23 else 31, ρ, [], L, g)) rfl
  refine ⟨n1, by omega, ?_⟩
  by_cases hc : g (ρ 0).toNat 6 = 34
  · exact Or.inl ⟨hc, by rw [if_pos hc] at h1; exact h1⟩
  · exact Or.inr ⟨hc, by rw [if_neg hc] at h1; exact h1⟩
theorem bk_X3_readName_23 {ax : zAx} {CE : g_E} {n : Nat} {ρ : Nat → Int} {L : List Nat} {g : Nat → Nat → Int} {r : Option g_V} {h : g_H} (hr : g_run RX3 ax CE cX3_readName n (23, ρ, [], L, g) r h) : ∃ n', n' < n ∧ ((g (ρ 0).toNat 4 = 4 ∧ g_run RX3 ax CE cX3_readName n' (31, ρ, [], L, g) r h) ∨ (¬ (g (ρ 0).toNat 4 = 4) ∧ g_run RX3 ax CE cX3_readName n' (35, ρ, [], L, g) r h)) := by
  obtain ⟨n1, e, h1⟩ := g_blk_ok noX3 jI_X3_readName tab_X3 4 n hr (c2 := (if g (ρ 0).toNat 4 = 4 then 31 else 35, ρ, [], L, g)) rfl
  refine ⟨n1, by omega, ?_⟩
  by_cases hc : g (ρ 0).toNat 4 = 4
  · exact Or.inl ⟨hc, by rw [if_pos hc] at h1; exact h1⟩
  · exact Or.inr ⟨hc, by rw [if_neg hc] at h1; exact h1⟩
theorem bk_X3_readName_31 {ax : zAx} {CE : g_E} {n : Nat} {ρ : Nat → Int} {L : List Nat} {g : Nat → Nat → Int} {r : Option g_V} {h : g_H} (hr : g_run RX3 ax CE cX3_readName n (31, ρ, [], L, g) r h) : ∃ n', n' < n ∧ g_run RX3 ax CE cX3_readName n' (36, ρ, [(1, 1)], L, g) r h := by
  obtain ⟨n1, e, h1⟩ := g_blk_ok noX3 jI_X3_readName tab_X3 2 n hr (c2 := (36, ρ, [(1, 1)], L, g)) rfl
  exact ⟨n1, by omega, h1⟩
theorem bk_X3_readName_35 {ax : zAx} {CE : g_E} {n : Nat} {ρ : Nat → Int} {L : List Nat} {g : Nat → Nat → Int} {r : Option g_V} {h : g_H} (hr : g_run RX3 ax CE cX3_readName n (35, ρ, [], L, g) r h) : ∃ n', n' < n ∧ g_run RX3 ax CE cX3_readName n' (36, ρ, [(1, 0)], L, g) r h := by
  obtain ⟨n1, e, h1⟩ := g_blk_ok noX3 jI_X3_readName tab_X3 1 n hr (c2 := (36, ρ, [(1, 0)], L, g)) rfl
  exact ⟨n1, by omega, h1⟩
theorem bk_X3_readName_36 {ax : zAx} {CE : g_E} {n : Nat} {ρ : Nat → Int} {s0 : Int} {L : List Nat} {g : Nat → Nat → Int} {r : Option g_V} {h : g_H} (hr : g_run RX3 ax CE cX3_readName n (36, ρ, [(1, s0)], L, g) r h) : ∃ n', n' < n ∧ ((s0 = 0 ∧ g_run RX3 ax CE cX3_readName n' (41, (va_up ρ 2 s0), [], L, g) r h) ∨ (¬ (s0 = 0) ∧ g_run RX3 ax CE cX3_readName n' (47, (va_up ρ 2 s0), [], L, g) r h)) := by
  obtain ⟨n1, e, h1⟩ := g_blk_ok noX3 jI_X3_readName tab_X3 3 n hr (c2 := (if s0 = 0 then 41 else 47, (va_up ρ 2 s0), [], L, g)) rfl
  refine ⟨n1, by omega, ?_⟩
  by_cases hc : s0 = 0
  · exact Or.inl ⟨hc, by rw [if_pos hc] at h1; exact h1⟩
  · exact Or.inr ⟨hc, by rw [if_neg hc] at h1; exact h1⟩
theorem bk_X3_readName_41 {ax : zAx} {CE : g_E} {n : Nat} {ρ : Nat → Int} {L : List Nat} {g : Nat → Nat → Int} {r : Option g_V} {h : g_H} (hr : g_run RX3 ax CE cX3_readName n (41, ρ, [], L, g) r h) : ∃ n' r1 h1', n' < n ∧ CE yX3_fail cX3_fail [(0, ρ 0), (1, 5)] (L, g) r1 h1' ∧ g_run RX3 ax CE cX3_readName n' (46, ρ, g_push r1 [], h1') r h := by
  obtain ⟨n1, e, h1⟩ := g_blk_ok noX3 jI_X3_readName tab_X3 2 n hr (c2 := (43, ρ, [(1, 5), (1, ρ 0)], L, g)) rfl
  obtain ⟨n2, c', e2, h2, h3⟩ := g_step_un noX3 (i := .invokevirtual 55) (len := 3) (jI_X3_readName 43 _ rfl) (gnrV _) h1
  obtain ⟨r1, h1', hx, hc⟩ := g_virt_un lk_X3 nat_all lX3_ok (idx := 55) (mi := 226) (ci := 3) (na := 2) rfl (by decide) mq_X3_fail [(1, 5)] [] (ρ 0) rfl rfl h2
  subst hc
  exact ⟨n2, r1, h1', by omega, hx, h3⟩
theorem bk_X3_readName_46 {ax : zAx} {CE : g_E} {n : Nat} {ρ : Nat → Int} {L : List Nat} {g : Nat → Nat → Int} {r : Option g_V} {h : g_H} (hr : g_run RX3 ax CE cX3_readName n (46, ρ, [], L, g) r h) : r = none ∧ h = (L, g) := by
  obtain ⟨n1, e, h1⟩ := g_blk_ok noX3 jI_X3_readName tab_X3 0 n hr (c2 := (46, ρ, [], L, g)) rfl
  exact g_retv_un noX3 (jI_X3_readName 46 _ rfl) h1
theorem bk_X3_readName_47 {ax : zAx} {CE : g_E} {n : Nat} {ρ : Nat → Int} {L : List Nat} {g : Nat → Nat → Int} {r : Option g_V} {h : g_H} (hr : g_run RX3 ax CE cX3_readName n (47, ρ, [], L, g) r h) : ∃ n' r1 h1', n' < n ∧ CE yX7_write cX7_write [(0, g (ρ 0).toNat 3), (1, 60), (2, g (ρ 0).toNat 6)] (L, g) r1 h1' ∧ g_run RX3 ax CE cX3_readName n' (60, ρ, g_push r1 [], h1') r h := by
  obtain ⟨n1, e, h1⟩ := g_blk_ok noX3 jI_X3_readName tab_X3 5 n hr (c2 := (57, ρ, [(1, g (ρ 0).toNat 6), (1, 60), (1, g (ρ 0).toNat 3)], L, g)) rfl
  obtain ⟨n2, c', e2, h2, h3⟩ := g_step_un noX3 (i := .invokevirtual 125) (len := 3) (jI_X3_readName 57 _ rfl) (gnrV _) h1
  obtain ⟨r1, h1', hx, hc⟩ := g_virt_un lk_X3 nat_all lX3_ok (idx := 125) (mi := 264) (ci := 7) (na := 3) rfl (by decide) mq_X7_write [(1, 60), (1, g (ρ 0).toNat 6)] [] (g (ρ 0).toNat 3) rfl rfl h2
  subst hc
  exact ⟨n2, r1, h1', by omega, hx, h3⟩
theorem bk_X3_readName_60 {ax : zAx} {CE : g_E} {n : Nat} {ρ : Nat → Int} {L : List Nat} {g : Nat → Nat → Int} {r : Option g_V} {h : g_H} (hr : g_run RX3 ax CE cX3_readName n (60, ρ, [], L, g) r h) : ∃ n' r1 h1', n' < n ∧ CE yX3_advance cX3_advance [(0, ρ 0)] (L, g) r1 h1' ∧ g_run RX3 ax CE cX3_readName n' (64, ρ, g_push r1 [], h1') r h := by
  obtain ⟨n1, e, h1⟩ := g_blk_ok noX3 jI_X3_readName tab_X3 1 n hr (c2 := (61, ρ, [(1, ρ 0)], L, g)) rfl
  obtain ⟨n2, c', e2, h2, h3⟩ := g_step_un noX3 (i := .invokevirtual 68) (len := 3) (jI_X3_readName 61 _ rfl) (gnrV _) h1
  obtain ⟨r1, h1', hx, hc⟩ := g_virt_un lk_X3 nat_all lX3_ok (idx := 68) (mi := 223) (ci := 3) (na := 1) rfl (by decide) mq_X3_advance [] [] (ρ 0) rfl rfl h2
  subst hc
  exact ⟨n2, r1, h1', by omega, hx, h3⟩
theorem bk_X3_readName_64 {ax : zAx} {CE : g_E} {n : Nat} {ρ : Nat → Int} {L : List Nat} {g : Nat → Nat → Int} {r : Option g_V} {h : g_H} (hr : g_run RX3 ax CE cX3_readName n (64, ρ, [], L, g) r h) : r = none ∧ h = (L, g) := by
  obtain ⟨n1, e, h1⟩ := g_blk_ok noX3 jI_X3_readName tab_X3 0 n hr (c2 := (64, ρ, [], L, g)) rfl
  exact g_retv_un noX3 (jI_X3_readName 64 _ rfl) h1
def F_X3_readName (x0 x1 : Int) (g : Nat → Nat → Int) : (Nat → Nat → Int) := if F_X3_isOwnName (g x0.toNat 6) g = 0 then if g x0.toNat 6 = 34 then if g x0.toNat 4 = 4 then (F_X3_advance x0 (F_X7_write (g x0.toNat 3) 60 (g x0.toNat 6) g)) else (F_X3_fail x0 5 g) else (F_X3_advance x0 (F_X7_write (g x0.toNat 3) 60 (g x0.toNat 6) g)) else if x1 = 0 then (F_X3_fail x0 5 g) else (F_X3_advance x0 (F_X7_write (g x0.toNat 3) 60 (g x0.toNat 6) g))
theorem f_X3_readName {ax : zAx} {x0 x1 : Int} {L : List Nat} {g : Nat → Nat → Int} {r : Option g_V} {h : g_H} (hx : g_ex ax yX3_readName cX3_readName [(0, x0), (1, x1)] (L, g) r h) : r = none ∧ h = (L, F_X3_readName x0 x1 g) := by
  obtain ⟨ρ, n0, hρ, h0⟩ := g_run_of hx
  obtain rfl : ρ 0 = x0 := hρ (0, x0) (by simp)
  obtain rfl : ρ 1 = x1 := hρ (1, x1) (by simp)
  obtain ⟨n1, r1, k1, l1, x1, h1⟩ := bk_X3_readName_0 h0
  obtain ⟨e1, d1⟩ := f_X3_isOwnName x1
  subst e1
  subst d1
  obtain ⟨n2, l2, h2⟩ := bk_X3_readName_7 h1
  rcases h2 with ⟨c2, h2⟩ | ⟨c2, h2⟩
  · obtain ⟨n3, l3, h3⟩ := bk_X3_readName_14 h2
    rcases h3 with ⟨c3, h3⟩ | ⟨c3, h3⟩
    · obtain ⟨n4, l4, h4⟩ := bk_X3_readName_23 h3
      rcases h4 with ⟨c4, h4⟩ | ⟨c4, h4⟩
      · obtain ⟨n5, l5, h5⟩ := bk_X3_readName_31 h4
        obtain ⟨n6, l6, h6⟩ := bk_X3_readName_36 h5
        rcases h6 with ⟨c6, h6⟩ | ⟨c6, h6⟩
        · exact absurd c6 (show ¬ ((1 : Int) = 0) from by decide)
        · obtain ⟨n7, r7, k7, l7, x7, h7⟩ := bk_X3_readName_47 h6
          obtain ⟨e7, d7⟩ := f_X7_write x7
          subst e7
          subst d7
          obtain ⟨n8, r8, k8, l8, x8, h8⟩ := bk_X3_readName_60 h7
          obtain ⟨e8, d8⟩ := f_X3_advance x8
          subst e8
          subst d8
          obtain ⟨e9, d9⟩ := bk_X3_readName_64 h8
          unfold F_X3_readName
          rw [if_pos c2, if_pos c3, if_pos c4]
          exact ⟨e9, d9⟩
      · obtain ⟨n10, l10, h10⟩ := bk_X3_readName_35 h4
        obtain ⟨n11, l11, h11⟩ := bk_X3_readName_36 h10
        rcases h11 with ⟨c11, h11⟩ | ⟨c11, h11⟩
        · obtain ⟨n12, r12, k12, l12, x12, h12⟩ := bk_X3_readName_41 h11
          obtain ⟨e12, d12⟩ := f_X3_fail x12
          subst e12
          subst d12
          obtain ⟨e13, d13⟩ := bk_X3_readName_46 h12
          unfold F_X3_readName
          rw [if_pos c2, if_pos c3, if_neg c4]
          exact ⟨e13, d13⟩
        · exact absurd (show (0 : Int) = 0 from by decide) c11
    · obtain ⟨n14, l14, h14⟩ := bk_X3_readName_31 h3
      obtain ⟨n15, l15, h15⟩ := bk_X3_readName_36 h14
      rcases h15 with ⟨c15, h15⟩ | ⟨c15, h15⟩
      · exact absurd c15 (show ¬ ((1 : Int) = 0) from by decide)
      · obtain ⟨n16, r16, k16, l16, x16, h16⟩ := bk_X3_readName_47 h15
        obtain ⟨e16, d16⟩ := f_X7_write x16
        subst e16
        subst d16
        obtain ⟨n17, r17, k17, l17, x17, h17⟩ := bk_X3_readName_60 h16
        obtain ⟨e17, d17⟩ := f_X3_advance x17
        subst e17
        subst d17
        obtain ⟨e18, d18⟩ := bk_X3_readName_64 h17
        unfold F_X3_readName
        rw [if_pos c2, if_neg c3]
        exact ⟨e18, d18⟩
  · obtain ⟨n19, l19, h19⟩ := bk_X3_readName_10 h2
    obtain ⟨n20, l20, h20⟩ := bk_X3_readName_36 h19
    rcases h20 with ⟨c20, h20⟩ | ⟨c20, h20⟩
    · obtain ⟨n21, r21, k21, l21, x21, h21⟩ := bk_X3_readName_41 h20
      obtain ⟨e21, d21⟩ := f_X3_fail x21
      subst e21
      subst d21
      obtain ⟨e22, d22⟩ := bk_X3_readName_46 h21
      unfold F_X3_readName
      rw [if_neg c2, if_pos c20]
      exact ⟨e22, d22⟩
    · obtain ⟨n23, r23, k23, l23, x23, h23⟩ := bk_X3_readName_47 h20
      obtain ⟨e23, d23⟩ := f_X7_write x23
      subst e23
      subst d23
      obtain ⟨n24, r24, k24, l24, x24, h24⟩ := bk_X3_readName_60 h23
      obtain ⟨e24, d24⟩ := f_X3_advance x24
      subst e24
      subst d24
      obtain ⟨e25, d25⟩ := bk_X3_readName_64 h24
      unfold F_X3_readName
      rw [if_neg c2, if_neg c20]
      exact ⟨e25, d25⟩

theorem jI_X3_isName : ∀ (pc : Nat) (q : Instr × Nat), lkp iX3_isName pc = some q → decode cX3_isName pc = .ok q := fun pc q hq => jX3_isName (pc, q) (lkp_in iX3_isName hq)
theorem bk_X3_isName_0 {ax : zAx} {CE : g_E} {n : Nat} {ρ : Nat → Int} {L : List Nat} {g : Nat → Nat → Int} {r : Option g_V} {h : g_H} (hr : g_run RX3 ax CE cX3_isName n (0, ρ, [], L, g) r h) : ∃ n' r1 h1', n' < n ∧ CE yX3_isOwnName cX3_isOwnName [(0, ρ 0)] (L, g) r1 h1' ∧ g_run RX3 ax CE cX3_isName n' (4, ρ, g_push r1 [], h1') r h := by
  obtain ⟨n1, e, h1⟩ := g_blk_ok noX3 jI_X3_isName tab_X3 1 n hr (c2 := (1, ρ, [(1, ρ 0)], L, g)) rfl
  obtain ⟨n2, c', e2, h2, h3⟩ := g_step_un noX3 (i := .invokestatic 159) (len := 3) (jI_X3_isName 1 _ rfl) (gnrS _) h1
  obtain ⟨r1, h1', hx, hc⟩ := g_static_un lk_X3 nat_all lX3_ok (idx := 159) (mode := 1) (mi := 228) (ci := 0) (na := 1) rfl (by decide) (by decide) mq_X3_isOwnName [(1, ρ 0)] [] rfl rfl h2
  subst hc
  exact ⟨n2, r1, h1', by omega, hx, h3⟩
theorem bk_X3_isName_4 {ax : zAx} {CE : g_E} {n : Nat} {ρ : Nat → Int} {s0 : Int} {L : List Nat} {g : Nat → Nat → Int} {r : Option g_V} {h : g_H} (hr : g_run RX3 ax CE cX3_isName n (4, ρ, [(1, s0)], L, g) r h) : ∃ n', n' < n ∧ ((s0 = 0 ∧ g_run RX3 ax CE cX3_isName n' (7, ρ, [], L, g) r h) ∨ (¬ (s0 = 0) ∧ g_run RX3 ax CE cX3_isName n' (24, ρ, [], L, g) r h)) := by
  obtain ⟨n1, e, h1⟩ := g_blk_ok noX3 jI_X3_isName tab_X3 1 n hr (c2 := (if s0 = 0 then 7 else 24, ρ, [], L, g)) rfl
  refine ⟨n1, by omega, ?_⟩
  by_cases hc : s0 = 0
  · exact Or.inl ⟨hc, by rw [if_pos hc] at h1; exact h1⟩
  · exact Or.inr ⟨hc, by rw [if_neg hc] at h1; exact h1⟩
theorem bk_X3_isName_7 {ax : zAx} {CE : g_E} {n : Nat} {ρ : Nat → Int} {L : List Nat} {g : Nat → Nat → Int} {r : Option g_V} {h : g_H} (hr : g_run RX3 ax CE cX3_isName n (7, ρ, [], L, g) r h) : ∃ n', n' < n ∧ ((ρ 0 = 13 ∧ g_run RX3 ax CE cX3_isName n' (24, ρ, [], L, g) r h) ∨ (¬ (ρ 0 = 13) ∧ g_run RX3 ax CE cX3_isName n' (13, ρ, [], L, g) r h)) := by
  obtain ⟨n1, e, h1⟩ := g_blk_ok noX3 jI_X3_isName tab_X3 3 n hr (c2 := (if ρ 0 = 13 then 24 else 13, ρ, [], L, g)) rfl
  refine ⟨n1, by omega, ?_⟩
  by_cases hc : ρ 0 = 13
  · exact Or.inl ⟨hc, by rw [if_pos hc] at h1; exact h1⟩
  · exact Or.inr ⟨hc, by rw [if_neg hc] at h1; exact h1⟩
theorem bk_X3_isName_13 {ax : zAx} {CE : g_E} {n : Nat} {ρ : Nat → Int} {L : List Nat} {g : Nat → Nat → Int} {r : Option g_V} {h : g_H} (hr : g_run RX3 ax CE cX3_isName n (13, ρ, [], L, g) r h) : ∃ n' r1 h1', n' < n ∧ CE yX11_isWithin cX11_isWithin [(0, ρ 0), (1, 31), (2, 34)] (L, g) r1 h1' ∧ g_run RX3 ax CE cX3_isName n' (21, ρ, g_push r1 [], h1') r h := by
  obtain ⟨n1, e, h1⟩ := g_blk_ok noX3 jI_X3_isName tab_X3 3 n hr (c2 := (18, ρ, [(1, 34), (1, 31), (1, ρ 0)], L, g)) rfl
  obtain ⟨n2, c', e2, h2, h3⟩ := g_step_un noX3 (i := .invokestatic 118) (len := 3) (jI_X3_isName 18 _ rfl) (gnrS _) h1
  obtain ⟨r1, h1', hx, hc⟩ := g_static_un lk_X3 nat_all lX3_ok (idx := 118) (mode := 2) (mi := 46) (ci := 0) (na := 3) rfl (by decide) (by decide) mq_X11_isWithin [(1, ρ 0), (1, 31), (1, 34)] [] rfl rfl h2
  subst hc
  exact ⟨n2, r1, h1', by omega, hx, h3⟩
theorem bk_X3_isName_21 {ax : zAx} {CE : g_E} {n : Nat} {ρ : Nat → Int} {s0 : Int} {L : List Nat} {g : Nat → Nat → Int} {r : Option g_V} {h : g_H} (hr : g_run RX3 ax CE cX3_isName n (21, ρ, [(1, s0)], L, g) r h) : ∃ n', n' < n ∧ ((s0 = 0 ∧ g_run RX3 ax CE cX3_isName n' (28, ρ, [], L, g) r h) ∨ (¬ (s0 = 0) ∧ g_run RX3 ax CE cX3_isName n' (24, ρ, [], L, g) r h)) := by
  obtain ⟨n1, e, h1⟩ := g_blk_ok noX3 jI_X3_isName tab_X3 1 n hr (c2 := (if s0 = 0 then 28 else 24, ρ, [], L, g)) rfl
  refine ⟨n1, by omega, ?_⟩
  by_cases hc : s0 = 0
  · exact Or.inl ⟨hc, by rw [if_pos hc] at h1; exact h1⟩
  · exact Or.inr ⟨hc, by rw [if_neg hc] at h1; exact h1⟩
theorem bk_X3_isName_24 {ax : zAx} {CE : g_E} {n : Nat} {ρ : Nat → Int} {L : List Nat} {g : Nat → Nat → Int} {r : Option g_V} {h : g_H} (hr : g_run RX3 ax CE cX3_isName n (24, ρ, [], L, g) r h) : ∃ n', n' < n ∧ g_run RX3 ax CE cX3_isName n' (29, ρ, [(1, 1)], L, g) r h := by
  obtain ⟨n1, e, h1⟩ := g_blk_ok noX3 jI_X3_isName tab_X3 2 n hr (c2 := (29, ρ, [(1, 1)], L, g)) rfl
  exact ⟨n1, by omega, h1⟩
theorem bk_X3_isName_28 {ax : zAx} {CE : g_E} {n : Nat} {ρ : Nat → Int} {L : List Nat} {g : Nat → Nat → Int} {r : Option g_V} {h : g_H} (hr : g_run RX3 ax CE cX3_isName n (28, ρ, [], L, g) r h) : ∃ n', n' < n ∧ g_run RX3 ax CE cX3_isName n' (29, ρ, [(1, 0)], L, g) r h := by
  obtain ⟨n1, e, h1⟩ := g_blk_ok noX3 jI_X3_isName tab_X3 1 n hr (c2 := (29, ρ, [(1, 0)], L, g)) rfl
  exact ⟨n1, by omega, h1⟩
theorem bk_X3_isName_29 {ax : zAx} {CE : g_E} {n : Nat} {ρ : Nat → Int} {s0 : Int} {L : List Nat} {g : Nat → Nat → Int} {r : Option g_V} {h : g_H} (hr : g_run RX3 ax CE cX3_isName n (29, ρ, [(1, s0)], L, g) r h) : r = some (1, s0) ∧ h = (L, g) := by
  obtain ⟨n1, e, h1⟩ := g_blk_ok noX3 jI_X3_isName tab_X3 0 n hr (c2 := (29, ρ, [(1, s0)], L, g)) rfl
  exact g_ret_un noX3 (i := .ireturn) (jI_X3_isName 29 _ rfl) (by decide) h1
def F_X3_isName (x0 : Int) (g : Nat → Nat → Int) : Int := if F_X3_isOwnName x0 g = 0 then if x0 = 13 then 1 else if F_X11_isWithin x0 31 34 g = 0 then 0 else 1 else 1
theorem f_X3_isName {ax : zAx} {x0 : Int} {L : List Nat} {g : Nat → Nat → Int} {r : Option g_V} {h : g_H} (hx : g_ex ax yX3_isName cX3_isName [(0, x0)] (L, g) r h) : r = some (1, F_X3_isName x0 g) ∧ h = (L, g) := by
  obtain ⟨ρ, n0, hρ, h0⟩ := g_run_of hx
  obtain rfl : ρ 0 = x0 := hρ (0, x0) (by simp)
  obtain ⟨n1, r1, k1, l1, x1, h1⟩ := bk_X3_isName_0 h0
  obtain ⟨e1, d1⟩ := f_X3_isOwnName x1
  subst e1
  subst d1
  obtain ⟨n2, l2, h2⟩ := bk_X3_isName_4 h1
  rcases h2 with ⟨c2, h2⟩ | ⟨c2, h2⟩
  · obtain ⟨n3, l3, h3⟩ := bk_X3_isName_7 h2
    rcases h3 with ⟨c3, h3⟩ | ⟨c3, h3⟩
    · obtain ⟨n4, l4, h4⟩ := bk_X3_isName_24 h3
      obtain ⟨e5, d5⟩ := bk_X3_isName_29 h4
      unfold F_X3_isName
      rw [if_pos c2, if_pos c3]
      exact ⟨e5, d5⟩
    · obtain ⟨n6, r6, k6, l6, x6, h6⟩ := bk_X3_isName_13 h3
      obtain ⟨e6, d6⟩ := f_X11_isWithin x6
      subst e6
      subst d6
      obtain ⟨n7, l7, h7⟩ := bk_X3_isName_21 h6
      rcases h7 with ⟨c7, h7⟩ | ⟨c7, h7⟩
      · obtain ⟨n8, l8, h8⟩ := bk_X3_isName_28 h7
        obtain ⟨e9, d9⟩ := bk_X3_isName_29 h8
        unfold F_X3_isName
        rw [if_pos c2, if_neg c3, if_pos c7]
        exact ⟨e9, d9⟩
      · obtain ⟨n10, l10, h10⟩ := bk_X3_isName_24 h7
        obtain ⟨e11, d11⟩ := bk_X3_isName_29 h10
        unfold F_X3_isName
        rw [if_pos c2, if_neg c3, if_neg c7]
        exact ⟨e11, d11⟩
  · obtain ⟨n12, l12, h12⟩ := bk_X3_isName_24 h2
    obtain ⟨e13, d13⟩ := bk_X3_isName_29 h12
    unfold F_X3_isName
    rw [if_neg c2]
    exact ⟨e13, d13⟩

theorem jI_X12_sortOf : ∀ (pc : Nat) (q : Instr × Nat), lkp iX12_sortOf pc = some q → decode cX12_sortOf pc = .ok q := fun pc q hq => jX12_sortOf (pc, q) (lkp_in iX12_sortOf hq)
theorem bk_X12_sortOf_0 {ax : zAx} {CE : g_E} {n : Nat} {ρ : Nat → Int} {L : List Nat} {g : Nat → Nat → Int} {r : Option g_V} {h : g_H} (hr : g_run RX12 ax CE cX12_sortOf n (0, ρ, [], L, g) r h) : ∃ n' r1 h1', n' < n ∧ CE yX12_w5 cX12_w5 [(0, 115), (1, 119), (2, 101), (3, 97), (4, 116)] (L, g) r1 h1' ∧ g_run RX12 ax CE cX12_sortOf n' (14, ρ, g_push r1 [(1, ρ 0)], h1') r h := by
  obtain ⟨n1, e, h1⟩ := g_blk_ok noX12 jI_X12_sortOf tab_X12 6 n hr (c2 := (11, ρ, [(1, 116), (1, 97), (1, 101), (1, 119), (1, 115), (1, ρ 0)], L, g)) rfl
  obtain ⟨n2, c', e2, h2, h3⟩ := g_step_un noX12 (i := .invokestatic 184) (len := 3) (jI_X12_sortOf 11 _ rfl) (gnrS _) h1
  obtain ⟨r1, h1', hx, hc⟩ := g_static_un lk_X12 nat_all lX12_ok (idx := 184) (mode := 1) (mi := 193) (ci := 0) (na := 5) rfl (by decide) (by decide) mq_X12_w5 [(1, 115), (1, 119), (1, 101), (1, 97), (1, 116)] [(1, ρ 0)] rfl rfl h2
  subst hc
  exact ⟨n2, r1, h1', by omega, hx, h3⟩
theorem bk_X12_sortOf_14 {ax : zAx} {CE : g_E} {n : Nat} {ρ : Nat → Int} {s0 : Int} {s1 : Int} {L : List Nat} {g : Nat → Nat → Int} {r : Option g_V} {h : g_H} (hr : g_run RX12 ax CE cX12_sortOf n (14, ρ, [(2, s0), (1, s1)], L, g) r h) : ∃ n' r1 h1', n' < n ∧ CE yX12_isWord cX12_isWord [(0, s1), (1, s0)] (L, g) r1 h1' ∧ g_run RX12 ax CE cX12_sortOf n' (17, ρ, g_push r1 [], h1') r h := by
  obtain ⟨n1, e, h1⟩ := g_blk_ok noX12 jI_X12_sortOf tab_X12 0 n hr (c2 := (14, ρ, [(2, s0), (1, s1)], L, g)) rfl
  obtain ⟨n2, c', e2, h2, h3⟩ := g_step_un noX12 (i := .invokevirtual 236) (len := 3) (jI_X12_sortOf 14 _ rfl) (gnrV _) h1
  obtain ⟨r1, h1', hx, hc⟩ := g_virt_un lk_X12 nat_all lX12_ok (idx := 236) (mi := 132) (ci := 12) (na := 2) rfl (by decide) mq_X12_isWord [(2, s0)] [] s1 rfl rfl h2
  subst hc
  exact ⟨n2, r1, h1', by omega, hx, h3⟩
theorem bk_X12_sortOf_17 {ax : zAx} {CE : g_E} {n : Nat} {ρ : Nat → Int} {s0 : Int} {L : List Nat} {g : Nat → Nat → Int} {r : Option g_V} {h : g_H} (hr : g_run RX12 ax CE cX12_sortOf n (17, ρ, [(1, s0)], L, g) r h) : ∃ n', n' < n ∧ ((s0 = 0 ∧ g_run RX12 ax CE cX12_sortOf n' (22, ρ, [], L, g) r h) ∨ (¬ (s0 = 0) ∧ g_run RX12 ax CE cX12_sortOf n' (20, ρ, [], L, g) r h)) := by
  obtain ⟨n1, e, h1⟩ := g_blk_ok noX12 jI_X12_sortOf tab_X12 1 n hr (c2 := (if s0 = 0 then 22 else 20, ρ, [], L, g)) rfl
  refine ⟨n1, by omega, ?_⟩
  by_cases hc : s0 = 0
  · exact Or.inl ⟨hc, by rw [if_pos hc] at h1; exact h1⟩
  · exact Or.inr ⟨hc, by rw [if_neg hc] at h1; exact h1⟩
theorem bk_X12_sortOf_20 {ax : zAx} {CE : g_E} {n : Nat} {ρ : Nat → Int} {L : List Nat} {g : Nat → Nat → Int} {r : Option g_V} {h : g_H} (hr : g_run RX12 ax CE cX12_sortOf n (20, ρ, [], L, g) r h) : r = some (1, 0) ∧ h = (L, g) := by
  obtain ⟨n1, e, h1⟩ := g_blk_ok noX12 jI_X12_sortOf tab_X12 1 n hr (c2 := (21, ρ, [(1, 0)], L, g)) rfl
  exact g_ret_un noX12 (i := .ireturn) (jI_X12_sortOf 21 _ rfl) (by decide) h1
theorem bk_X12_sortOf_22 {ax : zAx} {CE : g_E} {n : Nat} {ρ : Nat → Int} {L : List Nat} {g : Nat → Nat → Int} {r : Option g_V} {h : g_H} (hr : g_run RX12 ax CE cX12_sortOf n (22, ρ, [], L, g) r h) : ∃ n' r1 h1', n' < n ∧ CE yX12_w4 cX12_w4 [(0, 114), (1, 97), (2, 105), (3, 110)] (L, g) r1 h1' ∧ g_run RX12 ax CE cX12_sortOf n' (34, ρ, g_push r1 [(1, ρ 0)], h1') r h := by
  obtain ⟨n1, e, h1⟩ := g_blk_ok noX12 jI_X12_sortOf tab_X12 5 n hr (c2 := (31, ρ, [(1, 110), (1, 105), (1, 97), (1, 114), (1, ρ 0)], L, g)) rfl
  obtain ⟨n2, c', e2, h2, h3⟩ := g_step_un noX12 (i := .invokestatic 180) (len := 3) (jI_X12_sortOf 31 _ rfl) (gnrS _) h1
  obtain ⟨r1, h1', hx, hc⟩ := g_static_un lk_X12 nat_all lX12_ok (idx := 180) (mode := 1) (mi := 192) (ci := 0) (na := 4) rfl (by decide) (by decide) mq_X12_w4 [(1, 114), (1, 97), (1, 105), (1, 110)] [(1, ρ 0)] rfl rfl h2
  subst hc
  exact ⟨n2, r1, h1', by omega, hx, h3⟩
theorem bk_X12_sortOf_34 {ax : zAx} {CE : g_E} {n : Nat} {ρ : Nat → Int} {s0 : Int} {s1 : Int} {L : List Nat} {g : Nat → Nat → Int} {r : Option g_V} {h : g_H} (hr : g_run RX12 ax CE cX12_sortOf n (34, ρ, [(2, s0), (1, s1)], L, g) r h) : ∃ n' r1 h1', n' < n ∧ CE yX12_isWord cX12_isWord [(0, s1), (1, s0)] (L, g) r1 h1' ∧ g_run RX12 ax CE cX12_sortOf n' (37, ρ, g_push r1 [], h1') r h := by
  obtain ⟨n1, e, h1⟩ := g_blk_ok noX12 jI_X12_sortOf tab_X12 0 n hr (c2 := (34, ρ, [(2, s0), (1, s1)], L, g)) rfl
  obtain ⟨n2, c', e2, h2, h3⟩ := g_step_un noX12 (i := .invokevirtual 236) (len := 3) (jI_X12_sortOf 34 _ rfl) (gnrV _) h1
  obtain ⟨r1, h1', hx, hc⟩ := g_virt_un lk_X12 nat_all lX12_ok (idx := 236) (mi := 132) (ci := 12) (na := 2) rfl (by decide) mq_X12_isWord [(2, s0)] [] s1 rfl rfl h2
  subst hc
  exact ⟨n2, r1, h1', by omega, hx, h3⟩
theorem bk_X12_sortOf_37 {ax : zAx} {CE : g_E} {n : Nat} {ρ : Nat → Int} {s0 : Int} {L : List Nat} {g : Nat → Nat → Int} {r : Option g_V} {h : g_H} (hr : g_run RX12 ax CE cX12_sortOf n (37, ρ, [(1, s0)], L, g) r h) : ∃ n', n' < n ∧ ((s0 = 0 ∧ g_run RX12 ax CE cX12_sortOf n' (42, ρ, [], L, g) r h) ∨ (¬ (s0 = 0) ∧ g_run RX12 ax CE cX12_sortOf n' (40, ρ, [], L, g) r h)) := by
  obtain ⟨n1, e, h1⟩ := g_blk_ok noX12 jI_X12_sortOf tab_X12 1 n hr (c2 := (if s0 = 0 then 42 else 40, ρ, [], L, g)) rfl
  refine ⟨n1, by omega, ?_⟩
  by_cases hc : s0 = 0
  · exact Or.inl ⟨hc, by rw [if_pos hc] at h1; exact h1⟩
  · exact Or.inr ⟨hc, by rw [if_neg hc] at h1; exact h1⟩
theorem bk_X12_sortOf_40 {ax : zAx} {CE : g_E} {n : Nat} {ρ : Nat → Int} {L : List Nat} {g : Nat → Nat → Int} {r : Option g_V} {h : g_H} (hr : g_run RX12 ax CE cX12_sortOf n (40, ρ, [], L, g) r h) : r = some (1, 1) ∧ h = (L, g) := by
  obtain ⟨n1, e, h1⟩ := g_blk_ok noX12 jI_X12_sortOf tab_X12 1 n hr (c2 := (41, ρ, [(1, 1)], L, g)) rfl
  exact g_ret_un noX12 (i := .ireturn) (jI_X12_sortOf 41 _ rfl) (by decide) h1
theorem bk_X12_sortOf_42 {ax : zAx} {CE : g_E} {n : Nat} {ρ : Nat → Int} {L : List Nat} {g : Nat → Nat → Int} {r : Option g_V} {h : g_H} (hr : g_run RX12 ax CE cX12_sortOf n (42, ρ, [], L, g) r h) : ∃ n' r1 h1', n' < n ∧ CE yX12_w3 cX12_w3 [(0, 116), (1, 97), (2, 120)] (L, g) r1 h1' ∧ g_run RX12 ax CE cX12_sortOf n' (52, ρ, g_push r1 [(1, ρ 0)], h1') r h := by
  obtain ⟨n1, e, h1⟩ := g_blk_ok noX12 jI_X12_sortOf tab_X12 4 n hr (c2 := (49, ρ, [(1, 120), (1, 97), (1, 116), (1, ρ 0)], L, g)) rfl
  obtain ⟨n2, c', e2, h2, h3⟩ := g_step_un noX12 (i := .invokestatic 176) (len := 3) (jI_X12_sortOf 49 _ rfl) (gnrS _) h1
  obtain ⟨r1, h1', hx, hc⟩ := g_static_un lk_X12 nat_all lX12_ok (idx := 176) (mode := 1) (mi := 191) (ci := 0) (na := 3) rfl (by decide) (by decide) mq_X12_w3 [(1, 116), (1, 97), (1, 120)] [(1, ρ 0)] rfl rfl h2
  subst hc
  exact ⟨n2, r1, h1', by omega, hx, h3⟩
theorem bk_X12_sortOf_52 {ax : zAx} {CE : g_E} {n : Nat} {ρ : Nat → Int} {s0 : Int} {s1 : Int} {L : List Nat} {g : Nat → Nat → Int} {r : Option g_V} {h : g_H} (hr : g_run RX12 ax CE cX12_sortOf n (52, ρ, [(2, s0), (1, s1)], L, g) r h) : ∃ n' r1 h1', n' < n ∧ CE yX12_isWord cX12_isWord [(0, s1), (1, s0)] (L, g) r1 h1' ∧ g_run RX12 ax CE cX12_sortOf n' (55, ρ, g_push r1 [], h1') r h := by
  obtain ⟨n1, e, h1⟩ := g_blk_ok noX12 jI_X12_sortOf tab_X12 0 n hr (c2 := (52, ρ, [(2, s0), (1, s1)], L, g)) rfl
  obtain ⟨n2, c', e2, h2, h3⟩ := g_step_un noX12 (i := .invokevirtual 236) (len := 3) (jI_X12_sortOf 52 _ rfl) (gnrV _) h1
  obtain ⟨r1, h1', hx, hc⟩ := g_virt_un lk_X12 nat_all lX12_ok (idx := 236) (mi := 132) (ci := 12) (na := 2) rfl (by decide) mq_X12_isWord [(2, s0)] [] s1 rfl rfl h2
  subst hc
  exact ⟨n2, r1, h1', by omega, hx, h3⟩
theorem bk_X12_sortOf_55 {ax : zAx} {CE : g_E} {n : Nat} {ρ : Nat → Int} {s0 : Int} {L : List Nat} {g : Nat → Nat → Int} {r : Option g_V} {h : g_H} (hr : g_run RX12 ax CE cX12_sortOf n (55, ρ, [(1, s0)], L, g) r h) : ∃ n', n' < n ∧ ((s0 = 0 ∧ g_run RX12 ax CE cX12_sortOf n' (60, ρ, [], L, g) r h) ∨ (¬ (s0 = 0) ∧ g_run RX12 ax CE cX12_sortOf n' (58, ρ, [], L, g) r h)) := by
  obtain ⟨n1, e, h1⟩ := g_blk_ok noX12 jI_X12_sortOf tab_X12 1 n hr (c2 := (if s0 = 0 then 60 else 58, ρ, [], L, g)) rfl
  refine ⟨n1, by omega, ?_⟩
  by_cases hc : s0 = 0
  · exact Or.inl ⟨hc, by rw [if_pos hc] at h1; exact h1⟩
  · exact Or.inr ⟨hc, by rw [if_neg hc] at h1; exact h1⟩
theorem bk_X12_sortOf_58 {ax : zAx} {CE : g_E} {n : Nat} {ρ : Nat → Int} {L : List Nat} {g : Nat → Nat → Int} {r : Option g_V} {h : g_H} (hr : g_run RX12 ax CE cX12_sortOf n (58, ρ, [], L, g) r h) : r = some (1, 2) ∧ h = (L, g) := by
  obtain ⟨n1, e, h1⟩ := g_blk_ok noX12 jI_X12_sortOf tab_X12 1 n hr (c2 := (59, ρ, [(1, 2)], L, g)) rfl
  exact g_ret_un noX12 (i := .ireturn) (jI_X12_sortOf 59 _ rfl) (by decide) h1
theorem bk_X12_sortOf_60 {ax : zAx} {CE : g_E} {n : Nat} {ρ : Nat → Int} {L : List Nat} {g : Nat → Nat → Int} {r : Option g_V} {h : g_H} (hr : g_run RX12 ax CE cX12_sortOf n (60, ρ, [], L, g) r h) : ∃ n' r1 h1', n' < n ∧ CE yX12_w5 cX12_w5 [(0, 100), (1, 114), (2, 105), (3, 101), (4, 115)] (L, g) r1 h1' ∧ g_run RX12 ax CE cX12_sortOf n' (74, ρ, g_push r1 [(1, ρ 0)], h1') r h := by
  obtain ⟨n1, e, h1⟩ := g_blk_ok noX12 jI_X12_sortOf tab_X12 6 n hr (c2 := (71, ρ, [(1, 115), (1, 101), (1, 105), (1, 114), (1, 100), (1, ρ 0)], L, g)) rfl
  obtain ⟨n2, c', e2, h2, h3⟩ := g_step_un noX12 (i := .invokestatic 184) (len := 3) (jI_X12_sortOf 71 _ rfl) (gnrS _) h1
  obtain ⟨r1, h1', hx, hc⟩ := g_static_un lk_X12 nat_all lX12_ok (idx := 184) (mode := 1) (mi := 193) (ci := 0) (na := 5) rfl (by decide) (by decide) mq_X12_w5 [(1, 100), (1, 114), (1, 105), (1, 101), (1, 115)] [(1, ρ 0)] rfl rfl h2
  subst hc
  exact ⟨n2, r1, h1', by omega, hx, h3⟩
theorem bk_X12_sortOf_74 {ax : zAx} {CE : g_E} {n : Nat} {ρ : Nat → Int} {s0 : Int} {s1 : Int} {L : List Nat} {g : Nat → Nat → Int} {r : Option g_V} {h : g_H} (hr : g_run RX12 ax CE cX12_sortOf n (74, ρ, [(2, s0), (1, s1)], L, g) r h) : ∃ n' r1 h1', n' < n ∧ CE yX12_isWord cX12_isWord [(0, s1), (1, s0)] (L, g) r1 h1' ∧ g_run RX12 ax CE cX12_sortOf n' (77, ρ, g_push r1 [], h1') r h := by
  obtain ⟨n1, e, h1⟩ := g_blk_ok noX12 jI_X12_sortOf tab_X12 0 n hr (c2 := (74, ρ, [(2, s0), (1, s1)], L, g)) rfl
  obtain ⟨n2, c', e2, h2, h3⟩ := g_step_un noX12 (i := .invokevirtual 236) (len := 3) (jI_X12_sortOf 74 _ rfl) (gnrV _) h1
  obtain ⟨r1, h1', hx, hc⟩ := g_virt_un lk_X12 nat_all lX12_ok (idx := 236) (mi := 132) (ci := 12) (na := 2) rfl (by decide) mq_X12_isWord [(2, s0)] [] s1 rfl rfl h2
  subst hc
  exact ⟨n2, r1, h1', by omega, hx, h3⟩
theorem bk_X12_sortOf_77 {ax : zAx} {CE : g_E} {n : Nat} {ρ : Nat → Int} {s0 : Int} {L : List Nat} {g : Nat → Nat → Int} {r : Option g_V} {h : g_H} (hr : g_run RX12 ax CE cX12_sortOf n (77, ρ, [(1, s0)], L, g) r h) : ∃ n', n' < n ∧ ((s0 = 0 ∧ g_run RX12 ax CE cX12_sortOf n' (82, ρ, [], L, g) r h) ∨ (¬ (s0 = 0) ∧ g_run RX12 ax CE cX12_sortOf n' (80, ρ, [], L, g) r h)) := by
  obtain ⟨n1, e, h1⟩ := g_blk_ok noX12 jI_X12_sortOf tab_X12 1 n hr (c2 := (if s0 = 0 then 82 else 80, ρ, [], L, g)) rfl
  refine ⟨n1, by omega, ?_⟩
  by_cases hc : s0 = 0
  · exact Or.inl ⟨hc, by rw [if_pos hc] at h1; exact h1⟩
  · exact Or.inr ⟨hc, by rw [if_neg hc] at h1; exact h1⟩
theorem bk_X12_sortOf_80 {ax : zAx} {CE : g_E} {n : Nat} {ρ : Nat → Int} {L : List Nat} {g : Nat → Nat → Int} {r : Option g_V} {h : g_H} (hr : g_run RX12 ax CE cX12_sortOf n (80, ρ, [], L, g) r h) : r = some (1, 3) ∧ h = (L, g) := by
  obtain ⟨n1, e, h1⟩ := g_blk_ok noX12 jI_X12_sortOf tab_X12 1 n hr (c2 := (81, ρ, [(1, 3)], L, g)) rfl
  exact g_ret_un noX12 (i := .ireturn) (jI_X12_sortOf 81 _ rfl) (by decide) h1
theorem bk_X12_sortOf_82 {ax : zAx} {CE : g_E} {n : Nat} {ρ : Nat → Int} {L : List Nat} {g : Nat → Nat → Int} {r : Option g_V} {h : g_H} (hr : g_run RX12 ax CE cX12_sortOf n (82, ρ, [], L, g) r h) : ∃ n' r1 h1', n' < n ∧ CE yX12_w5 cX12_w5 [(0, 115), (1, 104), (2, 97), (3, 114), (4, 101)] (L, g) r1 h1' ∧ g_run RX12 ax CE cX12_sortOf n' (96, ρ, g_push r1 [(1, ρ 0)], h1') r h := by
  obtain ⟨n1, e, h1⟩ := g_blk_ok noX12 jI_X12_sortOf tab_X12 6 n hr (c2 := (93, ρ, [(1, 101), (1, 114), (1, 97), (1, 104), (1, 115), (1, ρ 0)], L, g)) rfl
  obtain ⟨n2, c', e2, h2, h3⟩ := g_step_un noX12 (i := .invokestatic 184) (len := 3) (jI_X12_sortOf 93 _ rfl) (gnrS _) h1
  obtain ⟨r1, h1', hx, hc⟩ := g_static_un lk_X12 nat_all lX12_ok (idx := 184) (mode := 1) (mi := 193) (ci := 0) (na := 5) rfl (by decide) (by decide) mq_X12_w5 [(1, 115), (1, 104), (1, 97), (1, 114), (1, 101)] [(1, ρ 0)] rfl rfl h2
  subst hc
  exact ⟨n2, r1, h1', by omega, hx, h3⟩
theorem bk_X12_sortOf_96 {ax : zAx} {CE : g_E} {n : Nat} {ρ : Nat → Int} {s0 : Int} {s1 : Int} {L : List Nat} {g : Nat → Nat → Int} {r : Option g_V} {h : g_H} (hr : g_run RX12 ax CE cX12_sortOf n (96, ρ, [(2, s0), (1, s1)], L, g) r h) : ∃ n' r1 h1', n' < n ∧ CE yX12_isWord cX12_isWord [(0, s1), (1, s0)] (L, g) r1 h1' ∧ g_run RX12 ax CE cX12_sortOf n' (99, ρ, g_push r1 [], h1') r h := by
  obtain ⟨n1, e, h1⟩ := g_blk_ok noX12 jI_X12_sortOf tab_X12 0 n hr (c2 := (96, ρ, [(2, s0), (1, s1)], L, g)) rfl
  obtain ⟨n2, c', e2, h2, h3⟩ := g_step_un noX12 (i := .invokevirtual 236) (len := 3) (jI_X12_sortOf 96 _ rfl) (gnrV _) h1
  obtain ⟨r1, h1', hx, hc⟩ := g_virt_un lk_X12 nat_all lX12_ok (idx := 236) (mi := 132) (ci := 12) (na := 2) rfl (by decide) mq_X12_isWord [(2, s0)] [] s1 rfl rfl h2
  subst hc
  exact ⟨n2, r1, h1', by omega, hx, h3⟩
theorem bk_X12_sortOf_99 {ax : zAx} {CE : g_E} {n : Nat} {ρ : Nat → Int} {s0 : Int} {L : List Nat} {g : Nat → Nat → Int} {r : Option g_V} {h : g_H} (hr : g_run RX12 ax CE cX12_sortOf n (99, ρ, [(1, s0)], L, g) r h) : ∃ n', n' < n ∧ ((s0 = 0 ∧ g_run RX12 ax CE cX12_sortOf n' (104, ρ, [], L, g) r h) ∨ (¬ (s0 = 0) ∧ g_run RX12 ax CE cX12_sortOf n' (102, ρ, [], L, g) r h)) := by
  obtain ⟨n1, e, h1⟩ := g_blk_ok noX12 jI_X12_sortOf tab_X12 1 n hr (c2 := (if s0 = 0 then 104 else 102, ρ, [], L, g)) rfl
  refine ⟨n1, by omega, ?_⟩
  by_cases hc : s0 = 0
  · exact Or.inl ⟨hc, by rw [if_pos hc] at h1; exact h1⟩
  · exact Or.inr ⟨hc, by rw [if_neg hc] at h1; exact h1⟩
theorem bk_X12_sortOf_102 {ax : zAx} {CE : g_E} {n : Nat} {ρ : Nat → Int} {L : List Nat} {g : Nat → Nat → Int} {r : Option g_V} {h : g_H} (hr : g_run RX12 ax CE cX12_sortOf n (102, ρ, [], L, g) r h) : r = some (1, 4) ∧ h = (L, g) := by
  obtain ⟨n1, e, h1⟩ := g_blk_ok noX12 jI_X12_sortOf tab_X12 1 n hr (c2 := (103, ρ, [(1, 4)], L, g)) rfl
  exact g_ret_un noX12 (i := .ireturn) (jI_X12_sortOf 103 _ rfl) (by decide) h1
theorem bk_X12_sortOf_104 {ax : zAx} {CE : g_E} {n : Nat} {ρ : Nat → Int} {L : List Nat} {g : Nat → Nat → Int} {r : Option g_V} {h : g_H} (hr : g_run RX12 ax CE cX12_sortOf n (104, ρ, [], L, g) r h) : ∃ n' r1 h1', n' < n ∧ CE yX12_w5 cX12_w5 [(0, 102), (1, 105), (2, 101), (3, 108), (4, 100)] (L, g) r1 h1' ∧ g_run RX12 ax CE cX12_sortOf n' (118, ρ, g_push r1 [(1, ρ 0)], h1') r h := by
  obtain ⟨n1, e, h1⟩ := g_blk_ok noX12 jI_X12_sortOf tab_X12 6 n hr (c2 := (115, ρ, [(1, 100), (1, 108), (1, 101), (1, 105), (1, 102), (1, ρ 0)], L, g)) rfl
  obtain ⟨n2, c', e2, h2, h3⟩ := g_step_un noX12 (i := .invokestatic 184) (len := 3) (jI_X12_sortOf 115 _ rfl) (gnrS _) h1
  obtain ⟨r1, h1', hx, hc⟩ := g_static_un lk_X12 nat_all lX12_ok (idx := 184) (mode := 1) (mi := 193) (ci := 0) (na := 5) rfl (by decide) (by decide) mq_X12_w5 [(1, 102), (1, 105), (1, 101), (1, 108), (1, 100)] [(1, ρ 0)] rfl rfl h2
  subst hc
  exact ⟨n2, r1, h1', by omega, hx, h3⟩
theorem bk_X12_sortOf_118 {ax : zAx} {CE : g_E} {n : Nat} {ρ : Nat → Int} {s0 : Int} {s1 : Int} {L : List Nat} {g : Nat → Nat → Int} {r : Option g_V} {h : g_H} (hr : g_run RX12 ax CE cX12_sortOf n (118, ρ, [(2, s0), (1, s1)], L, g) r h) : ∃ n' r1 h1', n' < n ∧ CE yX12_isWord cX12_isWord [(0, s1), (1, s0)] (L, g) r1 h1' ∧ g_run RX12 ax CE cX12_sortOf n' (121, ρ, g_push r1 [], h1') r h := by
  obtain ⟨n1, e, h1⟩ := g_blk_ok noX12 jI_X12_sortOf tab_X12 0 n hr (c2 := (118, ρ, [(2, s0), (1, s1)], L, g)) rfl
  obtain ⟨n2, c', e2, h2, h3⟩ := g_step_un noX12 (i := .invokevirtual 236) (len := 3) (jI_X12_sortOf 118 _ rfl) (gnrV _) h1
  obtain ⟨r1, h1', hx, hc⟩ := g_virt_un lk_X12 nat_all lX12_ok (idx := 236) (mi := 132) (ci := 12) (na := 2) rfl (by decide) mq_X12_isWord [(2, s0)] [] s1 rfl rfl h2
  subst hc
  exact ⟨n2, r1, h1', by omega, hx, h3⟩
theorem bk_X12_sortOf_121 {ax : zAx} {CE : g_E} {n : Nat} {ρ : Nat → Int} {s0 : Int} {L : List Nat} {g : Nat → Nat → Int} {r : Option g_V} {h : g_H} (hr : g_run RX12 ax CE cX12_sortOf n (121, ρ, [(1, s0)], L, g) r h) : ∃ n', n' < n ∧ ((s0 = 0 ∧ g_run RX12 ax CE cX12_sortOf n' (126, ρ, [], L, g) r h) ∨ (¬ (s0 = 0) ∧ g_run RX12 ax CE cX12_sortOf n' (124, ρ, [], L, g) r h)) := by
  obtain ⟨n1, e, h1⟩ := g_blk_ok noX12 jI_X12_sortOf tab_X12 1 n hr (c2 := (if s0 = 0 then 126 else 124, ρ, [], L, g)) rfl
  refine ⟨n1, by omega, ?_⟩
  by_cases hc : s0 = 0
  · exact Or.inl ⟨hc, by rw [if_pos hc] at h1; exact h1⟩
  · exact Or.inr ⟨hc, by rw [if_neg hc] at h1; exact h1⟩
theorem bk_X12_sortOf_124 {ax : zAx} {CE : g_E} {n : Nat} {ρ : Nat → Int} {L : List Nat} {g : Nat → Nat → Int} {r : Option g_V} {h : g_H} (hr : g_run RX12 ax CE cX12_sortOf n (124, ρ, [], L, g) r h) : r = some (1, 5) ∧ h = (L, g) := by
  obtain ⟨n1, e, h1⟩ := g_blk_ok noX12 jI_X12_sortOf tab_X12 1 n hr (c2 := (125, ρ, [(1, 5)], L, g)) rfl
  exact g_ret_un noX12 (i := .ireturn) (jI_X12_sortOf 125 _ rfl) (by decide) h1
theorem bk_X12_sortOf_126 {ax : zAx} {CE : g_E} {n : Nat} {ρ : Nat → Int} {L : List Nat} {g : Nat → Nat → Int} {r : Option g_V} {h : g_H} (hr : g_run RX12 ax CE cX12_sortOf n (126, ρ, [], L, g) r h) : ∃ n' r1 h1', n' < n ∧ CE yX12_w4 cX12_w4 [(0, 114), (1, 111), (2, 97), (3, 100)] (L, g) r1 h1' ∧ g_run RX12 ax CE cX12_sortOf n' (138, ρ, g_push r1 [(1, ρ 0)], h1') r h := by
  obtain ⟨n1, e, h1⟩ := g_blk_ok noX12 jI_X12_sortOf tab_X12 5 n hr (c2 := (135, ρ, [(1, 100), (1, 97), (1, 111), (1, 114), (1, ρ 0)], L, g)) rfl
  obtain ⟨n2, c', e2, h2, h3⟩ := g_step_un noX12 (i := .invokestatic 180) (len := 3) (jI_X12_sortOf 135 _ rfl) (gnrS _) h1
  obtain ⟨r1, h1', hx, hc⟩ := g_static_un lk_X12 nat_all lX12_ok (idx := 180) (mode := 1) (mi := 192) (ci := 0) (na := 4) rfl (by decide) (by decide) mq_X12_w4 [(1, 114), (1, 111), (1, 97), (1, 100)] [(1, ρ 0)] rfl rfl h2
  subst hc
  exact ⟨n2, r1, h1', by omega, hx, h3⟩
theorem bk_X12_sortOf_138 {ax : zAx} {CE : g_E} {n : Nat} {ρ : Nat → Int} {s0 : Int} {s1 : Int} {L : List Nat} {g : Nat → Nat → Int} {r : Option g_V} {h : g_H} (hr : g_run RX12 ax CE cX12_sortOf n (138, ρ, [(2, s0), (1, s1)], L, g) r h) : ∃ n' r1 h1', n' < n ∧ CE yX12_isWord cX12_isWord [(0, s1), (1, s0)] (L, g) r1 h1' ∧ g_run RX12 ax CE cX12_sortOf n' (141, ρ, g_push r1 [], h1') r h := by
  obtain ⟨n1, e, h1⟩ := g_blk_ok noX12 jI_X12_sortOf tab_X12 0 n hr (c2 := (138, ρ, [(2, s0), (1, s1)], L, g)) rfl
  obtain ⟨n2, c', e2, h2, h3⟩ := g_step_un noX12 (i := .invokevirtual 236) (len := 3) (jI_X12_sortOf 138 _ rfl) (gnrV _) h1
  obtain ⟨r1, h1', hx, hc⟩ := g_virt_un lk_X12 nat_all lX12_ok (idx := 236) (mi := 132) (ci := 12) (na := 2) rfl (by decide) mq_X12_isWord [(2, s0)] [] s1 rfl rfl h2
  subst hc
  exact ⟨n2, r1, h1', by omega, hx, h3⟩
theorem bk_X12_sortOf_141 {ax : zAx} {CE : g_E} {n : Nat} {ρ : Nat → Int} {s0 : Int} {L : List Nat} {g : Nat → Nat → Int} {r : Option g_V} {h : g_H} (hr : g_run RX12 ax CE cX12_sortOf n (141, ρ, [(1, s0)], L, g) r h) : ∃ n', n' < n ∧ ((s0 = 0 ∧ g_run RX12 ax CE cX12_sortOf n' (147, ρ, [], L, g) r h) ∨ (¬ (s0 = 0) ∧ g_run RX12 ax CE cX12_sortOf n' (144, ρ, [], L, g) r h)) := by
  obtain ⟨n1, e, h1⟩ := g_blk_ok noX12 jI_X12_sortOf tab_X12 1 n hr (c2 := (if s0 = 0 then 147 else 144, ρ, [], L, g)) rfl
  refine ⟨n1, by omega, ?_⟩
  by_cases hc : s0 = 0
  · exact Or.inl ⟨hc, by rw [if_pos hc] at h1; exact h1⟩
  · exact Or.inr ⟨hc, by rw [if_neg hc] at h1; exact h1⟩
theorem bk_X12_sortOf_144 {ax : zAx} {CE : g_E} {n : Nat} {ρ : Nat → Int} {L : List Nat} {g : Nat → Nat → Int} {r : Option g_V} {h : g_H} (hr : g_run RX12 ax CE cX12_sortOf n (144, ρ, [], L, g) r h) : r = some (1, 6) ∧ h = (L, g) := by
  obtain ⟨n1, e, h1⟩ := g_blk_ok noX12 jI_X12_sortOf tab_X12 1 n hr (c2 := (146, ρ, [(1, 6)], L, g)) rfl
  exact g_ret_un noX12 (i := .ireturn) (jI_X12_sortOf 146 _ rfl) (by decide) h1
theorem bk_X12_sortOf_147 {ax : zAx} {CE : g_E} {n : Nat} {ρ : Nat → Int} {L : List Nat} {g : Nat → Nat → Int} {r : Option g_V} {h : g_H} (hr : g_run RX12 ax CE cX12_sortOf n (147, ρ, [], L, g) r h) : ∃ n' r1 h1', n' < n ∧ CE yX12_w3 cX12_w3 [(0, 111), (1, 110), (2, 101)] (L, g) r1 h1' ∧ g_run RX12 ax CE cX12_sortOf n' (157, ρ, g_push r1 [(1, ρ 0)], h1') r h := by
  obtain ⟨n1, e, h1⟩ := g_blk_ok noX12 jI_X12_sortOf tab_X12 4 n hr (c2 := (154, ρ, [(1, 101), (1, 110), (1, 111), (1, ρ 0)], L, g)) rfl
  obtain ⟨n2, c', e2, h2, h3⟩ := g_step_un noX12 (i := .invokestatic 176) (len := 3) (jI_X12_sortOf 154 _ rfl) (gnrS _) h1
  obtain ⟨r1, h1', hx, hc⟩ := g_static_un lk_X12 nat_all lX12_ok (idx := 176) (mode := 1) (mi := 191) (ci := 0) (na := 3) rfl (by decide) (by decide) mq_X12_w3 [(1, 111), (1, 110), (1, 101)] [(1, ρ 0)] rfl rfl h2
  subst hc
  exact ⟨n2, r1, h1', by omega, hx, h3⟩
theorem bk_X12_sortOf_157 {ax : zAx} {CE : g_E} {n : Nat} {ρ : Nat → Int} {s0 : Int} {s1 : Int} {L : List Nat} {g : Nat → Nat → Int} {r : Option g_V} {h : g_H} (hr : g_run RX12 ax CE cX12_sortOf n (157, ρ, [(2, s0), (1, s1)], L, g) r h) : ∃ n' r1 h1', n' < n ∧ CE yX12_isWord cX12_isWord [(0, s1), (1, s0)] (L, g) r1 h1' ∧ g_run RX12 ax CE cX12_sortOf n' (160, ρ, g_push r1 [], h1') r h := by
  obtain ⟨n1, e, h1⟩ := g_blk_ok noX12 jI_X12_sortOf tab_X12 0 n hr (c2 := (157, ρ, [(2, s0), (1, s1)], L, g)) rfl
  obtain ⟨n2, c', e2, h2, h3⟩ := g_step_un noX12 (i := .invokevirtual 236) (len := 3) (jI_X12_sortOf 157 _ rfl) (gnrV _) h1
  obtain ⟨r1, h1', hx, hc⟩ := g_virt_un lk_X12 nat_all lX12_ok (idx := 236) (mi := 132) (ci := 12) (na := 2) rfl (by decide) mq_X12_isWord [(2, s0)] [] s1 rfl rfl h2
  subst hc
  exact ⟨n2, r1, h1', by omega, hx, h3⟩
theorem bk_X12_sortOf_160 {ax : zAx} {CE : g_E} {n : Nat} {ρ : Nat → Int} {s0 : Int} {L : List Nat} {g : Nat → Nat → Int} {r : Option g_V} {h : g_H} (hr : g_run RX12 ax CE cX12_sortOf n (160, ρ, [(1, s0)], L, g) r h) : ∃ n', n' < n ∧ ((s0 = 0 ∧ g_run RX12 ax CE cX12_sortOf n' (166, ρ, [], L, g) r h) ∨ (¬ (s0 = 0) ∧ g_run RX12 ax CE cX12_sortOf n' (163, ρ, [], L, g) r h)) := by
  obtain ⟨n1, e, h1⟩ := g_blk_ok noX12 jI_X12_sortOf tab_X12 1 n hr (c2 := (if s0 = 0 then 166 else 163, ρ, [], L, g)) rfl
  refine ⟨n1, by omega, ?_⟩
  by_cases hc : s0 = 0
  · exact Or.inl ⟨hc, by rw [if_pos hc] at h1; exact h1⟩
  · exact Or.inr ⟨hc, by rw [if_neg hc] at h1; exact h1⟩
theorem bk_X12_sortOf_163 {ax : zAx} {CE : g_E} {n : Nat} {ρ : Nat → Int} {L : List Nat} {g : Nat → Nat → Int} {r : Option g_V} {h : g_H} (hr : g_run RX12 ax CE cX12_sortOf n (163, ρ, [], L, g) r h) : r = some (1, 7) ∧ h = (L, g) := by
  obtain ⟨n1, e, h1⟩ := g_blk_ok noX12 jI_X12_sortOf tab_X12 1 n hr (c2 := (165, ρ, [(1, 7)], L, g)) rfl
  exact g_ret_un noX12 (i := .ireturn) (jI_X12_sortOf 165 _ rfl) (by decide) h1
theorem bk_X12_sortOf_166 {ax : zAx} {CE : g_E} {n : Nat} {ρ : Nat → Int} {L : List Nat} {g : Nat → Nat → Int} {r : Option g_V} {h : g_H} (hr : g_run RX12 ax CE cX12_sortOf n (166, ρ, [], L, g) r h) : ∃ n' r1 h1', n' < n ∧ CE yX12_w4 cX12_w4 [(0, 119), (1, 111), (2, 114), (3, 107)] (L, g) r1 h1' ∧ g_run RX12 ax CE cX12_sortOf n' (178, ρ, g_push r1 [(1, ρ 0)], h1') r h := by
  obtain ⟨n1, e, h1⟩ := g_blk_ok noX12 jI_X12_sortOf tab_X12 5 n hr (c2 := (175, ρ, [(1, 107), (1, 114), (1, 111), (1, 119), (1, ρ 0)], L, g)) rfl
  obtain ⟨n2, c', e2, h2, h3⟩ := g_step_un noX12 (i := .invokestatic 180) (len := 3) (jI_X12_sortOf 175 _ rfl) (gnrS _) h1
  obtain ⟨r1, h1', hx, hc⟩ := g_static_un lk_X12 nat_all lX12_ok (idx := 180) (mode := 1) (mi := 192) (ci := 0) (na := 4) rfl (by decide) (by decide) mq_X12_w4 [(1, 119), (1, 111), (1, 114), (1, 107)] [(1, ρ 0)] rfl rfl h2
  subst hc
  exact ⟨n2, r1, h1', by omega, hx, h3⟩
theorem bk_X12_sortOf_178 {ax : zAx} {CE : g_E} {n : Nat} {ρ : Nat → Int} {s0 : Int} {s1 : Int} {L : List Nat} {g : Nat → Nat → Int} {r : Option g_V} {h : g_H} (hr : g_run RX12 ax CE cX12_sortOf n (178, ρ, [(2, s0), (1, s1)], L, g) r h) : ∃ n' r1 h1', n' < n ∧ CE yX12_isWord cX12_isWord [(0, s1), (1, s0)] (L, g) r1 h1' ∧ g_run RX12 ax CE cX12_sortOf n' (181, ρ, g_push r1 [], h1') r h := by
  obtain ⟨n1, e, h1⟩ := g_blk_ok noX12 jI_X12_sortOf tab_X12 0 n hr (c2 := (178, ρ, [(2, s0), (1, s1)], L, g)) rfl
  obtain ⟨n2, c', e2, h2, h3⟩ := g_step_un noX12 (i := .invokevirtual 236) (len := 3) (jI_X12_sortOf 178 _ rfl) (gnrV _) h1
  obtain ⟨r1, h1', hx, hc⟩ := g_virt_un lk_X12 nat_all lX12_ok (idx := 236) (mi := 132) (ci := 12) (na := 2) rfl (by decide) mq_X12_isWord [(2, s0)] [] s1 rfl rfl h2
  subst hc
  exact ⟨n2, r1, h1', by omega, hx, h3⟩
theorem bk_X12_sortOf_181 {ax : zAx} {CE : g_E} {n : Nat} {ρ : Nat → Int} {s0 : Int} {L : List Nat} {g : Nat → Nat → Int} {r : Option g_V} {h : g_H} (hr : g_run RX12 ax CE cX12_sortOf n (181, ρ, [(1, s0)], L, g) r h) : ∃ n', n' < n ∧ ((s0 = 0 ∧ g_run RX12 ax CE cX12_sortOf n' (187, ρ, [], L, g) r h) ∨ (¬ (s0 = 0) ∧ g_run RX12 ax CE cX12_sortOf n' (184, ρ, [], L, g) r h)) := by
  obtain ⟨n1, e, h1⟩ := g_blk_ok noX12 jI_X12_sortOf tab_X12 1 n hr (c2 := (if s0 = 0 then 187 else 184, ρ, [], L, g)) rfl
  refine ⟨n1, by omega, ?_⟩
  by_cases hc : s0 = 0
  · exact Or.inl ⟨hc, by rw [if_pos hc] at h1; exact h1⟩
  · exact Or.inr ⟨hc, by rw [if_neg hc] at h1; exact h1⟩
theorem bk_X12_sortOf_184 {ax : zAx} {CE : g_E} {n : Nat} {ρ : Nat → Int} {L : List Nat} {g : Nat → Nat → Int} {r : Option g_V} {h : g_H} (hr : g_run RX12 ax CE cX12_sortOf n (184, ρ, [], L, g) r h) : r = some (1, 8) ∧ h = (L, g) := by
  obtain ⟨n1, e, h1⟩ := g_blk_ok noX12 jI_X12_sortOf tab_X12 1 n hr (c2 := (186, ρ, [(1, 8)], L, g)) rfl
  exact g_ret_un noX12 (i := .ireturn) (jI_X12_sortOf 186 _ rfl) (by decide) h1
theorem bk_X12_sortOf_187 {ax : zAx} {CE : g_E} {n : Nat} {ρ : Nat → Int} {L : List Nat} {g : Nat → Nat → Int} {r : Option g_V} {h : g_H} (hr : g_run RX12 ax CE cX12_sortOf n (187, ρ, [], L, g) r h) : ∃ n' r1 h1', n' < n ∧ CE yX12_w2 cX12_w2 [(0, 103), (1, 111)] (L, g) r1 h1' ∧ g_run RX12 ax CE cX12_sortOf n' (195, ρ, g_push r1 [(1, ρ 0)], h1') r h := by
  obtain ⟨n1, e, h1⟩ := g_blk_ok noX12 jI_X12_sortOf tab_X12 3 n hr (c2 := (192, ρ, [(1, 111), (1, 103), (1, ρ 0)], L, g)) rfl
  obtain ⟨n2, c', e2, h2, h3⟩ := g_step_un noX12 (i := .invokestatic 172) (len := 3) (jI_X12_sortOf 192 _ rfl) (gnrS _) h1
  obtain ⟨r1, h1', hx, hc⟩ := g_static_un lk_X12 nat_all lX12_ok (idx := 172) (mode := 1) (mi := 190) (ci := 0) (na := 2) rfl (by decide) (by decide) mq_X12_w2 [(1, 103), (1, 111)] [(1, ρ 0)] rfl rfl h2
  subst hc
  exact ⟨n2, r1, h1', by omega, hx, h3⟩
theorem bk_X12_sortOf_195 {ax : zAx} {CE : g_E} {n : Nat} {ρ : Nat → Int} {s0 : Int} {s1 : Int} {L : List Nat} {g : Nat → Nat → Int} {r : Option g_V} {h : g_H} (hr : g_run RX12 ax CE cX12_sortOf n (195, ρ, [(2, s0), (1, s1)], L, g) r h) : ∃ n' r1 h1', n' < n ∧ CE yX12_isWord cX12_isWord [(0, s1), (1, s0)] (L, g) r1 h1' ∧ g_run RX12 ax CE cX12_sortOf n' (198, ρ, g_push r1 [], h1') r h := by
  obtain ⟨n1, e, h1⟩ := g_blk_ok noX12 jI_X12_sortOf tab_X12 0 n hr (c2 := (195, ρ, [(2, s0), (1, s1)], L, g)) rfl
  obtain ⟨n2, c', e2, h2, h3⟩ := g_step_un noX12 (i := .invokevirtual 236) (len := 3) (jI_X12_sortOf 195 _ rfl) (gnrV _) h1
  obtain ⟨r1, h1', hx, hc⟩ := g_virt_un lk_X12 nat_all lX12_ok (idx := 236) (mi := 132) (ci := 12) (na := 2) rfl (by decide) mq_X12_isWord [(2, s0)] [] s1 rfl rfl h2
  subst hc
  exact ⟨n2, r1, h1', by omega, hx, h3⟩
theorem bk_X12_sortOf_198 {ax : zAx} {CE : g_E} {n : Nat} {ρ : Nat → Int} {s0 : Int} {L : List Nat} {g : Nat → Nat → Int} {r : Option g_V} {h : g_H} (hr : g_run RX12 ax CE cX12_sortOf n (198, ρ, [(1, s0)], L, g) r h) : ∃ n', n' < n ∧ ((s0 = 0 ∧ g_run RX12 ax CE cX12_sortOf n' (204, ρ, [], L, g) r h) ∨ (¬ (s0 = 0) ∧ g_run RX12 ax CE cX12_sortOf n' (201, ρ, [], L, g) r h)) := by
  obtain ⟨n1, e, h1⟩ := g_blk_ok noX12 jI_X12_sortOf tab_X12 1 n hr (c2 := (if s0 = 0 then 204 else 201, ρ, [], L, g)) rfl
  refine ⟨n1, by omega, ?_⟩
  by_cases hc : s0 = 0
  · exact Or.inl ⟨hc, by rw [if_pos hc] at h1; exact h1⟩
  · exact Or.inr ⟨hc, by rw [if_neg hc] at h1; exact h1⟩
theorem bk_X12_sortOf_201 {ax : zAx} {CE : g_E} {n : Nat} {ρ : Nat → Int} {L : List Nat} {g : Nat → Nat → Int} {r : Option g_V} {h : g_H} (hr : g_run RX12 ax CE cX12_sortOf n (201, ρ, [], L, g) r h) : r = some (1, 9) ∧ h = (L, g) := by
  obtain ⟨n1, e, h1⟩ := g_blk_ok noX12 jI_X12_sortOf tab_X12 1 n hr (c2 := (203, ρ, [(1, 9)], L, g)) rfl
  exact g_ret_un noX12 (i := .ireturn) (jI_X12_sortOf 203 _ rfl) (by decide) h1
theorem bk_X12_sortOf_204 {ax : zAx} {CE : g_E} {n : Nat} {ρ : Nat → Int} {L : List Nat} {g : Nat → Nat → Int} {r : Option g_V} {h : g_H} (hr : g_run RX12 ax CE cX12_sortOf n (204, ρ, [], L, g) r h) : ∃ n' r1 h1', n' < n ∧ CE yX12_w5 cX12_w5 [(0, 115), (1, 104), (2, 97), (3, 107), (4, 101)] (L, g) r1 h1' ∧ g_run RX12 ax CE cX12_sortOf n' (218, ρ, g_push r1 [(1, ρ 0)], h1') r h := by
  obtain ⟨n1, e, h1⟩ := g_blk_ok noX12 jI_X12_sortOf tab_X12 6 n hr (c2 := (215, ρ, [(1, 101), (1, 107), (1, 97), (1, 104), (1, 115), (1, ρ 0)], L, g)) rfl
  obtain ⟨n2, c', e2, h2, h3⟩ := g_step_un noX12 (i := .invokestatic 184) (len := 3) (jI_X12_sortOf 215 _ rfl) (gnrS _) h1
  obtain ⟨r1, h1', hx, hc⟩ := g_static_un lk_X12 nat_all lX12_ok (idx := 184) (mode := 1) (mi := 193) (ci := 0) (na := 5) rfl (by decide) (by decide) mq_X12_w5 [(1, 115), (1, 104), (1, 97), (1, 107), (1, 101)] [(1, ρ 0)] rfl rfl h2
  subst hc
  exact ⟨n2, r1, h1', by omega, hx, h3⟩
theorem bk_X12_sortOf_218 {ax : zAx} {CE : g_E} {n : Nat} {ρ : Nat → Int} {s0 : Int} {s1 : Int} {L : List Nat} {g : Nat → Nat → Int} {r : Option g_V} {h : g_H} (hr : g_run RX12 ax CE cX12_sortOf n (218, ρ, [(2, s0), (1, s1)], L, g) r h) : ∃ n' r1 h1', n' < n ∧ CE yX12_isWord cX12_isWord [(0, s1), (1, s0)] (L, g) r1 h1' ∧ g_run RX12 ax CE cX12_sortOf n' (221, ρ, g_push r1 [], h1') r h := by
  obtain ⟨n1, e, h1⟩ := g_blk_ok noX12 jI_X12_sortOf tab_X12 0 n hr (c2 := (218, ρ, [(2, s0), (1, s1)], L, g)) rfl
  obtain ⟨n2, c', e2, h2, h3⟩ := g_step_un noX12 (i := .invokevirtual 236) (len := 3) (jI_X12_sortOf 218 _ rfl) (gnrV _) h1
  obtain ⟨r1, h1', hx, hc⟩ := g_virt_un lk_X12 nat_all lX12_ok (idx := 236) (mi := 132) (ci := 12) (na := 2) rfl (by decide) mq_X12_isWord [(2, s0)] [] s1 rfl rfl h2
  subst hc
  exact ⟨n2, r1, h1', by omega, hx, h3⟩
theorem bk_X12_sortOf_221 {ax : zAx} {CE : g_E} {n : Nat} {ρ : Nat → Int} {s0 : Int} {L : List Nat} {g : Nat → Nat → Int} {r : Option g_V} {h : g_H} (hr : g_run RX12 ax CE cX12_sortOf n (221, ρ, [(1, s0)], L, g) r h) : ∃ n', n' < n ∧ ((s0 = 0 ∧ g_run RX12 ax CE cX12_sortOf n' (227, ρ, [], L, g) r h) ∨ (¬ (s0 = 0) ∧ g_run RX12 ax CE cX12_sortOf n' (224, ρ, [], L, g) r h)) := by
  obtain ⟨n1, e, h1⟩ := g_blk_ok noX12 jI_X12_sortOf tab_X12 1 n hr (c2 := (if s0 = 0 then 227 else 224, ρ, [], L, g)) rfl
  refine ⟨n1, by omega, ?_⟩
  by_cases hc : s0 = 0
  · exact Or.inl ⟨hc, by rw [if_pos hc] at h1; exact h1⟩
  · exact Or.inr ⟨hc, by rw [if_neg hc] at h1; exact h1⟩
theorem bk_X12_sortOf_224 {ax : zAx} {CE : g_E} {n : Nat} {ρ : Nat → Int} {L : List Nat} {g : Nat → Nat → Int} {r : Option g_V} {h : g_H} (hr : g_run RX12 ax CE cX12_sortOf n (224, ρ, [], L, g) r h) : r = some (1, 10) ∧ h = (L, g) := by
  obtain ⟨n1, e, h1⟩ := g_blk_ok noX12 jI_X12_sortOf tab_X12 1 n hr (c2 := (226, ρ, [(1, 10)], L, g)) rfl
  exact g_ret_un noX12 (i := .ireturn) (jI_X12_sortOf 226 _ rfl) (by decide) h1
theorem bk_X12_sortOf_227 {ax : zAx} {CE : g_E} {n : Nat} {ρ : Nat → Int} {L : List Nat} {g : Nat → Nat → Int} {r : Option g_V} {h : g_H} (hr : g_run RX12 ax CE cX12_sortOf n (227, ρ, [], L, g) r h) : ∃ n' r1 h1', n' < n ∧ CE yX12_w5 cX12_w5 [(0, 115), (1, 116), (2, 101), (3, 97), (4, 108)] (L, g) r1 h1' ∧ g_run RX12 ax CE cX12_sortOf n' (241, ρ, g_push r1 [(1, ρ 0)], h1') r h := by
  obtain ⟨n1, e, h1⟩ := g_blk_ok noX12 jI_X12_sortOf tab_X12 6 n hr (c2 := (238, ρ, [(1, 108), (1, 97), (1, 101), (1, 116), (1, 115), (1, ρ 0)], L, g)) rfl
  obtain ⟨n2, c', e2, h2, h3⟩ := g_step_un noX12 (i := .invokestatic 184) (len := 3) (jI_X12_sortOf 238 _ rfl) (gnrS _) h1
  obtain ⟨r1, h1', hx, hc⟩ := g_static_un lk_X12 nat_all lX12_ok (idx := 184) (mode := 1) (mi := 193) (ci := 0) (na := 5) rfl (by decide) (by decide) mq_X12_w5 [(1, 115), (1, 116), (1, 101), (1, 97), (1, 108)] [(1, ρ 0)] rfl rfl h2
  subst hc
  exact ⟨n2, r1, h1', by omega, hx, h3⟩
theorem bk_X12_sortOf_241 {ax : zAx} {CE : g_E} {n : Nat} {ρ : Nat → Int} {s0 : Int} {s1 : Int} {L : List Nat} {g : Nat → Nat → Int} {r : Option g_V} {h : g_H} (hr : g_run RX12 ax CE cX12_sortOf n (241, ρ, [(2, s0), (1, s1)], L, g) r h) : ∃ n' r1 h1', n' < n ∧ CE yX12_isWord cX12_isWord [(0, s1), (1, s0)] (L, g) r1 h1' ∧ g_run RX12 ax CE cX12_sortOf n' (244, ρ, g_push r1 [], h1') r h := by
  obtain ⟨n1, e, h1⟩ := g_blk_ok noX12 jI_X12_sortOf tab_X12 0 n hr (c2 := (241, ρ, [(2, s0), (1, s1)], L, g)) rfl
  obtain ⟨n2, c', e2, h2, h3⟩ := g_step_un noX12 (i := .invokevirtual 236) (len := 3) (jI_X12_sortOf 241 _ rfl) (gnrV _) h1
  obtain ⟨r1, h1', hx, hc⟩ := g_virt_un lk_X12 nat_all lX12_ok (idx := 236) (mi := 132) (ci := 12) (na := 2) rfl (by decide) mq_X12_isWord [(2, s0)] [] s1 rfl rfl h2
  subst hc
  exact ⟨n2, r1, h1', by omega, hx, h3⟩
theorem bk_X12_sortOf_244 {ax : zAx} {CE : g_E} {n : Nat} {ρ : Nat → Int} {s0 : Int} {L : List Nat} {g : Nat → Nat → Int} {r : Option g_V} {h : g_H} (hr : g_run RX12 ax CE cX12_sortOf n (244, ρ, [(1, s0)], L, g) r h) : ∃ n', n' < n ∧ ((s0 = 0 ∧ g_run RX12 ax CE cX12_sortOf n' (250, ρ, [], L, g) r h) ∨ (¬ (s0 = 0) ∧ g_run RX12 ax CE cX12_sortOf n' (247, ρ, [], L, g) r h)) := by
  obtain ⟨n1, e, h1⟩ := g_blk_ok noX12 jI_X12_sortOf tab_X12 1 n hr (c2 := (if s0 = 0 then 250 else 247, ρ, [], L, g)) rfl
  refine ⟨n1, by omega, ?_⟩
  by_cases hc : s0 = 0
  · exact Or.inl ⟨hc, by rw [if_pos hc] at h1; exact h1⟩
  · exact Or.inr ⟨hc, by rw [if_neg hc] at h1; exact h1⟩
theorem bk_X12_sortOf_247 {ax : zAx} {CE : g_E} {n : Nat} {ρ : Nat → Int} {L : List Nat} {g : Nat → Nat → Int} {r : Option g_V} {h : g_H} (hr : g_run RX12 ax CE cX12_sortOf n (247, ρ, [], L, g) r h) : r = some (1, 11) ∧ h = (L, g) := by
  obtain ⟨n1, e, h1⟩ := g_blk_ok noX12 jI_X12_sortOf tab_X12 1 n hr (c2 := (249, ρ, [(1, 11)], L, g)) rfl
  exact g_ret_un noX12 (i := .ireturn) (jI_X12_sortOf 249 _ rfl) (by decide) h1
theorem bk_X12_sortOf_250 {ax : zAx} {CE : g_E} {n : Nat} {ρ : Nat → Int} {L : List Nat} {g : Nat → Nat → Int} {r : Option g_V} {h : g_H} (hr : g_run RX12 ax CE cX12_sortOf n (250, ρ, [], L, g) r h) : ∃ n' r1 h1', n' < n ∧ CE yX12_w4 cX12_w4 [(0, 112), (1, 111), (2, 117), (3, 114)] (L, g) r1 h1' ∧ g_run RX12 ax CE cX12_sortOf n' (262, ρ, g_push r1 [(1, ρ 0)], h1') r h := by
  obtain ⟨n1, e, h1⟩ := g_blk_ok noX12 jI_X12_sortOf tab_X12 5 n hr (c2 := (259, ρ, [(1, 114), (1, 117), (1, 111), (1, 112), (1, ρ 0)], L, g)) rfl
  obtain ⟨n2, c', e2, h2, h3⟩ := g_step_un noX12 (i := .invokestatic 180) (len := 3) (jI_X12_sortOf 259 _ rfl) (gnrS _) h1
  obtain ⟨r1, h1', hx, hc⟩ := g_static_un lk_X12 nat_all lX12_ok (idx := 180) (mode := 1) (mi := 192) (ci := 0) (na := 4) rfl (by decide) (by decide) mq_X12_w4 [(1, 112), (1, 111), (1, 117), (1, 114)] [(1, ρ 0)] rfl rfl h2
  subst hc
  exact ⟨n2, r1, h1', by omega, hx, h3⟩
theorem bk_X12_sortOf_262 {ax : zAx} {CE : g_E} {n : Nat} {ρ : Nat → Int} {s0 : Int} {s1 : Int} {L : List Nat} {g : Nat → Nat → Int} {r : Option g_V} {h : g_H} (hr : g_run RX12 ax CE cX12_sortOf n (262, ρ, [(2, s0), (1, s1)], L, g) r h) : ∃ n' r1 h1', n' < n ∧ CE yX12_isWord cX12_isWord [(0, s1), (1, s0)] (L, g) r1 h1' ∧ g_run RX12 ax CE cX12_sortOf n' (265, ρ, g_push r1 [], h1') r h := by
  obtain ⟨n1, e, h1⟩ := g_blk_ok noX12 jI_X12_sortOf tab_X12 0 n hr (c2 := (262, ρ, [(2, s0), (1, s1)], L, g)) rfl
  obtain ⟨n2, c', e2, h2, h3⟩ := g_step_un noX12 (i := .invokevirtual 236) (len := 3) (jI_X12_sortOf 262 _ rfl) (gnrV _) h1
  obtain ⟨r1, h1', hx, hc⟩ := g_virt_un lk_X12 nat_all lX12_ok (idx := 236) (mi := 132) (ci := 12) (na := 2) rfl (by decide) mq_X12_isWord [(2, s0)] [] s1 rfl rfl h2
  subst hc
  exact ⟨n2, r1, h1', by omega, hx, h3⟩
theorem bk_X12_sortOf_265 {ax : zAx} {CE : g_E} {n : Nat} {ρ : Nat → Int} {s0 : Int} {L : List Nat} {g : Nat → Nat → Int} {r : Option g_V} {h : g_H} (hr : g_run RX12 ax CE cX12_sortOf n (265, ρ, [(1, s0)], L, g) r h) : ∃ n', n' < n ∧ ((s0 = 0 ∧ g_run RX12 ax CE cX12_sortOf n' (273, ρ, [], L, g) r h) ∨ (¬ (s0 = 0) ∧ g_run RX12 ax CE cX12_sortOf n' (268, ρ, [], L, g) r h)) := by
  obtain ⟨n1, e, h1⟩ := g_blk_ok noX12 jI_X12_sortOf tab_X12 1 n hr (c2 := (if s0 = 0 then 273 else 268, ρ, [], L, g)) rfl
  refine ⟨n1, by omega, ?_⟩
  by_cases hc : s0 = 0
  · exact Or.inl ⟨hc, by rw [if_pos hc] at h1; exact h1⟩
  · exact Or.inr ⟨hc, by rw [if_neg hc] at h1; exact h1⟩
theorem bk_X12_sortOf_268 {ax : zAx} {CE : g_E} {n : Nat} {ρ : Nat → Int} {L : List Nat} {g : Nat → Nat → Int} {r : Option g_V} {h : g_H} (hr : g_run RX12 ax CE cX12_sortOf n (268, ρ, [], L, g) r h) : ∃ n', n' < n ∧ g_run RX12 ax CE cX12_sortOf n' (297, ρ, [(1, 12)], L, g) r h := by
  obtain ⟨n1, e, h1⟩ := g_blk_ok noX12 jI_X12_sortOf tab_X12 2 n hr (c2 := (297, ρ, [(1, 12)], L, g)) rfl
  exact ⟨n1, by omega, h1⟩
theorem bk_X12_sortOf_273 {ax : zAx} {CE : g_E} {n : Nat} {ρ : Nat → Int} {L : List Nat} {g : Nat → Nat → Int} {r : Option g_V} {h : g_H} (hr : g_run RX12 ax CE cX12_sortOf n (273, ρ, [], L, g) r h) : ∃ n' r1 h1', n' < n ∧ CE yX12_w4 cX12_w4 [(0, 104), (1, 111), (2, 117), (3, 114)] (L, g) r1 h1' ∧ g_run RX12 ax CE cX12_sortOf n' (285, ρ, g_push r1 [(1, ρ 0)], h1') r h := by
  obtain ⟨n1, e, h1⟩ := g_blk_ok noX12 jI_X12_sortOf tab_X12 5 n hr (c2 := (282, ρ, [(1, 114), (1, 117), (1, 111), (1, 104), (1, ρ 0)], L, g)) rfl
  obtain ⟨n2, c', e2, h2, h3⟩ := g_step_un noX12 (i := .invokestatic 180) (len := 3) (jI_X12_sortOf 282 _ rfl) (gnrS _) h1
  obtain ⟨r1, h1', hx, hc⟩ := g_static_un lk_X12 nat_all lX12_ok (idx := 180) (mode := 1) (mi := 192) (ci := 0) (na := 4) rfl (by decide) (by decide) mq_X12_w4 [(1, 104), (1, 111), (1, 117), (1, 114)] [(1, ρ 0)] rfl rfl h2
  subst hc
  exact ⟨n2, r1, h1', by omega, hx, h3⟩
theorem bk_X12_sortOf_285 {ax : zAx} {CE : g_E} {n : Nat} {ρ : Nat → Int} {s0 : Int} {s1 : Int} {L : List Nat} {g : Nat → Nat → Int} {r : Option g_V} {h : g_H} (hr : g_run RX12 ax CE cX12_sortOf n (285, ρ, [(2, s0), (1, s1)], L, g) r h) : ∃ n' r1 h1', n' < n ∧ CE yX12_isWord cX12_isWord [(0, s1), (1, s0)] (L, g) r1 h1' ∧ g_run RX12 ax CE cX12_sortOf n' (288, ρ, g_push r1 [], h1') r h := by
  obtain ⟨n1, e, h1⟩ := g_blk_ok noX12 jI_X12_sortOf tab_X12 0 n hr (c2 := (285, ρ, [(2, s0), (1, s1)], L, g)) rfl
  obtain ⟨n2, c', e2, h2, h3⟩ := g_step_un noX12 (i := .invokevirtual 236) (len := 3) (jI_X12_sortOf 285 _ rfl) (gnrV _) h1
  obtain ⟨r1, h1', hx, hc⟩ := g_virt_un lk_X12 nat_all lX12_ok (idx := 236) (mi := 132) (ci := 12) (na := 2) rfl (by decide) mq_X12_isWord [(2, s0)] [] s1 rfl rfl h2
  subst hc
  exact ⟨n2, r1, h1', by omega, hx, h3⟩
theorem bk_X12_sortOf_288 {ax : zAx} {CE : g_E} {n : Nat} {ρ : Nat → Int} {s0 : Int} {L : List Nat} {g : Nat → Nat → Int} {r : Option g_V} {h : g_H} (hr : g_run RX12 ax CE cX12_sortOf n (288, ρ, [(1, s0)], L, g) r h) : ∃ n', n' < n ∧ ((s0 = 0 ∧ g_run RX12 ax CE cX12_sortOf n' (296, ρ, [], L, g) r h) ∨ (¬ (s0 = 0) ∧ g_run RX12 ax CE cX12_sortOf n' (291, ρ, [], L, g) r h)) := by
  obtain ⟨n1, e, h1⟩ := g_blk_ok noX12 jI_X12_sortOf tab_X12 1 n hr (c2 := (if s0 = 0 then 296 else 291, ρ, [], L, g)) rfl
  refine ⟨n1, by omega, ?_⟩
  by_cases hc : s0 = 0
  · exact Or.inl ⟨hc, by rw [if_pos hc] at h1; exact h1⟩
  · exact Or.inr ⟨hc, by rw [if_neg hc] at h1; exact h1⟩
theorem bk_X12_sortOf_291 {ax : zAx} {CE : g_E} {n : Nat} {ρ : Nat → Int} {L : List Nat} {g : Nat → Nat → Int} {r : Option g_V} {h : g_H} (hr : g_run RX12 ax CE cX12_sortOf n (291, ρ, [], L, g) r h) : ∃ n', n' < n ∧ g_run RX12 ax CE cX12_sortOf n' (297, ρ, [(1, 13)], L, g) r h := by
  obtain ⟨n1, e, h1⟩ := g_blk_ok noX12 jI_X12_sortOf tab_X12 2 n hr (c2 := (297, ρ, [(1, 13)], L, g)) rfl
  exact ⟨n1, by omega, h1⟩
theorem bk_X12_sortOf_296 {ax : zAx} {CE : g_E} {n : Nat} {ρ : Nat → Int} {L : List Nat} {g : Nat → Nat → Int} {r : Option g_V} {h : g_H} (hr : g_run RX12 ax CE cX12_sortOf n (296, ρ, [], L, g) r h) : ∃ n', n' < n ∧ g_run RX12 ax CE cX12_sortOf n' (297, ρ, [(1, (-1))], L, g) r h := by
  obtain ⟨n1, e, h1⟩ := g_blk_ok noX12 jI_X12_sortOf tab_X12 1 n hr (c2 := (297, ρ, [(1, (-1))], L, g)) rfl
  exact ⟨n1, by omega, h1⟩
theorem bk_X12_sortOf_297 {ax : zAx} {CE : g_E} {n : Nat} {ρ : Nat → Int} {s0 : Int} {L : List Nat} {g : Nat → Nat → Int} {r : Option g_V} {h : g_H} (hr : g_run RX12 ax CE cX12_sortOf n (297, ρ, [(1, s0)], L, g) r h) : r = some (1, s0) ∧ h = (L, g) := by
  obtain ⟨n1, e, h1⟩ := g_blk_ok noX12 jI_X12_sortOf tab_X12 0 n hr (c2 := (297, ρ, [(1, s0)], L, g)) rfl
  exact g_ret_un noX12 (i := .ireturn) (jI_X12_sortOf 297 _ rfl) (by decide) h1
def F_X12_sortOf (x0 : Int) (g : Nat → Nat → Int) : Int := if F_X12_isWord x0 (F_X12_w5 115 119 101 97 116 g) g = 0 then if F_X12_isWord x0 (F_X12_w4 114 97 105 110 g) g = 0 then if F_X12_isWord x0 (F_X12_w3 116 97 120 g) g = 0 then if F_X12_isWord x0 (F_X12_w5 100 114 105 101 115 g) g = 0 then if F_X12_isWord x0 (F_X12_w5 115 104 97 114 101 g) g = 0 then if F_X12_isWord x0 (F_X12_w5 102 105 101 108 100 g) g = 0 then if F_X12_isWord x0 (F_X12_w4 114 111 97 100 g) g = 0 then if F_X12_isWord x0 (F_X12_w3 111 110 101 g) g = 0 then if F_X12_isWord x0 (F_X12_w4 119 111 114 107 g) g = 0 then if F_X12_isWord x0 (F_X12_w2 103 111 g) g = 0 then if F_X12_isWord x0 (F_X12_w5 115 104 97 107 101 g) g = 0 then if F_X12_isWord x0 (F_X12_w5 115 116 101 97 108 g) g = 0 then if F_X12_isWord x0 (F_X12_w4 112 111 117 114 g) g = 0 then if F_X12_isWord x0 (F_X12_w4 104 111 117 114 g) g = 0 then (-1) else 13 else 12 else 11 else 10 else 9 else 8 else 7 else 6 else 5 else 4 else 3 else 2 else 1 else 0
theorem f_X12_sortOf {ax : zAx} {x0 : Int} {L : List Nat} {g : Nat → Nat → Int} {r : Option g_V} {h : g_H} (hx : g_ex ax yX12_sortOf cX12_sortOf [(0, x0)] (L, g) r h) : r = some (1, F_X12_sortOf x0 g) ∧ h = (L, g) := by
  obtain ⟨ρ, n0, hρ, h0⟩ := g_run_of hx
  obtain rfl : ρ 0 = x0 := hρ (0, x0) (by simp)
  obtain ⟨n1, r1, k1, l1, x1, h1⟩ := bk_X12_sortOf_0 h0
  obtain ⟨e1, d1⟩ := f_X12_w5 x1
  subst e1
  subst d1
  obtain ⟨n2, r2, k2, l2, x2, h2⟩ := bk_X12_sortOf_14 h1
  obtain ⟨e2, d2⟩ := f_X12_isWord x2
  subst e2
  subst d2
  obtain ⟨n3, l3, h3⟩ := bk_X12_sortOf_17 h2
  rcases h3 with ⟨c3, h3⟩ | ⟨c3, h3⟩
  · obtain ⟨n4, r4, k4, l4, x4, h4⟩ := bk_X12_sortOf_22 h3
    obtain ⟨e4, d4⟩ := f_X12_w4 x4
    subst e4
    subst d4
    obtain ⟨n5, r5, k5, l5, x5, h5⟩ := bk_X12_sortOf_34 h4
    obtain ⟨e5, d5⟩ := f_X12_isWord x5
    subst e5
    subst d5
    obtain ⟨n6, l6, h6⟩ := bk_X12_sortOf_37 h5
    rcases h6 with ⟨c6, h6⟩ | ⟨c6, h6⟩
    · obtain ⟨n7, r7, k7, l7, x7, h7⟩ := bk_X12_sortOf_42 h6
      obtain ⟨e7, d7⟩ := f_X12_w3 x7
      subst e7
      subst d7
      obtain ⟨n8, r8, k8, l8, x8, h8⟩ := bk_X12_sortOf_52 h7
      obtain ⟨e8, d8⟩ := f_X12_isWord x8
      subst e8
      subst d8
      obtain ⟨n9, l9, h9⟩ := bk_X12_sortOf_55 h8
      rcases h9 with ⟨c9, h9⟩ | ⟨c9, h9⟩
      · obtain ⟨n10, r10, k10, l10, x10, h10⟩ := bk_X12_sortOf_60 h9
        obtain ⟨e10, d10⟩ := f_X12_w5 x10
        subst e10
        subst d10
        obtain ⟨n11, r11, k11, l11, x11, h11⟩ := bk_X12_sortOf_74 h10
        obtain ⟨e11, d11⟩ := f_X12_isWord x11
        subst e11
        subst d11
        obtain ⟨n12, l12, h12⟩ := bk_X12_sortOf_77 h11
        rcases h12 with ⟨c12, h12⟩ | ⟨c12, h12⟩
        · obtain ⟨n13, r13, k13, l13, x13, h13⟩ := bk_X12_sortOf_82 h12
          obtain ⟨e13, d13⟩ := f_X12_w5 x13
          subst e13
          subst d13
          obtain ⟨n14, r14, k14, l14, x14, h14⟩ := bk_X12_sortOf_96 h13
          obtain ⟨e14, d14⟩ := f_X12_isWord x14
          subst e14
          subst d14
          obtain ⟨n15, l15, h15⟩ := bk_X12_sortOf_99 h14
          rcases h15 with ⟨c15, h15⟩ | ⟨c15, h15⟩
          · obtain ⟨n16, r16, k16, l16, x16, h16⟩ := bk_X12_sortOf_104 h15
            obtain ⟨e16, d16⟩ := f_X12_w5 x16
            subst e16
            subst d16
            obtain ⟨n17, r17, k17, l17, x17, h17⟩ := bk_X12_sortOf_118 h16
            obtain ⟨e17, d17⟩ := f_X12_isWord x17
            subst e17
            subst d17
            obtain ⟨n18, l18, h18⟩ := bk_X12_sortOf_121 h17
            rcases h18 with ⟨c18, h18⟩ | ⟨c18, h18⟩
            · obtain ⟨n19, r19, k19, l19, x19, h19⟩ := bk_X12_sortOf_126 h18
              obtain ⟨e19, d19⟩ := f_X12_w4 x19
              subst e19
              subst d19
              obtain ⟨n20, r20, k20, l20, x20, h20⟩ := bk_X12_sortOf_138 h19
              obtain ⟨e20, d20⟩ := f_X12_isWord x20
              subst e20
              subst d20
              obtain ⟨n21, l21, h21⟩ := bk_X12_sortOf_141 h20
              rcases h21 with ⟨c21, h21⟩ | ⟨c21, h21⟩
              · obtain ⟨n22, r22, k22, l22, x22, h22⟩ := bk_X12_sortOf_147 h21
                obtain ⟨e22, d22⟩ := f_X12_w3 x22
                subst e22
                subst d22
                obtain ⟨n23, r23, k23, l23, x23, h23⟩ := bk_X12_sortOf_157 h22
                obtain ⟨e23, d23⟩ := f_X12_isWord x23
                subst e23
                subst d23
                obtain ⟨n24, l24, h24⟩ := bk_X12_sortOf_160 h23
                rcases h24 with ⟨c24, h24⟩ | ⟨c24, h24⟩
                · obtain ⟨n25, r25, k25, l25, x25, h25⟩ := bk_X12_sortOf_166 h24
                  obtain ⟨e25, d25⟩ := f_X12_w4 x25
                  subst e25
                  subst d25
                  obtain ⟨n26, r26, k26, l26, x26, h26⟩ := bk_X12_sortOf_178 h25
                  obtain ⟨e26, d26⟩ := f_X12_isWord x26
                  subst e26
                  subst d26
                  obtain ⟨n27, l27, h27⟩ := bk_X12_sortOf_181 h26
                  rcases h27 with ⟨c27, h27⟩ | ⟨c27, h27⟩
                  · obtain ⟨n28, r28, k28, l28, x28, h28⟩ := bk_X12_sortOf_187 h27
                    obtain ⟨e28, d28⟩ := f_X12_w2 x28
                    subst e28
                    subst d28
                    obtain ⟨n29, r29, k29, l29, x29, h29⟩ := bk_X12_sortOf_195 h28
                    obtain ⟨e29, d29⟩ := f_X12_isWord x29
                    subst e29
                    subst d29
                    obtain ⟨n30, l30, h30⟩ := bk_X12_sortOf_198 h29
                    rcases h30 with ⟨c30, h30⟩ | ⟨c30, h30⟩
                    · obtain ⟨n31, r31, k31, l31, x31, h31⟩ := bk_X12_sortOf_204 h30
                      obtain ⟨e31, d31⟩ := f_X12_w5 x31
                      subst e31
                      subst d31
                      obtain ⟨n32, r32, k32, l32, x32, h32⟩ := bk_X12_sortOf_218 h31
                      obtain ⟨e32, d32⟩ := f_X12_isWord x32
                      subst e32
                      subst d32
                      obtain ⟨n33, l33, h33⟩ := bk_X12_sortOf_221 h32
                      rcases h33 with ⟨c33, h33⟩ | ⟨c33, h33⟩
                      · obtain ⟨n34, r34, k34, l34, x34, h34⟩ := bk_X12_sortOf_227 h33
                        obtain ⟨e34, d34⟩ := f_X12_w5 x34
                        subst e34
                        subst d34
                        obtain ⟨n35, r35, k35, l35, x35, h35⟩ := bk_X12_sortOf_241 h34
                        obtain ⟨e35, d35⟩ := f_X12_isWord x35
                        subst e35
                        subst d35
                        obtain ⟨n36, l36, h36⟩ := bk_X12_sortOf_244 h35
                        rcases h36 with ⟨c36, h36⟩ | ⟨c36, h36⟩
                        · obtain ⟨n37, r37, k37, l37, x37, h37⟩ := bk_X12_sortOf_250 h36
                          obtain ⟨e37, d37⟩ := f_X12_w4 x37
                          subst e37
                          subst d37
                          obtain ⟨n38, r38, k38, l38, x38, h38⟩ := bk_X12_sortOf_262 h37
                          obtain ⟨e38, d38⟩ := f_X12_isWord x38
                          subst e38
                          subst d38
                          obtain ⟨n39, l39, h39⟩ := bk_X12_sortOf_265 h38
                          rcases h39 with ⟨c39, h39⟩ | ⟨c39, h39⟩
                          · obtain ⟨n40, r40, k40, l40, x40, h40⟩ := bk_X12_sortOf_273 h39
                            obtain ⟨e40, d40⟩ := f_X12_w4 x40
                            subst e40
                            subst d40
                            obtain ⟨n41, r41, k41, l41, x41, h41⟩ := bk_X12_sortOf_285 h40
                            obtain ⟨e41, d41⟩ := f_X12_isWord x41
                            subst e41
                            subst d41
                            obtain ⟨n42, l42, h42⟩ := bk_X12_sortOf_288 h41
                            rcases h42 with ⟨c42, h42⟩ | ⟨c42, h42⟩
                            · obtain ⟨n43, l43, h43⟩ := bk_X12_sortOf_296 h42
                              obtain ⟨e44, d44⟩ := bk_X12_sortOf_297 h43
                              unfold F_X12_sortOf
                              rw [if_pos c3, if_pos c6, if_pos c9, if_pos c12, if_pos c15, if_pos c18, if_pos c21, if_pos c24, if_pos c27, if_pos c30, if_pos c33, if_pos c36, if_pos c39, if_pos c42]
                              exact ⟨e44, d44⟩
                            · obtain ⟨n45, l45, h45⟩ := bk_X12_sortOf_291 h42
                              obtain ⟨e46, d46⟩ := bk_X12_sortOf_297 h45
                              unfold F_X12_sortOf
                              rw [if_pos c3, if_pos c6, if_pos c9, if_pos c12, if_pos c15, if_pos c18, if_pos c21, if_pos c24, if_pos c27, if_pos c30, if_pos c33, if_pos c36, if_pos c39, if_neg c42]
                              exact ⟨e46, d46⟩
                          · obtain ⟨n47, l47, h47⟩ := bk_X12_sortOf_268 h39
                            obtain ⟨e48, d48⟩ := bk_X12_sortOf_297 h47
                            unfold F_X12_sortOf
                            rw [if_pos c3, if_pos c6, if_pos c9, if_pos c12, if_pos c15, if_pos c18, if_pos c21, if_pos c24, if_pos c27, if_pos c30, if_pos c33, if_pos c36, if_neg c39]
                            exact ⟨e48, d48⟩
                        · obtain ⟨e49, d49⟩ := bk_X12_sortOf_247 h36
                          unfold F_X12_sortOf
                          rw [if_pos c3, if_pos c6, if_pos c9, if_pos c12, if_pos c15, if_pos c18, if_pos c21, if_pos c24, if_pos c27, if_pos c30, if_pos c33, if_neg c36]
                          exact ⟨e49, d49⟩
                      · obtain ⟨e50, d50⟩ := bk_X12_sortOf_224 h33
                        unfold F_X12_sortOf
                        rw [if_pos c3, if_pos c6, if_pos c9, if_pos c12, if_pos c15, if_pos c18, if_pos c21, if_pos c24, if_pos c27, if_pos c30, if_neg c33]
                        exact ⟨e50, d50⟩
                    · obtain ⟨e51, d51⟩ := bk_X12_sortOf_201 h30
                      unfold F_X12_sortOf
                      rw [if_pos c3, if_pos c6, if_pos c9, if_pos c12, if_pos c15, if_pos c18, if_pos c21, if_pos c24, if_pos c27, if_neg c30]
                      exact ⟨e51, d51⟩
                  · obtain ⟨e52, d52⟩ := bk_X12_sortOf_184 h27
                    unfold F_X12_sortOf
                    rw [if_pos c3, if_pos c6, if_pos c9, if_pos c12, if_pos c15, if_pos c18, if_pos c21, if_pos c24, if_neg c27]
                    exact ⟨e52, d52⟩
                · obtain ⟨e53, d53⟩ := bk_X12_sortOf_163 h24
                  unfold F_X12_sortOf
                  rw [if_pos c3, if_pos c6, if_pos c9, if_pos c12, if_pos c15, if_pos c18, if_pos c21, if_neg c24]
                  exact ⟨e53, d53⟩
              · obtain ⟨e54, d54⟩ := bk_X12_sortOf_144 h21
                unfold F_X12_sortOf
                rw [if_pos c3, if_pos c6, if_pos c9, if_pos c12, if_pos c15, if_pos c18, if_neg c21]
                exact ⟨e54, d54⟩
            · obtain ⟨e55, d55⟩ := bk_X12_sortOf_124 h18
              unfold F_X12_sortOf
              rw [if_pos c3, if_pos c6, if_pos c9, if_pos c12, if_pos c15, if_neg c18]
              exact ⟨e55, d55⟩
          · obtain ⟨e56, d56⟩ := bk_X12_sortOf_102 h15
            unfold F_X12_sortOf
            rw [if_pos c3, if_pos c6, if_pos c9, if_pos c12, if_neg c15]
            exact ⟨e56, d56⟩
        · obtain ⟨e57, d57⟩ := bk_X12_sortOf_80 h12
          unfold F_X12_sortOf
          rw [if_pos c3, if_pos c6, if_pos c9, if_neg c12]
          exact ⟨e57, d57⟩
      · obtain ⟨e58, d58⟩ := bk_X12_sortOf_58 h9
        unfold F_X12_sortOf
        rw [if_pos c3, if_pos c6, if_neg c9]
        exact ⟨e58, d58⟩
    · obtain ⟨e59, d59⟩ := bk_X12_sortOf_40 h6
      unfold F_X12_sortOf
      rw [if_pos c3, if_neg c6]
      exact ⟨e59, d59⟩
  · obtain ⟨e60, d60⟩ := bk_X12_sortOf_20 h3
    unfold F_X12_sortOf
    rw [if_neg c3]
    exact ⟨e60, d60⟩

theorem jI_X12_nameOf : ∀ (pc : Nat) (q : Instr × Nat), lkp iX12_nameOf pc = some q → decode cX12_nameOf pc = .ok q := fun pc q hq => jX12_nameOf (pc, q) (lkp_in iX12_nameOf hq)
theorem bk_X12_nameOf_0 {ax : zAx} {CE : g_E} {n : Nat} {ρ : Nat → Int} {L : List Nat} {g : Nat → Nat → Int} {r : Option g_V} {h : g_H} (hr : g_run RX12 ax CE cX12_nameOf n (0, ρ, [], L, g) r h) : ∃ n', n' < n ∧ ((g (ρ 0).toNat 9 = 2 ∧ g_run RX12 ax CE cX12_nameOf n' (10, ρ, [], L, g) r h) ∨ (¬ (g (ρ 0).toNat 9 = 2) ∧ g_run RX12 ax CE cX12_nameOf n' (8, ρ, [], L, g) r h)) := by
  obtain ⟨n1, e, h1⟩ := g_blk_ok noX12 jI_X12_nameOf tab_X12 4 n hr (c2 := (if g (ρ 0).toNat 9 = 2 then 10 else 8, ρ, [], L, g)) rfl
  refine ⟨n1, by omega, ?_⟩
  by_cases hc : g (ρ 0).toNat 9 = 2
  · exact Or.inl ⟨hc, by rw [if_pos hc] at h1; exact h1⟩
  · exact Or.inr ⟨hc, by rw [if_neg hc] at h1; exact h1⟩
theorem bk_X12_nameOf_8 {ax : zAx} {CE : g_E} {n : Nat} {ρ : Nat → Int} {L : List Nat} {g : Nat → Nat → Int} {r : Option g_V} {h : g_H} (hr : g_run RX12 ax CE cX12_nameOf n (8, ρ, [], L, g) r h) : r = some (1, (-1)) ∧ h = (L, g) := by
  obtain ⟨n1, e, h1⟩ := g_blk_ok noX12 jI_X12_nameOf tab_X12 1 n hr (c2 := (9, ρ, [(1, (-1))], L, g)) rfl
  exact g_ret_un noX12 (i := .ireturn) (jI_X12_nameOf 9 _ rfl) (by decide) h1
theorem bk_X12_nameOf_10 {ax : zAx} {CE : g_E} {n : Nat} {ρ : Nat → Int} {L : List Nat} {g : Nat → Nat → Int} {r : Option g_V} {h : g_H} (hr : g_run RX12 ax CE cX12_nameOf n (10, ρ, [], L, g) r h) : ∃ n' r1 h1', n' < n ∧ CE yX12_w4 cX12_w4 [(0, 104), (1, 101), (2, 114), (3, 101)] (L, g) r1 h1' ∧ g_run RX12 ax CE cX12_nameOf n' (25, ρ, g_push r1 [(2, g (ρ 0).toNat 11)], h1') r h := by
  obtain ⟨n1, e, h1⟩ := g_blk_ok noX12 jI_X12_nameOf tab_X12 6 n hr (c2 := (22, ρ, [(1, 101), (1, 114), (1, 101), (1, 104), (2, g (ρ 0).toNat 11)], L, g)) rfl
  obtain ⟨n2, c', e2, h2, h3⟩ := g_step_un noX12 (i := .invokestatic 180) (len := 3) (jI_X12_nameOf 22 _ rfl) (gnrS _) h1
  obtain ⟨r1, h1', hx, hc⟩ := g_static_un lk_X12 nat_all lX12_ok (idx := 180) (mode := 1) (mi := 192) (ci := 0) (na := 4) rfl (by decide) (by decide) mq_X12_w4 [(1, 104), (1, 101), (1, 114), (1, 101)] [(2, g (ρ 0).toNat 11)] rfl rfl h2
  subst hc
  exact ⟨n2, r1, h1', by omega, hx, h3⟩
theorem bk_X12_nameOf_25 {ax : zAx} {CE : g_E} {n : Nat} {ρ : Nat → Int} {s0 : Int} {s1 : Int} {L : List Nat} {g : Nat → Nat → Int} {r : Option g_V} {h : g_H} (hr : g_run RX12 ax CE cX12_nameOf n (25, ρ, [(2, s0), (2, s1)], L, g) r h) : ∃ n', n' < n ∧ (((if s0 < s1 then 1 else if s1 = s0 then 0 else -1) = 0 ∧ g_run RX12 ax CE cX12_nameOf n' (29, ρ, [], L, g) r h) ∨ (¬ ((if s0 < s1 then 1 else if s1 = s0 then 0 else -1) = 0) ∧ g_run RX12 ax CE cX12_nameOf n' (31, ρ, [], L, g) r h)) := by
  obtain ⟨n1, e, h1⟩ := g_blk_ok noX12 jI_X12_nameOf tab_X12 2 n hr (c2 := (if (if s0 < s1 then 1 else if s1 = s0 then 0 else -1) = 0 then 29 else 31, ρ, [], L, g)) rfl
  replace h1 : g_run RX12 ax CE cX12_nameOf n1 (if (if s0 < s1 then 1 else if s1 = s0 then 0 else -1) = 0 then 29 else 31, ρ, [], L, g) r h := h1
  refine ⟨n1, by omega, ?_⟩
  by_cases hc : (if s0 < s1 then 1 else if s1 = s0 then 0 else -1) = 0
  · exact Or.inl ⟨hc, by rw [if_pos hc] at h1; exact h1⟩
  · exact Or.inr ⟨hc, by rw [if_neg hc] at h1; exact h1⟩
theorem bk_X12_nameOf_29 {ax : zAx} {CE : g_E} {n : Nat} {ρ : Nat → Int} {L : List Nat} {g : Nat → Nat → Int} {r : Option g_V} {h : g_H} (hr : g_run RX12 ax CE cX12_nameOf n (29, ρ, [], L, g) r h) : r = some (1, 0) ∧ h = (L, g) := by
  obtain ⟨n1, e, h1⟩ := g_blk_ok noX12 jI_X12_nameOf tab_X12 1 n hr (c2 := (30, ρ, [(1, 0)], L, g)) rfl
  exact g_ret_un noX12 (i := .ireturn) (jI_X12_nameOf 30 _ rfl) (by decide) h1
theorem bk_X12_nameOf_31 {ax : zAx} {CE : g_E} {n : Nat} {ρ : Nat → Int} {L : List Nat} {g : Nat → Nat → Int} {r : Option g_V} {h : g_H} (hr : g_run RX12 ax CE cX12_nameOf n (31, ρ, [], L, g) r h) : ∃ n' r1 h1', n' < n ∧ CE yX12_w4 cX12_w4 [(0, 104), (1, 101), (2, 97), (3, 116)] (L, g) r1 h1' ∧ g_run RX12 ax CE cX12_nameOf n' (46, ρ, g_push r1 [(2, g (ρ 0).toNat 11)], h1') r h := by
  obtain ⟨n1, e, h1⟩ := g_blk_ok noX12 jI_X12_nameOf tab_X12 6 n hr (c2 := (43, ρ, [(1, 116), (1, 97), (1, 101), (1, 104), (2, g (ρ 0).toNat 11)], L, g)) rfl
  obtain ⟨n2, c', e2, h2, h3⟩ := g_step_un noX12 (i := .invokestatic 180) (len := 3) (jI_X12_nameOf 43 _ rfl) (gnrS _) h1
  obtain ⟨r1, h1', hx, hc⟩ := g_static_un lk_X12 nat_all lX12_ok (idx := 180) (mode := 1) (mi := 192) (ci := 0) (na := 4) rfl (by decide) (by decide) mq_X12_w4 [(1, 104), (1, 101), (1, 97), (1, 116)] [(2, g (ρ 0).toNat 11)] rfl rfl h2
  subst hc
  exact ⟨n2, r1, h1', by omega, hx, h3⟩
theorem bk_X12_nameOf_46 {ax : zAx} {CE : g_E} {n : Nat} {ρ : Nat → Int} {s0 : Int} {s1 : Int} {L : List Nat} {g : Nat → Nat → Int} {r : Option g_V} {h : g_H} (hr : g_run RX12 ax CE cX12_nameOf n (46, ρ, [(2, s0), (2, s1)], L, g) r h) : ∃ n', n' < n ∧ (((if s0 < s1 then 1 else if s1 = s0 then 0 else -1) = 0 ∧ g_run RX12 ax CE cX12_nameOf n' (50, ρ, [], L, g) r h) ∨ (¬ ((if s0 < s1 then 1 else if s1 = s0 then 0 else -1) = 0) ∧ g_run RX12 ax CE cX12_nameOf n' (52, ρ, [], L, g) r h)) := by
  obtain ⟨n1, e, h1⟩ := g_blk_ok noX12 jI_X12_nameOf tab_X12 2 n hr (c2 := (if (if s0 < s1 then 1 else if s1 = s0 then 0 else -1) = 0 then 50 else 52, ρ, [], L, g)) rfl
  replace h1 : g_run RX12 ax CE cX12_nameOf n1 (if (if s0 < s1 then 1 else if s1 = s0 then 0 else -1) = 0 then 50 else 52, ρ, [], L, g) r h := h1
  refine ⟨n1, by omega, ?_⟩
  by_cases hc : (if s0 < s1 then 1 else if s1 = s0 then 0 else -1) = 0
  · exact Or.inl ⟨hc, by rw [if_pos hc] at h1; exact h1⟩
  · exact Or.inr ⟨hc, by rw [if_neg hc] at h1; exact h1⟩
theorem bk_X12_nameOf_50 {ax : zAx} {CE : g_E} {n : Nat} {ρ : Nat → Int} {L : List Nat} {g : Nat → Nat → Int} {r : Option g_V} {h : g_H} (hr : g_run RX12 ax CE cX12_nameOf n (50, ρ, [], L, g) r h) : r = some (1, 1) ∧ h = (L, g) := by
  obtain ⟨n1, e, h1⟩ := g_blk_ok noX12 jI_X12_nameOf tab_X12 1 n hr (c2 := (51, ρ, [(1, 1)], L, g)) rfl
  exact g_ret_un noX12 (i := .ireturn) (jI_X12_nameOf 51 _ rfl) (by decide) h1
theorem bk_X12_nameOf_52 {ax : zAx} {CE : g_E} {n : Nat} {ρ : Nat → Int} {L : List Nat} {g : Nat → Nat → Int} {r : Option g_V} {h : g_H} (hr : g_run RX12 ax CE cX12_nameOf n (52, ρ, [], L, g) r h) : ∃ n' r1 h1', n' < n ∧ CE yX12_w3 cX12_w3 [(0, 119), (1, 101), (2, 116)] (L, g) r1 h1' ∧ g_run RX12 ax CE cX12_nameOf n' (65, ρ, g_push r1 [(2, g (ρ 0).toNat 11)], h1') r h := by
  obtain ⟨n1, e, h1⟩ := g_blk_ok noX12 jI_X12_nameOf tab_X12 5 n hr (c2 := (62, ρ, [(1, 116), (1, 101), (1, 119), (2, g (ρ 0).toNat 11)], L, g)) rfl
  obtain ⟨n2, c', e2, h2, h3⟩ := g_step_un noX12 (i := .invokestatic 176) (len := 3) (jI_X12_nameOf 62 _ rfl) (gnrS _) h1
  obtain ⟨r1, h1', hx, hc⟩ := g_static_un lk_X12 nat_all lX12_ok (idx := 176) (mode := 1) (mi := 191) (ci := 0) (na := 3) rfl (by decide) (by decide) mq_X12_w3 [(1, 119), (1, 101), (1, 116)] [(2, g (ρ 0).toNat 11)] rfl rfl h2
  subst hc
  exact ⟨n2, r1, h1', by omega, hx, h3⟩
theorem bk_X12_nameOf_65 {ax : zAx} {CE : g_E} {n : Nat} {ρ : Nat → Int} {s0 : Int} {s1 : Int} {L : List Nat} {g : Nat → Nat → Int} {r : Option g_V} {h : g_H} (hr : g_run RX12 ax CE cX12_nameOf n (65, ρ, [(2, s0), (2, s1)], L, g) r h) : ∃ n', n' < n ∧ (((if s0 < s1 then 1 else if s1 = s0 then 0 else -1) = 0 ∧ g_run RX12 ax CE cX12_nameOf n' (69, ρ, [], L, g) r h) ∨ (¬ ((if s0 < s1 then 1 else if s1 = s0 then 0 else -1) = 0) ∧ g_run RX12 ax CE cX12_nameOf n' (71, ρ, [], L, g) r h)) := by
  obtain ⟨n1, e, h1⟩ := g_blk_ok noX12 jI_X12_nameOf tab_X12 2 n hr (c2 := (if (if s0 < s1 then 1 else if s1 = s0 then 0 else -1) = 0 then 69 else 71, ρ, [], L, g)) rfl
  replace h1 : g_run RX12 ax CE cX12_nameOf n1 (if (if s0 < s1 then 1 else if s1 = s0 then 0 else -1) = 0 then 69 else 71, ρ, [], L, g) r h := h1
  refine ⟨n1, by omega, ?_⟩
  by_cases hc : (if s0 < s1 then 1 else if s1 = s0 then 0 else -1) = 0
  · exact Or.inl ⟨hc, by rw [if_pos hc] at h1; exact h1⟩
  · exact Or.inr ⟨hc, by rw [if_neg hc] at h1; exact h1⟩
theorem bk_X12_nameOf_69 {ax : zAx} {CE : g_E} {n : Nat} {ρ : Nat → Int} {L : List Nat} {g : Nat → Nat → Int} {r : Option g_V} {h : g_H} (hr : g_run RX12 ax CE cX12_nameOf n (69, ρ, [], L, g) r h) : r = some (1, 2) ∧ h = (L, g) := by
  obtain ⟨n1, e, h1⟩ := g_blk_ok noX12 jI_X12_nameOf tab_X12 1 n hr (c2 := (70, ρ, [(1, 2)], L, g)) rfl
  exact g_ret_un noX12 (i := .ireturn) (jI_X12_nameOf 70 _ rfl) (by decide) h1
theorem bk_X12_nameOf_71 {ax : zAx} {CE : g_E} {n : Nat} {ρ : Nat → Int} {L : List Nat} {g : Nat → Nat → Int} {r : Option g_V} {h : g_H} (hr : g_run RX12 ax CE cX12_nameOf n (71, ρ, [], L, g) r h) : ∃ n' r1 h1', n' < n ∧ CE yX12_w4 cX12_w4 [(0, 104), (1, 111), (2, 117), (3, 114)] (L, g) r1 h1' ∧ g_run RX12 ax CE cX12_nameOf n' (86, ρ, g_push r1 [(2, g (ρ 0).toNat 11)], h1') r h := by
  obtain ⟨n1, e, h1⟩ := g_blk_ok noX12 jI_X12_nameOf tab_X12 6 n hr (c2 := (83, ρ, [(1, 114), (1, 117), (1, 111), (1, 104), (2, g (ρ 0).toNat 11)], L, g)) rfl
  obtain ⟨n2, c', e2, h2, h3⟩ := g_step_un noX12 (i := .invokestatic 180) (len := 3) (jI_X12_nameOf 83 _ rfl) (gnrS _) h1
  obtain ⟨r1, h1', hx, hc⟩ := g_static_un lk_X12 nat_all lX12_ok (idx := 180) (mode := 1) (mi := 192) (ci := 0) (na := 4) rfl (by decide) (by decide) mq_X12_w4 [(1, 104), (1, 111), (1, 117), (1, 114)] [(2, g (ρ 0).toNat 11)] rfl rfl h2
  subst hc
  exact ⟨n2, r1, h1', by omega, hx, h3⟩
theorem bk_X12_nameOf_86 {ax : zAx} {CE : g_E} {n : Nat} {ρ : Nat → Int} {s0 : Int} {s1 : Int} {L : List Nat} {g : Nat → Nat → Int} {r : Option g_V} {h : g_H} (hr : g_run RX12 ax CE cX12_nameOf n (86, ρ, [(2, s0), (2, s1)], L, g) r h) : ∃ n', n' < n ∧ (((if s0 < s1 then 1 else if s1 = s0 then 0 else -1) = 0 ∧ g_run RX12 ax CE cX12_nameOf n' (90, ρ, [], L, g) r h) ∨ (¬ ((if s0 < s1 then 1 else if s1 = s0 then 0 else -1) = 0) ∧ g_run RX12 ax CE cX12_nameOf n' (92, ρ, [], L, g) r h)) := by
  obtain ⟨n1, e, h1⟩ := g_blk_ok noX12 jI_X12_nameOf tab_X12 2 n hr (c2 := (if (if s0 < s1 then 1 else if s1 = s0 then 0 else -1) = 0 then 90 else 92, ρ, [], L, g)) rfl
  replace h1 : g_run RX12 ax CE cX12_nameOf n1 (if (if s0 < s1 then 1 else if s1 = s0 then 0 else -1) = 0 then 90 else 92, ρ, [], L, g) r h := h1
  refine ⟨n1, by omega, ?_⟩
  by_cases hc : (if s0 < s1 then 1 else if s1 = s0 then 0 else -1) = 0
  · exact Or.inl ⟨hc, by rw [if_pos hc] at h1; exact h1⟩
  · exact Or.inr ⟨hc, by rw [if_neg hc] at h1; exact h1⟩
theorem bk_X12_nameOf_90 {ax : zAx} {CE : g_E} {n : Nat} {ρ : Nat → Int} {L : List Nat} {g : Nat → Nat → Int} {r : Option g_V} {h : g_H} (hr : g_run RX12 ax CE cX12_nameOf n (90, ρ, [], L, g) r h) : r = some (1, 3) ∧ h = (L, g) := by
  obtain ⟨n1, e, h1⟩ := g_blk_ok noX12 jI_X12_nameOf tab_X12 1 n hr (c2 := (91, ρ, [(1, 3)], L, g)) rfl
  exact g_ret_un noX12 (i := .ireturn) (jI_X12_nameOf 91 _ rfl) (by decide) h1
theorem bk_X12_nameOf_92 {ax : zAx} {CE : g_E} {n : Nat} {ρ : Nat → Int} {L : List Nat} {g : Nat → Nat → Int} {r : Option g_V} {h : g_H} (hr : g_run RX12 ax CE cX12_nameOf n (92, ρ, [], L, g) r h) : ∃ n' r1 h1', n' < n ∧ CE yX12_w3 cX12_w3 [(0, 119), (1, 104), (2, 111)] (L, g) r1 h1' ∧ g_run RX12 ax CE cX12_nameOf n' (105, ρ, g_push r1 [(2, g (ρ 0).toNat 11)], h1') r h := by
  obtain ⟨n1, e, h1⟩ := g_blk_ok noX12 jI_X12_nameOf tab_X12 5 n hr (c2 := (102, ρ, [(1, 111), (1, 104), (1, 119), (2, g (ρ 0).toNat 11)], L, g)) rfl
  obtain ⟨n2, c', e2, h2, h3⟩ := g_step_un noX12 (i := .invokestatic 176) (len := 3) (jI_X12_nameOf 102 _ rfl) (gnrS _) h1
  obtain ⟨r1, h1', hx, hc⟩ := g_static_un lk_X12 nat_all lX12_ok (idx := 176) (mode := 1) (mi := 191) (ci := 0) (na := 3) rfl (by decide) (by decide) mq_X12_w3 [(1, 119), (1, 104), (1, 111)] [(2, g (ρ 0).toNat 11)] rfl rfl h2
  subst hc
  exact ⟨n2, r1, h1', by omega, hx, h3⟩
theorem bk_X12_nameOf_105 {ax : zAx} {CE : g_E} {n : Nat} {ρ : Nat → Int} {s0 : Int} {s1 : Int} {L : List Nat} {g : Nat → Nat → Int} {r : Option g_V} {h : g_H} (hr : g_run RX12 ax CE cX12_nameOf n (105, ρ, [(2, s0), (2, s1)], L, g) r h) : ∃ n', n' < n ∧ (((if s0 < s1 then 1 else if s1 = s0 then 0 else -1) = 0 ∧ g_run RX12 ax CE cX12_nameOf n' (109, ρ, [], L, g) r h) ∨ (¬ ((if s0 < s1 then 1 else if s1 = s0 then 0 else -1) = 0) ∧ g_run RX12 ax CE cX12_nameOf n' (111, ρ, [], L, g) r h)) := by
  obtain ⟨n1, e, h1⟩ := g_blk_ok noX12 jI_X12_nameOf tab_X12 2 n hr (c2 := (if (if s0 < s1 then 1 else if s1 = s0 then 0 else -1) = 0 then 109 else 111, ρ, [], L, g)) rfl
  replace h1 : g_run RX12 ax CE cX12_nameOf n1 (if (if s0 < s1 then 1 else if s1 = s0 then 0 else -1) = 0 then 109 else 111, ρ, [], L, g) r h := h1
  refine ⟨n1, by omega, ?_⟩
  by_cases hc : (if s0 < s1 then 1 else if s1 = s0 then 0 else -1) = 0
  · exact Or.inl ⟨hc, by rw [if_pos hc] at h1; exact h1⟩
  · exact Or.inr ⟨hc, by rw [if_neg hc] at h1; exact h1⟩
theorem bk_X12_nameOf_109 {ax : zAx} {CE : g_E} {n : Nat} {ρ : Nat → Int} {L : List Nat} {g : Nat → Nat → Int} {r : Option g_V} {h : g_H} (hr : g_run RX12 ax CE cX12_nameOf n (109, ρ, [], L, g) r h) : r = some (1, 4) ∧ h = (L, g) := by
  obtain ⟨n1, e, h1⟩ := g_blk_ok noX12 jI_X12_nameOf tab_X12 1 n hr (c2 := (110, ρ, [(1, 4)], L, g)) rfl
  exact g_ret_un noX12 (i := .ireturn) (jI_X12_nameOf 110 _ rfl) (by decide) h1
theorem bk_X12_nameOf_111 {ax : zAx} {CE : g_E} {n : Nat} {ρ : Nat → Int} {L : List Nat} {g : Nat → Nat → Int} {r : Option g_V} {h : g_H} (hr : g_run RX12 ax CE cX12_nameOf n (111, ρ, [], L, g) r h) : ∃ n' r1 h1', n' < n ∧ CE yX12_w3 cX12_w3 [(0, 97), (1, 103), (2, 101)] (L, g) r1 h1' ∧ g_run RX12 ax CE cX12_nameOf n' (124, ρ, g_push r1 [(2, g (ρ 0).toNat 11)], h1') r h := by
  obtain ⟨n1, e, h1⟩ := g_blk_ok noX12 jI_X12_nameOf tab_X12 5 n hr (c2 := (121, ρ, [(1, 101), (1, 103), (1, 97), (2, g (ρ 0).toNat 11)], L, g)) rfl
  obtain ⟨n2, c', e2, h2, h3⟩ := g_step_un noX12 (i := .invokestatic 176) (len := 3) (jI_X12_nameOf 121 _ rfl) (gnrS _) h1
  obtain ⟨r1, h1', hx, hc⟩ := g_static_un lk_X12 nat_all lX12_ok (idx := 176) (mode := 1) (mi := 191) (ci := 0) (na := 3) rfl (by decide) (by decide) mq_X12_w3 [(1, 97), (1, 103), (1, 101)] [(2, g (ρ 0).toNat 11)] rfl rfl h2
  subst hc
  exact ⟨n2, r1, h1', by omega, hx, h3⟩
theorem bk_X12_nameOf_124 {ax : zAx} {CE : g_E} {n : Nat} {ρ : Nat → Int} {s0 : Int} {s1 : Int} {L : List Nat} {g : Nat → Nat → Int} {r : Option g_V} {h : g_H} (hr : g_run RX12 ax CE cX12_nameOf n (124, ρ, [(2, s0), (2, s1)], L, g) r h) : ∃ n', n' < n ∧ (((if s0 < s1 then 1 else if s1 = s0 then 0 else -1) = 0 ∧ g_run RX12 ax CE cX12_nameOf n' (128, ρ, [], L, g) r h) ∨ (¬ ((if s0 < s1 then 1 else if s1 = s0 then 0 else -1) = 0) ∧ g_run RX12 ax CE cX12_nameOf n' (130, ρ, [], L, g) r h)) := by
  obtain ⟨n1, e, h1⟩ := g_blk_ok noX12 jI_X12_nameOf tab_X12 2 n hr (c2 := (if (if s0 < s1 then 1 else if s1 = s0 then 0 else -1) = 0 then 128 else 130, ρ, [], L, g)) rfl
  replace h1 : g_run RX12 ax CE cX12_nameOf n1 (if (if s0 < s1 then 1 else if s1 = s0 then 0 else -1) = 0 then 128 else 130, ρ, [], L, g) r h := h1
  refine ⟨n1, by omega, ?_⟩
  by_cases hc : (if s0 < s1 then 1 else if s1 = s0 then 0 else -1) = 0
  · exact Or.inl ⟨hc, by rw [if_pos hc] at h1; exact h1⟩
  · exact Or.inr ⟨hc, by rw [if_neg hc] at h1; exact h1⟩
theorem bk_X12_nameOf_128 {ax : zAx} {CE : g_E} {n : Nat} {ρ : Nat → Int} {L : List Nat} {g : Nat → Nat → Int} {r : Option g_V} {h : g_H} (hr : g_run RX12 ax CE cX12_nameOf n (128, ρ, [], L, g) r h) : r = some (1, 5) ∧ h = (L, g) := by
  obtain ⟨n1, e, h1⟩ := g_blk_ok noX12 jI_X12_nameOf tab_X12 1 n hr (c2 := (129, ρ, [(1, 5)], L, g)) rfl
  exact g_ret_un noX12 (i := .ireturn) (jI_X12_nameOf 129 _ rfl) (by decide) h1
theorem bk_X12_nameOf_130 {ax : zAx} {CE : g_E} {n : Nat} {ρ : Nat → Int} {L : List Nat} {g : Nat → Nat → Int} {r : Option g_V} {h : g_H} (hr : g_run RX12 ax CE cX12_nameOf n (130, ρ, [], L, g) r h) : ∃ n' r1 h1', n' < n ∧ CE yX12_w4 cX12_w4 [(0, 102), (1, 117), (2, 108), (3, 108)] (L, g) r1 h1' ∧ g_run RX12 ax CE cX12_nameOf n' (145, ρ, g_push r1 [(2, g (ρ 0).toNat 11)], h1') r h := by
  obtain ⟨n1, e, h1⟩ := g_blk_ok noX12 jI_X12_nameOf tab_X12 6 n hr (c2 := (142, ρ, [(1, 108), (1, 108), (1, 117), (1, 102), (2, g (ρ 0).toNat 11)], L, g)) rfl
  obtain ⟨n2, c', e2, h2, h3⟩ := g_step_un noX12 (i := .invokestatic 180) (len := 3) (jI_X12_nameOf 142 _ rfl) (gnrS _) h1
  obtain ⟨r1, h1', hx, hc⟩ := g_static_un lk_X12 nat_all lX12_ok (idx := 180) (mode := 1) (mi := 192) (ci := 0) (na := 4) rfl (by decide) (by decide) mq_X12_w4 [(1, 102), (1, 117), (1, 108), (1, 108)] [(2, g (ρ 0).toNat 11)] rfl rfl h2
  subst hc
  exact ⟨n2, r1, h1', by omega, hx, h3⟩
theorem bk_X12_nameOf_145 {ax : zAx} {CE : g_E} {n : Nat} {ρ : Nat → Int} {s0 : Int} {s1 : Int} {L : List Nat} {g : Nat → Nat → Int} {r : Option g_V} {h : g_H} (hr : g_run RX12 ax CE cX12_nameOf n (145, ρ, [(2, s0), (2, s1)], L, g) r h) : ∃ n', n' < n ∧ (((if s0 < s1 then 1 else if s1 = s0 then 0 else -1) = 0 ∧ g_run RX12 ax CE cX12_nameOf n' (149, ρ, [], L, g) r h) ∨ (¬ ((if s0 < s1 then 1 else if s1 = s0 then 0 else -1) = 0) ∧ g_run RX12 ax CE cX12_nameOf n' (152, ρ, [], L, g) r h)) := by
  obtain ⟨n1, e, h1⟩ := g_blk_ok noX12 jI_X12_nameOf tab_X12 2 n hr (c2 := (if (if s0 < s1 then 1 else if s1 = s0 then 0 else -1) = 0 then 149 else 152, ρ, [], L, g)) rfl
  replace h1 : g_run RX12 ax CE cX12_nameOf n1 (if (if s0 < s1 then 1 else if s1 = s0 then 0 else -1) = 0 then 149 else 152, ρ, [], L, g) r h := h1
  refine ⟨n1, by omega, ?_⟩
  by_cases hc : (if s0 < s1 then 1 else if s1 = s0 then 0 else -1) = 0
  · exact Or.inl ⟨hc, by rw [if_pos hc] at h1; exact h1⟩
  · exact Or.inr ⟨hc, by rw [if_neg hc] at h1; exact h1⟩
theorem bk_X12_nameOf_149 {ax : zAx} {CE : g_E} {n : Nat} {ρ : Nat → Int} {L : List Nat} {g : Nat → Nat → Int} {r : Option g_V} {h : g_H} (hr : g_run RX12 ax CE cX12_nameOf n (149, ρ, [], L, g) r h) : r = some (1, 6) ∧ h = (L, g) := by
  obtain ⟨n1, e, h1⟩ := g_blk_ok noX12 jI_X12_nameOf tab_X12 1 n hr (c2 := (151, ρ, [(1, 6)], L, g)) rfl
  exact g_ret_un noX12 (i := .ireturn) (jI_X12_nameOf 151 _ rfl) (by decide) h1
theorem bk_X12_nameOf_152 {ax : zAx} {CE : g_E} {n : Nat} {ρ : Nat → Int} {L : List Nat} {g : Nat → Nat → Int} {r : Option g_V} {h : g_H} (hr : g_run RX12 ax CE cX12_nameOf n (152, ρ, [], L, g) r h) : ∃ n' r1 h1', n' < n ∧ CE yX12_w5 cX12_w5 [(0, 99), (1, 108), (2, 111), (3, 117), (4, 100)] (L, g) r1 h1' ∧ g_run RX12 ax CE cX12_nameOf n' (169, ρ, g_push r1 [(2, g (ρ 0).toNat 11)], h1') r h := by
  obtain ⟨n1, e, h1⟩ := g_blk_ok noX12 jI_X12_nameOf tab_X12 7 n hr (c2 := (166, ρ, [(1, 100), (1, 117), (1, 111), (1, 108), (1, 99), (2, g (ρ 0).toNat 11)], L, g)) rfl
  obtain ⟨n2, c', e2, h2, h3⟩ := g_step_un noX12 (i := .invokestatic 184) (len := 3) (jI_X12_nameOf 166 _ rfl) (gnrS _) h1
  obtain ⟨r1, h1', hx, hc⟩ := g_static_un lk_X12 nat_all lX12_ok (idx := 184) (mode := 1) (mi := 193) (ci := 0) (na := 5) rfl (by decide) (by decide) mq_X12_w5 [(1, 99), (1, 108), (1, 111), (1, 117), (1, 100)] [(2, g (ρ 0).toNat 11)] rfl rfl h2
  subst hc
  exact ⟨n2, r1, h1', by omega, hx, h3⟩
theorem bk_X12_nameOf_169 {ax : zAx} {CE : g_E} {n : Nat} {ρ : Nat → Int} {s0 : Int} {s1 : Int} {L : List Nat} {g : Nat → Nat → Int} {r : Option g_V} {h : g_H} (hr : g_run RX12 ax CE cX12_nameOf n (169, ρ, [(2, s0), (2, s1)], L, g) r h) : ∃ n', n' < n ∧ (((if s0 < s1 then 1 else if s1 = s0 then 0 else -1) = 0 ∧ g_run RX12 ax CE cX12_nameOf n' (173, ρ, [], L, g) r h) ∨ (¬ ((if s0 < s1 then 1 else if s1 = s0 then 0 else -1) = 0) ∧ g_run RX12 ax CE cX12_nameOf n' (176, ρ, [], L, g) r h)) := by
  obtain ⟨n1, e, h1⟩ := g_blk_ok noX12 jI_X12_nameOf tab_X12 2 n hr (c2 := (if (if s0 < s1 then 1 else if s1 = s0 then 0 else -1) = 0 then 173 else 176, ρ, [], L, g)) rfl
  replace h1 : g_run RX12 ax CE cX12_nameOf n1 (if (if s0 < s1 then 1 else if s1 = s0 then 0 else -1) = 0 then 173 else 176, ρ, [], L, g) r h := h1
  refine ⟨n1, by omega, ?_⟩
  by_cases hc : (if s0 < s1 then 1 else if s1 = s0 then 0 else -1) = 0
  · exact Or.inl ⟨hc, by rw [if_pos hc] at h1; exact h1⟩
  · exact Or.inr ⟨hc, by rw [if_neg hc] at h1; exact h1⟩
theorem bk_X12_nameOf_173 {ax : zAx} {CE : g_E} {n : Nat} {ρ : Nat → Int} {L : List Nat} {g : Nat → Nat → Int} {r : Option g_V} {h : g_H} (hr : g_run RX12 ax CE cX12_nameOf n (173, ρ, [], L, g) r h) : r = some (1, 7) ∧ h = (L, g) := by
  obtain ⟨n1, e, h1⟩ := g_blk_ok noX12 jI_X12_nameOf tab_X12 1 n hr (c2 := (175, ρ, [(1, 7)], L, g)) rfl
  exact g_ret_un noX12 (i := .ireturn) (jI_X12_nameOf 175 _ rfl) (by decide) h1
theorem bk_X12_nameOf_176 {ax : zAx} {CE : g_E} {n : Nat} {ρ : Nat → Int} {L : List Nat} {g : Nat → Nat → Int} {r : Option g_V} {h : g_H} (hr : g_run RX12 ax CE cX12_nameOf n (176, ρ, [], L, g) r h) : ∃ n' r1 h1', n' < n ∧ CE yX12_w4 cX12_w4 [(0, 119), (1, 111), (2, 114), (3, 107)] (L, g) r1 h1' ∧ g_run RX12 ax CE cX12_nameOf n' (191, ρ, g_push r1 [(2, g (ρ 0).toNat 11)], h1') r h := by
  obtain ⟨n1, e, h1⟩ := g_blk_ok noX12 jI_X12_nameOf tab_X12 6 n hr (c2 := (188, ρ, [(1, 107), (1, 114), (1, 111), (1, 119), (2, g (ρ 0).toNat 11)], L, g)) rfl
  obtain ⟨n2, c', e2, h2, h3⟩ := g_step_un noX12 (i := .invokestatic 180) (len := 3) (jI_X12_nameOf 188 _ rfl) (gnrS _) h1
  obtain ⟨r1, h1', hx, hc⟩ := g_static_un lk_X12 nat_all lX12_ok (idx := 180) (mode := 1) (mi := 192) (ci := 0) (na := 4) rfl (by decide) (by decide) mq_X12_w4 [(1, 119), (1, 111), (1, 114), (1, 107)] [(2, g (ρ 0).toNat 11)] rfl rfl h2
  subst hc
  exact ⟨n2, r1, h1', by omega, hx, h3⟩
theorem bk_X12_nameOf_191 {ax : zAx} {CE : g_E} {n : Nat} {ρ : Nat → Int} {s0 : Int} {s1 : Int} {L : List Nat} {g : Nat → Nat → Int} {r : Option g_V} {h : g_H} (hr : g_run RX12 ax CE cX12_nameOf n (191, ρ, [(2, s0), (2, s1)], L, g) r h) : ∃ n', n' < n ∧ (((if s0 < s1 then 1 else if s1 = s0 then 0 else -1) = 0 ∧ g_run RX12 ax CE cX12_nameOf n' (195, ρ, [], L, g) r h) ∨ (¬ ((if s0 < s1 then 1 else if s1 = s0 then 0 else -1) = 0) ∧ g_run RX12 ax CE cX12_nameOf n' (198, ρ, [], L, g) r h)) := by
  obtain ⟨n1, e, h1⟩ := g_blk_ok noX12 jI_X12_nameOf tab_X12 2 n hr (c2 := (if (if s0 < s1 then 1 else if s1 = s0 then 0 else -1) = 0 then 195 else 198, ρ, [], L, g)) rfl
  replace h1 : g_run RX12 ax CE cX12_nameOf n1 (if (if s0 < s1 then 1 else if s1 = s0 then 0 else -1) = 0 then 195 else 198, ρ, [], L, g) r h := h1
  refine ⟨n1, by omega, ?_⟩
  by_cases hc : (if s0 < s1 then 1 else if s1 = s0 then 0 else -1) = 0
  · exact Or.inl ⟨hc, by rw [if_pos hc] at h1; exact h1⟩
  · exact Or.inr ⟨hc, by rw [if_neg hc] at h1; exact h1⟩
theorem bk_X12_nameOf_195 {ax : zAx} {CE : g_E} {n : Nat} {ρ : Nat → Int} {L : List Nat} {g : Nat → Nat → Int} {r : Option g_V} {h : g_H} (hr : g_run RX12 ax CE cX12_nameOf n (195, ρ, [], L, g) r h) : r = some (1, 8) ∧ h = (L, g) := by
  obtain ⟨n1, e, h1⟩ := g_blk_ok noX12 jI_X12_nameOf tab_X12 1 n hr (c2 := (197, ρ, [(1, 8)], L, g)) rfl
  exact g_ret_un noX12 (i := .ireturn) (jI_X12_nameOf 197 _ rfl) (by decide) h1
theorem bk_X12_nameOf_198 {ax : zAx} {CE : g_E} {n : Nat} {ρ : Nat → Int} {L : List Nat} {g : Nat → Nat → Int} {r : Option g_V} {h : g_H} (hr : g_run RX12 ax CE cX12_nameOf n (198, ρ, [], L, g) r h) : ∃ n' r1 h1', n' < n ∧ CE yX12_w3 cX12_w3 [(0, 111), (1, 108), (2, 100)] (L, g) r1 h1' ∧ g_run RX12 ax CE cX12_nameOf n' (211, ρ, g_push r1 [(2, g (ρ 0).toNat 11)], h1') r h := by
  obtain ⟨n1, e, h1⟩ := g_blk_ok noX12 jI_X12_nameOf tab_X12 5 n hr (c2 := (208, ρ, [(1, 100), (1, 108), (1, 111), (2, g (ρ 0).toNat 11)], L, g)) rfl
  obtain ⟨n2, c', e2, h2, h3⟩ := g_step_un noX12 (i := .invokestatic 176) (len := 3) (jI_X12_nameOf 208 _ rfl) (gnrS _) h1
  obtain ⟨r1, h1', hx, hc⟩ := g_static_un lk_X12 nat_all lX12_ok (idx := 176) (mode := 1) (mi := 191) (ci := 0) (na := 3) rfl (by decide) (by decide) mq_X12_w3 [(1, 111), (1, 108), (1, 100)] [(2, g (ρ 0).toNat 11)] rfl rfl h2
  subst hc
  exact ⟨n2, r1, h1', by omega, hx, h3⟩
theorem bk_X12_nameOf_211 {ax : zAx} {CE : g_E} {n : Nat} {ρ : Nat → Int} {s0 : Int} {s1 : Int} {L : List Nat} {g : Nat → Nat → Int} {r : Option g_V} {h : g_H} (hr : g_run RX12 ax CE cX12_nameOf n (211, ρ, [(2, s0), (2, s1)], L, g) r h) : ∃ n', n' < n ∧ (((if s0 < s1 then 1 else if s1 = s0 then 0 else -1) = 0 ∧ g_run RX12 ax CE cX12_nameOf n' (215, ρ, [], L, g) r h) ∨ (¬ ((if s0 < s1 then 1 else if s1 = s0 then 0 else -1) = 0) ∧ g_run RX12 ax CE cX12_nameOf n' (220, ρ, [], L, g) r h)) := by
  obtain ⟨n1, e, h1⟩ := g_blk_ok noX12 jI_X12_nameOf tab_X12 2 n hr (c2 := (if (if s0 < s1 then 1 else if s1 = s0 then 0 else -1) = 0 then 215 else 220, ρ, [], L, g)) rfl
  replace h1 : g_run RX12 ax CE cX12_nameOf n1 (if (if s0 < s1 then 1 else if s1 = s0 then 0 else -1) = 0 then 215 else 220, ρ, [], L, g) r h := h1
  refine ⟨n1, by omega, ?_⟩
  by_cases hc : (if s0 < s1 then 1 else if s1 = s0 then 0 else -1) = 0
  · exact Or.inl ⟨hc, by rw [if_pos hc] at h1; exact h1⟩
  · exact Or.inr ⟨hc, by rw [if_neg hc] at h1; exact h1⟩
theorem bk_X12_nameOf_215 {ax : zAx} {CE : g_E} {n : Nat} {ρ : Nat → Int} {L : List Nat} {g : Nat → Nat → Int} {r : Option g_V} {h : g_H} (hr : g_run RX12 ax CE cX12_nameOf n (215, ρ, [], L, g) r h) : ∃ n', n' < n ∧ g_run RX12 ax CE cX12_nameOf n' (245, ρ, [(1, 9)], L, g) r h := by
  obtain ⟨n1, e, h1⟩ := g_blk_ok noX12 jI_X12_nameOf tab_X12 2 n hr (c2 := (245, ρ, [(1, 9)], L, g)) rfl
  exact ⟨n1, by omega, h1⟩
theorem bk_X12_nameOf_220 {ax : zAx} {CE : g_E} {n : Nat} {ρ : Nat → Int} {L : List Nat} {g : Nat → Nat → Int} {r : Option g_V} {h : g_H} (hr : g_run RX12 ax CE cX12_nameOf n (220, ρ, [], L, g) r h) : ∃ n' r1 h1', n' < n ∧ CE yX12_w4 cX12_w4 [(0, 98), (1, 111), (2, 116), (3, 104)] (L, g) r1 h1' ∧ g_run RX12 ax CE cX12_nameOf n' (235, ρ, g_push r1 [(2, g (ρ 0).toNat 11)], h1') r h := by
  obtain ⟨n1, e, h1⟩ := g_blk_ok noX12 jI_X12_nameOf tab_X12 6 n hr (c2 := (232, ρ, [(1, 104), (1, 116), (1, 111), (1, 98), (2, g (ρ 0).toNat 11)], L, g)) rfl
  obtain ⟨n2, c', e2, h2, h3⟩ := g_step_un noX12 (i := .invokestatic 180) (len := 3) (jI_X12_nameOf 232 _ rfl) (gnrS _) h1
  obtain ⟨r1, h1', hx, hc⟩ := g_static_un lk_X12 nat_all lX12_ok (idx := 180) (mode := 1) (mi := 192) (ci := 0) (na := 4) rfl (by decide) (by decide) mq_X12_w4 [(1, 98), (1, 111), (1, 116), (1, 104)] [(2, g (ρ 0).toNat 11)] rfl rfl h2
  subst hc
  exact ⟨n2, r1, h1', by omega, hx, h3⟩
theorem bk_X12_nameOf_235 {ax : zAx} {CE : g_E} {n : Nat} {ρ : Nat → Int} {s0 : Int} {s1 : Int} {L : List Nat} {g : Nat → Nat → Int} {r : Option g_V} {h : g_H} (hr : g_run RX12 ax CE cX12_nameOf n (235, ρ, [(2, s0), (2, s1)], L, g) r h) : ∃ n', n' < n ∧ (((if s0 < s1 then 1 else if s1 = s0 then 0 else -1) = 0 ∧ g_run RX12 ax CE cX12_nameOf n' (239, ρ, [], L, g) r h) ∨ (¬ ((if s0 < s1 then 1 else if s1 = s0 then 0 else -1) = 0) ∧ g_run RX12 ax CE cX12_nameOf n' (244, ρ, [], L, g) r h)) := by
  obtain ⟨n1, e, h1⟩ := g_blk_ok noX12 jI_X12_nameOf tab_X12 2 n hr (c2 := (if (if s0 < s1 then 1 else if s1 = s0 then 0 else -1) = 0 then 239 else 244, ρ, [], L, g)) rfl
  replace h1 : g_run RX12 ax CE cX12_nameOf n1 (if (if s0 < s1 then 1 else if s1 = s0 then 0 else -1) = 0 then 239 else 244, ρ, [], L, g) r h := h1
  refine ⟨n1, by omega, ?_⟩
  by_cases hc : (if s0 < s1 then 1 else if s1 = s0 then 0 else -1) = 0
  · exact Or.inl ⟨hc, by rw [if_pos hc] at h1; exact h1⟩
  · exact Or.inr ⟨hc, by rw [if_neg hc] at h1; exact h1⟩
theorem bk_X12_nameOf_239 {ax : zAx} {CE : g_E} {n : Nat} {ρ : Nat → Int} {L : List Nat} {g : Nat → Nat → Int} {r : Option g_V} {h : g_H} (hr : g_run RX12 ax CE cX12_nameOf n (239, ρ, [], L, g) r h) : ∃ n', n' < n ∧ g_run RX12 ax CE cX12_nameOf n' (245, ρ, [(1, 10)], L, g) r h := by
  obtain ⟨n1, e, h1⟩ := g_blk_ok noX12 jI_X12_nameOf tab_X12 2 n hr (c2 := (245, ρ, [(1, 10)], L, g)) rfl
  exact ⟨n1, by omega, h1⟩
theorem bk_X12_nameOf_244 {ax : zAx} {CE : g_E} {n : Nat} {ρ : Nat → Int} {L : List Nat} {g : Nat → Nat → Int} {r : Option g_V} {h : g_H} (hr : g_run RX12 ax CE cX12_nameOf n (244, ρ, [], L, g) r h) : ∃ n', n' < n ∧ g_run RX12 ax CE cX12_nameOf n' (245, ρ, [(1, (-1))], L, g) r h := by
  obtain ⟨n1, e, h1⟩ := g_blk_ok noX12 jI_X12_nameOf tab_X12 1 n hr (c2 := (245, ρ, [(1, (-1))], L, g)) rfl
  exact ⟨n1, by omega, h1⟩
theorem bk_X12_nameOf_245 {ax : zAx} {CE : g_E} {n : Nat} {ρ : Nat → Int} {s0 : Int} {L : List Nat} {g : Nat → Nat → Int} {r : Option g_V} {h : g_H} (hr : g_run RX12 ax CE cX12_nameOf n (245, ρ, [(1, s0)], L, g) r h) : r = some (1, s0) ∧ h = (L, g) := by
  obtain ⟨n1, e, h1⟩ := g_blk_ok noX12 jI_X12_nameOf tab_X12 0 n hr (c2 := (245, ρ, [(1, s0)], L, g)) rfl
  exact g_ret_un noX12 (i := .ireturn) (jI_X12_nameOf 245 _ rfl) (by decide) h1
def F_X12_nameOf (x0 : Int) (g : Nat → Nat → Int) : Int := if g x0.toNat 9 = 2 then if (if F_X12_w4 104 101 114 101 g < g x0.toNat 11 then 1 else if g x0.toNat 11 = F_X12_w4 104 101 114 101 g then 0 else -1) = 0 then 0 else if (if F_X12_w4 104 101 97 116 g < g x0.toNat 11 then 1 else if g x0.toNat 11 = F_X12_w4 104 101 97 116 g then 0 else -1) = 0 then 1 else if (if F_X12_w3 119 101 116 g < g x0.toNat 11 then 1 else if g x0.toNat 11 = F_X12_w3 119 101 116 g then 0 else -1) = 0 then 2 else if (if F_X12_w4 104 111 117 114 g < g x0.toNat 11 then 1 else if g x0.toNat 11 = F_X12_w4 104 111 117 114 g then 0 else -1) = 0 then 3 else if (if F_X12_w3 119 104 111 g < g x0.toNat 11 then 1 else if g x0.toNat 11 = F_X12_w3 119 104 111 g then 0 else -1) = 0 then 4 else if (if F_X12_w3 97 103 101 g < g x0.toNat 11 then 1 else if g x0.toNat 11 = F_X12_w3 97 103 101 g then 0 else -1) = 0 then 5 else if (if F_X12_w4 102 117 108 108 g < g x0.toNat 11 then 1 else if g x0.toNat 11 = F_X12_w4 102 117 108 108 g then 0 else -1) = 0 then 6 else if (if F_X12_w5 99 108 111 117 100 g < g x0.toNat 11 then 1 else if g x0.toNat 11 = F_X12_w5 99 108 111 117 100 g then 0 else -1) = 0 then 7 else if (if F_X12_w4 119 111 114 107 g < g x0.toNat 11 then 1 else if g x0.toNat 11 = F_X12_w4 119 111 114 107 g then 0 else -1) = 0 then 8 else if (if F_X12_w3 111 108 100 g < g x0.toNat 11 then 1 else if g x0.toNat 11 = F_X12_w3 111 108 100 g then 0 else -1) = 0 then 9 else if (if F_X12_w4 98 111 116 104 g < g x0.toNat 11 then 1 else if g x0.toNat 11 = F_X12_w4 98 111 116 104 g then 0 else -1) = 0 then 10 else (-1) else (-1)
theorem f_X12_nameOf {ax : zAx} {x0 : Int} {L : List Nat} {g : Nat → Nat → Int} {r : Option g_V} {h : g_H} (hx : g_ex ax yX12_nameOf cX12_nameOf [(0, x0)] (L, g) r h) : r = some (1, F_X12_nameOf x0 g) ∧ h = (L, g) := by
  obtain ⟨ρ, n0, hρ, h0⟩ := g_run_of hx
  obtain rfl : ρ 0 = x0 := hρ (0, x0) (by simp)
  obtain ⟨n1, l1, h1⟩ := bk_X12_nameOf_0 h0
  rcases h1 with ⟨c1, h1⟩ | ⟨c1, h1⟩
  · obtain ⟨n2, r2, k2, l2, x2, h2⟩ := bk_X12_nameOf_10 h1
    obtain ⟨e2, d2⟩ := f_X12_w4 x2
    subst e2
    subst d2
    obtain ⟨n3, l3, h3⟩ := bk_X12_nameOf_25 h2
    rcases h3 with ⟨c3, h3⟩ | ⟨c3, h3⟩
    · obtain ⟨e4, d4⟩ := bk_X12_nameOf_29 h3
      unfold F_X12_nameOf
      rw [if_pos c1, if_pos c3]
      exact ⟨e4, d4⟩
    · obtain ⟨n5, r5, k5, l5, x5, h5⟩ := bk_X12_nameOf_31 h3
      obtain ⟨e5, d5⟩ := f_X12_w4 x5
      subst e5
      subst d5
      obtain ⟨n6, l6, h6⟩ := bk_X12_nameOf_46 h5
      rcases h6 with ⟨c6, h6⟩ | ⟨c6, h6⟩
      · obtain ⟨e7, d7⟩ := bk_X12_nameOf_50 h6
        unfold F_X12_nameOf
        rw [if_pos c1, if_neg c3, if_pos c6]
        exact ⟨e7, d7⟩
      · obtain ⟨n8, r8, k8, l8, x8, h8⟩ := bk_X12_nameOf_52 h6
        obtain ⟨e8, d8⟩ := f_X12_w3 x8
        subst e8
        subst d8
        obtain ⟨n9, l9, h9⟩ := bk_X12_nameOf_65 h8
        rcases h9 with ⟨c9, h9⟩ | ⟨c9, h9⟩
        · obtain ⟨e10, d10⟩ := bk_X12_nameOf_69 h9
          unfold F_X12_nameOf
          rw [if_pos c1, if_neg c3, if_neg c6, if_pos c9]
          exact ⟨e10, d10⟩
        · obtain ⟨n11, r11, k11, l11, x11, h11⟩ := bk_X12_nameOf_71 h9
          obtain ⟨e11, d11⟩ := f_X12_w4 x11
          subst e11
          subst d11
          obtain ⟨n12, l12, h12⟩ := bk_X12_nameOf_86 h11
          rcases h12 with ⟨c12, h12⟩ | ⟨c12, h12⟩
          · obtain ⟨e13, d13⟩ := bk_X12_nameOf_90 h12
            unfold F_X12_nameOf
            rw [if_pos c1, if_neg c3, if_neg c6, if_neg c9, if_pos c12]
            exact ⟨e13, d13⟩
          · obtain ⟨n14, r14, k14, l14, x14, h14⟩ := bk_X12_nameOf_92 h12
            obtain ⟨e14, d14⟩ := f_X12_w3 x14
            subst e14
            subst d14
            obtain ⟨n15, l15, h15⟩ := bk_X12_nameOf_105 h14
            rcases h15 with ⟨c15, h15⟩ | ⟨c15, h15⟩
            · obtain ⟨e16, d16⟩ := bk_X12_nameOf_109 h15
              unfold F_X12_nameOf
              rw [if_pos c1, if_neg c3, if_neg c6, if_neg c9, if_neg c12, if_pos c15]
              exact ⟨e16, d16⟩
            · obtain ⟨n17, r17, k17, l17, x17, h17⟩ := bk_X12_nameOf_111 h15
              obtain ⟨e17, d17⟩ := f_X12_w3 x17
              subst e17
              subst d17
              obtain ⟨n18, l18, h18⟩ := bk_X12_nameOf_124 h17
              rcases h18 with ⟨c18, h18⟩ | ⟨c18, h18⟩
              · obtain ⟨e19, d19⟩ := bk_X12_nameOf_128 h18
                unfold F_X12_nameOf
                rw [if_pos c1, if_neg c3, if_neg c6, if_neg c9, if_neg c12, if_neg c15, if_pos c18]
                exact ⟨e19, d19⟩
              · obtain ⟨n20, r20, k20, l20, x20, h20⟩ := bk_X12_nameOf_130 h18
                obtain ⟨e20, d20⟩ := f_X12_w4 x20
                subst e20
                subst d20
                obtain ⟨n21, l21, h21⟩ := bk_X12_nameOf_145 h20
                rcases h21 with ⟨c21, h21⟩ | ⟨c21, h21⟩
                · obtain ⟨e22, d22⟩ := bk_X12_nameOf_149 h21
                  unfold F_X12_nameOf
                  rw [if_pos c1, if_neg c3, if_neg c6, if_neg c9, if_neg c12, if_neg c15, if_neg c18, if_pos c21]
                  exact ⟨e22, d22⟩
                · obtain ⟨n23, r23, k23, l23, x23, h23⟩ := bk_X12_nameOf_152 h21
                  obtain ⟨e23, d23⟩ := f_X12_w5 x23
                  subst e23
                  subst d23
                  obtain ⟨n24, l24, h24⟩ := bk_X12_nameOf_169 h23
                  rcases h24 with ⟨c24, h24⟩ | ⟨c24, h24⟩
                  · obtain ⟨e25, d25⟩ := bk_X12_nameOf_173 h24
                    unfold F_X12_nameOf
                    rw [if_pos c1, if_neg c3, if_neg c6, if_neg c9, if_neg c12, if_neg c15, if_neg c18, if_neg c21, if_pos c24]
                    exact ⟨e25, d25⟩
                  · obtain ⟨n26, r26, k26, l26, x26, h26⟩ := bk_X12_nameOf_176 h24
                    obtain ⟨e26, d26⟩ := f_X12_w4 x26
                    subst e26
                    subst d26
                    obtain ⟨n27, l27, h27⟩ := bk_X12_nameOf_191 h26
                    rcases h27 with ⟨c27, h27⟩ | ⟨c27, h27⟩
                    · obtain ⟨e28, d28⟩ := bk_X12_nameOf_195 h27
                      unfold F_X12_nameOf
                      rw [if_pos c1, if_neg c3, if_neg c6, if_neg c9, if_neg c12, if_neg c15, if_neg c18, if_neg c21, if_neg c24, if_pos c27]
                      exact ⟨e28, d28⟩
                    · obtain ⟨n29, r29, k29, l29, x29, h29⟩ := bk_X12_nameOf_198 h27
                      obtain ⟨e29, d29⟩ := f_X12_w3 x29
                      subst e29
                      subst d29
                      obtain ⟨n30, l30, h30⟩ := bk_X12_nameOf_211 h29
                      rcases h30 with ⟨c30, h30⟩ | ⟨c30, h30⟩
                      · obtain ⟨n31, l31, h31⟩ := bk_X12_nameOf_215 h30
                        obtain ⟨e32, d32⟩ := bk_X12_nameOf_245 h31
                        unfold F_X12_nameOf
                        rw [if_pos c1, if_neg c3, if_neg c6, if_neg c9, if_neg c12, if_neg c15, if_neg c18, if_neg c21, if_neg c24, if_neg c27, if_pos c30]
                        exact ⟨e32, d32⟩
                      · obtain ⟨n33, r33, k33, l33, x33, h33⟩ := bk_X12_nameOf_220 h30
                        obtain ⟨e33, d33⟩ := f_X12_w4 x33
                        subst e33
                        subst d33
                        obtain ⟨n34, l34, h34⟩ := bk_X12_nameOf_235 h33
                        rcases h34 with ⟨c34, h34⟩ | ⟨c34, h34⟩
                        · obtain ⟨n35, l35, h35⟩ := bk_X12_nameOf_239 h34
                          obtain ⟨e36, d36⟩ := bk_X12_nameOf_245 h35
                          unfold F_X12_nameOf
                          rw [if_pos c1, if_neg c3, if_neg c6, if_neg c9, if_neg c12, if_neg c15, if_neg c18, if_neg c21, if_neg c24, if_neg c27, if_neg c30, if_pos c34]
                          exact ⟨e36, d36⟩
                        · obtain ⟨n37, l37, h37⟩ := bk_X12_nameOf_244 h34
                          obtain ⟨e38, d38⟩ := bk_X12_nameOf_245 h37
                          unfold F_X12_nameOf
                          rw [if_pos c1, if_neg c3, if_neg c6, if_neg c9, if_neg c12, if_neg c15, if_neg c18, if_neg c21, if_neg c24, if_neg c27, if_neg c30, if_neg c34]
                          exact ⟨e38, d38⟩
  · obtain ⟨e39, d39⟩ := bk_X12_nameOf_8 h1
    unfold F_X12_nameOf
    rw [if_neg c1]
    exact ⟨e39, d39⟩
