/-! Functions. -/
theorem jI_X7_write : ∀ (pc : Nat) (q : Instr × Nat), lkp iX7_write pc = some q → decode cX7_write pc = .ok q := fun pc q hq => jX7_write (pc, q) (lkp_in iX7_write hq)
theorem bk_X7_write_0 {ax : zAx} {CE : g_E} {n : Nat} {ρ : Nat → Int} {L : List Nat} {g : Nat → Nat → Int} {r : Option g_V} {h : g_H} (hr : g_run RX7 ax CE cX7_write n (0, ρ, [], L, g) r h) : ∃ n', n' < n ∧ ((300 ≤ g (ρ 0).toNat 5 ∧ g_run RX7 ax CE cX7_write n' (40, ρ, [], L, g) r h) ∨ (¬ (300 ≤ g (ρ 0).toNat 5) ∧ g_run RX7 ax CE cX7_write n' (10, ρ, [], L, g) r h)) := by
  obtain ⟨n1, e, h1⟩ := g_blk_ok noX7 jI_X7_write tab_X7 4 n hr (c2 := (if 300 ≤ g (ρ 0).toNat 5 then 40 else 10, ρ, [], L, g)) rfl
  refine ⟨n1, by omega, ?_⟩
  by_cases hc : 300 ≤ g (ρ 0).toNat 5
  · exact Or.inl ⟨hc, by rw [if_pos hc] at h1; exact h1⟩
  · exact Or.inr ⟨hc, by rw [if_neg hc] at h1; exact h1⟩
theorem bk_X7_write_10 {ax : zAx} {CE : g_E} {n : Nat} {ρ : Nat → Int} {L : List Nat} {g : Nat → Nat → Int} {r : Option g_V} {h : g_H} (hr : g_run RX7 ax CE cX7_write n (10, ρ, [], L, g) r h) : ∃ n', n' < n ∧ g_run RX7 ax CE cX7_write n' (40, ρ, [], L, (g_up (g_up (g_up g (g (ρ 0).toNat 3).toNat (g (ρ 0).toNat 5).toNat (ρ 1)) ((g_up g (g (ρ 0).toNat 3).toNat (g (ρ 0).toNat 5).toNat (ρ 1)) (ρ 0).toNat 4).toNat ((g_up g (g (ρ 0).toNat 3).toNat (g (ρ 0).toNat 5).toNat (ρ 1)) (ρ 0).toNat 5).toNat (ρ 2)) (ρ 0).toNat 5 (g_i (((g_up (g_up g (g (ρ 0).toNat 3).toNat (g (ρ 0).toNat 5).toNat (ρ 1)) ((g_up g (g (ρ 0).toNat 3).toNat (g (ρ 0).toNat 5).toNat (ρ 1)) (ρ 0).toNat 4).toNat ((g_up g (g (ρ 0).toNat 3).toNat (g (ρ 0).toNat 5).toNat (ρ 1)) (ρ 0).toNat 5).toNat (ρ 2)) (ρ 0).toNat 5) + 1)))) r h := by
  obtain ⟨n1, e, h1⟩ := g_blk_ok noX7 jI_X7_write tab_X7 18 n hr (c2 := (40, ρ, [], L, (g_up (g_up (g_up g (g (ρ 0).toNat 3).toNat (g (ρ 0).toNat 5).toNat (ρ 1)) ((g_up g (g (ρ 0).toNat 3).toNat (g (ρ 0).toNat 5).toNat (ρ 1)) (ρ 0).toNat 4).toNat ((g_up g (g (ρ 0).toNat 3).toNat (g (ρ 0).toNat 5).toNat (ρ 1)) (ρ 0).toNat 5).toNat (ρ 2)) (ρ 0).toNat 5 (g_i (((g_up (g_up g (g (ρ 0).toNat 3).toNat (g (ρ 0).toNat 5).toNat (ρ 1)) ((g_up g (g (ρ 0).toNat 3).toNat (g (ρ 0).toNat 5).toNat (ρ 1)) (ρ 0).toNat 4).toNat ((g_up g (g (ρ 0).toNat 3).toNat (g (ρ 0).toNat 5).toNat (ρ 1)) (ρ 0).toNat 5).toNat (ρ 2)) (ρ 0).toNat 5) + 1))))) rfl
  exact ⟨n1, by omega, h1⟩
theorem bk_X7_write_40 {ax : zAx} {CE : g_E} {n : Nat} {ρ : Nat → Int} {L : List Nat} {g : Nat → Nat → Int} {r : Option g_V} {h : g_H} (hr : g_run RX7 ax CE cX7_write n (40, ρ, [], L, g) r h) : r = none ∧ h = (L, g) := by
  obtain ⟨n1, e, h1⟩ := g_blk_ok noX7 jI_X7_write tab_X7 0 n hr (c2 := (40, ρ, [], L, g)) rfl
  exact g_retv_un noX7 (jI_X7_write 40 _ rfl) h1
def F_X7_write (x0 x1 x2 : Int) (g : Nat → Nat → Int) : (Nat → Nat → Int) := if 300 ≤ g x0.toNat 5 then g else (g_up (g_up (g_up g (g x0.toNat 3).toNat (g x0.toNat 5).toNat x1) ((g_up g (g x0.toNat 3).toNat (g x0.toNat 5).toNat x1) x0.toNat 4).toNat ((g_up g (g x0.toNat 3).toNat (g x0.toNat 5).toNat x1) x0.toNat 5).toNat x2) x0.toNat 5 (g_i (((g_up (g_up g (g x0.toNat 3).toNat (g x0.toNat 5).toNat x1) ((g_up g (g x0.toNat 3).toNat (g x0.toNat 5).toNat x1) x0.toNat 4).toNat ((g_up g (g x0.toNat 3).toNat (g x0.toNat 5).toNat x1) x0.toNat 5).toNat x2) x0.toNat 5) + 1)))
theorem f_X7_write {ax : zAx} {x0 x1 x2 : Int} {L : List Nat} {g : Nat → Nat → Int} {r : Option g_V} {h : g_H} (hx : g_ex ax yX7_write cX7_write [(0, x0), (1, x1), (2, x2)] (L, g) r h) : r = none ∧ h = (L, F_X7_write x0 x1 x2 g) := by
  obtain ⟨ρ, n0, hρ, h0⟩ := g_run_of hx
  obtain rfl : ρ 0 = x0 := hρ (0, x0) (by simp)
  obtain rfl : ρ 1 = x1 := hρ (1, x1) (by simp)
  obtain rfl : ρ 2 = x2 := hρ (2, x2) (by simp)
  obtain ⟨n1, l1, h1⟩ := bk_X7_write_0 h0
  rcases h1 with ⟨c1, h1⟩ | ⟨c1, h1⟩
  · obtain ⟨e2, d2⟩ := bk_X7_write_40 h1
    unfold F_X7_write
    rw [if_pos c1]
    exact ⟨e2, d2⟩
  · obtain ⟨n3, l3, h3⟩ := bk_X7_write_10 h1
    obtain ⟨e4, d4⟩ := bk_X7_write_40 h3
    unfold F_X7_write
    rw [if_neg c1]
    exact ⟨e4, d4⟩

theorem jI_X12_isWord : ∀ (pc : Nat) (q : Instr × Nat), lkp iX12_isWord pc = some q → decode cX12_isWord pc = .ok q := fun pc q hq => jX12_isWord (pc, q) (lkp_in iX12_isWord hq)
theorem bk_X12_isWord_0 {ax : zAx} {CE : g_E} {n : Nat} {ρ : Nat → Int} {L : List Nat} {g : Nat → Nat → Int} {r : Option g_V} {h : g_H} (hr : g_run RX12 ax CE cX12_isWord n (0, ρ, [], L, g) r h) : ∃ n', n' < n ∧ ((g (ρ 0).toNat 9 = 2 ∧ g_run RX12 ax CE cX12_isWord n' (8, ρ, [], L, g) r h) ∨ (¬ (g (ρ 0).toNat 9 = 2) ∧ g_run RX12 ax CE cX12_isWord n' (21, ρ, [], L, g) r h)) := by
  obtain ⟨n1, e, h1⟩ := g_blk_ok noX12 jI_X12_isWord tab_X12 4 n hr (c2 := (if g (ρ 0).toNat 9 = 2 then 8 else 21, ρ, [], L, g)) rfl
  refine ⟨n1, by omega, ?_⟩
  by_cases hc : g (ρ 0).toNat 9 = 2
  · exact Or.inl ⟨hc, by rw [if_pos hc] at h1; exact h1⟩
  · exact Or.inr ⟨hc, by rw [if_neg hc] at h1; exact h1⟩
theorem bk_X12_isWord_8 {ax : zAx} {CE : g_E} {n : Nat} {ρ : Nat → Int} {L : List Nat} {g : Nat → Nat → Int} {r : Option g_V} {h : g_H} (hr : g_run RX12 ax CE cX12_isWord n (8, ρ, [], L, g) r h) : ∃ n', n' < n ∧ (((if ρ 1 < g (ρ 0).toNat 11 then 1 else if g (ρ 0).toNat 11 = ρ 1 then 0 else -1) = 0 ∧ g_run RX12 ax CE cX12_isWord n' (17, ρ, [], L, g) r h) ∨ (¬ ((if ρ 1 < g (ρ 0).toNat 11 then 1 else if g (ρ 0).toNat 11 = ρ 1 then 0 else -1) = 0) ∧ g_run RX12 ax CE cX12_isWord n' (21, ρ, [], L, g) r h)) := by
  obtain ⟨n1, e, h1⟩ := g_blk_ok noX12 jI_X12_isWord tab_X12 5 n hr (c2 := (if (if ρ 1 < g (ρ 0).toNat 11 then 1 else if g (ρ 0).toNat 11 = ρ 1 then 0 else -1) = 0 then 17 else 21, ρ, [], L, g)) rfl
  replace h1 : g_run RX12 ax CE cX12_isWord n1 (if (if ρ 1 < g (ρ 0).toNat 11 then 1 else if g (ρ 0).toNat 11 = ρ 1 then 0 else -1) = 0 then 17 else 21, ρ, [], L, g) r h := h1
  refine ⟨n1, by omega, ?_⟩
  by_cases hc : (if ρ 1 < g (ρ 0).toNat 11 then 1 else if g (ρ 0).toNat 11 = ρ 1 then 0 else -1) = 0
  · exact Or.inl ⟨hc, by rw [if_pos hc] at h1; exact h1⟩
  · exact Or.inr ⟨hc, by rw [if_neg hc] at h1; exact h1⟩
theorem bk_X12_isWord_17 {ax : zAx} {CE : g_E} {n : Nat} {ρ : Nat → Int} {L : List Nat} {g : Nat → Nat → Int} {r : Option g_V} {h : g_H} (hr : g_run RX12 ax CE cX12_isWord n (17, ρ, [], L, g) r h) : ∃ n', n' < n ∧ g_run RX12 ax CE cX12_isWord n' (22, ρ, [(1, 1)], L, g) r h := by
  obtain ⟨n1, e, h1⟩ := g_blk_ok noX12 jI_X12_isWord tab_X12 2 n hr (c2 := (22, ρ, [(1, 1)], L, g)) rfl
  exact ⟨n1, by omega, h1⟩
theorem bk_X12_isWord_21 {ax : zAx} {CE : g_E} {n : Nat} {ρ : Nat → Int} {L : List Nat} {g : Nat → Nat → Int} {r : Option g_V} {h : g_H} (hr : g_run RX12 ax CE cX12_isWord n (21, ρ, [], L, g) r h) : ∃ n', n' < n ∧ g_run RX12 ax CE cX12_isWord n' (22, ρ, [(1, 0)], L, g) r h := by
  obtain ⟨n1, e, h1⟩ := g_blk_ok noX12 jI_X12_isWord tab_X12 1 n hr (c2 := (22, ρ, [(1, 0)], L, g)) rfl
  exact ⟨n1, by omega, h1⟩
theorem bk_X12_isWord_22 {ax : zAx} {CE : g_E} {n : Nat} {ρ : Nat → Int} {s0 : Int} {L : List Nat} {g : Nat → Nat → Int} {r : Option g_V} {h : g_H} (hr : g_run RX12 ax CE cX12_isWord n (22, ρ, [(1, s0)], L, g) r h) : r = some (1, s0) ∧ h = (L, g) := by
  obtain ⟨n1, e, h1⟩ := g_blk_ok noX12 jI_X12_isWord tab_X12 0 n hr (c2 := (22, ρ, [(1, s0)], L, g)) rfl
  exact g_ret_un noX12 (i := .ireturn) (jI_X12_isWord 22 _ rfl) (by decide) h1
def F_X12_isWord (x0 x1 : Int) (g : Nat → Nat → Int) : Int := if g x0.toNat 9 = 2 then if (if x1 < g x0.toNat 11 then 1 else if g x0.toNat 11 = x1 then 0 else -1) = 0 then 1 else 0 else 0
theorem f_X12_isWord {ax : zAx} {x0 x1 : Int} {L : List Nat} {g : Nat → Nat → Int} {r : Option g_V} {h : g_H} (hx : g_ex ax yX12_isWord cX12_isWord [(0, x0), (1, x1)] (L, g) r h) : r = some (1, F_X12_isWord x0 x1 g) ∧ h = (L, g) := by
  obtain ⟨ρ, n0, hρ, h0⟩ := g_run_of hx
  obtain rfl : ρ 0 = x0 := hρ (0, x0) (by simp)
  obtain rfl : ρ 1 = x1 := hρ (1, x1) (by simp)
  obtain ⟨n1, l1, h1⟩ := bk_X12_isWord_0 h0
  rcases h1 with ⟨c1, h1⟩ | ⟨c1, h1⟩
  · obtain ⟨n2, l2, h2⟩ := bk_X12_isWord_8 h1
    rcases h2 with ⟨c2, h2⟩ | ⟨c2, h2⟩
    · obtain ⟨n3, l3, h3⟩ := bk_X12_isWord_17 h2
      obtain ⟨e4, d4⟩ := bk_X12_isWord_22 h3
      unfold F_X12_isWord
      rw [if_pos c1, if_pos c2]
      exact ⟨e4, d4⟩
    · obtain ⟨n5, l5, h5⟩ := bk_X12_isWord_21 h2
      obtain ⟨e6, d6⟩ := bk_X12_isWord_22 h5
      unfold F_X12_isWord
      rw [if_pos c1, if_neg c2]
      exact ⟨e6, d6⟩
  · obtain ⟨n7, l7, h7⟩ := bk_X12_isWord_21 h1
    obtain ⟨e8, d8⟩ := bk_X12_isWord_22 h7
    unfold F_X12_isWord
    rw [if_neg c1]
    exact ⟨e8, d8⟩

theorem jI_X12_byteAt : ∀ (pc : Nat) (q : Instr × Nat), lkp iX12_byteAt pc = some q → decode cX12_byteAt pc = .ok q := fun pc q hq => jX12_byteAt (pc, q) (lkp_in iX12_byteAt hq)
theorem bk_X12_byteAt_0 {ax : zAx} {CE : g_E} {n : Nat} {ρ : Nat → Int} {L : List Nat} {g : Nat → Nat → Int} {r : Option g_V} {h : g_H} (hr : g_run RX12 ax CE cX12_byteAt n (0, ρ, [], L, g) r h) : ∃ n', n' < n ∧ ((g (ρ 0).toNat 4 ≤ ρ 1 ∧ g_run RX12 ax CE cX12_byteAt n' (17, ρ, [], L, g) r h) ∨ (¬ (g (ρ 0).toNat 4 ≤ ρ 1) ∧ g_run RX12 ax CE cX12_byteAt n' (8, ρ, [], L, g) r h)) := by
  obtain ⟨n1, e, h1⟩ := g_blk_ok noX12 jI_X12_byteAt tab_X12 4 n hr (c2 := (if g (ρ 0).toNat 4 ≤ ρ 1 then 17 else 8, ρ, [], L, g)) rfl
  refine ⟨n1, by omega, ?_⟩
  by_cases hc : g (ρ 0).toNat 4 ≤ ρ 1
  · exact Or.inl ⟨hc, by rw [if_pos hc] at h1; exact h1⟩
  · exact Or.inr ⟨hc, by rw [if_neg hc] at h1; exact h1⟩
theorem bk_X12_byteAt_8 {ax : zAx} {CE : g_E} {n : Nat} {ρ : Nat → Int} {L : List Nat} {g : Nat → Nat → Int} {r : Option g_V} {h : g_H} (hr : g_run RX12 ax CE cX12_byteAt n (8, ρ, [], L, g) r h) : ∃ n', n' < n ∧ g_run RX12 ax CE cX12_byteAt n' (18, ρ, [(1, g (g (ρ 0).toNat 3).toNat (ρ 1).toNat)], L, g) r h := by
  obtain ⟨n1, e, h1⟩ := g_blk_ok noX12 jI_X12_byteAt tab_X12 5 n hr (c2 := (18, ρ, [(1, g (g (ρ 0).toNat 3).toNat (ρ 1).toNat)], L, g)) rfl
  exact ⟨n1, by omega, h1⟩
theorem bk_X12_byteAt_17 {ax : zAx} {CE : g_E} {n : Nat} {ρ : Nat → Int} {L : List Nat} {g : Nat → Nat → Int} {r : Option g_V} {h : g_H} (hr : g_run RX12 ax CE cX12_byteAt n (17, ρ, [], L, g) r h) : ∃ n', n' < n ∧ g_run RX12 ax CE cX12_byteAt n' (18, ρ, [(1, (-1))], L, g) r h := by
  obtain ⟨n1, e, h1⟩ := g_blk_ok noX12 jI_X12_byteAt tab_X12 1 n hr (c2 := (18, ρ, [(1, (-1))], L, g)) rfl
  exact ⟨n1, by omega, h1⟩
theorem bk_X12_byteAt_18 {ax : zAx} {CE : g_E} {n : Nat} {ρ : Nat → Int} {s0 : Int} {L : List Nat} {g : Nat → Nat → Int} {r : Option g_V} {h : g_H} (hr : g_run RX12 ax CE cX12_byteAt n (18, ρ, [(1, s0)], L, g) r h) : r = some (1, s0) ∧ h = (L, g) := by
  obtain ⟨n1, e, h1⟩ := g_blk_ok noX12 jI_X12_byteAt tab_X12 0 n hr (c2 := (18, ρ, [(1, s0)], L, g)) rfl
  exact g_ret_un noX12 (i := .ireturn) (jI_X12_byteAt 18 _ rfl) (by decide) h1
def F_X12_byteAt (x0 x1 : Int) (g : Nat → Nat → Int) : Int := if g x0.toNat 4 ≤ x1 then (-1) else g (g x0.toNat 3).toNat x1.toNat
theorem f_X12_byteAt {ax : zAx} {x0 x1 : Int} {L : List Nat} {g : Nat → Nat → Int} {r : Option g_V} {h : g_H} (hx : g_ex ax yX12_byteAt cX12_byteAt [(0, x0), (1, x1)] (L, g) r h) : r = some (1, F_X12_byteAt x0 x1 g) ∧ h = (L, g) := by
  obtain ⟨ρ, n0, hρ, h0⟩ := g_run_of hx
  obtain rfl : ρ 0 = x0 := hρ (0, x0) (by simp)
  obtain rfl : ρ 1 = x1 := hρ (1, x1) (by simp)
  obtain ⟨n1, l1, h1⟩ := bk_X12_byteAt_0 h0
  rcases h1 with ⟨c1, h1⟩ | ⟨c1, h1⟩
  · obtain ⟨n2, l2, h2⟩ := bk_X12_byteAt_17 h1
    obtain ⟨e3, d3⟩ := bk_X12_byteAt_18 h2
    unfold F_X12_byteAt
    rw [if_pos c1]
    exact ⟨e3, d3⟩
  · obtain ⟨n4, l4, h4⟩ := bk_X12_byteAt_8 h1
    obtain ⟨e5, d5⟩ := bk_X12_byteAt_18 h4
    unfold F_X12_byteAt
    rw [if_neg c1]
    exact ⟨e5, d5⟩

theorem jI_X12_isLetterByte : ∀ (pc : Nat) (q : Instr × Nat), lkp iX12_isLetterByte pc = some q → decode cX12_isLetterByte pc = .ok q := fun pc q hq => jX12_isLetterByte (pc, q) (lkp_in iX12_isLetterByte hq)
theorem bk_X12_isLetterByte_0 {ax : zAx} {CE : g_E} {n : Nat} {ρ : Nat → Int} {L : List Nat} {g : Nat → Nat → Int} {r : Option g_V} {h : g_H} (hr : g_run RX12 ax CE cX12_isLetterByte n (0, ρ, [], L, g) r h) : ∃ n', n' < n ∧ ((ρ 0 < 97 ∧ g_run RX12 ax CE cX12_isLetterByte n' (12, ρ, [], L, g) r h) ∨ (¬ (ρ 0 < 97) ∧ g_run RX12 ax CE cX12_isLetterByte n' (6, ρ, [], L, g) r h)) := by
  obtain ⟨n1, e, h1⟩ := g_blk_ok noX12 jI_X12_isLetterByte tab_X12 3 n hr (c2 := (if ρ 0 < 97 then 12 else 6, ρ, [], L, g)) rfl
  refine ⟨n1, by omega, ?_⟩
  by_cases hc : ρ 0 < 97
  · exact Or.inl ⟨hc, by rw [if_pos hc] at h1; exact h1⟩
  · exact Or.inr ⟨hc, by rw [if_neg hc] at h1; exact h1⟩
theorem bk_X12_isLetterByte_6 {ax : zAx} {CE : g_E} {n : Nat} {ρ : Nat → Int} {L : List Nat} {g : Nat → Nat → Int} {r : Option g_V} {h : g_H} (hr : g_run RX12 ax CE cX12_isLetterByte n (6, ρ, [], L, g) r h) : ∃ n', n' < n ∧ ((ρ 0 ≤ 122 ∧ g_run RX12 ax CE cX12_isLetterByte n' (24, ρ, [], L, g) r h) ∨ (¬ (ρ 0 ≤ 122) ∧ g_run RX12 ax CE cX12_isLetterByte n' (12, ρ, [], L, g) r h)) := by
  obtain ⟨n1, e, h1⟩ := g_blk_ok noX12 jI_X12_isLetterByte tab_X12 3 n hr (c2 := (if ρ 0 ≤ 122 then 24 else 12, ρ, [], L, g)) rfl
  refine ⟨n1, by omega, ?_⟩
  by_cases hc : ρ 0 ≤ 122
  · exact Or.inl ⟨hc, by rw [if_pos hc] at h1; exact h1⟩
  · exact Or.inr ⟨hc, by rw [if_neg hc] at h1; exact h1⟩
theorem bk_X12_isLetterByte_12 {ax : zAx} {CE : g_E} {n : Nat} {ρ : Nat → Int} {L : List Nat} {g : Nat → Nat → Int} {r : Option g_V} {h : g_H} (hr : g_run RX12 ax CE cX12_isLetterByte n (12, ρ, [], L, g) r h) : ∃ n', n' < n ∧ ((ρ 0 < 65 ∧ g_run RX12 ax CE cX12_isLetterByte n' (28, ρ, [], L, g) r h) ∨ (¬ (ρ 0 < 65) ∧ g_run RX12 ax CE cX12_isLetterByte n' (18, ρ, [], L, g) r h)) := by
  obtain ⟨n1, e, h1⟩ := g_blk_ok noX12 jI_X12_isLetterByte tab_X12 3 n hr (c2 := (if ρ 0 < 65 then 28 else 18, ρ, [], L, g)) rfl
  refine ⟨n1, by omega, ?_⟩
  by_cases hc : ρ 0 < 65
  · exact Or.inl ⟨hc, by rw [if_pos hc] at h1; exact h1⟩
  · exact Or.inr ⟨hc, by rw [if_neg hc] at h1; exact h1⟩
theorem bk_X12_isLetterByte_18 {ax : zAx} {CE : g_E} {n : Nat} {ρ : Nat → Int} {L : List Nat} {g : Nat → Nat → Int} {r : Option g_V} {h : g_H} (hr : g_run RX12 ax CE cX12_isLetterByte n (18, ρ, [], L, g) r h) : ∃ n', n' < n ∧ ((90 < ρ 0 ∧ g_run RX12 ax CE cX12_isLetterByte n' (28, ρ, [], L, g) r h) ∨ (¬ (90 < ρ 0) ∧ g_run RX12 ax CE cX12_isLetterByte n' (24, ρ, [], L, g) r h)) := by
  obtain ⟨n1, e, h1⟩ := g_blk_ok noX12 jI_X12_isLetterByte tab_X12 3 n hr (c2 := (if 90 < ρ 0 then 28 else 24, ρ, [], L, g)) rfl
  refine ⟨n1, by omega, ?_⟩
  by_cases hc : 90 < ρ 0
  · exact Or.inl ⟨hc, by rw [if_pos hc] at h1; exact h1⟩
  · exact Or.inr ⟨hc, by rw [if_neg hc] at h1; exact h1⟩
theorem bk_X12_isLetterByte_24 {ax : zAx} {CE : g_E} {n : Nat} {ρ : Nat → Int} {L : List Nat} {g : Nat → Nat → Int} {r : Option g_V} {h : g_H} (hr : g_run RX12 ax CE cX12_isLetterByte n (24, ρ, [], L, g) r h) : ∃ n', n' < n ∧ g_run RX12 ax CE cX12_isLetterByte n' (29, ρ, [(1, 1)], L, g) r h := by
  obtain ⟨n1, e, h1⟩ := g_blk_ok noX12 jI_X12_isLetterByte tab_X12 2 n hr (c2 := (29, ρ, [(1, 1)], L, g)) rfl
  exact ⟨n1, by omega, h1⟩
theorem bk_X12_isLetterByte_28 {ax : zAx} {CE : g_E} {n : Nat} {ρ : Nat → Int} {L : List Nat} {g : Nat → Nat → Int} {r : Option g_V} {h : g_H} (hr : g_run RX12 ax CE cX12_isLetterByte n (28, ρ, [], L, g) r h) : ∃ n', n' < n ∧ g_run RX12 ax CE cX12_isLetterByte n' (29, ρ, [(1, 0)], L, g) r h := by
  obtain ⟨n1, e, h1⟩ := g_blk_ok noX12 jI_X12_isLetterByte tab_X12 1 n hr (c2 := (29, ρ, [(1, 0)], L, g)) rfl
  exact ⟨n1, by omega, h1⟩
theorem bk_X12_isLetterByte_29 {ax : zAx} {CE : g_E} {n : Nat} {ρ : Nat → Int} {s0 : Int} {L : List Nat} {g : Nat → Nat → Int} {r : Option g_V} {h : g_H} (hr : g_run RX12 ax CE cX12_isLetterByte n (29, ρ, [(1, s0)], L, g) r h) : r = some (1, s0) ∧ h = (L, g) := by
  obtain ⟨n1, e, h1⟩ := g_blk_ok noX12 jI_X12_isLetterByte tab_X12 0 n hr (c2 := (29, ρ, [(1, s0)], L, g)) rfl
  exact g_ret_un noX12 (i := .ireturn) (jI_X12_isLetterByte 29 _ rfl) (by decide) h1
def F_X12_isLetterByte (x0 : Int) (g : Nat → Nat → Int) : Int := if x0 < 97 then if x0 < 65 then 0 else if 90 < x0 then 0 else 1 else if x0 ≤ 122 then 1 else if x0 < 65 then 0 else if 90 < x0 then 0 else 1
theorem f_X12_isLetterByte {ax : zAx} {x0 : Int} {L : List Nat} {g : Nat → Nat → Int} {r : Option g_V} {h : g_H} (hx : g_ex ax yX12_isLetterByte cX12_isLetterByte [(0, x0)] (L, g) r h) : r = some (1, F_X12_isLetterByte x0 g) ∧ h = (L, g) := by
  obtain ⟨ρ, n0, hρ, h0⟩ := g_run_of hx
  obtain rfl : ρ 0 = x0 := hρ (0, x0) (by simp)
  obtain ⟨n1, l1, h1⟩ := bk_X12_isLetterByte_0 h0
  rcases h1 with ⟨c1, h1⟩ | ⟨c1, h1⟩
  · obtain ⟨n2, l2, h2⟩ := bk_X12_isLetterByte_12 h1
    rcases h2 with ⟨c2, h2⟩ | ⟨c2, h2⟩
    · obtain ⟨n3, l3, h3⟩ := bk_X12_isLetterByte_28 h2
      obtain ⟨e4, d4⟩ := bk_X12_isLetterByte_29 h3
      unfold F_X12_isLetterByte
      rw [if_pos c1, if_pos c2]
      exact ⟨e4, d4⟩
    · obtain ⟨n5, l5, h5⟩ := bk_X12_isLetterByte_18 h2
      rcases h5 with ⟨c5, h5⟩ | ⟨c5, h5⟩
      · obtain ⟨n6, l6, h6⟩ := bk_X12_isLetterByte_28 h5
        obtain ⟨e7, d7⟩ := bk_X12_isLetterByte_29 h6
        unfold F_X12_isLetterByte
        rw [if_pos c1, if_neg c2, if_pos c5]
        exact ⟨e7, d7⟩
      · obtain ⟨n8, l8, h8⟩ := bk_X12_isLetterByte_24 h5
        obtain ⟨e9, d9⟩ := bk_X12_isLetterByte_29 h8
        unfold F_X12_isLetterByte
        rw [if_pos c1, if_neg c2, if_neg c5]
        exact ⟨e9, d9⟩
  · obtain ⟨n10, l10, h10⟩ := bk_X12_isLetterByte_6 h1
    rcases h10 with ⟨c10, h10⟩ | ⟨c10, h10⟩
    · obtain ⟨n11, l11, h11⟩ := bk_X12_isLetterByte_24 h10
      obtain ⟨e12, d12⟩ := bk_X12_isLetterByte_29 h11
      unfold F_X12_isLetterByte
      rw [if_neg c1, if_pos c10]
      exact ⟨e12, d12⟩
    · obtain ⟨n13, l13, h13⟩ := bk_X12_isLetterByte_12 h10
      rcases h13 with ⟨c13, h13⟩ | ⟨c13, h13⟩
      · obtain ⟨n14, l14, h14⟩ := bk_X12_isLetterByte_28 h13
        obtain ⟨e15, d15⟩ := bk_X12_isLetterByte_29 h14
        unfold F_X12_isLetterByte
        rw [if_neg c1, if_neg c10, if_pos c13]
        exact ⟨e15, d15⟩
      · obtain ⟨n16, l16, h16⟩ := bk_X12_isLetterByte_18 h13
        rcases h16 with ⟨c16, h16⟩ | ⟨c16, h16⟩
        · obtain ⟨n17, l17, h17⟩ := bk_X12_isLetterByte_28 h16
          obtain ⟨e18, d18⟩ := bk_X12_isLetterByte_29 h17
          unfold F_X12_isLetterByte
          rw [if_neg c1, if_neg c10, if_neg c13, if_pos c16]
          exact ⟨e18, d18⟩
        · obtain ⟨n19, l19, h19⟩ := bk_X12_isLetterByte_24 h16
          obtain ⟨e20, d20⟩ := bk_X12_isLetterByte_29 h19
          unfold F_X12_isLetterByte
          rw [if_neg c1, if_neg c10, if_neg c13, if_neg c16]
          exact ⟨e20, d20⟩

theorem jI_X12_isFigure : ∀ (pc : Nat) (q : Instr × Nat), lkp iX12_isFigure pc = some q → decode cX12_isFigure pc = .ok q := fun pc q hq => jX12_isFigure (pc, q) (lkp_in iX12_isFigure hq)
theorem bk_X12_isFigure_0 {ax : zAx} {CE : g_E} {n : Nat} {ρ : Nat → Int} {L : List Nat} {g : Nat → Nat → Int} {r : Option g_V} {h : g_H} (hr : g_run RX12 ax CE cX12_isFigure n (0, ρ, [], L, g) r h) : ∃ n', n' < n ∧ ((ρ 0 < 48 ∧ g_run RX12 ax CE cX12_isFigure n' (16, ρ, [], L, g) r h) ∨ (¬ (ρ 0 < 48) ∧ g_run RX12 ax CE cX12_isFigure n' (6, ρ, [], L, g) r h)) := by
  obtain ⟨n1, e, h1⟩ := g_blk_ok noX12 jI_X12_isFigure tab_X12 3 n hr (c2 := (if ρ 0 < 48 then 16 else 6, ρ, [], L, g)) rfl
  refine ⟨n1, by omega, ?_⟩
  by_cases hc : ρ 0 < 48
  · exact Or.inl ⟨hc, by rw [if_pos hc] at h1; exact h1⟩
  · exact Or.inr ⟨hc, by rw [if_neg hc] at h1; exact h1⟩
theorem bk_X12_isFigure_6 {ax : zAx} {CE : g_E} {n : Nat} {ρ : Nat → Int} {L : List Nat} {g : Nat → Nat → Int} {r : Option g_V} {h : g_H} (hr : g_run RX12 ax CE cX12_isFigure n (6, ρ, [], L, g) r h) : ∃ n', n' < n ∧ ((57 < ρ 0 ∧ g_run RX12 ax CE cX12_isFigure n' (16, ρ, [], L, g) r h) ∨ (¬ (57 < ρ 0) ∧ g_run RX12 ax CE cX12_isFigure n' (12, ρ, [], L, g) r h)) := by
  obtain ⟨n1, e, h1⟩ := g_blk_ok noX12 jI_X12_isFigure tab_X12 3 n hr (c2 := (if 57 < ρ 0 then 16 else 12, ρ, [], L, g)) rfl
  refine ⟨n1, by omega, ?_⟩
  by_cases hc : 57 < ρ 0
  · exact Or.inl ⟨hc, by rw [if_pos hc] at h1; exact h1⟩
  · exact Or.inr ⟨hc, by rw [if_neg hc] at h1; exact h1⟩
theorem bk_X12_isFigure_12 {ax : zAx} {CE : g_E} {n : Nat} {ρ : Nat → Int} {L : List Nat} {g : Nat → Nat → Int} {r : Option g_V} {h : g_H} (hr : g_run RX12 ax CE cX12_isFigure n (12, ρ, [], L, g) r h) : ∃ n', n' < n ∧ g_run RX12 ax CE cX12_isFigure n' (17, ρ, [(1, 1)], L, g) r h := by
  obtain ⟨n1, e, h1⟩ := g_blk_ok noX12 jI_X12_isFigure tab_X12 2 n hr (c2 := (17, ρ, [(1, 1)], L, g)) rfl
  exact ⟨n1, by omega, h1⟩
theorem bk_X12_isFigure_16 {ax : zAx} {CE : g_E} {n : Nat} {ρ : Nat → Int} {L : List Nat} {g : Nat → Nat → Int} {r : Option g_V} {h : g_H} (hr : g_run RX12 ax CE cX12_isFigure n (16, ρ, [], L, g) r h) : ∃ n', n' < n ∧ g_run RX12 ax CE cX12_isFigure n' (17, ρ, [(1, 0)], L, g) r h := by
  obtain ⟨n1, e, h1⟩ := g_blk_ok noX12 jI_X12_isFigure tab_X12 1 n hr (c2 := (17, ρ, [(1, 0)], L, g)) rfl
  exact ⟨n1, by omega, h1⟩
theorem bk_X12_isFigure_17 {ax : zAx} {CE : g_E} {n : Nat} {ρ : Nat → Int} {s0 : Int} {L : List Nat} {g : Nat → Nat → Int} {r : Option g_V} {h : g_H} (hr : g_run RX12 ax CE cX12_isFigure n (17, ρ, [(1, s0)], L, g) r h) : r = some (1, s0) ∧ h = (L, g) := by
  obtain ⟨n1, e, h1⟩ := g_blk_ok noX12 jI_X12_isFigure tab_X12 0 n hr (c2 := (17, ρ, [(1, s0)], L, g)) rfl
  exact g_ret_un noX12 (i := .ireturn) (jI_X12_isFigure 17 _ rfl) (by decide) h1
def F_X12_isFigure (x0 : Int) (g : Nat → Nat → Int) : Int := if x0 < 48 then 0 else if 57 < x0 then 0 else 1
theorem f_X12_isFigure {ax : zAx} {x0 : Int} {L : List Nat} {g : Nat → Nat → Int} {r : Option g_V} {h : g_H} (hx : g_ex ax yX12_isFigure cX12_isFigure [(0, x0)] (L, g) r h) : r = some (1, F_X12_isFigure x0 g) ∧ h = (L, g) := by
  obtain ⟨ρ, n0, hρ, h0⟩ := g_run_of hx
  obtain rfl : ρ 0 = x0 := hρ (0, x0) (by simp)
  obtain ⟨n1, l1, h1⟩ := bk_X12_isFigure_0 h0
  rcases h1 with ⟨c1, h1⟩ | ⟨c1, h1⟩
  · obtain ⟨n2, l2, h2⟩ := bk_X12_isFigure_16 h1
    obtain ⟨e3, d3⟩ := bk_X12_isFigure_17 h2
    unfold F_X12_isFigure
    rw [if_pos c1]
    exact ⟨e3, d3⟩
  · obtain ⟨n4, l4, h4⟩ := bk_X12_isFigure_6 h1
    rcases h4 with ⟨c4, h4⟩ | ⟨c4, h4⟩
    · obtain ⟨n5, l5, h5⟩ := bk_X12_isFigure_16 h4
      obtain ⟨e6, d6⟩ := bk_X12_isFigure_17 h5
      unfold F_X12_isFigure
      rw [if_neg c1, if_pos c4]
      exact ⟨e6, d6⟩
    · obtain ⟨n7, l7, h7⟩ := bk_X12_isFigure_12 h4
      obtain ⟨e8, d8⟩ := bk_X12_isFigure_17 h7
      unfold F_X12_isFigure
      rw [if_neg c1, if_neg c4]
      exact ⟨e8, d8⟩

theorem jI_X12_isSign : ∀ (pc : Nat) (q : Instr × Nat), lkp iX12_isSign pc = some q → decode cX12_isSign pc = .ok q := fun pc q hq => jX12_isSign (pc, q) (lkp_in iX12_isSign hq)
theorem bk_X12_isSign_0 {ax : zAx} {CE : g_E} {n : Nat} {ρ : Nat → Int} {L : List Nat} {g : Nat → Nat → Int} {r : Option g_V} {h : g_H} (hr : g_run RX12 ax CE cX12_isSign n (0, ρ, [], L, g) r h) : ∃ n', n' < n ∧ (((ρ 0 < 35 ∨ 62 < ρ 0) ∧ g_run RX12 ax CE cX12_isSign n' (130, ρ, [], L, g) r h) ∨ (ρ 0 = 35 ∧ g_run RX12 ax CE cX12_isSign n' (128, ρ, [], L, g) r h) ∨ (ρ 0 = 36 ∧ g_run RX12 ax CE cX12_isSign n' (130, ρ, [], L, g) r h) ∨ (ρ 0 = 37 ∧ g_run RX12 ax CE cX12_isSign n' (130, ρ, [], L, g) r h) ∨ (ρ 0 = 38 ∧ g_run RX12 ax CE cX12_isSign n' (130, ρ, [], L, g) r h) ∨ (ρ 0 = 39 ∧ g_run RX12 ax CE cX12_isSign n' (130, ρ, [], L, g) r h) ∨ (ρ 0 = 40 ∧ g_run RX12 ax CE cX12_isSign n' (128, ρ, [], L, g) r h) ∨ (ρ 0 = 41 ∧ g_run RX12 ax CE cX12_isSign n' (128, ρ, [], L, g) r h) ∨ (ρ 0 = 42 ∧ g_run RX12 ax CE cX12_isSign n' (128, ρ, [], L, g) r h) ∨ (ρ 0 = 43 ∧ g_run RX12 ax CE cX12_isSign n' (128, ρ, [], L, g) r h) ∨ (ρ 0 = 44 ∧ g_run RX12 ax CE cX12_isSign n' (130, ρ, [], L, g) r h) ∨ (ρ 0 = 45 ∧ g_run RX12 ax CE cX12_isSign n' (128, ρ, [], L, g) r h) ∨ (ρ 0 = 46 ∧ g_run RX12 ax CE cX12_isSign n' (130, ρ, [], L, g) r h) ∨ (ρ 0 = 47 ∧ g_run RX12 ax CE cX12_isSign n' (128, ρ, [], L, g) r h) ∨ (ρ 0 = 48 ∧ g_run RX12 ax CE cX12_isSign n' (130, ρ, [], L, g) r h) ∨ (ρ 0 = 49 ∧ g_run RX12 ax CE cX12_isSign n' (130, ρ, [], L, g) r h) ∨ (ρ 0 = 50 ∧ g_run RX12 ax CE cX12_isSign n' (130, ρ, [], L, g) r h) ∨ (ρ 0 = 51 ∧ g_run RX12 ax CE cX12_isSign n' (130, ρ, [], L, g) r h) ∨ (ρ 0 = 52 ∧ g_run RX12 ax CE cX12_isSign n' (130, ρ, [], L, g) r h) ∨ (ρ 0 = 53 ∧ g_run RX12 ax CE cX12_isSign n' (130, ρ, [], L, g) r h) ∨ (ρ 0 = 54 ∧ g_run RX12 ax CE cX12_isSign n' (130, ρ, [], L, g) r h) ∨ (ρ 0 = 55 ∧ g_run RX12 ax CE cX12_isSign n' (130, ρ, [], L, g) r h) ∨ (ρ 0 = 56 ∧ g_run RX12 ax CE cX12_isSign n' (130, ρ, [], L, g) r h) ∨ (ρ 0 = 57 ∧ g_run RX12 ax CE cX12_isSign n' (130, ρ, [], L, g) r h) ∨ (ρ 0 = 58 ∧ g_run RX12 ax CE cX12_isSign n' (130, ρ, [], L, g) r h) ∨ (ρ 0 = 59 ∧ g_run RX12 ax CE cX12_isSign n' (128, ρ, [], L, g) r h) ∨ (ρ 0 = 60 ∧ g_run RX12 ax CE cX12_isSign n' (128, ρ, [], L, g) r h) ∨ (ρ 0 = 61 ∧ g_run RX12 ax CE cX12_isSign n' (128, ρ, [], L, g) r h) ∨ (ρ 0 = 62 ∧ g_run RX12 ax CE cX12_isSign n' (128, ρ, [], L, g) r h)) := by
  obtain ⟨n1, e, h1⟩ := g_blk_ok noX12 jI_X12_isSign tab_X12 2 n hr (c2 := (if ρ 0 < 35 ∨ 62 < ρ 0 then 130 else ((1 : Int) + (#[127, 129, 129, 129, 129, 127, 127, 127, 127, 129, 127, 129, 127, 129, 129, 129, 129, 129, 129, 129, 129, 129, 129, 129, 127, 127, 127, 127] : Array Int).getD (ρ 0 - 35).toNat 0).toNat, ρ, [], L, g)) rfl
  refine ⟨n1, by omega, ?_⟩
  by_cases hc : ρ 0 < 35 ∨ 62 < ρ 0
  · exact Or.inl ⟨hc, by rw [if_pos hc] at h1; exact h1⟩
  · rw [if_neg hc] at h1
    rcases (show ρ 0 = 35 ∨ ρ 0 = 36 ∨ ρ 0 = 37 ∨ ρ 0 = 38 ∨ ρ 0 = 39 ∨ ρ 0 = 40 ∨ ρ 0 = 41 ∨ ρ 0 = 42 ∨ ρ 0 = 43 ∨ ρ 0 = 44 ∨ ρ 0 = 45 ∨ ρ 0 = 46 ∨ ρ 0 = 47 ∨ ρ 0 = 48 ∨ ρ 0 = 49 ∨ ρ 0 = 50 ∨ ρ 0 = 51 ∨ ρ 0 = 52 ∨ ρ 0 = 53 ∨ ρ 0 = 54 ∨ ρ 0 = 55 ∨ ρ 0 = 56 ∨ ρ 0 = 57 ∨ ρ 0 = 58 ∨ ρ 0 = 59 ∨ ρ 0 = 60 ∨ ρ 0 = 61 ∨ ρ 0 = 62 by omega) with hk | hk | hk | hk | hk | hk | hk | hk | hk | hk | hk | hk | hk | hk | hk | hk | hk | hk | hk | hk | hk | hk | hk | hk | hk | hk | hk | hk
    · have hp : ((1 : Int) + (#[127, 129, 129, 129, 129, 127, 127, 127, 127, 129, 127, 129, 127, 129, 129, 129, 129, 129, 129, 129, 129, 129, 129, 129, 127, 127, 127, 127] : Array Int).getD (ρ 0 - 35).toNat 0).toNat = 128 := by rw [hk]; rfl
      exact Or.inr (Or.inl ⟨hk, by rw [hp] at h1; exact h1⟩)
    · have hp : ((1 : Int) + (#[127, 129, 129, 129, 129, 127, 127, 127, 127, 129, 127, 129, 127, 129, 129, 129, 129, 129, 129, 129, 129, 129, 129, 129, 127, 127, 127, 127] : Array Int).getD (ρ 0 - 35).toNat 0).toNat = 130 := by rw [hk]; rfl
      exact Or.inr (Or.inr (Or.inl ⟨hk, by rw [hp] at h1; exact h1⟩))
    · have hp : ((1 : Int) + (#[127, 129, 129, 129, 129, 127, 127, 127, 127, 129, 127, 129, 127, 129, 129, 129, 129, 129, 129, 129, 129, 129, 129, 129, 127, 127, 127, 127] : Array Int).getD (ρ 0 - 35).toNat 0).toNat = 130 := by rw [hk]; rfl
      exact Or.inr (Or.inr (Or.inr (Or.inl ⟨hk, by rw [hp] at h1; exact h1⟩)))
    · have hp : ((1 : Int) + (#[127, 129, 129, 129, 129, 127, 127, 127, 127, 129, 127, 129, 127, 129, 129, 129, 129, 129, 129, 129, 129, 129, 129, 129, 127, 127, 127, 127] : Array Int).getD (ρ 0 - 35).toNat 0).toNat = 130 := by rw [hk]; rfl
      exact Or.inr (Or.inr (Or.inr (Or.inr (Or.inl ⟨hk, by rw [hp] at h1; exact h1⟩))))
    · have hp : ((1 : Int) + (#[127, 129, 129, 129, 129, 127, 127, 127, 127, 129, 127, 129, 127, 129, 129, 129, 129, 129, 129, 129, 129, 129, 129, 129, 127, 127, 127, 127] : Array Int).getD (ρ 0 - 35).toNat 0).toNat = 130 := by rw [hk]; rfl
      exact Or.inr (Or.inr (Or.inr (Or.inr (Or.inr (Or.inl ⟨hk, by rw [hp] at h1; exact h1⟩)))))
    · have hp : ((1 : Int) + (#[127, 129, 129, 129, 129, 127, 127, 127, 127, 129, 127, 129, 127, 129, 129, 129, 129, 129, 129, 129, 129, 129, 129, 129, 127, 127, 127, 127] : Array Int).getD (ρ 0 - 35).toNat 0).toNat = 128 := by rw [hk]; rfl
      exact Or.inr (Or.inr (Or.inr (Or.inr (Or.inr (Or.inr (Or.inl ⟨hk, by rw [hp] at h1; exact h1⟩))))))
    · have hp : ((1 : Int) + (#[127, 129, 129, 129, 129, 127, 127, 127, 127, 129, 127, 129, 127, 129, 129, 129, 129, 129, 129, 129, 129, 129, 129, 129, 127, 127, 127, 127] : Array Int).getD (ρ 0 - 35).toNat 0).toNat = 128 := by rw [hk]; rfl
      exact Or.inr (Or.inr (Or.inr (Or.inr (Or.inr (Or.inr (Or.inr (Or.inl ⟨hk, by rw [hp] at h1; exact h1⟩)))))))
    · have hp : ((1 : Int) + (#[127, 129, 129, 129, 129, 127, 127, 127, 127, 129, 127, 129, 127, 129, 129, 129, 129, 129, 129, 129, 129, 129, 129, 129, 127, 127, 127, 127] : Array Int).getD (ρ 0 - 35).toNat 0).toNat = 128 := by rw [hk]; rfl
      exact Or.inr (Or.inr (Or.inr (Or.inr (Or.inr (Or.inr (Or.inr (Or.inr (Or.inl ⟨hk, by rw [hp] at h1; exact h1⟩))))))))
    · have hp : ((1 : Int) + (#[127, 129, 129, 129, 129, 127, 127, 127, 127, 129, 127, 129, 127, 129, 129, 129, 129, 129, 129, 129, 129, 129, 129, 129, 127, 127, 127, 127] : Array Int).getD (ρ 0 - 35).toNat 0).toNat = 128 := by rw [hk]; rfl
      exact Or.inr (Or.inr (Or.inr (Or.inr (Or.inr (Or.inr (Or.inr (Or.inr (Or.inr (Or.inl ⟨hk, by rw [hp] at h1; exact h1⟩)))))))))
    · have hp : ((1 : Int) + (#[127, 129, 129, 129, 129, 127, 127, 127, 127, 129, 127, 129, 127, 129, 129, 129, 129, 129, 129, 129, 129, 129, 129, 129, 127, 127, 127, 127] : Array Int).getD (ρ 0 - 35).toNat 0).toNat = 130 := by rw [hk]; rfl
      exact Or.inr (Or.inr (Or.inr (Or.inr (Or.inr (Or.inr (Or.inr (Or.inr (Or.inr (Or.inr (Or.inl ⟨hk, by rw [hp] at h1; exact h1⟩))))))))))
    · have hp : ((1 : Int) + (#[127, 129, 129, 129, 129, 127, 127, 127, 127, 129, 127, 129, 127, 129, 129, 129, 129, 129, 129, 129, 129, 129, 129, 129, 127, 127, 127, 127] : Array Int).getD (ρ 0 - 35).toNat 0).toNat = 128 := by rw [hk]; rfl
      exact Or.inr (Or.inr (Or.inr (Or.inr (Or.inr (Or.inr (Or.inr (Or.inr (Or.inr (Or.inr (Or.inr (Or.inl ⟨hk, by rw [hp] at h1; exact h1⟩)))))))))))
    · have hp : ((1 : Int) + (#[127, 129, 129, 129, 129, 127, 127, 127, 127, 129, 127, 129, 127, 129, 129, 129, 129, 129, 129, 129, 129, 129, 129, 129, 127, 127, 127, 127] : Array Int).getD (ρ 0 - 35).toNat 0).toNat = 130 := by rw [hk]; rfl
      exact Or.inr (Or.inr (Or.inr (Or.inr (Or.inr (Or.inr (Or.inr (Or.inr (Or.inr (Or.inr (Or.inr (Or.inr (Or.inl ⟨hk, by rw [hp] at h1; exact h1⟩))))))))))))
    · have hp : ((1 : Int) + (#[127, 129, 129, 129, 129, 127, 127, 127, 127, 129, 127, 129, 127, 129, 129, 129, 129, 129, 129, 129, 129, 129, 129, 129, 127, 127, 127, 127] : Array Int).getD (ρ 0 - 35).toNat 0).toNat = 128 := by rw [hk]; rfl
      exact Or.inr (Or.inr (Or.inr (Or.inr (Or.inr (Or.inr (Or.inr (Or.inr (Or.inr (Or.inr (Or.inr (Or.inr (Or.inr (Or.inl ⟨hk, by rw [hp] at h1; exact h1⟩)))))))))))))
    · have hp : ((1 : Int) + (#[127, 129, 129, 129, 129, 127, 127, 127, 127, 129, 127, 129, 127, 129, 129, 129, 129, 129, 129, 129, 129, 129, 129, 129, 127, 127, 127, 127] : Array Int).getD (ρ 0 - 35).toNat 0).toNat = 130 := by rw [hk]; rfl
      exact Or.inr (Or.inr (Or.inr (Or.inr (Or.inr (Or.inr (Or.inr (Or.inr (Or.inr (Or.inr (Or.inr (Or.inr (Or.inr (Or.inr (Or.inl ⟨hk, by rw [hp] at h1; exact h1⟩))))))))))))))
    · have hp : ((1 : Int) + (#[127, 129, 129, 129, 129, 127, 127, 127, 127, 129, 127, 129, 127, 129, 129, 129, 129, 129, 129, 129, 129, 129, 129, 129, 127, 127, 127, 127] : Array Int).getD (ρ 0 - 35).toNat 0).toNat = 130 := by rw [hk]; rfl
      exact Or.inr (Or.inr (Or.inr (Or.inr (Or.inr (Or.inr (Or.inr (Or.inr (Or.inr (Or.inr (Or.inr (Or.inr (Or.inr (Or.inr (Or.inr (Or.inl ⟨hk, by rw [hp] at h1; exact h1⟩)))))))))))))))
    · have hp : ((1 : Int) + (#[127, 129, 129, 129, 129, 127, 127, 127, 127, 129, 127, 129, 127, 129, 129, 129, 129, 129, 129, 129, 129, 129, 129, 129, 127, 127, 127, 127] : Array Int).getD (ρ 0 - 35).toNat 0).toNat = 130 := by rw [hk]; rfl
      exact Or.inr (Or.inr (Or.inr (Or.inr (Or.inr (Or.inr (Or.inr (Or.inr (Or.inr (Or.inr (Or.inr (Or.inr (Or.inr (Or.inr (Or.inr (Or.inr (Or.inl ⟨hk, by rw [hp] at h1; exact h1⟩))))))))))))))))
    · have hp : ((1 : Int) + (#[127, 129, 129, 129, 129, 127, 127, 127, 127, 129, 127, 129, 127, 129, 129, 129, 129, 129, 129, 129, 129, 129, 129, 129, 127, 127, 127, 127] : Array Int).getD (ρ 0 - 35).toNat 0).toNat = 130 := by rw [hk]; rfl
      exact Or.inr (Or.inr (Or.inr (Or.inr (Or.inr (Or.inr (Or.inr (Or.inr (Or.inr (Or.inr (Or.inr (Or.inr (Or.inr (Or.inr (Or.inr (Or.inr (Or.inr (Or.inl ⟨hk, by rw [hp] at h1; exact h1⟩)))))))))))))))))
    · have hp : ((1 : Int) + (#[127, 129, 129, 129, 129, 127, 127, 127, 127, 129, 127, 129, 127, 129, 129, 129, 129, 129, 129, 129, 129, 129, 129, 129, 127, 127, 127, 127] : Array Int).getD (ρ 0 - 35).toNat 0).toNat = 130 := by rw [hk]; rfl
      exact Or.inr (Or.inr (Or.inr (Or.inr (Or.inr (Or.inr (Or.inr (Or.inr (Or.inr (Or.inr (Or.inr (Or.inr (Or.inr (Or.inr (Or.inr (Or.inr (Or.inr (Or.inr (Or.inl ⟨hk, by rw [hp] at h1; exact h1⟩))))))))))))))))))
    · have hp : ((1 : Int) + (#[127, 129, 129, 129, 129, 127, 127, 127, 127, 129, 127, 129, 127, 129, 129, 129, 129, 129, 129, 129, 129, 129, 129, 129, 127, 127, 127, 127] : Array Int).getD (ρ 0 - 35).toNat 0).toNat = 130 := by rw [hk]; rfl
      exact Or.inr (Or.inr (Or.inr (Or.inr (Or.inr (Or.inr (Or.inr (Or.inr (Or.inr (Or.inr (Or.inr (Or.inr (Or.inr (Or.inr (Or.inr (Or.inr (Or.inr (Or.inr (Or.inr (Or.inl ⟨hk, by rw [hp] at h1; exact h1⟩)))))))))))))))))))
    · have hp : ((1 : Int) + (#[127, 129, 129, 129, 129, 127, 127, 127, 127, 129, 127, 129, 127, 129, 129, 129, 129, 129, 129, 129, 129, 129, 129, 129, 127, 127, 127, 127] : Array Int).getD (ρ 0 - 35).toNat 0).toNat = 130 := by rw [hk]; rfl
      exact Or.inr (Or.inr (Or.inr (Or.inr (Or.inr (Or.inr (Or.inr (Or.inr (Or.inr (Or.inr (Or.inr (Or.inr (Or.inr (Or.inr (Or.inr (Or.inr (Or.inr (Or.inr (Or.inr (Or.inr (Or.inl ⟨hk, by rw [hp] at h1; exact h1⟩))))))))))))))))))))
    · have hp : ((1 : Int) + (#[127, 129, 129, 129, 129, 127, 127, 127, 127, 129, 127, 129, 127, 129, 129, 129, 129, 129, 129, 129, 129, 129, 129, 129, 127, 127, 127, 127] : Array Int).getD (ρ 0 - 35).toNat 0).toNat = 130 := by rw [hk]; rfl
      exact Or.inr (Or.inr (Or.inr (Or.inr (Or.inr (Or.inr (Or.inr (Or.inr (Or.inr (Or.inr (Or.inr (Or.inr (Or.inr (Or.inr (Or.inr (Or.inr (Or.inr (Or.inr (Or.inr (Or.inr (Or.inr (Or.inl ⟨hk, by rw [hp] at h1; exact h1⟩)))))))))))))))))))))
    · have hp : ((1 : Int) + (#[127, 129, 129, 129, 129, 127, 127, 127, 127, 129, 127, 129, 127, 129, 129, 129, 129, 129, 129, 129, 129, 129, 129, 129, 127, 127, 127, 127] : Array Int).getD (ρ 0 - 35).toNat 0).toNat = 130 := by rw [hk]; rfl
      exact Or.inr (Or.inr (Or.inr (Or.inr (Or.inr (Or.inr (Or.inr (Or.inr (Or.inr (Or.inr (Or.inr (Or.inr (Or.inr (Or.inr (Or.inr (Or.inr (Or.inr (Or.inr (Or.inr (Or.inr (Or.inr (Or.inr (Or.inl ⟨hk, by rw [hp] at h1; exact h1⟩))))))))))))))))))))))
    · have hp : ((1 : Int) + (#[127, 129, 129, 129, 129, 127, 127, 127, 127, 129, 127, 129, 127, 129, 129, 129, 129, 129, 129, 129, 129, 129, 129, 129, 127, 127, 127, 127] : Array Int).getD (ρ 0 - 35).toNat 0).toNat = 130 := by rw [hk]; rfl
      exact Or.inr (Or.inr (Or.inr (Or.inr (Or.inr (Or.inr (Or.inr (Or.inr (Or.inr (Or.inr (Or.inr (Or.inr (Or.inr (Or.inr (Or.inr (Or.inr (Or.inr (Or.inr (Or.inr (Or.inr (Or.inr (Or.inr (Or.inr (Or.inl ⟨hk, by rw [hp] at h1; exact h1⟩)))))))))))))))))))))))
    · have hp : ((1 : Int) + (#[127, 129, 129, 129, 129, 127, 127, 127, 127, 129, 127, 129, 127, 129, 129, 129, 129, 129, 129, 129, 129, 129, 129, 129, 127, 127, 127, 127] : Array Int).getD (ρ 0 - 35).toNat 0).toNat = 130 := by rw [hk]; rfl
      exact Or.inr (Or.inr (Or.inr (Or.inr (Or.inr (Or.inr (Or.inr (Or.inr (Or.inr (Or.inr (Or.inr (Or.inr (Or.inr (Or.inr (Or.inr (Or.inr (Or.inr (Or.inr (Or.inr (Or.inr (Or.inr (Or.inr (Or.inr (Or.inr (Or.inl ⟨hk, by rw [hp] at h1; exact h1⟩))))))))))))))))))))))))
    · have hp : ((1 : Int) + (#[127, 129, 129, 129, 129, 127, 127, 127, 127, 129, 127, 129, 127, 129, 129, 129, 129, 129, 129, 129, 129, 129, 129, 129, 127, 127, 127, 127] : Array Int).getD (ρ 0 - 35).toNat 0).toNat = 128 := by rw [hk]; rfl
      exact Or.inr (Or.inr (Or.inr (Or.inr (Or.inr (Or.inr (Or.inr (Or.inr (Or.inr (Or.inr (Or.inr (Or.inr (Or.inr (Or.inr (Or.inr (Or.inr (Or.inr (Or.inr (Or.inr (Or.inr (Or.inr (Or.inr (Or.inr (Or.inr (Or.inr (Or.inl ⟨hk, by rw [hp] at h1; exact h1⟩)))))))))))))))))))))))))
    · have hp : ((1 : Int) + (#[127, 129, 129, 129, 129, 127, 127, 127, 127, 129, 127, 129, 127, 129, 129, 129, 129, 129, 129, 129, 129, 129, 129, 129, 127, 127, 127, 127] : Array Int).getD (ρ 0 - 35).toNat 0).toNat = 128 := by rw [hk]; rfl
      exact Or.inr (Or.inr (Or.inr (Or.inr (Or.inr (Or.inr (Or.inr (Or.inr (Or.inr (Or.inr (Or.inr (Or.inr (Or.inr (Or.inr (Or.inr (Or.inr (Or.inr (Or.inr (Or.inr (Or.inr (Or.inr (Or.inr (Or.inr (Or.inr (Or.inr (Or.inr (Or.inl ⟨hk, by rw [hp] at h1; exact h1⟩))))))))))))))))))))))))))
    · have hp : ((1 : Int) + (#[127, 129, 129, 129, 129, 127, 127, 127, 127, 129, 127, 129, 127, 129, 129, 129, 129, 129, 129, 129, 129, 129, 129, 129, 127, 127, 127, 127] : Array Int).getD (ρ 0 - 35).toNat 0).toNat = 128 := by rw [hk]; rfl
      exact Or.inr (Or.inr (Or.inr (Or.inr (Or.inr (Or.inr (Or.inr (Or.inr (Or.inr (Or.inr (Or.inr (Or.inr (Or.inr (Or.inr (Or.inr (Or.inr (Or.inr (Or.inr (Or.inr (Or.inr (Or.inr (Or.inr (Or.inr (Or.inr (Or.inr (Or.inr (Or.inr (Or.inl ⟨hk, by rw [hp] at h1; exact h1⟩)))))))))))))))))))))))))))
    · have hp : ((1 : Int) + (#[127, 129, 129, 129, 129, 127, 127, 127, 127, 129, 127, 129, 127, 129, 129, 129, 129, 129, 129, 129, 129, 129, 129, 129, 127, 127, 127, 127] : Array Int).getD (ρ 0 - 35).toNat 0).toNat = 128 := by rw [hk]; rfl
      exact Or.inr (Or.inr (Or.inr (Or.inr (Or.inr (Or.inr (Or.inr (Or.inr (Or.inr (Or.inr (Or.inr (Or.inr (Or.inr (Or.inr (Or.inr (Or.inr (Or.inr (Or.inr (Or.inr (Or.inr (Or.inr (Or.inr (Or.inr (Or.inr (Or.inr (Or.inr (Or.inr (Or.inr (⟨hk, by rw [hp] at h1; exact h1⟩))))))))))))))))))))))))))))
theorem bk_X12_isSign_128 {ax : zAx} {CE : g_E} {n : Nat} {ρ : Nat → Int} {L : List Nat} {g : Nat → Nat → Int} {r : Option g_V} {h : g_H} (hr : g_run RX12 ax CE cX12_isSign n (128, ρ, [], L, g) r h) : r = some (1, 1) ∧ h = (L, g) := by
  obtain ⟨n1, e, h1⟩ := g_blk_ok noX12 jI_X12_isSign tab_X12 1 n hr (c2 := (129, ρ, [(1, 1)], L, g)) rfl
  exact g_ret_un noX12 (i := .ireturn) (jI_X12_isSign 129 _ rfl) (by decide) h1
theorem bk_X12_isSign_130 {ax : zAx} {CE : g_E} {n : Nat} {ρ : Nat → Int} {L : List Nat} {g : Nat → Nat → Int} {r : Option g_V} {h : g_H} (hr : g_run RX12 ax CE cX12_isSign n (130, ρ, [], L, g) r h) : r = some (1, 0) ∧ h = (L, g) := by
  obtain ⟨n1, e, h1⟩ := g_blk_ok noX12 jI_X12_isSign tab_X12 1 n hr (c2 := (131, ρ, [(1, 0)], L, g)) rfl
  exact g_ret_un noX12 (i := .ireturn) (jI_X12_isSign 131 _ rfl) (by decide) h1
def F_X12_isSign (x0 : Int) (g : Nat → Nat → Int) : Int := if x0 < 35 ∨ 62 < x0 then 0 else if x0 = 35 then 1 else if x0 = 36 then 0 else if x0 = 37 then 0 else if x0 = 38 then 0 else if x0 = 39 then 0 else if x0 = 40 then 1 else if x0 = 41 then 1 else if x0 = 42 then 1 else if x0 = 43 then 1 else if x0 = 44 then 0 else if x0 = 45 then 1 else if x0 = 46 then 0 else if x0 = 47 then 1 else if x0 = 48 then 0 else if x0 = 49 then 0 else if x0 = 50 then 0 else if x0 = 51 then 0 else if x0 = 52 then 0 else if x0 = 53 then 0 else if x0 = 54 then 0 else if x0 = 55 then 0 else if x0 = 56 then 0 else if x0 = 57 then 0 else if x0 = 58 then 0 else if x0 = 59 then 1 else if x0 = 60 then 1 else if x0 = 61 then 1 else 1
theorem f_X12_isSign {ax : zAx} {x0 : Int} {L : List Nat} {g : Nat → Nat → Int} {r : Option g_V} {h : g_H} (hx : g_ex ax yX12_isSign cX12_isSign [(0, x0)] (L, g) r h) : r = some (1, F_X12_isSign x0 g) ∧ h = (L, g) := by
  obtain ⟨ρ, n0, hρ, h0⟩ := g_run_of hx
  obtain rfl : ρ 0 = x0 := hρ (0, x0) (by simp)
  obtain ⟨n1, l1, h1⟩ := bk_X12_isSign_0 h0
  rcases h1 with ⟨c1, h1⟩ | ⟨c1, h1⟩ | ⟨c1, h1⟩ | ⟨c1, h1⟩ | ⟨c1, h1⟩ | ⟨c1, h1⟩ | ⟨c1, h1⟩ | ⟨c1, h1⟩ | ⟨c1, h1⟩ | ⟨c1, h1⟩ | ⟨c1, h1⟩ | ⟨c1, h1⟩ | ⟨c1, h1⟩ | ⟨c1, h1⟩ | ⟨c1, h1⟩ | ⟨c1, h1⟩ | ⟨c1, h1⟩ | ⟨c1, h1⟩ | ⟨c1, h1⟩ | ⟨c1, h1⟩ | ⟨c1, h1⟩ | ⟨c1, h1⟩ | ⟨c1, h1⟩ | ⟨c1, h1⟩ | ⟨c1, h1⟩ | ⟨c1, h1⟩ | ⟨c1, h1⟩ | ⟨c1, h1⟩ | ⟨c1, h1⟩
  · obtain ⟨e2, d2⟩ := bk_X12_isSign_130 h1
    unfold F_X12_isSign
    rw [if_pos c1]
    exact ⟨e2, d2⟩
  · obtain ⟨e3, d3⟩ := bk_X12_isSign_128 h1
    unfold F_X12_isSign
    rw [if_neg (by rw [c1]; decide), if_pos c1]
    exact ⟨e3, d3⟩
  · obtain ⟨e4, d4⟩ := bk_X12_isSign_130 h1
    unfold F_X12_isSign
    rw [if_neg (by rw [c1]; decide), if_neg (by rw [c1]; decide), if_pos c1]
    exact ⟨e4, d4⟩
  · obtain ⟨e5, d5⟩ := bk_X12_isSign_130 h1
    unfold F_X12_isSign
    rw [if_neg (by rw [c1]; decide), if_neg (by rw [c1]; decide), if_neg (by rw [c1]; decide), if_pos c1]
    exact ⟨e5, d5⟩
  · obtain ⟨e6, d6⟩ := bk_X12_isSign_130 h1
    unfold F_X12_isSign
    rw [if_neg (by rw [c1]; decide), if_neg (by rw [c1]; decide), if_neg (by rw [c1]; decide), if_neg (by rw [c1]; decide), if_pos c1]
    exact ⟨e6, d6⟩
  · obtain ⟨e7, d7⟩ := bk_X12_isSign_130 h1
    unfold F_X12_isSign
    rw [if_neg (by rw [c1]; decide), if_neg (by rw [c1]; decide), if_neg (by rw [c1]; decide), if_neg (by rw [c1]; decide), if_neg (by rw [c1]; decide), if_pos c1]
    exact ⟨e7, d7⟩
  · obtain ⟨e8, d8⟩ := bk_X12_isSign_128 h1
    unfold F_X12_isSign
    rw [if_neg (by rw [c1]; decide), if_neg (by rw [c1]; decide), if_neg (by rw [c1]; decide), if_neg (by rw [c1]; decide), if_neg (by rw [c1]; decide), if_neg (by rw [c1]; decide), if_pos c1]
    exact ⟨e8, d8⟩
  · obtain ⟨e9, d9⟩ := bk_X12_isSign_128 h1
    unfold F_X12_isSign
    rw [if_neg (by rw [c1]; decide), if_neg (by rw [c1]; decide), if_neg (by rw [c1]; decide), if_neg (by rw [c1]; decide), if_neg (by rw [c1]; decide), if_neg (by rw [c1]; decide), if_neg (by rw [c1]; decide), if_pos c1]
    exact ⟨e9, d9⟩
  · obtain ⟨e10, d10⟩ := bk_X12_isSign_128 h1
    unfold F_X12_isSign
    rw [if_neg (by rw [c1]; decide), if_neg (by rw [c1]; decide), if_neg (by rw [c1]; decide), if_neg (by rw [c1]; decide), if_neg (by rw [c1]; decide), if_neg (by rw [c1]; decide), if_neg (by rw [c1]; decide), if_neg (by rw [c1]; decide), if_pos c1]
    exact ⟨e10, d10⟩
  · obtain ⟨e11, d11⟩ := bk_X12_isSign_128 h1
    unfold F_X12_isSign
    rw [if_neg (by rw [c1]; decide), if_neg (by rw [c1]; decide), if_neg (by rw [c1]; decide), if_neg (by rw [c1]; decide), if_neg (by rw [c1]; decide), if_neg (by rw [c1]; decide), if_neg (by rw [c1]; decide), if_neg (by rw [c1]; decide), if_neg (by rw [c1]; decide), if_pos c1]
    exact ⟨e11, d11⟩
  · obtain ⟨e12, d12⟩ := bk_X12_isSign_130 h1
    unfold F_X12_isSign
    rw [if_neg (by rw [c1]; decide), if_neg (by rw [c1]; decide), if_neg (by rw [c1]; decide), if_neg (by rw [c1]; decide), if_neg (by rw [c1]; decide), if_neg (by rw [c1]; decide), if_neg (by rw [c1]; decide), if_neg (by rw [c1]; decide), if_neg (by rw [c1]; decide), if_neg (by rw [c1]; decide), if_pos c1]
    exact ⟨e12, d12⟩
  · obtain ⟨e13, d13⟩ := bk_X12_isSign_128 h1
    unfold F_X12_isSign
    rw [if_neg (by rw [c1]; decide), if_neg (by rw [c1]; decide), if_neg (by rw [c1]; decide), if_neg (by rw [c1]; decide), if_neg (by rw [c1]; decide), if_neg (by rw [c1]; decide), if_neg (by rw [c1]; decide), if_neg (by rw [c1]; decide), if_neg (by rw [c1]; decide), if_neg (by rw [c1]; decide), if_neg (by rw [c1]; decide), if_pos c1]
    exact ⟨e13, d13⟩
  · obtain ⟨e14, d14⟩ := bk_X12_isSign_130 h1
    unfold F_X12_isSign
    rw [if_neg (by rw [c1]; decide), if_neg (by rw [c1]; decide), if_neg (by rw [c1]; decide), if_neg (by rw [c1]; decide), if_neg (by rw [c1]; decide), if_neg (by rw [c1]; decide), if_neg (by rw [c1]; decide), if_neg (by rw [c1]; decide), if_neg (by rw [c1]; decide), if_neg (by rw [c1]; decide), if_neg (by rw [c1]; decide), if_neg (by rw [c1]; decide), if_pos c1]
    exact ⟨e14, d14⟩
  · obtain ⟨e15, d15⟩ := bk_X12_isSign_128 h1
    unfold F_X12_isSign
    rw [if_neg (by rw [c1]; decide), if_neg (by rw [c1]; decide), if_neg (by rw [c1]; decide), if_neg (by rw [c1]; decide), if_neg (by rw [c1]; decide), if_neg (by rw [c1]; decide), if_neg (by rw [c1]; decide), if_neg (by rw [c1]; decide), if_neg (by rw [c1]; decide), if_neg (by rw [c1]; decide), if_neg (by rw [c1]; decide), if_neg (by rw [c1]; decide), if_neg (by rw [c1]; decide), if_pos c1]
    exact ⟨e15, d15⟩
  · obtain ⟨e16, d16⟩ := bk_X12_isSign_130 h1
    unfold F_X12_isSign
    rw [if_neg (by rw [c1]; decide), if_neg (by rw [c1]; decide), if_neg (by rw [c1]; decide), if_neg (by rw [c1]; decide), if_neg (by rw [c1]; decide), if_neg (by rw [c1]; decide), if_neg (by rw [c1]; decide), if_neg (by rw [c1]; decide), if_neg (by rw [c1]; decide), if_neg (by rw [c1]; decide), if_neg (by rw [c1]; decide), if_neg (by rw [c1]; decide), if_neg (by rw [c1]; decide), if_neg (by rw [c1]; decide), if_pos c1]
    exact ⟨e16, d16⟩
  · obtain ⟨e17, d17⟩ := bk_X12_isSign_130 h1
    unfold F_X12_isSign
    rw [if_neg (by rw [c1]; decide), if_neg (by rw [c1]; decide), if_neg (by rw [c1]; decide), if_neg (by rw [c1]; decide), if_neg (by rw [c1]; decide), if_neg (by rw [c1]; decide), if_neg (by rw [c1]; decide), if_neg (by rw [c1]; decide), if_neg (by rw [c1]; decide), if_neg (by rw [c1]; decide), if_neg (by rw [c1]; decide), if_neg (by rw [c1]; decide), if_neg (by rw [c1]; decide), if_neg (by rw [c1]; decide), if_neg (by rw [c1]; decide), if_pos c1]
    exact ⟨e17, d17⟩
  · obtain ⟨e18, d18⟩ := bk_X12_isSign_130 h1
    unfold F_X12_isSign
    rw [if_neg (by rw [c1]; decide), if_neg (by rw [c1]; decide), if_neg (by rw [c1]; decide), if_neg (by rw [c1]; decide), if_neg (by rw [c1]; decide), if_neg (by rw [c1]; decide), if_neg (by rw [c1]; decide), if_neg (by rw [c1]; decide), if_neg (by rw [c1]; decide), if_neg (by rw [c1]; decide), if_neg (by rw [c1]; decide), if_neg (by rw [c1]; decide), if_neg (by rw [c1]; decide), if_neg (by rw [c1]; decide), if_neg (by rw [c1]; decide), if_neg (by rw [c1]; decide), if_pos c1]
    exact ⟨e18, d18⟩
  · obtain ⟨e19, d19⟩ := bk_X12_isSign_130 h1
    unfold F_X12_isSign
    rw [if_neg (by rw [c1]; decide), if_neg (by rw [c1]; decide), if_neg (by rw [c1]; decide), if_neg (by rw [c1]; decide), if_neg (by rw [c1]; decide), if_neg (by rw [c1]; decide), if_neg (by rw [c1]; decide), if_neg (by rw [c1]; decide), if_neg (by rw [c1]; decide), if_neg (by rw [c1]; decide), if_neg (by rw [c1]; decide), if_neg (by rw [c1]; decide), if_neg (by rw [c1]; decide), if_neg (by rw [c1]; decide), if_neg (by rw [c1]; decide), if_neg (by rw [c1]; decide), if_neg (by rw [c1]; decide), if_pos c1]
    exact ⟨e19, d19⟩
  · obtain ⟨e20, d20⟩ := bk_X12_isSign_130 h1
    unfold F_X12_isSign
    rw [if_neg (by rw [c1]; decide), if_neg (by rw [c1]; decide), if_neg (by rw [c1]; decide), if_neg (by rw [c1]; decide), if_neg (by rw [c1]; decide), if_neg (by rw [c1]; decide), if_neg (by rw [c1]; decide), if_neg (by rw [c1]; decide), if_neg (by rw [c1]; decide), if_neg (by rw [c1]; decide), if_neg (by rw [c1]; decide), if_neg (by rw [c1]; decide), if_neg (by rw [c1]; decide), if_neg (by rw [c1]; decide), if_neg (by rw [c1]; decide), if_neg (by rw [c1]; decide), if_neg (by rw [c1]; decide), if_neg (by rw [c1]; decide), if_pos c1]
    exact ⟨e20, d20⟩
  · obtain ⟨e21, d21⟩ := bk_X12_isSign_130 h1
    unfold F_X12_isSign
    rw [if_neg (by rw [c1]; decide), if_neg (by rw [c1]; decide), if_neg (by rw [c1]; decide), if_neg (by rw [c1]; decide), if_neg (by rw [c1]; decide), if_neg (by rw [c1]; decide), if_neg (by rw [c1]; decide), if_neg (by rw [c1]; decide), if_neg (by rw [c1]; decide), if_neg (by rw [c1]; decide), if_neg (by rw [c1]; decide), if_neg (by rw [c1]; decide), if_neg (by rw [c1]; decide), if_neg (by rw [c1]; decide), if_neg (by rw [c1]; decide), if_neg (by rw [c1]; decide), if_neg (by rw [c1]; decide), if_neg (by rw [c1]; decide), if_neg (by rw [c1]; decide), if_pos c1]
    exact ⟨e21, d21⟩
  · obtain ⟨e22, d22⟩ := bk_X12_isSign_130 h1
    unfold F_X12_isSign
    rw [if_neg (by rw [c1]; decide), if_neg (by rw [c1]; decide), if_neg (by rw [c1]; decide), if_neg (by rw [c1]; decide), if_neg (by rw [c1]; decide), if_neg (by rw [c1]; decide), if_neg (by rw [c1]; decide), if_neg (by rw [c1]; decide), if_neg (by rw [c1]; decide), if_neg (by rw [c1]; decide), if_neg (by rw [c1]; decide), if_neg (by rw [c1]; decide), if_neg (by rw [c1]; decide), if_neg (by rw [c1]; decide), if_neg (by rw [c1]; decide), if_neg (by rw [c1]; decide), if_neg (by rw [c1]; decide), if_neg (by rw [c1]; decide), if_neg (by rw [c1]; decide), if_neg (by rw [c1]; decide), if_pos c1]
    exact ⟨e22, d22⟩
  · obtain ⟨e23, d23⟩ := bk_X12_isSign_130 h1
    unfold F_X12_isSign
    rw [if_neg (by rw [c1]; decide), if_neg (by rw [c1]; decide), if_neg (by rw [c1]; decide), if_neg (by rw [c1]; decide), if_neg (by rw [c1]; decide), if_neg (by rw [c1]; decide), if_neg (by rw [c1]; decide), if_neg (by rw [c1]; decide), if_neg (by rw [c1]; decide), if_neg (by rw [c1]; decide), if_neg (by rw [c1]; decide), if_neg (by rw [c1]; decide), if_neg (by rw [c1]; decide), if_neg (by rw [c1]; decide), if_neg (by rw [c1]; decide), if_neg (by rw [c1]; decide), if_neg (by rw [c1]; decide), if_neg (by rw [c1]; decide), if_neg (by rw [c1]; decide), if_neg (by rw [c1]; decide), if_neg (by rw [c1]; decide), if_pos c1]
    exact ⟨e23, d23⟩
  · obtain ⟨e24, d24⟩ := bk_X12_isSign_130 h1
    unfold F_X12_isSign
    rw [if_neg (by rw [c1]; decide), if_neg (by rw [c1]; decide), if_neg (by rw [c1]; decide), if_neg (by rw [c1]; decide), if_neg (by rw [c1]; decide), if_neg (by rw [c1]; decide), if_neg (by rw [c1]; decide), if_neg (by rw [c1]; decide), if_neg (by rw [c1]; decide), if_neg (by rw [c1]; decide), if_neg (by rw [c1]; decide), if_neg (by rw [c1]; decide), if_neg (by rw [c1]; decide), if_neg (by rw [c1]; decide), if_neg (by rw [c1]; decide), if_neg (by rw [c1]; decide), if_neg (by rw [c1]; decide), if_neg (by rw [c1]; decide), if_neg (by rw [c1]; decide), if_neg (by rw [c1]; decide), if_neg (by rw [c1]; decide), if_neg (by rw [c1]; decide), if_pos c1]
    exact ⟨e24, d24⟩
  · obtain ⟨e25, d25⟩ := bk_X12_isSign_130 h1
    unfold F_X12_isSign
    rw [if_neg (by rw [c1]; decide), if_neg (by rw [c1]; decide), if_neg (by rw [c1]; decide), if_neg (by rw [c1]; decide), if_neg (by rw [c1]; decide), if_neg (by rw [c1]; decide), if_neg (by rw [c1]; decide), if_neg (by rw [c1]; decide), if_neg (by rw [c1]; decide), if_neg (by rw [c1]; decide), if_neg (by rw [c1]; decide), if_neg (by rw [c1]; decide), if_neg (by rw [c1]; decide), if_neg (by rw [c1]; decide), if_neg (by rw [c1]; decide), if_neg (by rw [c1]; decide), if_neg (by rw [c1]; decide), if_neg (by rw [c1]; decide), if_neg (by rw [c1]; decide), if_neg (by rw [c1]; decide), if_neg (by rw [c1]; decide), if_neg (by rw [c1]; decide), if_neg (by rw [c1]; decide), if_pos c1]
    exact ⟨e25, d25⟩
  · obtain ⟨e26, d26⟩ := bk_X12_isSign_130 h1
    unfold F_X12_isSign
    rw [if_neg (by rw [c1]; decide), if_neg (by rw [c1]; decide), if_neg (by rw [c1]; decide), if_neg (by rw [c1]; decide), if_neg (by rw [c1]; decide), if_neg (by rw [c1]; decide), if_neg (by rw [c1]; decide), if_neg (by rw [c1]; decide), if_neg (by rw [c1]; decide), if_neg (by rw [c1]; decide), if_neg (by rw [c1]; decide), if_neg (by rw [c1]; decide), if_neg (by rw [c1]; decide), if_neg (by rw [c1]; decide), if_neg (by rw [c1]; decide), if_neg (by rw [c1]; decide), if_neg (by rw [c1]; decide), if_neg (by rw [c1]; decide), if_neg (by rw [c1]; decide), if_neg (by rw [c1]; decide), if_neg (by rw [c1]; decide), if_neg (by rw [c1]; decide), if_neg (by rw [c1]; decide), if_neg (by rw [c1]; decide), if_pos c1]
    exact ⟨e26, d26⟩
  · obtain ⟨e27, d27⟩ := bk_X12_isSign_128 h1
    unfold F_X12_isSign
    rw [if_neg (by rw [c1]; decide), if_neg (by rw [c1]; decide), if_neg (by rw [c1]; decide), if_neg (by rw [c1]; decide), if_neg (by rw [c1]; decide), if_neg (by rw [c1]; decide), if_neg (by rw [c1]; decide), if_neg (by rw [c1]; decide), if_neg (by rw [c1]; decide), if_neg (by rw [c1]; decide), if_neg (by rw [c1]; decide), if_neg (by rw [c1]; decide), if_neg (by rw [c1]; decide), if_neg (by rw [c1]; decide), if_neg (by rw [c1]; decide), if_neg (by rw [c1]; decide), if_neg (by rw [c1]; decide), if_neg (by rw [c1]; decide), if_neg (by rw [c1]; decide), if_neg (by rw [c1]; decide), if_neg (by rw [c1]; decide), if_neg (by rw [c1]; decide), if_neg (by rw [c1]; decide), if_neg (by rw [c1]; decide), if_neg (by rw [c1]; decide), if_pos c1]
    exact ⟨e27, d27⟩
  · obtain ⟨e28, d28⟩ := bk_X12_isSign_128 h1
    unfold F_X12_isSign
    rw [if_neg (by rw [c1]; decide), if_neg (by rw [c1]; decide), if_neg (by rw [c1]; decide), if_neg (by rw [c1]; decide), if_neg (by rw [c1]; decide), if_neg (by rw [c1]; decide), if_neg (by rw [c1]; decide), if_neg (by rw [c1]; decide), if_neg (by rw [c1]; decide), if_neg (by rw [c1]; decide), if_neg (by rw [c1]; decide), if_neg (by rw [c1]; decide), if_neg (by rw [c1]; decide), if_neg (by rw [c1]; decide), if_neg (by rw [c1]; decide), if_neg (by rw [c1]; decide), if_neg (by rw [c1]; decide), if_neg (by rw [c1]; decide), if_neg (by rw [c1]; decide), if_neg (by rw [c1]; decide), if_neg (by rw [c1]; decide), if_neg (by rw [c1]; decide), if_neg (by rw [c1]; decide), if_neg (by rw [c1]; decide), if_neg (by rw [c1]; decide), if_neg (by rw [c1]; decide), if_pos c1]
    exact ⟨e28, d28⟩
  · obtain ⟨e29, d29⟩ := bk_X12_isSign_128 h1
    unfold F_X12_isSign
    rw [if_neg (by rw [c1]; decide), if_neg (by rw [c1]; decide), if_neg (by rw [c1]; decide), if_neg (by rw [c1]; decide), if_neg (by rw [c1]; decide), if_neg (by rw [c1]; decide), if_neg (by rw [c1]; decide), if_neg (by rw [c1]; decide), if_neg (by rw [c1]; decide), if_neg (by rw [c1]; decide), if_neg (by rw [c1]; decide), if_neg (by rw [c1]; decide), if_neg (by rw [c1]; decide), if_neg (by rw [c1]; decide), if_neg (by rw [c1]; decide), if_neg (by rw [c1]; decide), if_neg (by rw [c1]; decide), if_neg (by rw [c1]; decide), if_neg (by rw [c1]; decide), if_neg (by rw [c1]; decide), if_neg (by rw [c1]; decide), if_neg (by rw [c1]; decide), if_neg (by rw [c1]; decide), if_neg (by rw [c1]; decide), if_neg (by rw [c1]; decide), if_neg (by rw [c1]; decide), if_neg (by rw [c1]; decide), if_pos c1]
    exact ⟨e29, d29⟩
  · obtain ⟨e30, d30⟩ := bk_X12_isSign_128 h1
    unfold F_X12_isSign
    rw [if_neg (by rw [c1]; decide), if_neg (by rw [c1]; decide), if_neg (by rw [c1]; decide), if_neg (by rw [c1]; decide), if_neg (by rw [c1]; decide), if_neg (by rw [c1]; decide), if_neg (by rw [c1]; decide), if_neg (by rw [c1]; decide), if_neg (by rw [c1]; decide), if_neg (by rw [c1]; decide), if_neg (by rw [c1]; decide), if_neg (by rw [c1]; decide), if_neg (by rw [c1]; decide), if_neg (by rw [c1]; decide), if_neg (by rw [c1]; decide), if_neg (by rw [c1]; decide), if_neg (by rw [c1]; decide), if_neg (by rw [c1]; decide), if_neg (by rw [c1]; decide), if_neg (by rw [c1]; decide), if_neg (by rw [c1]; decide), if_neg (by rw [c1]; decide), if_neg (by rw [c1]; decide), if_neg (by rw [c1]; decide), if_neg (by rw [c1]; decide), if_neg (by rw [c1]; decide), if_neg (by rw [c1]; decide), if_neg (by rw [c1]; decide)]
    exact ⟨e30, d30⟩

theorem jI_X12_isOf : ∀ (pc : Nat) (q : Instr × Nat), lkp iX12_isOf pc = some q → decode cX12_isOf pc = .ok q := fun pc q hq => jX12_isOf (pc, q) (lkp_in iX12_isOf hq)
theorem bk_X12_isOf_0 {ax : zAx} {CE : g_E} {n : Nat} {ρ : Nat → Int} {L : List Nat} {g : Nat → Nat → Int} {r : Option g_V} {h : g_H} (hr : g_run RX12 ax CE cX12_isOf n (0, ρ, [], L, g) r h) : ∃ n', n' < n ∧ ((ρ 1 < 4 ∧ g_run RX12 ax CE cX12_isOf n' (37, ρ, [], L, g) r h) ∨ (¬ (ρ 1 < 4) ∧ g_run RX12 ax CE cX12_isOf n' (5, ρ, [], L, g) r h)) := by
  obtain ⟨n1, e, h1⟩ := g_blk_ok noX12 jI_X12_isOf tab_X12 3 n hr (c2 := (if ρ 1 < 4 then 37 else 5, ρ, [], L, g)) rfl
  refine ⟨n1, by omega, ?_⟩
  by_cases hc : ρ 1 < 4
  · exact Or.inl ⟨hc, by rw [if_pos hc] at h1; exact h1⟩
  · exact Or.inr ⟨hc, by rw [if_neg hc] at h1; exact h1⟩
theorem bk_X12_isOf_5 {ax : zAx} {CE : g_E} {n : Nat} {ρ : Nat → Int} {L : List Nat} {g : Nat → Nat → Int} {r : Option g_V} {h : g_H} (hr : g_run RX12 ax CE cX12_isOf n (5, ρ, [], L, g) r h) : ∃ n', n' < n ∧ ((ρ 1 = 10 ∧ g_run RX12 ax CE cX12_isOf n' (11, ρ, [], L, g) r h) ∨ (¬ (ρ 1 = 10) ∧ g_run RX12 ax CE cX12_isOf n' (22, ρ, [], L, g) r h)) := by
  obtain ⟨n1, e, h1⟩ := g_blk_ok noX12 jI_X12_isOf tab_X12 3 n hr (c2 := (if ρ 1 = 10 then 11 else 22, ρ, [], L, g)) rfl
  refine ⟨n1, by omega, ?_⟩
  by_cases hc : ρ 1 = 10
  · exact Or.inl ⟨hc, by rw [if_pos hc] at h1; exact h1⟩
  · exact Or.inr ⟨hc, by rw [if_neg hc] at h1; exact h1⟩
theorem bk_X12_isOf_11 {ax : zAx} {CE : g_E} {n : Nat} {ρ : Nat → Int} {L : List Nat} {g : Nat → Nat → Int} {r : Option g_V} {h : g_H} (hr : g_run RX12 ax CE cX12_isOf n (11, ρ, [], L, g) r h) : ∃ n', n' < n ∧ ((g (ρ 0).toNat 14 = 4 ∧ g_run RX12 ax CE cX12_isOf n' (19, ρ, [], L, g) r h) ∨ (¬ (g (ρ 0).toNat 14 = 4) ∧ g_run RX12 ax CE cX12_isOf n' (41, ρ, [], L, g) r h)) := by
  obtain ⟨n1, e, h1⟩ := g_blk_ok noX12 jI_X12_isOf tab_X12 4 n hr (c2 := (if g (ρ 0).toNat 14 = 4 then 19 else 41, ρ, [], L, g)) rfl
  refine ⟨n1, by omega, ?_⟩
  by_cases hc : g (ρ 0).toNat 14 = 4
  · exact Or.inl ⟨hc, by rw [if_pos hc] at h1; exact h1⟩
  · exact Or.inr ⟨hc, by rw [if_neg hc] at h1; exact h1⟩
theorem bk_X12_isOf_19 {ax : zAx} {CE : g_E} {n : Nat} {ρ : Nat → Int} {L : List Nat} {g : Nat → Nat → Int} {r : Option g_V} {h : g_H} (hr : g_run RX12 ax CE cX12_isOf n (19, ρ, [], L, g) r h) : ∃ n', n' < n ∧ g_run RX12 ax CE cX12_isOf n' (37, ρ, [], L, g) r h := by
  obtain ⟨n1, e, h1⟩ := g_blk_ok noX12 jI_X12_isOf tab_X12 1 n hr (c2 := (37, ρ, [], L, g)) rfl
  exact ⟨n1, by omega, h1⟩
theorem bk_X12_isOf_22 {ax : zAx} {CE : g_E} {n : Nat} {ρ : Nat → Int} {L : List Nat} {g : Nat → Nat → Int} {r : Option g_V} {h : g_H} (hr : g_run RX12 ax CE cX12_isOf n (22, ρ, [], L, g) r h) : ∃ n', n' < n ∧ ((g (ρ 0).toNat 14 = 3 ∧ g_run RX12 ax CE cX12_isOf n' (30, ρ, [], L, g) r h) ∨ (¬ (g (ρ 0).toNat 14 = 3) ∧ g_run RX12 ax CE cX12_isOf n' (37, ρ, [], L, g) r h)) := by
  obtain ⟨n1, e, h1⟩ := g_blk_ok noX12 jI_X12_isOf tab_X12 4 n hr (c2 := (if g (ρ 0).toNat 14 = 3 then 30 else 37, ρ, [], L, g)) rfl
  refine ⟨n1, by omega, ?_⟩
  by_cases hc : g (ρ 0).toNat 14 = 3
  · exact Or.inl ⟨hc, by rw [if_pos hc] at h1; exact h1⟩
  · exact Or.inr ⟨hc, by rw [if_neg hc] at h1; exact h1⟩
theorem bk_X12_isOf_30 {ax : zAx} {CE : g_E} {n : Nat} {ρ : Nat → Int} {L : List Nat} {g : Nat → Nat → Int} {r : Option g_V} {h : g_H} (hr : g_run RX12 ax CE cX12_isOf n (30, ρ, [], L, g) r h) : ∃ n', n' < n ∧ ((g (ρ 0).toNat 19 ≤ 0 ∧ g_run RX12 ax CE cX12_isOf n' (41, ρ, [], L, g) r h) ∨ (¬ (g (ρ 0).toNat 19 ≤ 0) ∧ g_run RX12 ax CE cX12_isOf n' (37, ρ, [], L, g) r h)) := by
  obtain ⟨n1, e, h1⟩ := g_blk_ok noX12 jI_X12_isOf tab_X12 3 n hr (c2 := (if g (ρ 0).toNat 19 ≤ 0 then 41 else 37, ρ, [], L, g)) rfl
  refine ⟨n1, by omega, ?_⟩
  by_cases hc : g (ρ 0).toNat 19 ≤ 0
  · exact Or.inl ⟨hc, by rw [if_pos hc] at h1; exact h1⟩
  · exact Or.inr ⟨hc, by rw [if_neg hc] at h1; exact h1⟩
theorem bk_X12_isOf_37 {ax : zAx} {CE : g_E} {n : Nat} {ρ : Nat → Int} {L : List Nat} {g : Nat → Nat → Int} {r : Option g_V} {h : g_H} (hr : g_run RX12 ax CE cX12_isOf n (37, ρ, [], L, g) r h) : ∃ n', n' < n ∧ g_run RX12 ax CE cX12_isOf n' (42, ρ, [(1, 1)], L, g) r h := by
  obtain ⟨n1, e, h1⟩ := g_blk_ok noX12 jI_X12_isOf tab_X12 2 n hr (c2 := (42, ρ, [(1, 1)], L, g)) rfl
  exact ⟨n1, by omega, h1⟩
theorem bk_X12_isOf_41 {ax : zAx} {CE : g_E} {n : Nat} {ρ : Nat → Int} {L : List Nat} {g : Nat → Nat → Int} {r : Option g_V} {h : g_H} (hr : g_run RX12 ax CE cX12_isOf n (41, ρ, [], L, g) r h) : ∃ n', n' < n ∧ g_run RX12 ax CE cX12_isOf n' (42, ρ, [(1, 0)], L, g) r h := by
  obtain ⟨n1, e, h1⟩ := g_blk_ok noX12 jI_X12_isOf tab_X12 1 n hr (c2 := (42, ρ, [(1, 0)], L, g)) rfl
  exact ⟨n1, by omega, h1⟩
theorem bk_X12_isOf_42 {ax : zAx} {CE : g_E} {n : Nat} {ρ : Nat → Int} {s0 : Int} {L : List Nat} {g : Nat → Nat → Int} {r : Option g_V} {h : g_H} (hr : g_run RX12 ax CE cX12_isOf n (42, ρ, [(1, s0)], L, g) r h) : r = some (1, s0) ∧ h = (L, g) := by
  obtain ⟨n1, e, h1⟩ := g_blk_ok noX12 jI_X12_isOf tab_X12 0 n hr (c2 := (42, ρ, [(1, s0)], L, g)) rfl
  exact g_ret_un noX12 (i := .ireturn) (jI_X12_isOf 42 _ rfl) (by decide) h1
def F_X12_isOf (x0 x1 : Int) (g : Nat → Nat → Int) : Int := if x1 < 4 then 1 else if x1 = 10 then if g x0.toNat 14 = 4 then 1 else 0 else if g x0.toNat 14 = 3 then if g x0.toNat 19 ≤ 0 then 0 else 1 else 1
theorem f_X12_isOf {ax : zAx} {x0 x1 : Int} {L : List Nat} {g : Nat → Nat → Int} {r : Option g_V} {h : g_H} (hx : g_ex ax yX12_isOf cX12_isOf [(0, x0), (1, x1)] (L, g) r h) : r = some (1, F_X12_isOf x0 x1 g) ∧ h = (L, g) := by
  obtain ⟨ρ, n0, hρ, h0⟩ := g_run_of hx
  obtain rfl : ρ 0 = x0 := hρ (0, x0) (by simp)
  obtain rfl : ρ 1 = x1 := hρ (1, x1) (by simp)
  obtain ⟨n1, l1, h1⟩ := bk_X12_isOf_0 h0
  rcases h1 with ⟨c1, h1⟩ | ⟨c1, h1⟩
  · obtain ⟨n2, l2, h2⟩ := bk_X12_isOf_37 h1
    obtain ⟨e3, d3⟩ := bk_X12_isOf_42 h2
    unfold F_X12_isOf
    rw [if_pos c1]
    exact ⟨e3, d3⟩
  · obtain ⟨n4, l4, h4⟩ := bk_X12_isOf_5 h1
    rcases h4 with ⟨c4, h4⟩ | ⟨c4, h4⟩
    · obtain ⟨n5, l5, h5⟩ := bk_X12_isOf_11 h4
      rcases h5 with ⟨c5, h5⟩ | ⟨c5, h5⟩
      · obtain ⟨n6, l6, h6⟩ := bk_X12_isOf_19 h5
        obtain ⟨n7, l7, h7⟩ := bk_X12_isOf_37 h6
        obtain ⟨e8, d8⟩ := bk_X12_isOf_42 h7
        unfold F_X12_isOf
        rw [if_neg c1, if_pos c4, if_pos c5]
        exact ⟨e8, d8⟩
      · obtain ⟨n9, l9, h9⟩ := bk_X12_isOf_41 h5
        obtain ⟨e10, d10⟩ := bk_X12_isOf_42 h9
        unfold F_X12_isOf
        rw [if_neg c1, if_pos c4, if_neg c5]
        exact ⟨e10, d10⟩
    · obtain ⟨n11, l11, h11⟩ := bk_X12_isOf_22 h4
      rcases h11 with ⟨c11, h11⟩ | ⟨c11, h11⟩
      · obtain ⟨n12, l12, h12⟩ := bk_X12_isOf_30 h11
        rcases h12 with ⟨c12, h12⟩ | ⟨c12, h12⟩
        · obtain ⟨n13, l13, h13⟩ := bk_X12_isOf_41 h12
          obtain ⟨e14, d14⟩ := bk_X12_isOf_42 h13
          unfold F_X12_isOf
          rw [if_neg c1, if_neg c4, if_pos c11, if_pos c12]
          exact ⟨e14, d14⟩
        · obtain ⟨n15, l15, h15⟩ := bk_X12_isOf_37 h12
          obtain ⟨e16, d16⟩ := bk_X12_isOf_42 h15
          unfold F_X12_isOf
          rw [if_neg c1, if_neg c4, if_pos c11, if_neg c12]
          exact ⟨e16, d16⟩
      · obtain ⟨n17, l17, h17⟩ := bk_X12_isOf_37 h11
        obtain ⟨e18, d18⟩ := bk_X12_isOf_42 h17
        unfold F_X12_isOf
        rw [if_neg c1, if_neg c4, if_neg c11]
        exact ⟨e18, d18⟩

theorem jI_X12_w2 : ∀ (pc : Nat) (q : Instr × Nat), lkp iX12_w2 pc = some q → decode cX12_w2 pc = .ok q := fun pc q hq => jX12_w2 (pc, q) (lkp_in iX12_w2 hq)
theorem bk_X12_w2_0 {ax : zAx} {CE : g_E} {n : Nat} {ρ : Nat → Int} {L : List Nat} {g : Nat → Nat → Int} {r : Option g_V} {h : g_H} (hr : g_run RX12 ax CE cX12_w2 n (0, ρ, [], L, g) r h) : r = some (2, (Int64.ofInt ((Int64.ofInt (ρ 0) <<< ((Int32.ofInt 8).toInt64 &&& 63)).toInt) ||| Int64.ofInt (ρ 1)).toInt) ∧ h = (L, g) := by
  obtain ⟨n1, e, h1⟩ := g_blk_ok noX12 jI_X12_w2 tab_X12 7 n hr (c2 := (8, ρ, [(2, (Int64.ofInt ((Int64.ofInt (ρ 0) <<< ((Int32.ofInt 8).toInt64 &&& 63)).toInt) ||| Int64.ofInt (ρ 1)).toInt)], L, g)) rfl
  exact g_ret_un noX12 (i := .lreturn) (jI_X12_w2 8 _ rfl) (by decide) h1
def F_X12_w2 (x0 x1 : Int) (g : Nat → Nat → Int) : Int := (Int64.ofInt ((Int64.ofInt x0 <<< ((Int32.ofInt 8).toInt64 &&& 63)).toInt) ||| Int64.ofInt x1).toInt
theorem f_X12_w2 {ax : zAx} {x0 x1 : Int} {L : List Nat} {g : Nat → Nat → Int} {r : Option g_V} {h : g_H} (hx : g_ex ax yX12_w2 cX12_w2 [(0, x0), (1, x1)] (L, g) r h) : r = some (2, F_X12_w2 x0 x1 g) ∧ h = (L, g) := by
  obtain ⟨ρ, n0, hρ, h0⟩ := g_run_of hx
  obtain rfl : ρ 0 = x0 := hρ (0, x0) (by simp)
  obtain rfl : ρ 1 = x1 := hρ (1, x1) (by simp)
  obtain ⟨e1, d1⟩ := bk_X12_w2_0 h0
  exact ⟨e1, d1⟩

theorem jI_X12_w3 : ∀ (pc : Nat) (q : Instr × Nat), lkp iX12_w3 pc = some q → decode cX12_w3 pc = .ok q := fun pc q hq => jX12_w3 (pc, q) (lkp_in iX12_w3 hq)
theorem bk_X12_w3_0 {ax : zAx} {CE : g_E} {n : Nat} {ρ : Nat → Int} {L : List Nat} {g : Nat → Nat → Int} {r : Option g_V} {h : g_H} (hr : g_run RX12 ax CE cX12_w3 n (0, ρ, [], L, g) r h) : ∃ n' r1 h1', n' < n ∧ CE yX12_w2 cX12_w2 [(0, ρ 0), (1, ρ 1)] (L, g) r1 h1' ∧ g_run RX12 ax CE cX12_w3 n' (5, ρ, g_push r1 [], h1') r h := by
  obtain ⟨n1, e, h1⟩ := g_blk_ok noX12 jI_X12_w3 tab_X12 2 n hr (c2 := (2, ρ, [(1, ρ 1), (1, ρ 0)], L, g)) rfl
  obtain ⟨n2, c', e2, h2, h3⟩ := g_step_un noX12 (i := .invokestatic 172) (len := 3) (jI_X12_w3 2 _ rfl) (gnrS _) h1
  obtain ⟨r1, h1', hx, hc⟩ := g_static_un lk_X12 nat_all lX12_ok (idx := 172) (mode := 1) (mi := 190) (ci := 0) (na := 2) rfl (by decide) (by decide) mq_X12_w2 [(1, ρ 0), (1, ρ 1)] [] rfl rfl h2
  subst hc
  exact ⟨n2, r1, h1', by omega, hx, h3⟩
theorem bk_X12_w3_5 {ax : zAx} {CE : g_E} {n : Nat} {ρ : Nat → Int} {s0 : Int} {L : List Nat} {g : Nat → Nat → Int} {r : Option g_V} {h : g_H} (hr : g_run RX12 ax CE cX12_w3 n (5, ρ, [(2, s0)], L, g) r h) : r = some (2, (Int64.ofInt ((Int64.ofInt s0 <<< ((Int32.ofInt 8).toInt64 &&& 63)).toInt) ||| Int64.ofInt (ρ 2)).toInt) ∧ h = (L, g) := by
  obtain ⟨n1, e, h1⟩ := g_blk_ok noX12 jI_X12_w3 tab_X12 5 n hr (c2 := (11, ρ, [(2, (Int64.ofInt ((Int64.ofInt s0 <<< ((Int32.ofInt 8).toInt64 &&& 63)).toInt) ||| Int64.ofInt (ρ 2)).toInt)], L, g)) rfl
  exact g_ret_un noX12 (i := .lreturn) (jI_X12_w3 11 _ rfl) (by decide) h1
def F_X12_w3 (x0 x1 x2 : Int) (g : Nat → Nat → Int) : Int := (Int64.ofInt ((Int64.ofInt (F_X12_w2 x0 x1 g) <<< ((Int32.ofInt 8).toInt64 &&& 63)).toInt) ||| Int64.ofInt x2).toInt
theorem f_X12_w3 {ax : zAx} {x0 x1 x2 : Int} {L : List Nat} {g : Nat → Nat → Int} {r : Option g_V} {h : g_H} (hx : g_ex ax yX12_w3 cX12_w3 [(0, x0), (1, x1), (2, x2)] (L, g) r h) : r = some (2, F_X12_w3 x0 x1 x2 g) ∧ h = (L, g) := by
  obtain ⟨ρ, n0, hρ, h0⟩ := g_run_of hx
  obtain rfl : ρ 0 = x0 := hρ (0, x0) (by simp)
  obtain rfl : ρ 1 = x1 := hρ (1, x1) (by simp)
  obtain rfl : ρ 2 = x2 := hρ (2, x2) (by simp)
  obtain ⟨n1, r1, k1, l1, x1, h1⟩ := bk_X12_w3_0 h0
  obtain ⟨e1, d1⟩ := f_X12_w2 x1
  subst e1
  subst d1
  obtain ⟨e2, d2⟩ := bk_X12_w3_5 h1
  exact ⟨e2, d2⟩

theorem jI_X12_w4 : ∀ (pc : Nat) (q : Instr × Nat), lkp iX12_w4 pc = some q → decode cX12_w4 pc = .ok q := fun pc q hq => jX12_w4 (pc, q) (lkp_in iX12_w4 hq)
theorem bk_X12_w4_0 {ax : zAx} {CE : g_E} {n : Nat} {ρ : Nat → Int} {L : List Nat} {g : Nat → Nat → Int} {r : Option g_V} {h : g_H} (hr : g_run RX12 ax CE cX12_w4 n (0, ρ, [], L, g) r h) : ∃ n' r1 h1', n' < n ∧ CE yX12_w3 cX12_w3 [(0, ρ 0), (1, ρ 1), (2, ρ 2)] (L, g) r1 h1' ∧ g_run RX12 ax CE cX12_w4 n' (6, ρ, g_push r1 [], h1') r h := by
  obtain ⟨n1, e, h1⟩ := g_blk_ok noX12 jI_X12_w4 tab_X12 3 n hr (c2 := (3, ρ, [(1, ρ 2), (1, ρ 1), (1, ρ 0)], L, g)) rfl
  obtain ⟨n2, c', e2, h2, h3⟩ := g_step_un noX12 (i := .invokestatic 176) (len := 3) (jI_X12_w4 3 _ rfl) (gnrS _) h1
  obtain ⟨r1, h1', hx, hc⟩ := g_static_un lk_X12 nat_all lX12_ok (idx := 176) (mode := 1) (mi := 191) (ci := 0) (na := 3) rfl (by decide) (by decide) mq_X12_w3 [(1, ρ 0), (1, ρ 1), (1, ρ 2)] [] rfl rfl h2
  subst hc
  exact ⟨n2, r1, h1', by omega, hx, h3⟩
theorem bk_X12_w4_6 {ax : zAx} {CE : g_E} {n : Nat} {ρ : Nat → Int} {s0 : Int} {L : List Nat} {g : Nat → Nat → Int} {r : Option g_V} {h : g_H} (hr : g_run RX12 ax CE cX12_w4 n (6, ρ, [(2, s0)], L, g) r h) : r = some (2, (Int64.ofInt ((Int64.ofInt s0 <<< ((Int32.ofInt 8).toInt64 &&& 63)).toInt) ||| Int64.ofInt (ρ 3)).toInt) ∧ h = (L, g) := by
  obtain ⟨n1, e, h1⟩ := g_blk_ok noX12 jI_X12_w4 tab_X12 5 n hr (c2 := (12, ρ, [(2, (Int64.ofInt ((Int64.ofInt s0 <<< ((Int32.ofInt 8).toInt64 &&& 63)).toInt) ||| Int64.ofInt (ρ 3)).toInt)], L, g)) rfl
  exact g_ret_un noX12 (i := .lreturn) (jI_X12_w4 12 _ rfl) (by decide) h1
def F_X12_w4 (x0 x1 x2 x3 : Int) (g : Nat → Nat → Int) : Int := (Int64.ofInt ((Int64.ofInt (F_X12_w3 x0 x1 x2 g) <<< ((Int32.ofInt 8).toInt64 &&& 63)).toInt) ||| Int64.ofInt x3).toInt
theorem f_X12_w4 {ax : zAx} {x0 x1 x2 x3 : Int} {L : List Nat} {g : Nat → Nat → Int} {r : Option g_V} {h : g_H} (hx : g_ex ax yX12_w4 cX12_w4 [(0, x0), (1, x1), (2, x2), (3, x3)] (L, g) r h) : r = some (2, F_X12_w4 x0 x1 x2 x3 g) ∧ h = (L, g) := by
  obtain ⟨ρ, n0, hρ, h0⟩ := g_run_of hx
  obtain rfl : ρ 0 = x0 := hρ (0, x0) (by simp)
  obtain rfl : ρ 1 = x1 := hρ (1, x1) (by simp)
  obtain rfl : ρ 2 = x2 := hρ (2, x2) (by simp)
  obtain rfl : ρ 3 = x3 := hρ (3, x3) (by simp)
  obtain ⟨n1, r1, k1, l1, x1, h1⟩ := bk_X12_w4_0 h0
  obtain ⟨e1, d1⟩ := f_X12_w3 x1
  subst e1
  subst d1
  obtain ⟨e2, d2⟩ := bk_X12_w4_6 h1
  exact ⟨e2, d2⟩

theorem jI_X12_w5 : ∀ (pc : Nat) (q : Instr × Nat), lkp iX12_w5 pc = some q → decode cX12_w5 pc = .ok q := fun pc q hq => jX12_w5 (pc, q) (lkp_in iX12_w5 hq)
theorem bk_X12_w5_0 {ax : zAx} {CE : g_E} {n : Nat} {ρ : Nat → Int} {L : List Nat} {g : Nat → Nat → Int} {r : Option g_V} {h : g_H} (hr : g_run RX12 ax CE cX12_w5 n (0, ρ, [], L, g) r h) : ∃ n' r1 h1', n' < n ∧ CE yX12_w4 cX12_w4 [(0, ρ 0), (1, ρ 1), (2, ρ 2), (3, ρ 3)] (L, g) r1 h1' ∧ g_run RX12 ax CE cX12_w5 n' (7, ρ, g_push r1 [], h1') r h := by
  obtain ⟨n1, e, h1⟩ := g_blk_ok noX12 jI_X12_w5 tab_X12 4 n hr (c2 := (4, ρ, [(1, ρ 3), (1, ρ 2), (1, ρ 1), (1, ρ 0)], L, g)) rfl
  obtain ⟨n2, c', e2, h2, h3⟩ := g_step_un noX12 (i := .invokestatic 180) (len := 3) (jI_X12_w5 4 _ rfl) (gnrS _) h1
  obtain ⟨r1, h1', hx, hc⟩ := g_static_un lk_X12 nat_all lX12_ok (idx := 180) (mode := 1) (mi := 192) (ci := 0) (na := 4) rfl (by decide) (by decide) mq_X12_w4 [(1, ρ 0), (1, ρ 1), (1, ρ 2), (1, ρ 3)] [] rfl rfl h2
  subst hc
  exact ⟨n2, r1, h1', by omega, hx, h3⟩
theorem bk_X12_w5_7 {ax : zAx} {CE : g_E} {n : Nat} {ρ : Nat → Int} {s0 : Int} {L : List Nat} {g : Nat → Nat → Int} {r : Option g_V} {h : g_H} (hr : g_run RX12 ax CE cX12_w5 n (7, ρ, [(2, s0)], L, g) r h) : r = some (2, (Int64.ofInt ((Int64.ofInt s0 <<< ((Int32.ofInt 8).toInt64 &&& 63)).toInt) ||| Int64.ofInt (ρ 4)).toInt) ∧ h = (L, g) := by
  obtain ⟨n1, e, h1⟩ := g_blk_ok noX12 jI_X12_w5 tab_X12 5 n hr (c2 := (14, ρ, [(2, (Int64.ofInt ((Int64.ofInt s0 <<< ((Int32.ofInt 8).toInt64 &&& 63)).toInt) ||| Int64.ofInt (ρ 4)).toInt)], L, g)) rfl
  exact g_ret_un noX12 (i := .lreturn) (jI_X12_w5 14 _ rfl) (by decide) h1
def F_X12_w5 (x0 x1 x2 x3 x4 : Int) (g : Nat → Nat → Int) : Int := (Int64.ofInt ((Int64.ofInt (F_X12_w4 x0 x1 x2 x3 g) <<< ((Int32.ofInt 8).toInt64 &&& 63)).toInt) ||| Int64.ofInt x4).toInt
theorem f_X12_w5 {ax : zAx} {x0 x1 x2 x3 x4 : Int} {L : List Nat} {g : Nat → Nat → Int} {r : Option g_V} {h : g_H} (hx : g_ex ax yX12_w5 cX12_w5 [(0, x0), (1, x1), (2, x2), (3, x3), (4, x4)] (L, g) r h) : r = some (2, F_X12_w5 x0 x1 x2 x3 x4 g) ∧ h = (L, g) := by
  obtain ⟨ρ, n0, hρ, h0⟩ := g_run_of hx
  obtain rfl : ρ 0 = x0 := hρ (0, x0) (by simp)
  obtain rfl : ρ 1 = x1 := hρ (1, x1) (by simp)
  obtain rfl : ρ 2 = x2 := hρ (2, x2) (by simp)
  obtain rfl : ρ 3 = x3 := hρ (3, x3) (by simp)
  obtain rfl : ρ 4 = x4 := hρ (4, x4) (by simp)
  obtain ⟨n1, r1, k1, l1, x1, h1⟩ := bk_X12_w5_0 h0
  obtain ⟨e1, d1⟩ := f_X12_w4 x1
  subst e1
  subst d1
  obtain ⟨e2, d2⟩ := bk_X12_w5_7 h1
  exact ⟨e2, d2⟩

theorem jI_X12_w6 : ∀ (pc : Nat) (q : Instr × Nat), lkp iX12_w6 pc = some q → decode cX12_w6 pc = .ok q := fun pc q hq => jX12_w6 (pc, q) (lkp_in iX12_w6 hq)
theorem bk_X12_w6_0 {ax : zAx} {CE : g_E} {n : Nat} {ρ : Nat → Int} {L : List Nat} {g : Nat → Nat → Int} {r : Option g_V} {h : g_H} (hr : g_run RX12 ax CE cX12_w6 n (0, ρ, [], L, g) r h) : ∃ n' r1 h1', n' < n ∧ CE yX12_w5 cX12_w5 [(0, ρ 0), (1, ρ 1), (2, ρ 2), (3, ρ 3), (4, ρ 4)] (L, g) r1 h1' ∧ g_run RX12 ax CE cX12_w6 n' (9, ρ, g_push r1 [], h1') r h := by
  obtain ⟨n1, e, h1⟩ := g_blk_ok noX12 jI_X12_w6 tab_X12 5 n hr (c2 := (6, ρ, [(1, ρ 4), (1, ρ 3), (1, ρ 2), (1, ρ 1), (1, ρ 0)], L, g)) rfl
  obtain ⟨n2, c', e2, h2, h3⟩ := g_step_un noX12 (i := .invokestatic 184) (len := 3) (jI_X12_w6 6 _ rfl) (gnrS _) h1
  obtain ⟨r1, h1', hx, hc⟩ := g_static_un lk_X12 nat_all lX12_ok (idx := 184) (mode := 1) (mi := 193) (ci := 0) (na := 5) rfl (by decide) (by decide) mq_X12_w5 [(1, ρ 0), (1, ρ 1), (1, ρ 2), (1, ρ 3), (1, ρ 4)] [] rfl rfl h2
  subst hc
  exact ⟨n2, r1, h1', by omega, hx, h3⟩
theorem bk_X12_w6_9 {ax : zAx} {CE : g_E} {n : Nat} {ρ : Nat → Int} {s0 : Int} {L : List Nat} {g : Nat → Nat → Int} {r : Option g_V} {h : g_H} (hr : g_run RX12 ax CE cX12_w6 n (9, ρ, [(2, s0)], L, g) r h) : r = some (2, (Int64.ofInt ((Int64.ofInt s0 <<< ((Int32.ofInt 8).toInt64 &&& 63)).toInt) ||| Int64.ofInt (ρ 5)).toInt) ∧ h = (L, g) := by
  obtain ⟨n1, e, h1⟩ := g_blk_ok noX12 jI_X12_w6 tab_X12 5 n hr (c2 := (16, ρ, [(2, (Int64.ofInt ((Int64.ofInt s0 <<< ((Int32.ofInt 8).toInt64 &&& 63)).toInt) ||| Int64.ofInt (ρ 5)).toInt)], L, g)) rfl
  exact g_ret_un noX12 (i := .lreturn) (jI_X12_w6 16 _ rfl) (by decide) h1
def F_X12_w6 (x0 x1 x2 x3 x4 x5 : Int) (g : Nat → Nat → Int) : Int := (Int64.ofInt ((Int64.ofInt (F_X12_w5 x0 x1 x2 x3 x4 g) <<< ((Int32.ofInt 8).toInt64 &&& 63)).toInt) ||| Int64.ofInt x5).toInt
theorem f_X12_w6 {ax : zAx} {x0 x1 x2 x3 x4 x5 : Int} {L : List Nat} {g : Nat → Nat → Int} {r : Option g_V} {h : g_H} (hx : g_ex ax yX12_w6 cX12_w6 [(0, x0), (1, x1), (2, x2), (3, x3), (4, x4), (5, x5)] (L, g) r h) : r = some (2, F_X12_w6 x0 x1 x2 x3 x4 x5 g) ∧ h = (L, g) := by
  obtain ⟨ρ, n0, hρ, h0⟩ := g_run_of hx
  obtain rfl : ρ 0 = x0 := hρ (0, x0) (by simp)
  obtain rfl : ρ 1 = x1 := hρ (1, x1) (by simp)
  obtain rfl : ρ 2 = x2 := hρ (2, x2) (by simp)
  obtain rfl : ρ 3 = x3 := hρ (3, x3) (by simp)
  obtain rfl : ρ 4 = x4 := hρ (4, x4) (by simp)
  obtain rfl : ρ 5 = x5 := hρ (5, x5) (by simp)
  obtain ⟨n1, r1, k1, l1, x1, h1⟩ := bk_X12_w6_0 h0
  obtain ⟨e1, d1⟩ := f_X12_w5 x1
  subst e1
  subst d1
  obtain ⟨e2, d2⟩ := bk_X12_w6_9 h1
  exact ⟨e2, d2⟩

theorem jI_X12_rank : ∀ (pc : Nat) (q : Instr × Nat), lkp iX12_rank pc = some q → decode cX12_rank pc = .ok q := fun pc q hq => jX12_rank (pc, q) (lkp_in iX12_rank hq)
theorem bk_X12_rank_0 {ax : zAx} {CE : g_E} {n : Nat} {ρ : Nat → Int} {L : List Nat} {g : Nat → Nat → Int} {r : Option g_V} {h : g_H} (hr : g_run RX12 ax CE cX12_rank n (0, ρ, [], L, g) r h) : ∃ n', n' < n ∧ ((ρ 0 < 40 ∧ g_run RX12 ax CE cX12_rank n' (10, ρ, [], L, g) r h) ∨ (¬ (ρ 0 < 40) ∧ g_run RX12 ax CE cX12_rank n' (6, ρ, [], L, g) r h)) := by
  obtain ⟨n1, e, h1⟩ := g_blk_ok noX12 jI_X12_rank tab_X12 3 n hr (c2 := (if ρ 0 < 40 then 10 else 6, ρ, [], L, g)) rfl
  refine ⟨n1, by omega, ?_⟩
  by_cases hc : ρ 0 < 40
  · exact Or.inl ⟨hc, by rw [if_pos hc] at h1; exact h1⟩
  · exact Or.inr ⟨hc, by rw [if_neg hc] at h1; exact h1⟩
theorem bk_X12_rank_6 {ax : zAx} {CE : g_E} {n : Nat} {ρ : Nat → Int} {L : List Nat} {g : Nat → Nat → Int} {r : Option g_V} {h : g_H} (hr : g_run RX12 ax CE cX12_rank n (6, ρ, [], L, g) r h) : ∃ n', n' < n ∧ g_run RX12 ax CE cX12_rank n' (71, ρ, [(1, 0)], L, g) r h := by
  obtain ⟨n1, e, h1⟩ := g_blk_ok noX12 jI_X12_rank tab_X12 2 n hr (c2 := (71, ρ, [(1, 0)], L, g)) rfl
  exact ⟨n1, by omega, h1⟩
theorem bk_X12_rank_10 {ax : zAx} {CE : g_E} {n : Nat} {ρ : Nat → Int} {L : List Nat} {g : Nat → Nat → Int} {r : Option g_V} {h : g_H} (hr : g_run RX12 ax CE cX12_rank n (10, ρ, [], L, g) r h) : ∃ n', n' < n ∧ ((ρ 0 = 22 ∧ g_run RX12 ax CE cX12_rank n' (16, ρ, [], L, g) r h) ∨ (¬ (ρ 0 = 22) ∧ g_run RX12 ax CE cX12_rank n' (20, ρ, [], L, g) r h)) := by
  obtain ⟨n1, e, h1⟩ := g_blk_ok noX12 jI_X12_rank tab_X12 3 n hr (c2 := (if ρ 0 = 22 then 16 else 20, ρ, [], L, g)) rfl
  refine ⟨n1, by omega, ?_⟩
  by_cases hc : ρ 0 = 22
  · exact Or.inl ⟨hc, by rw [if_pos hc] at h1; exact h1⟩
  · exact Or.inr ⟨hc, by rw [if_neg hc] at h1; exact h1⟩
theorem bk_X12_rank_16 {ax : zAx} {CE : g_E} {n : Nat} {ρ : Nat → Int} {L : List Nat} {g : Nat → Nat → Int} {r : Option g_V} {h : g_H} (hr : g_run RX12 ax CE cX12_rank n (16, ρ, [], L, g) r h) : ∃ n', n' < n ∧ g_run RX12 ax CE cX12_rank n' (71, ρ, [(1, 1)], L, g) r h := by
  obtain ⟨n1, e, h1⟩ := g_blk_ok noX12 jI_X12_rank tab_X12 2 n hr (c2 := (71, ρ, [(1, 1)], L, g)) rfl
  exact ⟨n1, by omega, h1⟩
theorem bk_X12_rank_20 {ax : zAx} {CE : g_E} {n : Nat} {ρ : Nat → Int} {L : List Nat} {g : Nat → Nat → Int} {r : Option g_V} {h : g_H} (hr : g_run RX12 ax CE cX12_rank n (20, ρ, [], L, g) r h) : ∃ n', n' < n ∧ ((ρ 0 = 21 ∧ g_run RX12 ax CE cX12_rank n' (26, ρ, [], L, g) r h) ∨ (¬ (ρ 0 = 21) ∧ g_run RX12 ax CE cX12_rank n' (30, ρ, [], L, g) r h)) := by
  obtain ⟨n1, e, h1⟩ := g_blk_ok noX12 jI_X12_rank tab_X12 3 n hr (c2 := (if ρ 0 = 21 then 26 else 30, ρ, [], L, g)) rfl
  refine ⟨n1, by omega, ?_⟩
  by_cases hc : ρ 0 = 21
  · exact Or.inl ⟨hc, by rw [if_pos hc] at h1; exact h1⟩
  · exact Or.inr ⟨hc, by rw [if_neg hc] at h1; exact h1⟩
theorem bk_X12_rank_26 {ax : zAx} {CE : g_E} {n : Nat} {ρ : Nat → Int} {L : List Nat} {g : Nat → Nat → Int} {r : Option g_V} {h : g_H} (hr : g_run RX12 ax CE cX12_rank n (26, ρ, [], L, g) r h) : ∃ n', n' < n ∧ g_run RX12 ax CE cX12_rank n' (71, ρ, [(1, 2)], L, g) r h := by
  obtain ⟨n1, e, h1⟩ := g_blk_ok noX12 jI_X12_rank tab_X12 2 n hr (c2 := (71, ρ, [(1, 2)], L, g)) rfl
  exact ⟨n1, by omega, h1⟩
theorem bk_X12_rank_30 {ax : zAx} {CE : g_E} {n : Nat} {ρ : Nat → Int} {L : List Nat} {g : Nat → Nat → Int} {r : Option g_V} {h : g_H} (hr : g_run RX12 ax CE cX12_rank n (30, ρ, [], L, g) r h) : ∃ n', n' < n ∧ ((ρ 0 = 20 ∧ g_run RX12 ax CE cX12_rank n' (36, ρ, [], L, g) r h) ∨ (¬ (ρ 0 = 20) ∧ g_run RX12 ax CE cX12_rank n' (40, ρ, [], L, g) r h)) := by
  obtain ⟨n1, e, h1⟩ := g_blk_ok noX12 jI_X12_rank tab_X12 3 n hr (c2 := (if ρ 0 = 20 then 36 else 40, ρ, [], L, g)) rfl
  refine ⟨n1, by omega, ?_⟩
  by_cases hc : ρ 0 = 20
  · exact Or.inl ⟨hc, by rw [if_pos hc] at h1; exact h1⟩
  · exact Or.inr ⟨hc, by rw [if_neg hc] at h1; exact h1⟩
theorem bk_X12_rank_36 {ax : zAx} {CE : g_E} {n : Nat} {ρ : Nat → Int} {L : List Nat} {g : Nat → Nat → Int} {r : Option g_V} {h : g_H} (hr : g_run RX12 ax CE cX12_rank n (36, ρ, [], L, g) r h) : ∃ n', n' < n ∧ g_run RX12 ax CE cX12_rank n' (71, ρ, [(1, 3)], L, g) r h := by
  obtain ⟨n1, e, h1⟩ := g_blk_ok noX12 jI_X12_rank tab_X12 2 n hr (c2 := (71, ρ, [(1, 3)], L, g)) rfl
  exact ⟨n1, by omega, h1⟩
theorem bk_X12_rank_40 {ax : zAx} {CE : g_E} {n : Nat} {ρ : Nat → Int} {L : List Nat} {g : Nat → Nat → Int} {r : Option g_V} {h : g_H} (hr : g_run RX12 ax CE cX12_rank n (40, ρ, [], L, g) r h) : ∃ n', n' < n ∧ ((ρ 0 < 10 ∧ g_run RX12 ax CE cX12_rank n' (50, ρ, [], L, g) r h) ∨ (¬ (ρ 0 < 10) ∧ g_run RX12 ax CE cX12_rank n' (46, ρ, [], L, g) r h)) := by
  obtain ⟨n1, e, h1⟩ := g_blk_ok noX12 jI_X12_rank tab_X12 3 n hr (c2 := (if ρ 0 < 10 then 50 else 46, ρ, [], L, g)) rfl
  refine ⟨n1, by omega, ?_⟩
  by_cases hc : ρ 0 < 10
  · exact Or.inl ⟨hc, by rw [if_pos hc] at h1; exact h1⟩
  · exact Or.inr ⟨hc, by rw [if_neg hc] at h1; exact h1⟩
theorem bk_X12_rank_46 {ax : zAx} {CE : g_E} {n : Nat} {ρ : Nat → Int} {L : List Nat} {g : Nat → Nat → Int} {r : Option g_V} {h : g_H} (hr : g_run RX12 ax CE cX12_rank n (46, ρ, [], L, g) r h) : ∃ n', n' < n ∧ g_run RX12 ax CE cX12_rank n' (71, ρ, [(1, 4)], L, g) r h := by
  obtain ⟨n1, e, h1⟩ := g_blk_ok noX12 jI_X12_rank tab_X12 2 n hr (c2 := (71, ρ, [(1, 4)], L, g)) rfl
  exact ⟨n1, by omega, h1⟩
theorem bk_X12_rank_50 {ax : zAx} {CE : g_E} {n : Nat} {ρ : Nat → Int} {L : List Nat} {g : Nat → Nat → Int} {r : Option g_V} {h : g_H} (hr : g_run RX12 ax CE cX12_rank n (50, ρ, [], L, g) r h) : ∃ n', n' < n ∧ ((ρ 0 = 2 ∧ g_run RX12 ax CE cX12_rank n' (55, ρ, [], L, g) r h) ∨ (¬ (ρ 0 = 2) ∧ g_run RX12 ax CE cX12_rank n' (60, ρ, [], L, g) r h)) := by
  obtain ⟨n1, e, h1⟩ := g_blk_ok noX12 jI_X12_rank tab_X12 3 n hr (c2 := (if ρ 0 = 2 then 55 else 60, ρ, [], L, g)) rfl
  refine ⟨n1, by omega, ?_⟩
  by_cases hc : ρ 0 = 2
  · exact Or.inl ⟨hc, by rw [if_pos hc] at h1; exact h1⟩
  · exact Or.inr ⟨hc, by rw [if_neg hc] at h1; exact h1⟩
theorem bk_X12_rank_55 {ax : zAx} {CE : g_E} {n : Nat} {ρ : Nat → Int} {L : List Nat} {g : Nat → Nat → Int} {r : Option g_V} {h : g_H} (hr : g_run RX12 ax CE cX12_rank n (55, ρ, [], L, g) r h) : ∃ n', n' < n ∧ g_run RX12 ax CE cX12_rank n' (71, ρ, [(1, 7)], L, g) r h := by
  obtain ⟨n1, e, h1⟩ := g_blk_ok noX12 jI_X12_rank tab_X12 2 n hr (c2 := (71, ρ, [(1, 7)], L, g)) rfl
  exact ⟨n1, by omega, h1⟩
theorem bk_X12_rank_60 {ax : zAx} {CE : g_E} {n : Nat} {ρ : Nat → Int} {L : List Nat} {g : Nat → Nat → Int} {r : Option g_V} {h : g_H} (hr : g_run RX12 ax CE cX12_rank n (60, ρ, [], L, g) r h) : ∃ n', n' < n ∧ ((ρ 0 < 5 ∧ g_run RX12 ax CE cX12_rank n' (70, ρ, [], L, g) r h) ∨ (¬ (ρ 0 < 5) ∧ g_run RX12 ax CE cX12_rank n' (65, ρ, [], L, g) r h)) := by
  obtain ⟨n1, e, h1⟩ := g_blk_ok noX12 jI_X12_rank tab_X12 3 n hr (c2 := (if ρ 0 < 5 then 70 else 65, ρ, [], L, g)) rfl
  refine ⟨n1, by omega, ?_⟩
  by_cases hc : ρ 0 < 5
  · exact Or.inl ⟨hc, by rw [if_pos hc] at h1; exact h1⟩
  · exact Or.inr ⟨hc, by rw [if_neg hc] at h1; exact h1⟩
theorem bk_X12_rank_65 {ax : zAx} {CE : g_E} {n : Nat} {ρ : Nat → Int} {L : List Nat} {g : Nat → Nat → Int} {r : Option g_V} {h : g_H} (hr : g_run RX12 ax CE cX12_rank n (65, ρ, [], L, g) r h) : ∃ n', n' < n ∧ g_run RX12 ax CE cX12_rank n' (71, ρ, [(1, 6)], L, g) r h := by
  obtain ⟨n1, e, h1⟩ := g_blk_ok noX12 jI_X12_rank tab_X12 2 n hr (c2 := (71, ρ, [(1, 6)], L, g)) rfl
  exact ⟨n1, by omega, h1⟩
theorem bk_X12_rank_70 {ax : zAx} {CE : g_E} {n : Nat} {ρ : Nat → Int} {L : List Nat} {g : Nat → Nat → Int} {r : Option g_V} {h : g_H} (hr : g_run RX12 ax CE cX12_rank n (70, ρ, [], L, g) r h) : ∃ n', n' < n ∧ g_run RX12 ax CE cX12_rank n' (71, ρ, [(1, 5)], L, g) r h := by
  obtain ⟨n1, e, h1⟩ := g_blk_ok noX12 jI_X12_rank tab_X12 1 n hr (c2 := (71, ρ, [(1, 5)], L, g)) rfl
  exact ⟨n1, by omega, h1⟩
theorem bk_X12_rank_71 {ax : zAx} {CE : g_E} {n : Nat} {ρ : Nat → Int} {s0 : Int} {L : List Nat} {g : Nat → Nat → Int} {r : Option g_V} {h : g_H} (hr : g_run RX12 ax CE cX12_rank n (71, ρ, [(1, s0)], L, g) r h) : r = some (1, s0) ∧ h = (L, g) := by
  obtain ⟨n1, e, h1⟩ := g_blk_ok noX12 jI_X12_rank tab_X12 0 n hr (c2 := (71, ρ, [(1, s0)], L, g)) rfl
  exact g_ret_un noX12 (i := .ireturn) (jI_X12_rank 71 _ rfl) (by decide) h1
def F_X12_rank (x0 : Int) (g : Nat → Nat → Int) : Int := if x0 < 40 then if x0 = 22 then 1 else if x0 = 21 then 2 else if x0 = 20 then 3 else if x0 < 10 then if x0 = 2 then 7 else if x0 < 5 then 5 else 6 else 4 else 0
theorem f_X12_rank {ax : zAx} {x0 : Int} {L : List Nat} {g : Nat → Nat → Int} {r : Option g_V} {h : g_H} (hx : g_ex ax yX12_rank cX12_rank [(0, x0)] (L, g) r h) : r = some (1, F_X12_rank x0 g) ∧ h = (L, g) := by
  obtain ⟨ρ, n0, hρ, h0⟩ := g_run_of hx
  obtain rfl : ρ 0 = x0 := hρ (0, x0) (by simp)
  obtain ⟨n1, l1, h1⟩ := bk_X12_rank_0 h0
  rcases h1 with ⟨c1, h1⟩ | ⟨c1, h1⟩
  · obtain ⟨n2, l2, h2⟩ := bk_X12_rank_10 h1
    rcases h2 with ⟨c2, h2⟩ | ⟨c2, h2⟩
    · obtain ⟨n3, l3, h3⟩ := bk_X12_rank_16 h2
      obtain ⟨e4, d4⟩ := bk_X12_rank_71 h3
      unfold F_X12_rank
      rw [if_pos c1, if_pos c2]
      exact ⟨e4, d4⟩
    · obtain ⟨n5, l5, h5⟩ := bk_X12_rank_20 h2
      rcases h5 with ⟨c5, h5⟩ | ⟨c5, h5⟩
      · obtain ⟨n6, l6, h6⟩ := bk_X12_rank_26 h5
        obtain ⟨e7, d7⟩ := bk_X12_rank_71 h6
        unfold F_X12_rank
        rw [if_pos c1, if_neg c2, if_pos c5]
        exact ⟨e7, d7⟩
      · obtain ⟨n8, l8, h8⟩ := bk_X12_rank_30 h5
        rcases h8 with ⟨c8, h8⟩ | ⟨c8, h8⟩
        · obtain ⟨n9, l9, h9⟩ := bk_X12_rank_36 h8
          obtain ⟨e10, d10⟩ := bk_X12_rank_71 h9
          unfold F_X12_rank
          rw [if_pos c1, if_neg c2, if_neg c5, if_pos c8]
          exact ⟨e10, d10⟩
        · obtain ⟨n11, l11, h11⟩ := bk_X12_rank_40 h8
          rcases h11 with ⟨c11, h11⟩ | ⟨c11, h11⟩
          · obtain ⟨n12, l12, h12⟩ := bk_X12_rank_50 h11
            rcases h12 with ⟨c12, h12⟩ | ⟨c12, h12⟩
            · obtain ⟨n13, l13, h13⟩ := bk_X12_rank_55 h12
              obtain ⟨e14, d14⟩ := bk_X12_rank_71 h13
              unfold F_X12_rank
              rw [if_pos c1, if_neg c2, if_neg c5, if_neg c8, if_pos c11, if_pos c12]
              exact ⟨e14, d14⟩
            · obtain ⟨n15, l15, h15⟩ := bk_X12_rank_60 h12
              rcases h15 with ⟨c15, h15⟩ | ⟨c15, h15⟩
              · obtain ⟨n16, l16, h16⟩ := bk_X12_rank_70 h15
                obtain ⟨e17, d17⟩ := bk_X12_rank_71 h16
                unfold F_X12_rank
                rw [if_pos c1, if_neg c2, if_neg c5, if_neg c8, if_pos c11, if_neg c12, if_pos c15]
                exact ⟨e17, d17⟩
              · obtain ⟨n18, l18, h18⟩ := bk_X12_rank_65 h15
                obtain ⟨e19, d19⟩ := bk_X12_rank_71 h18
                unfold F_X12_rank
                rw [if_pos c1, if_neg c2, if_neg c5, if_neg c8, if_pos c11, if_neg c12, if_neg c15]
                exact ⟨e19, d19⟩
          · obtain ⟨n20, l20, h20⟩ := bk_X12_rank_46 h11
            obtain ⟨e21, d21⟩ := bk_X12_rank_71 h20
            unfold F_X12_rank
            rw [if_pos c1, if_neg c2, if_neg c5, if_neg c8, if_neg c11]
            exact ⟨e21, d21⟩
  · obtain ⟨n22, l22, h22⟩ := bk_X12_rank_6 h1
    obtain ⟨e23, d23⟩ := bk_X12_rank_71 h22
    unfold F_X12_rank
    rw [if_neg c1]
    exact ⟨e23, d23⟩

theorem jI_X12_emit : ∀ (pc : Nat) (q : Instr × Nat), lkp iX12_emit pc = some q → decode cX12_emit pc = .ok q := fun pc q hq => jX12_emit (pc, q) (lkp_in iX12_emit hq)
theorem bk_X12_emit_0 {ax : zAx} {CE : g_E} {n : Nat} {ρ : Nat → Int} {L : List Nat} {g : Nat → Nat → Int} {r : Option g_V} {h : g_H} (hr : g_run RX12 ax CE cX12_emit n (0, ρ, [], L, g) r h) : r = none ∧ h = (L, (g_up (g_up (g_up g (g (ρ 0).toNat 2).toNat (g_i ((g_i ((g (ρ 0).toNat 12) + 97)) + (g_i (2 * (g (ρ 0).toNat 13))))).toNat (ρ 1)) ((g_up g (g (ρ 0).toNat 2).toNat (g_i ((g_i ((g (ρ 0).toNat 12) + 97)) + (g_i (2 * (g (ρ 0).toNat 13))))).toNat (ρ 1)) (ρ 0).toNat 2).toNat (g_i ((g_i ((g_i (((g_up g (g (ρ 0).toNat 2).toNat (g_i ((g_i ((g (ρ 0).toNat 12) + 97)) + (g_i (2 * (g (ρ 0).toNat 13))))).toNat (ρ 1)) (ρ 0).toNat 12) + 97)) + (g_i (2 * ((g_up g (g (ρ 0).toNat 2).toNat (g_i ((g_i ((g (ρ 0).toNat 12) + 97)) + (g_i (2 * (g (ρ 0).toNat 13))))).toNat (ρ 1)) (ρ 0).toNat 13))))) + 1)).toNat (ρ 2)) (ρ 0).toNat 13 (g_i (((g_up (g_up g (g (ρ 0).toNat 2).toNat (g_i ((g_i ((g (ρ 0).toNat 12) + 97)) + (g_i (2 * (g (ρ 0).toNat 13))))).toNat (ρ 1)) ((g_up g (g (ρ 0).toNat 2).toNat (g_i ((g_i ((g (ρ 0).toNat 12) + 97)) + (g_i (2 * (g (ρ 0).toNat 13))))).toNat (ρ 1)) (ρ 0).toNat 2).toNat (g_i ((g_i ((g_i (((g_up g (g (ρ 0).toNat 2).toNat (g_i ((g_i ((g (ρ 0).toNat 12) + 97)) + (g_i (2 * (g (ρ 0).toNat 13))))).toNat (ρ 1)) (ρ 0).toNat 12) + 97)) + (g_i (2 * ((g_up g (g (ρ 0).toNat 2).toNat (g_i ((g_i ((g (ρ 0).toNat 12) + 97)) + (g_i (2 * (g (ρ 0).toNat 13))))).toNat (ρ 1)) (ρ 0).toNat 13))))) + 1)).toNat (ρ 2)) (ρ 0).toNat 13) + 1)))) := by
  obtain ⟨n1, e, h1⟩ := g_blk_ok noX12 jI_X12_emit tab_X12 34 n hr (c2 := (52, ρ, [], L, (g_up (g_up (g_up g (g (ρ 0).toNat 2).toNat (g_i ((g_i ((g (ρ 0).toNat 12) + 97)) + (g_i (2 * (g (ρ 0).toNat 13))))).toNat (ρ 1)) ((g_up g (g (ρ 0).toNat 2).toNat (g_i ((g_i ((g (ρ 0).toNat 12) + 97)) + (g_i (2 * (g (ρ 0).toNat 13))))).toNat (ρ 1)) (ρ 0).toNat 2).toNat (g_i ((g_i ((g_i (((g_up g (g (ρ 0).toNat 2).toNat (g_i ((g_i ((g (ρ 0).toNat 12) + 97)) + (g_i (2 * (g (ρ 0).toNat 13))))).toNat (ρ 1)) (ρ 0).toNat 12) + 97)) + (g_i (2 * ((g_up g (g (ρ 0).toNat 2).toNat (g_i ((g_i ((g (ρ 0).toNat 12) + 97)) + (g_i (2 * (g (ρ 0).toNat 13))))).toNat (ρ 1)) (ρ 0).toNat 13))))) + 1)).toNat (ρ 2)) (ρ 0).toNat 13 (g_i (((g_up (g_up g (g (ρ 0).toNat 2).toNat (g_i ((g_i ((g (ρ 0).toNat 12) + 97)) + (g_i (2 * (g (ρ 0).toNat 13))))).toNat (ρ 1)) ((g_up g (g (ρ 0).toNat 2).toNat (g_i ((g_i ((g (ρ 0).toNat 12) + 97)) + (g_i (2 * (g (ρ 0).toNat 13))))).toNat (ρ 1)) (ρ 0).toNat 2).toNat (g_i ((g_i ((g_i (((g_up g (g (ρ 0).toNat 2).toNat (g_i ((g_i ((g (ρ 0).toNat 12) + 97)) + (g_i (2 * (g (ρ 0).toNat 13))))).toNat (ρ 1)) (ρ 0).toNat 12) + 97)) + (g_i (2 * ((g_up g (g (ρ 0).toNat 2).toNat (g_i ((g_i ((g (ρ 0).toNat 12) + 97)) + (g_i (2 * (g (ρ 0).toNat 13))))).toNat (ρ 1)) (ρ 0).toNat 13))))) + 1)).toNat (ρ 2)) (ρ 0).toNat 13) + 1))))) rfl
  exact g_retv_un noX12 (jI_X12_emit 52 _ rfl) h1
def F_X12_emit (x0 x1 x2 : Int) (g : Nat → Nat → Int) : (Nat → Nat → Int) := (g_up (g_up (g_up g (g x0.toNat 2).toNat (g_i ((g_i ((g x0.toNat 12) + 97)) + (g_i (2 * (g x0.toNat 13))))).toNat x1) ((g_up g (g x0.toNat 2).toNat (g_i ((g_i ((g x0.toNat 12) + 97)) + (g_i (2 * (g x0.toNat 13))))).toNat x1) x0.toNat 2).toNat (g_i ((g_i ((g_i (((g_up g (g x0.toNat 2).toNat (g_i ((g_i ((g x0.toNat 12) + 97)) + (g_i (2 * (g x0.toNat 13))))).toNat x1) x0.toNat 12) + 97)) + (g_i (2 * ((g_up g (g x0.toNat 2).toNat (g_i ((g_i ((g x0.toNat 12) + 97)) + (g_i (2 * (g x0.toNat 13))))).toNat x1) x0.toNat 13))))) + 1)).toNat x2) x0.toNat 13 (g_i (((g_up (g_up g (g x0.toNat 2).toNat (g_i ((g_i ((g x0.toNat 12) + 97)) + (g_i (2 * (g x0.toNat 13))))).toNat x1) ((g_up g (g x0.toNat 2).toNat (g_i ((g_i ((g x0.toNat 12) + 97)) + (g_i (2 * (g x0.toNat 13))))).toNat x1) x0.toNat 2).toNat (g_i ((g_i ((g_i (((g_up g (g x0.toNat 2).toNat (g_i ((g_i ((g x0.toNat 12) + 97)) + (g_i (2 * (g x0.toNat 13))))).toNat x1) x0.toNat 12) + 97)) + (g_i (2 * ((g_up g (g x0.toNat 2).toNat (g_i ((g_i ((g x0.toNat 12) + 97)) + (g_i (2 * (g x0.toNat 13))))).toNat x1) x0.toNat 13))))) + 1)).toNat x2) x0.toNat 13) + 1)))
theorem f_X12_emit {ax : zAx} {x0 x1 x2 : Int} {L : List Nat} {g : Nat → Nat → Int} {r : Option g_V} {h : g_H} (hx : g_ex ax yX12_emit cX12_emit [(0, x0), (1, x1), (2, x2)] (L, g) r h) : r = none ∧ h = (L, F_X12_emit x0 x1 x2 g) := by
  obtain ⟨ρ, n0, hρ, h0⟩ := g_run_of hx
  obtain rfl : ρ 0 = x0 := hρ (0, x0) (by simp)
  obtain rfl : ρ 1 = x1 := hρ (1, x1) (by simp)
  obtain rfl : ρ 2 = x2 := hρ (2, x2) (by simp)
  obtain ⟨e1, d1⟩ := bk_X12_emit_0 h0
  exact ⟨e1, d1⟩
