/-! Functions. -/
theorem jI_X11_end : ∀ (pc : Nat) (q : Instr × Nat), lkp iX11_end pc = some q → decode cX11_end pc = .ok q := fun pc q hq => jX11_end (pc, q) (lkp_in iX11_end hq)
theorem bk_X11_end_0 {ax : zAx} {CE : g_E} {n : Nat} {ρ : Nat → Int} {L : List Nat} {g : Nat → Nat → Int} {r : Option g_V} {h : g_H} (hr : g_run RX11 ax CE cX11_end n (0, ρ, [], L, g) r h) : ∃ n', n' < n ∧ ((ρ 1 < 0 ∧ g_run RX11 ax CE cX11_end n' (15, ρ, [], L, g) r h) ∨ (¬ (ρ 1 < 0) ∧ g_run RX11 ax CE cX11_end n' (4, ρ, [], L, g) r h)) := by
  obtain ⟨n1, e, h1⟩ := g_blk_ok noX11 jI_X11_end tab_X11 2 n hr (c2 := (if ρ 1 < 0 then 15 else 4, ρ, [], L, g)) rfl
  refine ⟨n1, by omega, ?_⟩
  by_cases hc : ρ 1 < 0
  · exact Or.inl ⟨hc, by rw [if_pos hc] at h1; exact h1⟩
  · exact Or.inr ⟨hc, by rw [if_neg hc] at h1; exact h1⟩
theorem bk_X11_end_4 {ax : zAx} {CE : g_E} {n : Nat} {ρ : Nat → Int} {L : List Nat} {g : Nat → Nat → Int} {r : Option g_V} {h : g_H} (hr : g_run RX11 ax CE cX11_end n (4, ρ, [], L, g) r h) : ∃ n', n' < n ∧ ((ρ 1 ≤ g (g (ρ 0).toNat 2).toNat 0 ∧ g_run RX11 ax CE cX11_end n' (17, ρ, [], L, g) r h) ∨ (¬ (ρ 1 ≤ g (g (ρ 0).toNat 2).toNat 0) ∧ g_run RX11 ax CE cX11_end n' (15, ρ, [], L, g) r h)) := by
  obtain ⟨n1, e, h1⟩ := g_blk_ok noX11 jI_X11_end tab_X11 5 n hr (c2 := (if ρ 1 ≤ g (g (ρ 0).toNat 2).toNat 0 then 17 else 15, ρ, [], L, g)) rfl
  refine ⟨n1, by omega, ?_⟩
  by_cases hc : ρ 1 ≤ g (g (ρ 0).toNat 2).toNat 0
  · exact Or.inl ⟨hc, by rw [if_pos hc] at h1; exact h1⟩
  · exact Or.inr ⟨hc, by rw [if_neg hc] at h1; exact h1⟩
theorem bk_X11_end_15 {ax : zAx} {CE : g_E} {n : Nat} {ρ : Nat → Int} {L : List Nat} {g : Nat → Nat → Int} {r : Option g_V} {h : g_H} (hr : g_run RX11 ax CE cX11_end n (15, ρ, [], L, g) r h) : r = some (1, (-1)) ∧ h = (L, g) := by
  obtain ⟨n1, e, h1⟩ := g_blk_ok noX11 jI_X11_end tab_X11 1 n hr (c2 := (16, ρ, [(1, (-1))], L, g)) rfl
  exact g_ret_un noX11 (i := .ireturn) (jI_X11_end 16 _ rfl) (by decide) h1
theorem bk_X11_end_17 {ax : zAx} {CE : g_E} {n : Nat} {ρ : Nat → Int} {L : List Nat} {g : Nat → Nat → Int} {r : Option g_V} {h : g_H} (hr : g_run RX11 ax CE cX11_end n (17, ρ, [], L, g) r h) : r = some (1, ρ 1) ∧ h = (L, (g_up g (g (ρ 0).toNat 2).toNat 0 (ρ 1))) := by
  obtain ⟨n1, e, h1⟩ := g_blk_ok noX11 jI_X11_end tab_X11 5 n hr (c2 := (26, ρ, [(1, ρ 1)], L, (g_up g (g (ρ 0).toNat 2).toNat 0 (ρ 1)))) rfl
  exact g_ret_un noX11 (i := .ireturn) (jI_X11_end 26 _ rfl) (by decide) h1
def F_X11_end (x0 x1 : Int) (g : Nat → Nat → Int) : Int × (Nat → Nat → Int) := if x1 < 0 then ((-1), g) else if x1 ≤ g (g x0.toNat 2).toNat 0 then (x1, (g_up g (g x0.toNat 2).toNat 0 x1)) else ((-1), g)
theorem f_X11_end {ax : zAx} {x0 x1 : Int} {L : List Nat} {g : Nat → Nat → Int} {r : Option g_V} {h : g_H} (hx : g_ex ax yX11_end cX11_end [(0, x0), (1, x1)] (L, g) r h) : r = some (1, (F_X11_end x0 x1 g).1) ∧ h = (L, (F_X11_end x0 x1 g).2) := by
  obtain ⟨ρ, n0, hρ, h0⟩ := g_run_of hx
  obtain rfl : ρ 0 = x0 := hρ (0, x0) (by simp)
  obtain rfl : ρ 1 = x1 := hρ (1, x1) (by simp)
  obtain ⟨n1, l1, h1⟩ := bk_X11_end_0 h0
  rcases h1 with ⟨c1, h1⟩ | ⟨c1, h1⟩
  · obtain ⟨e2, d2⟩ := bk_X11_end_15 h1
    unfold F_X11_end
    rw [if_pos c1]
    exact ⟨e2, d2⟩
  · obtain ⟨n3, l3, h3⟩ := bk_X11_end_4 h1
    rcases h3 with ⟨c3, h3⟩ | ⟨c3, h3⟩
    · obtain ⟨e4, d4⟩ := bk_X11_end_17 h3
      unfold F_X11_end
      rw [if_neg c1, if_pos c3]
      exact ⟨e4, d4⟩
    · obtain ⟨e5, d5⟩ := bk_X11_end_15 h3
      unfold F_X11_end
      rw [if_neg c1, if_neg c3]
      exact ⟨e5, d5⟩

theorem jI_X11_fault : ∀ (pc : Nat) (q : Instr × Nat), lkp iX11_fault pc = some q → decode cX11_fault pc = .ok q := fun pc q hq => jX11_fault (pc, q) (lkp_in iX11_fault hq)
theorem bk_X11_fault_0 {ax : zAx} {CE : g_E} {n : Nat} {ρ : Nat → Int} {L : List Nat} {g : Nat → Nat → Int} {r : Option g_V} {h : g_H} (hr : g_run RX11 ax CE cX11_fault n (0, ρ, [], L, g) r h) : ∃ n', n' < n ∧ ((ρ 1 = 0 ∧ g_run RX11 ax CE cX11_fault n' (4, ρ, [], L, g) r h) ∨ (¬ (ρ 1 = 0) ∧ g_run RX11 ax CE cX11_fault n' (12, ρ, [], L, g) r h)) := by
  obtain ⟨n1, e, h1⟩ := g_blk_ok noX11 jI_X11_fault tab_X11 2 n hr (c2 := (if ρ 1 = 0 then 4 else 12, ρ, [], L, g)) rfl
  refine ⟨n1, by omega, ?_⟩
  by_cases hc : ρ 1 = 0
  · exact Or.inl ⟨hc, by rw [if_pos hc] at h1; exact h1⟩
  · exact Or.inr ⟨hc, by rw [if_neg hc] at h1; exact h1⟩
theorem bk_X11_fault_4 {ax : zAx} {CE : g_E} {n : Nat} {ρ : Nat → Int} {L : List Nat} {g : Nat → Nat → Int} {r : Option g_V} {h : g_H} (hr : g_run RX11 ax CE cX11_fault n (4, ρ, [], L, g) r h) : r = some (1, g (g (ρ 0).toNat 3).toNat 0) ∧ h = (L, g) := by
  obtain ⟨n1, e, h1⟩ := g_blk_ok noX11 jI_X11_fault tab_X11 3 n hr (c2 := (11, ρ, [(1, g (g (ρ 0).toNat 3).toNat 0)], L, g)) rfl
  exact g_ret_un noX11 (i := .ireturn) (jI_X11_fault 11 _ rfl) (by decide) h1
theorem bk_X11_fault_12 {ax : zAx} {CE : g_E} {n : Nat} {ρ : Nat → Int} {L : List Nat} {g : Nat → Nat → Int} {r : Option g_V} {h : g_H} (hr : g_run RX11 ax CE cX11_fault n (12, ρ, [], L, g) r h) : ∃ n', n' < n ∧ ((ρ 1 = 1 ∧ g_run RX11 ax CE cX11_fault n' (17, ρ, [], L, g) r h) ∨ (¬ (ρ 1 = 1) ∧ g_run RX11 ax CE cX11_fault n' (27, ρ, [], L, g) r h)) := by
  obtain ⟨n1, e, h1⟩ := g_blk_ok noX11 jI_X11_fault tab_X11 3 n hr (c2 := (if ρ 1 = 1 then 17 else 27, ρ, [], L, g)) rfl
  refine ⟨n1, by omega, ?_⟩
  by_cases hc : ρ 1 = 1
  · exact Or.inl ⟨hc, by rw [if_pos hc] at h1; exact h1⟩
  · exact Or.inr ⟨hc, by rw [if_neg hc] at h1; exact h1⟩
theorem bk_X11_fault_17 {ax : zAx} {CE : g_E} {n : Nat} {ρ : Nat → Int} {L : List Nat} {g : Nat → Nat → Int} {r : Option g_V} {h : g_H} (hr : g_run RX11 ax CE cX11_fault n (17, ρ, [], L, g) r h) : ∃ n', n' < n ∧ g_run RX11 ax CE cX11_fault n' (28, ρ, [(1, g (g (ρ 0).toNat 3).toNat 1)], L, g) r h := by
  obtain ⟨n1, e, h1⟩ := g_blk_ok noX11 jI_X11_fault tab_X11 4 n hr (c2 := (28, ρ, [(1, g (g (ρ 0).toNat 3).toNat 1)], L, g)) rfl
  exact ⟨n1, by omega, h1⟩
theorem bk_X11_fault_27 {ax : zAx} {CE : g_E} {n : Nat} {ρ : Nat → Int} {L : List Nat} {g : Nat → Nat → Int} {r : Option g_V} {h : g_H} (hr : g_run RX11 ax CE cX11_fault n (27, ρ, [], L, g) r h) : ∃ n', n' < n ∧ g_run RX11 ax CE cX11_fault n' (28, ρ, [(1, (-1))], L, g) r h := by
  obtain ⟨n1, e, h1⟩ := g_blk_ok noX11 jI_X11_fault tab_X11 1 n hr (c2 := (28, ρ, [(1, (-1))], L, g)) rfl
  exact ⟨n1, by omega, h1⟩
theorem bk_X11_fault_28 {ax : zAx} {CE : g_E} {n : Nat} {ρ : Nat → Int} {s0 : Int} {L : List Nat} {g : Nat → Nat → Int} {r : Option g_V} {h : g_H} (hr : g_run RX11 ax CE cX11_fault n (28, ρ, [(1, s0)], L, g) r h) : r = some (1, s0) ∧ h = (L, g) := by
  obtain ⟨n1, e, h1⟩ := g_blk_ok noX11 jI_X11_fault tab_X11 0 n hr (c2 := (28, ρ, [(1, s0)], L, g)) rfl
  exact g_ret_un noX11 (i := .ireturn) (jI_X11_fault 28 _ rfl) (by decide) h1
def F_X11_fault (x0 x1 : Int) (g : Nat → Nat → Int) : Int := if x1 = 0 then g (g x0.toNat 3).toNat 0 else if x1 = 1 then g (g x0.toNat 3).toNat 1 else (-1)
theorem f_X11_fault {ax : zAx} {x0 x1 : Int} {L : List Nat} {g : Nat → Nat → Int} {r : Option g_V} {h : g_H} (hx : g_ex ax yX11_fault cX11_fault [(0, x0), (1, x1)] (L, g) r h) : r = some (1, F_X11_fault x0 x1 g) ∧ h = (L, g) := by
  obtain ⟨ρ, n0, hρ, h0⟩ := g_run_of hx
  obtain rfl : ρ 0 = x0 := hρ (0, x0) (by simp)
  obtain rfl : ρ 1 = x1 := hρ (1, x1) (by simp)
  obtain ⟨n1, l1, h1⟩ := bk_X11_fault_0 h0
  rcases h1 with ⟨c1, h1⟩ | ⟨c1, h1⟩
  · obtain ⟨e2, d2⟩ := bk_X11_fault_4 h1
    unfold F_X11_fault
    rw [if_pos c1]
    exact ⟨e2, d2⟩
  · obtain ⟨n3, l3, h3⟩ := bk_X11_fault_12 h1
    rcases h3 with ⟨c3, h3⟩ | ⟨c3, h3⟩
    · obtain ⟨n4, l4, h4⟩ := bk_X11_fault_17 h3
      obtain ⟨e5, d5⟩ := bk_X11_fault_28 h4
      unfold F_X11_fault
      rw [if_neg c1, if_pos c3]
      exact ⟨e5, d5⟩
    · obtain ⟨n6, l6, h6⟩ := bk_X11_fault_27 h3
      obtain ⟨e7, d7⟩ := bk_X11_fault_28 h6
      unfold F_X11_fault
      rw [if_neg c1, if_neg c3]
      exact ⟨e7, d7⟩

theorem jI_X12_fault : ∀ (pc : Nat) (q : Instr × Nat), lkp iX12_fault pc = some q → decode cX12_fault pc = .ok q := fun pc q hq => jX12_fault (pc, q) (lkp_in iX12_fault hq)
theorem bk_X12_fault_0 {ax : zAx} {CE : g_E} {n : Nat} {ρ : Nat → Int} {L : List Nat} {g : Nat → Nat → Int} {r : Option g_V} {h : g_H} (hr : g_run RX12 ax CE cX12_fault n (0, ρ, [], L, g) r h) : ∃ n', n' < n ∧ ((ρ 1 = 0 ∧ g_run RX12 ax CE cX12_fault n' (4, ρ, [], L, g) r h) ∨ (¬ (ρ 1 = 0) ∧ g_run RX12 ax CE cX12_fault n' (11, ρ, [], L, g) r h)) := by
  obtain ⟨n1, e, h1⟩ := g_blk_ok noX12 jI_X12_fault tab_X12 2 n hr (c2 := (if ρ 1 = 0 then 4 else 11, ρ, [], L, g)) rfl
  refine ⟨n1, by omega, ?_⟩
  by_cases hc : ρ 1 = 0
  · exact Or.inl ⟨hc, by rw [if_pos hc] at h1; exact h1⟩
  · exact Or.inr ⟨hc, by rw [if_neg hc] at h1; exact h1⟩
theorem bk_X12_fault_4 {ax : zAx} {CE : g_E} {n : Nat} {ρ : Nat → Int} {L : List Nat} {g : Nat → Nat → Int} {r : Option g_V} {h : g_H} (hr : g_run RX12 ax CE cX12_fault n (4, ρ, [], L, g) r h) : ∃ n', n' < n ∧ g_run RX12 ax CE cX12_fault n' (24, ρ, [(1, g (ρ 0).toNat 5)], L, g) r h := by
  obtain ⟨n1, e, h1⟩ := g_blk_ok noX12 jI_X12_fault tab_X12 3 n hr (c2 := (24, ρ, [(1, g (ρ 0).toNat 5)], L, g)) rfl
  exact ⟨n1, by omega, h1⟩
theorem bk_X12_fault_11 {ax : zAx} {CE : g_E} {n : Nat} {ρ : Nat → Int} {L : List Nat} {g : Nat → Nat → Int} {r : Option g_V} {h : g_H} (hr : g_run RX12 ax CE cX12_fault n (11, ρ, [], L, g) r h) : ∃ n', n' < n ∧ ((ρ 1 = 1 ∧ g_run RX12 ax CE cX12_fault n' (16, ρ, [], L, g) r h) ∨ (¬ (ρ 1 = 1) ∧ g_run RX12 ax CE cX12_fault n' (23, ρ, [], L, g) r h)) := by
  obtain ⟨n1, e, h1⟩ := g_blk_ok noX12 jI_X12_fault tab_X12 3 n hr (c2 := (if ρ 1 = 1 then 16 else 23, ρ, [], L, g)) rfl
  refine ⟨n1, by omega, ?_⟩
  by_cases hc : ρ 1 = 1
  · exact Or.inl ⟨hc, by rw [if_pos hc] at h1; exact h1⟩
  · exact Or.inr ⟨hc, by rw [if_neg hc] at h1; exact h1⟩
theorem bk_X12_fault_16 {ax : zAx} {CE : g_E} {n : Nat} {ρ : Nat → Int} {L : List Nat} {g : Nat → Nat → Int} {r : Option g_V} {h : g_H} (hr : g_run RX12 ax CE cX12_fault n (16, ρ, [], L, g) r h) : ∃ n', n' < n ∧ g_run RX12 ax CE cX12_fault n' (24, ρ, [(1, g (ρ 0).toNat 6)], L, g) r h := by
  obtain ⟨n1, e, h1⟩ := g_blk_ok noX12 jI_X12_fault tab_X12 3 n hr (c2 := (24, ρ, [(1, g (ρ 0).toNat 6)], L, g)) rfl
  exact ⟨n1, by omega, h1⟩
theorem bk_X12_fault_23 {ax : zAx} {CE : g_E} {n : Nat} {ρ : Nat → Int} {L : List Nat} {g : Nat → Nat → Int} {r : Option g_V} {h : g_H} (hr : g_run RX12 ax CE cX12_fault n (23, ρ, [], L, g) r h) : ∃ n', n' < n ∧ g_run RX12 ax CE cX12_fault n' (24, ρ, [(1, (-1))], L, g) r h := by
  obtain ⟨n1, e, h1⟩ := g_blk_ok noX12 jI_X12_fault tab_X12 1 n hr (c2 := (24, ρ, [(1, (-1))], L, g)) rfl
  exact ⟨n1, by omega, h1⟩
theorem bk_X12_fault_24 {ax : zAx} {CE : g_E} {n : Nat} {ρ : Nat → Int} {s0 : Int} {L : List Nat} {g : Nat → Nat → Int} {r : Option g_V} {h : g_H} (hr : g_run RX12 ax CE cX12_fault n (24, ρ, [(1, s0)], L, g) r h) : r = some (1, s0) ∧ h = (L, g) := by
  obtain ⟨n1, e, h1⟩ := g_blk_ok noX12 jI_X12_fault tab_X12 0 n hr (c2 := (24, ρ, [(1, s0)], L, g)) rfl
  exact g_ret_un noX12 (i := .ireturn) (jI_X12_fault 24 _ rfl) (by decide) h1
def F_X12_fault (x0 x1 : Int) (g : Nat → Nat → Int) : Int := if x1 = 0 then g x0.toNat 5 else if x1 = 1 then g x0.toNat 6 else (-1)
theorem f_X12_fault {ax : zAx} {x0 x1 : Int} {L : List Nat} {g : Nat → Nat → Int} {r : Option g_V} {h : g_H} (hx : g_ex ax yX12_fault cX12_fault [(0, x0), (1, x1)] (L, g) r h) : r = some (1, F_X12_fault x0 x1 g) ∧ h = (L, g) := by
  obtain ⟨ρ, n0, hρ, h0⟩ := g_run_of hx
  obtain rfl : ρ 0 = x0 := hρ (0, x0) (by simp)
  obtain rfl : ρ 1 = x1 := hρ (1, x1) (by simp)
  obtain ⟨n1, l1, h1⟩ := bk_X12_fault_0 h0
  rcases h1 with ⟨c1, h1⟩ | ⟨c1, h1⟩
  · obtain ⟨n2, l2, h2⟩ := bk_X12_fault_4 h1
    obtain ⟨e3, d3⟩ := bk_X12_fault_24 h2
    unfold F_X12_fault
    rw [if_pos c1]
    exact ⟨e3, d3⟩
  · obtain ⟨n4, l4, h4⟩ := bk_X12_fault_11 h1
    rcases h4 with ⟨c4, h4⟩ | ⟨c4, h4⟩
    · obtain ⟨n5, l5, h5⟩ := bk_X12_fault_16 h4
      obtain ⟨e6, d6⟩ := bk_X12_fault_24 h5
      unfold F_X12_fault
      rw [if_neg c1, if_pos c4]
      exact ⟨e6, d6⟩
    · obtain ⟨n7, l7, h7⟩ := bk_X12_fault_23 h4
      obtain ⟨e8, d8⟩ := bk_X12_fault_24 h7
      unfold F_X12_fault
      rw [if_neg c1, if_neg c4]
      exact ⟨e8, d8⟩

theorem jI_X4_hasText : ∀ (pc : Nat) (q : Instr × Nat), lkp iX4_hasText pc = some q → decode cX4_hasText pc = .ok q := fun pc q hq => jX4_hasText (pc, q) (lkp_in iX4_hasText hq)
theorem bk_X4_hasText_0 {ax : zAx} {CE : g_E} {n : Nat} {ρ : Nat → Int} {L : List Nat} {g : Nat → Nat → Int} {r : Option g_V} {h : g_H} (hr : g_run RX4 ax CE cX4_hasText n (0, ρ, [], L, g) r h) : ∃ n', n' < n ∧ ((ρ 1 < 0 ∧ g_run RX4 ax CE cX4_hasText n' (25, ρ, [], L, g) r h) ∨ (¬ (ρ 1 < 0) ∧ g_run RX4 ax CE cX4_hasText n' (4, ρ, [], L, g) r h)) := by
  obtain ⟨n1, e, h1⟩ := g_blk_ok noX4 jI_X4_hasText tab_X4 2 n hr (c2 := (if ρ 1 < 0 then 25 else 4, ρ, [], L, g)) rfl
  refine ⟨n1, by omega, ?_⟩
  by_cases hc : ρ 1 < 0
  · exact Or.inl ⟨hc, by rw [if_pos hc] at h1; exact h1⟩
  · exact Or.inr ⟨hc, by rw [if_neg hc] at h1; exact h1⟩
theorem bk_X4_hasText_4 {ax : zAx} {CE : g_E} {n : Nat} {ρ : Nat → Int} {L : List Nat} {g : Nat → Nat → Int} {r : Option g_V} {h : g_H} (hr : g_run RX4 ax CE cX4_hasText n (4, ρ, [], L, g) r h) : ∃ n', n' < n ∧ ((g (ρ 0).toNat 5 ≤ ρ 1 ∧ g_run RX4 ax CE cX4_hasText n' (25, ρ, [], L, g) r h) ∨ (¬ (g (ρ 0).toNat 5 ≤ ρ 1) ∧ g_run RX4 ax CE cX4_hasText n' (12, ρ, [], L, g) r h)) := by
  obtain ⟨n1, e, h1⟩ := g_blk_ok noX4 jI_X4_hasText tab_X4 4 n hr (c2 := (if g (ρ 0).toNat 5 ≤ ρ 1 then 25 else 12, ρ, [], L, g)) rfl
  refine ⟨n1, by omega, ?_⟩
  by_cases hc : g (ρ 0).toNat 5 ≤ ρ 1
  · exact Or.inl ⟨hc, by rw [if_pos hc] at h1; exact h1⟩
  · exact Or.inr ⟨hc, by rw [if_neg hc] at h1; exact h1⟩
theorem bk_X4_hasText_12 {ax : zAx} {CE : g_E} {n : Nat} {ρ : Nat → Int} {L : List Nat} {g : Nat → Nat → Int} {r : Option g_V} {h : g_H} (hr : g_run RX4 ax CE cX4_hasText n (12, ρ, [], L, g) r h) : ∃ n', n' < n ∧ ((g (g (ρ 0).toNat 4).toNat (ρ 1).toNat = -1 ∧ g_run RX4 ax CE cX4_hasText n' (25, ρ, [], L, g) r h) ∨ (¬ (g (g (ρ 0).toNat 4).toNat (ρ 1).toNat = -1) ∧ g_run RX4 ax CE cX4_hasText n' (21, ρ, [], L, g) r h)) := by
  obtain ⟨n1, e, h1⟩ := g_blk_ok noX4 jI_X4_hasText tab_X4 5 n hr (c2 := (if g (g (ρ 0).toNat 4).toNat (ρ 1).toNat = -1 then 25 else 21, ρ, [], L, g)) rfl
  refine ⟨n1, by omega, ?_⟩
  by_cases hc : g (g (ρ 0).toNat 4).toNat (ρ 1).toNat = -1
  · exact Or.inl ⟨hc, by rw [if_pos hc] at h1; exact h1⟩
  · exact Or.inr ⟨hc, by rw [if_neg hc] at h1; exact h1⟩
theorem bk_X4_hasText_21 {ax : zAx} {CE : g_E} {n : Nat} {ρ : Nat → Int} {L : List Nat} {g : Nat → Nat → Int} {r : Option g_V} {h : g_H} (hr : g_run RX4 ax CE cX4_hasText n (21, ρ, [], L, g) r h) : ∃ n', n' < n ∧ g_run RX4 ax CE cX4_hasText n' (26, ρ, [(1, 1)], L, g) r h := by
  obtain ⟨n1, e, h1⟩ := g_blk_ok noX4 jI_X4_hasText tab_X4 2 n hr (c2 := (26, ρ, [(1, 1)], L, g)) rfl
  exact ⟨n1, by omega, h1⟩
theorem bk_X4_hasText_25 {ax : zAx} {CE : g_E} {n : Nat} {ρ : Nat → Int} {L : List Nat} {g : Nat → Nat → Int} {r : Option g_V} {h : g_H} (hr : g_run RX4 ax CE cX4_hasText n (25, ρ, [], L, g) r h) : ∃ n', n' < n ∧ g_run RX4 ax CE cX4_hasText n' (26, ρ, [(1, 0)], L, g) r h := by
  obtain ⟨n1, e, h1⟩ := g_blk_ok noX4 jI_X4_hasText tab_X4 1 n hr (c2 := (26, ρ, [(1, 0)], L, g)) rfl
  exact ⟨n1, by omega, h1⟩
theorem bk_X4_hasText_26 {ax : zAx} {CE : g_E} {n : Nat} {ρ : Nat → Int} {s0 : Int} {L : List Nat} {g : Nat → Nat → Int} {r : Option g_V} {h : g_H} (hr : g_run RX4 ax CE cX4_hasText n (26, ρ, [(1, s0)], L, g) r h) : r = some (1, s0) ∧ h = (L, g) := by
  obtain ⟨n1, e, h1⟩ := g_blk_ok noX4 jI_X4_hasText tab_X4 0 n hr (c2 := (26, ρ, [(1, s0)], L, g)) rfl
  exact g_ret_un noX4 (i := .ireturn) (jI_X4_hasText 26 _ rfl) (by decide) h1
def F_X4_hasText (x0 x1 : Int) (g : Nat → Nat → Int) : Int := if x1 < 0 then 0 else if g x0.toNat 5 ≤ x1 then 0 else if g (g x0.toNat 4).toNat x1.toNat = -1 then 0 else 1
theorem f_X4_hasText {ax : zAx} {x0 x1 : Int} {L : List Nat} {g : Nat → Nat → Int} {r : Option g_V} {h : g_H} (hx : g_ex ax yX4_hasText cX4_hasText [(0, x0), (1, x1)] (L, g) r h) : r = some (1, F_X4_hasText x0 x1 g) ∧ h = (L, g) := by
  obtain ⟨ρ, n0, hρ, h0⟩ := g_run_of hx
  obtain rfl : ρ 0 = x0 := hρ (0, x0) (by simp)
  obtain rfl : ρ 1 = x1 := hρ (1, x1) (by simp)
  obtain ⟨n1, l1, h1⟩ := bk_X4_hasText_0 h0
  rcases h1 with ⟨c1, h1⟩ | ⟨c1, h1⟩
  · obtain ⟨n2, l2, h2⟩ := bk_X4_hasText_25 h1
    obtain ⟨e3, d3⟩ := bk_X4_hasText_26 h2
    unfold F_X4_hasText
    rw [if_pos c1]
    exact ⟨e3, d3⟩
  · obtain ⟨n4, l4, h4⟩ := bk_X4_hasText_4 h1
    rcases h4 with ⟨c4, h4⟩ | ⟨c4, h4⟩
    · obtain ⟨n5, l5, h5⟩ := bk_X4_hasText_25 h4
      obtain ⟨e6, d6⟩ := bk_X4_hasText_26 h5
      unfold F_X4_hasText
      rw [if_neg c1, if_pos c4]
      exact ⟨e6, d6⟩
    · obtain ⟨n7, l7, h7⟩ := bk_X4_hasText_12 h4
      rcases h7 with ⟨c7, h7⟩ | ⟨c7, h7⟩
      · obtain ⟨n8, l8, h8⟩ := bk_X4_hasText_25 h7
        obtain ⟨e9, d9⟩ := bk_X4_hasText_26 h8
        unfold F_X4_hasText
        rw [if_neg c1, if_neg c4, if_pos c7]
        exact ⟨e9, d9⟩
      · obtain ⟨n10, l10, h10⟩ := bk_X4_hasText_21 h7
        obtain ⟨e11, d11⟩ := bk_X4_hasText_26 h10
        unfold F_X4_hasText
        rw [if_neg c1, if_neg c4, if_neg c7]
        exact ⟨e11, d11⟩

theorem jI_X4_addText : ∀ (pc : Nat) (q : Instr × Nat), lkp iX4_addText pc = some q → decode cX4_addText pc = .ok q := fun pc q hq => jX4_addText (pc, q) (lkp_in iX4_addText hq)
theorem bk_X4_addText_0 {ax : zAx} {CE : g_E} {n : Nat} {ρ : Nat → Int} {L : List Nat} {g : Nat → Nat → Int} {r : Option g_V} {h : g_H} (hr : g_run RX4 ax CE cX4_addText n (0, ρ, [], L, g) r h) : r = some (1, (g_up g (g (ρ 0).toNat 4).toNat (g (ρ 0).toNat 5).toNat (ρ 1)) (ρ 0).toNat 5) ∧ h = (L, (g_up (g_up g (g (ρ 0).toNat 4).toNat (g (ρ 0).toNat 5).toNat (ρ 1)) (ρ 0).toNat 5 (g_i (((g_up g (g (ρ 0).toNat 4).toNat (g (ρ 0).toNat 5).toNat (ρ 1)) (ρ 0).toNat 5) + 1)))) := by
  obtain ⟨n1, e, h1⟩ := g_blk_ok noX4 jI_X4_addText tab_X4 13 n hr (c2 := (21, ρ, [(1, (g_up g (g (ρ 0).toNat 4).toNat (g (ρ 0).toNat 5).toNat (ρ 1)) (ρ 0).toNat 5)], L, (g_up (g_up g (g (ρ 0).toNat 4).toNat (g (ρ 0).toNat 5).toNat (ρ 1)) (ρ 0).toNat 5 (g_i (((g_up g (g (ρ 0).toNat 4).toNat (g (ρ 0).toNat 5).toNat (ρ 1)) (ρ 0).toNat 5) + 1))))) rfl
  exact g_ret_un noX4 (i := .ireturn) (jI_X4_addText 21 _ rfl) (by decide) h1
def F_X4_addText (x0 x1 : Int) (g : Nat → Nat → Int) : Int × (Nat → Nat → Int) := ((g_up g (g x0.toNat 4).toNat (g x0.toNat 5).toNat x1) x0.toNat 5, (g_up (g_up g (g x0.toNat 4).toNat (g x0.toNat 5).toNat x1) x0.toNat 5 (g_i (((g_up g (g x0.toNat 4).toNat (g x0.toNat 5).toNat x1) x0.toNat 5) + 1))))
theorem f_X4_addText {ax : zAx} {x0 x1 : Int} {L : List Nat} {g : Nat → Nat → Int} {r : Option g_V} {h : g_H} (hx : g_ex ax yX4_addText cX4_addText [(0, x0), (1, x1)] (L, g) r h) : r = some (1, (F_X4_addText x0 x1 g).1) ∧ h = (L, (F_X4_addText x0 x1 g).2) := by
  obtain ⟨ρ, n0, hρ, h0⟩ := g_run_of hx
  obtain rfl : ρ 0 = x0 := hρ (0, x0) (by simp)
  obtain rfl : ρ 1 = x1 := hρ (1, x1) (by simp)
  obtain ⟨e1, d1⟩ := bk_X4_addText_0 h0
  exact ⟨e1, d1⟩

theorem jI_X6_addToken : ∀ (pc : Nat) (q : Instr × Nat), lkp iX6_addToken pc = some q → decode cX6_addToken pc = .ok q := fun pc q hq => jX6_addToken (pc, q) (lkp_in iX6_addToken hq)
theorem bk_X6_addToken_0 {ax : zAx} {CE : g_E} {n : Nat} {ρ : Nat → Int} {L : List Nat} {g : Nat → Nat → Int} {r : Option g_V} {h : g_H} (hr : g_run RX6 ax CE cX6_addToken n (0, ρ, [], L, g) r h) : ∃ n', n' < n ∧ ((300 < g (ρ 0).toNat 1 ∧ g_run RX6 ax CE cX6_addToken n' (50, ρ, [], L, g) r h) ∨ (¬ (300 < g (ρ 0).toNat 1) ∧ g_run RX6 ax CE cX6_addToken n' (10, ρ, [], L, g) r h)) := by
  obtain ⟨n1, e, h1⟩ := g_blk_ok noX6 jI_X6_addToken tab_X6 4 n hr (c2 := (if 300 < g (ρ 0).toNat 1 then 50 else 10, ρ, [], L, g)) rfl
  refine ⟨n1, by omega, ?_⟩
  by_cases hc : 300 < g (ρ 0).toNat 1
  · exact Or.inl ⟨hc, by rw [if_pos hc] at h1; exact h1⟩
  · exact Or.inr ⟨hc, by rw [if_neg hc] at h1; exact h1⟩
theorem bk_X6_addToken_10 {ax : zAx} {CE : g_E} {n : Nat} {ρ : Nat → Int} {L : List Nat} {g : Nat → Nat → Int} {r : Option g_V} {h : g_H} (hr : g_run RX6 ax CE cX6_addToken n (10, ρ, [], L, g) r h) : ∃ n', n' < n ∧ g_run RX6 ax CE cX6_addToken n' (50, ρ, [], L, (g_up (g_up (g_up (g_up g (g (ρ 0).toNat 2).toNat (g (ρ 0).toNat 1).toNat (ρ 1)) ((g_up g (g (ρ 0).toNat 2).toNat (g (ρ 0).toNat 1).toNat (ρ 1)) (ρ 0).toNat 4).toNat ((g_up g (g (ρ 0).toNat 2).toNat (g (ρ 0).toNat 1).toNat (ρ 1)) (ρ 0).toNat 1).toNat (ρ 2)) ((g_up (g_up g (g (ρ 0).toNat 2).toNat (g (ρ 0).toNat 1).toNat (ρ 1)) ((g_up g (g (ρ 0).toNat 2).toNat (g (ρ 0).toNat 1).toNat (ρ 1)) (ρ 0).toNat 4).toNat ((g_up g (g (ρ 0).toNat 2).toNat (g (ρ 0).toNat 1).toNat (ρ 1)) (ρ 0).toNat 1).toNat (ρ 2)) (ρ 0).toNat 3).toNat ((g_up (g_up g (g (ρ 0).toNat 2).toNat (g (ρ 0).toNat 1).toNat (ρ 1)) ((g_up g (g (ρ 0).toNat 2).toNat (g (ρ 0).toNat 1).toNat (ρ 1)) (ρ 0).toNat 4).toNat ((g_up g (g (ρ 0).toNat 2).toNat (g (ρ 0).toNat 1).toNat (ρ 1)) (ρ 0).toNat 1).toNat (ρ 2)) (ρ 0).toNat 1).toNat 0) (ρ 0).toNat 1 (g_i (((g_up (g_up (g_up g (g (ρ 0).toNat 2).toNat (g (ρ 0).toNat 1).toNat (ρ 1)) ((g_up g (g (ρ 0).toNat 2).toNat (g (ρ 0).toNat 1).toNat (ρ 1)) (ρ 0).toNat 4).toNat ((g_up g (g (ρ 0).toNat 2).toNat (g (ρ 0).toNat 1).toNat (ρ 1)) (ρ 0).toNat 1).toNat (ρ 2)) ((g_up (g_up g (g (ρ 0).toNat 2).toNat (g (ρ 0).toNat 1).toNat (ρ 1)) ((g_up g (g (ρ 0).toNat 2).toNat (g (ρ 0).toNat 1).toNat (ρ 1)) (ρ 0).toNat 4).toNat ((g_up g (g (ρ 0).toNat 2).toNat (g (ρ 0).toNat 1).toNat (ρ 1)) (ρ 0).toNat 1).toNat (ρ 2)) (ρ 0).toNat 3).toNat ((g_up (g_up g (g (ρ 0).toNat 2).toNat (g (ρ 0).toNat 1).toNat (ρ 1)) ((g_up g (g (ρ 0).toNat 2).toNat (g (ρ 0).toNat 1).toNat (ρ 1)) (ρ 0).toNat 4).toNat ((g_up g (g (ρ 0).toNat 2).toNat (g (ρ 0).toNat 1).toNat (ρ 1)) (ρ 0).toNat 1).toNat (ρ 2)) (ρ 0).toNat 1).toNat 0) (ρ 0).toNat 1) + 1)))) r h := by
  obtain ⟨n1, e, h1⟩ := g_blk_ok noX6 jI_X6_addToken tab_X6 24 n hr (c2 := (50, ρ, [], L, (g_up (g_up (g_up (g_up g (g (ρ 0).toNat 2).toNat (g (ρ 0).toNat 1).toNat (ρ 1)) ((g_up g (g (ρ 0).toNat 2).toNat (g (ρ 0).toNat 1).toNat (ρ 1)) (ρ 0).toNat 4).toNat ((g_up g (g (ρ 0).toNat 2).toNat (g (ρ 0).toNat 1).toNat (ρ 1)) (ρ 0).toNat 1).toNat (ρ 2)) ((g_up (g_up g (g (ρ 0).toNat 2).toNat (g (ρ 0).toNat 1).toNat (ρ 1)) ((g_up g (g (ρ 0).toNat 2).toNat (g (ρ 0).toNat 1).toNat (ρ 1)) (ρ 0).toNat 4).toNat ((g_up g (g (ρ 0).toNat 2).toNat (g (ρ 0).toNat 1).toNat (ρ 1)) (ρ 0).toNat 1).toNat (ρ 2)) (ρ 0).toNat 3).toNat ((g_up (g_up g (g (ρ 0).toNat 2).toNat (g (ρ 0).toNat 1).toNat (ρ 1)) ((g_up g (g (ρ 0).toNat 2).toNat (g (ρ 0).toNat 1).toNat (ρ 1)) (ρ 0).toNat 4).toNat ((g_up g (g (ρ 0).toNat 2).toNat (g (ρ 0).toNat 1).toNat (ρ 1)) (ρ 0).toNat 1).toNat (ρ 2)) (ρ 0).toNat 1).toNat 0) (ρ 0).toNat 1 (g_i (((g_up (g_up (g_up g (g (ρ 0).toNat 2).toNat (g (ρ 0).toNat 1).toNat (ρ 1)) ((g_up g (g (ρ 0).toNat 2).toNat (g (ρ 0).toNat 1).toNat (ρ 1)) (ρ 0).toNat 4).toNat ((g_up g (g (ρ 0).toNat 2).toNat (g (ρ 0).toNat 1).toNat (ρ 1)) (ρ 0).toNat 1).toNat (ρ 2)) ((g_up (g_up g (g (ρ 0).toNat 2).toNat (g (ρ 0).toNat 1).toNat (ρ 1)) ((g_up g (g (ρ 0).toNat 2).toNat (g (ρ 0).toNat 1).toNat (ρ 1)) (ρ 0).toNat 4).toNat ((g_up g (g (ρ 0).toNat 2).toNat (g (ρ 0).toNat 1).toNat (ρ 1)) (ρ 0).toNat 1).toNat (ρ 2)) (ρ 0).toNat 3).toNat ((g_up (g_up g (g (ρ 0).toNat 2).toNat (g (ρ 0).toNat 1).toNat (ρ 1)) ((g_up g (g (ρ 0).toNat 2).toNat (g (ρ 0).toNat 1).toNat (ρ 1)) (ρ 0).toNat 4).toNat ((g_up g (g (ρ 0).toNat 2).toNat (g (ρ 0).toNat 1).toNat (ρ 1)) (ρ 0).toNat 1).toNat (ρ 2)) (ρ 0).toNat 1).toNat 0) (ρ 0).toNat 1) + 1))))) rfl
  exact ⟨n1, by omega, h1⟩
theorem bk_X6_addToken_50 {ax : zAx} {CE : g_E} {n : Nat} {ρ : Nat → Int} {L : List Nat} {g : Nat → Nat → Int} {r : Option g_V} {h : g_H} (hr : g_run RX6 ax CE cX6_addToken n (50, ρ, [], L, g) r h) : r = none ∧ h = (L, g) := by
  obtain ⟨n1, e, h1⟩ := g_blk_ok noX6 jI_X6_addToken tab_X6 0 n hr (c2 := (50, ρ, [], L, g)) rfl
  exact g_retv_un noX6 (jI_X6_addToken 50 _ rfl) h1
def F_X6_addToken (x0 x1 x2 : Int) (g : Nat → Nat → Int) : (Nat → Nat → Int) := if 300 < g x0.toNat 1 then g else (g_up (g_up (g_up (g_up g (g x0.toNat 2).toNat (g x0.toNat 1).toNat x1) ((g_up g (g x0.toNat 2).toNat (g x0.toNat 1).toNat x1) x0.toNat 4).toNat ((g_up g (g x0.toNat 2).toNat (g x0.toNat 1).toNat x1) x0.toNat 1).toNat x2) ((g_up (g_up g (g x0.toNat 2).toNat (g x0.toNat 1).toNat x1) ((g_up g (g x0.toNat 2).toNat (g x0.toNat 1).toNat x1) x0.toNat 4).toNat ((g_up g (g x0.toNat 2).toNat (g x0.toNat 1).toNat x1) x0.toNat 1).toNat x2) x0.toNat 3).toNat ((g_up (g_up g (g x0.toNat 2).toNat (g x0.toNat 1).toNat x1) ((g_up g (g x0.toNat 2).toNat (g x0.toNat 1).toNat x1) x0.toNat 4).toNat ((g_up g (g x0.toNat 2).toNat (g x0.toNat 1).toNat x1) x0.toNat 1).toNat x2) x0.toNat 1).toNat 0) x0.toNat 1 (g_i (((g_up (g_up (g_up g (g x0.toNat 2).toNat (g x0.toNat 1).toNat x1) ((g_up g (g x0.toNat 2).toNat (g x0.toNat 1).toNat x1) x0.toNat 4).toNat ((g_up g (g x0.toNat 2).toNat (g x0.toNat 1).toNat x1) x0.toNat 1).toNat x2) ((g_up (g_up g (g x0.toNat 2).toNat (g x0.toNat 1).toNat x1) ((g_up g (g x0.toNat 2).toNat (g x0.toNat 1).toNat x1) x0.toNat 4).toNat ((g_up g (g x0.toNat 2).toNat (g x0.toNat 1).toNat x1) x0.toNat 1).toNat x2) x0.toNat 3).toNat ((g_up (g_up g (g x0.toNat 2).toNat (g x0.toNat 1).toNat x1) ((g_up g (g x0.toNat 2).toNat (g x0.toNat 1).toNat x1) x0.toNat 4).toNat ((g_up g (g x0.toNat 2).toNat (g x0.toNat 1).toNat x1) x0.toNat 1).toNat x2) x0.toNat 1).toNat 0) x0.toNat 1) + 1)))
theorem f_X6_addToken {ax : zAx} {x0 x1 x2 : Int} {L : List Nat} {g : Nat → Nat → Int} {r : Option g_V} {h : g_H} (hx : g_ex ax yX6_addToken cX6_addToken [(0, x0), (1, x1), (2, x2)] (L, g) r h) : r = none ∧ h = (L, F_X6_addToken x0 x1 x2 g) := by
  obtain ⟨ρ, n0, hρ, h0⟩ := g_run_of hx
  obtain rfl : ρ 0 = x0 := hρ (0, x0) (by simp)
  obtain rfl : ρ 1 = x1 := hρ (1, x1) (by simp)
  obtain rfl : ρ 2 = x2 := hρ (2, x2) (by simp)
  obtain ⟨n1, l1, h1⟩ := bk_X6_addToken_0 h0
  rcases h1 with ⟨c1, h1⟩ | ⟨c1, h1⟩
  · obtain ⟨e2, d2⟩ := bk_X6_addToken_50 h1
    unfold F_X6_addToken
    rw [if_pos c1]
    exact ⟨e2, d2⟩
  · obtain ⟨n3, l3, h3⟩ := bk_X6_addToken_10 h1
    obtain ⟨e4, d4⟩ := bk_X6_addToken_50 h3
    unfold F_X6_addToken
    rw [if_neg c1]
    exact ⟨e4, d4⟩

theorem jI_X11_isWithin : ∀ (pc : Nat) (q : Instr × Nat), lkp iX11_isWithin pc = some q → decode cX11_isWithin pc = .ok q := fun pc q hq => jX11_isWithin (pc, q) (lkp_in iX11_isWithin hq)
theorem bk_X11_isWithin_0 {ax : zAx} {CE : g_E} {n : Nat} {ρ : Nat → Int} {L : List Nat} {g : Nat → Nat → Int} {r : Option g_V} {h : g_H} (hr : g_run RX11 ax CE cX11_isWithin n (0, ρ, [], L, g) r h) : ∃ n', n' < n ∧ ((ρ 0 < ρ 1 ∧ g_run RX11 ax CE cX11_isWithin n' (14, ρ, [], L, g) r h) ∨ (¬ (ρ 0 < ρ 1) ∧ g_run RX11 ax CE cX11_isWithin n' (5, ρ, [], L, g) r h)) := by
  obtain ⟨n1, e, h1⟩ := g_blk_ok noX11 jI_X11_isWithin tab_X11 3 n hr (c2 := (if ρ 0 < ρ 1 then 14 else 5, ρ, [], L, g)) rfl
  refine ⟨n1, by omega, ?_⟩
  by_cases hc : ρ 0 < ρ 1
  · exact Or.inl ⟨hc, by rw [if_pos hc] at h1; exact h1⟩
  · exact Or.inr ⟨hc, by rw [if_neg hc] at h1; exact h1⟩
theorem bk_X11_isWithin_5 {ax : zAx} {CE : g_E} {n : Nat} {ρ : Nat → Int} {L : List Nat} {g : Nat → Nat → Int} {r : Option g_V} {h : g_H} (hr : g_run RX11 ax CE cX11_isWithin n (5, ρ, [], L, g) r h) : ∃ n', n' < n ∧ ((ρ 2 < ρ 0 ∧ g_run RX11 ax CE cX11_isWithin n' (14, ρ, [], L, g) r h) ∨ (¬ (ρ 2 < ρ 0) ∧ g_run RX11 ax CE cX11_isWithin n' (10, ρ, [], L, g) r h)) := by
  obtain ⟨n1, e, h1⟩ := g_blk_ok noX11 jI_X11_isWithin tab_X11 3 n hr (c2 := (if ρ 2 < ρ 0 then 14 else 10, ρ, [], L, g)) rfl
  refine ⟨n1, by omega, ?_⟩
  by_cases hc : ρ 2 < ρ 0
  · exact Or.inl ⟨hc, by rw [if_pos hc] at h1; exact h1⟩
  · exact Or.inr ⟨hc, by rw [if_neg hc] at h1; exact h1⟩
theorem bk_X11_isWithin_10 {ax : zAx} {CE : g_E} {n : Nat} {ρ : Nat → Int} {L : List Nat} {g : Nat → Nat → Int} {r : Option g_V} {h : g_H} (hr : g_run RX11 ax CE cX11_isWithin n (10, ρ, [], L, g) r h) : ∃ n', n' < n ∧ g_run RX11 ax CE cX11_isWithin n' (15, ρ, [(1, 1)], L, g) r h := by
  obtain ⟨n1, e, h1⟩ := g_blk_ok noX11 jI_X11_isWithin tab_X11 2 n hr (c2 := (15, ρ, [(1, 1)], L, g)) rfl
  exact ⟨n1, by omega, h1⟩
theorem bk_X11_isWithin_14 {ax : zAx} {CE : g_E} {n : Nat} {ρ : Nat → Int} {L : List Nat} {g : Nat → Nat → Int} {r : Option g_V} {h : g_H} (hr : g_run RX11 ax CE cX11_isWithin n (14, ρ, [], L, g) r h) : ∃ n', n' < n ∧ g_run RX11 ax CE cX11_isWithin n' (15, ρ, [(1, 0)], L, g) r h := by
  obtain ⟨n1, e, h1⟩ := g_blk_ok noX11 jI_X11_isWithin tab_X11 1 n hr (c2 := (15, ρ, [(1, 0)], L, g)) rfl
  exact ⟨n1, by omega, h1⟩
theorem bk_X11_isWithin_15 {ax : zAx} {CE : g_E} {n : Nat} {ρ : Nat → Int} {s0 : Int} {L : List Nat} {g : Nat → Nat → Int} {r : Option g_V} {h : g_H} (hr : g_run RX11 ax CE cX11_isWithin n (15, ρ, [(1, s0)], L, g) r h) : r = some (1, s0) ∧ h = (L, g) := by
  obtain ⟨n1, e, h1⟩ := g_blk_ok noX11 jI_X11_isWithin tab_X11 0 n hr (c2 := (15, ρ, [(1, s0)], L, g)) rfl
  exact g_ret_un noX11 (i := .ireturn) (jI_X11_isWithin 15 _ rfl) (by decide) h1
def F_X11_isWithin (x0 x1 x2 : Int) (g : Nat → Nat → Int) : Int := if x0 < x1 then 0 else if x2 < x0 then 0 else 1
theorem f_X11_isWithin {ax : zAx} {x0 x1 x2 : Int} {L : List Nat} {g : Nat → Nat → Int} {r : Option g_V} {h : g_H} (hx : g_ex ax yX11_isWithin cX11_isWithin [(0, x0), (1, x1), (2, x2)] (L, g) r h) : r = some (1, F_X11_isWithin x0 x1 x2 g) ∧ h = (L, g) := by
  obtain ⟨ρ, n0, hρ, h0⟩ := g_run_of hx
  obtain rfl : ρ 0 = x0 := hρ (0, x0) (by simp)
  obtain rfl : ρ 1 = x1 := hρ (1, x1) (by simp)
  obtain rfl : ρ 2 = x2 := hρ (2, x2) (by simp)
  obtain ⟨n1, l1, h1⟩ := bk_X11_isWithin_0 h0
  rcases h1 with ⟨c1, h1⟩ | ⟨c1, h1⟩
  · obtain ⟨n2, l2, h2⟩ := bk_X11_isWithin_14 h1
    obtain ⟨e3, d3⟩ := bk_X11_isWithin_15 h2
    unfold F_X11_isWithin
    rw [if_pos c1]
    exact ⟨e3, d3⟩
  · obtain ⟨n4, l4, h4⟩ := bk_X11_isWithin_5 h1
    rcases h4 with ⟨c4, h4⟩ | ⟨c4, h4⟩
    · obtain ⟨n5, l5, h5⟩ := bk_X11_isWithin_14 h4
      obtain ⟨e6, d6⟩ := bk_X11_isWithin_15 h5
      unfold F_X11_isWithin
      rw [if_neg c1, if_pos c4]
      exact ⟨e6, d6⟩
    · obtain ⟨n7, l7, h7⟩ := bk_X11_isWithin_10 h4
      obtain ⟨e8, d8⟩ := bk_X11_isWithin_15 h7
      unfold F_X11_isWithin
      rw [if_neg c1, if_neg c4]
      exact ⟨e8, d8⟩

theorem jI_X3_advance : ∀ (pc : Nat) (q : Instr × Nat), lkp iX3_advance pc = some q → decode cX3_advance pc = .ok q := fun pc q hq => jX3_advance (pc, q) (lkp_in iX3_advance hq)
theorem bk_X3_advance_0 {ax : zAx} {CE : g_E} {n : Nat} {ρ : Nat → Int} {L : List Nat} {g : Nat → Nat → Int} {r : Option g_V} {h : g_H} (hr : g_run RX3 ax CE cX3_advance n (0, ρ, [], L, g) r h) : ∃ n', n' < n ∧ ((g (g (ρ 0).toNat 2).toNat 1 ≤ g_i ((g (ρ 0).toNat 5) + 1) ∧ g_run RX3 ax CE cX3_advance n' (26, ρ, [], L, g) r h) ∨ (¬ (g (g (ρ 0).toNat 2).toNat 1 ≤ g_i ((g (ρ 0).toNat 5) + 1)) ∧ g_run RX3 ax CE cX3_advance n' (16, ρ, [], L, g) r h)) := by
  obtain ⟨n1, e, h1⟩ := g_blk_ok noX3 jI_X3_advance tab_X3 8 n hr (c2 := (if g (g (ρ 0).toNat 2).toNat 1 ≤ g_i ((g (ρ 0).toNat 5) + 1) then 26 else 16, ρ, [], L, g)) rfl
  refine ⟨n1, by omega, ?_⟩
  by_cases hc : g (g (ρ 0).toNat 2).toNat 1 ≤ g_i ((g (ρ 0).toNat 5) + 1)
  · exact Or.inl ⟨hc, by rw [if_pos hc] at h1; exact h1⟩
  · exact Or.inr ⟨hc, by rw [if_neg hc] at h1; exact h1⟩
theorem bk_X3_advance_16 {ax : zAx} {CE : g_E} {n : Nat} {ρ : Nat → Int} {L : List Nat} {g : Nat → Nat → Int} {r : Option g_V} {h : g_H} (hr : g_run RX3 ax CE cX3_advance n (16, ρ, [], L, g) r h) : ∃ n', n' < n ∧ g_run RX3 ax CE cX3_advance n' (26, ρ, [], L, (g_up g (ρ 0).toNat 5 (g_i ((g (ρ 0).toNat 5) + 1)))) r h := by
  obtain ⟨n1, e, h1⟩ := g_blk_ok noX3 jI_X3_advance tab_X3 6 n hr (c2 := (26, ρ, [], L, (g_up g (ρ 0).toNat 5 (g_i ((g (ρ 0).toNat 5) + 1))))) rfl
  exact ⟨n1, by omega, h1⟩
theorem bk_X3_advance_26 {ax : zAx} {CE : g_E} {n : Nat} {ρ : Nat → Int} {L : List Nat} {g : Nat → Nat → Int} {r : Option g_V} {h : g_H} (hr : g_run RX3 ax CE cX3_advance n (26, ρ, [], L, g) r h) : r = none ∧ h = (L, (g_up g (ρ 0).toNat 6 (g (g (g (ρ 0).toNat 2).toNat 2).toNat (g (ρ 0).toNat 5).toNat))) := by
  obtain ⟨n1, e, h1⟩ := g_blk_ok noX3 jI_X3_advance tab_X3 8 n hr (c2 := (42, ρ, [], L, (g_up g (ρ 0).toNat 6 (g (g (g (ρ 0).toNat 2).toNat 2).toNat (g (ρ 0).toNat 5).toNat)))) rfl
  exact g_retv_un noX3 (jI_X3_advance 42 _ rfl) h1
def F_X3_advance (x0 : Int) (g : Nat → Nat → Int) : (Nat → Nat → Int) := if g (g x0.toNat 2).toNat 1 ≤ g_i ((g x0.toNat 5) + 1) then (g_up g x0.toNat 6 (g (g (g x0.toNat 2).toNat 2).toNat (g x0.toNat 5).toNat)) else (g_up (g_up g x0.toNat 5 (g_i ((g x0.toNat 5) + 1))) x0.toNat 6 ((g_up g x0.toNat 5 (g_i ((g x0.toNat 5) + 1))) (g (g x0.toNat 2).toNat 2).toNat ((g_up g x0.toNat 5 (g_i ((g x0.toNat 5) + 1))) x0.toNat 5).toNat))
theorem f_X3_advance {ax : zAx} {x0 : Int} {L : List Nat} {g : Nat → Nat → Int} {r : Option g_V} {h : g_H} (hx : g_ex ax yX3_advance cX3_advance [(0, x0)] (L, g) r h) : r = none ∧ h = (L, F_X3_advance x0 g) := by
  obtain ⟨ρ, n0, hρ, h0⟩ := g_run_of hx
  obtain rfl : ρ 0 = x0 := hρ (0, x0) (by simp)
  obtain ⟨n1, l1, h1⟩ := bk_X3_advance_0 h0
  rcases h1 with ⟨c1, h1⟩ | ⟨c1, h1⟩
  · obtain ⟨e2, d2⟩ := bk_X3_advance_26 h1
    unfold F_X3_advance
    rw [if_pos c1]
    exact ⟨e2, d2⟩
  · obtain ⟨n3, l3, h3⟩ := bk_X3_advance_16 h1
    obtain ⟨e4, d4⟩ := bk_X3_advance_26 h3
    unfold F_X3_advance
    rw [if_neg c1]
    exact ⟨e4, d4⟩

theorem jI_X3_fail : ∀ (pc : Nat) (q : Instr × Nat), lkp iX3_fail pc = some q → decode cX3_fail pc = .ok q := fun pc q hq => jX3_fail (pc, q) (lkp_in iX3_fail hq)
theorem bk_X3_fail_0 {ax : zAx} {CE : g_E} {n : Nat} {ρ : Nat → Int} {L : List Nat} {g : Nat → Nat → Int} {r : Option g_V} {h : g_H} (hr : g_run RX3 ax CE cX3_fail n (0, ρ, [], L, g) r h) : ∃ n', n' < n ∧ ((g (ρ 0).toNat 0 = 0 ∧ g_run RX3 ax CE cX3_fail n' (7, ρ, [], L, g) r h) ∨ (¬ (g (ρ 0).toNat 0 = 0) ∧ g_run RX3 ax CE cX3_fail n' (28, ρ, [], L, g) r h)) := by
  obtain ⟨n1, e, h1⟩ := g_blk_ok noX3 jI_X3_fail tab_X3 3 n hr (c2 := (if g (ρ 0).toNat 0 = 0 then 7 else 28, ρ, [], L, g)) rfl
  refine ⟨n1, by omega, ?_⟩
  by_cases hc : g (ρ 0).toNat 0 = 0
  · exact Or.inl ⟨hc, by rw [if_pos hc] at h1; exact h1⟩
  · exact Or.inr ⟨hc, by rw [if_neg hc] at h1; exact h1⟩
theorem bk_X3_fail_7 {ax : zAx} {CE : g_E} {n : Nat} {ρ : Nat → Int} {L : List Nat} {g : Nat → Nat → Int} {r : Option g_V} {h : g_H} (hr : g_run RX3 ax CE cX3_fail n (7, ρ, [], L, g) r h) : ∃ n', n' < n ∧ g_run RX3 ax CE cX3_fail n' (28, ρ, [], L, (g_up (g_up g (ρ 0).toNat 0 (ρ 1)) (ρ 0).toNat 1 ((g_up g (ρ 0).toNat 0 (ρ 1)) ((g_up g (ρ 0).toNat 0 (ρ 1)) ((g_up g (ρ 0).toNat 0 (ρ 1)) (ρ 0).toNat 2).toNat 4).toNat ((g_up g (ρ 0).toNat 0 (ρ 1)) (ρ 0).toNat 5).toNat))) r h := by
  obtain ⟨n1, e, h1⟩ := g_blk_ok noX3 jI_X3_fail tab_X3 11 n hr (c2 := (28, ρ, [], L, (g_up (g_up g (ρ 0).toNat 0 (ρ 1)) (ρ 0).toNat 1 ((g_up g (ρ 0).toNat 0 (ρ 1)) ((g_up g (ρ 0).toNat 0 (ρ 1)) ((g_up g (ρ 0).toNat 0 (ρ 1)) (ρ 0).toNat 2).toNat 4).toNat ((g_up g (ρ 0).toNat 0 (ρ 1)) (ρ 0).toNat 5).toNat)))) rfl
  exact ⟨n1, by omega, h1⟩
theorem bk_X3_fail_28 {ax : zAx} {CE : g_E} {n : Nat} {ρ : Nat → Int} {L : List Nat} {g : Nat → Nat → Int} {r : Option g_V} {h : g_H} (hr : g_run RX3 ax CE cX3_fail n (28, ρ, [], L, g) r h) : r = none ∧ h = (L, g) := by
  obtain ⟨n1, e, h1⟩ := g_blk_ok noX3 jI_X3_fail tab_X3 0 n hr (c2 := (28, ρ, [], L, g)) rfl
  exact g_retv_un noX3 (jI_X3_fail 28 _ rfl) h1
def F_X3_fail (x0 x1 : Int) (g : Nat → Nat → Int) : (Nat → Nat → Int) := if g x0.toNat 0 = 0 then (g_up (g_up g x0.toNat 0 x1) x0.toNat 1 ((g_up g x0.toNat 0 x1) (g (g x0.toNat 2).toNat 4).toNat (g x0.toNat 5).toNat)) else g
theorem f_X3_fail {ax : zAx} {x0 x1 : Int} {L : List Nat} {g : Nat → Nat → Int} {r : Option g_V} {h : g_H} (hx : g_ex ax yX3_fail cX3_fail [(0, x0), (1, x1)] (L, g) r h) : r = none ∧ h = (L, F_X3_fail x0 x1 g) := by
  obtain ⟨ρ, n0, hρ, h0⟩ := g_run_of hx
  obtain rfl : ρ 0 = x0 := hρ (0, x0) (by simp)
  obtain rfl : ρ 1 = x1 := hρ (1, x1) (by simp)
  obtain ⟨n1, l1, h1⟩ := bk_X3_fail_0 h0
  rcases h1 with ⟨c1, h1⟩ | ⟨c1, h1⟩
  · obtain ⟨n2, l2, h2⟩ := bk_X3_fail_7 h1
    obtain ⟨e3, d3⟩ := bk_X3_fail_28 h2
    unfold F_X3_fail
    rw [if_pos c1]
    exact ⟨e3, d3⟩
  · obtain ⟨e4, d4⟩ := bk_X3_fail_28 h1
    unfold F_X3_fail
    rw [if_neg c1]
    exact ⟨e4, d4⟩

theorem jI_X3_expect : ∀ (pc : Nat) (q : Instr × Nat), lkp iX3_expect pc = some q → decode cX3_expect pc = .ok q := fun pc q hq => jX3_expect (pc, q) (lkp_in iX3_expect hq)
theorem bk_X3_expect_0 {ax : zAx} {CE : g_E} {n : Nat} {ρ : Nat → Int} {L : List Nat} {g : Nat → Nat → Int} {r : Option g_V} {h : g_H} (hr : g_run RX3 ax CE cX3_expect n (0, ρ, [], L, g) r h) : ∃ n', n' < n ∧ ((g (ρ 0).toNat 6 = ρ 1 ∧ g_run RX3 ax CE cX3_expect n' (16, ρ, [], L, g) r h) ∨ (¬ (g (ρ 0).toNat 6 = ρ 1) ∧ g_run RX3 ax CE cX3_expect n' (8, ρ, [], L, g) r h)) := by
  obtain ⟨n1, e, h1⟩ := g_blk_ok noX3 jI_X3_expect tab_X3 4 n hr (c2 := (if g (ρ 0).toNat 6 = ρ 1 then 16 else 8, ρ, [], L, g)) rfl
  refine ⟨n1, by omega, ?_⟩
  by_cases hc : g (ρ 0).toNat 6 = ρ 1
  · exact Or.inl ⟨hc, by rw [if_pos hc] at h1; exact h1⟩
  · exact Or.inr ⟨hc, by rw [if_neg hc] at h1; exact h1⟩
theorem bk_X3_expect_8 {ax : zAx} {CE : g_E} {n : Nat} {ρ : Nat → Int} {L : List Nat} {g : Nat → Nat → Int} {r : Option g_V} {h : g_H} (hr : g_run RX3 ax CE cX3_expect n (8, ρ, [], L, g) r h) : ∃ n' r1 h1', n' < n ∧ CE yX3_fail cX3_fail [(0, ρ 0), (1, 1)] (L, g) r1 h1' ∧ g_run RX3 ax CE cX3_expect n' (13, ρ, g_push r1 [], h1') r h := by
  obtain ⟨n1, e, h1⟩ := g_blk_ok noX3 jI_X3_expect tab_X3 2 n hr (c2 := (10, ρ, [(1, 1), (1, ρ 0)], L, g)) rfl
  obtain ⟨n2, c', e2, h2, h3⟩ := g_step_un noX3 (i := .invokevirtual 55) (len := 3) (jI_X3_expect 10 _ rfl) (gnrV _) h1
  obtain ⟨r1, h1', hx, hc⟩ := g_virt_un lk_X3 nat_all lX3_ok (idx := 55) (mi := 226) (ci := 3) (na := 2) rfl (by decide) mq_X3_fail [(1, 1)] [] (ρ 0) rfl rfl h2
  subst hc
  exact ⟨n2, r1, h1', by omega, hx, h3⟩
theorem bk_X3_expect_13 {ax : zAx} {CE : g_E} {n : Nat} {ρ : Nat → Int} {L : List Nat} {g : Nat → Nat → Int} {r : Option g_V} {h : g_H} (hr : g_run RX3 ax CE cX3_expect n (13, ρ, [], L, g) r h) : ∃ n', n' < n ∧ g_run RX3 ax CE cX3_expect n' (27, ρ, [], L, g) r h := by
  obtain ⟨n1, e, h1⟩ := g_blk_ok noX3 jI_X3_expect tab_X3 1 n hr (c2 := (27, ρ, [], L, g)) rfl
  exact ⟨n1, by omega, h1⟩
theorem bk_X3_expect_16 {ax : zAx} {CE : g_E} {n : Nat} {ρ : Nat → Int} {L : List Nat} {g : Nat → Nat → Int} {r : Option g_V} {h : g_H} (hr : g_run RX3 ax CE cX3_expect n (16, ρ, [], L, g) r h) : ∃ n', n' < n ∧ ((g (ρ 0).toNat 0 = 0 ∧ g_run RX3 ax CE cX3_expect n' (23, ρ, [], L, g) r h) ∨ (¬ (g (ρ 0).toNat 0 = 0) ∧ g_run RX3 ax CE cX3_expect n' (27, ρ, [], L, g) r h)) := by
  obtain ⟨n1, e, h1⟩ := g_blk_ok noX3 jI_X3_expect tab_X3 3 n hr (c2 := (if g (ρ 0).toNat 0 = 0 then 23 else 27, ρ, [], L, g)) rfl
  refine ⟨n1, by omega, ?_⟩
  by_cases hc : g (ρ 0).toNat 0 = 0
  · exact Or.inl ⟨hc, by rw [if_pos hc] at h1; exact h1⟩
  · exact Or.inr ⟨hc, by rw [if_neg hc] at h1; exact h1⟩
theorem bk_X3_expect_23 {ax : zAx} {CE : g_E} {n : Nat} {ρ : Nat → Int} {L : List Nat} {g : Nat → Nat → Int} {r : Option g_V} {h : g_H} (hr : g_run RX3 ax CE cX3_expect n (23, ρ, [], L, g) r h) : ∃ n' r1 h1', n' < n ∧ CE yX3_advance cX3_advance [(0, ρ 0)] (L, g) r1 h1' ∧ g_run RX3 ax CE cX3_expect n' (27, ρ, g_push r1 [], h1') r h := by
  obtain ⟨n1, e, h1⟩ := g_blk_ok noX3 jI_X3_expect tab_X3 1 n hr (c2 := (24, ρ, [(1, ρ 0)], L, g)) rfl
  obtain ⟨n2, c', e2, h2, h3⟩ := g_step_un noX3 (i := .invokevirtual 68) (len := 3) (jI_X3_expect 24 _ rfl) (gnrV _) h1
  obtain ⟨r1, h1', hx, hc⟩ := g_virt_un lk_X3 nat_all lX3_ok (idx := 68) (mi := 223) (ci := 3) (na := 1) rfl (by decide) mq_X3_advance [] [] (ρ 0) rfl rfl h2
  subst hc
  exact ⟨n2, r1, h1', by omega, hx, h3⟩
theorem bk_X3_expect_27 {ax : zAx} {CE : g_E} {n : Nat} {ρ : Nat → Int} {L : List Nat} {g : Nat → Nat → Int} {r : Option g_V} {h : g_H} (hr : g_run RX3 ax CE cX3_expect n (27, ρ, [], L, g) r h) : r = none ∧ h = (L, g) := by
  obtain ⟨n1, e, h1⟩ := g_blk_ok noX3 jI_X3_expect tab_X3 0 n hr (c2 := (27, ρ, [], L, g)) rfl
  exact g_retv_un noX3 (jI_X3_expect 27 _ rfl) h1
def F_X3_expect (x0 x1 : Int) (g : Nat → Nat → Int) : (Nat → Nat → Int) := if g x0.toNat 6 = x1 then if g x0.toNat 0 = 0 then (F_X3_advance x0 g) else g else (F_X3_fail x0 1 g)
theorem f_X3_expect {ax : zAx} {x0 x1 : Int} {L : List Nat} {g : Nat → Nat → Int} {r : Option g_V} {h : g_H} (hx : g_ex ax yX3_expect cX3_expect [(0, x0), (1, x1)] (L, g) r h) : r = none ∧ h = (L, F_X3_expect x0 x1 g) := by
  obtain ⟨ρ, n0, hρ, h0⟩ := g_run_of hx
  obtain rfl : ρ 0 = x0 := hρ (0, x0) (by simp)
  obtain rfl : ρ 1 = x1 := hρ (1, x1) (by simp)
  obtain ⟨n1, l1, h1⟩ := bk_X3_expect_0 h0
  rcases h1 with ⟨c1, h1⟩ | ⟨c1, h1⟩
  · obtain ⟨n2, l2, h2⟩ := bk_X3_expect_16 h1
    rcases h2 with ⟨c2, h2⟩ | ⟨c2, h2⟩
    · obtain ⟨n3, r3, k3, l3, x3, h3⟩ := bk_X3_expect_23 h2
      obtain ⟨e3, d3⟩ := f_X3_advance x3
      subst e3
      subst d3
      obtain ⟨e4, d4⟩ := bk_X3_expect_27 h3
      unfold F_X3_expect
      rw [if_pos c1, if_pos c2]
      exact ⟨e4, d4⟩
    · obtain ⟨e5, d5⟩ := bk_X3_expect_27 h2
      unfold F_X3_expect
      rw [if_pos c1, if_neg c2]
      exact ⟨e5, d5⟩
  · obtain ⟨n6, r6, k6, l6, x6, h6⟩ := bk_X3_expect_8 h1
    obtain ⟨e6, d6⟩ := f_X3_fail x6
    subst e6
    subst d6
    obtain ⟨n7, l7, h7⟩ := bk_X3_expect_13 h6
    obtain ⟨e8, d8⟩ := bk_X3_expect_27 h7
    unfold F_X3_expect
    rw [if_neg c1]
    exact ⟨e8, d8⟩

theorem jI_X3_expectNumber : ∀ (pc : Nat) (q : Instr × Nat), lkp iX3_expectNumber pc = some q → decode cX3_expectNumber pc = .ok q := fun pc q hq => jX3_expectNumber (pc, q) (lkp_in iX3_expectNumber hq)
theorem bk_X3_expectNumber_0 {ax : zAx} {CE : g_E} {n : Nat} {ρ : Nat → Int} {L : List Nat} {g : Nat → Nat → Int} {r : Option g_V} {h : g_H} (hr : g_run RX3 ax CE cX3_expectNumber n (0, ρ, [], L, g) r h) : ∃ n', n' < n ∧ ((g (ρ 0).toNat 6 = 53 ∧ g_run RX3 ax CE cX3_expectNumber n' (17, ρ, [], L, g) r h) ∨ (¬ (g (ρ 0).toNat 6 = 53) ∧ g_run RX3 ax CE cX3_expectNumber n' (9, ρ, [], L, g) r h)) := by
  obtain ⟨n1, e, h1⟩ := g_blk_ok noX3 jI_X3_expectNumber tab_X3 4 n hr (c2 := (if g (ρ 0).toNat 6 = 53 then 17 else 9, ρ, [], L, g)) rfl
  refine ⟨n1, by omega, ?_⟩
  by_cases hc : g (ρ 0).toNat 6 = 53
  · exact Or.inl ⟨hc, by rw [if_pos hc] at h1; exact h1⟩
  · exact Or.inr ⟨hc, by rw [if_neg hc] at h1; exact h1⟩
theorem bk_X3_expectNumber_9 {ax : zAx} {CE : g_E} {n : Nat} {ρ : Nat → Int} {L : List Nat} {g : Nat → Nat → Int} {r : Option g_V} {h : g_H} (hr : g_run RX3 ax CE cX3_expectNumber n (9, ρ, [], L, g) r h) : ∃ n' r1 h1', n' < n ∧ CE yX3_fail cX3_fail [(0, ρ 0), (1, 1)] (L, g) r1 h1' ∧ g_run RX3 ax CE cX3_expectNumber n' (14, ρ, g_push r1 [], h1') r h := by
  obtain ⟨n1, e, h1⟩ := g_blk_ok noX3 jI_X3_expectNumber tab_X3 2 n hr (c2 := (11, ρ, [(1, 1), (1, ρ 0)], L, g)) rfl
  obtain ⟨n2, c', e2, h2, h3⟩ := g_step_un noX3 (i := .invokevirtual 55) (len := 3) (jI_X3_expectNumber 11 _ rfl) (gnrV _) h1
  obtain ⟨r1, h1', hx, hc⟩ := g_virt_un lk_X3 nat_all lX3_ok (idx := 55) (mi := 226) (ci := 3) (na := 2) rfl (by decide) mq_X3_fail [(1, 1)] [] (ρ 0) rfl rfl h2
  subst hc
  exact ⟨n2, r1, h1', by omega, hx, h3⟩
theorem bk_X3_expectNumber_14 {ax : zAx} {CE : g_E} {n : Nat} {ρ : Nat → Int} {L : List Nat} {g : Nat → Nat → Int} {r : Option g_V} {h : g_H} (hr : g_run RX3 ax CE cX3_expectNumber n (14, ρ, [], L, g) r h) : ∃ n', n' < n ∧ g_run RX3 ax CE cX3_expectNumber n' (56, ρ, [], L, g) r h := by
  obtain ⟨n1, e, h1⟩ := g_blk_ok noX3 jI_X3_expectNumber tab_X3 1 n hr (c2 := (56, ρ, [], L, g)) rfl
  exact ⟨n1, by omega, h1⟩
theorem bk_X3_expectNumber_17 {ax : zAx} {CE : g_E} {n : Nat} {ρ : Nat → Int} {L : List Nat} {g : Nat → Nat → Int} {r : Option g_V} {h : g_H} (hr : g_run RX3 ax CE cX3_expectNumber n (17, ρ, [], L, g) r h) : ∃ n' r1 h1', n' < n ∧ CE yX11_isWithin cX11_isWithin [(0, g (g (g (ρ 0).toNat 2).toNat 3).toNat (g (ρ 0).toNat 5).toNat), (1, ρ 1), (2, ρ 2)] (L, g) r1 h1' ∧ g_run RX3 ax CE cX3_expectNumber n' (34, ρ, g_push r1 [], h1') r h := by
  obtain ⟨n1, e, h1⟩ := g_blk_ok noX3 jI_X3_expectNumber tab_X3 8 n hr (c2 := (31, ρ, [(1, ρ 2), (1, ρ 1), (1, g (g (g (ρ 0).toNat 2).toNat 3).toNat (g (ρ 0).toNat 5).toNat)], L, g)) rfl
  obtain ⟨n2, c', e2, h2, h3⟩ := g_step_un noX3 (i := .invokestatic 118) (len := 3) (jI_X3_expectNumber 31 _ rfl) (gnrS _) h1
  obtain ⟨r1, h1', hx, hc⟩ := g_static_un lk_X3 nat_all lX3_ok (idx := 118) (mode := 2) (mi := 46) (ci := 0) (na := 3) rfl (by decide) (by decide) mq_X11_isWithin [(1, g (g (g (ρ 0).toNat 2).toNat 3).toNat (g (ρ 0).toNat 5).toNat), (1, ρ 1), (1, ρ 2)] [] rfl rfl h2
  subst hc
  exact ⟨n2, r1, h1', by omega, hx, h3⟩
theorem bk_X3_expectNumber_34 {ax : zAx} {CE : g_E} {n : Nat} {ρ : Nat → Int} {s0 : Int} {L : List Nat} {g : Nat → Nat → Int} {r : Option g_V} {h : g_H} (hr : g_run RX3 ax CE cX3_expectNumber n (34, ρ, [(1, s0)], L, g) r h) : ∃ n', n' < n ∧ ((s0 = 0 ∧ g_run RX3 ax CE cX3_expectNumber n' (37, ρ, [], L, g) r h) ∨ (¬ (s0 = 0) ∧ g_run RX3 ax CE cX3_expectNumber n' (45, ρ, [], L, g) r h)) := by
  obtain ⟨n1, e, h1⟩ := g_blk_ok noX3 jI_X3_expectNumber tab_X3 1 n hr (c2 := (if s0 = 0 then 37 else 45, ρ, [], L, g)) rfl
  refine ⟨n1, by omega, ?_⟩
  by_cases hc : s0 = 0
  · exact Or.inl ⟨hc, by rw [if_pos hc] at h1; exact h1⟩
  · exact Or.inr ⟨hc, by rw [if_neg hc] at h1; exact h1⟩
theorem bk_X3_expectNumber_37 {ax : zAx} {CE : g_E} {n : Nat} {ρ : Nat → Int} {L : List Nat} {g : Nat → Nat → Int} {r : Option g_V} {h : g_H} (hr : g_run RX3 ax CE cX3_expectNumber n (37, ρ, [], L, g) r h) : ∃ n' r1 h1', n' < n ∧ CE yX3_fail cX3_fail [(0, ρ 0), (1, 2)] (L, g) r1 h1' ∧ g_run RX3 ax CE cX3_expectNumber n' (42, ρ, g_push r1 [], h1') r h := by
  obtain ⟨n1, e, h1⟩ := g_blk_ok noX3 jI_X3_expectNumber tab_X3 2 n hr (c2 := (39, ρ, [(1, 2), (1, ρ 0)], L, g)) rfl
  obtain ⟨n2, c', e2, h2, h3⟩ := g_step_un noX3 (i := .invokevirtual 55) (len := 3) (jI_X3_expectNumber 39 _ rfl) (gnrV _) h1
  obtain ⟨r1, h1', hx, hc⟩ := g_virt_un lk_X3 nat_all lX3_ok (idx := 55) (mi := 226) (ci := 3) (na := 2) rfl (by decide) mq_X3_fail [(1, 2)] [] (ρ 0) rfl rfl h2
  subst hc
  exact ⟨n2, r1, h1', by omega, hx, h3⟩
theorem bk_X3_expectNumber_42 {ax : zAx} {CE : g_E} {n : Nat} {ρ : Nat → Int} {L : List Nat} {g : Nat → Nat → Int} {r : Option g_V} {h : g_H} (hr : g_run RX3 ax CE cX3_expectNumber n (42, ρ, [], L, g) r h) : ∃ n', n' < n ∧ g_run RX3 ax CE cX3_expectNumber n' (56, ρ, [], L, g) r h := by
  obtain ⟨n1, e, h1⟩ := g_blk_ok noX3 jI_X3_expectNumber tab_X3 1 n hr (c2 := (56, ρ, [], L, g)) rfl
  exact ⟨n1, by omega, h1⟩
theorem bk_X3_expectNumber_45 {ax : zAx} {CE : g_E} {n : Nat} {ρ : Nat → Int} {L : List Nat} {g : Nat → Nat → Int} {r : Option g_V} {h : g_H} (hr : g_run RX3 ax CE cX3_expectNumber n (45, ρ, [], L, g) r h) : ∃ n', n' < n ∧ ((g (ρ 0).toNat 0 = 0 ∧ g_run RX3 ax CE cX3_expectNumber n' (52, ρ, [], L, g) r h) ∨ (¬ (g (ρ 0).toNat 0 = 0) ∧ g_run RX3 ax CE cX3_expectNumber n' (56, ρ, [], L, g) r h)) := by
  obtain ⟨n1, e, h1⟩ := g_blk_ok noX3 jI_X3_expectNumber tab_X3 3 n hr (c2 := (if g (ρ 0).toNat 0 = 0 then 52 else 56, ρ, [], L, g)) rfl
  refine ⟨n1, by omega, ?_⟩
  by_cases hc : g (ρ 0).toNat 0 = 0
  · exact Or.inl ⟨hc, by rw [if_pos hc] at h1; exact h1⟩
  · exact Or.inr ⟨hc, by rw [if_neg hc] at h1; exact h1⟩
theorem bk_X3_expectNumber_52 {ax : zAx} {CE : g_E} {n : Nat} {ρ : Nat → Int} {L : List Nat} {g : Nat → Nat → Int} {r : Option g_V} {h : g_H} (hr : g_run RX3 ax CE cX3_expectNumber n (52, ρ, [], L, g) r h) : ∃ n' r1 h1', n' < n ∧ CE yX3_advance cX3_advance [(0, ρ 0)] (L, g) r1 h1' ∧ g_run RX3 ax CE cX3_expectNumber n' (56, ρ, g_push r1 [], h1') r h := by
  obtain ⟨n1, e, h1⟩ := g_blk_ok noX3 jI_X3_expectNumber tab_X3 1 n hr (c2 := (53, ρ, [(1, ρ 0)], L, g)) rfl
  obtain ⟨n2, c', e2, h2, h3⟩ := g_step_un noX3 (i := .invokevirtual 68) (len := 3) (jI_X3_expectNumber 53 _ rfl) (gnrV _) h1
  obtain ⟨r1, h1', hx, hc⟩ := g_virt_un lk_X3 nat_all lX3_ok (idx := 68) (mi := 223) (ci := 3) (na := 1) rfl (by decide) mq_X3_advance [] [] (ρ 0) rfl rfl h2
  subst hc
  exact ⟨n2, r1, h1', by omega, hx, h3⟩
theorem bk_X3_expectNumber_56 {ax : zAx} {CE : g_E} {n : Nat} {ρ : Nat → Int} {L : List Nat} {g : Nat → Nat → Int} {r : Option g_V} {h : g_H} (hr : g_run RX3 ax CE cX3_expectNumber n (56, ρ, [], L, g) r h) : r = none ∧ h = (L, g) := by
  obtain ⟨n1, e, h1⟩ := g_blk_ok noX3 jI_X3_expectNumber tab_X3 0 n hr (c2 := (56, ρ, [], L, g)) rfl
  exact g_retv_un noX3 (jI_X3_expectNumber 56 _ rfl) h1
def F_X3_expectNumber (x0 x1 x2 : Int) (g : Nat → Nat → Int) : (Nat → Nat → Int) := if g x0.toNat 6 = 53 then if F_X11_isWithin (g (g (g x0.toNat 2).toNat 3).toNat (g x0.toNat 5).toNat) x1 x2 g = 0 then (F_X3_fail x0 2 g) else if g x0.toNat 0 = 0 then (F_X3_advance x0 g) else g else (F_X3_fail x0 1 g)
theorem f_X3_expectNumber {ax : zAx} {x0 x1 x2 : Int} {L : List Nat} {g : Nat → Nat → Int} {r : Option g_V} {h : g_H} (hx : g_ex ax yX3_expectNumber cX3_expectNumber [(0, x0), (1, x1), (2, x2)] (L, g) r h) : r = none ∧ h = (L, F_X3_expectNumber x0 x1 x2 g) := by
  obtain ⟨ρ, n0, hρ, h0⟩ := g_run_of hx
  obtain rfl : ρ 0 = x0 := hρ (0, x0) (by simp)
  obtain rfl : ρ 1 = x1 := hρ (1, x1) (by simp)
  obtain rfl : ρ 2 = x2 := hρ (2, x2) (by simp)
  obtain ⟨n1, l1, h1⟩ := bk_X3_expectNumber_0 h0
  rcases h1 with ⟨c1, h1⟩ | ⟨c1, h1⟩
  · obtain ⟨n2, r2, k2, l2, x2, h2⟩ := bk_X3_expectNumber_17 h1
    obtain ⟨e2, d2⟩ := f_X11_isWithin x2
    subst e2
    subst d2
    obtain ⟨n3, l3, h3⟩ := bk_X3_expectNumber_34 h2
    rcases h3 with ⟨c3, h3⟩ | ⟨c3, h3⟩
    · obtain ⟨n4, r4, k4, l4, x4, h4⟩ := bk_X3_expectNumber_37 h3
      obtain ⟨e4, d4⟩ := f_X3_fail x4
      subst e4
      subst d4
      obtain ⟨n5, l5, h5⟩ := bk_X3_expectNumber_42 h4
      obtain ⟨e6, d6⟩ := bk_X3_expectNumber_56 h5
      unfold F_X3_expectNumber
      rw [if_pos c1, if_pos c3]
      exact ⟨e6, d6⟩
    · obtain ⟨n7, l7, h7⟩ := bk_X3_expectNumber_45 h3
      rcases h7 with ⟨c7, h7⟩ | ⟨c7, h7⟩
      · obtain ⟨n8, r8, k8, l8, x8, h8⟩ := bk_X3_expectNumber_52 h7
        obtain ⟨e8, d8⟩ := f_X3_advance x8
        subst e8
        subst d8
        obtain ⟨e9, d9⟩ := bk_X3_expectNumber_56 h8
        unfold F_X3_expectNumber
        rw [if_pos c1, if_neg c3, if_pos c7]
        exact ⟨e9, d9⟩
      · obtain ⟨e10, d10⟩ := bk_X3_expectNumber_56 h7
        unfold F_X3_expectNumber
        rw [if_pos c1, if_neg c3, if_neg c7]
        exact ⟨e10, d10⟩
  · obtain ⟨n11, r11, k11, l11, x11, h11⟩ := bk_X3_expectNumber_9 h1
    obtain ⟨e11, d11⟩ := f_X3_fail x11
    subst e11
    subst d11
    obtain ⟨n12, l12, h12⟩ := bk_X3_expectNumber_14 h11
    obtain ⟨e13, d13⟩ := bk_X3_expectNumber_56 h12
    unfold F_X3_expectNumber
    rw [if_neg c1]
    exact ⟨e13, d13⟩

theorem jI_X3_opens : ∀ (pc : Nat) (q : Instr × Nat), lkp iX3_opens pc = some q → decode cX3_opens pc = .ok q := fun pc q hq => jX3_opens (pc, q) (lkp_in iX3_opens hq)
theorem bk_X3_opens_0 {ax : zAx} {CE : g_E} {n : Nat} {ρ : Nat → Int} {L : List Nat} {g : Nat → Nat → Int} {r : Option g_V} {h : g_H} (hr : g_run RX3 ax CE cX3_opens n (0, ρ, [], L, g) r h) : ∃ n', n' < n ∧ ((ρ 1 < 8 ∧ g_run RX3 ax CE cX3_opens n' (11, ρ, [], L, g) r h) ∨ (¬ (ρ 1 < 8) ∧ g_run RX3 ax CE cX3_opens n' (6, ρ, [], L, g) r h)) := by
  obtain ⟨n1, e, h1⟩ := g_blk_ok noX3 jI_X3_opens tab_X3 3 n hr (c2 := (if ρ 1 < 8 then 11 else 6, ρ, [], L, g)) rfl
  refine ⟨n1, by omega, ?_⟩
  by_cases hc : ρ 1 < 8
  · exact Or.inl ⟨hc, by rw [if_pos hc] at h1; exact h1⟩
  · exact Or.inr ⟨hc, by rw [if_neg hc] at h1; exact h1⟩
theorem bk_X3_opens_6 {ax : zAx} {CE : g_E} {n : Nat} {ρ : Nat → Int} {L : List Nat} {g : Nat → Nat → Int} {r : Option g_V} {h : g_H} (hr : g_run RX3 ax CE cX3_opens n (6, ρ, [], L, g) r h) : ∃ n' r1 h1', n' < n ∧ CE yX3_fail cX3_fail [(0, ρ 0), (1, 3)] (L, g) r1 h1' ∧ g_run RX3 ax CE cX3_opens n' (11, ρ, g_push r1 [], h1') r h := by
  obtain ⟨n1, e, h1⟩ := g_blk_ok noX3 jI_X3_opens tab_X3 2 n hr (c2 := (8, ρ, [(1, 3), (1, ρ 0)], L, g)) rfl
  obtain ⟨n2, c', e2, h2, h3⟩ := g_step_un noX3 (i := .invokevirtual 55) (len := 3) (jI_X3_opens 8 _ rfl) (gnrV _) h1
  obtain ⟨r1, h1', hx, hc⟩ := g_virt_un lk_X3 nat_all lX3_ok (idx := 55) (mi := 226) (ci := 3) (na := 2) rfl (by decide) mq_X3_fail [(1, 3)] [] (ρ 0) rfl rfl h2
  subst hc
  exact ⟨n2, r1, h1', by omega, hx, h3⟩
theorem bk_X3_opens_11 {ax : zAx} {CE : g_E} {n : Nat} {ρ : Nat → Int} {L : List Nat} {g : Nat → Nat → Int} {r : Option g_V} {h : g_H} (hr : g_run RX3 ax CE cX3_opens n (11, ρ, [], L, g) r h) : ∃ n', n' < n ∧ ((g (ρ 0).toNat 0 = 0 ∧ g_run RX3 ax CE cX3_opens n' (20, ρ, [], L, g) r h) ∨ (¬ (g (ρ 0).toNat 0 = 0) ∧ g_run RX3 ax CE cX3_opens n' (18, ρ, [], L, g) r h)) := by
  obtain ⟨n1, e, h1⟩ := g_blk_ok noX3 jI_X3_opens tab_X3 3 n hr (c2 := (if g (ρ 0).toNat 0 = 0 then 20 else 18, ρ, [], L, g)) rfl
  refine ⟨n1, by omega, ?_⟩
  by_cases hc : g (ρ 0).toNat 0 = 0
  · exact Or.inl ⟨hc, by rw [if_pos hc] at h1; exact h1⟩
  · exact Or.inr ⟨hc, by rw [if_neg hc] at h1; exact h1⟩
theorem bk_X3_opens_18 {ax : zAx} {CE : g_E} {n : Nat} {ρ : Nat → Int} {L : List Nat} {g : Nat → Nat → Int} {r : Option g_V} {h : g_H} (hr : g_run RX3 ax CE cX3_opens n (18, ρ, [], L, g) r h) : r = some (1, 0) ∧ h = (L, g) := by
  obtain ⟨n1, e, h1⟩ := g_blk_ok noX3 jI_X3_opens tab_X3 1 n hr (c2 := (19, ρ, [(1, 0)], L, g)) rfl
  exact g_ret_un noX3 (i := .ireturn) (jI_X3_opens 19 _ rfl) (by decide) h1
theorem bk_X3_opens_20 {ax : zAx} {CE : g_E} {n : Nat} {ρ : Nat → Int} {L : List Nat} {g : Nat → Nat → Int} {r : Option g_V} {h : g_H} (hr : g_run RX3 ax CE cX3_opens n (20, ρ, [], L, g) r h) : ∃ n' r1 h1', n' < n ∧ CE yX3_advance cX3_advance [(0, ρ 0)] (L, g) r1 h1' ∧ g_run RX3 ax CE cX3_opens n' (24, ρ, g_push r1 [], h1') r h := by
  obtain ⟨n1, e, h1⟩ := g_blk_ok noX3 jI_X3_opens tab_X3 1 n hr (c2 := (21, ρ, [(1, ρ 0)], L, g)) rfl
  obtain ⟨n2, c', e2, h2, h3⟩ := g_step_un noX3 (i := .invokevirtual 68) (len := 3) (jI_X3_opens 21 _ rfl) (gnrV _) h1
  obtain ⟨r1, h1', hx, hc⟩ := g_virt_un lk_X3 nat_all lX3_ok (idx := 68) (mi := 223) (ci := 3) (na := 1) rfl (by decide) mq_X3_advance [] [] (ρ 0) rfl rfl h2
  subst hc
  exact ⟨n2, r1, h1', by omega, hx, h3⟩
theorem bk_X3_opens_24 {ax : zAx} {CE : g_E} {n : Nat} {ρ : Nat → Int} {L : List Nat} {g : Nat → Nat → Int} {r : Option g_V} {h : g_H} (hr : g_run RX3 ax CE cX3_opens n (24, ρ, [], L, g) r h) : r = some (1, 1) ∧ h = (L, g) := by
  obtain ⟨n1, e, h1⟩ := g_blk_ok noX3 jI_X3_opens tab_X3 1 n hr (c2 := (25, ρ, [(1, 1)], L, g)) rfl
  exact g_ret_un noX3 (i := .ireturn) (jI_X3_opens 25 _ rfl) (by decide) h1
def F_X3_opens (x0 x1 : Int) (g : Nat → Nat → Int) : Int × (Nat → Nat → Int) := if x1 < 8 then if g x0.toNat 0 = 0 then (1, (F_X3_advance x0 g)) else (0, g) else if (F_X3_fail x0 3 g) x0.toNat 0 = 0 then (1, (F_X3_advance x0 (F_X3_fail x0 3 g))) else (0, (F_X3_fail x0 3 g))
theorem f_X3_opens {ax : zAx} {x0 x1 : Int} {L : List Nat} {g : Nat → Nat → Int} {r : Option g_V} {h : g_H} (hx : g_ex ax yX3_opens cX3_opens [(0, x0), (1, x1)] (L, g) r h) : r = some (1, (F_X3_opens x0 x1 g).1) ∧ h = (L, (F_X3_opens x0 x1 g).2) := by
  obtain ⟨ρ, n0, hρ, h0⟩ := g_run_of hx
  obtain rfl : ρ 0 = x0 := hρ (0, x0) (by simp)
  obtain rfl : ρ 1 = x1 := hρ (1, x1) (by simp)
  obtain ⟨n1, l1, h1⟩ := bk_X3_opens_0 h0
  rcases h1 with ⟨c1, h1⟩ | ⟨c1, h1⟩
  · obtain ⟨n2, l2, h2⟩ := bk_X3_opens_11 h1
    rcases h2 with ⟨c2, h2⟩ | ⟨c2, h2⟩
    · obtain ⟨n3, r3, k3, l3, x3, h3⟩ := bk_X3_opens_20 h2
      obtain ⟨e3, d3⟩ := f_X3_advance x3
      subst e3
      subst d3
      obtain ⟨e4, d4⟩ := bk_X3_opens_24 h3
      unfold F_X3_opens
      rw [if_pos c1, if_pos c2]
      exact ⟨e4, d4⟩
    · obtain ⟨e5, d5⟩ := bk_X3_opens_18 h2
      unfold F_X3_opens
      rw [if_pos c1, if_neg c2]
      exact ⟨e5, d5⟩
  · obtain ⟨n6, r6, k6, l6, x6, h6⟩ := bk_X3_opens_6 h1
    obtain ⟨e6, d6⟩ := f_X3_fail x6
    subst e6
    subst d6
    obtain ⟨n7, l7, h7⟩ := bk_X3_opens_11 h6
    rcases h7 with ⟨c7, h7⟩ | ⟨c7, h7⟩
    · obtain ⟨n8, r8, k8, l8, x8, h8⟩ := bk_X3_opens_20 h7
      obtain ⟨e8, d8⟩ := f_X3_advance x8
      subst e8
      subst d8
      obtain ⟨e9, d9⟩ := bk_X3_opens_24 h8
      unfold F_X3_opens
      rw [if_neg c1, if_pos c7]
      exact ⟨e9, d9⟩
    · obtain ⟨e10, d10⟩ := bk_X3_opens_18 h7
      unfold F_X3_opens
      rw [if_neg c1, if_neg c7]
      exact ⟨e10, d10⟩

theorem jI_X3_isOwnName : ∀ (pc : Nat) (q : Instr × Nat), lkp iX3_isOwnName pc = some q → decode cX3_isOwnName pc = .ok q := fun pc q hq => jX3_isOwnName (pc, q) (lkp_in iX3_isOwnName hq)
theorem bk_X3_isOwnName_0 {ax : zAx} {CE : g_E} {n : Nat} {ρ : Nat → Int} {L : List Nat} {g : Nat → Nat → Int} {r : Option g_V} {h : g_H} (hr : g_run RX3 ax CE cX3_isOwnName n (0, ρ, [], L, g) r h) : ∃ n', n' < n ∧ ((ρ 0 = 8 ∧ g_run RX3 ax CE cX3_isOwnName n' (17, ρ, [], L, g) r h) ∨ (¬ (ρ 0 = 8) ∧ g_run RX3 ax CE cX3_isOwnName n' (6, ρ, [], L, g) r h)) := by
  obtain ⟨n1, e, h1⟩ := g_blk_ok noX3 jI_X3_isOwnName tab_X3 3 n hr (c2 := (if ρ 0 = 8 then 17 else 6, ρ, [], L, g)) rfl
  refine ⟨n1, by omega, ?_⟩
  by_cases hc : ρ 0 = 8
  · exact Or.inl ⟨hc, by rw [if_pos hc] at h1; exact h1⟩
  · exact Or.inr ⟨hc, by rw [if_neg hc] at h1; exact h1⟩
theorem bk_X3_isOwnName_6 {ax : zAx} {CE : g_E} {n : Nat} {ρ : Nat → Int} {L : List Nat} {g : Nat → Nat → Int} {r : Option g_V} {h : g_H} (hr : g_run RX3 ax CE cX3_isOwnName n (6, ρ, [], L, g) r h) : ∃ n' r1 h1', n' < n ∧ CE yX11_isWithin cX11_isWithin [(0, ρ 0), (1, 26), (2, 30)] (L, g) r1 h1' ∧ g_run RX3 ax CE cX3_isOwnName n' (14, ρ, g_push r1 [], h1') r h := by
  obtain ⟨n1, e, h1⟩ := g_blk_ok noX3 jI_X3_isOwnName tab_X3 3 n hr (c2 := (11, ρ, [(1, 30), (1, 26), (1, ρ 0)], L, g)) rfl
  obtain ⟨n2, c', e2, h2, h3⟩ := g_step_un noX3 (i := .invokestatic 118) (len := 3) (jI_X3_isOwnName 11 _ rfl) (gnrS _) h1
  obtain ⟨r1, h1', hx, hc⟩ := g_static_un lk_X3 nat_all lX3_ok (idx := 118) (mode := 2) (mi := 46) (ci := 0) (na := 3) rfl (by decide) (by decide) mq_X11_isWithin [(1, ρ 0), (1, 26), (1, 30)] [] rfl rfl h2
  subst hc
  exact ⟨n2, r1, h1', by omega, hx, h3⟩
theorem bk_X3_isOwnName_14 {ax : zAx} {CE : g_E} {n : Nat} {ρ : Nat → Int} {s0 : Int} {L : List Nat} {g : Nat → Nat → Int} {r : Option g_V} {h : g_H} (hr : g_run RX3 ax CE cX3_isOwnName n (14, ρ, [(1, s0)], L, g) r h) : ∃ n', n' < n ∧ ((s0 = 0 ∧ g_run RX3 ax CE cX3_isOwnName n' (21, ρ, [], L, g) r h) ∨ (¬ (s0 = 0) ∧ g_run RX3 ax CE cX3_isOwnName n' (17, ρ, [], L, g) r h)) := by
  obtain ⟨n1, e, h1⟩ := g_blk_ok noX3 jI_X3_isOwnName tab_X3 1 n hr (c2 := (if s0 = 0 then 21 else 17, ρ, [], L, g)) rfl
  refine ⟨n1, by omega, ?_⟩
  by_cases hc : s0 = 0
  · exact Or.inl ⟨hc, by rw [if_pos hc] at h1; exact h1⟩
  · exact Or.inr ⟨hc, by rw [if_neg hc] at h1; exact h1⟩
theorem bk_X3_isOwnName_17 {ax : zAx} {CE : g_E} {n : Nat} {ρ : Nat → Int} {L : List Nat} {g : Nat → Nat → Int} {r : Option g_V} {h : g_H} (hr : g_run RX3 ax CE cX3_isOwnName n (17, ρ, [], L, g) r h) : ∃ n', n' < n ∧ g_run RX3 ax CE cX3_isOwnName n' (22, ρ, [(1, 1)], L, g) r h := by
  obtain ⟨n1, e, h1⟩ := g_blk_ok noX3 jI_X3_isOwnName tab_X3 2 n hr (c2 := (22, ρ, [(1, 1)], L, g)) rfl
  exact ⟨n1, by omega, h1⟩
theorem bk_X3_isOwnName_21 {ax : zAx} {CE : g_E} {n : Nat} {ρ : Nat → Int} {L : List Nat} {g : Nat → Nat → Int} {r : Option g_V} {h : g_H} (hr : g_run RX3 ax CE cX3_isOwnName n (21, ρ, [], L, g) r h) : ∃ n', n' < n ∧ g_run RX3 ax CE cX3_isOwnName n' (22, ρ, [(1, 0)], L, g) r h := by
  obtain ⟨n1, e, h1⟩ := g_blk_ok noX3 jI_X3_isOwnName tab_X3 1 n hr (c2 := (22, ρ, [(1, 0)], L, g)) rfl
  exact ⟨n1, by omega, h1⟩
theorem bk_X3_isOwnName_22 {ax : zAx} {CE : g_E} {n : Nat} {ρ : Nat → Int} {s0 : Int} {L : List Nat} {g : Nat → Nat → Int} {r : Option g_V} {h : g_H} (hr : g_run RX3 ax CE cX3_isOwnName n (22, ρ, [(1, s0)], L, g) r h) : r = some (1, s0) ∧ h = (L, g) := by
  obtain ⟨n1, e, h1⟩ := g_blk_ok noX3 jI_X3_isOwnName tab_X3 0 n hr (c2 := (22, ρ, [(1, s0)], L, g)) rfl
  exact g_ret_un noX3 (i := .ireturn) (jI_X3_isOwnName 22 _ rfl) (by decide) h1
def F_X3_isOwnName (x0 : Int) (g : Nat → Nat → Int) : Int := if x0 = 8 then 1 else if F_X11_isWithin x0 26 30 g = 0 then 0 else 1
theorem f_X3_isOwnName {ax : zAx} {x0 : Int} {L : List Nat} {g : Nat → Nat → Int} {r : Option g_V} {h : g_H} (hx : g_ex ax yX3_isOwnName cX3_isOwnName [(0, x0)] (L, g) r h) : r = some (1, F_X3_isOwnName x0 g) ∧ h = (L, g) := by
  obtain ⟨ρ, n0, hρ, h0⟩ := g_run_of hx
  obtain rfl : ρ 0 = x0 := hρ (0, x0) (by simp)
  obtain ⟨n1, l1, h1⟩ := bk_X3_isOwnName_0 h0
  rcases h1 with ⟨c1, h1⟩ | ⟨c1, h1⟩
  · obtain ⟨n2, l2, h2⟩ := bk_X3_isOwnName_17 h1
    obtain ⟨e3, d3⟩ := bk_X3_isOwnName_22 h2
    unfold F_X3_isOwnName
    rw [if_pos c1]
    exact ⟨e3, d3⟩
  · obtain ⟨n4, r4, k4, l4, x4, h4⟩ := bk_X3_isOwnName_6 h1
    obtain ⟨e4, d4⟩ := f_X11_isWithin x4
    subst e4
    subst d4
    obtain ⟨n5, l5, h5⟩ := bk_X3_isOwnName_14 h4
    rcases h5 with ⟨c5, h5⟩ | ⟨c5, h5⟩
    · obtain ⟨n6, l6, h6⟩ := bk_X3_isOwnName_21 h5
      obtain ⟨e7, d7⟩ := bk_X3_isOwnName_22 h6
      unfold F_X3_isOwnName
      rw [if_neg c1, if_pos c5]
      exact ⟨e7, d7⟩
    · obtain ⟨n8, l8, h8⟩ := bk_X3_isOwnName_17 h5
      obtain ⟨e9, d9⟩ := bk_X3_isOwnName_22 h8
      unfold F_X3_isOwnName
      rw [if_neg c1, if_neg c5]
      exact ⟨e9, d9⟩

theorem jI_X7_hasLaw : ∀ (pc : Nat) (q : Instr × Nat), lkp iX7_hasLaw pc = some q → decode cX7_hasLaw pc = .ok q := fun pc q hq => jX7_hasLaw (pc, q) (lkp_in iX7_hasLaw hq)
theorem bk_X7_hasLaw_0 {ax : zAx} {CE : g_E} {n : Nat} {ρ : Nat → Int} {L : List Nat} {g : Nat → Nat → Int} {r : Option g_V} {h : g_H} (hr : g_run RX7 ax CE cX7_hasLaw n (0, ρ, [], L, g) r h) : ∃ n', n' < n ∧ ((g (g (ρ 0).toNat 10).toNat (ρ 1).toNat ≤ g (g (ρ 0).toNat 9).toNat (ρ 1).toNat ∧ g_run RX7 ax CE cX7_hasLaw n' (19, ρ, [], L, g) r h) ∨ (¬ (g (g (ρ 0).toNat 10).toNat (ρ 1).toNat ≤ g (g (ρ 0).toNat 9).toNat (ρ 1).toNat) ∧ g_run RX7 ax CE cX7_hasLaw n' (15, ρ, [], L, g) r h)) := by
  obtain ⟨n1, e, h1⟩ := g_blk_ok noX7 jI_X7_hasLaw tab_X7 9 n hr (c2 := (if g (g (ρ 0).toNat 10).toNat (ρ 1).toNat ≤ g (g (ρ 0).toNat 9).toNat (ρ 1).toNat then 19 else 15, ρ, [], L, g)) rfl
  refine ⟨n1, by omega, ?_⟩
  by_cases hc : g (g (ρ 0).toNat 10).toNat (ρ 1).toNat ≤ g (g (ρ 0).toNat 9).toNat (ρ 1).toNat
  · exact Or.inl ⟨hc, by rw [if_pos hc] at h1; exact h1⟩
  · exact Or.inr ⟨hc, by rw [if_neg hc] at h1; exact h1⟩
theorem bk_X7_hasLaw_15 {ax : zAx} {CE : g_E} {n : Nat} {ρ : Nat → Int} {L : List Nat} {g : Nat → Nat → Int} {r : Option g_V} {h : g_H} (hr : g_run RX7 ax CE cX7_hasLaw n (15, ρ, [], L, g) r h) : ∃ n', n' < n ∧ g_run RX7 ax CE cX7_hasLaw n' (20, ρ, [(1, 1)], L, g) r h := by
  obtain ⟨n1, e, h1⟩ := g_blk_ok noX7 jI_X7_hasLaw tab_X7 2 n hr (c2 := (20, ρ, [(1, 1)], L, g)) rfl
  exact ⟨n1, by omega, h1⟩
theorem bk_X7_hasLaw_19 {ax : zAx} {CE : g_E} {n : Nat} {ρ : Nat → Int} {L : List Nat} {g : Nat → Nat → Int} {r : Option g_V} {h : g_H} (hr : g_run RX7 ax CE cX7_hasLaw n (19, ρ, [], L, g) r h) : ∃ n', n' < n ∧ g_run RX7 ax CE cX7_hasLaw n' (20, ρ, [(1, 0)], L, g) r h := by
  obtain ⟨n1, e, h1⟩ := g_blk_ok noX7 jI_X7_hasLaw tab_X7 1 n hr (c2 := (20, ρ, [(1, 0)], L, g)) rfl
  exact ⟨n1, by omega, h1⟩
theorem bk_X7_hasLaw_20 {ax : zAx} {CE : g_E} {n : Nat} {ρ : Nat → Int} {s0 : Int} {L : List Nat} {g : Nat → Nat → Int} {r : Option g_V} {h : g_H} (hr : g_run RX7 ax CE cX7_hasLaw n (20, ρ, [(1, s0)], L, g) r h) : r = some (1, s0) ∧ h = (L, g) := by
  obtain ⟨n1, e, h1⟩ := g_blk_ok noX7 jI_X7_hasLaw tab_X7 0 n hr (c2 := (20, ρ, [(1, s0)], L, g)) rfl
  exact g_ret_un noX7 (i := .ireturn) (jI_X7_hasLaw 20 _ rfl) (by decide) h1
def F_X7_hasLaw (x0 x1 : Int) (g : Nat → Nat → Int) : Int := if g (g x0.toNat 10).toNat x1.toNat ≤ g (g x0.toNat 9).toNat x1.toNat then 0 else 1
theorem f_X7_hasLaw {ax : zAx} {x0 x1 : Int} {L : List Nat} {g : Nat → Nat → Int} {r : Option g_V} {h : g_H} (hx : g_ex ax yX7_hasLaw cX7_hasLaw [(0, x0), (1, x1)] (L, g) r h) : r = some (1, F_X7_hasLaw x0 x1 g) ∧ h = (L, g) := by
  obtain ⟨ρ, n0, hρ, h0⟩ := g_run_of hx
  obtain rfl : ρ 0 = x0 := hρ (0, x0) (by simp)
  obtain rfl : ρ 1 = x1 := hρ (1, x1) (by simp)
  obtain ⟨n1, l1, h1⟩ := bk_X7_hasLaw_0 h0
  rcases h1 with ⟨c1, h1⟩ | ⟨c1, h1⟩
  · obtain ⟨n2, l2, h2⟩ := bk_X7_hasLaw_19 h1
    obtain ⟨e3, d3⟩ := bk_X7_hasLaw_20 h2
    unfold F_X7_hasLaw
    rw [if_pos c1]
    exact ⟨e3, d3⟩
  · obtain ⟨n4, l4, h4⟩ := bk_X7_hasLaw_15 h1
    obtain ⟨e5, d5⟩ := bk_X7_hasLaw_20 h4
    unfold F_X7_hasLaw
    rw [if_neg c1]
    exact ⟨e5, d5⟩
