/-! Paths. -/
theorem jI_X12_pair : ∀ (pc : Nat) (q : Instr × Nat), lkp iX12_pair pc = some q → decode cX12_pair pc = .ok q := fun pc q hq => jX12_pair (pc, q) (lkp_in iX12_pair hq)
theorem bk_X12_pair_0 {ax : zAx} {CE : g_E} {n : Nat} {ρ : Nat → Int} {L : List Nat} {g : Nat → Nat → Int} {r : Option g_V} {h : g_H} (hr : g_run RX12 ax CE cX12_pair n (0, ρ, [], L, g) r h) : ∃ n' r1 h1', n' < n ∧ CE yX12_figure cX12_figure [(0, ρ 0), (1, g_i ((ρ 1) + 1)), (2, ρ 2), (3, ρ 3)] (L, g) r1 h1' ∧ g_run RX12 ax CE cX12_pair n' (9, ρ, g_push r1 [], h1') r h := by
  obtain ⟨n1, e, h1⟩ := g_blk_ok noX12 jI_X12_pair tab_X12 6 n hr (c2 := (6, ρ, [(1, ρ 3), (1, ρ 2), (1, g_i ((ρ 1) + 1)), (1, ρ 0)], L, g)) rfl
  obtain ⟨n2, c', e2, h2, h3⟩ := g_step_un noX12 (i := .invokevirtual 262) (len := 3) (jI_X12_pair 6 _ rfl) (gnrV _) h1
  obtain ⟨r1, h1', hx, hc⟩ := g_virt_un lk_X12 nat_all lX12_ok (idx := 262) (mi := 106) (ci := 12) (na := 4) rfl (by decide) mq_X12_figure [(1, g_i ((ρ 1) + 1)), (1, ρ 2), (1, ρ 3)] [] (ρ 0) rfl rfl h2
  subst hc
  exact ⟨n2, r1, h1', by omega, hx, h3⟩
theorem bk_X12_pair_9 {ax : zAx} {CE : g_E} {n : Nat} {ρ : Nat → Int} {s0 : Int} {L : List Nat} {g : Nat → Nat → Int} {r : Option g_V} {h : g_H} (hr : g_run RX12 ax CE cX12_pair n (9, ρ, [(1, s0)], L, g) r h) : ∃ n', n' < n ∧ ((s0 = 0 ∧ g_run RX12 ax CE cX12_pair n' (21, (va_up ρ 7 s0), [], L, g) r h) ∨ (¬ (s0 = 0) ∧ g_run RX12 ax CE cX12_pair n' (16, (va_up ρ 7 s0), [], L, g) r h)) := by
  obtain ⟨n1, e, h1⟩ := g_blk_ok noX12 jI_X12_pair tab_X12 3 n hr (c2 := (if s0 = 0 then 21 else 16, (va_up ρ 7 s0), [], L, g)) rfl
  refine ⟨n1, by omega, ?_⟩
  by_cases hc : s0 = 0
  · exact Or.inl ⟨hc, by rw [if_pos hc] at h1; exact h1⟩
  · exact Or.inr ⟨hc, by rw [if_neg hc] at h1; exact h1⟩
theorem bk_X12_pair_16 {ax : zAx} {CE : g_E} {n : Nat} {ρ : Nat → Int} {L : List Nat} {g : Nat → Nat → Int} {r : Option g_V} {h : g_H} (hr : g_run RX12 ax CE cX12_pair n (16, ρ, [], L, g) r h) : ∃ n', n' < n ∧ g_run RX12 ax CE cX12_pair n' (33, ρ, [(1, ρ 7)], L, g) r h := by
  obtain ⟨n1, e, h1⟩ := g_blk_ok noX12 jI_X12_pair tab_X12 2 n hr (c2 := (33, ρ, [(1, ρ 7)], L, g)) rfl
  exact ⟨n1, by omega, h1⟩
theorem bk_X12_pair_21 {ax : zAx} {CE : g_E} {n : Nat} {ρ : Nat → Int} {L : List Nat} {g : Nat → Nat → Int} {r : Option g_V} {h : g_H} (hr : g_run RX12 ax CE cX12_pair n (21, ρ, [], L, g) r h) : ∃ n' r1 h1', n' < n ∧ CE yX12_worded cX12_worded [(0, ρ 0), (1, ρ 4), (3, g_i ((ρ 1) + 2)), (4, 0), (5, ρ 6)] (L, g) r1 h1' ∧ g_run RX12 ax CE cX12_pair n' (33, ρ, g_push r1 [], h1') r h := by
  obtain ⟨n1, e, h1⟩ := g_blk_ok noX12 jI_X12_pair tab_X12 7 n hr (c2 := (30, ρ, [(1, ρ 6), (1, 0), (1, g_i ((ρ 1) + 2)), (2, ρ 4), (1, ρ 0)], L, g)) rfl
  obtain ⟨n2, c', e2, h2, h3⟩ := g_step_un noX12 (i := .invokevirtual 269) (len := 3) (jI_X12_pair 30 _ rfl) (gnrV _) h1
  obtain ⟨r1, h1', hx, hc⟩ := g_virt_un lk_X12 nat_all lX12_ok (idx := 269) (mi := 199) (ci := 12) (na := 5) rfl (by decide) mq_X12_worded [(2, ρ 4), (1, g_i ((ρ 1) + 2)), (1, 0), (1, ρ 6)] [] (ρ 0) rfl rfl h2
  subst hc
  exact ⟨n2, r1, h1', by omega, hx, h3⟩
theorem bk_X12_pair_33 {ax : zAx} {CE : g_E} {n : Nat} {ρ : Nat → Int} {s0 : Int} {L : List Nat} {g : Nat → Nat → Int} {r : Option g_V} {h : g_H} (hr : g_run RX12 ax CE cX12_pair n (33, ρ, [(1, s0)], L, g) r h) : r = some (1, s0) ∧ h = (L, g) := by
  obtain ⟨n1, e, h1⟩ := g_blk_ok noX12 jI_X12_pair tab_X12 0 n hr (c2 := (33, ρ, [(1, s0)], L, g)) rfl
  exact g_ret_un noX12 (i := .ireturn) (jI_X12_pair 33 _ rfl) (by decide) h1
theorem pt_X12_pair_0 {ax : zAx} {CE : g_E} (hCE : ∀ y cc as h r h', CE y cc as h r h' → g_ex ax y cc as h r h') {n : Nat} {ρ : Nat → Int} {L : List Nat} {g : Nat → Nat → Int} {r : Option g_V} {h : g_H} (h0 : g_run RX12 ax CE cX12_pair n (0, ρ, [], L, g) r h) : (∃ n' r1 h1', n' < n ∧ CE yX12_figure cX12_figure [(0, (ρ 0)), (1, g_i ((ρ 1) + 1)), (2, (ρ 2)), (3, (ρ 3))] (L, g) r1 h1' ∧ g_run RX12 ax CE cX12_pair n' (9, ρ, g_push r1 [], h1') r h) := by
  obtain ⟨n1, r1, k1, l1, x1, h1⟩ := bk_X12_pair_0 h0
  exact ⟨n1, r1, k1, by omega, x1, h1⟩
theorem pt_X12_pair_9 {ax : zAx} {CE : g_E} (hCE : ∀ y cc as h r h', CE y cc as h r h' → g_ex ax y cc as h r h') {n : Nat} {ρ : Nat → Int} {s0 : Int} {L : List Nat} {g : Nat → Nat → Int} {r : Option g_V} {h : g_H} (h0 : g_run RX12 ax CE cX12_pair n (9, ρ, [(1, s0)], L, g) r h) : ((s0 = 0 ∧ (∃ n' r1 h1', n' < n ∧ CE yX12_worded cX12_worded [(0, (ρ 0)), (1, (ρ 4)), (3, g_i ((ρ 1) + 2)), (4, 0), (5, (ρ 6))] (L, g) r1 h1' ∧ g_run RX12 ax CE cX12_pair n' (33, (va_up ρ 7 s0), g_push r1 [], h1') r h)) ∨ (¬ (s0 = 0) ∧ (r = some (1, s0) ∧ h = (L, g)))) := by
  obtain ⟨n1, l1, h1⟩ := bk_X12_pair_9 h0
  rcases h1 with ⟨c1, h1⟩ | ⟨c1, h1⟩
  · refine Or.inl ⟨c1, ?_⟩
    obtain ⟨n2, r2, k2, l2, x2, h2⟩ := bk_X12_pair_21 h1
    exact ⟨n2, r2, k2, by omega, x2, h2⟩
  · refine Or.inr ⟨c1, ?_⟩
    obtain ⟨n3, l3, h3⟩ := bk_X12_pair_16 h1
    obtain ⟨e4, d4⟩ := bk_X12_pair_33 h3
    exact ⟨e4, d4⟩
theorem pt_X12_pair_33 {ax : zAx} {CE : g_E} (hCE : ∀ y cc as h r h', CE y cc as h r h' → g_ex ax y cc as h r h') {n : Nat} {ρ : Nat → Int} {s0 : Int} {L : List Nat} {g : Nat → Nat → Int} {r : Option g_V} {h : g_H} (h0 : g_run RX12 ax CE cX12_pair n (33, ρ, [(1, s0)], L, g) r h) : (r = some (1, s0) ∧ h = (L, g)) := by
  obtain ⟨e1, d1⟩ := bk_X12_pair_33 h0
  exact ⟨e1, d1⟩

theorem jI_X12_nextToken : ∀ (pc : Nat) (q : Instr × Nat), lkp iX12_nextToken pc = some q → decode cX12_nextToken pc = .ok q := fun pc q hq => jX12_nextToken (pc, q) (lkp_in iX12_nextToken hq)
theorem bk_X12_nextToken_0 {ax : zAx} {CE : g_E} {n : Nat} {ρ : Nat → Int} {L : List Nat} {g : Nat → Nat → Int} {r : Option g_V} {h : g_H} (hr : g_run RX12 ax CE cX12_nextToken n (0, ρ, [], L, g) r h) : ∃ n' r1 h1', n' < n ∧ CE yX12_byteAt cX12_byteAt [(0, ρ 0), (1, g (ρ 0).toNat 7)] (L, g) r1 h1' ∧ g_run RX12 ax CE cX12_nextToken n' (8, ρ, g_push r1 [], h1') r h := by
  obtain ⟨n1, e, h1⟩ := g_blk_ok noX12 jI_X12_nextToken tab_X12 3 n hr (c2 := (5, ρ, [(1, g (ρ 0).toNat 7), (1, ρ 0)], L, g)) rfl
  obtain ⟨n2, c', e2, h2, h3⟩ := g_step_un noX12 (i := .invokevirtual 143) (len := 3) (jI_X12_nextToken 5 _ rfl) (gnrV _) h1
  obtain ⟨r1, h1', hx, hc⟩ := g_virt_un lk_X12 nat_all lX12_ok (idx := 143) (mi := 84) (ci := 12) (na := 2) rfl (by decide) mq_X12_byteAt [(1, g (ρ 0).toNat 7)] [] (ρ 0) rfl rfl h2
  subst hc
  exact ⟨n2, r1, h1', by omega, hx, h3⟩
theorem bk_X12_nextToken_8 {ax : zAx} {CE : g_E} {n : Nat} {ρ : Nat → Int} {s0 : Int} {L : List Nat} {g : Nat → Nat → Int} {r : Option g_V} {h : g_H} (hr : g_run RX12 ax CE cX12_nextToken n (8, ρ, [(1, s0)], L, g) r h) : ∃ n', n' < n ∧ ((s0 = 32 ∧ g_run RX12 ax CE cX12_nextToken n' (26, ρ, [], L, g) r h) ∨ (¬ (s0 = 32) ∧ g_run RX12 ax CE cX12_nextToken n' (13, ρ, [], L, g) r h)) := by
  obtain ⟨n1, e, h1⟩ := g_blk_ok noX12 jI_X12_nextToken tab_X12 2 n hr (c2 := (if s0 = 32 then 26 else 13, ρ, [], L, g)) rfl
  refine ⟨n1, by omega, ?_⟩
  by_cases hc : s0 = 32
  · exact Or.inl ⟨hc, by rw [if_pos hc] at h1; exact h1⟩
  · exact Or.inr ⟨hc, by rw [if_neg hc] at h1; exact h1⟩
theorem bk_X12_nextToken_13 {ax : zAx} {CE : g_E} {n : Nat} {ρ : Nat → Int} {L : List Nat} {g : Nat → Nat → Int} {r : Option g_V} {h : g_H} (hr : g_run RX12 ax CE cX12_nextToken n (13, ρ, [], L, g) r h) : ∃ n' r1 h1', n' < n ∧ CE yX12_byteAt cX12_byteAt [(0, ρ 0), (1, g (ρ 0).toNat 7)] (L, g) r1 h1' ∧ g_run RX12 ax CE cX12_nextToken n' (21, ρ, g_push r1 [], h1') r h := by
  obtain ⟨n1, e, h1⟩ := g_blk_ok noX12 jI_X12_nextToken tab_X12 3 n hr (c2 := (18, ρ, [(1, g (ρ 0).toNat 7), (1, ρ 0)], L, g)) rfl
  obtain ⟨n2, c', e2, h2, h3⟩ := g_step_un noX12 (i := .invokevirtual 143) (len := 3) (jI_X12_nextToken 18 _ rfl) (gnrV _) h1
  obtain ⟨r1, h1', hx, hc⟩ := g_virt_un lk_X12 nat_all lX12_ok (idx := 143) (mi := 84) (ci := 12) (na := 2) rfl (by decide) mq_X12_byteAt [(1, g (ρ 0).toNat 7)] [] (ρ 0) rfl rfl h2
  subst hc
  exact ⟨n2, r1, h1', by omega, hx, h3⟩
theorem bk_X12_nextToken_21 {ax : zAx} {CE : g_E} {n : Nat} {ρ : Nat → Int} {s0 : Int} {L : List Nat} {g : Nat → Nat → Int} {r : Option g_V} {h : g_H} (hr : g_run RX12 ax CE cX12_nextToken n (21, ρ, [(1, s0)], L, g) r h) : ∃ n', n' < n ∧ ((s0 = 10 ∧ g_run RX12 ax CE cX12_nextToken n' (26, ρ, [], L, g) r h) ∨ (¬ (s0 = 10) ∧ g_run RX12 ax CE cX12_nextToken n' (39, ρ, [], L, g) r h)) := by
  obtain ⟨n1, e, h1⟩ := g_blk_ok noX12 jI_X12_nextToken tab_X12 2 n hr (c2 := (if s0 = 10 then 26 else 39, ρ, [], L, g)) rfl
  refine ⟨n1, by omega, ?_⟩
  by_cases hc : s0 = 10
  · exact Or.inl ⟨hc, by rw [if_pos hc] at h1; exact h1⟩
  · exact Or.inr ⟨hc, by rw [if_neg hc] at h1; exact h1⟩
theorem bk_X12_nextToken_26 {ax : zAx} {CE : g_E} {n : Nat} {ρ : Nat → Int} {L : List Nat} {g : Nat → Nat → Int} {r : Option g_V} {h : g_H} (hr : g_run RX12 ax CE cX12_nextToken n (26, ρ, [], L, g) r h) : ∃ n', n' < n ∧ g_run RX12 ax CE cX12_nextToken n' (0, ρ, [], L, (g_up g (ρ 0).toNat 7 (g_i ((g (ρ 0).toNat 7) + 1)))) r h := by
  obtain ⟨n1, e, h1⟩ := g_blk_ok noX12 jI_X12_nextToken tab_X12 7 n hr (c2 := (0, ρ, [], L, (g_up g (ρ 0).toNat 7 (g_i ((g (ρ 0).toNat 7) + 1))))) rfl
  exact ⟨n1, by omega, h1⟩
theorem bk_X12_nextToken_39 {ax : zAx} {CE : g_E} {n : Nat} {ρ : Nat → Int} {L : List Nat} {g : Nat → Nat → Int} {r : Option g_V} {h : g_H} (hr : g_run RX12 ax CE cX12_nextToken n (39, ρ, [], L, g) r h) : ∃ n' r1 h1', n' < n ∧ CE yX12_byteAt cX12_byteAt [(0, ρ 0), (1, (g_up g (ρ 0).toNat 8 (g (ρ 0).toNat 7)) (ρ 0).toNat 7)] (L, (g_up g (ρ 0).toNat 8 (g (ρ 0).toNat 7))) r1 h1' ∧ g_run RX12 ax CE cX12_nextToken n' (55, ρ, g_push r1 [], h1') r h := by
  obtain ⟨n1, e, h1⟩ := g_blk_ok noX12 jI_X12_nextToken tab_X12 7 n hr (c2 := (52, ρ, [(1, (g_up g (ρ 0).toNat 8 (g (ρ 0).toNat 7)) (ρ 0).toNat 7), (1, ρ 0)], L, (g_up g (ρ 0).toNat 8 (g (ρ 0).toNat 7)))) rfl
  obtain ⟨n2, c', e2, h2, h3⟩ := g_step_un noX12 (i := .invokevirtual 143) (len := 3) (jI_X12_nextToken 52 _ rfl) (gnrV _) h1
  obtain ⟨r1, h1', hx, hc⟩ := g_virt_un lk_X12 nat_all lX12_ok (idx := 143) (mi := 84) (ci := 12) (na := 2) rfl (by decide) mq_X12_byteAt [(1, (g_up g (ρ 0).toNat 8 (g (ρ 0).toNat 7)) (ρ 0).toNat 7)] [] (ρ 0) rfl rfl h2
  subst hc
  exact ⟨n2, r1, h1', by omega, hx, h3⟩
theorem bk_X12_nextToken_55 {ax : zAx} {CE : g_E} {n : Nat} {ρ : Nat → Int} {s0 : Int} {L : List Nat} {g : Nat → Nat → Int} {r : Option g_V} {h : g_H} (hr : g_run RX12 ax CE cX12_nextToken n (55, ρ, [(1, s0)], L, g) r h) : ∃ n', n' < n ∧ ((0 ≤ s0 ∧ g_run RX12 ax CE cX12_nextToken n' (68, (va_up ρ 1 s0), [], L, g) r h) ∨ (¬ (0 ≤ s0) ∧ g_run RX12 ax CE cX12_nextToken n' (60, (va_up ρ 1 s0), [], L, g) r h)) := by
  obtain ⟨n1, e, h1⟩ := g_blk_ok noX12 jI_X12_nextToken tab_X12 3 n hr (c2 := (if 0 ≤ s0 then 68 else 60, (va_up ρ 1 s0), [], L, g)) rfl
  refine ⟨n1, by omega, ?_⟩
  by_cases hc : 0 ≤ s0
  · exact Or.inl ⟨hc, by rw [if_pos hc] at h1; exact h1⟩
  · exact Or.inr ⟨hc, by rw [if_neg hc] at h1; exact h1⟩
theorem bk_X12_nextToken_60 {ax : zAx} {CE : g_E} {n : Nat} {ρ : Nat → Int} {L : List Nat} {g : Nat → Nat → Int} {r : Option g_V} {h : g_H} (hr : g_run RX12 ax CE cX12_nextToken n (60, ρ, [], L, g) r h) : ∃ n', n' < n ∧ g_run RX12 ax CE cX12_nextToken n' (310, ρ, [], L, (g_up g (ρ 0).toNat 9 0)) r h := by
  obtain ⟨n1, e, h1⟩ := g_blk_ok noX12 jI_X12_nextToken tab_X12 4 n hr (c2 := (310, ρ, [], L, (g_up g (ρ 0).toNat 9 0))) rfl
  exact ⟨n1, by omega, h1⟩
theorem bk_X12_nextToken_68 {ax : zAx} {CE : g_E} {n : Nat} {ρ : Nat → Int} {L : List Nat} {g : Nat → Nat → Int} {r : Option g_V} {h : g_H} (hr : g_run RX12 ax CE cX12_nextToken n (68, ρ, [], L, g) r h) : ∃ n' r1 h1', n' < n ∧ CE yX12_isFigure cX12_isFigure [(0, ρ 1)] (L, g) r1 h1' ∧ g_run RX12 ax CE cX12_nextToken n' (72, ρ, g_push r1 [], h1') r h := by
  obtain ⟨n1, e, h1⟩ := g_blk_ok noX12 jI_X12_nextToken tab_X12 1 n hr (c2 := (69, ρ, [(1, ρ 1)], L, g)) rfl
  obtain ⟨n2, c', e2, h2, h3⟩ := g_step_un noX12 (i := .invokestatic 153) (len := 3) (jI_X12_nextToken 69 _ rfl) (gnrS _) h1
  obtain ⟨r1, h1', hx, hc⟩ := g_static_un lk_X12 nat_all lX12_ok (idx := 153) (mode := 1) (mi := 125) (ci := 0) (na := 1) rfl (by decide) (by decide) mq_X12_isFigure [(1, ρ 1)] [] rfl rfl h2
  subst hc
  exact ⟨n2, r1, h1', by omega, hx, h3⟩
theorem bk_X12_nextToken_72 {ax : zAx} {CE : g_E} {n : Nat} {ρ : Nat → Int} {s0 : Int} {L : List Nat} {g : Nat → Nat → Int} {r : Option g_V} {h : g_H} (hr : g_run RX12 ax CE cX12_nextToken n (72, ρ, [(1, s0)], L, g) r h) : ∃ n', n' < n ∧ ((s0 = 0 ∧ g_run RX12 ax CE cX12_nextToken n' (151, ρ, [], L, g) r h) ∨ (¬ (s0 = 0) ∧ g_run RX12 ax CE cX12_nextToken n' (75, ρ, [], L, g) r h)) := by
  obtain ⟨n1, e, h1⟩ := g_blk_ok noX12 jI_X12_nextToken tab_X12 1 n hr (c2 := (if s0 = 0 then 151 else 75, ρ, [], L, g)) rfl
  refine ⟨n1, by omega, ?_⟩
  by_cases hc : s0 = 0
  · exact Or.inl ⟨hc, by rw [if_pos hc] at h1; exact h1⟩
  · exact Or.inr ⟨hc, by rw [if_neg hc] at h1; exact h1⟩
theorem bk_X12_nextToken_75 {ax : zAx} {CE : g_E} {n : Nat} {ρ : Nat → Int} {L : List Nat} {g : Nat → Nat → Int} {r : Option g_V} {h : g_H} (hr : g_run RX12 ax CE cX12_nextToken n (75, ρ, [], L, g) r h) : ∃ n', n' < n ∧ g_run RX12 ax CE cX12_nextToken n' (85, ρ, [], L, (g_up (g_up g (ρ 0).toNat 9 1) (ρ 0).toNat 10 0)) r h := by
  obtain ⟨n1, e, h1⟩ := g_blk_ok noX12 jI_X12_nextToken tab_X12 6 n hr (c2 := (85, ρ, [], L, (g_up (g_up g (ρ 0).toNat 9 1) (ρ 0).toNat 10 0))) rfl
  exact ⟨n1, by omega, h1⟩
theorem bk_X12_nextToken_85 {ax : zAx} {CE : g_E} {n : Nat} {ρ : Nat → Int} {L : List Nat} {g : Nat → Nat → Int} {r : Option g_V} {h : g_H} (hr : g_run RX12 ax CE cX12_nextToken n (85, ρ, [], L, g) r h) : ∃ n' r1 h1', n' < n ∧ CE yX12_byteAt cX12_byteAt [(0, ρ 0), (1, g (ρ 0).toNat 7)] (L, g) r1 h1' ∧ g_run RX12 ax CE cX12_nextToken n' (93, ρ, g_push r1 [], h1') r h := by
  obtain ⟨n1, e, h1⟩ := g_blk_ok noX12 jI_X12_nextToken tab_X12 3 n hr (c2 := (90, ρ, [(1, g (ρ 0).toNat 7), (1, ρ 0)], L, g)) rfl
  obtain ⟨n2, c', e2, h2, h3⟩ := g_step_un noX12 (i := .invokevirtual 143) (len := 3) (jI_X12_nextToken 90 _ rfl) (gnrV _) h1
  obtain ⟨r1, h1', hx, hc⟩ := g_virt_un lk_X12 nat_all lX12_ok (idx := 143) (mi := 84) (ci := 12) (na := 2) rfl (by decide) mq_X12_byteAt [(1, g (ρ 0).toNat 7)] [] (ρ 0) rfl rfl h2
  subst hc
  exact ⟨n2, r1, h1', by omega, hx, h3⟩
theorem bk_X12_nextToken_93 {ax : zAx} {CE : g_E} {n : Nat} {ρ : Nat → Int} {s0 : Int} {L : List Nat} {g : Nat → Nat → Int} {r : Option g_V} {h : g_H} (hr : g_run RX12 ax CE cX12_nextToken n (93, ρ, [(1, s0)], L, g) r h) : ∃ n' r1 h1', n' < n ∧ CE yX12_isFigure cX12_isFigure [(0, s0)] (L, g) r1 h1' ∧ g_run RX12 ax CE cX12_nextToken n' (96, ρ, g_push r1 [], h1') r h := by
  obtain ⟨n1, e, h1⟩ := g_blk_ok noX12 jI_X12_nextToken tab_X12 0 n hr (c2 := (93, ρ, [(1, s0)], L, g)) rfl
  obtain ⟨n2, c', e2, h2, h3⟩ := g_step_un noX12 (i := .invokestatic 153) (len := 3) (jI_X12_nextToken 93 _ rfl) (gnrS _) h1
  obtain ⟨r1, h1', hx, hc⟩ := g_static_un lk_X12 nat_all lX12_ok (idx := 153) (mode := 1) (mi := 125) (ci := 0) (na := 1) rfl (by decide) (by decide) mq_X12_isFigure [(1, s0)] [] rfl rfl h2
  subst hc
  exact ⟨n2, r1, h1', by omega, hx, h3⟩
theorem bk_X12_nextToken_96 {ax : zAx} {CE : g_E} {n : Nat} {ρ : Nat → Int} {s0 : Int} {L : List Nat} {g : Nat → Nat → Int} {r : Option g_V} {h : g_H} (hr : g_run RX12 ax CE cX12_nextToken n (96, ρ, [(1, s0)], L, g) r h) : ∃ n', n' < n ∧ ((s0 = 0 ∧ g_run RX12 ax CE cX12_nextToken n' (310, ρ, [], L, g) r h) ∨ (¬ (s0 = 0) ∧ g_run RX12 ax CE cX12_nextToken n' (99, ρ, [], L, g) r h)) := by
  obtain ⟨n1, e, h1⟩ := g_blk_ok noX12 jI_X12_nextToken tab_X12 1 n hr (c2 := (if s0 = 0 then 310 else 99, ρ, [], L, g)) rfl
  refine ⟨n1, by omega, ?_⟩
  by_cases hc : s0 = 0
  · exact Or.inl ⟨hc, by rw [if_pos hc] at h1; exact h1⟩
  · exact Or.inr ⟨hc, by rw [if_neg hc] at h1; exact h1⟩
theorem bk_X12_nextToken_99 {ax : zAx} {CE : g_E} {n : Nat} {ρ : Nat → Int} {L : List Nat} {g : Nat → Nat → Int} {r : Option g_V} {h : g_H} (hr : g_run RX12 ax CE cX12_nextToken n (99, ρ, [], L, g) r h) : ∃ n', n' < n ∧ ((g (ρ 0).toNat 10 ≤ 99999 ∧ g_run RX12 ax CE cX12_nextToken n' (116, ρ, [(1, ρ 0)], L, g) r h) ∨ (¬ (g (ρ 0).toNat 10 ≤ 99999) ∧ g_run RX12 ax CE cX12_nextToken n' (109, ρ, [(1, ρ 0)], L, g) r h)) := by
  obtain ⟨n1, e, h1⟩ := g_blk_ok noX12 jI_X12_nextToken tab_X12 5 n hr (c2 := (if g (ρ 0).toNat 10 ≤ 99999 then 116 else 109, ρ, [(1, ρ 0)], L, g)) rfl
  refine ⟨n1, by omega, ?_⟩
  by_cases hc : g (ρ 0).toNat 10 ≤ 99999
  · exact Or.inl ⟨hc, by rw [if_pos hc] at h1; exact h1⟩
  · exact Or.inr ⟨hc, by rw [if_neg hc] at h1; exact h1⟩
theorem bk_X12_nextToken_109 {ax : zAx} {CE : g_E} {n : Nat} {ρ : Nat → Int} {s0 : Int} {L : List Nat} {g : Nat → Nat → Int} {r : Option g_V} {h : g_H} (hr : g_run RX12 ax CE cX12_nextToken n (109, ρ, [(1, s0)], L, g) r h) : ∃ n', n' < n ∧ g_run RX12 ax CE cX12_nextToken n' (135, ρ, [(1, g (ρ 0).toNat 10), (1, s0)], L, g) r h := by
  obtain ⟨n1, e, h1⟩ := g_blk_ok noX12 jI_X12_nextToken tab_X12 3 n hr (c2 := (135, ρ, [(1, g (ρ 0).toNat 10), (1, s0)], L, g)) rfl
  exact ⟨n1, by omega, h1⟩
theorem bk_X12_nextToken_116 {ax : zAx} {CE : g_E} {n : Nat} {ρ : Nat → Int} {s0 : Int} {L : List Nat} {g : Nat → Nat → Int} {r : Option g_V} {h : g_H} (hr : g_run RX12 ax CE cX12_nextToken n (116, ρ, [(1, s0)], L, g) r h) : ∃ n' r1 h1', n' < n ∧ CE yX12_byteAt cX12_byteAt [(0, ρ 0), (1, g (ρ 0).toNat 7)] (L, g) r1 h1' ∧ g_run RX12 ax CE cX12_nextToken n' (131, ρ, g_push r1 [(1, g_i (10 * (g (ρ 0).toNat 10))), (1, s0)], h1') r h := by
  obtain ⟨n1, e, h1⟩ := g_blk_ok noX12 jI_X12_nextToken tab_X12 7 n hr (c2 := (128, ρ, [(1, g (ρ 0).toNat 7), (1, ρ 0), (1, g_i (10 * (g (ρ 0).toNat 10))), (1, s0)], L, g)) rfl
  obtain ⟨n2, c', e2, h2, h3⟩ := g_step_un noX12 (i := .invokevirtual 143) (len := 3) (jI_X12_nextToken 128 _ rfl) (gnrV _) h1
  obtain ⟨r1, h1', hx, hc⟩ := g_virt_un lk_X12 nat_all lX12_ok (idx := 143) (mi := 84) (ci := 12) (na := 2) rfl (by decide) mq_X12_byteAt [(1, g (ρ 0).toNat 7)] [(1, g_i (10 * (g (ρ 0).toNat 10))), (1, s0)] (ρ 0) rfl rfl h2
  subst hc
  exact ⟨n2, r1, h1', by omega, hx, h3⟩
theorem bk_X12_nextToken_131 {ax : zAx} {CE : g_E} {n : Nat} {ρ : Nat → Int} {s0 : Int} {s1 : Int} {s2 : Int} {L : List Nat} {g : Nat → Nat → Int} {r : Option g_V} {h : g_H} (hr : g_run RX12 ax CE cX12_nextToken n (131, ρ, [(1, s0), (1, s1), (1, s2)], L, g) r h) : ∃ n', n' < n ∧ g_run RX12 ax CE cX12_nextToken n' (135, ρ, [(1, g_i ((g_i (s1 + s0)) - 48)), (1, s2)], L, g) r h := by
  obtain ⟨n1, e, h1⟩ := g_blk_ok noX12 jI_X12_nextToken tab_X12 3 n hr (c2 := (135, ρ, [(1, g_i ((g_i (s1 + s0)) - 48)), (1, s2)], L, g)) rfl
  exact ⟨n1, by omega, h1⟩
theorem bk_X12_nextToken_135 {ax : zAx} {CE : g_E} {n : Nat} {ρ : Nat → Int} {s0 : Int} {s1 : Int} {L : List Nat} {g : Nat → Nat → Int} {r : Option g_V} {h : g_H} (hr : g_run RX12 ax CE cX12_nextToken n (135, ρ, [(1, s0), (1, s1)], L, g) r h) : ∃ n', n' < n ∧ g_run RX12 ax CE cX12_nextToken n' (85, ρ, [], L, (g_up (g_up g s1.toNat 10 s0) (ρ 0).toNat 7 (g_i (((g_up g s1.toNat 10 s0) (ρ 0).toNat 7) + 1)))) r h := by
  obtain ⟨n1, e, h1⟩ := g_blk_ok noX12 jI_X12_nextToken tab_X12 8 n hr (c2 := (85, ρ, [], L, (g_up (g_up g s1.toNat 10 s0) (ρ 0).toNat 7 (g_i (((g_up g s1.toNat 10 s0) (ρ 0).toNat 7) + 1))))) rfl
  exact ⟨n1, by omega, h1⟩
theorem bk_X12_nextToken_151 {ax : zAx} {CE : g_E} {n : Nat} {ρ : Nat → Int} {L : List Nat} {g : Nat → Nat → Int} {r : Option g_V} {h : g_H} (hr : g_run RX12 ax CE cX12_nextToken n (151, ρ, [], L, g) r h) : ∃ n' r1 h1', n' < n ∧ CE yX12_isLetterByte cX12_isLetterByte [(0, ρ 1)] (L, g) r1 h1' ∧ g_run RX12 ax CE cX12_nextToken n' (155, ρ, g_push r1 [], h1') r h := by
  obtain ⟨n1, e, h1⟩ := g_blk_ok noX12 jI_X12_nextToken tab_X12 1 n hr (c2 := (152, ρ, [(1, ρ 1)], L, g)) rfl
  obtain ⟨n2, c', e2, h2, h3⟩ := g_step_un noX12 (i := .invokestatic 160) (len := 3) (jI_X12_nextToken 152 _ rfl) (gnrS _) h1
  obtain ⟨r1, h1', hx, hc⟩ := g_static_un lk_X12 nat_all lX12_ok (idx := 160) (mode := 1) (mi := 127) (ci := 0) (na := 1) rfl (by decide) (by decide) mq_X12_isLetterByte [(1, ρ 1)] [] rfl rfl h2
  subst hc
  exact ⟨n2, r1, h1', by omega, hx, h3⟩
theorem bk_X12_nextToken_155 {ax : zAx} {CE : g_E} {n : Nat} {ρ : Nat → Int} {s0 : Int} {L : List Nat} {g : Nat → Nat → Int} {r : Option g_V} {h : g_H} (hr : g_run RX12 ax CE cX12_nextToken n (155, ρ, [(1, s0)], L, g) r h) : ∃ n', n' < n ∧ ((s0 = 0 ∧ g_run RX12 ax CE cX12_nextToken n' (234, ρ, [], L, g) r h) ∨ (¬ (s0 = 0) ∧ g_run RX12 ax CE cX12_nextToken n' (158, ρ, [], L, g) r h)) := by
  obtain ⟨n1, e, h1⟩ := g_blk_ok noX12 jI_X12_nextToken tab_X12 1 n hr (c2 := (if s0 = 0 then 234 else 158, ρ, [], L, g)) rfl
  refine ⟨n1, by omega, ?_⟩
  by_cases hc : s0 = 0
  · exact Or.inl ⟨hc, by rw [if_pos hc] at h1; exact h1⟩
  · exact Or.inr ⟨hc, by rw [if_neg hc] at h1; exact h1⟩
theorem bk_X12_nextToken_158 {ax : zAx} {CE : g_E} {n : Nat} {ρ : Nat → Int} {L : List Nat} {g : Nat → Nat → Int} {r : Option g_V} {h : g_H} (hr : g_run RX12 ax CE cX12_nextToken n (158, ρ, [], L, g) r h) : ∃ n', n' < n ∧ g_run RX12 ax CE cX12_nextToken n' (168, ρ, [], L, (g_up (g_up g (ρ 0).toNat 9 2) (ρ 0).toNat 11 0)) r h := by
  obtain ⟨n1, e, h1⟩ := g_blk_ok noX12 jI_X12_nextToken tab_X12 6 n hr (c2 := (168, ρ, [], L, (g_up (g_up g (ρ 0).toNat 9 2) (ρ 0).toNat 11 0))) rfl
  exact ⟨n1, by omega, h1⟩
theorem bk_X12_nextToken_168 {ax : zAx} {CE : g_E} {n : Nat} {ρ : Nat → Int} {L : List Nat} {g : Nat → Nat → Int} {r : Option g_V} {h : g_H} (hr : g_run RX12 ax CE cX12_nextToken n (168, ρ, [], L, g) r h) : ∃ n' r1 h1', n' < n ∧ CE yX12_byteAt cX12_byteAt [(0, ρ 0), (1, g (ρ 0).toNat 7)] (L, g) r1 h1' ∧ g_run RX12 ax CE cX12_nextToken n' (176, ρ, g_push r1 [], h1') r h := by
  obtain ⟨n1, e, h1⟩ := g_blk_ok noX12 jI_X12_nextToken tab_X12 3 n hr (c2 := (173, ρ, [(1, g (ρ 0).toNat 7), (1, ρ 0)], L, g)) rfl
  obtain ⟨n2, c', e2, h2, h3⟩ := g_step_un noX12 (i := .invokevirtual 143) (len := 3) (jI_X12_nextToken 173 _ rfl) (gnrV _) h1
  obtain ⟨r1, h1', hx, hc⟩ := g_virt_un lk_X12 nat_all lX12_ok (idx := 143) (mi := 84) (ci := 12) (na := 2) rfl (by decide) mq_X12_byteAt [(1, g (ρ 0).toNat 7)] [] (ρ 0) rfl rfl h2
  subst hc
  exact ⟨n2, r1, h1', by omega, hx, h3⟩
theorem bk_X12_nextToken_176 {ax : zAx} {CE : g_E} {n : Nat} {ρ : Nat → Int} {s0 : Int} {L : List Nat} {g : Nat → Nat → Int} {r : Option g_V} {h : g_H} (hr : g_run RX12 ax CE cX12_nextToken n (176, ρ, [(1, s0)], L, g) r h) : ∃ n' r1 h1', n' < n ∧ CE yX12_isLetterByte cX12_isLetterByte [(0, s0)] (L, g) r1 h1' ∧ g_run RX12 ax CE cX12_nextToken n' (179, ρ, g_push r1 [], h1') r h := by
  obtain ⟨n1, e, h1⟩ := g_blk_ok noX12 jI_X12_nextToken tab_X12 0 n hr (c2 := (176, ρ, [(1, s0)], L, g)) rfl
  obtain ⟨n2, c', e2, h2, h3⟩ := g_step_un noX12 (i := .invokestatic 160) (len := 3) (jI_X12_nextToken 176 _ rfl) (gnrS _) h1
  obtain ⟨r1, h1', hx, hc⟩ := g_static_un lk_X12 nat_all lX12_ok (idx := 160) (mode := 1) (mi := 127) (ci := 0) (na := 1) rfl (by decide) (by decide) mq_X12_isLetterByte [(1, s0)] [] rfl rfl h2
  subst hc
  exact ⟨n2, r1, h1', by omega, hx, h3⟩
theorem bk_X12_nextToken_179 {ax : zAx} {CE : g_E} {n : Nat} {ρ : Nat → Int} {s0 : Int} {L : List Nat} {g : Nat → Nat → Int} {r : Option g_V} {h : g_H} (hr : g_run RX12 ax CE cX12_nextToken n (179, ρ, [(1, s0)], L, g) r h) : ∃ n', n' < n ∧ ((s0 = 0 ∧ g_run RX12 ax CE cX12_nextToken n' (310, ρ, [], L, g) r h) ∨ (¬ (s0 = 0) ∧ g_run RX12 ax CE cX12_nextToken n' (182, ρ, [], L, g) r h)) := by
  obtain ⟨n1, e, h1⟩ := g_blk_ok noX12 jI_X12_nextToken tab_X12 1 n hr (c2 := (if s0 = 0 then 310 else 182, ρ, [], L, g)) rfl
  refine ⟨n1, by omega, ?_⟩
  by_cases hc : s0 = 0
  · exact Or.inl ⟨hc, by rw [if_pos hc] at h1; exact h1⟩
  · exact Or.inr ⟨hc, by rw [if_neg hc] at h1; exact h1⟩
theorem bk_X12_nextToken_182 {ax : zAx} {CE : g_E} {n : Nat} {ρ : Nat → Int} {L : List Nat} {g : Nat → Nat → Int} {r : Option g_V} {h : g_H} (hr : g_run RX12 ax CE cX12_nextToken n (182, ρ, [], L, g) r h) : ∃ n', n' < n ∧ (((if 0 < (Int64.ofInt (g (ρ 0).toNat 11) >>> ((Int32.ofInt 48).toInt64 &&& 63)).toInt then 1 else if (Int64.ofInt (g (ρ 0).toNat 11) >>> ((Int32.ofInt 48).toInt64 &&& 63)).toInt = 0 then 0 else -1) = 0 ∧ g_run RX12 ax CE cX12_nextToken n' (201, ρ, [(1, ρ 0)], L, g) r h) ∨ (¬ ((if 0 < (Int64.ofInt (g (ρ 0).toNat 11) >>> ((Int32.ofInt 48).toInt64 &&& 63)).toInt then 1 else if (Int64.ofInt (g (ρ 0).toNat 11) >>> ((Int32.ofInt 48).toInt64 &&& 63)).toInt = 0 then 0 else -1) = 0) ∧ g_run RX12 ax CE cX12_nextToken n' (195, ρ, [(1, ρ 0)], L, g) r h)) := by
  obtain ⟨n1, e, h1⟩ := g_blk_ok noX12 jI_X12_nextToken tab_X12 8 n hr (c2 := (if (if 0 < (Int64.ofInt (g (ρ 0).toNat 11) >>> ((Int32.ofInt 48).toInt64 &&& 63)).toInt then 1 else if (Int64.ofInt (g (ρ 0).toNat 11) >>> ((Int32.ofInt 48).toInt64 &&& 63)).toInt = 0 then 0 else -1) = 0 then 201 else 195, ρ, [(1, ρ 0)], L, g)) rfl
  replace h1 : g_run RX12 ax CE cX12_nextToken n1 (if (if 0 < (Int64.ofInt (g (ρ 0).toNat 11) >>> ((Int32.ofInt 48).toInt64 &&& 63)).toInt then 1 else if (Int64.ofInt (g (ρ 0).toNat 11) >>> ((Int32.ofInt 48).toInt64 &&& 63)).toInt = 0 then 0 else -1) = 0 then 201 else 195, ρ, [(1, ρ 0)], L, g) r h := h1
  refine ⟨n1, by omega, ?_⟩
  by_cases hc : (if 0 < (Int64.ofInt (g (ρ 0).toNat 11) >>> ((Int32.ofInt 48).toInt64 &&& 63)).toInt then 1 else if (Int64.ofInt (g (ρ 0).toNat 11) >>> ((Int32.ofInt 48).toInt64 &&& 63)).toInt = 0 then 0 else -1) = 0
  · exact Or.inl ⟨hc, by rw [if_pos hc] at h1; exact h1⟩
  · exact Or.inr ⟨hc, by rw [if_neg hc] at h1; exact h1⟩
theorem bk_X12_nextToken_195 {ax : zAx} {CE : g_E} {n : Nat} {ρ : Nat → Int} {s0 : Int} {L : List Nat} {g : Nat → Nat → Int} {r : Option g_V} {h : g_H} (hr : g_run RX12 ax CE cX12_nextToken n (195, ρ, [(1, s0)], L, g) r h) : ∃ n', n' < n ∧ g_run RX12 ax CE cX12_nextToken n' (218, ρ, [(2, 1152921504606846976), (1, s0)], L, g) r h := by
  obtain ⟨n1, e, h1⟩ := g_blk_ok noX12 jI_X12_nextToken tab_X12 2 n hr (c2 := (218, ρ, [(2, 1152921504606846976), (1, s0)], L, g)) rfl
  exact ⟨n1, by omega, h1⟩
theorem bk_X12_nextToken_201 {ax : zAx} {CE : g_E} {n : Nat} {ρ : Nat → Int} {s0 : Int} {L : List Nat} {g : Nat → Nat → Int} {r : Option g_V} {h : g_H} (hr : g_run RX12 ax CE cX12_nextToken n (201, ρ, [(1, s0)], L, g) r h) : ∃ n' r1 h1', n' < n ∧ CE yX12_byteAt cX12_byteAt [(0, ρ 0), (1, g (ρ 0).toNat 7)] (L, g) r1 h1' ∧ g_run RX12 ax CE cX12_nextToken n' (216, ρ, g_push r1 [(2, (Int64.ofInt (g (ρ 0).toNat 11) <<< ((Int32.ofInt 8).toInt64 &&& 63)).toInt), (1, s0)], h1') r h := by
  obtain ⟨n1, e, h1⟩ := g_blk_ok noX12 jI_X12_nextToken tab_X12 7 n hr (c2 := (213, ρ, [(1, g (ρ 0).toNat 7), (1, ρ 0), (2, (Int64.ofInt (g (ρ 0).toNat 11) <<< ((Int32.ofInt 8).toInt64 &&& 63)).toInt), (1, s0)], L, g)) rfl
  obtain ⟨n2, c', e2, h2, h3⟩ := g_step_un noX12 (i := .invokevirtual 143) (len := 3) (jI_X12_nextToken 213 _ rfl) (gnrV _) h1
  obtain ⟨r1, h1', hx, hc⟩ := g_virt_un lk_X12 nat_all lX12_ok (idx := 143) (mi := 84) (ci := 12) (na := 2) rfl (by decide) mq_X12_byteAt [(1, g (ρ 0).toNat 7)] [(2, (Int64.ofInt (g (ρ 0).toNat 11) <<< ((Int32.ofInt 8).toInt64 &&& 63)).toInt), (1, s0)] (ρ 0) rfl rfl h2
  subst hc
  exact ⟨n2, r1, h1', by omega, hx, h3⟩
theorem bk_X12_nextToken_216 {ax : zAx} {CE : g_E} {n : Nat} {ρ : Nat → Int} {s0 : Int} {s1 : Int} {s2 : Int} {L : List Nat} {g : Nat → Nat → Int} {r : Option g_V} {h : g_H} (hr : g_run RX12 ax CE cX12_nextToken n (216, ρ, [(1, s0), (2, s1), (1, s2)], L, g) r h) : ∃ n', n' < n ∧ g_run RX12 ax CE cX12_nextToken n' (218, ρ, [(2, (Int64.ofInt s1 ||| Int64.ofInt s0).toInt), (1, s2)], L, g) r h := by
  obtain ⟨n1, e, h1⟩ := g_blk_ok noX12 jI_X12_nextToken tab_X12 2 n hr (c2 := (218, ρ, [(2, (Int64.ofInt s1 ||| Int64.ofInt s0).toInt), (1, s2)], L, g)) rfl
  exact ⟨n1, by omega, h1⟩
theorem bk_X12_nextToken_218 {ax : zAx} {CE : g_E} {n : Nat} {ρ : Nat → Int} {s0 : Int} {s1 : Int} {L : List Nat} {g : Nat → Nat → Int} {r : Option g_V} {h : g_H} (hr : g_run RX12 ax CE cX12_nextToken n (218, ρ, [(2, s0), (1, s1)], L, g) r h) : ∃ n', n' < n ∧ g_run RX12 ax CE cX12_nextToken n' (168, ρ, [], L, (g_up (g_up g s1.toNat 11 s0) (ρ 0).toNat 7 (g_i (((g_up g s1.toNat 11 s0) (ρ 0).toNat 7) + 1)))) r h := by
  obtain ⟨n1, e, h1⟩ := g_blk_ok noX12 jI_X12_nextToken tab_X12 8 n hr (c2 := (168, ρ, [], L, (g_up (g_up g s1.toNat 11 s0) (ρ 0).toNat 7 (g_i (((g_up g s1.toNat 11 s0) (ρ 0).toNat 7) + 1))))) rfl
  exact ⟨n1, by omega, h1⟩
theorem bk_X12_nextToken_234 {ax : zAx} {CE : g_E} {n : Nat} {ρ : Nat → Int} {L : List Nat} {g : Nat → Nat → Int} {r : Option g_V} {h : g_H} (hr : g_run RX12 ax CE cX12_nextToken n (234, ρ, [], L, g) r h) : ∃ n' r1 h1', n' < n ∧ CE yX12_isSign cX12_isSign [(0, ρ 1)] (L, g) r1 h1' ∧ g_run RX12 ax CE cX12_nextToken n' (239, ρ, g_push r1 [(1, ρ 0)], h1') r h := by
  obtain ⟨n1, e, h1⟩ := g_blk_ok noX12 jI_X12_nextToken tab_X12 2 n hr (c2 := (236, ρ, [(1, ρ 1), (1, ρ 0)], L, g)) rfl
  obtain ⟨n2, c', e2, h2, h3⟩ := g_step_un noX12 (i := .invokestatic 169) (len := 3) (jI_X12_nextToken 236 _ rfl) (gnrS _) h1
  obtain ⟨r1, h1', hx, hc⟩ := g_static_un lk_X12 nat_all lX12_ok (idx := 169) (mode := 1) (mi := 131) (ci := 0) (na := 1) rfl (by decide) (by decide) mq_X12_isSign [(1, ρ 1)] [(1, ρ 0)] rfl rfl h2
  subst hc
  exact ⟨n2, r1, h1', by omega, hx, h3⟩
theorem bk_X12_nextToken_239 {ax : zAx} {CE : g_E} {n : Nat} {ρ : Nat → Int} {s0 : Int} {s1 : Int} {L : List Nat} {g : Nat → Nat → Int} {r : Option g_V} {h : g_H} (hr : g_run RX12 ax CE cX12_nextToken n (239, ρ, [(1, s0), (1, s1)], L, g) r h) : ∃ n', n' < n ∧ ((s0 = 0 ∧ g_run RX12 ax CE cX12_nextToken n' (246, ρ, [(1, s1)], L, g) r h) ∨ (¬ (s0 = 0) ∧ g_run RX12 ax CE cX12_nextToken n' (242, ρ, [(1, s1)], L, g) r h)) := by
  obtain ⟨n1, e, h1⟩ := g_blk_ok noX12 jI_X12_nextToken tab_X12 1 n hr (c2 := (if s0 = 0 then 246 else 242, ρ, [(1, s1)], L, g)) rfl
  refine ⟨n1, by omega, ?_⟩
  by_cases hc : s0 = 0
  · exact Or.inl ⟨hc, by rw [if_pos hc] at h1; exact h1⟩
  · exact Or.inr ⟨hc, by rw [if_neg hc] at h1; exact h1⟩
theorem bk_X12_nextToken_242 {ax : zAx} {CE : g_E} {n : Nat} {ρ : Nat → Int} {s0 : Int} {L : List Nat} {g : Nat → Nat → Int} {r : Option g_V} {h : g_H} (hr : g_run RX12 ax CE cX12_nextToken n (242, ρ, [(1, s0)], L, g) r h) : ∃ n', n' < n ∧ g_run RX12 ax CE cX12_nextToken n' (247, ρ, [(1, ρ 1), (1, s0)], L, g) r h := by
  obtain ⟨n1, e, h1⟩ := g_blk_ok noX12 jI_X12_nextToken tab_X12 2 n hr (c2 := (247, ρ, [(1, ρ 1), (1, s0)], L, g)) rfl
  exact ⟨n1, by omega, h1⟩
theorem bk_X12_nextToken_246 {ax : zAx} {CE : g_E} {n : Nat} {ρ : Nat → Int} {s0 : Int} {L : List Nat} {g : Nat → Nat → Int} {r : Option g_V} {h : g_H} (hr : g_run RX12 ax CE cX12_nextToken n (246, ρ, [(1, s0)], L, g) r h) : ∃ n', n' < n ∧ g_run RX12 ax CE cX12_nextToken n' (247, ρ, [(1, 3), (1, s0)], L, g) r h := by
  obtain ⟨n1, e, h1⟩ := g_blk_ok noX12 jI_X12_nextToken tab_X12 1 n hr (c2 := (247, ρ, [(1, 3), (1, s0)], L, g)) rfl
  exact ⟨n1, by omega, h1⟩
theorem bk_X12_nextToken_247 {ax : zAx} {CE : g_E} {n : Nat} {ρ : Nat → Int} {s0 : Int} {s1 : Int} {L : List Nat} {g : Nat → Nat → Int} {r : Option g_V} {h : g_H} (hr : g_run RX12 ax CE cX12_nextToken n (247, ρ, [(1, s0), (1, s1)], L, g) r h) : ∃ n', n' < n ∧ ((ρ 1 = 60 ∧ g_run RX12 ax CE cX12_nextToken n' (272, ρ, [], L, (g_up (g_up g s1.toNat 9 s0) (ρ 0).toNat 7 (g_i (((g_up g s1.toNat 9 s0) (ρ 0).toNat 7) + 1)))) r h) ∨ (¬ (ρ 1 = 60) ∧ g_run RX12 ax CE cX12_nextToken n' (266, ρ, [], L, (g_up (g_up g s1.toNat 9 s0) (ρ 0).toNat 7 (g_i (((g_up g s1.toNat 9 s0) (ρ 0).toNat 7) + 1)))) r h)) := by
  obtain ⟨n1, e, h1⟩ := g_blk_ok noX12 jI_X12_nextToken tab_X12 10 n hr (c2 := (if ρ 1 = 60 then 272 else 266, ρ, [], L, (g_up (g_up g s1.toNat 9 s0) (ρ 0).toNat 7 (g_i (((g_up g s1.toNat 9 s0) (ρ 0).toNat 7) + 1))))) rfl
  refine ⟨n1, by omega, ?_⟩
  by_cases hc : ρ 1 = 60
  · exact Or.inl ⟨hc, by rw [if_pos hc] at h1; exact h1⟩
  · exact Or.inr ⟨hc, by rw [if_neg hc] at h1; exact h1⟩
theorem bk_X12_nextToken_266 {ax : zAx} {CE : g_E} {n : Nat} {ρ : Nat → Int} {L : List Nat} {g : Nat → Nat → Int} {r : Option g_V} {h : g_H} (hr : g_run RX12 ax CE cX12_nextToken n (266, ρ, [], L, g) r h) : ∃ n', n' < n ∧ ((ρ 1 = 62 ∧ g_run RX12 ax CE cX12_nextToken n' (272, ρ, [], L, g) r h) ∨ (¬ (ρ 1 = 62) ∧ g_run RX12 ax CE cX12_nextToken n' (310, ρ, [], L, g) r h)) := by
  obtain ⟨n1, e, h1⟩ := g_blk_ok noX12 jI_X12_nextToken tab_X12 3 n hr (c2 := (if ρ 1 = 62 then 272 else 310, ρ, [], L, g)) rfl
  refine ⟨n1, by omega, ?_⟩
  by_cases hc : ρ 1 = 62
  · exact Or.inl ⟨hc, by rw [if_pos hc] at h1; exact h1⟩
  · exact Or.inr ⟨hc, by rw [if_neg hc] at h1; exact h1⟩
theorem bk_X12_nextToken_272 {ax : zAx} {CE : g_E} {n : Nat} {ρ : Nat → Int} {L : List Nat} {g : Nat → Nat → Int} {r : Option g_V} {h : g_H} (hr : g_run RX12 ax CE cX12_nextToken n (272, ρ, [], L, g) r h) : ∃ n' r1 h1', n' < n ∧ CE yX12_byteAt cX12_byteAt [(0, ρ 0), (1, g (ρ 0).toNat 7)] (L, g) r1 h1' ∧ g_run RX12 ax CE cX12_nextToken n' (280, ρ, g_push r1 [], h1') r h := by
  obtain ⟨n1, e, h1⟩ := g_blk_ok noX12 jI_X12_nextToken tab_X12 3 n hr (c2 := (277, ρ, [(1, g (ρ 0).toNat 7), (1, ρ 0)], L, g)) rfl
  obtain ⟨n2, c', e2, h2, h3⟩ := g_step_un noX12 (i := .invokevirtual 143) (len := 3) (jI_X12_nextToken 277 _ rfl) (gnrV _) h1
  obtain ⟨r1, h1', hx, hc⟩ := g_virt_un lk_X12 nat_all lX12_ok (idx := 143) (mi := 84) (ci := 12) (na := 2) rfl (by decide) mq_X12_byteAt [(1, g (ρ 0).toNat 7)] [] (ρ 0) rfl rfl h2
  subst hc
  exact ⟨n2, r1, h1', by omega, hx, h3⟩
theorem bk_X12_nextToken_280 {ax : zAx} {CE : g_E} {n : Nat} {ρ : Nat → Int} {s0 : Int} {L : List Nat} {g : Nat → Nat → Int} {r : Option g_V} {h : g_H} (hr : g_run RX12 ax CE cX12_nextToken n (280, ρ, [(1, s0)], L, g) r h) : ∃ n', n' < n ∧ ((s0 = 61 ∧ g_run RX12 ax CE cX12_nextToken n' (285, ρ, [], L, g) r h) ∨ (¬ (s0 = 61) ∧ g_run RX12 ax CE cX12_nextToken n' (310, ρ, [], L, g) r h)) := by
  obtain ⟨n1, e, h1⟩ := g_blk_ok noX12 jI_X12_nextToken tab_X12 2 n hr (c2 := (if s0 = 61 then 285 else 310, ρ, [], L, g)) rfl
  refine ⟨n1, by omega, ?_⟩
  by_cases hc : s0 = 61
  · exact Or.inl ⟨hc, by rw [if_pos hc] at h1; exact h1⟩
  · exact Or.inr ⟨hc, by rw [if_neg hc] at h1; exact h1⟩
theorem bk_X12_nextToken_285 {ax : zAx} {CE : g_E} {n : Nat} {ρ : Nat → Int} {L : List Nat} {g : Nat → Nat → Int} {r : Option g_V} {h : g_H} (hr : g_run RX12 ax CE cX12_nextToken n (285, ρ, [], L, g) r h) : ∃ n', n' < n ∧ ((ρ 1 = 60 ∧ g_run RX12 ax CE cX12_nextToken n' (292, ρ, [(1, ρ 0)], L, g) r h) ∨ (¬ (ρ 1 = 60) ∧ g_run RX12 ax CE cX12_nextToken n' (296, ρ, [(1, ρ 0)], L, g) r h)) := by
  obtain ⟨n1, e, h1⟩ := g_blk_ok noX12 jI_X12_nextToken tab_X12 4 n hr (c2 := (if ρ 1 = 60 then 292 else 296, ρ, [(1, ρ 0)], L, g)) rfl
  refine ⟨n1, by omega, ?_⟩
  by_cases hc : ρ 1 = 60
  · exact Or.inl ⟨hc, by rw [if_pos hc] at h1; exact h1⟩
  · exact Or.inr ⟨hc, by rw [if_neg hc] at h1; exact h1⟩
theorem bk_X12_nextToken_292 {ax : zAx} {CE : g_E} {n : Nat} {ρ : Nat → Int} {s0 : Int} {L : List Nat} {g : Nat → Nat → Int} {r : Option g_V} {h : g_H} (hr : g_run RX12 ax CE cX12_nextToken n (292, ρ, [(1, s0)], L, g) r h) : ∃ n', n' < n ∧ g_run RX12 ax CE cX12_nextToken n' (297, ρ, [(1, 4), (1, s0)], L, g) r h := by
  obtain ⟨n1, e, h1⟩ := g_blk_ok noX12 jI_X12_nextToken tab_X12 2 n hr (c2 := (297, ρ, [(1, 4), (1, s0)], L, g)) rfl
  exact ⟨n1, by omega, h1⟩
theorem bk_X12_nextToken_296 {ax : zAx} {CE : g_E} {n : Nat} {ρ : Nat → Int} {s0 : Int} {L : List Nat} {g : Nat → Nat → Int} {r : Option g_V} {h : g_H} (hr : g_run RX12 ax CE cX12_nextToken n (296, ρ, [(1, s0)], L, g) r h) : ∃ n', n' < n ∧ g_run RX12 ax CE cX12_nextToken n' (297, ρ, [(1, 5), (1, s0)], L, g) r h := by
  obtain ⟨n1, e, h1⟩ := g_blk_ok noX12 jI_X12_nextToken tab_X12 1 n hr (c2 := (297, ρ, [(1, 5), (1, s0)], L, g)) rfl
  exact ⟨n1, by omega, h1⟩
theorem bk_X12_nextToken_297 {ax : zAx} {CE : g_E} {n : Nat} {ρ : Nat → Int} {s0 : Int} {s1 : Int} {L : List Nat} {g : Nat → Nat → Int} {r : Option g_V} {h : g_H} (hr : g_run RX12 ax CE cX12_nextToken n (297, ρ, [(1, s0), (1, s1)], L, g) r h) : ∃ n', n' < n ∧ g_run RX12 ax CE cX12_nextToken n' (310, ρ, [], L, (g_up (g_up g s1.toNat 9 s0) (ρ 0).toNat 7 (g_i (((g_up g s1.toNat 9 s0) (ρ 0).toNat 7) + 1)))) r h := by
  obtain ⟨n1, e, h1⟩ := g_blk_ok noX12 jI_X12_nextToken tab_X12 7 n hr (c2 := (310, ρ, [], L, (g_up (g_up g s1.toNat 9 s0) (ρ 0).toNat 7 (g_i (((g_up g s1.toNat 9 s0) (ρ 0).toNat 7) + 1))))) rfl
  exact ⟨n1, by omega, h1⟩
theorem bk_X12_nextToken_310 {ax : zAx} {CE : g_E} {n : Nat} {ρ : Nat → Int} {L : List Nat} {g : Nat → Nat → Int} {r : Option g_V} {h : g_H} (hr : g_run RX12 ax CE cX12_nextToken n (310, ρ, [], L, g) r h) : r = none ∧ h = (L, g) := by
  obtain ⟨n1, e, h1⟩ := g_blk_ok noX12 jI_X12_nextToken tab_X12 0 n hr (c2 := (310, ρ, [], L, g)) rfl
  exact g_retv_un noX12 (jI_X12_nextToken 310 _ rfl) h1
theorem pt_X12_nextToken_0 {ax : zAx} {CE : g_E} (hCE : ∀ y cc as h r h', CE y cc as h r h' → g_ex ax y cc as h r h') {n : Nat} {ρ : Nat → Int} {L : List Nat} {g : Nat → Nat → Int} {r : Option g_V} {h : g_H} (h0 : g_run RX12 ax CE cX12_nextToken n (0, ρ, [], L, g) r h) : ((F_X12_byteAt (ρ 0) (g (ρ 0).toNat 7) g = 32 ∧ (∃ n', n' < n ∧ g_run RX12 ax CE cX12_nextToken n' (0, ρ, [], L, (g_up g (ρ 0).toNat 7 (g_i ((g (ρ 0).toNat 7) + 1)))) r h)) ∨ (¬ (F_X12_byteAt (ρ 0) (g (ρ 0).toNat 7) g = 32) ∧ ((F_X12_byteAt (ρ 0) (g (ρ 0).toNat 7) g = 10 ∧ (∃ n', n' < n ∧ g_run RX12 ax CE cX12_nextToken n' (0, ρ, [], L, (g_up g (ρ 0).toNat 7 (g_i ((g (ρ 0).toNat 7) + 1)))) r h)) ∨ (¬ (F_X12_byteAt (ρ 0) (g (ρ 0).toNat 7) g = 10) ∧ ((0 ≤ F_X12_byteAt (ρ 0) (g (ρ 0).toNat 7) (g_up g (ρ 0).toNat 8 (g (ρ 0).toNat 7)) ∧ ((F_X12_isFigure (F_X12_byteAt (ρ 0) (g (ρ 0).toNat 7) (g_up g (ρ 0).toNat 8 (g (ρ 0).toNat 7))) (g_up g (ρ 0).toNat 8 (g (ρ 0).toNat 7)) = 0 ∧ ((F_X12_isLetterByte (F_X12_byteAt (ρ 0) (g (ρ 0).toNat 7) (g_up g (ρ 0).toNat 8 (g (ρ 0).toNat 7))) (g_up g (ρ 0).toNat 8 (g (ρ 0).toNat 7)) = 0 ∧ ((F_X12_isSign (F_X12_byteAt (ρ 0) (g (ρ 0).toNat 7) (g_up g (ρ 0).toNat 8 (g (ρ 0).toNat 7))) (g_up g (ρ 0).toNat 8 (g (ρ 0).toNat 7)) = 0 ∧ (∃ n', n' < n ∧ g_run RX12 ax CE cX12_nextToken n' (247, (va_up ρ 1 (F_X12_byteAt (ρ 0) (g (ρ 0).toNat 7) (g_up g (ρ 0).toNat 8 (g (ρ 0).toNat 7)))), [(1, 3), (1, (ρ 0))], L, (g_up g (ρ 0).toNat 8 (g (ρ 0).toNat 7))) r h)) ∨ (¬ (F_X12_isSign (F_X12_byteAt (ρ 0) (g (ρ 0).toNat 7) (g_up g (ρ 0).toNat 8 (g (ρ 0).toNat 7))) (g_up g (ρ 0).toNat 8 (g (ρ 0).toNat 7)) = 0) ∧ (∃ n', n' < n ∧ g_run RX12 ax CE cX12_nextToken n' (247, (va_up ρ 1 (F_X12_byteAt (ρ 0) (g (ρ 0).toNat 7) (g_up g (ρ 0).toNat 8 (g (ρ 0).toNat 7)))), [(1, F_X12_byteAt (ρ 0) (g (ρ 0).toNat 7) (g_up g (ρ 0).toNat 8 (g (ρ 0).toNat 7))), (1, (ρ 0))], L, (g_up g (ρ 0).toNat 8 (g (ρ 0).toNat 7))) r h)))) ∨ (¬ (F_X12_isLetterByte (F_X12_byteAt (ρ 0) (g (ρ 0).toNat 7) (g_up g (ρ 0).toNat 8 (g (ρ 0).toNat 7))) (g_up g (ρ 0).toNat 8 (g (ρ 0).toNat 7)) = 0) ∧ (∃ n', n' < n ∧ g_run RX12 ax CE cX12_nextToken n' (168, (va_up ρ 1 (F_X12_byteAt (ρ 0) (g (ρ 0).toNat 7) (g_up g (ρ 0).toNat 8 (g (ρ 0).toNat 7)))), [], L, (g_up (g_up (g_up g (ρ 0).toNat 8 (g (ρ 0).toNat 7)) (ρ 0).toNat 9 2) (ρ 0).toNat 11 0)) r h)))) ∨ (¬ (F_X12_isFigure (F_X12_byteAt (ρ 0) (g (ρ 0).toNat 7) (g_up g (ρ 0).toNat 8 (g (ρ 0).toNat 7))) (g_up g (ρ 0).toNat 8 (g (ρ 0).toNat 7)) = 0) ∧ (∃ n', n' < n ∧ g_run RX12 ax CE cX12_nextToken n' (85, (va_up ρ 1 (F_X12_byteAt (ρ 0) (g (ρ 0).toNat 7) (g_up g (ρ 0).toNat 8 (g (ρ 0).toNat 7)))), [], L, (g_up (g_up (g_up g (ρ 0).toNat 8 (g (ρ 0).toNat 7)) (ρ 0).toNat 9 1) (ρ 0).toNat 10 0)) r h)))) ∨ (¬ (0 ≤ F_X12_byteAt (ρ 0) (g (ρ 0).toNat 7) (g_up g (ρ 0).toNat 8 (g (ρ 0).toNat 7))) ∧ (r = none ∧ h = (L, (g_up (g_up g (ρ 0).toNat 8 (g (ρ 0).toNat 7)) (ρ 0).toNat 9 0))))))))) := by
  obtain ⟨n1, r1, k1, l1, x1, h1⟩ := bk_X12_nextToken_0 h0
  obtain ⟨e1, d1⟩ := f_X12_byteAt (hCE _ _ _ _ _ _ x1)
  subst e1
  subst d1
  obtain ⟨n2, l2, h2⟩ := bk_X12_nextToken_8 h1
  rcases h2 with ⟨c2, h2⟩ | ⟨c2, h2⟩
  · refine Or.inl ⟨c2, ?_⟩
    obtain ⟨n3, l3, h3⟩ := bk_X12_nextToken_26 h2
    exact ⟨_, by omega, h3⟩
  · refine Or.inr ⟨c2, ?_⟩
    obtain ⟨n5, r5, k5, l5, x5, h5⟩ := bk_X12_nextToken_13 h2
    obtain ⟨e5, d5⟩ := f_X12_byteAt (hCE _ _ _ _ _ _ x5)
    subst e5
    subst d5
    obtain ⟨n6, l6, h6⟩ := bk_X12_nextToken_21 h5
    rcases h6 with ⟨c6, h6⟩ | ⟨c6, h6⟩
    · refine Or.inl ⟨c6, ?_⟩
      obtain ⟨n7, l7, h7⟩ := bk_X12_nextToken_26 h6
      exact ⟨_, by omega, h7⟩
    · refine Or.inr ⟨c6, ?_⟩
      obtain ⟨n9, r9, k9, l9, x9, h9⟩ := bk_X12_nextToken_39 h6
      obtain ⟨e9, d9⟩ := f_X12_byteAt (hCE _ _ _ _ _ _ x9)
      subst e9
      subst d9
      obtain ⟨n10, l10, h10⟩ := bk_X12_nextToken_55 h9
      rcases h10 with ⟨c10, h10⟩ | ⟨c10, h10⟩
      · refine Or.inl ⟨c10, ?_⟩
        obtain ⟨n11, r11, k11, l11, x11, h11⟩ := bk_X12_nextToken_68 h10
        obtain ⟨e11, d11⟩ := f_X12_isFigure (hCE _ _ _ _ _ _ x11)
        subst e11
        subst d11
        obtain ⟨n12, l12, h12⟩ := bk_X12_nextToken_72 h11
        rcases h12 with ⟨c12, h12⟩ | ⟨c12, h12⟩
        · refine Or.inl ⟨c12, ?_⟩
          obtain ⟨n13, r13, k13, l13, x13, h13⟩ := bk_X12_nextToken_151 h12
          obtain ⟨e13, d13⟩ := f_X12_isLetterByte (hCE _ _ _ _ _ _ x13)
          subst e13
          subst d13
          obtain ⟨n14, l14, h14⟩ := bk_X12_nextToken_155 h13
          rcases h14 with ⟨c14, h14⟩ | ⟨c14, h14⟩
          · refine Or.inl ⟨c14, ?_⟩
            obtain ⟨n15, r15, k15, l15, x15, h15⟩ := bk_X12_nextToken_234 h14
            obtain ⟨e15, d15⟩ := f_X12_isSign (hCE _ _ _ _ _ _ x15)
            subst e15
            subst d15
            obtain ⟨n16, l16, h16⟩ := bk_X12_nextToken_239 h15
            rcases h16 with ⟨c16, h16⟩ | ⟨c16, h16⟩
            · refine Or.inl ⟨c16, ?_⟩
              obtain ⟨n17, l17, h17⟩ := bk_X12_nextToken_246 h16
              exact ⟨_, by omega, h17⟩
            · refine Or.inr ⟨c16, ?_⟩
              obtain ⟨n19, l19, h19⟩ := bk_X12_nextToken_242 h16
              exact ⟨_, by omega, h19⟩
          · refine Or.inr ⟨c14, ?_⟩
            obtain ⟨n21, l21, h21⟩ := bk_X12_nextToken_158 h14
            exact ⟨_, by omega, h21⟩
        · refine Or.inr ⟨c12, ?_⟩
          obtain ⟨n23, l23, h23⟩ := bk_X12_nextToken_75 h12
          exact ⟨_, by omega, h23⟩
      · refine Or.inr ⟨c10, ?_⟩
        obtain ⟨n25, l25, h25⟩ := bk_X12_nextToken_60 h10
        obtain ⟨e26, d26⟩ := bk_X12_nextToken_310 h25
        exact ⟨e26, d26⟩
theorem pt_X12_nextToken_85 {ax : zAx} {CE : g_E} (hCE : ∀ y cc as h r h', CE y cc as h r h' → g_ex ax y cc as h r h') {n : Nat} {ρ : Nat → Int} {L : List Nat} {g : Nat → Nat → Int} {r : Option g_V} {h : g_H} (h0 : g_run RX12 ax CE cX12_nextToken n (85, ρ, [], L, g) r h) : ((F_X12_isFigure (F_X12_byteAt (ρ 0) (g (ρ 0).toNat 7) g) g = 0 ∧ (r = none ∧ h = (L, g))) ∨ (¬ (F_X12_isFigure (F_X12_byteAt (ρ 0) (g (ρ 0).toNat 7) g) g = 0) ∧ ((g (ρ 0).toNat 10 ≤ 99999 ∧ (∃ n', n' < n ∧ g_run RX12 ax CE cX12_nextToken n' (85, ρ, [], L, (g_up (g_up g (ρ 0).toNat 10 (g_i ((g_i ((g_i (10 * (g (ρ 0).toNat 10))) + (F_X12_byteAt (ρ 0) (g (ρ 0).toNat 7) g))) - 48))) (ρ 0).toNat 7 (g_i ((g (ρ 0).toNat 7) + 1)))) r h)) ∨ (¬ (g (ρ 0).toNat 10 ≤ 99999) ∧ (∃ n', n' < n ∧ g_run RX12 ax CE cX12_nextToken n' (85, ρ, [], L, (g_up (g_up g (ρ 0).toNat 10 (g (ρ 0).toNat 10)) (ρ 0).toNat 7 (g_i ((g (ρ 0).toNat 7) + 1)))) r h))))) := by
  obtain ⟨n1, r1, k1, l1, x1, h1⟩ := bk_X12_nextToken_85 h0
  obtain ⟨e1, d1⟩ := f_X12_byteAt (hCE _ _ _ _ _ _ x1)
  subst e1
  subst d1
  obtain ⟨n2, r2, k2, l2, x2, h2⟩ := bk_X12_nextToken_93 h1
  obtain ⟨e2, d2⟩ := f_X12_isFigure (hCE _ _ _ _ _ _ x2)
  subst e2
  subst d2
  obtain ⟨n3, l3, h3⟩ := bk_X12_nextToken_96 h2
  rcases h3 with ⟨c3, h3⟩ | ⟨c3, h3⟩
  · refine Or.inl ⟨c3, ?_⟩
    obtain ⟨e4, d4⟩ := bk_X12_nextToken_310 h3
    exact ⟨e4, d4⟩
  · refine Or.inr ⟨c3, ?_⟩
    obtain ⟨n5, l5, h5⟩ := bk_X12_nextToken_99 h3
    rcases h5 with ⟨c5, h5⟩ | ⟨c5, h5⟩
    · refine Or.inl ⟨c5, ?_⟩
      obtain ⟨n6, r6, k6, l6, x6, h6⟩ := bk_X12_nextToken_116 h5
      obtain ⟨e6, d6⟩ := f_X12_byteAt (hCE _ _ _ _ _ _ x6)
      subst e6
      subst d6
      obtain ⟨n7, l7, h7⟩ := bk_X12_nextToken_131 h6
      obtain ⟨n8, l8, h8⟩ := bk_X12_nextToken_135 h7
      exact ⟨_, by omega, h8⟩
    · refine Or.inr ⟨c5, ?_⟩
      obtain ⟨n10, l10, h10⟩ := bk_X12_nextToken_109 h5
      obtain ⟨n11, l11, h11⟩ := bk_X12_nextToken_135 h10
      exact ⟨_, by omega, h11⟩
theorem pt_X12_nextToken_168 {ax : zAx} {CE : g_E} (hCE : ∀ y cc as h r h', CE y cc as h r h' → g_ex ax y cc as h r h') {n : Nat} {ρ : Nat → Int} {L : List Nat} {g : Nat → Nat → Int} {r : Option g_V} {h : g_H} (h0 : g_run RX12 ax CE cX12_nextToken n (168, ρ, [], L, g) r h) : ((F_X12_isLetterByte (F_X12_byteAt (ρ 0) (g (ρ 0).toNat 7) g) g = 0 ∧ (r = none ∧ h = (L, g))) ∨ (¬ (F_X12_isLetterByte (F_X12_byteAt (ρ 0) (g (ρ 0).toNat 7) g) g = 0) ∧ (((if 0 < (Int64.ofInt (g (ρ 0).toNat 11) >>> ((Int32.ofInt 48).toInt64 &&& 63)).toInt then 1 else if (Int64.ofInt (g (ρ 0).toNat 11) >>> ((Int32.ofInt 48).toInt64 &&& 63)).toInt = 0 then 0 else -1) = 0 ∧ (∃ n', n' < n ∧ g_run RX12 ax CE cX12_nextToken n' (168, ρ, [], L, (g_up (g_up g (ρ 0).toNat 11 ((Int64.ofInt ((Int64.ofInt (g (ρ 0).toNat 11) <<< ((Int32.ofInt 8).toInt64 &&& 63)).toInt) ||| Int64.ofInt (F_X12_byteAt (ρ 0) (g (ρ 0).toNat 7) g)).toInt)) (ρ 0).toNat 7 (g_i ((g (ρ 0).toNat 7) + 1)))) r h)) ∨ (¬ ((if 0 < (Int64.ofInt (g (ρ 0).toNat 11) >>> ((Int32.ofInt 48).toInt64 &&& 63)).toInt then 1 else if (Int64.ofInt (g (ρ 0).toNat 11) >>> ((Int32.ofInt 48).toInt64 &&& 63)).toInt = 0 then 0 else -1) = 0) ∧ (∃ n', n' < n ∧ g_run RX12 ax CE cX12_nextToken n' (168, ρ, [], L, (g_up (g_up g (ρ 0).toNat 11 1152921504606846976) (ρ 0).toNat 7 (g_i ((g (ρ 0).toNat 7) + 1)))) r h))))) := by
  obtain ⟨n1, r1, k1, l1, x1, h1⟩ := bk_X12_nextToken_168 h0
  obtain ⟨e1, d1⟩ := f_X12_byteAt (hCE _ _ _ _ _ _ x1)
  subst e1
  subst d1
  obtain ⟨n2, r2, k2, l2, x2, h2⟩ := bk_X12_nextToken_176 h1
  obtain ⟨e2, d2⟩ := f_X12_isLetterByte (hCE _ _ _ _ _ _ x2)
  subst e2
  subst d2
  obtain ⟨n3, l3, h3⟩ := bk_X12_nextToken_179 h2
  rcases h3 with ⟨c3, h3⟩ | ⟨c3, h3⟩
  · refine Or.inl ⟨c3, ?_⟩
    obtain ⟨e4, d4⟩ := bk_X12_nextToken_310 h3
    exact ⟨e4, d4⟩
  · refine Or.inr ⟨c3, ?_⟩
    obtain ⟨n5, l5, h5⟩ := bk_X12_nextToken_182 h3
    rcases h5 with ⟨c5, h5⟩ | ⟨c5, h5⟩
    · refine Or.inl ⟨c5, ?_⟩
      obtain ⟨n6, r6, k6, l6, x6, h6⟩ := bk_X12_nextToken_201 h5
      obtain ⟨e6, d6⟩ := f_X12_byteAt (hCE _ _ _ _ _ _ x6)
      subst e6
      subst d6
      obtain ⟨n7, l7, h7⟩ := bk_X12_nextToken_216 h6
      obtain ⟨n8, l8, h8⟩ := bk_X12_nextToken_218 h7
      exact ⟨_, by omega, h8⟩
    · refine Or.inr ⟨c5, ?_⟩
      obtain ⟨n10, l10, h10⟩ := bk_X12_nextToken_195 h5
      obtain ⟨n11, l11, h11⟩ := bk_X12_nextToken_218 h10
      exact ⟨_, by omega, h11⟩
theorem pt_X12_nextToken_247 {ax : zAx} {CE : g_E} (hCE : ∀ y cc as h r h', CE y cc as h r h' → g_ex ax y cc as h r h') {n : Nat} {ρ : Nat → Int} {s0 : Int} {s1 : Int} {L : List Nat} {g : Nat → Nat → Int} {r : Option g_V} {h : g_H} (h0 : g_run RX12 ax CE cX12_nextToken n (247, ρ, [(1, s0), (1, s1)], L, g) r h) : (((ρ 1) = 60 ∧ ((F_X12_byteAt (ρ 0) ((g_up (g_up g s1.toNat 9 s0) (ρ 0).toNat 7 (g_i ((g (ρ 0).toNat 7) + 1))) (ρ 0).toNat 7) (g_up (g_up g s1.toNat 9 s0) (ρ 0).toNat 7 (g_i ((g (ρ 0).toNat 7) + 1))) = 61 ∧ (r = none ∧ h = (L, (g_up (g_up (g_up (g_up g s1.toNat 9 s0) (ρ 0).toNat 7 (g_i ((g (ρ 0).toNat 7) + 1))) (ρ 0).toNat 9 4) (ρ 0).toNat 7 (g_i (((g_up (g_up g s1.toNat 9 s0) (ρ 0).toNat 7 (g_i ((g (ρ 0).toNat 7) + 1))) (ρ 0).toNat 7) + 1)))))) ∨ (¬ (F_X12_byteAt (ρ 0) ((g_up (g_up g s1.toNat 9 s0) (ρ 0).toNat 7 (g_i ((g (ρ 0).toNat 7) + 1))) (ρ 0).toNat 7) (g_up (g_up g s1.toNat 9 s0) (ρ 0).toNat 7 (g_i ((g (ρ 0).toNat 7) + 1))) = 61) ∧ (r = none ∧ h = (L, (g_up (g_up g s1.toNat 9 s0) (ρ 0).toNat 7 (g_i ((g (ρ 0).toNat 7) + 1)))))))) ∨ (¬ ((ρ 1) = 60) ∧ (((ρ 1) = 62 ∧ ((F_X12_byteAt (ρ 0) ((g_up (g_up g s1.toNat 9 s0) (ρ 0).toNat 7 (g_i ((g (ρ 0).toNat 7) + 1))) (ρ 0).toNat 7) (g_up (g_up g s1.toNat 9 s0) (ρ 0).toNat 7 (g_i ((g (ρ 0).toNat 7) + 1))) = 61 ∧ (r = none ∧ h = (L, (g_up (g_up (g_up (g_up g s1.toNat 9 s0) (ρ 0).toNat 7 (g_i ((g (ρ 0).toNat 7) + 1))) (ρ 0).toNat 9 5) (ρ 0).toNat 7 (g_i (((g_up (g_up g s1.toNat 9 s0) (ρ 0).toNat 7 (g_i ((g (ρ 0).toNat 7) + 1))) (ρ 0).toNat 7) + 1)))))) ∨ (¬ (F_X12_byteAt (ρ 0) ((g_up (g_up g s1.toNat 9 s0) (ρ 0).toNat 7 (g_i ((g (ρ 0).toNat 7) + 1))) (ρ 0).toNat 7) (g_up (g_up g s1.toNat 9 s0) (ρ 0).toNat 7 (g_i ((g (ρ 0).toNat 7) + 1))) = 61) ∧ (r = none ∧ h = (L, (g_up (g_up g s1.toNat 9 s0) (ρ 0).toNat 7 (g_i ((g (ρ 0).toNat 7) + 1)))))))) ∨ (¬ ((ρ 1) = 62) ∧ (r = none ∧ h = (L, (g_up (g_up g s1.toNat 9 s0) (ρ 0).toNat 7 (g_i ((g (ρ 0).toNat 7) + 1))))))))) := by
  obtain ⟨n1, l1, h1⟩ := bk_X12_nextToken_247 h0
  rcases h1 with ⟨c1, h1⟩ | ⟨c1, h1⟩
  · refine Or.inl ⟨c1, ?_⟩
    obtain ⟨n2, r2, k2, l2, x2, h2⟩ := bk_X12_nextToken_272 h1
    obtain ⟨e2, d2⟩ := f_X12_byteAt (hCE _ _ _ _ _ _ x2)
    subst e2
    subst d2
    obtain ⟨n3, l3, h3⟩ := bk_X12_nextToken_280 h2
    rcases h3 with ⟨c3, h3⟩ | ⟨c3, h3⟩
    · refine Or.inl ⟨c3, ?_⟩
      obtain ⟨n4, l4, h4⟩ := bk_X12_nextToken_285 h3
      rcases h4 with ⟨c4, h4⟩ | ⟨c4, h4⟩
      · obtain ⟨n5, l5, h5⟩ := bk_X12_nextToken_292 h4
        obtain ⟨n6, l6, h6⟩ := bk_X12_nextToken_297 h5
        obtain ⟨e7, d7⟩ := bk_X12_nextToken_310 h6
        exact ⟨e7, d7⟩
      · exact absurd c1 c4
    · refine Or.inr ⟨c3, ?_⟩
      obtain ⟨e8, d8⟩ := bk_X12_nextToken_310 h3
      exact ⟨e8, d8⟩
  · refine Or.inr ⟨c1, ?_⟩
    obtain ⟨n9, l9, h9⟩ := bk_X12_nextToken_266 h1
    rcases h9 with ⟨c9, h9⟩ | ⟨c9, h9⟩
    · refine Or.inl ⟨c9, ?_⟩
      obtain ⟨n10, r10, k10, l10, x10, h10⟩ := bk_X12_nextToken_272 h9
      obtain ⟨e10, d10⟩ := f_X12_byteAt (hCE _ _ _ _ _ _ x10)
      subst e10
      subst d10
      obtain ⟨n11, l11, h11⟩ := bk_X12_nextToken_280 h10
      rcases h11 with ⟨c11, h11⟩ | ⟨c11, h11⟩
      · refine Or.inl ⟨c11, ?_⟩
        obtain ⟨n12, l12, h12⟩ := bk_X12_nextToken_285 h11
        rcases h12 with ⟨c12, h12⟩ | ⟨c12, h12⟩
        · exact absurd c12 c1
        · obtain ⟨n13, l13, h13⟩ := bk_X12_nextToken_296 h12
          obtain ⟨n14, l14, h14⟩ := bk_X12_nextToken_297 h13
          obtain ⟨e15, d15⟩ := bk_X12_nextToken_310 h14
          exact ⟨e15, d15⟩
      · refine Or.inr ⟨c11, ?_⟩
        obtain ⟨e16, d16⟩ := bk_X12_nextToken_310 h11
        exact ⟨e16, d16⟩
    · refine Or.inr ⟨c9, ?_⟩
      obtain ⟨e17, d17⟩ := bk_X12_nextToken_310 h9
      exact ⟨e17, d17⟩

theorem jI_X12_settle : ∀ (pc : Nat) (q : Instr × Nat), lkp iX12_settle pc = some q → decode cX12_settle pc = .ok q := fun pc q hq => jX12_settle (pc, q) (lkp_in iX12_settle hq)
theorem bk_X12_settle_0 {ax : zAx} {CE : g_E} {n : Nat} {ρ : Nat → Int} {L : List Nat} {g : Nat → Nat → Int} {r : Option g_V} {h : g_H} (hr : g_run RX12 ax CE cX12_settle n (0, ρ, [], L, g) r h) : ∃ n', n' < n ∧ ((g (ρ 0).toNat 17 ≤ 0 ∧ g_run RX12 ax CE cX12_settle n' (89, ρ, [], L, g) r h) ∨ (¬ (g (ρ 0).toNat 17 ≤ 0) ∧ g_run RX12 ax CE cX12_settle n' (7, ρ, [], L, g) r h)) := by
  obtain ⟨n1, e, h1⟩ := g_blk_ok noX12 jI_X12_settle tab_X12 3 n hr (c2 := (if g (ρ 0).toNat 17 ≤ 0 then 89 else 7, ρ, [], L, g)) rfl
  refine ⟨n1, by omega, ?_⟩
  by_cases hc : g (ρ 0).toNat 17 ≤ 0
  · exact Or.inl ⟨hc, by rw [if_pos hc] at h1; exact h1⟩
  · exact Or.inr ⟨hc, by rw [if_neg hc] at h1; exact h1⟩
theorem bk_X12_settle_7 {ax : zAx} {CE : g_E} {n : Nat} {ρ : Nat → Int} {L : List Nat} {g : Nat → Nat → Int} {r : Option g_V} {h : g_H} (hr : g_run RX12 ax CE cX12_settle n (7, ρ, [], L, g) r h) : ∃ n' r1 h1', n' < n ∧ CE yX12_rank cX12_rank [(0, g (g (ρ 0).toNat 15).toNat (g_i ((g (ρ 0).toNat 17) - 1)).toNat)] (L, g) r1 h1' ∧ g_run RX12 ax CE cX12_settle n' (21, ρ, g_push r1 [], h1') r h := by
  obtain ⟨n1, e, h1⟩ := g_blk_ok noX12 jI_X12_settle tab_X12 7 n hr (c2 := (18, ρ, [(1, g (g (ρ 0).toNat 15).toNat (g_i ((g (ρ 0).toNat 17) - 1)).toNat)], L, g)) rfl
  obtain ⟨n2, c', e2, h2, h3⟩ := g_step_un noX12 (i := .invokestatic 203) (len := 3) (jI_X12_settle 18 _ rfl) (gnrS _) h1
  obtain ⟨r1, h1', hx, hc⟩ := g_static_un lk_X12 nat_all lX12_ok (idx := 203) (mode := 1) (mi := 166) (ci := 0) (na := 1) rfl (by decide) (by decide) mq_X12_rank [(1, g (g (ρ 0).toNat 15).toNat (g_i ((g (ρ 0).toNat 17) - 1)).toNat)] [] rfl rfl h2
  subst hc
  exact ⟨n2, r1, h1', by omega, hx, h3⟩
theorem bk_X12_settle_21 {ax : zAx} {CE : g_E} {n : Nat} {ρ : Nat → Int} {s0 : Int} {L : List Nat} {g : Nat → Nat → Int} {r : Option g_V} {h : g_H} (hr : g_run RX12 ax CE cX12_settle n (21, ρ, [(1, s0)], L, g) r h) : ∃ n', n' < n ∧ ((s0 < ρ 1 ∧ g_run RX12 ax CE cX12_settle n' (89, ρ, [], L, g) r h) ∨ (¬ (s0 < ρ 1) ∧ g_run RX12 ax CE cX12_settle n' (25, ρ, [], L, g) r h)) := by
  obtain ⟨n1, e, h1⟩ := g_blk_ok noX12 jI_X12_settle tab_X12 2 n hr (c2 := (if s0 < ρ 1 then 89 else 25, ρ, [], L, g)) rfl
  refine ⟨n1, by omega, ?_⟩
  by_cases hc : s0 < ρ 1
  · exact Or.inl ⟨hc, by rw [if_pos hc] at h1; exact h1⟩
  · exact Or.inr ⟨hc, by rw [if_neg hc] at h1; exact h1⟩
theorem bk_X12_settle_25 {ax : zAx} {CE : g_E} {n : Nat} {ρ : Nat → Int} {L : List Nat} {g : Nat → Nat → Int} {r : Option g_V} {h : g_H} (hr : g_run RX12 ax CE cX12_settle n (25, ρ, [], L, g) r h) : ∃ n' r1 h1', n' < n ∧ CE yX12_emit cX12_emit [(0, ρ 0), (1, (g_up g (ρ 0).toNat 17 (g_i ((g (ρ 0).toNat 17) - 1))) ((g_up g (ρ 0).toNat 17 (g_i ((g (ρ 0).toNat 17) - 1))) (ρ 0).toNat 15).toNat ((g_up g (ρ 0).toNat 17 (g_i ((g (ρ 0).toNat 17) - 1))) (ρ 0).toNat 17).toNat), (2, 0)] (L, (g_up g (ρ 0).toNat 17 (g_i ((g (ρ 0).toNat 17) - 1)))) r1 h1' ∧ g_run RX12 ax CE cX12_settle n' (49, ρ, g_push r1 [], h1') r h := by
  obtain ⟨n1, e, h1⟩ := g_blk_ok noX12 jI_X12_settle tab_X12 13 n hr (c2 := (46, ρ, [(1, 0), (1, (g_up g (ρ 0).toNat 17 (g_i ((g (ρ 0).toNat 17) - 1))) ((g_up g (ρ 0).toNat 17 (g_i ((g (ρ 0).toNat 17) - 1))) (ρ 0).toNat 15).toNat ((g_up g (ρ 0).toNat 17 (g_i ((g (ρ 0).toNat 17) - 1))) (ρ 0).toNat 17).toNat), (1, ρ 0)], L, (g_up g (ρ 0).toNat 17 (g_i ((g (ρ 0).toNat 17) - 1))))) rfl
  obtain ⟨n2, c', e2, h2, h3⟩ := g_step_un noX12 (i := .invokevirtual 206) (len := 3) (jI_X12_settle 46 _ rfl) (gnrV _) h1
  obtain ⟨r1, h1', hx, hc⟩ := g_virt_un lk_X12 nat_all lX12_ok (idx := 206) (mi := 96) (ci := 12) (na := 3) rfl (by decide) mq_X12_emit [(1, (g_up g (ρ 0).toNat 17 (g_i ((g (ρ 0).toNat 17) - 1))) ((g_up g (ρ 0).toNat 17 (g_i ((g (ρ 0).toNat 17) - 1))) (ρ 0).toNat 15).toNat ((g_up g (ρ 0).toNat 17 (g_i ((g (ρ 0).toNat 17) - 1))) (ρ 0).toNat 17).toNat), (1, 0)] [] (ρ 0) rfl rfl h2
  subst hc
  exact ⟨n2, r1, h1', by omega, hx, h3⟩
theorem bk_X12_settle_49 {ax : zAx} {CE : g_E} {n : Nat} {ρ : Nat → Int} {L : List Nat} {g : Nat → Nat → Int} {r : Option g_V} {h : g_H} (hr : g_run RX12 ax CE cX12_settle n (49, ρ, [], L, g) r h) : ∃ n', n' < n ∧ ((g (g (ρ 0).toNat 15).toNat (g (ρ 0).toNat 17).toNat = 2 ∧ g_run RX12 ax CE cX12_settle n' (76, ρ, [], L, g) r h) ∨ (¬ (g (g (ρ 0).toNat 15).toNat (g (ρ 0).toNat 17).toNat = 2) ∧ g_run RX12 ax CE cX12_settle n' (62, ρ, [], L, g) r h)) := by
  obtain ⟨n1, e, h1⟩ := g_blk_ok noX12 jI_X12_settle tab_X12 7 n hr (c2 := (if g (g (ρ 0).toNat 15).toNat (g (ρ 0).toNat 17).toNat = 2 then 76 else 62, ρ, [], L, g)) rfl
  refine ⟨n1, by omega, ?_⟩
  by_cases hc : g (g (ρ 0).toNat 15).toNat (g (ρ 0).toNat 17).toNat = 2
  · exact Or.inl ⟨hc, by rw [if_pos hc] at h1; exact h1⟩
  · exact Or.inr ⟨hc, by rw [if_neg hc] at h1; exact h1⟩
theorem bk_X12_settle_62 {ax : zAx} {CE : g_E} {n : Nat} {ρ : Nat → Int} {L : List Nat} {g : Nat → Nat → Int} {r : Option g_V} {h : g_H} (hr : g_run RX12 ax CE cX12_settle n (62, ρ, [], L, g) r h) : ∃ n', n' < n ∧ ((g (g (ρ 0).toNat 15).toNat (g (ρ 0).toNat 17).toNat = 20 ∧ g_run RX12 ax CE cX12_settle n' (76, ρ, [], L, g) r h) ∨ (¬ (g (g (ρ 0).toNat 15).toNat (g (ρ 0).toNat 17).toNat = 20) ∧ g_run RX12 ax CE cX12_settle n' (0, ρ, [], L, g) r h)) := by
  obtain ⟨n1, e, h1⟩ := g_blk_ok noX12 jI_X12_settle tab_X12 7 n hr (c2 := (if g (g (ρ 0).toNat 15).toNat (g (ρ 0).toNat 17).toNat = 20 then 76 else 0, ρ, [], L, g)) rfl
  refine ⟨n1, by omega, ?_⟩
  by_cases hc : g (g (ρ 0).toNat 15).toNat (g (ρ 0).toNat 17).toNat = 20
  · exact Or.inl ⟨hc, by rw [if_pos hc] at h1; exact h1⟩
  · exact Or.inr ⟨hc, by rw [if_neg hc] at h1; exact h1⟩
theorem bk_X12_settle_76 {ax : zAx} {CE : g_E} {n : Nat} {ρ : Nat → Int} {L : List Nat} {g : Nat → Nat → Int} {r : Option g_V} {h : g_H} (hr : g_run RX12 ax CE cX12_settle n (76, ρ, [], L, g) r h) : ∃ n', n' < n ∧ g_run RX12 ax CE cX12_settle n' (0, ρ, [], L, (g_up g (ρ 0).toNat 18 (g_i ((g (ρ 0).toNat 18) - 1)))) r h := by
  obtain ⟨n1, e, h1⟩ := g_blk_ok noX12 jI_X12_settle tab_X12 7 n hr (c2 := (0, ρ, [], L, (g_up g (ρ 0).toNat 18 (g_i ((g (ρ 0).toNat 18) - 1))))) rfl
  exact ⟨n1, by omega, h1⟩
theorem bk_X12_settle_89 {ax : zAx} {CE : g_E} {n : Nat} {ρ : Nat → Int} {L : List Nat} {g : Nat → Nat → Int} {r : Option g_V} {h : g_H} (hr : g_run RX12 ax CE cX12_settle n (89, ρ, [], L, g) r h) : r = none ∧ h = (L, g) := by
  obtain ⟨n1, e, h1⟩ := g_blk_ok noX12 jI_X12_settle tab_X12 0 n hr (c2 := (89, ρ, [], L, g)) rfl
  exact g_retv_un noX12 (jI_X12_settle 89 _ rfl) h1
theorem pt_X12_settle_0 {ax : zAx} {CE : g_E} (hCE : ∀ y cc as h r h', CE y cc as h r h' → g_ex ax y cc as h r h') {n : Nat} {ρ : Nat → Int} {L : List Nat} {g : Nat → Nat → Int} {r : Option g_V} {h : g_H} (h0 : g_run RX12 ax CE cX12_settle n (0, ρ, [], L, g) r h) : ((g (ρ 0).toNat 17 ≤ 0 ∧ (r = none ∧ h = (L, g))) ∨ (¬ (g (ρ 0).toNat 17 ≤ 0) ∧ ((F_X12_rank (g (g (ρ 0).toNat 15).toNat (g_i ((g (ρ 0).toNat 17) - 1)).toNat) g < (ρ 1) ∧ (r = none ∧ h = (L, g))) ∨ (¬ (F_X12_rank (g (g (ρ 0).toNat 15).toNat (g_i ((g (ρ 0).toNat 17) - 1)).toNat) g < (ρ 1)) ∧ (((F_X12_emit (ρ 0) ((g_up g (ρ 0).toNat 17 (g_i ((g (ρ 0).toNat 17) - 1))) (g (ρ 0).toNat 15).toNat ((g_up g (ρ 0).toNat 17 (g_i ((g (ρ 0).toNat 17) - 1))) (ρ 0).toNat 17).toNat) 0 (g_up g (ρ 0).toNat 17 (g_i ((g (ρ 0).toNat 17) - 1)))) ((F_X12_emit (ρ 0) ((g_up g (ρ 0).toNat 17 (g_i ((g (ρ 0).toNat 17) - 1))) (g (ρ 0).toNat 15).toNat ((g_up g (ρ 0).toNat 17 (g_i ((g (ρ 0).toNat 17) - 1))) (ρ 0).toNat 17).toNat) 0 (g_up g (ρ 0).toNat 17 (g_i ((g (ρ 0).toNat 17) - 1)))) (ρ 0).toNat 15).toNat ((F_X12_emit (ρ 0) ((g_up g (ρ 0).toNat 17 (g_i ((g (ρ 0).toNat 17) - 1))) (g (ρ 0).toNat 15).toNat ((g_up g (ρ 0).toNat 17 (g_i ((g (ρ 0).toNat 17) - 1))) (ρ 0).toNat 17).toNat) 0 (g_up g (ρ 0).toNat 17 (g_i ((g (ρ 0).toNat 17) - 1)))) (ρ 0).toNat 17).toNat = 2 ∧ (∃ n', n' < n ∧ g_run RX12 ax CE cX12_settle n' (0, ρ, [], L, (g_up (F_X12_emit (ρ 0) ((g_up g (ρ 0).toNat 17 (g_i ((g (ρ 0).toNat 17) - 1))) (g (ρ 0).toNat 15).toNat ((g_up g (ρ 0).toNat 17 (g_i ((g (ρ 0).toNat 17) - 1))) (ρ 0).toNat 17).toNat) 0 (g_up g (ρ 0).toNat 17 (g_i ((g (ρ 0).toNat 17) - 1)))) (ρ 0).toNat 18 (g_i (((F_X12_emit (ρ 0) ((g_up g (ρ 0).toNat 17 (g_i ((g (ρ 0).toNat 17) - 1))) (g (ρ 0).toNat 15).toNat ((g_up g (ρ 0).toNat 17 (g_i ((g (ρ 0).toNat 17) - 1))) (ρ 0).toNat 17).toNat) 0 (g_up g (ρ 0).toNat 17 (g_i ((g (ρ 0).toNat 17) - 1)))) (ρ 0).toNat 18) - 1)))) r h)) ∨ (¬ ((F_X12_emit (ρ 0) ((g_up g (ρ 0).toNat 17 (g_i ((g (ρ 0).toNat 17) - 1))) (g (ρ 0).toNat 15).toNat ((g_up g (ρ 0).toNat 17 (g_i ((g (ρ 0).toNat 17) - 1))) (ρ 0).toNat 17).toNat) 0 (g_up g (ρ 0).toNat 17 (g_i ((g (ρ 0).toNat 17) - 1)))) ((F_X12_emit (ρ 0) ((g_up g (ρ 0).toNat 17 (g_i ((g (ρ 0).toNat 17) - 1))) (g (ρ 0).toNat 15).toNat ((g_up g (ρ 0).toNat 17 (g_i ((g (ρ 0).toNat 17) - 1))) (ρ 0).toNat 17).toNat) 0 (g_up g (ρ 0).toNat 17 (g_i ((g (ρ 0).toNat 17) - 1)))) (ρ 0).toNat 15).toNat ((F_X12_emit (ρ 0) ((g_up g (ρ 0).toNat 17 (g_i ((g (ρ 0).toNat 17) - 1))) (g (ρ 0).toNat 15).toNat ((g_up g (ρ 0).toNat 17 (g_i ((g (ρ 0).toNat 17) - 1))) (ρ 0).toNat 17).toNat) 0 (g_up g (ρ 0).toNat 17 (g_i ((g (ρ 0).toNat 17) - 1)))) (ρ 0).toNat 17).toNat = 2) ∧ (((F_X12_emit (ρ 0) ((g_up g (ρ 0).toNat 17 (g_i ((g (ρ 0).toNat 17) - 1))) (g (ρ 0).toNat 15).toNat ((g_up g (ρ 0).toNat 17 (g_i ((g (ρ 0).toNat 17) - 1))) (ρ 0).toNat 17).toNat) 0 (g_up g (ρ 0).toNat 17 (g_i ((g (ρ 0).toNat 17) - 1)))) ((F_X12_emit (ρ 0) ((g_up g (ρ 0).toNat 17 (g_i ((g (ρ 0).toNat 17) - 1))) (g (ρ 0).toNat 15).toNat ((g_up g (ρ 0).toNat 17 (g_i ((g (ρ 0).toNat 17) - 1))) (ρ 0).toNat 17).toNat) 0 (g_up g (ρ 0).toNat 17 (g_i ((g (ρ 0).toNat 17) - 1)))) (ρ 0).toNat 15).toNat ((F_X12_emit (ρ 0) ((g_up g (ρ 0).toNat 17 (g_i ((g (ρ 0).toNat 17) - 1))) (g (ρ 0).toNat 15).toNat ((g_up g (ρ 0).toNat 17 (g_i ((g (ρ 0).toNat 17) - 1))) (ρ 0).toNat 17).toNat) 0 (g_up g (ρ 0).toNat 17 (g_i ((g (ρ 0).toNat 17) - 1)))) (ρ 0).toNat 17).toNat = 20 ∧ (∃ n', n' < n ∧ g_run RX12 ax CE cX12_settle n' (0, ρ, [], L, (g_up (F_X12_emit (ρ 0) ((g_up g (ρ 0).toNat 17 (g_i ((g (ρ 0).toNat 17) - 1))) (g (ρ 0).toNat 15).toNat ((g_up g (ρ 0).toNat 17 (g_i ((g (ρ 0).toNat 17) - 1))) (ρ 0).toNat 17).toNat) 0 (g_up g (ρ 0).toNat 17 (g_i ((g (ρ 0).toNat 17) - 1)))) (ρ 0).toNat 18 (g_i (((F_X12_emit (ρ 0) ((g_up g (ρ 0).toNat 17 (g_i ((g (ρ 0).toNat 17) - 1))) (g (ρ 0).toNat 15).toNat ((g_up g (ρ 0).toNat 17 (g_i ((g (ρ 0).toNat 17) - 1))) (ρ 0).toNat 17).toNat) 0 (g_up g (ρ 0).toNat 17 (g_i ((g (ρ 0).toNat 17) - 1)))) (ρ 0).toNat 18) - 1)))) r h)) ∨ (¬ ((F_X12_emit (ρ 0) ((g_up g (ρ 0).toNat 17 (g_i ((g (ρ 0).toNat 17) - 1))) (g (ρ 0).toNat 15).toNat ((g_up g (ρ 0).toNat 17 (g_i ((g (ρ 0).toNat 17) - 1))) (ρ 0).toNat 17).toNat) 0 (g_up g (ρ 0).toNat 17 (g_i ((g (ρ 0).toNat 17) - 1)))) ((F_X12_emit (ρ 0) ((g_up g (ρ 0).toNat 17 (g_i ((g (ρ 0).toNat 17) - 1))) (g (ρ 0).toNat 15).toNat ((g_up g (ρ 0).toNat 17 (g_i ((g (ρ 0).toNat 17) - 1))) (ρ 0).toNat 17).toNat) 0 (g_up g (ρ 0).toNat 17 (g_i ((g (ρ 0).toNat 17) - 1)))) (ρ 0).toNat 15).toNat ((F_X12_emit (ρ 0) ((g_up g (ρ 0).toNat 17 (g_i ((g (ρ 0).toNat 17) - 1))) (g (ρ 0).toNat 15).toNat ((g_up g (ρ 0).toNat 17 (g_i ((g (ρ 0).toNat 17) - 1))) (ρ 0).toNat 17).toNat) 0 (g_up g (ρ 0).toNat 17 (g_i ((g (ρ 0).toNat 17) - 1)))) (ρ 0).toNat 17).toNat = 20) ∧ (∃ n', n' < n ∧ g_run RX12 ax CE cX12_settle n' (0, ρ, [], L, (F_X12_emit (ρ 0) ((g_up g (ρ 0).toNat 17 (g_i ((g (ρ 0).toNat 17) - 1))) (g (ρ 0).toNat 15).toNat ((g_up g (ρ 0).toNat 17 (g_i ((g (ρ 0).toNat 17) - 1))) (ρ 0).toNat 17).toNat) 0 (g_up g (ρ 0).toNat 17 (g_i ((g (ρ 0).toNat 17) - 1))))) r h))))))))) := by
  obtain ⟨n1, l1, h1⟩ := bk_X12_settle_0 h0
  rcases h1 with ⟨c1, h1⟩ | ⟨c1, h1⟩
  · refine Or.inl ⟨c1, ?_⟩
    obtain ⟨e2, d2⟩ := bk_X12_settle_89 h1
    exact ⟨e2, d2⟩
  · refine Or.inr ⟨c1, ?_⟩
    obtain ⟨n3, r3, k3, l3, x3, h3⟩ := bk_X12_settle_7 h1
    obtain ⟨e3, d3⟩ := f_X12_rank (hCE _ _ _ _ _ _ x3)
    subst e3
    subst d3
    obtain ⟨n4, l4, h4⟩ := bk_X12_settle_21 h3
    rcases h4 with ⟨c4, h4⟩ | ⟨c4, h4⟩
    · refine Or.inl ⟨c4, ?_⟩
      obtain ⟨e5, d5⟩ := bk_X12_settle_89 h4
      exact ⟨e5, d5⟩
    · refine Or.inr ⟨c4, ?_⟩
      obtain ⟨n6, r6, k6, l6, x6, h6⟩ := bk_X12_settle_25 h4
      obtain ⟨e6, d6⟩ := f_X12_emit (hCE _ _ _ _ _ _ x6)
      subst e6
      subst d6
      obtain ⟨n7, l7, h7⟩ := bk_X12_settle_49 h6
      rcases h7 with ⟨c7, h7⟩ | ⟨c7, h7⟩
      · refine Or.inl ⟨c7, ?_⟩
        obtain ⟨n8, l8, h8⟩ := bk_X12_settle_76 h7
        exact ⟨_, by omega, h8⟩
      · refine Or.inr ⟨c7, ?_⟩
        obtain ⟨n10, l10, h10⟩ := bk_X12_settle_62 h7
        rcases h10 with ⟨c10, h10⟩ | ⟨c10, h10⟩
        · refine Or.inl ⟨c10, ?_⟩
          obtain ⟨n11, l11, h11⟩ := bk_X12_settle_76 h10
          exact ⟨_, by omega, h11⟩
        · refine Or.inr ⟨c10, ?_⟩
          exact ⟨_, by omega, h10⟩

theorem jI_X12_openNow : ∀ (pc : Nat) (q : Instr × Nat), lkp iX12_openNow pc = some q → decode cX12_openNow pc = .ok q := fun pc q hq => jX12_openNow (pc, q) (lkp_in iX12_openNow hq)
theorem bk_X12_openNow_0 {ax : zAx} {CE : g_E} {n : Nat} {ρ : Nat → Int} {L : List Nat} {g : Nat → Nat → Int} {r : Option g_V} {h : g_H} (hr : g_run RX12 ax CE cX12_openNow n (0, ρ, [], L, g) r h) : ∃ n', n' < n ∧ g_run RX12 ax CE cX12_openNow n' (7, (va_up ρ 1 (g_i ((g (ρ 0).toNat 17) - 1))), [], L, g) r h := by
  obtain ⟨n1, e, h1⟩ := g_blk_ok noX12 jI_X12_openNow tab_X12 5 n hr (c2 := (7, (va_up ρ 1 (g_i ((g (ρ 0).toNat 17) - 1))), [], L, g)) rfl
  exact ⟨n1, by omega, h1⟩
theorem bk_X12_openNow_7 {ax : zAx} {CE : g_E} {n : Nat} {ρ : Nat → Int} {L : List Nat} {g : Nat → Nat → Int} {r : Option g_V} {h : g_H} (hr : g_run RX12 ax CE cX12_openNow n (7, ρ, [], L, g) r h) : ∃ n', n' < n ∧ ((ρ 1 < 0 ∧ g_run RX12 ax CE cX12_openNow n' (28, ρ, [], L, g) r h) ∨ (¬ (ρ 1 < 0) ∧ g_run RX12 ax CE cX12_openNow n' (11, ρ, [], L, g) r h)) := by
  obtain ⟨n1, e, h1⟩ := g_blk_ok noX12 jI_X12_openNow tab_X12 2 n hr (c2 := (if ρ 1 < 0 then 28 else 11, ρ, [], L, g)) rfl
  refine ⟨n1, by omega, ?_⟩
  by_cases hc : ρ 1 < 0
  · exact Or.inl ⟨hc, by rw [if_pos hc] at h1; exact h1⟩
  · exact Or.inr ⟨hc, by rw [if_neg hc] at h1; exact h1⟩
theorem bk_X12_openNow_11 {ax : zAx} {CE : g_E} {n : Nat} {ρ : Nat → Int} {L : List Nat} {g : Nat → Nat → Int} {r : Option g_V} {h : g_H} (hr : g_run RX12 ax CE cX12_openNow n (11, ρ, [], L, g) r h) : ∃ n', n' < n ∧ ((40 ≤ g (g (ρ 0).toNat 15).toNat (ρ 1).toNat ∧ g_run RX12 ax CE cX12_openNow n' (28, ρ, [], L, g) r h) ∨ (¬ (40 ≤ g (g (ρ 0).toNat 15).toNat (ρ 1).toNat) ∧ g_run RX12 ax CE cX12_openNow n' (22, ρ, [], L, g) r h)) := by
  obtain ⟨n1, e, h1⟩ := g_blk_ok noX12 jI_X12_openNow tab_X12 6 n hr (c2 := (if 40 ≤ g (g (ρ 0).toNat 15).toNat (ρ 1).toNat then 28 else 22, ρ, [], L, g)) rfl
  refine ⟨n1, by omega, ?_⟩
  by_cases hc : 40 ≤ g (g (ρ 0).toNat 15).toNat (ρ 1).toNat
  · exact Or.inl ⟨hc, by rw [if_pos hc] at h1; exact h1⟩
  · exact Or.inr ⟨hc, by rw [if_neg hc] at h1; exact h1⟩
theorem bk_X12_openNow_22 {ax : zAx} {CE : g_E} {n : Nat} {ρ : Nat → Int} {L : List Nat} {g : Nat → Nat → Int} {r : Option g_V} {h : g_H} (hr : g_run RX12 ax CE cX12_openNow n (22, ρ, [], L, g) r h) : ∃ n', n' < n ∧ g_run RX12 ax CE cX12_openNow n' (7, (va_up ρ 1 (g_i (ρ 1 + (-1)))), [], L, g) r h := by
  obtain ⟨n1, e, h1⟩ := g_blk_ok noX12 jI_X12_openNow tab_X12 2 n hr (c2 := (7, (va_up ρ 1 (g_i (ρ 1 + (-1)))), [], L, g)) rfl
  exact ⟨n1, by omega, h1⟩
theorem bk_X12_openNow_28 {ax : zAx} {CE : g_E} {n : Nat} {ρ : Nat → Int} {L : List Nat} {g : Nat → Nat → Int} {r : Option g_V} {h : g_H} (hr : g_run RX12 ax CE cX12_openNow n (28, ρ, [], L, g) r h) : ∃ n', n' < n ∧ ((0 ≤ ρ 1 ∧ g_run RX12 ax CE cX12_openNow n' (36, ρ, [], L, g) r h) ∨ (¬ (0 ≤ ρ 1) ∧ g_run RX12 ax CE cX12_openNow n' (32, ρ, [], L, g) r h)) := by
  obtain ⟨n1, e, h1⟩ := g_blk_ok noX12 jI_X12_openNow tab_X12 2 n hr (c2 := (if 0 ≤ ρ 1 then 36 else 32, ρ, [], L, g)) rfl
  refine ⟨n1, by omega, ?_⟩
  by_cases hc : 0 ≤ ρ 1
  · exact Or.inl ⟨hc, by rw [if_pos hc] at h1; exact h1⟩
  · exact Or.inr ⟨hc, by rw [if_neg hc] at h1; exact h1⟩
theorem bk_X12_openNow_32 {ax : zAx} {CE : g_E} {n : Nat} {ρ : Nat → Int} {L : List Nat} {g : Nat → Nat → Int} {r : Option g_V} {h : g_H} (hr : g_run RX12 ax CE cX12_openNow n (32, ρ, [], L, g) r h) : ∃ n', n' < n ∧ g_run RX12 ax CE cX12_openNow n' (42, ρ, [(1, (-1))], L, g) r h := by
  obtain ⟨n1, e, h1⟩ := g_blk_ok noX12 jI_X12_openNow tab_X12 2 n hr (c2 := (42, ρ, [(1, (-1))], L, g)) rfl
  exact ⟨n1, by omega, h1⟩
theorem bk_X12_openNow_36 {ax : zAx} {CE : g_E} {n : Nat} {ρ : Nat → Int} {L : List Nat} {g : Nat → Nat → Int} {r : Option g_V} {h : g_H} (hr : g_run RX12 ax CE cX12_openNow n (36, ρ, [], L, g) r h) : ∃ n', n' < n ∧ g_run RX12 ax CE cX12_openNow n' (42, ρ, [(1, g (g (ρ 0).toNat 15).toNat (ρ 1).toNat)], L, g) r h := by
  obtain ⟨n1, e, h1⟩ := g_blk_ok noX12 jI_X12_openNow tab_X12 4 n hr (c2 := (42, ρ, [(1, g (g (ρ 0).toNat 15).toNat (ρ 1).toNat)], L, g)) rfl
  exact ⟨n1, by omega, h1⟩
theorem bk_X12_openNow_42 {ax : zAx} {CE : g_E} {n : Nat} {ρ : Nat → Int} {s0 : Int} {L : List Nat} {g : Nat → Nat → Int} {r : Option g_V} {h : g_H} (hr : g_run RX12 ax CE cX12_openNow n (42, ρ, [(1, s0)], L, g) r h) : r = some (1, s0) ∧ h = (L, g) := by
  obtain ⟨n1, e, h1⟩ := g_blk_ok noX12 jI_X12_openNow tab_X12 0 n hr (c2 := (42, ρ, [(1, s0)], L, g)) rfl
  exact g_ret_un noX12 (i := .ireturn) (jI_X12_openNow 42 _ rfl) (by decide) h1
theorem pt_X12_openNow_0 {ax : zAx} {CE : g_E} (hCE : ∀ y cc as h r h', CE y cc as h r h' → g_ex ax y cc as h r h') {n : Nat} {ρ : Nat → Int} {L : List Nat} {g : Nat → Nat → Int} {r : Option g_V} {h : g_H} (h0 : g_run RX12 ax CE cX12_openNow n (0, ρ, [], L, g) r h) : (∃ n', n' < n ∧ g_run RX12 ax CE cX12_openNow n' (7, (va_up ρ 1 (g_i ((g (ρ 0).toNat 17) - 1))), [], L, g) r h) := by
  obtain ⟨n1, l1, h1⟩ := bk_X12_openNow_0 h0
  exact ⟨_, by omega, h1⟩
theorem pt_X12_openNow_7 {ax : zAx} {CE : g_E} (hCE : ∀ y cc as h r h', CE y cc as h r h' → g_ex ax y cc as h r h') {n : Nat} {ρ : Nat → Int} {L : List Nat} {g : Nat → Nat → Int} {r : Option g_V} {h : g_H} (h0 : g_run RX12 ax CE cX12_openNow n (7, ρ, [], L, g) r h) : (((ρ 1) < 0 ∧ ((0 ≤ (ρ 1) ∧ (r = some (1, g (g (ρ 0).toNat 15).toNat (ρ 1).toNat) ∧ h = (L, g))) ∨ (¬ (0 ≤ (ρ 1)) ∧ (r = some (1, (-1)) ∧ h = (L, g))))) ∨ (¬ ((ρ 1) < 0) ∧ ((40 ≤ g (g (ρ 0).toNat 15).toNat (ρ 1).toNat ∧ ((0 ≤ (ρ 1) ∧ (r = some (1, g (g (ρ 0).toNat 15).toNat (ρ 1).toNat) ∧ h = (L, g))) ∨ (¬ (0 ≤ (ρ 1)) ∧ (r = some (1, (-1)) ∧ h = (L, g))))) ∨ (¬ (40 ≤ g (g (ρ 0).toNat 15).toNat (ρ 1).toNat) ∧ (∃ n', n' < n ∧ g_run RX12 ax CE cX12_openNow n' (7, (va_up ρ 1 (g_i ((ρ 1) + (-1)))), [], L, g) r h))))) := by
  obtain ⟨n1, l1, h1⟩ := bk_X12_openNow_7 h0
  rcases h1 with ⟨c1, h1⟩ | ⟨c1, h1⟩
  · refine Or.inl ⟨c1, ?_⟩
    obtain ⟨n2, l2, h2⟩ := bk_X12_openNow_28 h1
    rcases h2 with ⟨c2, h2⟩ | ⟨c2, h2⟩
    · refine Or.inl ⟨c2, ?_⟩
      obtain ⟨n3, l3, h3⟩ := bk_X12_openNow_36 h2
      obtain ⟨e4, d4⟩ := bk_X12_openNow_42 h3
      exact ⟨e4, d4⟩
    · refine Or.inr ⟨c2, ?_⟩
      obtain ⟨n5, l5, h5⟩ := bk_X12_openNow_32 h2
      obtain ⟨e6, d6⟩ := bk_X12_openNow_42 h5
      exact ⟨e6, d6⟩
  · refine Or.inr ⟨c1, ?_⟩
    obtain ⟨n7, l7, h7⟩ := bk_X12_openNow_11 h1
    rcases h7 with ⟨c7, h7⟩ | ⟨c7, h7⟩
    · refine Or.inl ⟨c7, ?_⟩
      obtain ⟨n8, l8, h8⟩ := bk_X12_openNow_28 h7
      rcases h8 with ⟨c8, h8⟩ | ⟨c8, h8⟩
      · refine Or.inl ⟨c8, ?_⟩
        obtain ⟨n9, l9, h9⟩ := bk_X12_openNow_36 h8
        obtain ⟨e10, d10⟩ := bk_X12_openNow_42 h9
        exact ⟨e10, d10⟩
      · refine Or.inr ⟨c8, ?_⟩
        obtain ⟨n11, l11, h11⟩ := bk_X12_openNow_32 h8
        obtain ⟨e12, d12⟩ := bk_X12_openNow_42 h11
        exact ⟨e12, d12⟩
    · refine Or.inr ⟨c7, ?_⟩
      obtain ⟨n13, l13, h13⟩ := bk_X12_openNow_22 h7
      exact ⟨_, by omega, h13⟩

theorem jI_X12_isCompared : ∀ (pc : Nat) (q : Instr × Nat), lkp iX12_isCompared pc = some q → decode cX12_isCompared pc = .ok q := fun pc q hq => jX12_isCompared (pc, q) (lkp_in iX12_isCompared hq)
theorem bk_X12_isCompared_0 {ax : zAx} {CE : g_E} {n : Nat} {ρ : Nat → Int} {L : List Nat} {g : Nat → Nat → Int} {r : Option g_V} {h : g_H} (hr : g_run RX12 ax CE cX12_isCompared n (0, ρ, [], L, g) r h) : ∃ n', n' < n ∧ g_run RX12 ax CE cX12_isCompared n' (7, (va_up ρ 1 (g_i ((g (ρ 0).toNat 17) - 1))), [], L, g) r h := by
  obtain ⟨n1, e, h1⟩ := g_blk_ok noX12 jI_X12_isCompared tab_X12 5 n hr (c2 := (7, (va_up ρ 1 (g_i ((g (ρ 0).toNat 17) - 1))), [], L, g)) rfl
  exact ⟨n1, by omega, h1⟩
theorem bk_X12_isCompared_7 {ax : zAx} {CE : g_E} {n : Nat} {ρ : Nat → Int} {L : List Nat} {g : Nat → Nat → Int} {r : Option g_V} {h : g_H} (hr : g_run RX12 ax CE cX12_isCompared n (7, ρ, [], L, g) r h) : ∃ n', n' < n ∧ ((ρ 1 < 0 ∧ g_run RX12 ax CE cX12_isCompared n' (30, ρ, [], L, g) r h) ∨ (¬ (ρ 1 < 0) ∧ g_run RX12 ax CE cX12_isCompared n' (11, ρ, [], L, g) r h)) := by
  obtain ⟨n1, e, h1⟩ := g_blk_ok noX12 jI_X12_isCompared tab_X12 2 n hr (c2 := (if ρ 1 < 0 then 30 else 11, ρ, [], L, g)) rfl
  refine ⟨n1, by omega, ?_⟩
  by_cases hc : ρ 1 < 0
  · exact Or.inl ⟨hc, by rw [if_pos hc] at h1; exact h1⟩
  · exact Or.inr ⟨hc, by rw [if_neg hc] at h1; exact h1⟩
theorem bk_X12_isCompared_11 {ax : zAx} {CE : g_E} {n : Nat} {ρ : Nat → Int} {L : List Nat} {g : Nat → Nat → Int} {r : Option g_V} {h : g_H} (hr : g_run RX12 ax CE cX12_isCompared n (11, ρ, [], L, g) r h) : ∃ n' r1 h1', n' < n ∧ CE yX12_rank cX12_rank [(0, g (g (ρ 0).toNat 15).toNat (ρ 1).toNat)] (L, g) r1 h1' ∧ g_run RX12 ax CE cX12_isCompared n' (20, ρ, g_push r1 [], h1') r h := by
  obtain ⟨n1, e, h1⟩ := g_blk_ok noX12 jI_X12_isCompared tab_X12 4 n hr (c2 := (17, ρ, [(1, g (g (ρ 0).toNat 15).toNat (ρ 1).toNat)], L, g)) rfl
  obtain ⟨n2, c', e2, h2, h3⟩ := g_step_un noX12 (i := .invokestatic 203) (len := 3) (jI_X12_isCompared 17 _ rfl) (gnrS _) h1
  obtain ⟨r1, h1', hx, hc⟩ := g_static_un lk_X12 nat_all lX12_ok (idx := 203) (mode := 1) (mi := 166) (ci := 0) (na := 1) rfl (by decide) (by decide) mq_X12_rank [(1, g (g (ρ 0).toNat 15).toNat (ρ 1).toNat)] [] rfl rfl h2
  subst hc
  exact ⟨n2, r1, h1', by omega, hx, h3⟩
theorem bk_X12_isCompared_20 {ax : zAx} {CE : g_E} {n : Nat} {ρ : Nat → Int} {s0 : Int} {L : List Nat} {g : Nat → Nat → Int} {r : Option g_V} {h : g_H} (hr : g_run RX12 ax CE cX12_isCompared n (20, ρ, [(1, s0)], L, g) r h) : ∃ n', n' < n ∧ ((s0 ≤ 4 ∧ g_run RX12 ax CE cX12_isCompared n' (30, ρ, [], L, g) r h) ∨ (¬ (s0 ≤ 4) ∧ g_run RX12 ax CE cX12_isCompared n' (24, ρ, [], L, g) r h)) := by
  obtain ⟨n1, e, h1⟩ := g_blk_ok noX12 jI_X12_isCompared tab_X12 2 n hr (c2 := (if s0 ≤ 4 then 30 else 24, ρ, [], L, g)) rfl
  refine ⟨n1, by omega, ?_⟩
  by_cases hc : s0 ≤ 4
  · exact Or.inl ⟨hc, by rw [if_pos hc] at h1; exact h1⟩
  · exact Or.inr ⟨hc, by rw [if_neg hc] at h1; exact h1⟩
theorem bk_X12_isCompared_24 {ax : zAx} {CE : g_E} {n : Nat} {ρ : Nat → Int} {L : List Nat} {g : Nat → Nat → Int} {r : Option g_V} {h : g_H} (hr : g_run RX12 ax CE cX12_isCompared n (24, ρ, [], L, g) r h) : ∃ n', n' < n ∧ g_run RX12 ax CE cX12_isCompared n' (7, (va_up ρ 1 (g_i (ρ 1 + (-1)))), [], L, g) r h := by
  obtain ⟨n1, e, h1⟩ := g_blk_ok noX12 jI_X12_isCompared tab_X12 2 n hr (c2 := (7, (va_up ρ 1 (g_i (ρ 1 + (-1)))), [], L, g)) rfl
  exact ⟨n1, by omega, h1⟩
theorem bk_X12_isCompared_30 {ax : zAx} {CE : g_E} {n : Nat} {ρ : Nat → Int} {L : List Nat} {g : Nat → Nat → Int} {r : Option g_V} {h : g_H} (hr : g_run RX12 ax CE cX12_isCompared n (30, ρ, [], L, g) r h) : ∃ n', n' < n ∧ ((ρ 1 < 0 ∧ g_run RX12 ax CE cX12_isCompared n' (51, ρ, [], L, g) r h) ∨ (¬ (ρ 1 < 0) ∧ g_run RX12 ax CE cX12_isCompared n' (34, ρ, [], L, g) r h)) := by
  obtain ⟨n1, e, h1⟩ := g_blk_ok noX12 jI_X12_isCompared tab_X12 2 n hr (c2 := (if ρ 1 < 0 then 51 else 34, ρ, [], L, g)) rfl
  refine ⟨n1, by omega, ?_⟩
  by_cases hc : ρ 1 < 0
  · exact Or.inl ⟨hc, by rw [if_pos hc] at h1; exact h1⟩
  · exact Or.inr ⟨hc, by rw [if_neg hc] at h1; exact h1⟩
theorem bk_X12_isCompared_34 {ax : zAx} {CE : g_E} {n : Nat} {ρ : Nat → Int} {L : List Nat} {g : Nat → Nat → Int} {r : Option g_V} {h : g_H} (hr : g_run RX12 ax CE cX12_isCompared n (34, ρ, [], L, g) r h) : ∃ n' r1 h1', n' < n ∧ CE yX12_rank cX12_rank [(0, g (g (ρ 0).toNat 15).toNat (ρ 1).toNat)] (L, g) r1 h1' ∧ g_run RX12 ax CE cX12_isCompared n' (43, ρ, g_push r1 [], h1') r h := by
  obtain ⟨n1, e, h1⟩ := g_blk_ok noX12 jI_X12_isCompared tab_X12 4 n hr (c2 := (40, ρ, [(1, g (g (ρ 0).toNat 15).toNat (ρ 1).toNat)], L, g)) rfl
  obtain ⟨n2, c', e2, h2, h3⟩ := g_step_un noX12 (i := .invokestatic 203) (len := 3) (jI_X12_isCompared 40 _ rfl) (gnrS _) h1
  obtain ⟨r1, h1', hx, hc⟩ := g_static_un lk_X12 nat_all lX12_ok (idx := 203) (mode := 1) (mi := 166) (ci := 0) (na := 1) rfl (by decide) (by decide) mq_X12_rank [(1, g (g (ρ 0).toNat 15).toNat (ρ 1).toNat)] [] rfl rfl h2
  subst hc
  exact ⟨n2, r1, h1', by omega, hx, h3⟩
theorem bk_X12_isCompared_43 {ax : zAx} {CE : g_E} {n : Nat} {ρ : Nat → Int} {s0 : Int} {L : List Nat} {g : Nat → Nat → Int} {r : Option g_V} {h : g_H} (hr : g_run RX12 ax CE cX12_isCompared n (43, ρ, [(1, s0)], L, g) r h) : ∃ n', n' < n ∧ ((s0 = 4 ∧ g_run RX12 ax CE cX12_isCompared n' (47, ρ, [], L, g) r h) ∨ (¬ (s0 = 4) ∧ g_run RX12 ax CE cX12_isCompared n' (51, ρ, [], L, g) r h)) := by
  obtain ⟨n1, e, h1⟩ := g_blk_ok noX12 jI_X12_isCompared tab_X12 2 n hr (c2 := (if s0 = 4 then 47 else 51, ρ, [], L, g)) rfl
  refine ⟨n1, by omega, ?_⟩
  by_cases hc : s0 = 4
  · exact Or.inl ⟨hc, by rw [if_pos hc] at h1; exact h1⟩
  · exact Or.inr ⟨hc, by rw [if_neg hc] at h1; exact h1⟩
theorem bk_X12_isCompared_47 {ax : zAx} {CE : g_E} {n : Nat} {ρ : Nat → Int} {L : List Nat} {g : Nat → Nat → Int} {r : Option g_V} {h : g_H} (hr : g_run RX12 ax CE cX12_isCompared n (47, ρ, [], L, g) r h) : ∃ n', n' < n ∧ g_run RX12 ax CE cX12_isCompared n' (52, ρ, [(1, 1)], L, g) r h := by
  obtain ⟨n1, e, h1⟩ := g_blk_ok noX12 jI_X12_isCompared tab_X12 2 n hr (c2 := (52, ρ, [(1, 1)], L, g)) rfl
  exact ⟨n1, by omega, h1⟩
theorem bk_X12_isCompared_51 {ax : zAx} {CE : g_E} {n : Nat} {ρ : Nat → Int} {L : List Nat} {g : Nat → Nat → Int} {r : Option g_V} {h : g_H} (hr : g_run RX12 ax CE cX12_isCompared n (51, ρ, [], L, g) r h) : ∃ n', n' < n ∧ g_run RX12 ax CE cX12_isCompared n' (52, ρ, [(1, 0)], L, g) r h := by
  obtain ⟨n1, e, h1⟩ := g_blk_ok noX12 jI_X12_isCompared tab_X12 1 n hr (c2 := (52, ρ, [(1, 0)], L, g)) rfl
  exact ⟨n1, by omega, h1⟩
theorem bk_X12_isCompared_52 {ax : zAx} {CE : g_E} {n : Nat} {ρ : Nat → Int} {s0 : Int} {L : List Nat} {g : Nat → Nat → Int} {r : Option g_V} {h : g_H} (hr : g_run RX12 ax CE cX12_isCompared n (52, ρ, [(1, s0)], L, g) r h) : r = some (1, s0) ∧ h = (L, g) := by
  obtain ⟨n1, e, h1⟩ := g_blk_ok noX12 jI_X12_isCompared tab_X12 0 n hr (c2 := (52, ρ, [(1, s0)], L, g)) rfl
  exact g_ret_un noX12 (i := .ireturn) (jI_X12_isCompared 52 _ rfl) (by decide) h1
theorem pt_X12_isCompared_0 {ax : zAx} {CE : g_E} (hCE : ∀ y cc as h r h', CE y cc as h r h' → g_ex ax y cc as h r h') {n : Nat} {ρ : Nat → Int} {L : List Nat} {g : Nat → Nat → Int} {r : Option g_V} {h : g_H} (h0 : g_run RX12 ax CE cX12_isCompared n (0, ρ, [], L, g) r h) : (∃ n', n' < n ∧ g_run RX12 ax CE cX12_isCompared n' (7, (va_up ρ 1 (g_i ((g (ρ 0).toNat 17) - 1))), [], L, g) r h) := by
  obtain ⟨n1, l1, h1⟩ := bk_X12_isCompared_0 h0
  exact ⟨_, by omega, h1⟩
theorem pt_X12_isCompared_7 {ax : zAx} {CE : g_E} (hCE : ∀ y cc as h r h', CE y cc as h r h' → g_ex ax y cc as h r h') {n : Nat} {ρ : Nat → Int} {L : List Nat} {g : Nat → Nat → Int} {r : Option g_V} {h : g_H} (h0 : g_run RX12 ax CE cX12_isCompared n (7, ρ, [], L, g) r h) : (((ρ 1) < 0 ∧ (r = some (1, 0) ∧ h = (L, g))) ∨ (¬ ((ρ 1) < 0) ∧ ((F_X12_rank (g (g (ρ 0).toNat 15).toNat (ρ 1).toNat) g ≤ 4 ∧ ((F_X12_rank (g (g (ρ 0).toNat 15).toNat (ρ 1).toNat) g = 4 ∧ (r = some (1, 1) ∧ h = (L, g))) ∨ (¬ (F_X12_rank (g (g (ρ 0).toNat 15).toNat (ρ 1).toNat) g = 4) ∧ (r = some (1, 0) ∧ h = (L, g))))) ∨ (¬ (F_X12_rank (g (g (ρ 0).toNat 15).toNat (ρ 1).toNat) g ≤ 4) ∧ (∃ n', n' < n ∧ g_run RX12 ax CE cX12_isCompared n' (7, (va_up ρ 1 (g_i ((ρ 1) + (-1)))), [], L, g) r h))))) := by
  obtain ⟨n1, l1, h1⟩ := bk_X12_isCompared_7 h0
  rcases h1 with ⟨c1, h1⟩ | ⟨c1, h1⟩
  · refine Or.inl ⟨c1, ?_⟩
    obtain ⟨n2, l2, h2⟩ := bk_X12_isCompared_30 h1
    rcases h2 with ⟨c2, h2⟩ | ⟨c2, h2⟩
    · obtain ⟨n3, l3, h3⟩ := bk_X12_isCompared_51 h2
      obtain ⟨e4, d4⟩ := bk_X12_isCompared_52 h3
      exact ⟨e4, d4⟩
    · exact absurd c1 c2
  · refine Or.inr ⟨c1, ?_⟩
    obtain ⟨n5, r5, k5, l5, x5, h5⟩ := bk_X12_isCompared_11 h1
    obtain ⟨e5, d5⟩ := f_X12_rank (hCE _ _ _ _ _ _ x5)
    subst e5
    subst d5
    obtain ⟨n6, l6, h6⟩ := bk_X12_isCompared_20 h5
    rcases h6 with ⟨c6, h6⟩ | ⟨c6, h6⟩
    · refine Or.inl ⟨c6, ?_⟩
      obtain ⟨n7, l7, h7⟩ := bk_X12_isCompared_30 h6
      rcases h7 with ⟨c7, h7⟩ | ⟨c7, h7⟩
      · exact absurd c7 c1
      · obtain ⟨n8, r8, k8, l8, x8, h8⟩ := bk_X12_isCompared_34 h7
        obtain ⟨e8, d8⟩ := f_X12_rank (hCE _ _ _ _ _ _ x8)
        subst e8
        subst d8
        obtain ⟨n9, l9, h9⟩ := bk_X12_isCompared_43 h8
        rcases h9 with ⟨c9, h9⟩ | ⟨c9, h9⟩
        · refine Or.inl ⟨c9, ?_⟩
          obtain ⟨n10, l10, h10⟩ := bk_X12_isCompared_47 h9
          obtain ⟨e11, d11⟩ := bk_X12_isCompared_52 h10
          exact ⟨e11, d11⟩
        · refine Or.inr ⟨c9, ?_⟩
          obtain ⟨n12, l12, h12⟩ := bk_X12_isCompared_51 h9
          obtain ⟨e13, d13⟩ := bk_X12_isCompared_52 h12
          exact ⟨e13, d13⟩
    · refine Or.inr ⟨c6, ?_⟩
      obtain ⟨n14, l14, h14⟩ := bk_X12_isCompared_24 h6
      exact ⟨_, by omega, h14⟩

theorem jI_X12_isAskAhead : ∀ (pc : Nat) (q : Instr × Nat), lkp iX12_isAskAhead pc = some q → decode cX12_isAskAhead pc = .ok q := fun pc q hq => jX12_isAskAhead (pc, q) (lkp_in iX12_isAskAhead hq)
theorem bk_X12_isAskAhead_0 {ax : zAx} {CE : g_E} {n : Nat} {ρ : Nat → Int} {L : List Nat} {g : Nat → Nat → Int} {r : Option g_V} {h : g_H} (hr : g_run RX12 ax CE cX12_isAskAhead n (0, ρ, [], L, g) r h) : ∃ n' r1 h1', n' < n ∧ CE yX12_openNow cX12_openNow [(0, ρ 0)] (L, g) r1 h1' ∧ g_run RX12 ax CE cX12_isAskAhead n' (4, ρ, g_push r1 [], h1') r h := by
  obtain ⟨n1, e, h1⟩ := g_blk_ok noX12 jI_X12_isAskAhead tab_X12 1 n hr (c2 := (1, ρ, [(1, ρ 0)], L, g)) rfl
  obtain ⟨n2, c', e2, h2, h3⟩ := g_step_un noX12 (i := .invokevirtual 213) (len := 3) (jI_X12_isAskAhead 1 _ rfl) (gnrV _) h1
  obtain ⟨r1, h1', hx, hc⟩ := g_virt_un lk_X12 nat_all lX12_ok (idx := 213) (mi := 151) (ci := 12) (na := 1) rfl (by decide) mq_X12_openNow [] [] (ρ 0) rfl rfl h2
  subst hc
  exact ⟨n2, r1, h1', by omega, hx, h3⟩
theorem bk_X12_isAskAhead_4 {ax : zAx} {CE : g_E} {n : Nat} {ρ : Nat → Int} {s0 : Int} {L : List Nat} {g : Nat → Nat → Int} {r : Option g_V} {h : g_H} (hr : g_run RX12 ax CE cX12_isAskAhead n (4, ρ, [(1, s0)], L, g) r h) : ∃ n', n' < n ∧ ((s0 = 42 ∧ g_run RX12 ax CE cX12_isAskAhead n' (9, ρ, [], L, g) r h) ∨ (¬ (s0 = 42) ∧ g_run RX12 ax CE cX12_isAskAhead n' (51, ρ, [], L, g) r h)) := by
  obtain ⟨n1, e, h1⟩ := g_blk_ok noX12 jI_X12_isAskAhead tab_X12 2 n hr (c2 := (if s0 = 42 then 9 else 51, ρ, [], L, g)) rfl
  refine ⟨n1, by omega, ?_⟩
  by_cases hc : s0 = 42
  · exact Or.inl ⟨hc, by rw [if_pos hc] at h1; exact h1⟩
  · exact Or.inr ⟨hc, by rw [if_neg hc] at h1; exact h1⟩
theorem bk_X12_isAskAhead_9 {ax : zAx} {CE : g_E} {n : Nat} {ρ : Nat → Int} {L : List Nat} {g : Nat → Nat → Int} {r : Option g_V} {h : g_H} (hr : g_run RX12 ax CE cX12_isAskAhead n (9, ρ, [], L, g) r h) : ∃ n', n' < n ∧ ((g (g (ρ 0).toNat 15).toNat (g_i ((g (ρ 0).toNat 17) - 1)).toNat = 42 ∧ g_run RX12 ax CE cX12_isAskAhead n' (47, ρ, [], L, g) r h) ∨ (¬ (g (g (ρ 0).toNat 15).toNat (g_i ((g (ρ 0).toNat 17) - 1)).toNat = 42) ∧ g_run RX12 ax CE cX12_isAskAhead n' (25, ρ, [], L, g) r h)) := by
  obtain ⟨n1, e, h1⟩ := g_blk_ok noX12 jI_X12_isAskAhead tab_X12 9 n hr (c2 := (if g (g (ρ 0).toNat 15).toNat (g_i ((g (ρ 0).toNat 17) - 1)).toNat = 42 then 47 else 25, ρ, [], L, g)) rfl
  refine ⟨n1, by omega, ?_⟩
  by_cases hc : g (g (ρ 0).toNat 15).toNat (g_i ((g (ρ 0).toNat 17) - 1)).toNat = 42
  · exact Or.inl ⟨hc, by rw [if_pos hc] at h1; exact h1⟩
  · exact Or.inr ⟨hc, by rw [if_neg hc] at h1; exact h1⟩
theorem bk_X12_isAskAhead_25 {ax : zAx} {CE : g_E} {n : Nat} {ρ : Nat → Int} {L : List Nat} {g : Nat → Nat → Int} {r : Option g_V} {h : g_H} (hr : g_run RX12 ax CE cX12_isAskAhead n (25, ρ, [], L, g) r h) : ∃ n' r1 h1', n' < n ∧ CE yX12_rank cX12_rank [(0, g (g (ρ 0).toNat 15).toNat (g_i ((g (ρ 0).toNat 17) - 1)).toNat)] (L, g) r1 h1' ∧ g_run RX12 ax CE cX12_isAskAhead n' (39, ρ, g_push r1 [], h1') r h := by
  obtain ⟨n1, e, h1⟩ := g_blk_ok noX12 jI_X12_isAskAhead tab_X12 7 n hr (c2 := (36, ρ, [(1, g (g (ρ 0).toNat 15).toNat (g_i ((g (ρ 0).toNat 17) - 1)).toNat)], L, g)) rfl
  obtain ⟨n2, c', e2, h2, h3⟩ := g_step_un noX12 (i := .invokestatic 203) (len := 3) (jI_X12_isAskAhead 36 _ rfl) (gnrS _) h1
  obtain ⟨r1, h1', hx, hc⟩ := g_static_un lk_X12 nat_all lX12_ok (idx := 203) (mode := 1) (mi := 166) (ci := 0) (na := 1) rfl (by decide) (by decide) mq_X12_rank [(1, g (g (ρ 0).toNat 15).toNat (g_i ((g (ρ 0).toNat 17) - 1)).toNat)] [] rfl rfl h2
  subst hc
  exact ⟨n2, r1, h1', by omega, hx, h3⟩
theorem bk_X12_isAskAhead_39 {ax : zAx} {CE : g_E} {n : Nat} {ρ : Nat → Int} {s0 : Int} {L : List Nat} {g : Nat → Nat → Int} {r : Option g_V} {h : g_H} (hr : g_run RX12 ax CE cX12_isAskAhead n (39, ρ, [(1, s0)], L, g) r h) : ∃ n' r1 h1', n' < n ∧ CE yX12_isIn cX12_isIn [(0, s0), (1, 1), (2, 3)] (L, g) r1 h1' ∧ g_run RX12 ax CE cX12_isAskAhead n' (44, ρ, g_push r1 [], h1') r h := by
  obtain ⟨n1, e, h1⟩ := g_blk_ok noX12 jI_X12_isAskAhead tab_X12 2 n hr (c2 := (41, ρ, [(1, 3), (1, 1), (1, s0)], L, g)) rfl
  obtain ⟨n2, c', e2, h2, h3⟩ := g_step_un noX12 (i := .invokestatic 113) (len := 3) (jI_X12_isAskAhead 41 _ rfl) (gnrS _) h1
  obtain ⟨r1, h1', hx, hc⟩ := g_static_un lk_X12 nat_all lX12_ok (idx := 113) (mode := 1) (mi := 126) (ci := 0) (na := 3) rfl (by decide) (by decide) mq_X12_isIn [(1, s0), (1, 1), (1, 3)] [] rfl rfl h2
  subst hc
  exact ⟨n2, r1, h1', by omega, hx, h3⟩
theorem bk_X12_isAskAhead_44 {ax : zAx} {CE : g_E} {n : Nat} {ρ : Nat → Int} {s0 : Int} {L : List Nat} {g : Nat → Nat → Int} {r : Option g_V} {h : g_H} (hr : g_run RX12 ax CE cX12_isAskAhead n (44, ρ, [(1, s0)], L, g) r h) : ∃ n', n' < n ∧ ((s0 = 0 ∧ g_run RX12 ax CE cX12_isAskAhead n' (51, ρ, [], L, g) r h) ∨ (¬ (s0 = 0) ∧ g_run RX12 ax CE cX12_isAskAhead n' (47, ρ, [], L, g) r h)) := by
  obtain ⟨n1, e, h1⟩ := g_blk_ok noX12 jI_X12_isAskAhead tab_X12 1 n hr (c2 := (if s0 = 0 then 51 else 47, ρ, [], L, g)) rfl
  refine ⟨n1, by omega, ?_⟩
  by_cases hc : s0 = 0
  · exact Or.inl ⟨hc, by rw [if_pos hc] at h1; exact h1⟩
  · exact Or.inr ⟨hc, by rw [if_neg hc] at h1; exact h1⟩
theorem bk_X12_isAskAhead_47 {ax : zAx} {CE : g_E} {n : Nat} {ρ : Nat → Int} {L : List Nat} {g : Nat → Nat → Int} {r : Option g_V} {h : g_H} (hr : g_run RX12 ax CE cX12_isAskAhead n (47, ρ, [], L, g) r h) : ∃ n', n' < n ∧ g_run RX12 ax CE cX12_isAskAhead n' (52, ρ, [(1, 1)], L, g) r h := by
  obtain ⟨n1, e, h1⟩ := g_blk_ok noX12 jI_X12_isAskAhead tab_X12 2 n hr (c2 := (52, ρ, [(1, 1)], L, g)) rfl
  exact ⟨n1, by omega, h1⟩
theorem bk_X12_isAskAhead_51 {ax : zAx} {CE : g_E} {n : Nat} {ρ : Nat → Int} {L : List Nat} {g : Nat → Nat → Int} {r : Option g_V} {h : g_H} (hr : g_run RX12 ax CE cX12_isAskAhead n (51, ρ, [], L, g) r h) : ∃ n', n' < n ∧ g_run RX12 ax CE cX12_isAskAhead n' (52, ρ, [(1, 0)], L, g) r h := by
  obtain ⟨n1, e, h1⟩ := g_blk_ok noX12 jI_X12_isAskAhead tab_X12 1 n hr (c2 := (52, ρ, [(1, 0)], L, g)) rfl
  exact ⟨n1, by omega, h1⟩
theorem bk_X12_isAskAhead_52 {ax : zAx} {CE : g_E} {n : Nat} {ρ : Nat → Int} {s0 : Int} {L : List Nat} {g : Nat → Nat → Int} {r : Option g_V} {h : g_H} (hr : g_run RX12 ax CE cX12_isAskAhead n (52, ρ, [(1, s0)], L, g) r h) : r = some (1, s0) ∧ h = (L, g) := by
  obtain ⟨n1, e, h1⟩ := g_blk_ok noX12 jI_X12_isAskAhead tab_X12 0 n hr (c2 := (52, ρ, [(1, s0)], L, g)) rfl
  exact g_ret_un noX12 (i := .ireturn) (jI_X12_isAskAhead 52 _ rfl) (by decide) h1
theorem pt_X12_isAskAhead_0 {ax : zAx} {CE : g_E} (hCE : ∀ y cc as h r h', CE y cc as h r h' → g_ex ax y cc as h r h') {n : Nat} {ρ : Nat → Int} {L : List Nat} {g : Nat → Nat → Int} {r : Option g_V} {h : g_H} (h0 : g_run RX12 ax CE cX12_isAskAhead n (0, ρ, [], L, g) r h) : (∃ n' r1 h1', n' < n ∧ CE yX12_openNow cX12_openNow [(0, (ρ 0))] (L, g) r1 h1' ∧ g_run RX12 ax CE cX12_isAskAhead n' (4, ρ, g_push r1 [], h1') r h) := by
  obtain ⟨n1, r1, k1, l1, x1, h1⟩ := bk_X12_isAskAhead_0 h0
  exact ⟨n1, r1, k1, by omega, x1, h1⟩
theorem pt_X12_isAskAhead_4 {ax : zAx} {CE : g_E} (hCE : ∀ y cc as h r h', CE y cc as h r h' → g_ex ax y cc as h r h') {n : Nat} {ρ : Nat → Int} {s0 : Int} {L : List Nat} {g : Nat → Nat → Int} {r : Option g_V} {h : g_H} (h0 : g_run RX12 ax CE cX12_isAskAhead n (4, ρ, [(1, s0)], L, g) r h) : ((s0 = 42 ∧ ((g (g (ρ 0).toNat 15).toNat (g_i ((g (ρ 0).toNat 17) - 1)).toNat = 42 ∧ (r = some (1, 1) ∧ h = (L, g))) ∨ (¬ (g (g (ρ 0).toNat 15).toNat (g_i ((g (ρ 0).toNat 17) - 1)).toNat = 42) ∧ ((F_X12_isIn (F_X12_rank (g (g (ρ 0).toNat 15).toNat (g_i ((g (ρ 0).toNat 17) - 1)).toNat) g) 1 3 g = 0 ∧ (r = some (1, 0) ∧ h = (L, g))) ∨ (¬ (F_X12_isIn (F_X12_rank (g (g (ρ 0).toNat 15).toNat (g_i ((g (ρ 0).toNat 17) - 1)).toNat) g) 1 3 g = 0) ∧ (r = some (1, 1) ∧ h = (L, g))))))) ∨ (¬ (s0 = 42) ∧ (r = some (1, 0) ∧ h = (L, g)))) := by
  obtain ⟨n1, l1, h1⟩ := bk_X12_isAskAhead_4 h0
  rcases h1 with ⟨c1, h1⟩ | ⟨c1, h1⟩
  · refine Or.inl ⟨c1, ?_⟩
    obtain ⟨n2, l2, h2⟩ := bk_X12_isAskAhead_9 h1
    rcases h2 with ⟨c2, h2⟩ | ⟨c2, h2⟩
    · refine Or.inl ⟨c2, ?_⟩
      obtain ⟨n3, l3, h3⟩ := bk_X12_isAskAhead_47 h2
      obtain ⟨e4, d4⟩ := bk_X12_isAskAhead_52 h3
      exact ⟨e4, d4⟩
    · refine Or.inr ⟨c2, ?_⟩
      obtain ⟨n5, r5, k5, l5, x5, h5⟩ := bk_X12_isAskAhead_25 h2
      obtain ⟨e5, d5⟩ := f_X12_rank (hCE _ _ _ _ _ _ x5)
      subst e5
      subst d5
      obtain ⟨n6, r6, k6, l6, x6, h6⟩ := bk_X12_isAskAhead_39 h5
      obtain ⟨e6, d6⟩ := f_X12_isIn (hCE _ _ _ _ _ _ x6)
      subst e6
      subst d6
      obtain ⟨n7, l7, h7⟩ := bk_X12_isAskAhead_44 h6
      rcases h7 with ⟨c7, h7⟩ | ⟨c7, h7⟩
      · refine Or.inl ⟨c7, ?_⟩
        obtain ⟨n8, l8, h8⟩ := bk_X12_isAskAhead_51 h7
        obtain ⟨e9, d9⟩ := bk_X12_isAskAhead_52 h8
        exact ⟨e9, d9⟩
      · refine Or.inr ⟨c7, ?_⟩
        obtain ⟨n10, l10, h10⟩ := bk_X12_isAskAhead_47 h7
        obtain ⟨e11, d11⟩ := bk_X12_isAskAhead_52 h10
        exact ⟨e11, d11⟩
  · refine Or.inr ⟨c1, ?_⟩
    obtain ⟨n12, l12, h12⟩ := bk_X12_isAskAhead_51 h1
    obtain ⟨e13, d13⟩ := bk_X12_isAskAhead_52 h12
    exact ⟨e13, d13⟩

theorem jI_X12_opened : ∀ (pc : Nat) (q : Instr × Nat), lkp iX12_opened pc = some q → decode cX12_opened pc = .ok q := fun pc q hq => jX12_opened (pc, q) (lkp_in iX12_opened hq)
theorem bk_X12_opened_0 {ax : zAx} {CE : g_E} {n : Nat} {ρ : Nat → Int} {L : List Nat} {g : Nat → Nat → Int} {r : Option g_V} {h : g_H} (hr : g_run RX12 ax CE cX12_opened n (0, ρ, [], L, g) r h) : ∃ n', n' < n ∧ ((g (ρ 0).toNat 18 = 8 ∧ g_run RX12 ax CE cX12_opened n' (9, ρ, [], L, g) r h) ∨ (¬ (g (ρ 0).toNat 18 = 8) ∧ g_run RX12 ax CE cX12_opened n' (11, ρ, [], L, g) r h)) := by
  obtain ⟨n1, e, h1⟩ := g_blk_ok noX12 jI_X12_opened tab_X12 4 n hr (c2 := (if g (ρ 0).toNat 18 = 8 then 9 else 11, ρ, [], L, g)) rfl
  refine ⟨n1, by omega, ?_⟩
  by_cases hc : g (ρ 0).toNat 18 = 8
  · exact Or.inl ⟨hc, by rw [if_pos hc] at h1; exact h1⟩
  · exact Or.inr ⟨hc, by rw [if_neg hc] at h1; exact h1⟩
theorem bk_X12_opened_9 {ax : zAx} {CE : g_E} {n : Nat} {ρ : Nat → Int} {L : List Nat} {g : Nat → Nat → Int} {r : Option g_V} {h : g_H} (hr : g_run RX12 ax CE cX12_opened n (9, ρ, [], L, g) r h) : r = some (1, 3) ∧ h = (L, g) := by
  obtain ⟨n1, e, h1⟩ := g_blk_ok noX12 jI_X12_opened tab_X12 1 n hr (c2 := (10, ρ, [(1, 3)], L, g)) rfl
  exact g_ret_un noX12 (i := .ireturn) (jI_X12_opened 10 _ rfl) (by decide) h1
theorem bk_X12_opened_11 {ax : zAx} {CE : g_E} {n : Nat} {ρ : Nat → Int} {L : List Nat} {g : Nat → Nat → Int} {r : Option g_V} {h : g_H} (hr : g_run RX12 ax CE cX12_opened n (11, ρ, [], L, g) r h) : ∃ n', n' < n ∧ ((ρ 1 < 41 ∧ g_run RX12 ax CE cX12_opened n' (77, ρ, [], L, (g_up (g_up (g_up g (ρ 0).toNat 18 (g_i ((g (ρ 0).toNat 18) + 1))) ((g_up g (ρ 0).toNat 18 (g_i ((g (ρ 0).toNat 18) + 1))) (ρ 0).toNat 15).toNat ((g_up g (ρ 0).toNat 18 (g_i ((g (ρ 0).toNat 18) + 1))) (ρ 0).toNat 17).toNat (ρ 1)) (ρ 0).toNat 17 (g_i (((g_up (g_up g (ρ 0).toNat 18 (g_i ((g (ρ 0).toNat 18) + 1))) ((g_up g (ρ 0).toNat 18 (g_i ((g (ρ 0).toNat 18) + 1))) (ρ 0).toNat 15).toNat ((g_up g (ρ 0).toNat 18 (g_i ((g (ρ 0).toNat 18) + 1))) (ρ 0).toNat 17).toNat (ρ 1)) (ρ 0).toNat 17) + 1)))) r h) ∨ (¬ (ρ 1 < 41) ∧ g_run RX12 ax CE cX12_opened n' (47, ρ, [], L, (g_up (g_up (g_up g (ρ 0).toNat 18 (g_i ((g (ρ 0).toNat 18) + 1))) ((g_up g (ρ 0).toNat 18 (g_i ((g (ρ 0).toNat 18) + 1))) (ρ 0).toNat 15).toNat ((g_up g (ρ 0).toNat 18 (g_i ((g (ρ 0).toNat 18) + 1))) (ρ 0).toNat 17).toNat (ρ 1)) (ρ 0).toNat 17 (g_i (((g_up (g_up g (ρ 0).toNat 18 (g_i ((g (ρ 0).toNat 18) + 1))) ((g_up g (ρ 0).toNat 18 (g_i ((g (ρ 0).toNat 18) + 1))) (ρ 0).toNat 15).toNat ((g_up g (ρ 0).toNat 18 (g_i ((g (ρ 0).toNat 18) + 1))) (ρ 0).toNat 17).toNat (ρ 1)) (ρ 0).toNat 17) + 1)))) r h)) := by
  obtain ⟨n1, e, h1⟩ := g_blk_ok noX12 jI_X12_opened tab_X12 21 n hr (c2 := (if ρ 1 < 41 then 77 else 47, ρ, [], L, (g_up (g_up (g_up g (ρ 0).toNat 18 (g_i ((g (ρ 0).toNat 18) + 1))) ((g_up g (ρ 0).toNat 18 (g_i ((g (ρ 0).toNat 18) + 1))) (ρ 0).toNat 15).toNat ((g_up g (ρ 0).toNat 18 (g_i ((g (ρ 0).toNat 18) + 1))) (ρ 0).toNat 17).toNat (ρ 1)) (ρ 0).toNat 17 (g_i (((g_up (g_up g (ρ 0).toNat 18 (g_i ((g (ρ 0).toNat 18) + 1))) ((g_up g (ρ 0).toNat 18 (g_i ((g (ρ 0).toNat 18) + 1))) (ρ 0).toNat 15).toNat ((g_up g (ρ 0).toNat 18 (g_i ((g (ρ 0).toNat 18) + 1))) (ρ 0).toNat 17).toNat (ρ 1)) (ρ 0).toNat 17) + 1))))) rfl
  refine ⟨n1, by omega, ?_⟩
  by_cases hc : ρ 1 < 41
  · exact Or.inl ⟨hc, by rw [if_pos hc] at h1; exact h1⟩
  · exact Or.inr ⟨hc, by rw [if_neg hc] at h1; exact h1⟩
theorem bk_X12_opened_47 {ax : zAx} {CE : g_E} {n : Nat} {ρ : Nat → Int} {L : List Nat} {g : Nat → Nat → Int} {r : Option g_V} {h : g_H} (hr : g_run RX12 ax CE cX12_opened n (47, ρ, [], L, g) r h) : ∃ n' r1 h1', n' < n ∧ CE yX12_emit cX12_emit [(0, ρ 0), (1, 30), (2, 0)] (L, (g_up (g_up g (g (ρ 0).toNat 16).toNat (g (ρ 0).toNat 19).toNat (g (ρ 0).toNat 13)) (ρ 0).toNat 19 (g_i (((g_up g (g (ρ 0).toNat 16).toNat (g (ρ 0).toNat 19).toNat (g (ρ 0).toNat 13)) (ρ 0).toNat 19) + 1)))) r1 h1' ∧ g_run RX12 ax CE cX12_opened n' (77, ρ, g_push r1 [], h1') r h := by
  obtain ⟨n1, e, h1⟩ := g_blk_ok noX12 jI_X12_opened tab_X12 16 n hr (c2 := (74, ρ, [(1, 0), (1, 30), (1, ρ 0)], L, (g_up (g_up g (g (ρ 0).toNat 16).toNat (g (ρ 0).toNat 19).toNat (g (ρ 0).toNat 13)) (ρ 0).toNat 19 (g_i (((g_up g (g (ρ 0).toNat 16).toNat (g (ρ 0).toNat 19).toNat (g (ρ 0).toNat 13)) (ρ 0).toNat 19) + 1))))) rfl
  obtain ⟨n2, c', e2, h2, h3⟩ := g_step_un noX12 (i := .invokevirtual 206) (len := 3) (jI_X12_opened 74 _ rfl) (gnrV _) h1
  obtain ⟨r1, h1', hx, hc⟩ := g_virt_un lk_X12 nat_all lX12_ok (idx := 206) (mi := 96) (ci := 12) (na := 3) rfl (by decide) mq_X12_emit [(1, 30), (1, 0)] [] (ρ 0) rfl rfl h2
  subst hc
  exact ⟨n2, r1, h1', by omega, hx, h3⟩
theorem bk_X12_opened_77 {ax : zAx} {CE : g_E} {n : Nat} {ρ : Nat → Int} {L : List Nat} {g : Nat → Nat → Int} {r : Option g_V} {h : g_H} (hr : g_run RX12 ax CE cX12_opened n (77, ρ, [], L, g) r h) : ∃ n' r1 h1', n' < n ∧ CE yX12_nextToken cX12_nextToken [(0, ρ 0)] (L, g) r1 h1' ∧ g_run RX12 ax CE cX12_opened n' (81, ρ, g_push r1 [], h1') r h := by
  obtain ⟨n1, e, h1⟩ := g_blk_ok noX12 jI_X12_opened tab_X12 1 n hr (c2 := (78, ρ, [(1, ρ 0)], L, g)) rfl
  obtain ⟨n2, c', e2, h2, h3⟩ := g_step_un noX12 (i := .invokevirtual 217) (len := 3) (jI_X12_opened 78 _ rfl) (gnrV _) h1
  obtain ⟨r1, h1', hx, hc⟩ := g_virt_un lk_X12 nat_all lX12_ok (idx := 217) (mi := 146) (ci := 12) (na := 1) rfl (by decide) mq_X12_nextToken [] [] (ρ 0) rfl rfl h2
  subst hc
  exact ⟨n2, r1, h1', by omega, hx, h3⟩
theorem bk_X12_opened_81 {ax : zAx} {CE : g_E} {n : Nat} {ρ : Nat → Int} {L : List Nat} {g : Nat → Nat → Int} {r : Option g_V} {h : g_H} (hr : g_run RX12 ax CE cX12_opened n (81, ρ, [], L, g) r h) : r = some (1, 0) ∧ h = (L, g) := by
  obtain ⟨n1, e, h1⟩ := g_blk_ok noX12 jI_X12_opened tab_X12 1 n hr (c2 := (82, ρ, [(1, 0)], L, g)) rfl
  exact g_ret_un noX12 (i := .ireturn) (jI_X12_opened 82 _ rfl) (by decide) h1
theorem pt_X12_opened_0 {ax : zAx} {CE : g_E} (hCE : ∀ y cc as h r h', CE y cc as h r h' → g_ex ax y cc as h r h') {n : Nat} {ρ : Nat → Int} {L : List Nat} {g : Nat → Nat → Int} {r : Option g_V} {h : g_H} (h0 : g_run RX12 ax CE cX12_opened n (0, ρ, [], L, g) r h) : ((g (ρ 0).toNat 18 = 8 ∧ (r = some (1, 3) ∧ h = (L, g))) ∨ (¬ (g (ρ 0).toNat 18 = 8) ∧ (((ρ 1) < 41 ∧ (∃ n' r1 h1', n' < n ∧ CE yX12_nextToken cX12_nextToken [(0, (ρ 0))] (L, (g_up (g_up (g_up g (ρ 0).toNat 18 (g_i ((g (ρ 0).toNat 18) + 1))) (g (ρ 0).toNat 15).toNat (g (ρ 0).toNat 17).toNat (ρ 1)) (ρ 0).toNat 17 (g_i (((g_up (g_up g (ρ 0).toNat 18 (g_i ((g (ρ 0).toNat 18) + 1))) (g (ρ 0).toNat 15).toNat (g (ρ 0).toNat 17).toNat (ρ 1)) (ρ 0).toNat 17) + 1)))) r1 h1' ∧ g_run RX12 ax CE cX12_opened n' (81, ρ, g_push r1 [], h1') r h)) ∨ (¬ ((ρ 1) < 41) ∧ (∃ n' r1 h1', n' < n ∧ CE yX12_nextToken cX12_nextToken [(0, (ρ 0))] (L, (F_X12_emit (ρ 0) 30 0 (g_up (g_up (g_up (g_up (g_up g (ρ 0).toNat 18 (g_i ((g (ρ 0).toNat 18) + 1))) (g (ρ 0).toNat 15).toNat (g (ρ 0).toNat 17).toNat (ρ 1)) (ρ 0).toNat 17 (g_i (((g_up (g_up g (ρ 0).toNat 18 (g_i ((g (ρ 0).toNat 18) + 1))) (g (ρ 0).toNat 15).toNat (g (ρ 0).toNat 17).toNat (ρ 1)) (ρ 0).toNat 17) + 1))) ((g_up (g_up g (ρ 0).toNat 18 (g_i ((g (ρ 0).toNat 18) + 1))) (g (ρ 0).toNat 15).toNat (g (ρ 0).toNat 17).toNat (ρ 1)) (ρ 0).toNat 16).toNat ((g_up (g_up g (ρ 0).toNat 18 (g_i ((g (ρ 0).toNat 18) + 1))) (g (ρ 0).toNat 15).toNat (g (ρ 0).toNat 17).toNat (ρ 1)) (ρ 0).toNat 19).toNat ((g_up (g_up g (ρ 0).toNat 18 (g_i ((g (ρ 0).toNat 18) + 1))) (g (ρ 0).toNat 15).toNat (g (ρ 0).toNat 17).toNat (ρ 1)) (ρ 0).toNat 13)) (ρ 0).toNat 19 (g_i (((g_up (g_up (g_up (g_up g (ρ 0).toNat 18 (g_i ((g (ρ 0).toNat 18) + 1))) (g (ρ 0).toNat 15).toNat (g (ρ 0).toNat 17).toNat (ρ 1)) (ρ 0).toNat 17 (g_i (((g_up (g_up g (ρ 0).toNat 18 (g_i ((g (ρ 0).toNat 18) + 1))) (g (ρ 0).toNat 15).toNat (g (ρ 0).toNat 17).toNat (ρ 1)) (ρ 0).toNat 17) + 1))) ((g_up (g_up g (ρ 0).toNat 18 (g_i ((g (ρ 0).toNat 18) + 1))) (g (ρ 0).toNat 15).toNat (g (ρ 0).toNat 17).toNat (ρ 1)) (ρ 0).toNat 16).toNat ((g_up (g_up g (ρ 0).toNat 18 (g_i ((g (ρ 0).toNat 18) + 1))) (g (ρ 0).toNat 15).toNat (g (ρ 0).toNat 17).toNat (ρ 1)) (ρ 0).toNat 19).toNat ((g_up (g_up g (ρ 0).toNat 18 (g_i ((g (ρ 0).toNat 18) + 1))) (g (ρ 0).toNat 15).toNat (g (ρ 0).toNat 17).toNat (ρ 1)) (ρ 0).toNat 13)) (ρ 0).toNat 19) + 1))))) r1 h1' ∧ g_run RX12 ax CE cX12_opened n' (81, ρ, g_push r1 [], h1') r h))))) := by
  obtain ⟨n1, l1, h1⟩ := bk_X12_opened_0 h0
  rcases h1 with ⟨c1, h1⟩ | ⟨c1, h1⟩
  · refine Or.inl ⟨c1, ?_⟩
    obtain ⟨e2, d2⟩ := bk_X12_opened_9 h1
    exact ⟨e2, d2⟩
  · refine Or.inr ⟨c1, ?_⟩
    obtain ⟨n3, l3, h3⟩ := bk_X12_opened_11 h1
    rcases h3 with ⟨c3, h3⟩ | ⟨c3, h3⟩
    · refine Or.inl ⟨c3, ?_⟩
      obtain ⟨n4, r4, k4, l4, x4, h4⟩ := bk_X12_opened_77 h3
      exact ⟨n4, r4, k4, by omega, x4, h4⟩
    · refine Or.inr ⟨c3, ?_⟩
      obtain ⟨n5, r5, k5, l5, x5, h5⟩ := bk_X12_opened_47 h3
      obtain ⟨e5, d5⟩ := f_X12_emit (hCE _ _ _ _ _ _ x5)
      subst e5
      subst d5
      obtain ⟨n6, r6, k6, l6, x6, h6⟩ := bk_X12_opened_77 h5
      exact ⟨n6, r6, k6, by omega, x6, h6⟩
theorem pt_X12_opened_81 {ax : zAx} {CE : g_E} (hCE : ∀ y cc as h r h', CE y cc as h r h' → g_ex ax y cc as h r h') {n : Nat} {ρ : Nat → Int} {L : List Nat} {g : Nat → Nat → Int} {r : Option g_V} {h : g_H} (h0 : g_run RX12 ax CE cX12_opened n (81, ρ, [], L, g) r h) : (r = some (1, 0) ∧ h = (L, g)) := by
  obtain ⟨e1, d1⟩ := bk_X12_opened_81 h0
  exact ⟨e1, d1⟩

theorem jI_X12_beginOne : ∀ (pc : Nat) (q : Instr × Nat), lkp iX12_beginOne pc = some q → decode cX12_beginOne pc = .ok q := fun pc q hq => jX12_beginOne (pc, q) (lkp_in iX12_beginOne hq)
theorem bk_X12_beginOne_0 {ax : zAx} {CE : g_E} {n : Nat} {ρ : Nat → Int} {L : List Nat} {g : Nat → Nat → Int} {r : Option g_V} {h : g_H} (hr : g_run RX12 ax CE cX12_beginOne n (0, ρ, [], L, g) r h) : ∃ n', n' < n ∧ ((g (ρ 0).toNat 9 = 1 ∧ g_run RX12 ax CE cX12_beginOne n' (8, ρ, [], L, g) r h) ∨ (¬ (g (ρ 0).toNat 9 = 1) ∧ g_run RX12 ax CE cX12_beginOne n' (20, ρ, [], L, g) r h)) := by
  obtain ⟨n1, e, h1⟩ := g_blk_ok noX12 jI_X12_beginOne tab_X12 4 n hr (c2 := (if g (ρ 0).toNat 9 = 1 then 8 else 20, ρ, [], L, g)) rfl
  refine ⟨n1, by omega, ?_⟩
  by_cases hc : g (ρ 0).toNat 9 = 1
  · exact Or.inl ⟨hc, by rw [if_pos hc] at h1; exact h1⟩
  · exact Or.inr ⟨hc, by rw [if_neg hc] at h1; exact h1⟩
theorem bk_X12_beginOne_8 {ax : zAx} {CE : g_E} {n : Nat} {ρ : Nat → Int} {L : List Nat} {g : Nat → Nat → Int} {r : Option g_V} {h : g_H} (hr : g_run RX12 ax CE cX12_beginOne n (8, ρ, [], L, g) r h) : ∃ n', n' < n ∧ ((g (ρ 0).toNat 10 ≤ 9999 ∧ g_run RX12 ax CE cX12_beginOne n' (20, ρ, [], L, g) r h) ∨ (¬ (g (ρ 0).toNat 10 ≤ 9999) ∧ g_run RX12 ax CE cX12_beginOne n' (18, ρ, [], L, g) r h)) := by
  obtain ⟨n1, e, h1⟩ := g_blk_ok noX12 jI_X12_beginOne tab_X12 4 n hr (c2 := (if g (ρ 0).toNat 10 ≤ 9999 then 20 else 18, ρ, [], L, g)) rfl
  refine ⟨n1, by omega, ?_⟩
  by_cases hc : g (ρ 0).toNat 10 ≤ 9999
  · exact Or.inl ⟨hc, by rw [if_pos hc] at h1; exact h1⟩
  · exact Or.inr ⟨hc, by rw [if_neg hc] at h1; exact h1⟩
theorem bk_X12_beginOne_18 {ax : zAx} {CE : g_E} {n : Nat} {ρ : Nat → Int} {L : List Nat} {g : Nat → Nat → Int} {r : Option g_V} {h : g_H} (hr : g_run RX12 ax CE cX12_beginOne n (18, ρ, [], L, g) r h) : r = some (1, 2) ∧ h = (L, g) := by
  obtain ⟨n1, e, h1⟩ := g_blk_ok noX12 jI_X12_beginOne tab_X12 1 n hr (c2 := (19, ρ, [(1, 2)], L, g)) rfl
  exact g_ret_un noX12 (i := .ireturn) (jI_X12_beginOne 19 _ rfl) (by decide) h1
theorem bk_X12_beginOne_20 {ax : zAx} {CE : g_E} {n : Nat} {ρ : Nat → Int} {L : List Nat} {g : Nat → Nat → Int} {r : Option g_V} {h : g_H} (hr : g_run RX12 ax CE cX12_beginOne n (20, ρ, [], L, g) r h) : ∃ n' r1 h1', n' < n ∧ CE yX12_nameOf cX12_nameOf [(0, ρ 0)] (L, g) r1 h1' ∧ g_run RX12 ax CE cX12_beginOne n' (24, ρ, g_push r1 [], h1') r h := by
  obtain ⟨n1, e, h1⟩ := g_blk_ok noX12 jI_X12_beginOne tab_X12 1 n hr (c2 := (21, ρ, [(1, ρ 0)], L, g)) rfl
  obtain ⟨n2, c', e2, h2, h3⟩ := g_step_un noX12 (i := .invokevirtual 220) (len := 3) (jI_X12_beginOne 21 _ rfl) (gnrV _) h1
  obtain ⟨r1, h1', hx, hc⟩ := g_virt_un lk_X12 nat_all lX12_ok (idx := 220) (mi := 140) (ci := 12) (na := 1) rfl (by decide) mq_X12_nameOf [] [] (ρ 0) rfl rfl h2
  subst hc
  exact ⟨n2, r1, h1', by omega, hx, h3⟩
theorem bk_X12_beginOne_24 {ax : zAx} {CE : g_E} {n : Nat} {ρ : Nat → Int} {s0 : Int} {L : List Nat} {g : Nat → Nat → Int} {r : Option g_V} {h : g_H} (hr : g_run RX12 ax CE cX12_beginOne n (24, ρ, [(1, s0)], L, g) r h) : ∃ n', n' < n ∧ ((s0 < 0 ∧ g_run RX12 ax CE cX12_beginOne n' (39, (va_up ρ 1 s0), [], L, g) r h) ∨ (¬ (s0 < 0) ∧ g_run RX12 ax CE cX12_beginOne n' (29, (va_up ρ 1 s0), [], L, g) r h)) := by
  obtain ⟨n1, e, h1⟩ := g_blk_ok noX12 jI_X12_beginOne tab_X12 3 n hr (c2 := (if s0 < 0 then 39 else 29, (va_up ρ 1 s0), [], L, g)) rfl
  refine ⟨n1, by omega, ?_⟩
  by_cases hc : s0 < 0
  · exact Or.inl ⟨hc, by rw [if_pos hc] at h1; exact h1⟩
  · exact Or.inr ⟨hc, by rw [if_neg hc] at h1; exact h1⟩
theorem bk_X12_beginOne_29 {ax : zAx} {CE : g_E} {n : Nat} {ρ : Nat → Int} {L : List Nat} {g : Nat → Nat → Int} {r : Option g_V} {h : g_H} (hr : g_run RX12 ax CE cX12_beginOne n (29, ρ, [], L, g) r h) : ∃ n' r1 h1', n' < n ∧ CE yX12_isOf cX12_isOf [(0, ρ 0), (1, ρ 1)] (L, g) r1 h1' ∧ g_run RX12 ax CE cX12_beginOne n' (34, ρ, g_push r1 [], h1') r h := by
  obtain ⟨n1, e, h1⟩ := g_blk_ok noX12 jI_X12_beginOne tab_X12 2 n hr (c2 := (31, ρ, [(1, ρ 1), (1, ρ 0)], L, g)) rfl
  obtain ⟨n2, c', e2, h2, h3⟩ := g_step_un noX12 (i := .invokevirtual 223) (len := 3) (jI_X12_beginOne 31 _ rfl) (gnrV _) h1
  obtain ⟨r1, h1', hx, hc⟩ := g_virt_un lk_X12 nat_all lX12_ok (idx := 223) (mi := 128) (ci := 12) (na := 2) rfl (by decide) mq_X12_isOf [(1, ρ 1)] [] (ρ 0) rfl rfl h2
  subst hc
  exact ⟨n2, r1, h1', by omega, hx, h3⟩
theorem bk_X12_beginOne_34 {ax : zAx} {CE : g_E} {n : Nat} {ρ : Nat → Int} {s0 : Int} {L : List Nat} {g : Nat → Nat → Int} {r : Option g_V} {h : g_H} (hr : g_run RX12 ax CE cX12_beginOne n (34, ρ, [(1, s0)], L, g) r h) : ∃ n', n' < n ∧ ((s0 = 0 ∧ g_run RX12 ax CE cX12_beginOne n' (37, ρ, [], L, g) r h) ∨ (¬ (s0 = 0) ∧ g_run RX12 ax CE cX12_beginOne n' (39, ρ, [], L, g) r h)) := by
  obtain ⟨n1, e, h1⟩ := g_blk_ok noX12 jI_X12_beginOne tab_X12 1 n hr (c2 := (if s0 = 0 then 37 else 39, ρ, [], L, g)) rfl
  refine ⟨n1, by omega, ?_⟩
  by_cases hc : s0 = 0
  · exact Or.inl ⟨hc, by rw [if_pos hc] at h1; exact h1⟩
  · exact Or.inr ⟨hc, by rw [if_neg hc] at h1; exact h1⟩
theorem bk_X12_beginOne_37 {ax : zAx} {CE : g_E} {n : Nat} {ρ : Nat → Int} {L : List Nat} {g : Nat → Nat → Int} {r : Option g_V} {h : g_H} (hr : g_run RX12 ax CE cX12_beginOne n (37, ρ, [], L, g) r h) : r = some (1, 5) ∧ h = (L, g) := by
  obtain ⟨n1, e, h1⟩ := g_blk_ok noX12 jI_X12_beginOne tab_X12 1 n hr (c2 := (38, ρ, [(1, 5)], L, g)) rfl
  exact g_ret_un noX12 (i := .ireturn) (jI_X12_beginOne 38 _ rfl) (by decide) h1
theorem bk_X12_beginOne_39 {ax : zAx} {CE : g_E} {n : Nat} {ρ : Nat → Int} {L : List Nat} {g : Nat → Nat → Int} {r : Option g_V} {h : g_H} (hr : g_run RX12 ax CE cX12_beginOne n (39, ρ, [], L, g) r h) : ∃ n', n' < n ∧ ((g (ρ 0).toNat 9 = 1 ∧ g_run RX12 ax CE cX12_beginOne n' (51, ρ, [], L, g) r h) ∨ (¬ (g (ρ 0).toNat 9 = 1) ∧ g_run RX12 ax CE cX12_beginOne n' (47, ρ, [], L, g) r h)) := by
  obtain ⟨n1, e, h1⟩ := g_blk_ok noX12 jI_X12_beginOne tab_X12 4 n hr (c2 := (if g (ρ 0).toNat 9 = 1 then 51 else 47, ρ, [], L, g)) rfl
  refine ⟨n1, by omega, ?_⟩
  by_cases hc : g (ρ 0).toNat 9 = 1
  · exact Or.inl ⟨hc, by rw [if_pos hc] at h1; exact h1⟩
  · exact Or.inr ⟨hc, by rw [if_neg hc] at h1; exact h1⟩
theorem bk_X12_beginOne_47 {ax : zAx} {CE : g_E} {n : Nat} {ρ : Nat → Int} {L : List Nat} {g : Nat → Nat → Int} {r : Option g_V} {h : g_H} (hr : g_run RX12 ax CE cX12_beginOne n (47, ρ, [], L, g) r h) : ∃ n', n' < n ∧ ((ρ 1 < 0 ∧ g_run RX12 ax CE cX12_beginOne n' (101, ρ, [], L, g) r h) ∨ (¬ (ρ 1 < 0) ∧ g_run RX12 ax CE cX12_beginOne n' (51, ρ, [], L, g) r h)) := by
  obtain ⟨n1, e, h1⟩ := g_blk_ok noX12 jI_X12_beginOne tab_X12 2 n hr (c2 := (if ρ 1 < 0 then 101 else 51, ρ, [], L, g)) rfl
  refine ⟨n1, by omega, ?_⟩
  by_cases hc : ρ 1 < 0
  · exact Or.inl ⟨hc, by rw [if_pos hc] at h1; exact h1⟩
  · exact Or.inr ⟨hc, by rw [if_neg hc] at h1; exact h1⟩
theorem bk_X12_beginOne_51 {ax : zAx} {CE : g_E} {n : Nat} {ρ : Nat → Int} {L : List Nat} {g : Nat → Nat → Int} {r : Option g_V} {h : g_H} (hr : g_run RX12 ax CE cX12_beginOne n (51, ρ, [], L, g) r h) : ∃ n', n' < n ∧ ((g (ρ 0).toNat 9 = 1 ∧ g_run RX12 ax CE cX12_beginOne n' (60, ρ, [(1, ρ 0)], L, g) r h) ∨ (¬ (g (ρ 0).toNat 9 = 1) ∧ g_run RX12 ax CE cX12_beginOne n' (64, ρ, [(1, ρ 0)], L, g) r h)) := by
  obtain ⟨n1, e, h1⟩ := g_blk_ok noX12 jI_X12_beginOne tab_X12 5 n hr (c2 := (if g (ρ 0).toNat 9 = 1 then 60 else 64, ρ, [(1, ρ 0)], L, g)) rfl
  refine ⟨n1, by omega, ?_⟩
  by_cases hc : g (ρ 0).toNat 9 = 1
  · exact Or.inl ⟨hc, by rw [if_pos hc] at h1; exact h1⟩
  · exact Or.inr ⟨hc, by rw [if_neg hc] at h1; exact h1⟩
theorem bk_X12_beginOne_60 {ax : zAx} {CE : g_E} {n : Nat} {ρ : Nat → Int} {s0 : Int} {L : List Nat} {g : Nat → Nat → Int} {r : Option g_V} {h : g_H} (hr : g_run RX12 ax CE cX12_beginOne n (60, ρ, [(1, s0)], L, g) r h) : ∃ n', n' < n ∧ g_run RX12 ax CE cX12_beginOne n' (65, ρ, [(1, 0), (1, s0)], L, g) r h := by
  obtain ⟨n1, e, h1⟩ := g_blk_ok noX12 jI_X12_beginOne tab_X12 2 n hr (c2 := (65, ρ, [(1, 0), (1, s0)], L, g)) rfl
  exact ⟨n1, by omega, h1⟩
theorem bk_X12_beginOne_64 {ax : zAx} {CE : g_E} {n : Nat} {ρ : Nat → Int} {s0 : Int} {L : List Nat} {g : Nat → Nat → Int} {r : Option g_V} {h : g_H} (hr : g_run RX12 ax CE cX12_beginOne n (64, ρ, [(1, s0)], L, g) r h) : ∃ n', n' < n ∧ g_run RX12 ax CE cX12_beginOne n' (65, ρ, [(1, 1), (1, s0)], L, g) r h := by
  obtain ⟨n1, e, h1⟩ := g_blk_ok noX12 jI_X12_beginOne tab_X12 1 n hr (c2 := (65, ρ, [(1, 1), (1, s0)], L, g)) rfl
  exact ⟨n1, by omega, h1⟩
theorem bk_X12_beginOne_65 {ax : zAx} {CE : g_E} {n : Nat} {ρ : Nat → Int} {s0 : Int} {s1 : Int} {L : List Nat} {g : Nat → Nat → Int} {r : Option g_V} {h : g_H} (hr : g_run RX12 ax CE cX12_beginOne n (65, ρ, [(1, s0), (1, s1)], L, g) r h) : ∃ n', n' < n ∧ ((g (ρ 0).toNat 9 = 1 ∧ g_run RX12 ax CE cX12_beginOne n' (73, ρ, [(1, s0), (1, s1)], L, g) r h) ∨ (¬ (g (ρ 0).toNat 9 = 1) ∧ g_run RX12 ax CE cX12_beginOne n' (80, ρ, [(1, s0), (1, s1)], L, g) r h)) := by
  obtain ⟨n1, e, h1⟩ := g_blk_ok noX12 jI_X12_beginOne tab_X12 4 n hr (c2 := (if g (ρ 0).toNat 9 = 1 then 73 else 80, ρ, [(1, s0), (1, s1)], L, g)) rfl
  refine ⟨n1, by omega, ?_⟩
  by_cases hc : g (ρ 0).toNat 9 = 1
  · exact Or.inl ⟨hc, by rw [if_pos hc] at h1; exact h1⟩
  · exact Or.inr ⟨hc, by rw [if_neg hc] at h1; exact h1⟩
theorem bk_X12_beginOne_73 {ax : zAx} {CE : g_E} {n : Nat} {ρ : Nat → Int} {s0 : Int} {s1 : Int} {L : List Nat} {g : Nat → Nat → Int} {r : Option g_V} {h : g_H} (hr : g_run RX12 ax CE cX12_beginOne n (73, ρ, [(1, s0), (1, s1)], L, g) r h) : ∃ n', n' < n ∧ g_run RX12 ax CE cX12_beginOne n' (81, ρ, [(1, g (ρ 0).toNat 10), (1, s0), (1, s1)], L, g) r h := by
  obtain ⟨n1, e, h1⟩ := g_blk_ok noX12 jI_X12_beginOne tab_X12 3 n hr (c2 := (81, ρ, [(1, g (ρ 0).toNat 10), (1, s0), (1, s1)], L, g)) rfl
  exact ⟨n1, by omega, h1⟩
theorem bk_X12_beginOne_80 {ax : zAx} {CE : g_E} {n : Nat} {ρ : Nat → Int} {s0 : Int} {s1 : Int} {L : List Nat} {g : Nat → Nat → Int} {r : Option g_V} {h : g_H} (hr : g_run RX12 ax CE cX12_beginOne n (80, ρ, [(1, s0), (1, s1)], L, g) r h) : ∃ n', n' < n ∧ g_run RX12 ax CE cX12_beginOne n' (81, ρ, [(1, ρ 1), (1, s0), (1, s1)], L, g) r h := by
  obtain ⟨n1, e, h1⟩ := g_blk_ok noX12 jI_X12_beginOne tab_X12 1 n hr (c2 := (81, ρ, [(1, ρ 1), (1, s0), (1, s1)], L, g)) rfl
  exact ⟨n1, by omega, h1⟩
theorem bk_X12_beginOne_81 {ax : zAx} {CE : g_E} {n : Nat} {ρ : Nat → Int} {s0 : Int} {s1 : Int} {s2 : Int} {L : List Nat} {g : Nat → Nat → Int} {r : Option g_V} {h : g_H} (hr : g_run RX12 ax CE cX12_beginOne n (81, ρ, [(1, s0), (1, s1), (1, s2)], L, g) r h) : ∃ n' r1 h1', n' < n ∧ CE yX12_emit cX12_emit [(0, s2), (1, s1), (2, s0)] (L, g) r1 h1' ∧ g_run RX12 ax CE cX12_beginOne n' (84, ρ, g_push r1 [], h1') r h := by
  obtain ⟨n1, e, h1⟩ := g_blk_ok noX12 jI_X12_beginOne tab_X12 0 n hr (c2 := (81, ρ, [(1, s0), (1, s1), (1, s2)], L, g)) rfl
  obtain ⟨n2, c', e2, h2, h3⟩ := g_step_un noX12 (i := .invokevirtual 206) (len := 3) (jI_X12_beginOne 81 _ rfl) (gnrV _) h1
  obtain ⟨r1, h1', hx, hc⟩ := g_virt_un lk_X12 nat_all lX12_ok (idx := 206) (mi := 96) (ci := 12) (na := 3) rfl (by decide) mq_X12_emit [(1, s1), (1, s0)] [] s2 rfl rfl h2
  subst hc
  exact ⟨n2, r1, h1', by omega, hx, h3⟩
theorem bk_X12_beginOne_84 {ax : zAx} {CE : g_E} {n : Nat} {ρ : Nat → Int} {L : List Nat} {g : Nat → Nat → Int} {r : Option g_V} {h : g_H} (hr : g_run RX12 ax CE cX12_beginOne n (84, ρ, [], L, g) r h) : ∃ n' r1 h1', n' < n ∧ CE yX12_nextToken cX12_nextToken [(0, ρ 0)] (L, g) r1 h1' ∧ g_run RX12 ax CE cX12_beginOne n' (88, ρ, g_push r1 [], h1') r h := by
  obtain ⟨n1, e, h1⟩ := g_blk_ok noX12 jI_X12_beginOne tab_X12 1 n hr (c2 := (85, ρ, [(1, ρ 0)], L, g)) rfl
  obtain ⟨n2, c', e2, h2, h3⟩ := g_step_un noX12 (i := .invokevirtual 217) (len := 3) (jI_X12_beginOne 85 _ rfl) (gnrV _) h1
  obtain ⟨r1, h1', hx, hc⟩ := g_virt_un lk_X12 nat_all lX12_ok (idx := 217) (mi := 146) (ci := 12) (na := 1) rfl (by decide) mq_X12_nextToken [] [] (ρ 0) rfl rfl h2
  subst hc
  exact ⟨n2, r1, h1', by omega, hx, h3⟩
theorem bk_X12_beginOne_88 {ax : zAx} {CE : g_E} {n : Nat} {ρ : Nat → Int} {L : List Nat} {g : Nat → Nat → Int} {r : Option g_V} {h : g_H} (hr : g_run RX12 ax CE cX12_beginOne n (88, ρ, [], L, g) r h) : ∃ n' r1 h1', n' < n ∧ CE yX12_settle cX12_settle [(0, ρ 0), (1, 7)] (L, (g_up g (ρ 0).toNat 20 1)) r1 h1' ∧ g_run RX12 ax CE cX12_beginOne n' (99, ρ, g_push r1 [], h1') r h := by
  obtain ⟨n1, e, h1⟩ := g_blk_ok noX12 jI_X12_beginOne tab_X12 5 n hr (c2 := (96, ρ, [(1, 7), (1, ρ 0)], L, (g_up g (ρ 0).toNat 20 1))) rfl
  obtain ⟨n2, c', e2, h2, h3⟩ := g_step_un noX12 (i := .invokevirtual 230) (len := 3) (jI_X12_beginOne 96 _ rfl) (gnrV _) h1
  obtain ⟨r1, h1', hx, hc⟩ := g_virt_un lk_X12 nat_all lX12_ok (idx := 230) (mi := 171) (ci := 12) (na := 2) rfl (by decide) mq_X12_settle [(1, 7)] [] (ρ 0) rfl rfl h2
  subst hc
  exact ⟨n2, r1, h1', by omega, hx, h3⟩
theorem bk_X12_beginOne_99 {ax : zAx} {CE : g_E} {n : Nat} {ρ : Nat → Int} {L : List Nat} {g : Nat → Nat → Int} {r : Option g_V} {h : g_H} (hr : g_run RX12 ax CE cX12_beginOne n (99, ρ, [], L, g) r h) : r = some (1, 0) ∧ h = (L, g) := by
  obtain ⟨n1, e, h1⟩ := g_blk_ok noX12 jI_X12_beginOne tab_X12 1 n hr (c2 := (100, ρ, [(1, 0)], L, g)) rfl
  exact g_ret_un noX12 (i := .ireturn) (jI_X12_beginOne 100 _ rfl) (by decide) h1
theorem bk_X12_beginOne_101 {ax : zAx} {CE : g_E} {n : Nat} {ρ : Nat → Int} {L : List Nat} {g : Nat → Nat → Int} {r : Option g_V} {h : g_H} (hr : g_run RX12 ax CE cX12_beginOne n (101, ρ, [], L, g) r h) : ∃ n', n' < n ∧ ((g (ρ 0).toNat 9 = 40 ∧ g_run RX12 ax CE cX12_beginOne n' (110, ρ, [], L, g) r h) ∨ (¬ (g (ρ 0).toNat 9 = 40) ∧ g_run RX12 ax CE cX12_beginOne n' (117, ρ, [], L, g) r h)) := by
  obtain ⟨n1, e, h1⟩ := g_blk_ok noX12 jI_X12_beginOne tab_X12 4 n hr (c2 := (if g (ρ 0).toNat 9 = 40 then 110 else 117, ρ, [], L, g)) rfl
  refine ⟨n1, by omega, ?_⟩
  by_cases hc : g (ρ 0).toNat 9 = 40
  · exact Or.inl ⟨hc, by rw [if_pos hc] at h1; exact h1⟩
  · exact Or.inr ⟨hc, by rw [if_neg hc] at h1; exact h1⟩
theorem bk_X12_beginOne_110 {ax : zAx} {CE : g_E} {n : Nat} {ρ : Nat → Int} {L : List Nat} {g : Nat → Nat → Int} {r : Option g_V} {h : g_H} (hr : g_run RX12 ax CE cX12_beginOne n (110, ρ, [], L, g) r h) : ∃ n' r1 h1', n' < n ∧ CE yX12_opened cX12_opened [(0, ρ 0), (1, 40)] (L, g) r1 h1' ∧ g_run RX12 ax CE cX12_beginOne n' (116, ρ, g_push r1 [], h1') r h := by
  obtain ⟨n1, e, h1⟩ := g_blk_ok noX12 jI_X12_beginOne tab_X12 2 n hr (c2 := (113, ρ, [(1, 40), (1, ρ 0)], L, g)) rfl
  obtain ⟨n2, c', e2, h2, h3⟩ := g_step_un noX12 (i := .invokevirtual 233) (len := 3) (jI_X12_beginOne 113 _ rfl) (gnrV _) h1
  obtain ⟨r1, h1', hx, hc⟩ := g_virt_un lk_X12 nat_all lX12_ok (idx := 233) (mi := 152) (ci := 12) (na := 2) rfl (by decide) mq_X12_opened [(1, 40)] [] (ρ 0) rfl rfl h2
  subst hc
  exact ⟨n2, r1, h1', by omega, hx, h3⟩
theorem bk_X12_beginOne_116 {ax : zAx} {CE : g_E} {n : Nat} {ρ : Nat → Int} {s0 : Int} {L : List Nat} {g : Nat → Nat → Int} {r : Option g_V} {h : g_H} (hr : g_run RX12 ax CE cX12_beginOne n (116, ρ, [(1, s0)], L, g) r h) : r = some (1, s0) ∧ h = (L, g) := by
  obtain ⟨n1, e, h1⟩ := g_blk_ok noX12 jI_X12_beginOne tab_X12 0 n hr (c2 := (116, ρ, [(1, s0)], L, g)) rfl
  exact g_ret_un noX12 (i := .ireturn) (jI_X12_beginOne 116 _ rfl) (by decide) h1
theorem bk_X12_beginOne_117 {ax : zAx} {CE : g_E} {n : Nat} {ρ : Nat → Int} {L : List Nat} {g : Nat → Nat → Int} {r : Option g_V} {h : g_H} (hr : g_run RX12 ax CE cX12_beginOne n (117, ρ, [], L, g) r h) : ∃ n', n' < n ∧ ((g (ρ 0).toNat 9 = 45 ∧ g_run RX12 ax CE cX12_beginOne n' (126, ρ, [], L, g) r h) ∨ (¬ (g (ρ 0).toNat 9 = 45) ∧ g_run RX12 ax CE cX12_beginOne n' (132, ρ, [], L, g) r h)) := by
  obtain ⟨n1, e, h1⟩ := g_blk_ok noX12 jI_X12_beginOne tab_X12 4 n hr (c2 := (if g (ρ 0).toNat 9 = 45 then 126 else 132, ρ, [], L, g)) rfl
  refine ⟨n1, by omega, ?_⟩
  by_cases hc : g (ρ 0).toNat 9 = 45
  · exact Or.inl ⟨hc, by rw [if_pos hc] at h1; exact h1⟩
  · exact Or.inr ⟨hc, by rw [if_neg hc] at h1; exact h1⟩
theorem bk_X12_beginOne_126 {ax : zAx} {CE : g_E} {n : Nat} {ρ : Nat → Int} {L : List Nat} {g : Nat → Nat → Int} {r : Option g_V} {h : g_H} (hr : g_run RX12 ax CE cX12_beginOne n (126, ρ, [], L, g) r h) : ∃ n' r1 h1', n' < n ∧ CE yX12_opened cX12_opened [(0, ρ 0), (1, 2)] (L, g) r1 h1' ∧ g_run RX12 ax CE cX12_beginOne n' (131, ρ, g_push r1 [], h1') r h := by
  obtain ⟨n1, e, h1⟩ := g_blk_ok noX12 jI_X12_beginOne tab_X12 2 n hr (c2 := (128, ρ, [(1, 2), (1, ρ 0)], L, g)) rfl
  obtain ⟨n2, c', e2, h2, h3⟩ := g_step_un noX12 (i := .invokevirtual 233) (len := 3) (jI_X12_beginOne 128 _ rfl) (gnrV _) h1
  obtain ⟨r1, h1', hx, hc⟩ := g_virt_un lk_X12 nat_all lX12_ok (idx := 233) (mi := 152) (ci := 12) (na := 2) rfl (by decide) mq_X12_opened [(1, 2)] [] (ρ 0) rfl rfl h2
  subst hc
  exact ⟨n2, r1, h1', by omega, hx, h3⟩
theorem bk_X12_beginOne_131 {ax : zAx} {CE : g_E} {n : Nat} {ρ : Nat → Int} {s0 : Int} {L : List Nat} {g : Nat → Nat → Int} {r : Option g_V} {h : g_H} (hr : g_run RX12 ax CE cX12_beginOne n (131, ρ, [(1, s0)], L, g) r h) : r = some (1, s0) ∧ h = (L, g) := by
  obtain ⟨n1, e, h1⟩ := g_blk_ok noX12 jI_X12_beginOne tab_X12 0 n hr (c2 := (131, ρ, [(1, s0)], L, g)) rfl
  exact g_ret_un noX12 (i := .ireturn) (jI_X12_beginOne 131 _ rfl) (by decide) h1
theorem bk_X12_beginOne_132 {ax : zAx} {CE : g_E} {n : Nat} {ρ : Nat → Int} {L : List Nat} {g : Nat → Nat → Int} {r : Option g_V} {h : g_H} (hr : g_run RX12 ax CE cX12_beginOne n (132, ρ, [], L, g) r h) : ∃ n' r1 h1', n' < n ∧ CE yX12_w3 cX12_w3 [(0, 115), (1, 117), (2, 109)] (L, g) r1 h1' ∧ g_run RX12 ax CE cX12_beginOne n' (142, ρ, g_push r1 [(1, ρ 0)], h1') r h := by
  obtain ⟨n1, e, h1⟩ := g_blk_ok noX12 jI_X12_beginOne tab_X12 4 n hr (c2 := (139, ρ, [(1, 109), (1, 117), (1, 115), (1, ρ 0)], L, g)) rfl
  obtain ⟨n2, c', e2, h2, h3⟩ := g_step_un noX12 (i := .invokestatic 176) (len := 3) (jI_X12_beginOne 139 _ rfl) (gnrS _) h1
  obtain ⟨r1, h1', hx, hc⟩ := g_static_un lk_X12 nat_all lX12_ok (idx := 176) (mode := 1) (mi := 191) (ci := 0) (na := 3) rfl (by decide) (by decide) mq_X12_w3 [(1, 115), (1, 117), (1, 109)] [(1, ρ 0)] rfl rfl h2
  subst hc
  exact ⟨n2, r1, h1', by omega, hx, h3⟩
theorem bk_X12_beginOne_142 {ax : zAx} {CE : g_E} {n : Nat} {ρ : Nat → Int} {s0 : Int} {s1 : Int} {L : List Nat} {g : Nat → Nat → Int} {r : Option g_V} {h : g_H} (hr : g_run RX12 ax CE cX12_beginOne n (142, ρ, [(2, s0), (1, s1)], L, g) r h) : ∃ n' r1 h1', n' < n ∧ CE yX12_isWord cX12_isWord [(0, s1), (1, s0)] (L, g) r1 h1' ∧ g_run RX12 ax CE cX12_beginOne n' (145, ρ, g_push r1 [], h1') r h := by
  obtain ⟨n1, e, h1⟩ := g_blk_ok noX12 jI_X12_beginOne tab_X12 0 n hr (c2 := (142, ρ, [(2, s0), (1, s1)], L, g)) rfl
  obtain ⟨n2, c', e2, h2, h3⟩ := g_step_un noX12 (i := .invokevirtual 236) (len := 3) (jI_X12_beginOne 142 _ rfl) (gnrV _) h1
  obtain ⟨r1, h1', hx, hc⟩ := g_virt_un lk_X12 nat_all lX12_ok (idx := 236) (mi := 132) (ci := 12) (na := 2) rfl (by decide) mq_X12_isWord [(2, s0)] [] s1 rfl rfl h2
  subst hc
  exact ⟨n2, r1, h1', by omega, hx, h3⟩
theorem bk_X12_beginOne_145 {ax : zAx} {CE : g_E} {n : Nat} {ρ : Nat → Int} {s0 : Int} {L : List Nat} {g : Nat → Nat → Int} {r : Option g_V} {h : g_H} (hr : g_run RX12 ax CE cX12_beginOne n (145, ρ, [(1, s0)], L, g) r h) : ∃ n', n' < n ∧ ((s0 = 0 ∧ g_run RX12 ax CE cX12_beginOne n' (155, ρ, [], L, g) r h) ∨ (¬ (s0 = 0) ∧ g_run RX12 ax CE cX12_beginOne n' (148, ρ, [], L, g) r h)) := by
  obtain ⟨n1, e, h1⟩ := g_blk_ok noX12 jI_X12_beginOne tab_X12 1 n hr (c2 := (if s0 = 0 then 155 else 148, ρ, [], L, g)) rfl
  refine ⟨n1, by omega, ?_⟩
  by_cases hc : s0 = 0
  · exact Or.inl ⟨hc, by rw [if_pos hc] at h1; exact h1⟩
  · exact Or.inr ⟨hc, by rw [if_neg hc] at h1; exact h1⟩
theorem bk_X12_beginOne_148 {ax : zAx} {CE : g_E} {n : Nat} {ρ : Nat → Int} {L : List Nat} {g : Nat → Nat → Int} {r : Option g_V} {h : g_H} (hr : g_run RX12 ax CE cX12_beginOne n (148, ρ, [], L, g) r h) : ∃ n' r1 h1', n' < n ∧ CE yX12_opened cX12_opened [(0, ρ 0), (1, 41)] (L, g) r1 h1' ∧ g_run RX12 ax CE cX12_beginOne n' (154, ρ, g_push r1 [], h1') r h := by
  obtain ⟨n1, e, h1⟩ := g_blk_ok noX12 jI_X12_beginOne tab_X12 2 n hr (c2 := (151, ρ, [(1, 41), (1, ρ 0)], L, g)) rfl
  obtain ⟨n2, c', e2, h2, h3⟩ := g_step_un noX12 (i := .invokevirtual 233) (len := 3) (jI_X12_beginOne 151 _ rfl) (gnrV _) h1
  obtain ⟨r1, h1', hx, hc⟩ := g_virt_un lk_X12 nat_all lX12_ok (idx := 233) (mi := 152) (ci := 12) (na := 2) rfl (by decide) mq_X12_opened [(1, 41)] [] (ρ 0) rfl rfl h2
  subst hc
  exact ⟨n2, r1, h1', by omega, hx, h3⟩
theorem bk_X12_beginOne_154 {ax : zAx} {CE : g_E} {n : Nat} {ρ : Nat → Int} {s0 : Int} {L : List Nat} {g : Nat → Nat → Int} {r : Option g_V} {h : g_H} (hr : g_run RX12 ax CE cX12_beginOne n (154, ρ, [(1, s0)], L, g) r h) : r = some (1, s0) ∧ h = (L, g) := by
  obtain ⟨n1, e, h1⟩ := g_blk_ok noX12 jI_X12_beginOne tab_X12 0 n hr (c2 := (154, ρ, [(1, s0)], L, g)) rfl
  exact g_ret_un noX12 (i := .ireturn) (jI_X12_beginOne 154 _ rfl) (by decide) h1
theorem bk_X12_beginOne_155 {ax : zAx} {CE : g_E} {n : Nat} {ρ : Nat → Int} {L : List Nat} {g : Nat → Nat → Int} {r : Option g_V} {h : g_H} (hr : g_run RX12 ax CE cX12_beginOne n (155, ρ, [], L, g) r h) : ∃ n' r1 h1', n' < n ∧ CE yX12_w5 cX12_w5 [(0, 99), (1, 111), (2, 117), (3, 110), (4, 116)] (L, g) r1 h1' ∧ g_run RX12 ax CE cX12_beginOne n' (169, ρ, g_push r1 [(1, ρ 0)], h1') r h := by
  obtain ⟨n1, e, h1⟩ := g_blk_ok noX12 jI_X12_beginOne tab_X12 6 n hr (c2 := (166, ρ, [(1, 116), (1, 110), (1, 117), (1, 111), (1, 99), (1, ρ 0)], L, g)) rfl
  obtain ⟨n2, c', e2, h2, h3⟩ := g_step_un noX12 (i := .invokestatic 184) (len := 3) (jI_X12_beginOne 166 _ rfl) (gnrS _) h1
  obtain ⟨r1, h1', hx, hc⟩ := g_static_un lk_X12 nat_all lX12_ok (idx := 184) (mode := 1) (mi := 193) (ci := 0) (na := 5) rfl (by decide) (by decide) mq_X12_w5 [(1, 99), (1, 111), (1, 117), (1, 110), (1, 116)] [(1, ρ 0)] rfl rfl h2
  subst hc
  exact ⟨n2, r1, h1', by omega, hx, h3⟩
theorem bk_X12_beginOne_169 {ax : zAx} {CE : g_E} {n : Nat} {ρ : Nat → Int} {s0 : Int} {s1 : Int} {L : List Nat} {g : Nat → Nat → Int} {r : Option g_V} {h : g_H} (hr : g_run RX12 ax CE cX12_beginOne n (169, ρ, [(2, s0), (1, s1)], L, g) r h) : ∃ n' r1 h1', n' < n ∧ CE yX12_isWord cX12_isWord [(0, s1), (1, s0)] (L, g) r1 h1' ∧ g_run RX12 ax CE cX12_beginOne n' (172, ρ, g_push r1 [], h1') r h := by
  obtain ⟨n1, e, h1⟩ := g_blk_ok noX12 jI_X12_beginOne tab_X12 0 n hr (c2 := (169, ρ, [(2, s0), (1, s1)], L, g)) rfl
  obtain ⟨n2, c', e2, h2, h3⟩ := g_step_un noX12 (i := .invokevirtual 236) (len := 3) (jI_X12_beginOne 169 _ rfl) (gnrV _) h1
  obtain ⟨r1, h1', hx, hc⟩ := g_virt_un lk_X12 nat_all lX12_ok (idx := 236) (mi := 132) (ci := 12) (na := 2) rfl (by decide) mq_X12_isWord [(2, s0)] [] s1 rfl rfl h2
  subst hc
  exact ⟨n2, r1, h1', by omega, hx, h3⟩
theorem bk_X12_beginOne_172 {ax : zAx} {CE : g_E} {n : Nat} {ρ : Nat → Int} {s0 : Int} {L : List Nat} {g : Nat → Nat → Int} {r : Option g_V} {h : g_H} (hr : g_run RX12 ax CE cX12_beginOne n (172, ρ, [(1, s0)], L, g) r h) : ∃ n', n' < n ∧ ((s0 = 0 ∧ g_run RX12 ax CE cX12_beginOne n' (182, ρ, [], L, g) r h) ∨ (¬ (s0 = 0) ∧ g_run RX12 ax CE cX12_beginOne n' (175, ρ, [], L, g) r h)) := by
  obtain ⟨n1, e, h1⟩ := g_blk_ok noX12 jI_X12_beginOne tab_X12 1 n hr (c2 := (if s0 = 0 then 182 else 175, ρ, [], L, g)) rfl
  refine ⟨n1, by omega, ?_⟩
  by_cases hc : s0 = 0
  · exact Or.inl ⟨hc, by rw [if_pos hc] at h1; exact h1⟩
  · exact Or.inr ⟨hc, by rw [if_neg hc] at h1; exact h1⟩
theorem bk_X12_beginOne_175 {ax : zAx} {CE : g_E} {n : Nat} {ρ : Nat → Int} {L : List Nat} {g : Nat → Nat → Int} {r : Option g_V} {h : g_H} (hr : g_run RX12 ax CE cX12_beginOne n (175, ρ, [], L, g) r h) : ∃ n' r1 h1', n' < n ∧ CE yX12_opened cX12_opened [(0, ρ 0), (1, 42)] (L, g) r1 h1' ∧ g_run RX12 ax CE cX12_beginOne n' (181, ρ, g_push r1 [], h1') r h := by
  obtain ⟨n1, e, h1⟩ := g_blk_ok noX12 jI_X12_beginOne tab_X12 2 n hr (c2 := (178, ρ, [(1, 42), (1, ρ 0)], L, g)) rfl
  obtain ⟨n2, c', e2, h2, h3⟩ := g_step_un noX12 (i := .invokevirtual 233) (len := 3) (jI_X12_beginOne 178 _ rfl) (gnrV _) h1
  obtain ⟨r1, h1', hx, hc⟩ := g_virt_un lk_X12 nat_all lX12_ok (idx := 233) (mi := 152) (ci := 12) (na := 2) rfl (by decide) mq_X12_opened [(1, 42)] [] (ρ 0) rfl rfl h2
  subst hc
  exact ⟨n2, r1, h1', by omega, hx, h3⟩
theorem bk_X12_beginOne_181 {ax : zAx} {CE : g_E} {n : Nat} {ρ : Nat → Int} {s0 : Int} {L : List Nat} {g : Nat → Nat → Int} {r : Option g_V} {h : g_H} (hr : g_run RX12 ax CE cX12_beginOne n (181, ρ, [(1, s0)], L, g) r h) : r = some (1, s0) ∧ h = (L, g) := by
  obtain ⟨n1, e, h1⟩ := g_blk_ok noX12 jI_X12_beginOne tab_X12 0 n hr (c2 := (181, ρ, [(1, s0)], L, g)) rfl
  exact g_ret_un noX12 (i := .ireturn) (jI_X12_beginOne 181 _ rfl) (by decide) h1
theorem bk_X12_beginOne_182 {ax : zAx} {CE : g_E} {n : Nat} {ρ : Nat → Int} {L : List Nat} {g : Nat → Nat → Int} {r : Option g_V} {h : g_H} (hr : g_run RX12 ax CE cX12_beginOne n (182, ρ, [], L, g) r h) : ∃ n' r1 h1', n' < n ∧ CE yX12_w3 cX12_w3 [(0, 110), (1, 111), (2, 116)] (L, g) r1 h1' ∧ g_run RX12 ax CE cX12_beginOne n' (192, ρ, g_push r1 [(1, ρ 0)], h1') r h := by
  obtain ⟨n1, e, h1⟩ := g_blk_ok noX12 jI_X12_beginOne tab_X12 4 n hr (c2 := (189, ρ, [(1, 116), (1, 111), (1, 110), (1, ρ 0)], L, g)) rfl
  obtain ⟨n2, c', e2, h2, h3⟩ := g_step_un noX12 (i := .invokestatic 176) (len := 3) (jI_X12_beginOne 189 _ rfl) (gnrS _) h1
  obtain ⟨r1, h1', hx, hc⟩ := g_static_un lk_X12 nat_all lX12_ok (idx := 176) (mode := 1) (mi := 191) (ci := 0) (na := 3) rfl (by decide) (by decide) mq_X12_w3 [(1, 110), (1, 111), (1, 116)] [(1, ρ 0)] rfl rfl h2
  subst hc
  exact ⟨n2, r1, h1', by omega, hx, h3⟩
theorem bk_X12_beginOne_192 {ax : zAx} {CE : g_E} {n : Nat} {ρ : Nat → Int} {s0 : Int} {s1 : Int} {L : List Nat} {g : Nat → Nat → Int} {r : Option g_V} {h : g_H} (hr : g_run RX12 ax CE cX12_beginOne n (192, ρ, [(2, s0), (1, s1)], L, g) r h) : ∃ n' r1 h1', n' < n ∧ CE yX12_isWord cX12_isWord [(0, s1), (1, s0)] (L, g) r1 h1' ∧ g_run RX12 ax CE cX12_beginOne n' (195, ρ, g_push r1 [], h1') r h := by
  obtain ⟨n1, e, h1⟩ := g_blk_ok noX12 jI_X12_beginOne tab_X12 0 n hr (c2 := (192, ρ, [(2, s0), (1, s1)], L, g)) rfl
  obtain ⟨n2, c', e2, h2, h3⟩ := g_step_un noX12 (i := .invokevirtual 236) (len := 3) (jI_X12_beginOne 192 _ rfl) (gnrV _) h1
  obtain ⟨r1, h1', hx, hc⟩ := g_virt_un lk_X12 nat_all lX12_ok (idx := 236) (mi := 132) (ci := 12) (na := 2) rfl (by decide) mq_X12_isWord [(2, s0)] [] s1 rfl rfl h2
  subst hc
  exact ⟨n2, r1, h1', by omega, hx, h3⟩
theorem bk_X12_beginOne_195 {ax : zAx} {CE : g_E} {n : Nat} {ρ : Nat → Int} {s0 : Int} {L : List Nat} {g : Nat → Nat → Int} {r : Option g_V} {h : g_H} (hr : g_run RX12 ax CE cX12_beginOne n (195, ρ, [(1, s0)], L, g) r h) : ∃ n', n' < n ∧ ((s0 = 0 ∧ g_run RX12 ax CE cX12_beginOne n' (214, ρ, [], L, g) r h) ∨ (¬ (s0 = 0) ∧ g_run RX12 ax CE cX12_beginOne n' (198, ρ, [], L, g) r h)) := by
  obtain ⟨n1, e, h1⟩ := g_blk_ok noX12 jI_X12_beginOne tab_X12 1 n hr (c2 := (if s0 = 0 then 214 else 198, ρ, [], L, g)) rfl
  refine ⟨n1, by omega, ?_⟩
  by_cases hc : s0 = 0
  · exact Or.inl ⟨hc, by rw [if_pos hc] at h1; exact h1⟩
  · exact Or.inr ⟨hc, by rw [if_neg hc] at h1; exact h1⟩
theorem bk_X12_beginOne_198 {ax : zAx} {CE : g_E} {n : Nat} {ρ : Nat → Int} {L : List Nat} {g : Nat → Nat → Int} {r : Option g_V} {h : g_H} (hr : g_run RX12 ax CE cX12_beginOne n (198, ρ, [], L, g) r h) : ∃ n' r1 h1', n' < n ∧ CE yX12_isAskAhead cX12_isAskAhead [(0, ρ 0)] (L, g) r1 h1' ∧ g_run RX12 ax CE cX12_beginOne n' (202, ρ, g_push r1 [], h1') r h := by
  obtain ⟨n1, e, h1⟩ := g_blk_ok noX12 jI_X12_beginOne tab_X12 1 n hr (c2 := (199, ρ, [(1, ρ 0)], L, g)) rfl
  obtain ⟨n2, c', e2, h2, h3⟩ := g_step_un noX12 (i := .invokevirtual 240) (len := 3) (jI_X12_beginOne 199 _ rfl) (gnrV _) h1
  obtain ⟨r1, h1', hx, hc⟩ := g_virt_un lk_X12 nat_all lX12_ok (idx := 240) (mi := 121) (ci := 12) (na := 1) rfl (by decide) mq_X12_isAskAhead [] [] (ρ 0) rfl rfl h2
  subst hc
  exact ⟨n2, r1, h1', by omega, hx, h3⟩
theorem bk_X12_beginOne_202 {ax : zAx} {CE : g_E} {n : Nat} {ρ : Nat → Int} {s0 : Int} {L : List Nat} {g : Nat → Nat → Int} {r : Option g_V} {h : g_H} (hr : g_run RX12 ax CE cX12_beginOne n (202, ρ, [(1, s0)], L, g) r h) : ∃ n', n' < n ∧ ((s0 = 0 ∧ g_run RX12 ax CE cX12_beginOne n' (214, ρ, [], L, g) r h) ∨ (¬ (s0 = 0) ∧ g_run RX12 ax CE cX12_beginOne n' (205, ρ, [], L, g) r h)) := by
  obtain ⟨n1, e, h1⟩ := g_blk_ok noX12 jI_X12_beginOne tab_X12 1 n hr (c2 := (if s0 = 0 then 214 else 205, ρ, [], L, g)) rfl
  refine ⟨n1, by omega, ?_⟩
  by_cases hc : s0 = 0
  · exact Or.inl ⟨hc, by rw [if_pos hc] at h1; exact h1⟩
  · exact Or.inr ⟨hc, by rw [if_neg hc] at h1; exact h1⟩
theorem bk_X12_beginOne_205 {ax : zAx} {CE : g_E} {n : Nat} {ρ : Nat → Int} {L : List Nat} {g : Nat → Nat → Int} {r : Option g_V} {h : g_H} (hr : g_run RX12 ax CE cX12_beginOne n (205, ρ, [], L, g) r h) : ∃ n' r1 h1', n' < n ∧ CE yX12_opened cX12_opened [(0, ρ 0), (1, 20)] (L, g) r1 h1' ∧ g_run RX12 ax CE cX12_beginOne n' (211, ρ, g_push r1 [], h1') r h := by
  obtain ⟨n1, e, h1⟩ := g_blk_ok noX12 jI_X12_beginOne tab_X12 2 n hr (c2 := (208, ρ, [(1, 20), (1, ρ 0)], L, g)) rfl
  obtain ⟨n2, c', e2, h2, h3⟩ := g_step_un noX12 (i := .invokevirtual 233) (len := 3) (jI_X12_beginOne 208 _ rfl) (gnrV _) h1
  obtain ⟨r1, h1', hx, hc⟩ := g_virt_un lk_X12 nat_all lX12_ok (idx := 233) (mi := 152) (ci := 12) (na := 2) rfl (by decide) mq_X12_opened [(1, 20)] [] (ρ 0) rfl rfl h2
  subst hc
  exact ⟨n2, r1, h1', by omega, hx, h3⟩
theorem bk_X12_beginOne_211 {ax : zAx} {CE : g_E} {n : Nat} {ρ : Nat → Int} {s0 : Int} {L : List Nat} {g : Nat → Nat → Int} {r : Option g_V} {h : g_H} (hr : g_run RX12 ax CE cX12_beginOne n (211, ρ, [(1, s0)], L, g) r h) : ∃ n', n' < n ∧ g_run RX12 ax CE cX12_beginOne n' (215, ρ, [(1, s0)], L, g) r h := by
  obtain ⟨n1, e, h1⟩ := g_blk_ok noX12 jI_X12_beginOne tab_X12 1 n hr (c2 := (215, ρ, [(1, s0)], L, g)) rfl
  exact ⟨n1, by omega, h1⟩
theorem bk_X12_beginOne_214 {ax : zAx} {CE : g_E} {n : Nat} {ρ : Nat → Int} {L : List Nat} {g : Nat → Nat → Int} {r : Option g_V} {h : g_H} (hr : g_run RX12 ax CE cX12_beginOne n (214, ρ, [], L, g) r h) : ∃ n', n' < n ∧ g_run RX12 ax CE cX12_beginOne n' (215, ρ, [(1, 1)], L, g) r h := by
  obtain ⟨n1, e, h1⟩ := g_blk_ok noX12 jI_X12_beginOne tab_X12 1 n hr (c2 := (215, ρ, [(1, 1)], L, g)) rfl
  exact ⟨n1, by omega, h1⟩
theorem bk_X12_beginOne_215 {ax : zAx} {CE : g_E} {n : Nat} {ρ : Nat → Int} {s0 : Int} {L : List Nat} {g : Nat → Nat → Int} {r : Option g_V} {h : g_H} (hr : g_run RX12 ax CE cX12_beginOne n (215, ρ, [(1, s0)], L, g) r h) : r = some (1, s0) ∧ h = (L, g) := by
  obtain ⟨n1, e, h1⟩ := g_blk_ok noX12 jI_X12_beginOne tab_X12 0 n hr (c2 := (215, ρ, [(1, s0)], L, g)) rfl
  exact g_ret_un noX12 (i := .ireturn) (jI_X12_beginOne 215 _ rfl) (by decide) h1
theorem pt_X12_beginOne_0 {ax : zAx} {CE : g_E} (hCE : ∀ y cc as h r h', CE y cc as h r h' → g_ex ax y cc as h r h') {n : Nat} {ρ : Nat → Int} {L : List Nat} {g : Nat → Nat → Int} {r : Option g_V} {h : g_H} (h0 : g_run RX12 ax CE cX12_beginOne n (0, ρ, [], L, g) r h) : ((g (ρ 0).toNat 9 = 1 ∧ ((g (ρ 0).toNat 10 ≤ 9999 ∧ (∃ n', n' < n ∧ g_run RX12 ax CE cX12_beginOne n' (20, ρ, [], L, g) r h)) ∨ (¬ (g (ρ 0).toNat 10 ≤ 9999) ∧ (r = some (1, 2) ∧ h = (L, g))))) ∨ (¬ (g (ρ 0).toNat 9 = 1) ∧ (∃ n', n' < n ∧ g_run RX12 ax CE cX12_beginOne n' (20, ρ, [], L, g) r h))) := by
  obtain ⟨n1, l1, h1⟩ := bk_X12_beginOne_0 h0
  rcases h1 with ⟨c1, h1⟩ | ⟨c1, h1⟩
  · refine Or.inl ⟨c1, ?_⟩
    obtain ⟨n2, l2, h2⟩ := bk_X12_beginOne_8 h1
    rcases h2 with ⟨c2, h2⟩ | ⟨c2, h2⟩
    · refine Or.inl ⟨c2, ?_⟩
      exact ⟨_, by omega, h2⟩
    · refine Or.inr ⟨c2, ?_⟩
      obtain ⟨e4, d4⟩ := bk_X12_beginOne_18 h2
      exact ⟨e4, d4⟩
  · refine Or.inr ⟨c1, ?_⟩
    exact ⟨_, by omega, h1⟩
theorem pt_X12_beginOne_20 {ax : zAx} {CE : g_E} (hCE : ∀ y cc as h r h', CE y cc as h r h' → g_ex ax y cc as h r h') {n : Nat} {ρ : Nat → Int} {L : List Nat} {g : Nat → Nat → Int} {r : Option g_V} {h : g_H} (h0 : g_run RX12 ax CE cX12_beginOne n (20, ρ, [], L, g) r h) : ((F_X12_nameOf (ρ 0) g < 0 ∧ (∃ n', n' < n ∧ g_run RX12 ax CE cX12_beginOne n' (39, (va_up ρ 1 (F_X12_nameOf (ρ 0) g)), [], L, g) r h)) ∨ (¬ (F_X12_nameOf (ρ 0) g < 0) ∧ ((F_X12_isOf (ρ 0) (F_X12_nameOf (ρ 0) g) g = 0 ∧ (r = some (1, 5) ∧ h = (L, g))) ∨ (¬ (F_X12_isOf (ρ 0) (F_X12_nameOf (ρ 0) g) g = 0) ∧ (∃ n', n' < n ∧ g_run RX12 ax CE cX12_beginOne n' (39, (va_up ρ 1 (F_X12_nameOf (ρ 0) g)), [], L, g) r h))))) := by
  obtain ⟨n1, r1, k1, l1, x1, h1⟩ := bk_X12_beginOne_20 h0
  obtain ⟨e1, d1⟩ := f_X12_nameOf (hCE _ _ _ _ _ _ x1)
  subst e1
  subst d1
  obtain ⟨n2, l2, h2⟩ := bk_X12_beginOne_24 h1
  rcases h2 with ⟨c2, h2⟩ | ⟨c2, h2⟩
  · refine Or.inl ⟨c2, ?_⟩
    exact ⟨_, by omega, h2⟩
  · refine Or.inr ⟨c2, ?_⟩
    obtain ⟨n4, r4, k4, l4, x4, h4⟩ := bk_X12_beginOne_29 h2
    obtain ⟨e4, d4⟩ := f_X12_isOf (hCE _ _ _ _ _ _ x4)
    subst e4
    subst d4
    obtain ⟨n5, l5, h5⟩ := bk_X12_beginOne_34 h4
    rcases h5 with ⟨c5, h5⟩ | ⟨c5, h5⟩
    · refine Or.inl ⟨c5, ?_⟩
      obtain ⟨e6, d6⟩ := bk_X12_beginOne_37 h5
      exact ⟨e6, d6⟩
    · refine Or.inr ⟨c5, ?_⟩
      exact ⟨_, by omega, h5⟩
theorem pt_X12_beginOne_39 {ax : zAx} {CE : g_E} (hCE : ∀ y cc as h r h', CE y cc as h r h' → g_ex ax y cc as h r h') {n : Nat} {ρ : Nat → Int} {L : List Nat} {g : Nat → Nat → Int} {r : Option g_V} {h : g_H} (h0 : g_run RX12 ax CE cX12_beginOne n (39, ρ, [], L, g) r h) : ((g (ρ 0).toNat 9 = 1 ∧ (∃ n', n' < n ∧ g_run RX12 ax CE cX12_beginOne n' (51, ρ, [], L, g) r h)) ∨ (¬ (g (ρ 0).toNat 9 = 1) ∧ (((ρ 1) < 0 ∧ ((g (ρ 0).toNat 9 = 40 ∧ (∃ n' r1 h1', n' < n ∧ CE yX12_opened cX12_opened [(0, (ρ 0)), (1, 40)] (L, g) r1 h1' ∧ g_run RX12 ax CE cX12_beginOne n' (116, ρ, g_push r1 [], h1') r h)) ∨ (¬ (g (ρ 0).toNat 9 = 40) ∧ ((g (ρ 0).toNat 9 = 45 ∧ (∃ n' r1 h1', n' < n ∧ CE yX12_opened cX12_opened [(0, (ρ 0)), (1, 2)] (L, g) r1 h1' ∧ g_run RX12 ax CE cX12_beginOne n' (131, ρ, g_push r1 [], h1') r h)) ∨ (¬ (g (ρ 0).toNat 9 = 45) ∧ ((F_X12_isWord (ρ 0) (F_X12_w3 115 117 109 g) g = 0 ∧ ((F_X12_isWord (ρ 0) (F_X12_w5 99 111 117 110 116 g) g = 0 ∧ ((F_X12_isWord (ρ 0) (F_X12_w3 110 111 116 g) g = 0 ∧ (∃ n', n' < n ∧ g_run RX12 ax CE cX12_beginOne n' (214, ρ, [], L, g) r h)) ∨ (¬ (F_X12_isWord (ρ 0) (F_X12_w3 110 111 116 g) g = 0) ∧ (∃ n' r1 h1', n' < n ∧ CE yX12_isAskAhead cX12_isAskAhead [(0, (ρ 0))] (L, g) r1 h1' ∧ g_run RX12 ax CE cX12_beginOne n' (202, ρ, g_push r1 [], h1') r h)))) ∨ (¬ (F_X12_isWord (ρ 0) (F_X12_w5 99 111 117 110 116 g) g = 0) ∧ (∃ n' r1 h1', n' < n ∧ CE yX12_opened cX12_opened [(0, (ρ 0)), (1, 42)] (L, g) r1 h1' ∧ g_run RX12 ax CE cX12_beginOne n' (181, ρ, g_push r1 [], h1') r h)))) ∨ (¬ (F_X12_isWord (ρ 0) (F_X12_w3 115 117 109 g) g = 0) ∧ (∃ n' r1 h1', n' < n ∧ CE yX12_opened cX12_opened [(0, (ρ 0)), (1, 41)] (L, g) r1 h1' ∧ g_run RX12 ax CE cX12_beginOne n' (154, ρ, g_push r1 [], h1') r h)))))))) ∨ (¬ ((ρ 1) < 0) ∧ (∃ n', n' < n ∧ g_run RX12 ax CE cX12_beginOne n' (51, ρ, [], L, g) r h))))) := by
  obtain ⟨n1, l1, h1⟩ := bk_X12_beginOne_39 h0
  rcases h1 with ⟨c1, h1⟩ | ⟨c1, h1⟩
  · refine Or.inl ⟨c1, ?_⟩
    exact ⟨_, by omega, h1⟩
  · refine Or.inr ⟨c1, ?_⟩
    obtain ⟨n3, l3, h3⟩ := bk_X12_beginOne_47 h1
    rcases h3 with ⟨c3, h3⟩ | ⟨c3, h3⟩
    · refine Or.inl ⟨c3, ?_⟩
      obtain ⟨n4, l4, h4⟩ := bk_X12_beginOne_101 h3
      rcases h4 with ⟨c4, h4⟩ | ⟨c4, h4⟩
      · refine Or.inl ⟨c4, ?_⟩
        obtain ⟨n5, r5, k5, l5, x5, h5⟩ := bk_X12_beginOne_110 h4
        exact ⟨n5, r5, k5, by omega, x5, h5⟩
      · refine Or.inr ⟨c4, ?_⟩
        obtain ⟨n6, l6, h6⟩ := bk_X12_beginOne_117 h4
        rcases h6 with ⟨c6, h6⟩ | ⟨c6, h6⟩
        · refine Or.inl ⟨c6, ?_⟩
          obtain ⟨n7, r7, k7, l7, x7, h7⟩ := bk_X12_beginOne_126 h6
          exact ⟨n7, r7, k7, by omega, x7, h7⟩
        · refine Or.inr ⟨c6, ?_⟩
          obtain ⟨n8, r8, k8, l8, x8, h8⟩ := bk_X12_beginOne_132 h6
          obtain ⟨e8, d8⟩ := f_X12_w3 (hCE _ _ _ _ _ _ x8)
          subst e8
          subst d8
          obtain ⟨n9, r9, k9, l9, x9, h9⟩ := bk_X12_beginOne_142 h8
          obtain ⟨e9, d9⟩ := f_X12_isWord (hCE _ _ _ _ _ _ x9)
          subst e9
          subst d9
          obtain ⟨n10, l10, h10⟩ := bk_X12_beginOne_145 h9
          rcases h10 with ⟨c10, h10⟩ | ⟨c10, h10⟩
          · refine Or.inl ⟨c10, ?_⟩
            obtain ⟨n11, r11, k11, l11, x11, h11⟩ := bk_X12_beginOne_155 h10
            obtain ⟨e11, d11⟩ := f_X12_w5 (hCE _ _ _ _ _ _ x11)
            subst e11
            subst d11
            obtain ⟨n12, r12, k12, l12, x12, h12⟩ := bk_X12_beginOne_169 h11
            obtain ⟨e12, d12⟩ := f_X12_isWord (hCE _ _ _ _ _ _ x12)
            subst e12
            subst d12
            obtain ⟨n13, l13, h13⟩ := bk_X12_beginOne_172 h12
            rcases h13 with ⟨c13, h13⟩ | ⟨c13, h13⟩
            · refine Or.inl ⟨c13, ?_⟩
              obtain ⟨n14, r14, k14, l14, x14, h14⟩ := bk_X12_beginOne_182 h13
              obtain ⟨e14, d14⟩ := f_X12_w3 (hCE _ _ _ _ _ _ x14)
              subst e14
              subst d14
              obtain ⟨n15, r15, k15, l15, x15, h15⟩ := bk_X12_beginOne_192 h14
              obtain ⟨e15, d15⟩ := f_X12_isWord (hCE _ _ _ _ _ _ x15)
              subst e15
              subst d15
              obtain ⟨n16, l16, h16⟩ := bk_X12_beginOne_195 h15
              rcases h16 with ⟨c16, h16⟩ | ⟨c16, h16⟩
              · refine Or.inl ⟨c16, ?_⟩
                exact ⟨_, by omega, h16⟩
              · refine Or.inr ⟨c16, ?_⟩
                obtain ⟨n18, r18, k18, l18, x18, h18⟩ := bk_X12_beginOne_198 h16
                exact ⟨n18, r18, k18, by omega, x18, h18⟩
            · refine Or.inr ⟨c13, ?_⟩
              obtain ⟨n19, r19, k19, l19, x19, h19⟩ := bk_X12_beginOne_175 h13
              exact ⟨n19, r19, k19, by omega, x19, h19⟩
          · refine Or.inr ⟨c10, ?_⟩
            obtain ⟨n20, r20, k20, l20, x20, h20⟩ := bk_X12_beginOne_148 h10
            exact ⟨n20, r20, k20, by omega, x20, h20⟩
    · refine Or.inr ⟨c3, ?_⟩
      exact ⟨_, by omega, h3⟩
theorem pt_X12_beginOne_51 {ax : zAx} {CE : g_E} (hCE : ∀ y cc as h r h', CE y cc as h r h' → g_ex ax y cc as h r h') {n : Nat} {ρ : Nat → Int} {L : List Nat} {g : Nat → Nat → Int} {r : Option g_V} {h : g_H} (h0 : g_run RX12 ax CE cX12_beginOne n (51, ρ, [], L, g) r h) : ((g (ρ 0).toNat 9 = 1 ∧ (∃ n', n' < n ∧ g_run RX12 ax CE cX12_beginOne n' (65, ρ, [(1, 0), (1, (ρ 0))], L, g) r h)) ∨ (¬ (g (ρ 0).toNat 9 = 1) ∧ (∃ n', n' < n ∧ g_run RX12 ax CE cX12_beginOne n' (65, ρ, [(1, 1), (1, (ρ 0))], L, g) r h))) := by
  obtain ⟨n1, l1, h1⟩ := bk_X12_beginOne_51 h0
  rcases h1 with ⟨c1, h1⟩ | ⟨c1, h1⟩
  · refine Or.inl ⟨c1, ?_⟩
    obtain ⟨n2, l2, h2⟩ := bk_X12_beginOne_60 h1
    exact ⟨_, by omega, h2⟩
  · refine Or.inr ⟨c1, ?_⟩
    obtain ⟨n4, l4, h4⟩ := bk_X12_beginOne_64 h1
    exact ⟨_, by omega, h4⟩
theorem pt_X12_beginOne_65 {ax : zAx} {CE : g_E} (hCE : ∀ y cc as h r h', CE y cc as h r h' → g_ex ax y cc as h r h') {n : Nat} {ρ : Nat → Int} {s0 : Int} {s1 : Int} {L : List Nat} {g : Nat → Nat → Int} {r : Option g_V} {h : g_H} (h0 : g_run RX12 ax CE cX12_beginOne n (65, ρ, [(1, s0), (1, s1)], L, g) r h) : ((g (ρ 0).toNat 9 = 1 ∧ (∃ n', n' < n ∧ g_run RX12 ax CE cX12_beginOne n' (81, ρ, [(1, g (ρ 0).toNat 10), (1, s0), (1, s1)], L, g) r h)) ∨ (¬ (g (ρ 0).toNat 9 = 1) ∧ (∃ n', n' < n ∧ g_run RX12 ax CE cX12_beginOne n' (81, ρ, [(1, (ρ 1)), (1, s0), (1, s1)], L, g) r h))) := by
  obtain ⟨n1, l1, h1⟩ := bk_X12_beginOne_65 h0
  rcases h1 with ⟨c1, h1⟩ | ⟨c1, h1⟩
  · refine Or.inl ⟨c1, ?_⟩
    obtain ⟨n2, l2, h2⟩ := bk_X12_beginOne_73 h1
    exact ⟨_, by omega, h2⟩
  · refine Or.inr ⟨c1, ?_⟩
    obtain ⟨n4, l4, h4⟩ := bk_X12_beginOne_80 h1
    exact ⟨_, by omega, h4⟩
theorem pt_X12_beginOne_81 {ax : zAx} {CE : g_E} (hCE : ∀ y cc as h r h', CE y cc as h r h' → g_ex ax y cc as h r h') {n : Nat} {ρ : Nat → Int} {s0 : Int} {s1 : Int} {s2 : Int} {L : List Nat} {g : Nat → Nat → Int} {r : Option g_V} {h : g_H} (h0 : g_run RX12 ax CE cX12_beginOne n (81, ρ, [(1, s0), (1, s1), (1, s2)], L, g) r h) : (∃ n' r1 h1', n' < n ∧ CE yX12_nextToken cX12_nextToken [(0, (ρ 0))] (L, (F_X12_emit s2 s1 s0 g)) r1 h1' ∧ g_run RX12 ax CE cX12_beginOne n' (88, ρ, g_push r1 [], h1') r h) := by
  obtain ⟨n1, r1, k1, l1, x1, h1⟩ := bk_X12_beginOne_81 h0
  obtain ⟨e1, d1⟩ := f_X12_emit (hCE _ _ _ _ _ _ x1)
  subst e1
  subst d1
  obtain ⟨n2, r2, k2, l2, x2, h2⟩ := bk_X12_beginOne_84 h1
  exact ⟨n2, r2, k2, by omega, x2, h2⟩
theorem pt_X12_beginOne_214 {ax : zAx} {CE : g_E} (hCE : ∀ y cc as h r h', CE y cc as h r h' → g_ex ax y cc as h r h') {n : Nat} {ρ : Nat → Int} {L : List Nat} {g : Nat → Nat → Int} {r : Option g_V} {h : g_H} (h0 : g_run RX12 ax CE cX12_beginOne n (214, ρ, [], L, g) r h) : (∃ n', n' < n ∧ g_run RX12 ax CE cX12_beginOne n' (215, ρ, [(1, 1)], L, g) r h) := by
  obtain ⟨n1, l1, h1⟩ := bk_X12_beginOne_214 h0
  exact ⟨_, by omega, h1⟩
theorem pt_X12_beginOne_215 {ax : zAx} {CE : g_E} (hCE : ∀ y cc as h r h', CE y cc as h r h' → g_ex ax y cc as h r h') {n : Nat} {ρ : Nat → Int} {s0 : Int} {L : List Nat} {g : Nat → Nat → Int} {r : Option g_V} {h : g_H} (h0 : g_run RX12 ax CE cX12_beginOne n (215, ρ, [(1, s0)], L, g) r h) : (r = some (1, s0) ∧ h = (L, g)) := by
  obtain ⟨e1, d1⟩ := bk_X12_beginOne_215 h0
  exact ⟨e1, d1⟩
theorem pt_X12_beginOne_116 {ax : zAx} {CE : g_E} (hCE : ∀ y cc as h r h', CE y cc as h r h' → g_ex ax y cc as h r h') {n : Nat} {ρ : Nat → Int} {s0 : Int} {L : List Nat} {g : Nat → Nat → Int} {r : Option g_V} {h : g_H} (h0 : g_run RX12 ax CE cX12_beginOne n (116, ρ, [(1, s0)], L, g) r h) : (r = some (1, s0) ∧ h = (L, g)) := by
  obtain ⟨e1, d1⟩ := bk_X12_beginOne_116 h0
  exact ⟨e1, d1⟩
theorem pt_X12_beginOne_131 {ax : zAx} {CE : g_E} (hCE : ∀ y cc as h r h', CE y cc as h r h' → g_ex ax y cc as h r h') {n : Nat} {ρ : Nat → Int} {s0 : Int} {L : List Nat} {g : Nat → Nat → Int} {r : Option g_V} {h : g_H} (h0 : g_run RX12 ax CE cX12_beginOne n (131, ρ, [(1, s0)], L, g) r h) : (r = some (1, s0) ∧ h = (L, g)) := by
  obtain ⟨e1, d1⟩ := bk_X12_beginOne_131 h0
  exact ⟨e1, d1⟩
theorem pt_X12_beginOne_202 {ax : zAx} {CE : g_E} (hCE : ∀ y cc as h r h', CE y cc as h r h' → g_ex ax y cc as h r h') {n : Nat} {ρ : Nat → Int} {s0 : Int} {L : List Nat} {g : Nat → Nat → Int} {r : Option g_V} {h : g_H} (h0 : g_run RX12 ax CE cX12_beginOne n (202, ρ, [(1, s0)], L, g) r h) : ((s0 = 0 ∧ (∃ n', n' < n ∧ g_run RX12 ax CE cX12_beginOne n' (214, ρ, [], L, g) r h)) ∨ (¬ (s0 = 0) ∧ (∃ n' r1 h1', n' < n ∧ CE yX12_opened cX12_opened [(0, (ρ 0)), (1, 20)] (L, g) r1 h1' ∧ g_run RX12 ax CE cX12_beginOne n' (211, ρ, g_push r1 [], h1') r h))) := by
  obtain ⟨n1, l1, h1⟩ := bk_X12_beginOne_202 h0
  rcases h1 with ⟨c1, h1⟩ | ⟨c1, h1⟩
  · refine Or.inl ⟨c1, ?_⟩
    exact ⟨_, by omega, h1⟩
  · refine Or.inr ⟨c1, ?_⟩
    obtain ⟨n3, r3, k3, l3, x3, h3⟩ := bk_X12_beginOne_205 h1
    exact ⟨n3, r3, k3, by omega, x3, h3⟩
theorem pt_X12_beginOne_181 {ax : zAx} {CE : g_E} (hCE : ∀ y cc as h r h', CE y cc as h r h' → g_ex ax y cc as h r h') {n : Nat} {ρ : Nat → Int} {s0 : Int} {L : List Nat} {g : Nat → Nat → Int} {r : Option g_V} {h : g_H} (h0 : g_run RX12 ax CE cX12_beginOne n (181, ρ, [(1, s0)], L, g) r h) : (r = some (1, s0) ∧ h = (L, g)) := by
  obtain ⟨e1, d1⟩ := bk_X12_beginOne_181 h0
  exact ⟨e1, d1⟩
theorem pt_X12_beginOne_154 {ax : zAx} {CE : g_E} (hCE : ∀ y cc as h r h', CE y cc as h r h' → g_ex ax y cc as h r h') {n : Nat} {ρ : Nat → Int} {s0 : Int} {L : List Nat} {g : Nat → Nat → Int} {r : Option g_V} {h : g_H} (h0 : g_run RX12 ax CE cX12_beginOne n (154, ρ, [(1, s0)], L, g) r h) : (r = some (1, s0) ∧ h = (L, g)) := by
  obtain ⟨e1, d1⟩ := bk_X12_beginOne_154 h0
  exact ⟨e1, d1⟩
theorem pt_X12_beginOne_88 {ax : zAx} {CE : g_E} (hCE : ∀ y cc as h r h', CE y cc as h r h' → g_ex ax y cc as h r h') {n : Nat} {ρ : Nat → Int} {L : List Nat} {g : Nat → Nat → Int} {r : Option g_V} {h : g_H} (h0 : g_run RX12 ax CE cX12_beginOne n (88, ρ, [], L, g) r h) : (∃ n' r1 h1', n' < n ∧ CE yX12_settle cX12_settle [(0, (ρ 0)), (1, 7)] (L, (g_up g (ρ 0).toNat 20 1)) r1 h1' ∧ g_run RX12 ax CE cX12_beginOne n' (99, ρ, g_push r1 [], h1') r h) := by
  obtain ⟨n1, r1, k1, l1, x1, h1⟩ := bk_X12_beginOne_88 h0
  exact ⟨n1, r1, k1, by omega, x1, h1⟩
theorem pt_X12_beginOne_211 {ax : zAx} {CE : g_E} (hCE : ∀ y cc as h r h', CE y cc as h r h' → g_ex ax y cc as h r h') {n : Nat} {ρ : Nat → Int} {s0 : Int} {L : List Nat} {g : Nat → Nat → Int} {r : Option g_V} {h : g_H} (h0 : g_run RX12 ax CE cX12_beginOne n (211, ρ, [(1, s0)], L, g) r h) : (∃ n', n' < n ∧ g_run RX12 ax CE cX12_beginOne n' (215, ρ, [(1, s0)], L, g) r h) := by
  obtain ⟨n1, l1, h1⟩ := bk_X12_beginOne_211 h0
  exact ⟨_, by omega, h1⟩
theorem pt_X12_beginOne_99 {ax : zAx} {CE : g_E} (hCE : ∀ y cc as h r h', CE y cc as h r h' → g_ex ax y cc as h r h') {n : Nat} {ρ : Nat → Int} {L : List Nat} {g : Nat → Nat → Int} {r : Option g_V} {h : g_H} (h0 : g_run RX12 ax CE cX12_beginOne n (99, ρ, [], L, g) r h) : (r = some (1, 0) ∧ h = (L, g)) := by
  obtain ⟨e1, d1⟩ := bk_X12_beginOne_99 h0
  exact ⟨e1, d1⟩
