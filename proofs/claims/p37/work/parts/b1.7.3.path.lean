/-! Paths. -/
theorem jI_X12_clause : ∀ (pc : Nat) (q : Instr × Nat), lkp iX12_clause pc = some q → decode cX12_clause pc = .ok q := fun pc q hq => jX12_clause (pc, q) (lkp_in iX12_clause hq)
theorem bk_X12_clause_0 {ax : zAx} {CE : g_E} {n : Nat} {ρ : Nat → Int} {L : List Nat} {g : Nat → Nat → Int} {r : Option g_V} {h : g_H} (hr : g_run RX12 ax CE cX12_clause n (0, ρ, [], L, g) r h) : ∃ n' r1 h1', n' < n ∧ CE yX12_sortOf cX12_sortOf [(0, ρ 0)] (L, g) r1 h1' ∧ g_run RX12 ax CE cX12_clause n' (4, ρ, g_push r1 [], h1') r h := by
  obtain ⟨n1, e, h1⟩ := g_blk_ok noX12 jI_X12_clause tab_X12 1 n hr (c2 := (1, ρ, [(1, ρ 0)], L, g)) rfl
  obtain ⟨n2, c', e2, h2, h3⟩ := g_step_un noX12 (i := .invokevirtual 293) (len := 3) (jI_X12_clause 1 _ rfl) (gnrV _) h1
  obtain ⟨r1, h1', hx, hc⟩ := g_virt_un lk_X12 nat_all lX12_ok (idx := 293) (mi := 176) (ci := 12) (na := 1) rfl (by decide) mq_X12_sortOf [] [] (ρ 0) rfl rfl h2
  subst hc
  exact ⟨n2, r1, h1', by omega, hx, h3⟩
theorem bk_X12_clause_4 {ax : zAx} {CE : g_E} {n : Nat} {ρ : Nat → Int} {s0 : Int} {L : List Nat} {g : Nat → Nat → Int} {r : Option g_V} {h : g_H} (hr : g_run RX12 ax CE cX12_clause n (4, ρ, [(1, s0)], L, g) r h) : ∃ n', n' < n ∧ ((0 ≤ s0 ∧ g_run RX12 ax CE cX12_clause n' (11, (va_up ρ 1 s0), [], L, g) r h) ∨ (¬ (0 ≤ s0) ∧ g_run RX12 ax CE cX12_clause n' (9, (va_up ρ 1 s0), [], L, g) r h)) := by
  obtain ⟨n1, e, h1⟩ := g_blk_ok noX12 jI_X12_clause tab_X12 3 n hr (c2 := (if 0 ≤ s0 then 11 else 9, (va_up ρ 1 s0), [], L, g)) rfl
  refine ⟨n1, by omega, ?_⟩
  by_cases hc : 0 ≤ s0
  · exact Or.inl ⟨hc, by rw [if_pos hc] at h1; exact h1⟩
  · exact Or.inr ⟨hc, by rw [if_neg hc] at h1; exact h1⟩
theorem bk_X12_clause_9 {ax : zAx} {CE : g_E} {n : Nat} {ρ : Nat → Int} {L : List Nat} {g : Nat → Nat → Int} {r : Option g_V} {h : g_H} (hr : g_run RX12 ax CE cX12_clause n (9, ρ, [], L, g) r h) : r = some (1, 1) ∧ h = (L, g) := by
  obtain ⟨n1, e, h1⟩ := g_blk_ok noX12 jI_X12_clause tab_X12 1 n hr (c2 := (10, ρ, [(1, 1)], L, g)) rfl
  exact g_ret_un noX12 (i := .ireturn) (jI_X12_clause 10 _ rfl) (by decide) h1
theorem bk_X12_clause_11 {ax : zAx} {CE : g_E} {n : Nat} {ρ : Nat → Int} {L : List Nat} {g : Nat → Nat → Int} {r : Option g_V} {h : g_H} (hr : g_run RX12 ax CE cX12_clause n (11, ρ, [], L, g) r h) : ∃ n', n' < n ∧ ((4 < ρ 1 ∧ g_run RX12 ax CE cX12_clause n' (29, ρ, [], L, g) r h) ∨ (¬ (4 < ρ 1) ∧ g_run RX12 ax CE cX12_clause n' (16, ρ, [], L, g) r h)) := by
  obtain ⟨n1, e, h1⟩ := g_blk_ok noX12 jI_X12_clause tab_X12 3 n hr (c2 := (if 4 < ρ 1 then 29 else 16, ρ, [], L, g)) rfl
  refine ⟨n1, by omega, ?_⟩
  by_cases hc : 4 < ρ 1
  · exact Or.inl ⟨hc, by rw [if_pos hc] at h1; exact h1⟩
  · exact Or.inr ⟨hc, by rw [if_neg hc] at h1; exact h1⟩
theorem bk_X12_clause_16 {ax : zAx} {CE : g_E} {n : Nat} {ρ : Nat → Int} {L : List Nat} {g : Nat → Nat → Int} {r : Option g_V} {h : g_H} (hr : g_run RX12 ax CE cX12_clause n (16, ρ, [], L, g) r h) : ∃ n' r1 h1', n' < n ∧ CE yX12_has cX12_has [(0, g (ρ 0).toNat 21), (1, ρ 1)] (L, g) r1 h1' ∧ g_run RX12 ax CE cX12_clause n' (24, ρ, g_push r1 [], h1') r h := by
  obtain ⟨n1, e, h1⟩ := g_blk_ok noX12 jI_X12_clause tab_X12 3 n hr (c2 := (21, ρ, [(1, ρ 1), (1, g (ρ 0).toNat 21)], L, g)) rfl
  obtain ⟨n2, c', e2, h2, h3⟩ := g_step_un noX12 (i := .invokestatic 125) (len := 3) (jI_X12_clause 21 _ rfl) (gnrS _) h1
  obtain ⟨r1, h1', hx, hc⟩ := g_static_un lk_X12 nat_all lX12_ok (idx := 125) (mode := 1) (mi := 118) (ci := 0) (na := 2) rfl (by decide) (by decide) mq_X12_has [(1, g (ρ 0).toNat 21), (1, ρ 1)] [] rfl rfl h2
  subst hc
  exact ⟨n2, r1, h1', by omega, hx, h3⟩
theorem bk_X12_clause_24 {ax : zAx} {CE : g_E} {n : Nat} {ρ : Nat → Int} {s0 : Int} {L : List Nat} {g : Nat → Nat → Int} {r : Option g_V} {h : g_H} (hr : g_run RX12 ax CE cX12_clause n (24, ρ, [(1, s0)], L, g) r h) : ∃ n', n' < n ∧ ((s0 = 0 ∧ g_run RX12 ax CE cX12_clause n' (29, ρ, [], L, g) r h) ∨ (¬ (s0 = 0) ∧ g_run RX12 ax CE cX12_clause n' (27, ρ, [], L, g) r h)) := by
  obtain ⟨n1, e, h1⟩ := g_blk_ok noX12 jI_X12_clause tab_X12 1 n hr (c2 := (if s0 = 0 then 29 else 27, ρ, [], L, g)) rfl
  refine ⟨n1, by omega, ?_⟩
  by_cases hc : s0 = 0
  · exact Or.inl ⟨hc, by rw [if_pos hc] at h1; exact h1⟩
  · exact Or.inr ⟨hc, by rw [if_neg hc] at h1; exact h1⟩
theorem bk_X12_clause_27 {ax : zAx} {CE : g_E} {n : Nat} {ρ : Nat → Int} {L : List Nat} {g : Nat → Nat → Int} {r : Option g_V} {h : g_H} (hr : g_run RX12 ax CE cX12_clause n (27, ρ, [], L, g) r h) : r = some (1, 4) ∧ h = (L, g) := by
  obtain ⟨n1, e, h1⟩ := g_blk_ok noX12 jI_X12_clause tab_X12 1 n hr (c2 := (28, ρ, [(1, 4)], L, g)) rfl
  exact g_ret_un noX12 (i := .ireturn) (jI_X12_clause 28 _ rfl) (by decide) h1
theorem bk_X12_clause_29 {ax : zAx} {CE : g_E} {n : Nat} {ρ : Nat → Int} {L : List Nat} {g : Nat → Nat → Int} {r : Option g_V} {h : g_H} (hr : g_run RX12 ax CE cX12_clause n (29, ρ, [], L, g) r h) : ∃ n', n' < n ∧ ((g (g (ρ 0).toNat 2).toNat (g (ρ 0).toNat 12).toNat = 24 ∧ g_run RX12 ax CE cX12_clause n' (45, (va_up ρ 2 (g (g (ρ 0).toNat 2).toNat (g (ρ 0).toNat 12).toNat)), [], L, g) r h) ∨ (¬ (g (g (ρ 0).toNat 2).toNat (g (ρ 0).toNat 12).toNat = 24) ∧ g_run RX12 ax CE cX12_clause n' (48, (va_up ρ 2 (g (g (ρ 0).toNat 2).toNat (g (ρ 0).toNat 12).toNat)), [], L, g) r h)) := by
  obtain ⟨n1, e, h1⟩ := g_blk_ok noX12 jI_X12_clause tab_X12 9 n hr (c2 := (if g (g (ρ 0).toNat 2).toNat (g (ρ 0).toNat 12).toNat = 24 then 45 else 48, (va_up ρ 2 (g (g (ρ 0).toNat 2).toNat (g (ρ 0).toNat 12).toNat)), [], L, g)) rfl
  refine ⟨n1, by omega, ?_⟩
  by_cases hc : g (g (ρ 0).toNat 2).toNat (g (ρ 0).toNat 12).toNat = 24
  · exact Or.inl ⟨hc, by rw [if_pos hc] at h1; exact h1⟩
  · exact Or.inr ⟨hc, by rw [if_neg hc] at h1; exact h1⟩
theorem bk_X12_clause_45 {ax : zAx} {CE : g_E} {n : Nat} {ρ : Nat → Int} {L : List Nat} {g : Nat → Nat → Int} {r : Option g_V} {h : g_H} (hr : g_run RX12 ax CE cX12_clause n (45, ρ, [], L, g) r h) : r = some (1, 6) ∧ h = (L, g) := by
  obtain ⟨n1, e, h1⟩ := g_blk_ok noX12 jI_X12_clause tab_X12 1 n hr (c2 := (47, ρ, [(1, 6)], L, g)) rfl
  exact g_ret_un noX12 (i := .ireturn) (jI_X12_clause 47 _ rfl) (by decide) h1
theorem bk_X12_clause_48 {ax : zAx} {CE : g_E} {n : Nat} {ρ : Nat → Int} {L : List Nat} {g : Nat → Nat → Int} {r : Option g_V} {h : g_H} (hr : g_run RX12 ax CE cX12_clause n (48, ρ, [], L, g) r h) : ∃ n', n' < n ∧ ((4 < ρ 1 ∧ g_run RX12 ax CE cX12_clause n' (65, ρ, [], L, g) r h) ∨ (¬ (4 < ρ 1) ∧ g_run RX12 ax CE cX12_clause n' (53, ρ, [], L, g) r h)) := by
  obtain ⟨n1, e, h1⟩ := g_blk_ok noX12 jI_X12_clause tab_X12 3 n hr (c2 := (if 4 < ρ 1 then 65 else 53, ρ, [], L, g)) rfl
  refine ⟨n1, by omega, ?_⟩
  by_cases hc : 4 < ρ 1
  · exact Or.inl ⟨hc, by rw [if_pos hc] at h1; exact h1⟩
  · exact Or.inr ⟨hc, by rw [if_neg hc] at h1; exact h1⟩
theorem bk_X12_clause_53 {ax : zAx} {CE : g_E} {n : Nat} {ρ : Nat → Int} {L : List Nat} {g : Nat → Nat → Int} {r : Option g_V} {h : g_H} (hr : g_run RX12 ax CE cX12_clause n (53, ρ, [], L, g) r h) : ∃ n', n' < n ∧ g_run RX12 ax CE cX12_clause n' (65, ρ, [], L, (g_up g (ρ 0).toNat 21 ((Int32.ofInt (g (ρ 0).toNat 21) ||| Int32.ofInt ((Int32.ofInt 1 <<< (Int32.ofInt (ρ 1) &&& 31)).toInt)).toInt))) r h := by
  obtain ⟨n1, e, h1⟩ := g_blk_ok noX12 jI_X12_clause tab_X12 8 n hr (c2 := (65, ρ, [], L, (g_up g (ρ 0).toNat 21 ((Int32.ofInt (g (ρ 0).toNat 21) ||| Int32.ofInt ((Int32.ofInt 1 <<< (Int32.ofInt (ρ 1) &&& 31)).toInt)).toInt)))) rfl
  exact ⟨n1, by omega, h1⟩
theorem bk_X12_clause_65 {ax : zAx} {CE : g_E} {n : Nat} {ρ : Nat → Int} {L : List Nat} {g : Nat → Nat → Int} {r : Option g_V} {h : g_H} (hr : g_run RX12 ax CE cX12_clause n (65, ρ, [], L, g) r h) : ∃ n' r1 h1', n' < n ∧ CE yX12_nextToken cX12_nextToken [(0, ρ 0)] (L, (g_up g (ρ 0).toNat 14 (ρ 1))) r1 h1' ∧ g_run RX12 ax CE cX12_clause n' (74, ρ, g_push r1 [], h1') r h := by
  obtain ⟨n1, e, h1⟩ := g_blk_ok noX12 jI_X12_clause tab_X12 4 n hr (c2 := (71, ρ, [(1, ρ 0)], L, (g_up g (ρ 0).toNat 14 (ρ 1)))) rfl
  obtain ⟨n2, c', e2, h2, h3⟩ := g_step_un noX12 (i := .invokevirtual 217) (len := 3) (jI_X12_clause 71 _ rfl) (gnrV _) h1
  obtain ⟨r1, h1', hx, hc⟩ := g_virt_un lk_X12 nat_all lX12_ok (idx := 217) (mi := 146) (ci := 12) (na := 1) rfl (by decide) mq_X12_nextToken [] [] (ρ 0) rfl rfl h2
  subst hc
  exact ⟨n2, r1, h1', by omega, hx, h3⟩
theorem bk_X12_clause_74 {ax : zAx} {CE : g_E} {n : Nat} {ρ : Nat → Int} {L : List Nat} {g : Nat → Nat → Int} {r : Option g_V} {h : g_H} (hr : g_run RX12 ax CE cX12_clause n (74, ρ, [], L, g) r h) : ∃ n' r1 h1', n' < n ∧ CE yX12_body cX12_body [(0, ρ 0), (1, ρ 1), (2, g_i ((g_i ((g (ρ 0).toNat 12) + 1)) + (g_i (4 * (ρ 2)))))] (L, (g_up g (g (ρ 0).toNat 2).toNat (g_i ((g_i ((g (ρ 0).toNat 12) + 1)) + (g_i (4 * (ρ 2))))).toNat (ρ 1))) r1 h1' ∧ g_run RX12 ax CE cX12_clause n' (98, (va_up ρ 3 (g_i ((g_i ((g (ρ 0).toNat 12) + 1)) + (g_i (4 * (ρ 2)))))), g_push r1 [], h1') r h := by
  obtain ⟨n1, e, h1⟩ := g_blk_ok noX12 jI_X12_clause tab_X12 17 n hr (c2 := (95, (va_up ρ 3 (g_i ((g_i ((g (ρ 0).toNat 12) + 1)) + (g_i (4 * (ρ 2)))))), [(1, g_i ((g_i ((g (ρ 0).toNat 12) + 1)) + (g_i (4 * (ρ 2))))), (1, ρ 1), (1, ρ 0)], L, (g_up g (g (ρ 0).toNat 2).toNat (g_i ((g_i ((g (ρ 0).toNat 12) + 1)) + (g_i (4 * (ρ 2))))).toNat (ρ 1)))) rfl
  obtain ⟨n2, c', e2, h2, h3⟩ := g_step_un noX12 (i := .invokevirtual 299) (len := 3) (jI_X12_clause 95 _ rfl) (gnrV _) h1
  obtain ⟨r1, h1', hx, hc⟩ := g_virt_un lk_X12 nat_all lX12_ok (idx := 299) (mi := 81) (ci := 12) (na := 3) rfl (by decide) mq_X12_body [(1, ρ 1), (1, g_i ((g_i ((g (ρ 0).toNat 12) + 1)) + (g_i (4 * (ρ 2)))))] [] (ρ 0) rfl rfl h2
  subst hc
  exact ⟨n2, r1, h1', by omega, hx, h3⟩
theorem bk_X12_clause_98 {ax : zAx} {CE : g_E} {n : Nat} {ρ : Nat → Int} {s0 : Int} {L : List Nat} {g : Nat → Nat → Int} {r : Option g_V} {h : g_H} (hr : g_run RX12 ax CE cX12_clause n (98, ρ, [(1, s0)], L, g) r h) : ∃ n', n' < n ∧ ((s0 = 0 ∧ g_run RX12 ax CE cX12_clause n' (108, (va_up ρ 4 s0), [], L, g) r h) ∨ (¬ (s0 = 0) ∧ g_run RX12 ax CE cX12_clause n' (105, (va_up ρ 4 s0), [], L, g) r h)) := by
  obtain ⟨n1, e, h1⟩ := g_blk_ok noX12 jI_X12_clause tab_X12 3 n hr (c2 := (if s0 = 0 then 108 else 105, (va_up ρ 4 s0), [], L, g)) rfl
  refine ⟨n1, by omega, ?_⟩
  by_cases hc : s0 = 0
  · exact Or.inl ⟨hc, by rw [if_pos hc] at h1; exact h1⟩
  · exact Or.inr ⟨hc, by rw [if_neg hc] at h1; exact h1⟩
theorem bk_X12_clause_105 {ax : zAx} {CE : g_E} {n : Nat} {ρ : Nat → Int} {L : List Nat} {g : Nat → Nat → Int} {r : Option g_V} {h : g_H} (hr : g_run RX12 ax CE cX12_clause n (105, ρ, [], L, g) r h) : r = some (1, ρ 4) ∧ h = (L, g) := by
  obtain ⟨n1, e, h1⟩ := g_blk_ok noX12 jI_X12_clause tab_X12 1 n hr (c2 := (107, ρ, [(1, ρ 4)], L, g)) rfl
  exact g_ret_un noX12 (i := .ireturn) (jI_X12_clause 107 _ rfl) (by decide) h1
theorem bk_X12_clause_108 {ax : zAx} {CE : g_E} {n : Nat} {ρ : Nat → Int} {L : List Nat} {g : Nat → Nat → Int} {r : Option g_V} {h : g_H} (hr : g_run RX12 ax CE cX12_clause n (108, ρ, [], L, g) r h) : ∃ n', n' < n ∧ (((g_up g (g (ρ 0).toNat 2).toNat (g (ρ 0).toNat 12).toNat (g_i ((g (g (ρ 0).toNat 2).toNat (g (ρ 0).toNat 12).toNat) + 1))) (ρ 0).toNat 9 = 59 ∧ g_run RX12 ax CE cX12_clause n' (132, ρ, [], L, (g_up g (g (ρ 0).toNat 2).toNat (g (ρ 0).toNat 12).toNat (g_i ((g (g (ρ 0).toNat 2).toNat (g (ρ 0).toNat 12).toNat) + 1)))) r h) ∨ (¬ ((g_up g (g (ρ 0).toNat 2).toNat (g (ρ 0).toNat 12).toNat (g_i ((g (g (ρ 0).toNat 2).toNat (g (ρ 0).toNat 12).toNat) + 1))) (ρ 0).toNat 9 = 59) ∧ g_run RX12 ax CE cX12_clause n' (130, ρ, [], L, (g_up g (g (ρ 0).toNat 2).toNat (g (ρ 0).toNat 12).toNat (g_i ((g (g (ρ 0).toNat 2).toNat (g (ρ 0).toNat 12).toNat) + 1)))) r h)) := by
  obtain ⟨n1, e, h1⟩ := g_blk_ok noX12 jI_X12_clause tab_X12 13 n hr (c2 := (if (g_up g (g (ρ 0).toNat 2).toNat (g (ρ 0).toNat 12).toNat (g_i ((g (g (ρ 0).toNat 2).toNat (g (ρ 0).toNat 12).toNat) + 1))) (ρ 0).toNat 9 = 59 then 132 else 130, ρ, [], L, (g_up g (g (ρ 0).toNat 2).toNat (g (ρ 0).toNat 12).toNat (g_i ((g (g (ρ 0).toNat 2).toNat (g (ρ 0).toNat 12).toNat) + 1))))) rfl
  refine ⟨n1, by omega, ?_⟩
  by_cases hc : (g_up g (g (ρ 0).toNat 2).toNat (g (ρ 0).toNat 12).toNat (g_i ((g (g (ρ 0).toNat 2).toNat (g (ρ 0).toNat 12).toNat) + 1))) (ρ 0).toNat 9 = 59
  · exact Or.inl ⟨hc, by rw [if_pos hc] at h1; exact h1⟩
  · exact Or.inr ⟨hc, by rw [if_neg hc] at h1; exact h1⟩
theorem bk_X12_clause_130 {ax : zAx} {CE : g_E} {n : Nat} {ρ : Nat → Int} {L : List Nat} {g : Nat → Nat → Int} {r : Option g_V} {h : g_H} (hr : g_run RX12 ax CE cX12_clause n (130, ρ, [], L, g) r h) : r = some (1, 1) ∧ h = (L, g) := by
  obtain ⟨n1, e, h1⟩ := g_blk_ok noX12 jI_X12_clause tab_X12 1 n hr (c2 := (131, ρ, [(1, 1)], L, g)) rfl
  exact g_ret_un noX12 (i := .ireturn) (jI_X12_clause 131 _ rfl) (by decide) h1
theorem bk_X12_clause_132 {ax : zAx} {CE : g_E} {n : Nat} {ρ : Nat → Int} {L : List Nat} {g : Nat → Nat → Int} {r : Option g_V} {h : g_H} (hr : g_run RX12 ax CE cX12_clause n (132, ρ, [], L, g) r h) : ∃ n' r1 h1', n' < n ∧ CE yX12_nextToken cX12_nextToken [(0, ρ 0)] (L, g) r1 h1' ∧ g_run RX12 ax CE cX12_clause n' (136, ρ, g_push r1 [], h1') r h := by
  obtain ⟨n1, e, h1⟩ := g_blk_ok noX12 jI_X12_clause tab_X12 1 n hr (c2 := (133, ρ, [(1, ρ 0)], L, g)) rfl
  obtain ⟨n2, c', e2, h2, h3⟩ := g_step_un noX12 (i := .invokevirtual 217) (len := 3) (jI_X12_clause 133 _ rfl) (gnrV _) h1
  obtain ⟨r1, h1', hx, hc⟩ := g_virt_un lk_X12 nat_all lX12_ok (idx := 217) (mi := 146) (ci := 12) (na := 1) rfl (by decide) mq_X12_nextToken [] [] (ρ 0) rfl rfl h2
  subst hc
  exact ⟨n2, r1, h1', by omega, hx, h3⟩
theorem bk_X12_clause_136 {ax : zAx} {CE : g_E} {n : Nat} {ρ : Nat → Int} {L : List Nat} {g : Nat → Nat → Int} {r : Option g_V} {h : g_H} (hr : g_run RX12 ax CE cX12_clause n (136, ρ, [], L, g) r h) : r = some (1, 0) ∧ h = (L, g) := by
  obtain ⟨n1, e, h1⟩ := g_blk_ok noX12 jI_X12_clause tab_X12 1 n hr (c2 := (137, ρ, [(1, 0)], L, g)) rfl
  exact g_ret_un noX12 (i := .ireturn) (jI_X12_clause 137 _ rfl) (by decide) h1
theorem pt_X12_clause_0 {ax : zAx} {CE : g_E} (hCE : ∀ y cc as h r h', CE y cc as h r h' → g_ex ax y cc as h r h') {n : Nat} {ρ : Nat → Int} {L : List Nat} {g : Nat → Nat → Int} {r : Option g_V} {h : g_H} (h0 : g_run RX12 ax CE cX12_clause n (0, ρ, [], L, g) r h) : ((0 ≤ F_X12_sortOf (ρ 0) g ∧ ((4 < F_X12_sortOf (ρ 0) g ∧ ((g (g (ρ 0).toNat 2).toNat (g (ρ 0).toNat 12).toNat = 24 ∧ (r = some (1, 6) ∧ h = (L, g))) ∨ (¬ (g (g (ρ 0).toNat 2).toNat (g (ρ 0).toNat 12).toNat = 24) ∧ (∃ n' r1 h1', n' < n ∧ CE yX12_nextToken cX12_nextToken [(0, (ρ 0))] (L, (g_up g (ρ 0).toNat 14 (F_X12_sortOf (ρ 0) g))) r1 h1' ∧ g_run RX12 ax CE cX12_clause n' (74, (va_up (va_up ρ 1 (F_X12_sortOf (ρ 0) g)) 2 (g (g (ρ 0).toNat 2).toNat (g (ρ 0).toNat 12).toNat)), g_push r1 [], h1') r h)))) ∨ (¬ (4 < F_X12_sortOf (ρ 0) g) ∧ ((F_X12_has (g (ρ 0).toNat 21) (F_X12_sortOf (ρ 0) g) g = 0 ∧ ((g (g (ρ 0).toNat 2).toNat (g (ρ 0).toNat 12).toNat = 24 ∧ (r = some (1, 6) ∧ h = (L, g))) ∨ (¬ (g (g (ρ 0).toNat 2).toNat (g (ρ 0).toNat 12).toNat = 24) ∧ (∃ n' r1 h1', n' < n ∧ CE yX12_nextToken cX12_nextToken [(0, (ρ 0))] (L, (g_up (g_up g (ρ 0).toNat 21 ((Int32.ofInt (g (ρ 0).toNat 21) ||| Int32.ofInt ((Int32.ofInt 1 <<< (Int32.ofInt (F_X12_sortOf (ρ 0) g) &&& 31)).toInt)).toInt)) (ρ 0).toNat 14 (F_X12_sortOf (ρ 0) g))) r1 h1' ∧ g_run RX12 ax CE cX12_clause n' (74, (va_up (va_up ρ 1 (F_X12_sortOf (ρ 0) g)) 2 (g (g (ρ 0).toNat 2).toNat (g (ρ 0).toNat 12).toNat)), g_push r1 [], h1') r h)))) ∨ (¬ (F_X12_has (g (ρ 0).toNat 21) (F_X12_sortOf (ρ 0) g) g = 0) ∧ (r = some (1, 4) ∧ h = (L, g))))))) ∨ (¬ (0 ≤ F_X12_sortOf (ρ 0) g) ∧ (r = some (1, 1) ∧ h = (L, g)))) := by
  obtain ⟨n1, r1, k1, l1, x1, h1⟩ := bk_X12_clause_0 h0
  obtain ⟨e1, d1⟩ := f_X12_sortOf (hCE _ _ _ _ _ _ x1)
  subst e1
  subst d1
  obtain ⟨n2, l2, h2⟩ := bk_X12_clause_4 h1
  rcases h2 with ⟨c2, h2⟩ | ⟨c2, h2⟩
  · refine Or.inl ⟨c2, ?_⟩
    obtain ⟨n3, l3, h3⟩ := bk_X12_clause_11 h2
    rcases h3 with ⟨c3, h3⟩ | ⟨c3, h3⟩
    · refine Or.inl ⟨c3, ?_⟩
      obtain ⟨n4, l4, h4⟩ := bk_X12_clause_29 h3
      rcases h4 with ⟨c4, h4⟩ | ⟨c4, h4⟩
      · refine Or.inl ⟨c4, ?_⟩
        obtain ⟨e5, d5⟩ := bk_X12_clause_45 h4
        exact ⟨e5, d5⟩
      · refine Or.inr ⟨c4, ?_⟩
        obtain ⟨n6, l6, h6⟩ := bk_X12_clause_48 h4
        rcases h6 with ⟨c6, h6⟩ | ⟨c6, h6⟩
        · obtain ⟨n7, r7, k7, l7, x7, h7⟩ := bk_X12_clause_65 h6
          exact ⟨n7, r7, k7, by omega, x7, h7⟩
        · exact absurd c3 c6
    · refine Or.inr ⟨c3, ?_⟩
      obtain ⟨n8, r8, k8, l8, x8, h8⟩ := bk_X12_clause_16 h3
      obtain ⟨e8, d8⟩ := f_X12_has (hCE _ _ _ _ _ _ x8)
      subst e8
      subst d8
      obtain ⟨n9, l9, h9⟩ := bk_X12_clause_24 h8
      rcases h9 with ⟨c9, h9⟩ | ⟨c9, h9⟩
      · refine Or.inl ⟨c9, ?_⟩
        obtain ⟨n10, l10, h10⟩ := bk_X12_clause_29 h9
        rcases h10 with ⟨c10, h10⟩ | ⟨c10, h10⟩
        · refine Or.inl ⟨c10, ?_⟩
          obtain ⟨e11, d11⟩ := bk_X12_clause_45 h10
          exact ⟨e11, d11⟩
        · refine Or.inr ⟨c10, ?_⟩
          obtain ⟨n12, l12, h12⟩ := bk_X12_clause_48 h10
          rcases h12 with ⟨c12, h12⟩ | ⟨c12, h12⟩
          · exact absurd c12 c3
          · obtain ⟨n13, l13, h13⟩ := bk_X12_clause_53 h12
            obtain ⟨n14, r14, k14, l14, x14, h14⟩ := bk_X12_clause_65 h13
            exact ⟨n14, r14, k14, by omega, x14, h14⟩
      · refine Or.inr ⟨c9, ?_⟩
        obtain ⟨e15, d15⟩ := bk_X12_clause_27 h9
        exact ⟨e15, d15⟩
  · refine Or.inr ⟨c2, ?_⟩
    obtain ⟨e16, d16⟩ := bk_X12_clause_9 h2
    exact ⟨e16, d16⟩
theorem pt_X12_clause_74 {ax : zAx} {CE : g_E} (hCE : ∀ y cc as h r h', CE y cc as h r h' → g_ex ax y cc as h r h') {n : Nat} {ρ : Nat → Int} {L : List Nat} {g : Nat → Nat → Int} {r : Option g_V} {h : g_H} (h0 : g_run RX12 ax CE cX12_clause n (74, ρ, [], L, g) r h) : (∃ n' r1 h1', n' < n ∧ CE yX12_body cX12_body [(0, (ρ 0)), (1, (ρ 1)), (2, g_i ((g_i ((g (ρ 0).toNat 12) + 1)) + (g_i (4 * (ρ 2)))))] (L, (g_up g (g (ρ 0).toNat 2).toNat (g_i ((g_i ((g (ρ 0).toNat 12) + 1)) + (g_i (4 * (ρ 2))))).toNat (ρ 1))) r1 h1' ∧ g_run RX12 ax CE cX12_clause n' (98, (va_up ρ 3 (g_i ((g_i ((g (ρ 0).toNat 12) + 1)) + (g_i (4 * (ρ 2)))))), g_push r1 [], h1') r h) := by
  obtain ⟨n1, r1, k1, l1, x1, h1⟩ := bk_X12_clause_74 h0
  exact ⟨n1, r1, k1, by omega, x1, h1⟩
theorem pt_X12_clause_98 {ax : zAx} {CE : g_E} (hCE : ∀ y cc as h r h', CE y cc as h r h' → g_ex ax y cc as h r h') {n : Nat} {ρ : Nat → Int} {s0 : Int} {L : List Nat} {g : Nat → Nat → Int} {r : Option g_V} {h : g_H} (h0 : g_run RX12 ax CE cX12_clause n (98, ρ, [(1, s0)], L, g) r h) : ((s0 = 0 ∧ (((g_up g (g (ρ 0).toNat 2).toNat (g (ρ 0).toNat 12).toNat (g_i ((g (g (ρ 0).toNat 2).toNat (g (ρ 0).toNat 12).toNat) + 1))) (ρ 0).toNat 9 = 59 ∧ (∃ n' r1 h1', n' < n ∧ CE yX12_nextToken cX12_nextToken [(0, (ρ 0))] (L, (g_up g (g (ρ 0).toNat 2).toNat (g (ρ 0).toNat 12).toNat (g_i ((g (g (ρ 0).toNat 2).toNat (g (ρ 0).toNat 12).toNat) + 1)))) r1 h1' ∧ g_run RX12 ax CE cX12_clause n' (136, (va_up ρ 4 s0), g_push r1 [], h1') r h)) ∨ (¬ ((g_up g (g (ρ 0).toNat 2).toNat (g (ρ 0).toNat 12).toNat (g_i ((g (g (ρ 0).toNat 2).toNat (g (ρ 0).toNat 12).toNat) + 1))) (ρ 0).toNat 9 = 59) ∧ (r = some (1, 1) ∧ h = (L, (g_up g (g (ρ 0).toNat 2).toNat (g (ρ 0).toNat 12).toNat (g_i ((g (g (ρ 0).toNat 2).toNat (g (ρ 0).toNat 12).toNat) + 1)))))))) ∨ (¬ (s0 = 0) ∧ (r = some (1, s0) ∧ h = (L, g)))) := by
  obtain ⟨n1, l1, h1⟩ := bk_X12_clause_98 h0
  rcases h1 with ⟨c1, h1⟩ | ⟨c1, h1⟩
  · refine Or.inl ⟨c1, ?_⟩
    obtain ⟨n2, l2, h2⟩ := bk_X12_clause_108 h1
    rcases h2 with ⟨c2, h2⟩ | ⟨c2, h2⟩
    · refine Or.inl ⟨c2, ?_⟩
      obtain ⟨n3, r3, k3, l3, x3, h3⟩ := bk_X12_clause_132 h2
      exact ⟨n3, r3, k3, by omega, x3, h3⟩
    · refine Or.inr ⟨c2, ?_⟩
      obtain ⟨e4, d4⟩ := bk_X12_clause_130 h2
      exact ⟨e4, d4⟩
  · refine Or.inr ⟨c1, ?_⟩
    obtain ⟨e5, d5⟩ := bk_X12_clause_105 h1
    exact ⟨e5, d5⟩
theorem pt_X12_clause_136 {ax : zAx} {CE : g_E} (hCE : ∀ y cc as h r h', CE y cc as h r h' → g_ex ax y cc as h r h') {n : Nat} {ρ : Nat → Int} {L : List Nat} {g : Nat → Nat → Int} {r : Option g_V} {h : g_H} (h0 : g_run RX12 ax CE cX12_clause n (136, ρ, [], L, g) r h) : (r = some (1, 0) ∧ h = (L, g)) := by
  obtain ⟨e1, d1⟩ := bk_X12_clause_136 h0
  exact ⟨e1, d1⟩

theorem jI_X12_body : ∀ (pc : Nat) (q : Instr × Nat), lkp iX12_body pc = some q → decode cX12_body pc = .ok q := fun pc q hq => jX12_body (pc, q) (lkp_in iX12_body hq)
theorem bk_X12_body_0 {ax : zAx} {CE : g_E} {n : Nat} {ρ : Nat → Int} {L : List Nat} {g : Nat → Nat → Int} {r : Option g_V} {h : g_H} (hr : g_run RX12 ax CE cX12_body n (0, ρ, [], L, g) r h) : ∃ n', n' < n ∧ (((ρ 1 < 5 ∨ 13 < ρ 1) ∧ g_run RX12 ax CE cX12_body n' (168, ρ, [], L, g) r h) ∨ (ρ 1 = 5 ∧ g_run RX12 ax CE cX12_body n' (52, ρ, [], L, g) r h) ∨ (ρ 1 = 6 ∧ g_run RX12 ax CE cX12_body n' (58, ρ, [], L, g) r h) ∨ (ρ 1 = 7 ∧ g_run RX12 ax CE cX12_body n' (74, ρ, [], L, g) r h) ∨ (ρ 1 = 8 ∧ g_run RX12 ax CE cX12_body n' (80, ρ, [], L, g) r h) ∨ (ρ 1 = 9 ∧ g_run RX12 ax CE cX12_body n' (98, ρ, [], L, g) r h) ∨ (ρ 1 = 10 ∧ g_run RX12 ax CE cX12_body n' (115, ρ, [], L, g) r h) ∨ (ρ 1 = 11 ∧ g_run RX12 ax CE cX12_body n' (133, ρ, [], L, g) r h) ∨ (ρ 1 = 12 ∧ g_run RX12 ax CE cX12_body n' (139, ρ, [], L, g) r h) ∨ (ρ 1 = 13 ∧ g_run RX12 ax CE cX12_body n' (157, ρ, [], L, g) r h)) := by
  obtain ⟨n1, e, h1⟩ := g_blk_ok noX12 jI_X12_body tab_X12 2 n hr (c2 := (if ρ 1 < 5 ∨ 13 < ρ 1 then 168 else ((1 : Int) + (#[51, 57, 73, 79, 97, 114, 132, 138, 156] : Array Int).getD (ρ 1 - 5).toNat 0).toNat, ρ, [], L, g)) rfl
  refine ⟨n1, by omega, ?_⟩
  by_cases hc : ρ 1 < 5 ∨ 13 < ρ 1
  · exact Or.inl ⟨hc, by rw [if_pos hc] at h1; exact h1⟩
  · rw [if_neg hc] at h1
    rcases (show ρ 1 = 5 ∨ ρ 1 = 6 ∨ ρ 1 = 7 ∨ ρ 1 = 8 ∨ ρ 1 = 9 ∨ ρ 1 = 10 ∨ ρ 1 = 11 ∨ ρ 1 = 12 ∨ ρ 1 = 13 by omega) with hk | hk | hk | hk | hk | hk | hk | hk | hk
    · have hp : ((1 : Int) + (#[51, 57, 73, 79, 97, 114, 132, 138, 156] : Array Int).getD (ρ 1 - 5).toNat 0).toNat = 52 := by rw [hk]; rfl
      exact Or.inr (Or.inl ⟨hk, by rw [hp] at h1; exact h1⟩)
    · have hp : ((1 : Int) + (#[51, 57, 73, 79, 97, 114, 132, 138, 156] : Array Int).getD (ρ 1 - 5).toNat 0).toNat = 58 := by rw [hk]; rfl
      exact Or.inr (Or.inr (Or.inl ⟨hk, by rw [hp] at h1; exact h1⟩))
    · have hp : ((1 : Int) + (#[51, 57, 73, 79, 97, 114, 132, 138, 156] : Array Int).getD (ρ 1 - 5).toNat 0).toNat = 74 := by rw [hk]; rfl
      exact Or.inr (Or.inr (Or.inr (Or.inl ⟨hk, by rw [hp] at h1; exact h1⟩)))
    · have hp : ((1 : Int) + (#[51, 57, 73, 79, 97, 114, 132, 138, 156] : Array Int).getD (ρ 1 - 5).toNat 0).toNat = 80 := by rw [hk]; rfl
      exact Or.inr (Or.inr (Or.inr (Or.inr (Or.inl ⟨hk, by rw [hp] at h1; exact h1⟩))))
    · have hp : ((1 : Int) + (#[51, 57, 73, 79, 97, 114, 132, 138, 156] : Array Int).getD (ρ 1 - 5).toNat 0).toNat = 98 := by rw [hk]; rfl
      exact Or.inr (Or.inr (Or.inr (Or.inr (Or.inr (Or.inl ⟨hk, by rw [hp] at h1; exact h1⟩)))))
    · have hp : ((1 : Int) + (#[51, 57, 73, 79, 97, 114, 132, 138, 156] : Array Int).getD (ρ 1 - 5).toNat 0).toNat = 115 := by rw [hk]; rfl
      exact Or.inr (Or.inr (Or.inr (Or.inr (Or.inr (Or.inr (Or.inl ⟨hk, by rw [hp] at h1; exact h1⟩))))))
    · have hp : ((1 : Int) + (#[51, 57, 73, 79, 97, 114, 132, 138, 156] : Array Int).getD (ρ 1 - 5).toNat 0).toNat = 133 := by rw [hk]; rfl
      exact Or.inr (Or.inr (Or.inr (Or.inr (Or.inr (Or.inr (Or.inr (Or.inl ⟨hk, by rw [hp] at h1; exact h1⟩)))))))
    · have hp : ((1 : Int) + (#[51, 57, 73, 79, 97, 114, 132, 138, 156] : Array Int).getD (ρ 1 - 5).toNat 0).toNat = 139 := by rw [hk]; rfl
      exact Or.inr (Or.inr (Or.inr (Or.inr (Or.inr (Or.inr (Or.inr (Or.inr (Or.inl ⟨hk, by rw [hp] at h1; exact h1⟩))))))))
    · have hp : ((1 : Int) + (#[51, 57, 73, 79, 97, 114, 132, 138, 156] : Array Int).getD (ρ 1 - 5).toNat 0).toNat = 157 := by rw [hk]; rfl
      exact Or.inr (Or.inr (Or.inr (Or.inr (Or.inr (Or.inr (Or.inr (Or.inr (Or.inr (⟨hk, by rw [hp] at h1; exact h1⟩)))))))))
theorem bk_X12_body_52 {ax : zAx} {CE : g_E} {n : Nat} {ρ : Nat → Int} {L : List Nat} {g : Nat → Nat → Int} {r : Option g_V} {h : g_H} (hr : g_run RX12 ax CE cX12_body n (52, ρ, [], L, g) r h) : ∃ n' r1 h1', n' < n ∧ CE yX12_fieldClause cX12_fieldClause [(0, ρ 0), (1, ρ 2)] (L, g) r1 h1' ∧ g_run RX12 ax CE cX12_body n' (57, ρ, g_push r1 [], h1') r h := by
  obtain ⟨n1, e, h1⟩ := g_blk_ok noX12 jI_X12_body tab_X12 2 n hr (c2 := (54, ρ, [(1, ρ 2), (1, ρ 0)], L, g)) rfl
  obtain ⟨n2, c', e2, h2, h3⟩ := g_step_un noX12 (i := .invokevirtual 277) (len := 3) (jI_X12_body 54 _ rfl) (gnrV _) h1
  obtain ⟨r1, h1', hx, hc⟩ := g_virt_un lk_X12 nat_all lX12_ok (idx := 277) (mi := 104) (ci := 12) (na := 2) rfl (by decide) mq_X12_fieldClause [(1, ρ 2)] [] (ρ 0) rfl rfl h2
  subst hc
  exact ⟨n2, r1, h1', by omega, hx, h3⟩
theorem bk_X12_body_57 {ax : zAx} {CE : g_E} {n : Nat} {ρ : Nat → Int} {s0 : Int} {L : List Nat} {g : Nat → Nat → Int} {r : Option g_V} {h : g_H} (hr : g_run RX12 ax CE cX12_body n (57, ρ, [(1, s0)], L, g) r h) : r = some (1, s0) ∧ h = (L, g) := by
  obtain ⟨n1, e, h1⟩ := g_blk_ok noX12 jI_X12_body tab_X12 0 n hr (c2 := (57, ρ, [(1, s0)], L, g)) rfl
  exact g_ret_un noX12 (i := .ireturn) (jI_X12_body 57 _ rfl) (by decide) h1
theorem bk_X12_body_58 {ax : zAx} {CE : g_E} {n : Nat} {ρ : Nat → Int} {L : List Nat} {g : Nat → Nat → Int} {r : Option g_V} {h : g_H} (hr : g_run RX12 ax CE cX12_body n (58, ρ, [], L, g) r h) : ∃ n' r1 h1', n' < n ∧ CE yX12_w2 cX12_w2 [(0, 116), (1, 111)] (L, g) r1 h1' ∧ g_run RX12 ax CE cX12_body n' (69, ρ, g_push r1 [(1, 5), (1, 0), (1, ρ 2), (1, ρ 0)], h1') r h := by
  obtain ⟨n1, e, h1⟩ := g_blk_ok noX12 jI_X12_body tab_X12 6 n hr (c2 := (66, ρ, [(1, 111), (1, 116), (1, 5), (1, 0), (1, ρ 2), (1, ρ 0)], L, g)) rfl
  obtain ⟨n2, c', e2, h2, h3⟩ := g_step_un noX12 (i := .invokestatic 172) (len := 3) (jI_X12_body 66 _ rfl) (gnrS _) h1
  obtain ⟨r1, h1', hx, hc⟩ := g_static_un lk_X12 nat_all lX12_ok (idx := 172) (mode := 1) (mi := 190) (ci := 0) (na := 2) rfl (by decide) (by decide) mq_X12_w2 [(1, 116), (1, 111)] [(1, 5), (1, 0), (1, ρ 2), (1, ρ 0)] rfl rfl h2
  subst hc
  exact ⟨n2, r1, h1', by omega, hx, h3⟩
theorem bk_X12_body_69 {ax : zAx} {CE : g_E} {n : Nat} {ρ : Nat → Int} {s0 : Int} {s1 : Int} {s2 : Int} {s3 : Int} {s4 : Int} {L : List Nat} {g : Nat → Nat → Int} {r : Option g_V} {h : g_H} (hr : g_run RX12 ax CE cX12_body n (69, ρ, [(2, s0), (1, s1), (1, s2), (1, s3), (1, s4)], L, g) r h) : ∃ n' r1 h1', n' < n ∧ CE yX12_pair cX12_pair [(0, s4), (1, s3), (2, s2), (3, s1), (4, s0), (6, 5)] (L, g) r1 h1' ∧ g_run RX12 ax CE cX12_body n' (73, ρ, g_push r1 [], h1') r h := by
  obtain ⟨n1, e, h1⟩ := g_blk_ok noX12 jI_X12_body tab_X12 1 n hr (c2 := (70, ρ, [(1, 5), (2, s0), (1, s1), (1, s2), (1, s3), (1, s4)], L, g)) rfl
  obtain ⟨n2, c', e2, h2, h3⟩ := g_step_un noX12 (i := .invokevirtual 280) (len := 3) (jI_X12_body 70 _ rfl) (gnrV _) h1
  obtain ⟨r1, h1', hx, hc⟩ := g_virt_un lk_X12 nat_all lX12_ok (idx := 280) (mi := 153) (ci := 12) (na := 6) rfl (by decide) mq_X12_pair [(1, s3), (1, s2), (1, s1), (2, s0), (1, 5)] [] s4 rfl rfl h2
  subst hc
  exact ⟨n2, r1, h1', by omega, hx, h3⟩
theorem bk_X12_body_73 {ax : zAx} {CE : g_E} {n : Nat} {ρ : Nat → Int} {s0 : Int} {L : List Nat} {g : Nat → Nat → Int} {r : Option g_V} {h : g_H} (hr : g_run RX12 ax CE cX12_body n (73, ρ, [(1, s0)], L, g) r h) : r = some (1, s0) ∧ h = (L, g) := by
  obtain ⟨n1, e, h1⟩ := g_blk_ok noX12 jI_X12_body tab_X12 0 n hr (c2 := (73, ρ, [(1, s0)], L, g)) rfl
  exact g_ret_un noX12 (i := .ireturn) (jI_X12_body 73 _ rfl) (by decide) h1
theorem bk_X12_body_74 {ax : zAx} {CE : g_E} {n : Nat} {ρ : Nat → Int} {L : List Nat} {g : Nat → Nat → Int} {r : Option g_V} {h : g_H} (hr : g_run RX12 ax CE cX12_body n (74, ρ, [], L, g) r h) : ∃ n' r1 h1', n' < n ∧ CE yX12_oneClause cX12_oneClause [(0, ρ 0), (1, ρ 2)] (L, g) r1 h1' ∧ g_run RX12 ax CE cX12_body n' (79, ρ, g_push r1 [], h1') r h := by
  obtain ⟨n1, e, h1⟩ := g_blk_ok noX12 jI_X12_body tab_X12 2 n hr (c2 := (76, ρ, [(1, ρ 2), (1, ρ 0)], L, g)) rfl
  obtain ⟨n2, c', e2, h2, h3⟩ := g_step_un noX12 (i := .invokevirtual 284) (len := 3) (jI_X12_body 76 _ rfl) (gnrV _) h1
  obtain ⟨r1, h1', hx, hc⟩ := g_virt_un lk_X12 nat_all lX12_ok (idx := 284) (mi := 150) (ci := 12) (na := 2) rfl (by decide) mq_X12_oneClause [(1, ρ 2)] [] (ρ 0) rfl rfl h2
  subst hc
  exact ⟨n2, r1, h1', by omega, hx, h3⟩
theorem bk_X12_body_79 {ax : zAx} {CE : g_E} {n : Nat} {ρ : Nat → Int} {s0 : Int} {L : List Nat} {g : Nat → Nat → Int} {r : Option g_V} {h : g_H} (hr : g_run RX12 ax CE cX12_body n (79, ρ, [(1, s0)], L, g) r h) : r = some (1, s0) ∧ h = (L, g) := by
  obtain ⟨n1, e, h1⟩ := g_blk_ok noX12 jI_X12_body tab_X12 0 n hr (c2 := (79, ρ, [(1, s0)], L, g)) rfl
  exact g_ret_un noX12 (i := .ireturn) (jI_X12_body 79 _ rfl) (by decide) h1
theorem bk_X12_body_80 {ax : zAx} {CE : g_E} {n : Nat} {ρ : Nat → Int} {L : List Nat} {g : Nat → Nat → Int} {r : Option g_V} {h : g_H} (hr : g_run RX12 ax CE cX12_body n (80, ρ, [], L, g) r h) : ∃ n' r1 h1', n' < n ∧ CE yX12_w2 cX12_w2 [(0, 98), (1, 121)] (L, g) r1 h1' ∧ g_run RX12 ax CE cX12_body n' (92, ρ, g_push r1 [(1, 7), (1, 0), (1, ρ 2), (1, ρ 0)], h1') r h := by
  obtain ⟨n1, e, h1⟩ := g_blk_ok noX12 jI_X12_body tab_X12 6 n hr (c2 := (89, ρ, [(1, 121), (1, 98), (1, 7), (1, 0), (1, ρ 2), (1, ρ 0)], L, g)) rfl
  obtain ⟨n2, c', e2, h2, h3⟩ := g_step_un noX12 (i := .invokestatic 172) (len := 3) (jI_X12_body 89 _ rfl) (gnrS _) h1
  obtain ⟨r1, h1', hx, hc⟩ := g_static_un lk_X12 nat_all lX12_ok (idx := 172) (mode := 1) (mi := 190) (ci := 0) (na := 2) rfl (by decide) (by decide) mq_X12_w2 [(1, 98), (1, 121)] [(1, 7), (1, 0), (1, ρ 2), (1, ρ 0)] rfl rfl h2
  subst hc
  exact ⟨n2, r1, h1', by omega, hx, h3⟩
theorem bk_X12_body_92 {ax : zAx} {CE : g_E} {n : Nat} {ρ : Nat → Int} {s0 : Int} {s1 : Int} {s2 : Int} {s3 : Int} {s4 : Int} {L : List Nat} {g : Nat → Nat → Int} {r : Option g_V} {h : g_H} (hr : g_run RX12 ax CE cX12_body n (92, ρ, [(2, s0), (1, s1), (1, s2), (1, s3), (1, s4)], L, g) r h) : ∃ n' r1 h1', n' < n ∧ CE yX12_pair cX12_pair [(0, s4), (1, s3), (2, s2), (3, s1), (4, s0), (6, 9)] (L, g) r1 h1' ∧ g_run RX12 ax CE cX12_body n' (97, ρ, g_push r1 [], h1') r h := by
  obtain ⟨n1, e, h1⟩ := g_blk_ok noX12 jI_X12_body tab_X12 1 n hr (c2 := (94, ρ, [(1, 9), (2, s0), (1, s1), (1, s2), (1, s3), (1, s4)], L, g)) rfl
  obtain ⟨n2, c', e2, h2, h3⟩ := g_step_un noX12 (i := .invokevirtual 280) (len := 3) (jI_X12_body 94 _ rfl) (gnrV _) h1
  obtain ⟨r1, h1', hx, hc⟩ := g_virt_un lk_X12 nat_all lX12_ok (idx := 280) (mi := 153) (ci := 12) (na := 6) rfl (by decide) mq_X12_pair [(1, s3), (1, s2), (1, s1), (2, s0), (1, 9)] [] s4 rfl rfl h2
  subst hc
  exact ⟨n2, r1, h1', by omega, hx, h3⟩
theorem bk_X12_body_97 {ax : zAx} {CE : g_E} {n : Nat} {ρ : Nat → Int} {s0 : Int} {L : List Nat} {g : Nat → Nat → Int} {r : Option g_V} {h : g_H} (hr : g_run RX12 ax CE cX12_body n (97, ρ, [(1, s0)], L, g) r h) : r = some (1, s0) ∧ h = (L, g) := by
  obtain ⟨n1, e, h1⟩ := g_blk_ok noX12 jI_X12_body tab_X12 0 n hr (c2 := (97, ρ, [(1, s0)], L, g)) rfl
  exact g_ret_un noX12 (i := .ireturn) (jI_X12_body 97 _ rfl) (by decide) h1
theorem bk_X12_body_98 {ax : zAx} {CE : g_E} {n : Nat} {ρ : Nat → Int} {L : List Nat} {g : Nat → Nat → Int} {r : Option g_V} {h : g_H} (hr : g_run RX12 ax CE cX12_body n (98, ρ, [], L, g) r h) : ∃ n' r1 h1', n' < n ∧ CE yX12_w2 cX12_w2 [(0, 116), (1, 111)] (L, g) r1 h1' ∧ g_run RX12 ax CE cX12_body n' (110, ρ, g_push r1 [(1, 7), (1, 0), (1, ρ 2), (1, ρ 0)], h1') r h := by
  obtain ⟨n1, e, h1⟩ := g_blk_ok noX12 jI_X12_body tab_X12 6 n hr (c2 := (107, ρ, [(1, 111), (1, 116), (1, 7), (1, 0), (1, ρ 2), (1, ρ 0)], L, g)) rfl
  obtain ⟨n2, c', e2, h2, h3⟩ := g_step_un noX12 (i := .invokestatic 172) (len := 3) (jI_X12_body 107 _ rfl) (gnrS _) h1
  obtain ⟨r1, h1', hx, hc⟩ := g_static_un lk_X12 nat_all lX12_ok (idx := 172) (mode := 1) (mi := 190) (ci := 0) (na := 2) rfl (by decide) (by decide) mq_X12_w2 [(1, 116), (1, 111)] [(1, 7), (1, 0), (1, ρ 2), (1, ρ 0)] rfl rfl h2
  subst hc
  exact ⟨n2, r1, h1', by omega, hx, h3⟩
theorem bk_X12_body_110 {ax : zAx} {CE : g_E} {n : Nat} {ρ : Nat → Int} {s0 : Int} {s1 : Int} {s2 : Int} {s3 : Int} {s4 : Int} {L : List Nat} {g : Nat → Nat → Int} {r : Option g_V} {h : g_H} (hr : g_run RX12 ax CE cX12_body n (110, ρ, [(2, s0), (1, s1), (1, s2), (1, s3), (1, s4)], L, g) r h) : ∃ n' r1 h1', n' < n ∧ CE yX12_pair cX12_pair [(0, s4), (1, s3), (2, s2), (3, s1), (4, s0), (6, 5)] (L, g) r1 h1' ∧ g_run RX12 ax CE cX12_body n' (114, ρ, g_push r1 [], h1') r h := by
  obtain ⟨n1, e, h1⟩ := g_blk_ok noX12 jI_X12_body tab_X12 1 n hr (c2 := (111, ρ, [(1, 5), (2, s0), (1, s1), (1, s2), (1, s3), (1, s4)], L, g)) rfl
  obtain ⟨n2, c', e2, h2, h3⟩ := g_step_un noX12 (i := .invokevirtual 280) (len := 3) (jI_X12_body 111 _ rfl) (gnrV _) h1
  obtain ⟨r1, h1', hx, hc⟩ := g_virt_un lk_X12 nat_all lX12_ok (idx := 280) (mi := 153) (ci := 12) (na := 6) rfl (by decide) mq_X12_pair [(1, s3), (1, s2), (1, s1), (2, s0), (1, 5)] [] s4 rfl rfl h2
  subst hc
  exact ⟨n2, r1, h1', by omega, hx, h3⟩
theorem bk_X12_body_114 {ax : zAx} {CE : g_E} {n : Nat} {ρ : Nat → Int} {s0 : Int} {L : List Nat} {g : Nat → Nat → Int} {r : Option g_V} {h : g_H} (hr : g_run RX12 ax CE cX12_body n (114, ρ, [(1, s0)], L, g) r h) : r = some (1, s0) ∧ h = (L, g) := by
  obtain ⟨n1, e, h1⟩ := g_blk_ok noX12 jI_X12_body tab_X12 0 n hr (c2 := (114, ρ, [(1, s0)], L, g)) rfl
  exact g_ret_un noX12 (i := .ireturn) (jI_X12_body 114 _ rfl) (by decide) h1
theorem bk_X12_body_115 {ax : zAx} {CE : g_E} {n : Nat} {ρ : Nat → Int} {L : List Nat} {g : Nat → Nat → Int} {r : Option g_V} {h : g_H} (hr : g_run RX12 ax CE cX12_body n (115, ρ, [], L, g) r h) : ∃ n' r1 h1', n' < n ∧ CE yX12_w2 cX12_w2 [(0, 116), (1, 111)] (L, g) r1 h1' ∧ g_run RX12 ax CE cX12_body n' (127, ρ, g_push r1 [(1, 7), (1, 0), (1, ρ 2), (1, ρ 0)], h1') r h := by
  obtain ⟨n1, e, h1⟩ := g_blk_ok noX12 jI_X12_body tab_X12 6 n hr (c2 := (124, ρ, [(1, 111), (1, 116), (1, 7), (1, 0), (1, ρ 2), (1, ρ 0)], L, g)) rfl
  obtain ⟨n2, c', e2, h2, h3⟩ := g_step_un noX12 (i := .invokestatic 172) (len := 3) (jI_X12_body 124 _ rfl) (gnrS _) h1
  obtain ⟨r1, h1', hx, hc⟩ := g_static_un lk_X12 nat_all lX12_ok (idx := 172) (mode := 1) (mi := 190) (ci := 0) (na := 2) rfl (by decide) (by decide) mq_X12_w2 [(1, 116), (1, 111)] [(1, 7), (1, 0), (1, ρ 2), (1, ρ 0)] rfl rfl h2
  subst hc
  exact ⟨n2, r1, h1', by omega, hx, h3⟩
theorem bk_X12_body_127 {ax : zAx} {CE : g_E} {n : Nat} {ρ : Nat → Int} {s0 : Int} {s1 : Int} {s2 : Int} {s3 : Int} {s4 : Int} {L : List Nat} {g : Nat → Nat → Int} {r : Option g_V} {h : g_H} (hr : g_run RX12 ax CE cX12_body n (127, ρ, [(2, s0), (1, s1), (1, s2), (1, s3), (1, s4)], L, g) r h) : ∃ n' r1 h1', n' < n ∧ CE yX12_pair cX12_pair [(0, s4), (1, s3), (2, s2), (3, s1), (4, s0), (6, 7)] (L, g) r1 h1' ∧ g_run RX12 ax CE cX12_body n' (132, ρ, g_push r1 [], h1') r h := by
  obtain ⟨n1, e, h1⟩ := g_blk_ok noX12 jI_X12_body tab_X12 1 n hr (c2 := (129, ρ, [(1, 7), (2, s0), (1, s1), (1, s2), (1, s3), (1, s4)], L, g)) rfl
  obtain ⟨n2, c', e2, h2, h3⟩ := g_step_un noX12 (i := .invokevirtual 280) (len := 3) (jI_X12_body 129 _ rfl) (gnrV _) h1
  obtain ⟨r1, h1', hx, hc⟩ := g_virt_un lk_X12 nat_all lX12_ok (idx := 280) (mi := 153) (ci := 12) (na := 6) rfl (by decide) mq_X12_pair [(1, s3), (1, s2), (1, s1), (2, s0), (1, 7)] [] s4 rfl rfl h2
  subst hc
  exact ⟨n2, r1, h1', by omega, hx, h3⟩
theorem bk_X12_body_132 {ax : zAx} {CE : g_E} {n : Nat} {ρ : Nat → Int} {s0 : Int} {L : List Nat} {g : Nat → Nat → Int} {r : Option g_V} {h : g_H} (hr : g_run RX12 ax CE cX12_body n (132, ρ, [(1, s0)], L, g) r h) : r = some (1, s0) ∧ h = (L, g) := by
  obtain ⟨n1, e, h1⟩ := g_blk_ok noX12 jI_X12_body tab_X12 0 n hr (c2 := (132, ρ, [(1, s0)], L, g)) rfl
  exact g_ret_un noX12 (i := .ireturn) (jI_X12_body 132 _ rfl) (by decide) h1
theorem bk_X12_body_133 {ax : zAx} {CE : g_E} {n : Nat} {ρ : Nat → Int} {L : List Nat} {g : Nat → Nat → Int} {r : Option g_V} {h : g_H} (hr : g_run RX12 ax CE cX12_body n (133, ρ, [], L, g) r h) : ∃ n' r1 h1', n' < n ∧ CE yX12_stealClause cX12_stealClause [(0, ρ 0), (1, ρ 2)] (L, g) r1 h1' ∧ g_run RX12 ax CE cX12_body n' (138, ρ, g_push r1 [], h1') r h := by
  obtain ⟨n1, e, h1⟩ := g_blk_ok noX12 jI_X12_body tab_X12 2 n hr (c2 := (135, ρ, [(1, ρ 2), (1, ρ 0)], L, g)) rfl
  obtain ⟨n2, c', e2, h2, h3⟩ := g_step_un noX12 (i := .invokevirtual 287) (len := 3) (jI_X12_body 135 _ rfl) (gnrV _) h1
  obtain ⟨r1, h1', hx, hc⟩ := g_virt_un lk_X12 nat_all lX12_ok (idx := 287) (mi := 178) (ci := 12) (na := 2) rfl (by decide) mq_X12_stealClause [(1, ρ 2)] [] (ρ 0) rfl rfl h2
  subst hc
  exact ⟨n2, r1, h1', by omega, hx, h3⟩
theorem bk_X12_body_138 {ax : zAx} {CE : g_E} {n : Nat} {ρ : Nat → Int} {s0 : Int} {L : List Nat} {g : Nat → Nat → Int} {r : Option g_V} {h : g_H} (hr : g_run RX12 ax CE cX12_body n (138, ρ, [(1, s0)], L, g) r h) : r = some (1, s0) ∧ h = (L, g) := by
  obtain ⟨n1, e, h1⟩ := g_blk_ok noX12 jI_X12_body tab_X12 0 n hr (c2 := (138, ρ, [(1, s0)], L, g)) rfl
  exact g_ret_un noX12 (i := .ireturn) (jI_X12_body 138 _ rfl) (by decide) h1
theorem bk_X12_body_139 {ax : zAx} {CE : g_E} {n : Nat} {ρ : Nat → Int} {L : List Nat} {g : Nat → Nat → Int} {r : Option g_V} {h : g_H} (hr : g_run RX12 ax CE cX12_body n (139, ρ, [], L, g) r h) : ∃ n' r1 h1', n' < n ∧ CE yX12_w2 cX12_w2 [(0, 111), (1, 110)] (L, g) r1 h1' ∧ g_run RX12 ax CE cX12_body n' (152, ρ, g_push r1 [(1, 999), (1, 1), (1, ρ 2), (1, ρ 0)], h1') r h := by
  obtain ⟨n1, e, h1⟩ := g_blk_ok noX12 jI_X12_body tab_X12 6 n hr (c2 := (149, ρ, [(1, 110), (1, 111), (1, 999), (1, 1), (1, ρ 2), (1, ρ 0)], L, g)) rfl
  obtain ⟨n2, c', e2, h2, h3⟩ := g_step_un noX12 (i := .invokestatic 172) (len := 3) (jI_X12_body 149 _ rfl) (gnrS _) h1
  obtain ⟨r1, h1', hx, hc⟩ := g_static_un lk_X12 nat_all lX12_ok (idx := 172) (mode := 1) (mi := 190) (ci := 0) (na := 2) rfl (by decide) (by decide) mq_X12_w2 [(1, 111), (1, 110)] [(1, 999), (1, 1), (1, ρ 2), (1, ρ 0)] rfl rfl h2
  subst hc
  exact ⟨n2, r1, h1', by omega, hx, h3⟩
theorem bk_X12_body_152 {ax : zAx} {CE : g_E} {n : Nat} {ρ : Nat → Int} {s0 : Int} {s1 : Int} {s2 : Int} {s3 : Int} {s4 : Int} {L : List Nat} {g : Nat → Nat → Int} {r : Option g_V} {h : g_H} (hr : g_run RX12 ax CE cX12_body n (152, ρ, [(2, s0), (1, s1), (1, s2), (1, s3), (1, s4)], L, g) r h) : ∃ n' r1 h1', n' < n ∧ CE yX12_pair cX12_pair [(0, s4), (1, s3), (2, s2), (3, s1), (4, s0), (6, 5)] (L, g) r1 h1' ∧ g_run RX12 ax CE cX12_body n' (156, ρ, g_push r1 [], h1') r h := by
  obtain ⟨n1, e, h1⟩ := g_blk_ok noX12 jI_X12_body tab_X12 1 n hr (c2 := (153, ρ, [(1, 5), (2, s0), (1, s1), (1, s2), (1, s3), (1, s4)], L, g)) rfl
  obtain ⟨n2, c', e2, h2, h3⟩ := g_step_un noX12 (i := .invokevirtual 280) (len := 3) (jI_X12_body 153 _ rfl) (gnrV _) h1
  obtain ⟨r1, h1', hx, hc⟩ := g_virt_un lk_X12 nat_all lX12_ok (idx := 280) (mi := 153) (ci := 12) (na := 6) rfl (by decide) mq_X12_pair [(1, s3), (1, s2), (1, s1), (2, s0), (1, 5)] [] s4 rfl rfl h2
  subst hc
  exact ⟨n2, r1, h1', by omega, hx, h3⟩
theorem bk_X12_body_156 {ax : zAx} {CE : g_E} {n : Nat} {ρ : Nat → Int} {s0 : Int} {L : List Nat} {g : Nat → Nat → Int} {r : Option g_V} {h : g_H} (hr : g_run RX12 ax CE cX12_body n (156, ρ, [(1, s0)], L, g) r h) : r = some (1, s0) ∧ h = (L, g) := by
  obtain ⟨n1, e, h1⟩ := g_blk_ok noX12 jI_X12_body tab_X12 0 n hr (c2 := (156, ρ, [(1, s0)], L, g)) rfl
  exact g_ret_un noX12 (i := .ireturn) (jI_X12_body 156 _ rfl) (by decide) h1
theorem bk_X12_body_157 {ax : zAx} {CE : g_E} {n : Nat} {ρ : Nat → Int} {L : List Nat} {g : Nat → Nat → Int} {r : Option g_V} {h : g_H} (hr : g_run RX12 ax CE cX12_body n (157, ρ, [], L, g) r h) : ∃ n' r1 h1', n' < n ∧ CE yX12_figure cX12_figure [(0, ρ 0), (1, g_i ((ρ 2) + 1)), (2, 1), (3, 30)] (L, g) r1 h1' ∧ g_run RX12 ax CE cX12_body n' (167, ρ, g_push r1 [], h1') r h := by
  obtain ⟨n1, e, h1⟩ := g_blk_ok noX12 jI_X12_body tab_X12 6 n hr (c2 := (164, ρ, [(1, 30), (1, 1), (1, g_i ((ρ 2) + 1)), (1, ρ 0)], L, g)) rfl
  obtain ⟨n2, c', e2, h2, h3⟩ := g_step_un noX12 (i := .invokevirtual 262) (len := 3) (jI_X12_body 164 _ rfl) (gnrV _) h1
  obtain ⟨r1, h1', hx, hc⟩ := g_virt_un lk_X12 nat_all lX12_ok (idx := 262) (mi := 106) (ci := 12) (na := 4) rfl (by decide) mq_X12_figure [(1, g_i ((ρ 2) + 1)), (1, 1), (1, 30)] [] (ρ 0) rfl rfl h2
  subst hc
  exact ⟨n2, r1, h1', by omega, hx, h3⟩
theorem bk_X12_body_167 {ax : zAx} {CE : g_E} {n : Nat} {ρ : Nat → Int} {s0 : Int} {L : List Nat} {g : Nat → Nat → Int} {r : Option g_V} {h : g_H} (hr : g_run RX12 ax CE cX12_body n (167, ρ, [(1, s0)], L, g) r h) : r = some (1, s0) ∧ h = (L, g) := by
  obtain ⟨n1, e, h1⟩ := g_blk_ok noX12 jI_X12_body tab_X12 0 n hr (c2 := (167, ρ, [(1, s0)], L, g)) rfl
  exact g_ret_un noX12 (i := .ireturn) (jI_X12_body 167 _ rfl) (by decide) h1
theorem bk_X12_body_168 {ax : zAx} {CE : g_E} {n : Nat} {ρ : Nat → Int} {L : List Nat} {g : Nat → Nat → Int} {r : Option g_V} {h : g_H} (hr : g_run RX12 ax CE cX12_body n (168, ρ, [], L, g) r h) : ∃ n' r1 h1', n' < n ∧ CE yX12_lawClause cX12_lawClause [(0, ρ 0), (1, ρ 2)] (L, g) r1 h1' ∧ g_run RX12 ax CE cX12_body n' (173, ρ, g_push r1 [], h1') r h := by
  obtain ⟨n1, e, h1⟩ := g_blk_ok noX12 jI_X12_body tab_X12 2 n hr (c2 := (170, ρ, [(1, ρ 2), (1, ρ 0)], L, g)) rfl
  obtain ⟨n2, c', e2, h2, h3⟩ := g_step_un noX12 (i := .invokevirtual 290) (len := 3) (jI_X12_body 170 _ rfl) (gnrV _) h1
  obtain ⟨r1, h1', hx, hc⟩ := g_virt_un lk_X12 nat_all lX12_ok (idx := 290) (mi := 134) (ci := 12) (na := 2) rfl (by decide) mq_X12_lawClause [(1, ρ 2)] [] (ρ 0) rfl rfl h2
  subst hc
  exact ⟨n2, r1, h1', by omega, hx, h3⟩
theorem bk_X12_body_173 {ax : zAx} {CE : g_E} {n : Nat} {ρ : Nat → Int} {s0 : Int} {L : List Nat} {g : Nat → Nat → Int} {r : Option g_V} {h : g_H} (hr : g_run RX12 ax CE cX12_body n (173, ρ, [(1, s0)], L, g) r h) : r = some (1, s0) ∧ h = (L, g) := by
  obtain ⟨n1, e, h1⟩ := g_blk_ok noX12 jI_X12_body tab_X12 0 n hr (c2 := (173, ρ, [(1, s0)], L, g)) rfl
  exact g_ret_un noX12 (i := .ireturn) (jI_X12_body 173 _ rfl) (by decide) h1
theorem pt_X12_body_0 {ax : zAx} {CE : g_E} (hCE : ∀ y cc as h r h', CE y cc as h r h' → g_ex ax y cc as h r h') {n : Nat} {ρ : Nat → Int} {L : List Nat} {g : Nat → Nat → Int} {r : Option g_V} {h : g_H} (h0 : g_run RX12 ax CE cX12_body n (0, ρ, [], L, g) r h) : (((ρ 1) < 5 ∨ 13 < (ρ 1)) ∧ (∃ n' r1 h1', n' < n ∧ CE yX12_lawClause cX12_lawClause [(0, (ρ 0)), (1, (ρ 2))] (L, g) r1 h1' ∧ g_run RX12 ax CE cX12_body n' (173, ρ, g_push r1 [], h1') r h) ∨ ((ρ 1) = 5 ∧ (∃ n' r1 h1', n' < n ∧ CE yX12_fieldClause cX12_fieldClause [(0, (ρ 0)), (1, (ρ 2))] (L, g) r1 h1' ∧ g_run RX12 ax CE cX12_body n' (57, ρ, g_push r1 [], h1') r h)) ∨ ((ρ 1) = 6 ∧ (∃ n' r1 h1', n' < n ∧ CE yX12_pair cX12_pair [(0, (ρ 0)), (1, (ρ 2)), (2, 0), (3, 5), (4, F_X12_w2 116 111 g), (6, 5)] (L, g) r1 h1' ∧ g_run RX12 ax CE cX12_body n' (73, ρ, g_push r1 [], h1') r h)) ∨ ((ρ 1) = 7 ∧ (∃ n' r1 h1', n' < n ∧ CE yX12_oneClause cX12_oneClause [(0, (ρ 0)), (1, (ρ 2))] (L, g) r1 h1' ∧ g_run RX12 ax CE cX12_body n' (79, ρ, g_push r1 [], h1') r h)) ∨ ((ρ 1) = 8 ∧ (∃ n' r1 h1', n' < n ∧ CE yX12_pair cX12_pair [(0, (ρ 0)), (1, (ρ 2)), (2, 0), (3, 7), (4, F_X12_w2 98 121 g), (6, 9)] (L, g) r1 h1' ∧ g_run RX12 ax CE cX12_body n' (97, ρ, g_push r1 [], h1') r h)) ∨ ((ρ 1) = 9 ∧ (∃ n' r1 h1', n' < n ∧ CE yX12_pair cX12_pair [(0, (ρ 0)), (1, (ρ 2)), (2, 0), (3, 7), (4, F_X12_w2 116 111 g), (6, 5)] (L, g) r1 h1' ∧ g_run RX12 ax CE cX12_body n' (114, ρ, g_push r1 [], h1') r h)) ∨ ((ρ 1) = 10 ∧ (∃ n' r1 h1', n' < n ∧ CE yX12_pair cX12_pair [(0, (ρ 0)), (1, (ρ 2)), (2, 0), (3, 7), (4, F_X12_w2 116 111 g), (6, 7)] (L, g) r1 h1' ∧ g_run RX12 ax CE cX12_body n' (132, ρ, g_push r1 [], h1') r h)) ∨ ((ρ 1) = 11 ∧ (∃ n' r1 h1', n' < n ∧ CE yX12_stealClause cX12_stealClause [(0, (ρ 0)), (1, (ρ 2))] (L, g) r1 h1' ∧ g_run RX12 ax CE cX12_body n' (138, ρ, g_push r1 [], h1') r h)) ∨ ((ρ 1) = 12 ∧ (∃ n' r1 h1', n' < n ∧ CE yX12_pair cX12_pair [(0, (ρ 0)), (1, (ρ 2)), (2, 1), (3, 999), (4, F_X12_w2 111 110 g), (6, 5)] (L, g) r1 h1' ∧ g_run RX12 ax CE cX12_body n' (156, ρ, g_push r1 [], h1') r h)) ∨ ((ρ 1) = 13 ∧ (∃ n' r1 h1', n' < n ∧ CE yX12_figure cX12_figure [(0, (ρ 0)), (1, g_i ((ρ 2) + 1)), (2, 1), (3, 30)] (L, g) r1 h1' ∧ g_run RX12 ax CE cX12_body n' (167, ρ, g_push r1 [], h1') r h))) := by
  obtain ⟨n1, l1, h1⟩ := bk_X12_body_0 h0
  rcases h1 with ⟨c1, h1⟩ | ⟨c1, h1⟩ | ⟨c1, h1⟩ | ⟨c1, h1⟩ | ⟨c1, h1⟩ | ⟨c1, h1⟩ | ⟨c1, h1⟩ | ⟨c1, h1⟩ | ⟨c1, h1⟩ | ⟨c1, h1⟩
  · refine Or.inl ⟨c1, ?_⟩
    obtain ⟨n2, r2, k2, l2, x2, h2⟩ := bk_X12_body_168 h1
    exact ⟨n2, r2, k2, by omega, x2, h2⟩
  · refine Or.inr (Or.inl ⟨c1, ?_⟩)
    obtain ⟨n3, r3, k3, l3, x3, h3⟩ := bk_X12_body_52 h1
    exact ⟨n3, r3, k3, by omega, x3, h3⟩
  · refine Or.inr (Or.inr (Or.inl ⟨c1, ?_⟩))
    obtain ⟨n4, r4, k4, l4, x4, h4⟩ := bk_X12_body_58 h1
    obtain ⟨e4, d4⟩ := f_X12_w2 (hCE _ _ _ _ _ _ x4)
    subst e4
    subst d4
    obtain ⟨n5, r5, k5, l5, x5, h5⟩ := bk_X12_body_69 h4
    exact ⟨n5, r5, k5, by omega, x5, h5⟩
  · refine Or.inr (Or.inr (Or.inr (Or.inl ⟨c1, ?_⟩)))
    obtain ⟨n6, r6, k6, l6, x6, h6⟩ := bk_X12_body_74 h1
    exact ⟨n6, r6, k6, by omega, x6, h6⟩
  · refine Or.inr (Or.inr (Or.inr (Or.inr (Or.inl ⟨c1, ?_⟩))))
    obtain ⟨n7, r7, k7, l7, x7, h7⟩ := bk_X12_body_80 h1
    obtain ⟨e7, d7⟩ := f_X12_w2 (hCE _ _ _ _ _ _ x7)
    subst e7
    subst d7
    obtain ⟨n8, r8, k8, l8, x8, h8⟩ := bk_X12_body_92 h7
    exact ⟨n8, r8, k8, by omega, x8, h8⟩
  · refine Or.inr (Or.inr (Or.inr (Or.inr (Or.inr (Or.inl ⟨c1, ?_⟩)))))
    obtain ⟨n9, r9, k9, l9, x9, h9⟩ := bk_X12_body_98 h1
    obtain ⟨e9, d9⟩ := f_X12_w2 (hCE _ _ _ _ _ _ x9)
    subst e9
    subst d9
    obtain ⟨n10, r10, k10, l10, x10, h10⟩ := bk_X12_body_110 h9
    exact ⟨n10, r10, k10, by omega, x10, h10⟩
  · refine Or.inr (Or.inr (Or.inr (Or.inr (Or.inr (Or.inr (Or.inl ⟨c1, ?_⟩))))))
    obtain ⟨n11, r11, k11, l11, x11, h11⟩ := bk_X12_body_115 h1
    obtain ⟨e11, d11⟩ := f_X12_w2 (hCE _ _ _ _ _ _ x11)
    subst e11
    subst d11
    obtain ⟨n12, r12, k12, l12, x12, h12⟩ := bk_X12_body_127 h11
    exact ⟨n12, r12, k12, by omega, x12, h12⟩
  · refine Or.inr (Or.inr (Or.inr (Or.inr (Or.inr (Or.inr (Or.inr (Or.inl ⟨c1, ?_⟩)))))))
    obtain ⟨n13, r13, k13, l13, x13, h13⟩ := bk_X12_body_133 h1
    exact ⟨n13, r13, k13, by omega, x13, h13⟩
  · refine Or.inr (Or.inr (Or.inr (Or.inr (Or.inr (Or.inr (Or.inr (Or.inr (Or.inl ⟨c1, ?_⟩))))))))
    obtain ⟨n14, r14, k14, l14, x14, h14⟩ := bk_X12_body_139 h1
    obtain ⟨e14, d14⟩ := f_X12_w2 (hCE _ _ _ _ _ _ x14)
    subst e14
    subst d14
    obtain ⟨n15, r15, k15, l15, x15, h15⟩ := bk_X12_body_152 h14
    exact ⟨n15, r15, k15, by omega, x15, h15⟩
  · refine Or.inr (Or.inr (Or.inr (Or.inr (Or.inr (Or.inr (Or.inr (Or.inr (Or.inr (⟨c1, ?_⟩)))))))))
    obtain ⟨n16, r16, k16, l16, x16, h16⟩ := bk_X12_body_157 h1
    exact ⟨n16, r16, k16, by omega, x16, h16⟩
theorem pt_X12_body_173 {ax : zAx} {CE : g_E} (hCE : ∀ y cc as h r h', CE y cc as h r h' → g_ex ax y cc as h r h') {n : Nat} {ρ : Nat → Int} {s0 : Int} {L : List Nat} {g : Nat → Nat → Int} {r : Option g_V} {h : g_H} (h0 : g_run RX12 ax CE cX12_body n (173, ρ, [(1, s0)], L, g) r h) : (r = some (1, s0) ∧ h = (L, g)) := by
  obtain ⟨e1, d1⟩ := bk_X12_body_173 h0
  exact ⟨e1, d1⟩
theorem pt_X12_body_57 {ax : zAx} {CE : g_E} (hCE : ∀ y cc as h r h', CE y cc as h r h' → g_ex ax y cc as h r h') {n : Nat} {ρ : Nat → Int} {s0 : Int} {L : List Nat} {g : Nat → Nat → Int} {r : Option g_V} {h : g_H} (h0 : g_run RX12 ax CE cX12_body n (57, ρ, [(1, s0)], L, g) r h) : (r = some (1, s0) ∧ h = (L, g)) := by
  obtain ⟨e1, d1⟩ := bk_X12_body_57 h0
  exact ⟨e1, d1⟩
theorem pt_X12_body_73 {ax : zAx} {CE : g_E} (hCE : ∀ y cc as h r h', CE y cc as h r h' → g_ex ax y cc as h r h') {n : Nat} {ρ : Nat → Int} {s0 : Int} {L : List Nat} {g : Nat → Nat → Int} {r : Option g_V} {h : g_H} (h0 : g_run RX12 ax CE cX12_body n (73, ρ, [(1, s0)], L, g) r h) : (r = some (1, s0) ∧ h = (L, g)) := by
  obtain ⟨e1, d1⟩ := bk_X12_body_73 h0
  exact ⟨e1, d1⟩
theorem pt_X12_body_79 {ax : zAx} {CE : g_E} (hCE : ∀ y cc as h r h', CE y cc as h r h' → g_ex ax y cc as h r h') {n : Nat} {ρ : Nat → Int} {s0 : Int} {L : List Nat} {g : Nat → Nat → Int} {r : Option g_V} {h : g_H} (h0 : g_run RX12 ax CE cX12_body n (79, ρ, [(1, s0)], L, g) r h) : (r = some (1, s0) ∧ h = (L, g)) := by
  obtain ⟨e1, d1⟩ := bk_X12_body_79 h0
  exact ⟨e1, d1⟩
theorem pt_X12_body_97 {ax : zAx} {CE : g_E} (hCE : ∀ y cc as h r h', CE y cc as h r h' → g_ex ax y cc as h r h') {n : Nat} {ρ : Nat → Int} {s0 : Int} {L : List Nat} {g : Nat → Nat → Int} {r : Option g_V} {h : g_H} (h0 : g_run RX12 ax CE cX12_body n (97, ρ, [(1, s0)], L, g) r h) : (r = some (1, s0) ∧ h = (L, g)) := by
  obtain ⟨e1, d1⟩ := bk_X12_body_97 h0
  exact ⟨e1, d1⟩
theorem pt_X12_body_114 {ax : zAx} {CE : g_E} (hCE : ∀ y cc as h r h', CE y cc as h r h' → g_ex ax y cc as h r h') {n : Nat} {ρ : Nat → Int} {s0 : Int} {L : List Nat} {g : Nat → Nat → Int} {r : Option g_V} {h : g_H} (h0 : g_run RX12 ax CE cX12_body n (114, ρ, [(1, s0)], L, g) r h) : (r = some (1, s0) ∧ h = (L, g)) := by
  obtain ⟨e1, d1⟩ := bk_X12_body_114 h0
  exact ⟨e1, d1⟩
theorem pt_X12_body_132 {ax : zAx} {CE : g_E} (hCE : ∀ y cc as h r h', CE y cc as h r h' → g_ex ax y cc as h r h') {n : Nat} {ρ : Nat → Int} {s0 : Int} {L : List Nat} {g : Nat → Nat → Int} {r : Option g_V} {h : g_H} (h0 : g_run RX12 ax CE cX12_body n (132, ρ, [(1, s0)], L, g) r h) : (r = some (1, s0) ∧ h = (L, g)) := by
  obtain ⟨e1, d1⟩ := bk_X12_body_132 h0
  exact ⟨e1, d1⟩
theorem pt_X12_body_138 {ax : zAx} {CE : g_E} (hCE : ∀ y cc as h r h', CE y cc as h r h' → g_ex ax y cc as h r h') {n : Nat} {ρ : Nat → Int} {s0 : Int} {L : List Nat} {g : Nat → Nat → Int} {r : Option g_V} {h : g_H} (h0 : g_run RX12 ax CE cX12_body n (138, ρ, [(1, s0)], L, g) r h) : (r = some (1, s0) ∧ h = (L, g)) := by
  obtain ⟨e1, d1⟩ := bk_X12_body_138 h0
  exact ⟨e1, d1⟩
theorem pt_X12_body_156 {ax : zAx} {CE : g_E} (hCE : ∀ y cc as h r h', CE y cc as h r h' → g_ex ax y cc as h r h') {n : Nat} {ρ : Nat → Int} {s0 : Int} {L : List Nat} {g : Nat → Nat → Int} {r : Option g_V} {h : g_H} (h0 : g_run RX12 ax CE cX12_body n (156, ρ, [(1, s0)], L, g) r h) : (r = some (1, s0) ∧ h = (L, g)) := by
  obtain ⟨e1, d1⟩ := bk_X12_body_156 h0
  exact ⟨e1, d1⟩
theorem pt_X12_body_167 {ax : zAx} {CE : g_E} (hCE : ∀ y cc as h r h', CE y cc as h r h' → g_ex ax y cc as h r h') {n : Nat} {ρ : Nat → Int} {s0 : Int} {L : List Nat} {g : Nat → Nat → Int} {r : Option g_V} {h : g_H} (h0 : g_run RX12 ax CE cX12_body n (167, ρ, [(1, s0)], L, g) r h) : (r = some (1, s0) ∧ h = (L, g)) := by
  obtain ⟨e1, d1⟩ := bk_X12_body_167 h0
  exact ⟨e1, d1⟩

theorem jI_X12_lawClause : ∀ (pc : Nat) (q : Instr × Nat), lkp iX12_lawClause pc = some q → decode cX12_lawClause pc = .ok q := fun pc q hq => jX12_lawClause (pc, q) (lkp_in iX12_lawClause hq)
theorem bk_X12_lawClause_0 {ax : zAx} {CE : g_E} {n : Nat} {ρ : Nat → Int} {L : List Nat} {g : Nat → Nat → Int} {r : Option g_V} {h : g_H} (hr : g_run RX12 ax CE cX12_lawClause n (0, ρ, [], L, g) r h) : ∃ n' r1 h1', n' < n ∧ CE yX12_summed cX12_summed [(0, ρ 0)] (L, (g_up g (g (ρ 0).toNat 2).toNat (g_i ((ρ 1) + 1)).toNat (g (ρ 0).toNat 13))) r1 h1' ∧ g_run RX12 ax CE cX12_lawClause n' (16, ρ, g_push r1 [], h1') r h := by
  obtain ⟨n1, e, h1⟩ := g_blk_ok noX12 jI_X12_lawClause tab_X12 9 n hr (c2 := (13, ρ, [(1, ρ 0)], L, (g_up g (g (ρ 0).toNat 2).toNat (g_i ((ρ 1) + 1)).toNat (g (ρ 0).toNat 13)))) rfl
  obtain ⟨n2, c', e2, h2, h3⟩ := g_step_un noX12 (i := .invokevirtual 266) (len := 3) (jI_X12_lawClause 13 _ rfl) (gnrV _) h1
  obtain ⟨r1, h1', hx, hc⟩ := g_virt_un lk_X12 nat_all lX12_ok (idx := 266) (mi := 180) (ci := 12) (na := 1) rfl (by decide) mq_X12_summed [] [] (ρ 0) rfl rfl h2
  subst hc
  exact ⟨n2, r1, h1', by omega, hx, h3⟩
theorem bk_X12_lawClause_16 {ax : zAx} {CE : g_E} {n : Nat} {ρ : Nat → Int} {s0 : Int} {L : List Nat} {g : Nat → Nat → Int} {r : Option g_V} {h : g_H} (hr : g_run RX12 ax CE cX12_lawClause n (16, ρ, [(1, s0)], L, g) r h) : r = some (1, s0) ∧ h = (L, (g_up g (g (ρ 0).toNat 2).toNat (g_i ((ρ 1) + 2)).toNat (g (ρ 0).toNat 13))) := by
  obtain ⟨n1, e, h1⟩ := g_blk_ok noX12 jI_X12_lawClause tab_X12 10 n hr (c2 := (30, (va_up ρ 2 s0), [(1, s0)], L, (g_up g (g (ρ 0).toNat 2).toNat (g_i ((ρ 1) + 2)).toNat (g (ρ 0).toNat 13)))) rfl
  exact g_ret_un noX12 (i := .ireturn) (jI_X12_lawClause 30 _ rfl) (by decide) h1
theorem pt_X12_lawClause_0 {ax : zAx} {CE : g_E} (hCE : ∀ y cc as h r h', CE y cc as h r h' → g_ex ax y cc as h r h') {n : Nat} {ρ : Nat → Int} {L : List Nat} {g : Nat → Nat → Int} {r : Option g_V} {h : g_H} (h0 : g_run RX12 ax CE cX12_lawClause n (0, ρ, [], L, g) r h) : (∃ n' r1 h1', n' < n ∧ CE yX12_summed cX12_summed [(0, (ρ 0))] (L, (g_up g (g (ρ 0).toNat 2).toNat (g_i ((ρ 1) + 1)).toNat (g (ρ 0).toNat 13))) r1 h1' ∧ g_run RX12 ax CE cX12_lawClause n' (16, ρ, g_push r1 [], h1') r h) := by
  obtain ⟨n1, r1, k1, l1, x1, h1⟩ := bk_X12_lawClause_0 h0
  exact ⟨n1, r1, k1, by omega, x1, h1⟩
theorem pt_X12_lawClause_16 {ax : zAx} {CE : g_E} (hCE : ∀ y cc as h r h', CE y cc as h r h' → g_ex ax y cc as h r h') {n : Nat} {ρ : Nat → Int} {s0 : Int} {L : List Nat} {g : Nat → Nat → Int} {r : Option g_V} {h : g_H} (h0 : g_run RX12 ax CE cX12_lawClause n (16, ρ, [(1, s0)], L, g) r h) : (r = some (1, s0) ∧ h = (L, (g_up g (g (ρ 0).toNat 2).toNat (g_i ((ρ 1) + 2)).toNat (g (ρ 0).toNat 13)))) := by
  obtain ⟨e1, d1⟩ := bk_X12_lawClause_16 h0
  exact ⟨e1, d1⟩

theorem jI_X12_figure : ∀ (pc : Nat) (q : Instr × Nat), lkp iX12_figure pc = some q → decode cX12_figure pc = .ok q := fun pc q hq => jX12_figure (pc, q) (lkp_in iX12_figure hq)
theorem bk_X12_figure_0 {ax : zAx} {CE : g_E} {n : Nat} {ρ : Nat → Int} {L : List Nat} {g : Nat → Nat → Int} {r : Option g_V} {h : g_H} (hr : g_run RX12 ax CE cX12_figure n (0, ρ, [], L, g) r h) : ∃ n', n' < n ∧ ((g (ρ 0).toNat 9 = 1 ∧ g_run RX12 ax CE cX12_figure n' (10, ρ, [], L, g) r h) ∨ (¬ (g (ρ 0).toNat 9 = 1) ∧ g_run RX12 ax CE cX12_figure n' (8, ρ, [], L, g) r h)) := by
  obtain ⟨n1, e, h1⟩ := g_blk_ok noX12 jI_X12_figure tab_X12 4 n hr (c2 := (if g (ρ 0).toNat 9 = 1 then 10 else 8, ρ, [], L, g)) rfl
  refine ⟨n1, by omega, ?_⟩
  by_cases hc : g (ρ 0).toNat 9 = 1
  · exact Or.inl ⟨hc, by rw [if_pos hc] at h1; exact h1⟩
  · exact Or.inr ⟨hc, by rw [if_neg hc] at h1; exact h1⟩
theorem bk_X12_figure_8 {ax : zAx} {CE : g_E} {n : Nat} {ρ : Nat → Int} {L : List Nat} {g : Nat → Nat → Int} {r : Option g_V} {h : g_H} (hr : g_run RX12 ax CE cX12_figure n (8, ρ, [], L, g) r h) : r = some (1, 1) ∧ h = (L, g) := by
  obtain ⟨n1, e, h1⟩ := g_blk_ok noX12 jI_X12_figure tab_X12 1 n hr (c2 := (9, ρ, [(1, 1)], L, g)) rfl
  exact g_ret_un noX12 (i := .ireturn) (jI_X12_figure 9 _ rfl) (by decide) h1
theorem bk_X12_figure_10 {ax : zAx} {CE : g_E} {n : Nat} {ρ : Nat → Int} {L : List Nat} {g : Nat → Nat → Int} {r : Option g_V} {h : g_H} (hr : g_run RX12 ax CE cX12_figure n (10, ρ, [], L, g) r h) : ∃ n' r1 h1', n' < n ∧ CE yX12_isIn cX12_isIn [(0, g (ρ 0).toNat 10), (1, ρ 2), (2, ρ 3)] (L, g) r1 h1' ∧ g_run RX12 ax CE cX12_figure n' (19, ρ, g_push r1 [], h1') r h := by
  obtain ⟨n1, e, h1⟩ := g_blk_ok noX12 jI_X12_figure tab_X12 4 n hr (c2 := (16, ρ, [(1, ρ 3), (1, ρ 2), (1, g (ρ 0).toNat 10)], L, g)) rfl
  obtain ⟨n2, c', e2, h2, h3⟩ := g_step_un noX12 (i := .invokestatic 113) (len := 3) (jI_X12_figure 16 _ rfl) (gnrS _) h1
  obtain ⟨r1, h1', hx, hc⟩ := g_static_un lk_X12 nat_all lX12_ok (idx := 113) (mode := 1) (mi := 126) (ci := 0) (na := 3) rfl (by decide) (by decide) mq_X12_isIn [(1, g (ρ 0).toNat 10), (1, ρ 2), (1, ρ 3)] [] rfl rfl h2
  subst hc
  exact ⟨n2, r1, h1', by omega, hx, h3⟩
theorem bk_X12_figure_19 {ax : zAx} {CE : g_E} {n : Nat} {ρ : Nat → Int} {s0 : Int} {L : List Nat} {g : Nat → Nat → Int} {r : Option g_V} {h : g_H} (hr : g_run RX12 ax CE cX12_figure n (19, ρ, [(1, s0)], L, g) r h) : ∃ n', n' < n ∧ ((s0 = 0 ∧ g_run RX12 ax CE cX12_figure n' (22, ρ, [], L, g) r h) ∨ (¬ (s0 = 0) ∧ g_run RX12 ax CE cX12_figure n' (24, ρ, [], L, g) r h)) := by
  obtain ⟨n1, e, h1⟩ := g_blk_ok noX12 jI_X12_figure tab_X12 1 n hr (c2 := (if s0 = 0 then 22 else 24, ρ, [], L, g)) rfl
  refine ⟨n1, by omega, ?_⟩
  by_cases hc : s0 = 0
  · exact Or.inl ⟨hc, by rw [if_pos hc] at h1; exact h1⟩
  · exact Or.inr ⟨hc, by rw [if_neg hc] at h1; exact h1⟩
theorem bk_X12_figure_22 {ax : zAx} {CE : g_E} {n : Nat} {ρ : Nat → Int} {L : List Nat} {g : Nat → Nat → Int} {r : Option g_V} {h : g_H} (hr : g_run RX12 ax CE cX12_figure n (22, ρ, [], L, g) r h) : r = some (1, 2) ∧ h = (L, g) := by
  obtain ⟨n1, e, h1⟩ := g_blk_ok noX12 jI_X12_figure tab_X12 1 n hr (c2 := (23, ρ, [(1, 2)], L, g)) rfl
  exact g_ret_un noX12 (i := .ireturn) (jI_X12_figure 23 _ rfl) (by decide) h1
theorem bk_X12_figure_24 {ax : zAx} {CE : g_E} {n : Nat} {ρ : Nat → Int} {L : List Nat} {g : Nat → Nat → Int} {r : Option g_V} {h : g_H} (hr : g_run RX12 ax CE cX12_figure n (24, ρ, [], L, g) r h) : ∃ n' r1 h1', n' < n ∧ CE yX12_nextToken cX12_nextToken [(0, ρ 0)] (L, (g_up g (g (ρ 0).toNat 2).toNat (ρ 1).toNat (g (ρ 0).toNat 10))) r1 h1' ∧ g_run RX12 ax CE cX12_figure n' (38, ρ, g_push r1 [], h1') r h := by
  obtain ⟨n1, e, h1⟩ := g_blk_ok noX12 jI_X12_figure tab_X12 7 n hr (c2 := (35, ρ, [(1, ρ 0)], L, (g_up g (g (ρ 0).toNat 2).toNat (ρ 1).toNat (g (ρ 0).toNat 10)))) rfl
  obtain ⟨n2, c', e2, h2, h3⟩ := g_step_un noX12 (i := .invokevirtual 217) (len := 3) (jI_X12_figure 35 _ rfl) (gnrV _) h1
  obtain ⟨r1, h1', hx, hc⟩ := g_virt_un lk_X12 nat_all lX12_ok (idx := 217) (mi := 146) (ci := 12) (na := 1) rfl (by decide) mq_X12_nextToken [] [] (ρ 0) rfl rfl h2
  subst hc
  exact ⟨n2, r1, h1', by omega, hx, h3⟩
theorem bk_X12_figure_38 {ax : zAx} {CE : g_E} {n : Nat} {ρ : Nat → Int} {L : List Nat} {g : Nat → Nat → Int} {r : Option g_V} {h : g_H} (hr : g_run RX12 ax CE cX12_figure n (38, ρ, [], L, g) r h) : r = some (1, 0) ∧ h = (L, g) := by
  obtain ⟨n1, e, h1⟩ := g_blk_ok noX12 jI_X12_figure tab_X12 1 n hr (c2 := (39, ρ, [(1, 0)], L, g)) rfl
  exact g_ret_un noX12 (i := .ireturn) (jI_X12_figure 39 _ rfl) (by decide) h1
theorem pt_X12_figure_0 {ax : zAx} {CE : g_E} (hCE : ∀ y cc as h r h', CE y cc as h r h' → g_ex ax y cc as h r h') {n : Nat} {ρ : Nat → Int} {L : List Nat} {g : Nat → Nat → Int} {r : Option g_V} {h : g_H} (h0 : g_run RX12 ax CE cX12_figure n (0, ρ, [], L, g) r h) : ((g (ρ 0).toNat 9 = 1 ∧ ((F_X12_isIn (g (ρ 0).toNat 10) (ρ 2) (ρ 3) g = 0 ∧ (r = some (1, 2) ∧ h = (L, g))) ∨ (¬ (F_X12_isIn (g (ρ 0).toNat 10) (ρ 2) (ρ 3) g = 0) ∧ (∃ n' r1 h1', n' < n ∧ CE yX12_nextToken cX12_nextToken [(0, (ρ 0))] (L, (g_up g (g (ρ 0).toNat 2).toNat (ρ 1).toNat (g (ρ 0).toNat 10))) r1 h1' ∧ g_run RX12 ax CE cX12_figure n' (38, ρ, g_push r1 [], h1') r h)))) ∨ (¬ (g (ρ 0).toNat 9 = 1) ∧ (r = some (1, 1) ∧ h = (L, g)))) := by
  obtain ⟨n1, l1, h1⟩ := bk_X12_figure_0 h0
  rcases h1 with ⟨c1, h1⟩ | ⟨c1, h1⟩
  · refine Or.inl ⟨c1, ?_⟩
    obtain ⟨n2, r2, k2, l2, x2, h2⟩ := bk_X12_figure_10 h1
    obtain ⟨e2, d2⟩ := f_X12_isIn (hCE _ _ _ _ _ _ x2)
    subst e2
    subst d2
    obtain ⟨n3, l3, h3⟩ := bk_X12_figure_19 h2
    rcases h3 with ⟨c3, h3⟩ | ⟨c3, h3⟩
    · refine Or.inl ⟨c3, ?_⟩
      obtain ⟨e4, d4⟩ := bk_X12_figure_22 h3
      exact ⟨e4, d4⟩
    · refine Or.inr ⟨c3, ?_⟩
      obtain ⟨n5, r5, k5, l5, x5, h5⟩ := bk_X12_figure_24 h3
      exact ⟨n5, r5, k5, by omega, x5, h5⟩
  · refine Or.inr ⟨c1, ?_⟩
    obtain ⟨e6, d6⟩ := bk_X12_figure_8 h1
    exact ⟨e6, d6⟩
theorem pt_X12_figure_38 {ax : zAx} {CE : g_E} (hCE : ∀ y cc as h r h', CE y cc as h r h' → g_ex ax y cc as h r h') {n : Nat} {ρ : Nat → Int} {L : List Nat} {g : Nat → Nat → Int} {r : Option g_V} {h : g_H} (h0 : g_run RX12 ax CE cX12_figure n (38, ρ, [], L, g) r h) : (r = some (1, 0) ∧ h = (L, g)) := by
  obtain ⟨e1, d1⟩ := bk_X12_figure_38 h0
  exact ⟨e1, d1⟩

theorem jI_X12_worded : ∀ (pc : Nat) (q : Instr × Nat), lkp iX12_worded pc = some q → decode cX12_worded pc = .ok q := fun pc q hq => jX12_worded (pc, q) (lkp_in iX12_worded hq)
theorem bk_X12_worded_0 {ax : zAx} {CE : g_E} {n : Nat} {ρ : Nat → Int} {L : List Nat} {g : Nat → Nat → Int} {r : Option g_V} {h : g_H} (hr : g_run RX12 ax CE cX12_worded n (0, ρ, [], L, g) r h) : ∃ n' r1 h1', n' < n ∧ CE yX12_isWord cX12_isWord [(0, ρ 0), (1, ρ 1)] (L, g) r1 h1' ∧ g_run RX12 ax CE cX12_worded n' (5, ρ, g_push r1 [], h1') r h := by
  obtain ⟨n1, e, h1⟩ := g_blk_ok noX12 jI_X12_worded tab_X12 2 n hr (c2 := (2, ρ, [(2, ρ 1), (1, ρ 0)], L, g)) rfl
  obtain ⟨n2, c', e2, h2, h3⟩ := g_step_un noX12 (i := .invokevirtual 236) (len := 3) (jI_X12_worded 2 _ rfl) (gnrV _) h1
  obtain ⟨r1, h1', hx, hc⟩ := g_virt_un lk_X12 nat_all lX12_ok (idx := 236) (mi := 132) (ci := 12) (na := 2) rfl (by decide) mq_X12_isWord [(2, ρ 1)] [] (ρ 0) rfl rfl h2
  subst hc
  exact ⟨n2, r1, h1', by omega, hx, h3⟩
theorem bk_X12_worded_5 {ax : zAx} {CE : g_E} {n : Nat} {ρ : Nat → Int} {s0 : Int} {L : List Nat} {g : Nat → Nat → Int} {r : Option g_V} {h : g_H} (hr : g_run RX12 ax CE cX12_worded n (5, ρ, [(1, s0)], L, g) r h) : ∃ n', n' < n ∧ ((s0 = 0 ∧ g_run RX12 ax CE cX12_worded n' (8, ρ, [], L, g) r h) ∨ (¬ (s0 = 0) ∧ g_run RX12 ax CE cX12_worded n' (10, ρ, [], L, g) r h)) := by
  obtain ⟨n1, e, h1⟩ := g_blk_ok noX12 jI_X12_worded tab_X12 1 n hr (c2 := (if s0 = 0 then 8 else 10, ρ, [], L, g)) rfl
  refine ⟨n1, by omega, ?_⟩
  by_cases hc : s0 = 0
  · exact Or.inl ⟨hc, by rw [if_pos hc] at h1; exact h1⟩
  · exact Or.inr ⟨hc, by rw [if_neg hc] at h1; exact h1⟩
theorem bk_X12_worded_8 {ax : zAx} {CE : g_E} {n : Nat} {ρ : Nat → Int} {L : List Nat} {g : Nat → Nat → Int} {r : Option g_V} {h : g_H} (hr : g_run RX12 ax CE cX12_worded n (8, ρ, [], L, g) r h) : r = some (1, 1) ∧ h = (L, g) := by
  obtain ⟨n1, e, h1⟩ := g_blk_ok noX12 jI_X12_worded tab_X12 1 n hr (c2 := (9, ρ, [(1, 1)], L, g)) rfl
  exact g_ret_un noX12 (i := .ireturn) (jI_X12_worded 9 _ rfl) (by decide) h1
theorem bk_X12_worded_10 {ax : zAx} {CE : g_E} {n : Nat} {ρ : Nat → Int} {L : List Nat} {g : Nat → Nat → Int} {r : Option g_V} {h : g_H} (hr : g_run RX12 ax CE cX12_worded n (10, ρ, [], L, g) r h) : ∃ n' r1 h1', n' < n ∧ CE yX12_nextToken cX12_nextToken [(0, ρ 0)] (L, g) r1 h1' ∧ g_run RX12 ax CE cX12_worded n' (14, ρ, g_push r1 [], h1') r h := by
  obtain ⟨n1, e, h1⟩ := g_blk_ok noX12 jI_X12_worded tab_X12 1 n hr (c2 := (11, ρ, [(1, ρ 0)], L, g)) rfl
  obtain ⟨n2, c', e2, h2, h3⟩ := g_step_un noX12 (i := .invokevirtual 217) (len := 3) (jI_X12_worded 11 _ rfl) (gnrV _) h1
  obtain ⟨r1, h1', hx, hc⟩ := g_virt_un lk_X12 nat_all lX12_ok (idx := 217) (mi := 146) (ci := 12) (na := 1) rfl (by decide) mq_X12_nextToken [] [] (ρ 0) rfl rfl h2
  subst hc
  exact ⟨n2, r1, h1', by omega, hx, h3⟩
theorem bk_X12_worded_14 {ax : zAx} {CE : g_E} {n : Nat} {ρ : Nat → Int} {L : List Nat} {g : Nat → Nat → Int} {r : Option g_V} {h : g_H} (hr : g_run RX12 ax CE cX12_worded n (14, ρ, [], L, g) r h) : ∃ n' r1 h1', n' < n ∧ CE yX12_figure cX12_figure [(0, ρ 0), (1, ρ 3), (2, ρ 4), (3, ρ 5)] (L, g) r1 h1' ∧ g_run RX12 ax CE cX12_worded n' (23, ρ, g_push r1 [], h1') r h := by
  obtain ⟨n1, e, h1⟩ := g_blk_ok noX12 jI_X12_worded tab_X12 4 n hr (c2 := (20, ρ, [(1, ρ 5), (1, ρ 4), (1, ρ 3), (1, ρ 0)], L, g)) rfl
  obtain ⟨n2, c', e2, h2, h3⟩ := g_step_un noX12 (i := .invokevirtual 262) (len := 3) (jI_X12_worded 20 _ rfl) (gnrV _) h1
  obtain ⟨r1, h1', hx, hc⟩ := g_virt_un lk_X12 nat_all lX12_ok (idx := 262) (mi := 106) (ci := 12) (na := 4) rfl (by decide) mq_X12_figure [(1, ρ 3), (1, ρ 4), (1, ρ 5)] [] (ρ 0) rfl rfl h2
  subst hc
  exact ⟨n2, r1, h1', by omega, hx, h3⟩
theorem bk_X12_worded_23 {ax : zAx} {CE : g_E} {n : Nat} {ρ : Nat → Int} {s0 : Int} {L : List Nat} {g : Nat → Nat → Int} {r : Option g_V} {h : g_H} (hr : g_run RX12 ax CE cX12_worded n (23, ρ, [(1, s0)], L, g) r h) : r = some (1, s0) ∧ h = (L, g) := by
  obtain ⟨n1, e, h1⟩ := g_blk_ok noX12 jI_X12_worded tab_X12 0 n hr (c2 := (23, ρ, [(1, s0)], L, g)) rfl
  exact g_ret_un noX12 (i := .ireturn) (jI_X12_worded 23 _ rfl) (by decide) h1
theorem pt_X12_worded_0 {ax : zAx} {CE : g_E} (hCE : ∀ y cc as h r h', CE y cc as h r h' → g_ex ax y cc as h r h') {n : Nat} {ρ : Nat → Int} {L : List Nat} {g : Nat → Nat → Int} {r : Option g_V} {h : g_H} (h0 : g_run RX12 ax CE cX12_worded n (0, ρ, [], L, g) r h) : ((F_X12_isWord (ρ 0) (ρ 1) g = 0 ∧ (r = some (1, 1) ∧ h = (L, g))) ∨ (¬ (F_X12_isWord (ρ 0) (ρ 1) g = 0) ∧ (∃ n' r1 h1', n' < n ∧ CE yX12_nextToken cX12_nextToken [(0, (ρ 0))] (L, g) r1 h1' ∧ g_run RX12 ax CE cX12_worded n' (14, ρ, g_push r1 [], h1') r h))) := by
  obtain ⟨n1, r1, k1, l1, x1, h1⟩ := bk_X12_worded_0 h0
  obtain ⟨e1, d1⟩ := f_X12_isWord (hCE _ _ _ _ _ _ x1)
  subst e1
  subst d1
  obtain ⟨n2, l2, h2⟩ := bk_X12_worded_5 h1
  rcases h2 with ⟨c2, h2⟩ | ⟨c2, h2⟩
  · refine Or.inl ⟨c2, ?_⟩
    obtain ⟨e3, d3⟩ := bk_X12_worded_8 h2
    exact ⟨e3, d3⟩
  · refine Or.inr ⟨c2, ?_⟩
    obtain ⟨n4, r4, k4, l4, x4, h4⟩ := bk_X12_worded_10 h2
    exact ⟨n4, r4, k4, by omega, x4, h4⟩
theorem pt_X12_worded_14 {ax : zAx} {CE : g_E} (hCE : ∀ y cc as h r h', CE y cc as h r h' → g_ex ax y cc as h r h') {n : Nat} {ρ : Nat → Int} {L : List Nat} {g : Nat → Nat → Int} {r : Option g_V} {h : g_H} (h0 : g_run RX12 ax CE cX12_worded n (14, ρ, [], L, g) r h) : (∃ n' r1 h1', n' < n ∧ CE yX12_figure cX12_figure [(0, (ρ 0)), (1, (ρ 3)), (2, (ρ 4)), (3, (ρ 5))] (L, g) r1 h1' ∧ g_run RX12 ax CE cX12_worded n' (23, ρ, g_push r1 [], h1') r h) := by
  obtain ⟨n1, r1, k1, l1, x1, h1⟩ := bk_X12_worded_14 h0
  exact ⟨n1, r1, k1, by omega, x1, h1⟩
theorem pt_X12_worded_23 {ax : zAx} {CE : g_E} (hCE : ∀ y cc as h r h', CE y cc as h r h' → g_ex ax y cc as h r h') {n : Nat} {ρ : Nat → Int} {s0 : Int} {L : List Nat} {g : Nat → Nat → Int} {r : Option g_V} {h : g_H} (h0 : g_run RX12 ax CE cX12_worded n (23, ρ, [(1, s0)], L, g) r h) : (r = some (1, s0) ∧ h = (L, g)) := by
  obtain ⟨e1, d1⟩ := bk_X12_worded_23 h0
  exact ⟨e1, d1⟩

theorem jI_X12_fieldClause : ∀ (pc : Nat) (q : Instr × Nat), lkp iX12_fieldClause pc = some q → decode cX12_fieldClause pc = .ok q := fun pc q hq => jX12_fieldClause (pc, q) (lkp_in iX12_fieldClause hq)
theorem bk_X12_fieldClause_0 {ax : zAx} {CE : g_E} {n : Nat} {ρ : Nat → Int} {L : List Nat} {g : Nat → Nat → Int} {r : Option g_V} {h : g_H} (hr : g_run RX12 ax CE cX12_fieldClause n (0, ρ, [], L, g) r h) : ∃ n' r1 h1', n' < n ∧ CE yX12_figure cX12_figure [(0, ρ 0), (1, g_i ((ρ 1) + 1)), (2, 0), (3, 9)] (L, g) r1 h1' ∧ g_run RX12 ax CE cX12_fieldClause n' (10, ρ, g_push r1 [], h1') r h := by
  obtain ⟨n1, e, h1⟩ := g_blk_ok noX12 jI_X12_fieldClause tab_X12 6 n hr (c2 := (7, ρ, [(1, 9), (1, 0), (1, g_i ((ρ 1) + 1)), (1, ρ 0)], L, g)) rfl
  obtain ⟨n2, c', e2, h2, h3⟩ := g_step_un noX12 (i := .invokevirtual 262) (len := 3) (jI_X12_fieldClause 7 _ rfl) (gnrV _) h1
  obtain ⟨r1, h1', hx, hc⟩ := g_virt_un lk_X12 nat_all lX12_ok (idx := 262) (mi := 106) (ci := 12) (na := 4) rfl (by decide) mq_X12_figure [(1, g_i ((ρ 1) + 1)), (1, 0), (1, 9)] [] (ρ 0) rfl rfl h2
  subst hc
  exact ⟨n2, r1, h1', by omega, hx, h3⟩
theorem bk_X12_fieldClause_10 {ax : zAx} {CE : g_E} {n : Nat} {ρ : Nat → Int} {s0 : Int} {L : List Nat} {g : Nat → Nat → Int} {r : Option g_V} {h : g_H} (hr : g_run RX12 ax CE cX12_fieldClause n (10, ρ, [(1, s0)], L, g) r h) : ∃ n', n' < n ∧ ((s0 = 0 ∧ g_run RX12 ax CE cX12_fieldClause n' (15, (va_up ρ 2 s0), [], L, g) r h) ∨ (¬ (s0 = 0) ∧ g_run RX12 ax CE cX12_fieldClause n' (40, (va_up ρ 2 s0), [], L, g) r h)) := by
  obtain ⟨n1, e, h1⟩ := g_blk_ok noX12 jI_X12_fieldClause tab_X12 3 n hr (c2 := (if s0 = 0 then 15 else 40, (va_up ρ 2 s0), [], L, g)) rfl
  refine ⟨n1, by omega, ?_⟩
  by_cases hc : s0 = 0
  · exact Or.inl ⟨hc, by rw [if_pos hc] at h1; exact h1⟩
  · exact Or.inr ⟨hc, by rw [if_neg hc] at h1; exact h1⟩
theorem bk_X12_fieldClause_15 {ax : zAx} {CE : g_E} {n : Nat} {ρ : Nat → Int} {L : List Nat} {g : Nat → Nat → Int} {r : Option g_V} {h : g_H} (hr : g_run RX12 ax CE cX12_fieldClause n (15, ρ, [], L, g) r h) : ∃ n' r1 h1', n' < n ∧ CE yX12_w5 cX12_w5 [(0, 110), (1, 101), (2, 101), (3, 100), (4, 115)] (L, g) r1 h1' ∧ g_run RX12 ax CE cX12_fieldClause n' (29, ρ, g_push r1 [(1, ρ 0)], h1') r h := by
  obtain ⟨n1, e, h1⟩ := g_blk_ok noX12 jI_X12_fieldClause tab_X12 6 n hr (c2 := (26, ρ, [(1, 115), (1, 100), (1, 101), (1, 101), (1, 110), (1, ρ 0)], L, g)) rfl
  obtain ⟨n2, c', e2, h2, h3⟩ := g_step_un noX12 (i := .invokestatic 184) (len := 3) (jI_X12_fieldClause 26 _ rfl) (gnrS _) h1
  obtain ⟨r1, h1', hx, hc⟩ := g_static_un lk_X12 nat_all lX12_ok (idx := 184) (mode := 1) (mi := 193) (ci := 0) (na := 5) rfl (by decide) (by decide) mq_X12_w5 [(1, 110), (1, 101), (1, 101), (1, 100), (1, 115)] [(1, ρ 0)] rfl rfl h2
  subst hc
  exact ⟨n2, r1, h1', by omega, hx, h3⟩
theorem bk_X12_fieldClause_29 {ax : zAx} {CE : g_E} {n : Nat} {ρ : Nat → Int} {s0 : Int} {s1 : Int} {L : List Nat} {g : Nat → Nat → Int} {r : Option g_V} {h : g_H} (hr : g_run RX12 ax CE cX12_fieldClause n (29, ρ, [(2, s0), (1, s1)], L, g) r h) : ∃ n' r1 h1', n' < n ∧ CE yX12_worded cX12_worded [(0, s1), (1, s0), (3, g_i ((ρ 1) + 2)), (4, 0), (5, 999)] (L, g) r1 h1' ∧ g_run RX12 ax CE cX12_fieldClause n' (39, ρ, g_push r1 [], h1') r h := by
  obtain ⟨n1, e, h1⟩ := g_blk_ok noX12 jI_X12_fieldClause tab_X12 5 n hr (c2 := (36, ρ, [(1, 999), (1, 0), (1, g_i ((ρ 1) + 2)), (2, s0), (1, s1)], L, g)) rfl
  obtain ⟨n2, c', e2, h2, h3⟩ := g_step_un noX12 (i := .invokevirtual 269) (len := 3) (jI_X12_fieldClause 36 _ rfl) (gnrV _) h1
  obtain ⟨r1, h1', hx, hc⟩ := g_virt_un lk_X12 nat_all lX12_ok (idx := 269) (mi := 199) (ci := 12) (na := 5) rfl (by decide) mq_X12_worded [(2, s0), (1, g_i ((ρ 1) + 2)), (1, 0), (1, 999)] [] s1 rfl rfl h2
  subst hc
  exact ⟨n2, r1, h1', by omega, hx, h3⟩
theorem bk_X12_fieldClause_39 {ax : zAx} {CE : g_E} {n : Nat} {ρ : Nat → Int} {s0 : Int} {L : List Nat} {g : Nat → Nat → Int} {r : Option g_V} {h : g_H} (hr : g_run RX12 ax CE cX12_fieldClause n (39, ρ, [(1, s0)], L, g) r h) : ∃ n', n' < n ∧ g_run RX12 ax CE cX12_fieldClause n' (40, (va_up ρ 2 s0), [], L, g) r h := by
  obtain ⟨n1, e, h1⟩ := g_blk_ok noX12 jI_X12_fieldClause tab_X12 1 n hr (c2 := (40, (va_up ρ 2 s0), [], L, g)) rfl
  exact ⟨n1, by omega, h1⟩
theorem bk_X12_fieldClause_40 {ax : zAx} {CE : g_E} {n : Nat} {ρ : Nat → Int} {L : List Nat} {g : Nat → Nat → Int} {r : Option g_V} {h : g_H} (hr : g_run RX12 ax CE cX12_fieldClause n (40, ρ, [], L, g) r h) : ∃ n', n' < n ∧ ((ρ 2 = 0 ∧ g_run RX12 ax CE cX12_fieldClause n' (48, ρ, [], L, g) r h) ∨ (¬ (ρ 2 = 0) ∧ g_run RX12 ax CE cX12_fieldClause n' (44, ρ, [], L, g) r h)) := by
  obtain ⟨n1, e, h1⟩ := g_blk_ok noX12 jI_X12_fieldClause tab_X12 2 n hr (c2 := (if ρ 2 = 0 then 48 else 44, ρ, [], L, g)) rfl
  refine ⟨n1, by omega, ?_⟩
  by_cases hc : ρ 2 = 0
  · exact Or.inl ⟨hc, by rw [if_pos hc] at h1; exact h1⟩
  · exact Or.inr ⟨hc, by rw [if_neg hc] at h1; exact h1⟩
theorem bk_X12_fieldClause_44 {ax : zAx} {CE : g_E} {n : Nat} {ρ : Nat → Int} {L : List Nat} {g : Nat → Nat → Int} {r : Option g_V} {h : g_H} (hr : g_run RX12 ax CE cX12_fieldClause n (44, ρ, [], L, g) r h) : ∃ n', n' < n ∧ g_run RX12 ax CE cX12_fieldClause n' (74, ρ, [(1, ρ 2)], L, g) r h := by
  obtain ⟨n1, e, h1⟩ := g_blk_ok noX12 jI_X12_fieldClause tab_X12 2 n hr (c2 := (74, ρ, [(1, ρ 2)], L, g)) rfl
  exact ⟨n1, by omega, h1⟩
theorem bk_X12_fieldClause_48 {ax : zAx} {CE : g_E} {n : Nat} {ρ : Nat → Int} {L : List Nat} {g : Nat → Nat → Int} {r : Option g_V} {h : g_H} (hr : g_run RX12 ax CE cX12_fieldClause n (48, ρ, [], L, g) r h) : ∃ n' r1 h1', n' < n ∧ CE yX12_w6 cX12_w6 [(0, 100), (1, 114), (2, 111), (3, 119), (4, 110), (5, 115)] (L, g) r1 h1' ∧ g_run RX12 ax CE cX12_fieldClause n' (64, ρ, g_push r1 [(1, ρ 0)], h1') r h := by
  obtain ⟨n1, e, h1⟩ := g_blk_ok noX12 jI_X12_fieldClause tab_X12 7 n hr (c2 := (61, ρ, [(1, 115), (1, 110), (1, 119), (1, 111), (1, 114), (1, 100), (1, ρ 0)], L, g)) rfl
  obtain ⟨n2, c', e2, h2, h3⟩ := g_step_un noX12 (i := .invokestatic 273) (len := 3) (jI_X12_fieldClause 61 _ rfl) (gnrS _) h1
  obtain ⟨r1, h1', hx, hc⟩ := g_static_un lk_X12 nat_all lX12_ok (idx := 273) (mode := 1) (mi := 194) (ci := 0) (na := 6) rfl (by decide) (by decide) mq_X12_w6 [(1, 100), (1, 114), (1, 111), (1, 119), (1, 110), (1, 115)] [(1, ρ 0)] rfl rfl h2
  subst hc
  exact ⟨n2, r1, h1', by omega, hx, h3⟩
theorem bk_X12_fieldClause_64 {ax : zAx} {CE : g_E} {n : Nat} {ρ : Nat → Int} {s0 : Int} {s1 : Int} {L : List Nat} {g : Nat → Nat → Int} {r : Option g_V} {h : g_H} (hr : g_run RX12 ax CE cX12_fieldClause n (64, ρ, [(2, s0), (1, s1)], L, g) r h) : ∃ n' r1 h1', n' < n ∧ CE yX12_worded cX12_worded [(0, s1), (1, s0), (3, g_i ((ρ 1) + 3)), (4, 1), (5, 999)] (L, g) r1 h1' ∧ g_run RX12 ax CE cX12_fieldClause n' (74, ρ, g_push r1 [], h1') r h := by
  obtain ⟨n1, e, h1⟩ := g_blk_ok noX12 jI_X12_fieldClause tab_X12 5 n hr (c2 := (71, ρ, [(1, 999), (1, 1), (1, g_i ((ρ 1) + 3)), (2, s0), (1, s1)], L, g)) rfl
  obtain ⟨n2, c', e2, h2, h3⟩ := g_step_un noX12 (i := .invokevirtual 269) (len := 3) (jI_X12_fieldClause 71 _ rfl) (gnrV _) h1
  obtain ⟨r1, h1', hx, hc⟩ := g_virt_un lk_X12 nat_all lX12_ok (idx := 269) (mi := 199) (ci := 12) (na := 5) rfl (by decide) mq_X12_worded [(2, s0), (1, g_i ((ρ 1) + 3)), (1, 1), (1, 999)] [] s1 rfl rfl h2
  subst hc
  exact ⟨n2, r1, h1', by omega, hx, h3⟩
theorem bk_X12_fieldClause_74 {ax : zAx} {CE : g_E} {n : Nat} {ρ : Nat → Int} {s0 : Int} {L : List Nat} {g : Nat → Nat → Int} {r : Option g_V} {h : g_H} (hr : g_run RX12 ax CE cX12_fieldClause n (74, ρ, [(1, s0)], L, g) r h) : r = some (1, s0) ∧ h = (L, g) := by
  obtain ⟨n1, e, h1⟩ := g_blk_ok noX12 jI_X12_fieldClause tab_X12 0 n hr (c2 := (74, ρ, [(1, s0)], L, g)) rfl
  exact g_ret_un noX12 (i := .ireturn) (jI_X12_fieldClause 74 _ rfl) (by decide) h1
theorem pt_X12_fieldClause_0 {ax : zAx} {CE : g_E} (hCE : ∀ y cc as h r h', CE y cc as h r h' → g_ex ax y cc as h r h') {n : Nat} {ρ : Nat → Int} {L : List Nat} {g : Nat → Nat → Int} {r : Option g_V} {h : g_H} (h0 : g_run RX12 ax CE cX12_fieldClause n (0, ρ, [], L, g) r h) : (∃ n' r1 h1', n' < n ∧ CE yX12_figure cX12_figure [(0, (ρ 0)), (1, g_i ((ρ 1) + 1)), (2, 0), (3, 9)] (L, g) r1 h1' ∧ g_run RX12 ax CE cX12_fieldClause n' (10, ρ, g_push r1 [], h1') r h) := by
  obtain ⟨n1, r1, k1, l1, x1, h1⟩ := bk_X12_fieldClause_0 h0
  exact ⟨n1, r1, k1, by omega, x1, h1⟩
theorem pt_X12_fieldClause_10 {ax : zAx} {CE : g_E} (hCE : ∀ y cc as h r h', CE y cc as h r h' → g_ex ax y cc as h r h') {n : Nat} {ρ : Nat → Int} {s0 : Int} {L : List Nat} {g : Nat → Nat → Int} {r : Option g_V} {h : g_H} (h0 : g_run RX12 ax CE cX12_fieldClause n (10, ρ, [(1, s0)], L, g) r h) : ((s0 = 0 ∧ (∃ n' r1 h1', n' < n ∧ CE yX12_worded cX12_worded [(0, (ρ 0)), (1, F_X12_w5 110 101 101 100 115 g), (3, g_i ((ρ 1) + 2)), (4, 0), (5, 999)] (L, g) r1 h1' ∧ g_run RX12 ax CE cX12_fieldClause n' (39, (va_up ρ 2 s0), g_push r1 [], h1') r h)) ∨ (¬ (s0 = 0) ∧ (r = some (1, s0) ∧ h = (L, g)))) := by
  obtain ⟨n1, l1, h1⟩ := bk_X12_fieldClause_10 h0
  rcases h1 with ⟨c1, h1⟩ | ⟨c1, h1⟩
  · refine Or.inl ⟨c1, ?_⟩
    obtain ⟨n2, r2, k2, l2, x2, h2⟩ := bk_X12_fieldClause_15 h1
    obtain ⟨e2, d2⟩ := f_X12_w5 (hCE _ _ _ _ _ _ x2)
    subst e2
    subst d2
    obtain ⟨n3, r3, k3, l3, x3, h3⟩ := bk_X12_fieldClause_29 h2
    exact ⟨n3, r3, k3, by omega, x3, h3⟩
  · refine Or.inr ⟨c1, ?_⟩
    obtain ⟨n4, l4, h4⟩ := bk_X12_fieldClause_40 h1
    rcases h4 with ⟨c4, h4⟩ | ⟨c4, h4⟩
    · exact absurd c4 c1
    · obtain ⟨n5, l5, h5⟩ := bk_X12_fieldClause_44 h4
      obtain ⟨e6, d6⟩ := bk_X12_fieldClause_74 h5
      exact ⟨e6, d6⟩
theorem pt_X12_fieldClause_39 {ax : zAx} {CE : g_E} (hCE : ∀ y cc as h r h', CE y cc as h r h' → g_ex ax y cc as h r h') {n : Nat} {ρ : Nat → Int} {s0 : Int} {L : List Nat} {g : Nat → Nat → Int} {r : Option g_V} {h : g_H} (h0 : g_run RX12 ax CE cX12_fieldClause n (39, ρ, [(1, s0)], L, g) r h) : ((s0 = 0 ∧ (∃ n' r1 h1', n' < n ∧ CE yX12_worded cX12_worded [(0, (ρ 0)), (1, F_X12_w6 100 114 111 119 110 115 g), (3, g_i ((ρ 1) + 3)), (4, 1), (5, 999)] (L, g) r1 h1' ∧ g_run RX12 ax CE cX12_fieldClause n' (74, (va_up ρ 2 s0), g_push r1 [], h1') r h)) ∨ (¬ (s0 = 0) ∧ (r = some (1, s0) ∧ h = (L, g)))) := by
  obtain ⟨n1, l1, h1⟩ := bk_X12_fieldClause_39 h0
  obtain ⟨n2, l2, h2⟩ := bk_X12_fieldClause_40 h1
  rcases h2 with ⟨c2, h2⟩ | ⟨c2, h2⟩
  · refine Or.inl ⟨c2, ?_⟩
    obtain ⟨n3, r3, k3, l3, x3, h3⟩ := bk_X12_fieldClause_48 h2
    obtain ⟨e3, d3⟩ := f_X12_w6 (hCE _ _ _ _ _ _ x3)
    subst e3
    subst d3
    obtain ⟨n4, r4, k4, l4, x4, h4⟩ := bk_X12_fieldClause_64 h3
    exact ⟨n4, r4, k4, by omega, x4, h4⟩
  · refine Or.inr ⟨c2, ?_⟩
    obtain ⟨n5, l5, h5⟩ := bk_X12_fieldClause_44 h2
    obtain ⟨e6, d6⟩ := bk_X12_fieldClause_74 h5
    exact ⟨e6, d6⟩
theorem pt_X12_fieldClause_74 {ax : zAx} {CE : g_E} (hCE : ∀ y cc as h r h', CE y cc as h r h' → g_ex ax y cc as h r h') {n : Nat} {ρ : Nat → Int} {s0 : Int} {L : List Nat} {g : Nat → Nat → Int} {r : Option g_V} {h : g_H} (h0 : g_run RX12 ax CE cX12_fieldClause n (74, ρ, [(1, s0)], L, g) r h) : (r = some (1, s0) ∧ h = (L, g)) := by
  obtain ⟨e1, d1⟩ := bk_X12_fieldClause_74 h0
  exact ⟨e1, d1⟩

theorem jI_X12_oneClause : ∀ (pc : Nat) (q : Instr × Nat), lkp iX12_oneClause pc = some q → decode cX12_oneClause pc = .ok q := fun pc q hq => jX12_oneClause (pc, q) (lkp_in iX12_oneClause hq)
theorem bk_X12_oneClause_0 {ax : zAx} {CE : g_E} {n : Nat} {ρ : Nat → Int} {L : List Nat} {g : Nat → Nat → Int} {r : Option g_V} {h : g_H} (hr : g_run RX12 ax CE cX12_oneClause n (0, ρ, [], L, g) r h) : ∃ n' r1 h1', n' < n ∧ CE yX12_figure cX12_figure [(0, ρ 0), (1, g_i ((ρ 1) + 1)), (2, 1), (3, 99)] (L, g) r1 h1' ∧ g_run RX12 ax CE cX12_oneClause n' (10, ρ, g_push r1 [], h1') r h := by
  obtain ⟨n1, e, h1⟩ := g_blk_ok noX12 jI_X12_oneClause tab_X12 6 n hr (c2 := (7, ρ, [(1, 99), (1, 1), (1, g_i ((ρ 1) + 1)), (1, ρ 0)], L, g)) rfl
  obtain ⟨n2, c', e2, h2, h3⟩ := g_step_un noX12 (i := .invokevirtual 262) (len := 3) (jI_X12_oneClause 7 _ rfl) (gnrV _) h1
  obtain ⟨r1, h1', hx, hc⟩ := g_virt_un lk_X12 nat_all lX12_ok (idx := 262) (mi := 106) (ci := 12) (na := 4) rfl (by decide) mq_X12_figure [(1, g_i ((ρ 1) + 1)), (1, 1), (1, 99)] [] (ρ 0) rfl rfl h2
  subst hc
  exact ⟨n2, r1, h1', by omega, hx, h3⟩
theorem bk_X12_oneClause_10 {ax : zAx} {CE : g_E} {n : Nat} {ρ : Nat → Int} {s0 : Int} {L : List Nat} {g : Nat → Nat → Int} {r : Option g_V} {h : g_H} (hr : g_run RX12 ax CE cX12_oneClause n (10, ρ, [(1, s0)], L, g) r h) : ∃ n', n' < n ∧ ((s0 = 0 ∧ g_run RX12 ax CE cX12_oneClause n' (15, (va_up ρ 2 s0), [], L, g) r h) ∨ (¬ (s0 = 0) ∧ g_run RX12 ax CE cX12_oneClause n' (35, (va_up ρ 2 s0), [], L, g) r h)) := by
  obtain ⟨n1, e, h1⟩ := g_blk_ok noX12 jI_X12_oneClause tab_X12 3 n hr (c2 := (if s0 = 0 then 15 else 35, (va_up ρ 2 s0), [], L, g)) rfl
  refine ⟨n1, by omega, ?_⟩
  by_cases hc : s0 = 0
  · exact Or.inl ⟨hc, by rw [if_pos hc] at h1; exact h1⟩
  · exact Or.inr ⟨hc, by rw [if_neg hc] at h1; exact h1⟩
theorem bk_X12_oneClause_15 {ax : zAx} {CE : g_E} {n : Nat} {ρ : Nat → Int} {L : List Nat} {g : Nat → Nat → Int} {r : Option g_V} {h : g_H} (hr : g_run RX12 ax CE cX12_oneClause n (15, ρ, [], L, g) r h) : ∃ n' r1 h1', n' < n ∧ CE yX12_w3 cX12_w3 [(0, 97), (1, 103), (2, 101)] (L, g) r1 h1' ∧ g_run RX12 ax CE cX12_oneClause n' (25, ρ, g_push r1 [(1, ρ 0)], h1') r h := by
  obtain ⟨n1, e, h1⟩ := g_blk_ok noX12 jI_X12_oneClause tab_X12 4 n hr (c2 := (22, ρ, [(1, 101), (1, 103), (1, 97), (1, ρ 0)], L, g)) rfl
  obtain ⟨n2, c', e2, h2, h3⟩ := g_step_un noX12 (i := .invokestatic 176) (len := 3) (jI_X12_oneClause 22 _ rfl) (gnrS _) h1
  obtain ⟨r1, h1', hx, hc⟩ := g_static_un lk_X12 nat_all lX12_ok (idx := 176) (mode := 1) (mi := 191) (ci := 0) (na := 3) rfl (by decide) (by decide) mq_X12_w3 [(1, 97), (1, 103), (1, 101)] [(1, ρ 0)] rfl rfl h2
  subst hc
  exact ⟨n2, r1, h1', by omega, hx, h3⟩
theorem bk_X12_oneClause_25 {ax : zAx} {CE : g_E} {n : Nat} {ρ : Nat → Int} {s0 : Int} {s1 : Int} {L : List Nat} {g : Nat → Nat → Int} {r : Option g_V} {h : g_H} (hr : g_run RX12 ax CE cX12_oneClause n (25, ρ, [(2, s0), (1, s1)], L, g) r h) : ∃ n' r1 h1', n' < n ∧ CE yX12_worded cX12_worded [(0, s1), (1, s0), (3, g_i ((ρ 1) + 2)), (4, 0), (5, 99)] (L, g) r1 h1' ∧ g_run RX12 ax CE cX12_oneClause n' (34, ρ, g_push r1 [], h1') r h := by
  obtain ⟨n1, e, h1⟩ := g_blk_ok noX12 jI_X12_oneClause tab_X12 5 n hr (c2 := (31, ρ, [(1, 99), (1, 0), (1, g_i ((ρ 1) + 2)), (2, s0), (1, s1)], L, g)) rfl
  obtain ⟨n2, c', e2, h2, h3⟩ := g_step_un noX12 (i := .invokevirtual 269) (len := 3) (jI_X12_oneClause 31 _ rfl) (gnrV _) h1
  obtain ⟨r1, h1', hx, hc⟩ := g_virt_un lk_X12 nat_all lX12_ok (idx := 269) (mi := 199) (ci := 12) (na := 5) rfl (by decide) mq_X12_worded [(2, s0), (1, g_i ((ρ 1) + 2)), (1, 0), (1, 99)] [] s1 rfl rfl h2
  subst hc
  exact ⟨n2, r1, h1', by omega, hx, h3⟩
theorem bk_X12_oneClause_34 {ax : zAx} {CE : g_E} {n : Nat} {ρ : Nat → Int} {s0 : Int} {L : List Nat} {g : Nat → Nat → Int} {r : Option g_V} {h : g_H} (hr : g_run RX12 ax CE cX12_oneClause n (34, ρ, [(1, s0)], L, g) r h) : ∃ n', n' < n ∧ g_run RX12 ax CE cX12_oneClause n' (35, (va_up ρ 2 s0), [], L, g) r h := by
  obtain ⟨n1, e, h1⟩ := g_blk_ok noX12 jI_X12_oneClause tab_X12 1 n hr (c2 := (35, (va_up ρ 2 s0), [], L, g)) rfl
  exact ⟨n1, by omega, h1⟩
theorem bk_X12_oneClause_35 {ax : zAx} {CE : g_E} {n : Nat} {ρ : Nat → Int} {L : List Nat} {g : Nat → Nat → Int} {r : Option g_V} {h : g_H} (hr : g_run RX12 ax CE cX12_oneClause n (35, ρ, [], L, g) r h) : ∃ n', n' < n ∧ ((ρ 2 = 0 ∧ g_run RX12 ax CE cX12_oneClause n' (43, ρ, [], L, g) r h) ∨ (¬ (ρ 2 = 0) ∧ g_run RX12 ax CE cX12_oneClause n' (39, ρ, [], L, g) r h)) := by
  obtain ⟨n1, e, h1⟩ := g_blk_ok noX12 jI_X12_oneClause tab_X12 2 n hr (c2 := (if ρ 2 = 0 then 43 else 39, ρ, [], L, g)) rfl
  refine ⟨n1, by omega, ?_⟩
  by_cases hc : ρ 2 = 0
  · exact Or.inl ⟨hc, by rw [if_pos hc] at h1; exact h1⟩
  · exact Or.inr ⟨hc, by rw [if_neg hc] at h1; exact h1⟩
theorem bk_X12_oneClause_39 {ax : zAx} {CE : g_E} {n : Nat} {ρ : Nat → Int} {L : List Nat} {g : Nat → Nat → Int} {r : Option g_V} {h : g_H} (hr : g_run RX12 ax CE cX12_oneClause n (39, ρ, [], L, g) r h) : ∃ n', n' < n ∧ g_run RX12 ax CE cX12_oneClause n' (59, ρ, [(1, ρ 2)], L, g) r h := by
  obtain ⟨n1, e, h1⟩ := g_blk_ok noX12 jI_X12_oneClause tab_X12 2 n hr (c2 := (59, ρ, [(1, ρ 2)], L, g)) rfl
  exact ⟨n1, by omega, h1⟩
theorem bk_X12_oneClause_43 {ax : zAx} {CE : g_E} {n : Nat} {ρ : Nat → Int} {L : List Nat} {g : Nat → Nat → Int} {r : Option g_V} {h : g_H} (hr : g_run RX12 ax CE cX12_oneClause n (43, ρ, [], L, g) r h) : ∃ n' r1 h1', n' < n ∧ CE yX12_w2 cX12_w2 [(0, 111), (1, 110)] (L, g) r1 h1' ∧ g_run RX12 ax CE cX12_oneClause n' (51, ρ, g_push r1 [(1, ρ 0)], h1') r h := by
  obtain ⟨n1, e, h1⟩ := g_blk_ok noX12 jI_X12_oneClause tab_X12 3 n hr (c2 := (48, ρ, [(1, 110), (1, 111), (1, ρ 0)], L, g)) rfl
  obtain ⟨n2, c', e2, h2, h3⟩ := g_step_un noX12 (i := .invokestatic 172) (len := 3) (jI_X12_oneClause 48 _ rfl) (gnrS _) h1
  obtain ⟨r1, h1', hx, hc⟩ := g_static_un lk_X12 nat_all lX12_ok (idx := 172) (mode := 1) (mi := 190) (ci := 0) (na := 2) rfl (by decide) (by decide) mq_X12_w2 [(1, 111), (1, 110)] [(1, ρ 0)] rfl rfl h2
  subst hc
  exact ⟨n2, r1, h1', by omega, hx, h3⟩
theorem bk_X12_oneClause_51 {ax : zAx} {CE : g_E} {n : Nat} {ρ : Nat → Int} {s0 : Int} {s1 : Int} {L : List Nat} {g : Nat → Nat → Int} {r : Option g_V} {h : g_H} (hr : g_run RX12 ax CE cX12_oneClause n (51, ρ, [(2, s0), (1, s1)], L, g) r h) : ∃ n' r1 h1', n' < n ∧ CE yX12_worded cX12_worded [(0, s1), (1, s0), (3, g_i ((ρ 1) + 3)), (4, 0), (5, 5)] (L, g) r1 h1' ∧ g_run RX12 ax CE cX12_oneClause n' (59, ρ, g_push r1 [], h1') r h := by
  obtain ⟨n1, e, h1⟩ := g_blk_ok noX12 jI_X12_oneClause tab_X12 5 n hr (c2 := (56, ρ, [(1, 5), (1, 0), (1, g_i ((ρ 1) + 3)), (2, s0), (1, s1)], L, g)) rfl
  obtain ⟨n2, c', e2, h2, h3⟩ := g_step_un noX12 (i := .invokevirtual 269) (len := 3) (jI_X12_oneClause 56 _ rfl) (gnrV _) h1
  obtain ⟨r1, h1', hx, hc⟩ := g_virt_un lk_X12 nat_all lX12_ok (idx := 269) (mi := 199) (ci := 12) (na := 5) rfl (by decide) mq_X12_worded [(2, s0), (1, g_i ((ρ 1) + 3)), (1, 0), (1, 5)] [] s1 rfl rfl h2
  subst hc
  exact ⟨n2, r1, h1', by omega, hx, h3⟩
theorem bk_X12_oneClause_59 {ax : zAx} {CE : g_E} {n : Nat} {ρ : Nat → Int} {s0 : Int} {L : List Nat} {g : Nat → Nat → Int} {r : Option g_V} {h : g_H} (hr : g_run RX12 ax CE cX12_oneClause n (59, ρ, [(1, s0)], L, g) r h) : r = some (1, s0) ∧ h = (L, g) := by
  obtain ⟨n1, e, h1⟩ := g_blk_ok noX12 jI_X12_oneClause tab_X12 0 n hr (c2 := (59, ρ, [(1, s0)], L, g)) rfl
  exact g_ret_un noX12 (i := .ireturn) (jI_X12_oneClause 59 _ rfl) (by decide) h1
theorem pt_X12_oneClause_0 {ax : zAx} {CE : g_E} (hCE : ∀ y cc as h r h', CE y cc as h r h' → g_ex ax y cc as h r h') {n : Nat} {ρ : Nat → Int} {L : List Nat} {g : Nat → Nat → Int} {r : Option g_V} {h : g_H} (h0 : g_run RX12 ax CE cX12_oneClause n (0, ρ, [], L, g) r h) : (∃ n' r1 h1', n' < n ∧ CE yX12_figure cX12_figure [(0, (ρ 0)), (1, g_i ((ρ 1) + 1)), (2, 1), (3, 99)] (L, g) r1 h1' ∧ g_run RX12 ax CE cX12_oneClause n' (10, ρ, g_push r1 [], h1') r h) := by
  obtain ⟨n1, r1, k1, l1, x1, h1⟩ := bk_X12_oneClause_0 h0
  exact ⟨n1, r1, k1, by omega, x1, h1⟩
theorem pt_X12_oneClause_10 {ax : zAx} {CE : g_E} (hCE : ∀ y cc as h r h', CE y cc as h r h' → g_ex ax y cc as h r h') {n : Nat} {ρ : Nat → Int} {s0 : Int} {L : List Nat} {g : Nat → Nat → Int} {r : Option g_V} {h : g_H} (h0 : g_run RX12 ax CE cX12_oneClause n (10, ρ, [(1, s0)], L, g) r h) : ((s0 = 0 ∧ (∃ n' r1 h1', n' < n ∧ CE yX12_worded cX12_worded [(0, (ρ 0)), (1, F_X12_w3 97 103 101 g), (3, g_i ((ρ 1) + 2)), (4, 0), (5, 99)] (L, g) r1 h1' ∧ g_run RX12 ax CE cX12_oneClause n' (34, (va_up ρ 2 s0), g_push r1 [], h1') r h)) ∨ (¬ (s0 = 0) ∧ (r = some (1, s0) ∧ h = (L, g)))) := by
  obtain ⟨n1, l1, h1⟩ := bk_X12_oneClause_10 h0
  rcases h1 with ⟨c1, h1⟩ | ⟨c1, h1⟩
  · refine Or.inl ⟨c1, ?_⟩
    obtain ⟨n2, r2, k2, l2, x2, h2⟩ := bk_X12_oneClause_15 h1
    obtain ⟨e2, d2⟩ := f_X12_w3 (hCE _ _ _ _ _ _ x2)
    subst e2
    subst d2
    obtain ⟨n3, r3, k3, l3, x3, h3⟩ := bk_X12_oneClause_25 h2
    exact ⟨n3, r3, k3, by omega, x3, h3⟩
  · refine Or.inr ⟨c1, ?_⟩
    obtain ⟨n4, l4, h4⟩ := bk_X12_oneClause_35 h1
    rcases h4 with ⟨c4, h4⟩ | ⟨c4, h4⟩
    · exact absurd c4 c1
    · obtain ⟨n5, l5, h5⟩ := bk_X12_oneClause_39 h4
      obtain ⟨e6, d6⟩ := bk_X12_oneClause_59 h5
      exact ⟨e6, d6⟩
theorem pt_X12_oneClause_34 {ax : zAx} {CE : g_E} (hCE : ∀ y cc as h r h', CE y cc as h r h' → g_ex ax y cc as h r h') {n : Nat} {ρ : Nat → Int} {s0 : Int} {L : List Nat} {g : Nat → Nat → Int} {r : Option g_V} {h : g_H} (h0 : g_run RX12 ax CE cX12_oneClause n (34, ρ, [(1, s0)], L, g) r h) : ((s0 = 0 ∧ (∃ n' r1 h1', n' < n ∧ CE yX12_worded cX12_worded [(0, (ρ 0)), (1, F_X12_w2 111 110 g), (3, g_i ((ρ 1) + 3)), (4, 0), (5, 5)] (L, g) r1 h1' ∧ g_run RX12 ax CE cX12_oneClause n' (59, (va_up ρ 2 s0), g_push r1 [], h1') r h)) ∨ (¬ (s0 = 0) ∧ (r = some (1, s0) ∧ h = (L, g)))) := by
  obtain ⟨n1, l1, h1⟩ := bk_X12_oneClause_34 h0
  obtain ⟨n2, l2, h2⟩ := bk_X12_oneClause_35 h1
  rcases h2 with ⟨c2, h2⟩ | ⟨c2, h2⟩
  · refine Or.inl ⟨c2, ?_⟩
    obtain ⟨n3, r3, k3, l3, x3, h3⟩ := bk_X12_oneClause_43 h2
    obtain ⟨e3, d3⟩ := f_X12_w2 (hCE _ _ _ _ _ _ x3)
    subst e3
    subst d3
    obtain ⟨n4, r4, k4, l4, x4, h4⟩ := bk_X12_oneClause_51 h3
    exact ⟨n4, r4, k4, by omega, x4, h4⟩
  · refine Or.inr ⟨c2, ?_⟩
    obtain ⟨n5, l5, h5⟩ := bk_X12_oneClause_39 h2
    obtain ⟨e6, d6⟩ := bk_X12_oneClause_59 h5
    exact ⟨e6, d6⟩
theorem pt_X12_oneClause_59 {ax : zAx} {CE : g_E} (hCE : ∀ y cc as h r h', CE y cc as h r h' → g_ex ax y cc as h r h') {n : Nat} {ρ : Nat → Int} {s0 : Int} {L : List Nat} {g : Nat → Nat → Int} {r : Option g_V} {h : g_H} (h0 : g_run RX12 ax CE cX12_oneClause n (59, ρ, [(1, s0)], L, g) r h) : (r = some (1, s0) ∧ h = (L, g)) := by
  obtain ⟨e1, d1⟩ := bk_X12_oneClause_59 h0
  exact ⟨e1, d1⟩

theorem jI_X12_stealClause : ∀ (pc : Nat) (q : Instr × Nat), lkp iX12_stealClause pc = some q → decode cX12_stealClause pc = .ok q := fun pc q hq => jX12_stealClause (pc, q) (lkp_in iX12_stealClause hq)
theorem bk_X12_stealClause_0 {ax : zAx} {CE : g_E} {n : Nat} {ρ : Nat → Int} {L : List Nat} {g : Nat → Nat → Int} {r : Option g_V} {h : g_H} (hr : g_run RX12 ax CE cX12_stealClause n (0, ρ, [], L, g) r h) : ∃ n' r1 h1', n' < n ∧ CE yX12_figure cX12_figure [(0, ρ 0), (1, g_i ((ρ 1) + 1)), (2, 0), (3, 7)] (L, g) r1 h1' ∧ g_run RX12 ax CE cX12_stealClause n' (10, ρ, g_push r1 [], h1') r h := by
  obtain ⟨n1, e, h1⟩ := g_blk_ok noX12 jI_X12_stealClause tab_X12 6 n hr (c2 := (7, ρ, [(1, 7), (1, 0), (1, g_i ((ρ 1) + 1)), (1, ρ 0)], L, g)) rfl
  obtain ⟨n2, c', e2, h2, h3⟩ := g_step_un noX12 (i := .invokevirtual 262) (len := 3) (jI_X12_stealClause 7 _ rfl) (gnrV _) h1
  obtain ⟨r1, h1', hx, hc⟩ := g_virt_un lk_X12 nat_all lX12_ok (idx := 262) (mi := 106) (ci := 12) (na := 4) rfl (by decide) mq_X12_figure [(1, g_i ((ρ 1) + 1)), (1, 0), (1, 7)] [] (ρ 0) rfl rfl h2
  subst hc
  exact ⟨n2, r1, h1', by omega, hx, h3⟩
theorem bk_X12_stealClause_10 {ax : zAx} {CE : g_E} {n : Nat} {ρ : Nat → Int} {s0 : Int} {L : List Nat} {g : Nat → Nat → Int} {r : Option g_V} {h : g_H} (hr : g_run RX12 ax CE cX12_stealClause n (10, ρ, [(1, s0)], L, g) r h) : ∃ n', n' < n ∧ ((s0 = 0 ∧ g_run RX12 ax CE cX12_stealClause n' (15, (va_up ρ 2 s0), [], L, g) r h) ∨ (¬ (s0 = 0) ∧ g_run RX12 ax CE cX12_stealClause n' (37, (va_up ρ 2 s0), [], L, g) r h)) := by
  obtain ⟨n1, e, h1⟩ := g_blk_ok noX12 jI_X12_stealClause tab_X12 3 n hr (c2 := (if s0 = 0 then 15 else 37, (va_up ρ 2 s0), [], L, g)) rfl
  refine ⟨n1, by omega, ?_⟩
  by_cases hc : s0 = 0
  · exact Or.inl ⟨hc, by rw [if_pos hc] at h1; exact h1⟩
  · exact Or.inr ⟨hc, by rw [if_neg hc] at h1; exact h1⟩
theorem bk_X12_stealClause_15 {ax : zAx} {CE : g_E} {n : Nat} {ρ : Nat → Int} {L : List Nat} {g : Nat → Nat → Int} {r : Option g_V} {h : g_H} (hr : g_run RX12 ax CE cX12_stealClause n (15, ρ, [], L, g) r h) : ∃ n' r1 h1', n' < n ∧ CE yX12_w4 cX12_w4 [(0, 102), (1, 114), (2, 111), (3, 109)] (L, g) r1 h1' ∧ g_run RX12 ax CE cX12_stealClause n' (27, ρ, g_push r1 [(1, ρ 0)], h1') r h := by
  obtain ⟨n1, e, h1⟩ := g_blk_ok noX12 jI_X12_stealClause tab_X12 5 n hr (c2 := (24, ρ, [(1, 109), (1, 111), (1, 114), (1, 102), (1, ρ 0)], L, g)) rfl
  obtain ⟨n2, c', e2, h2, h3⟩ := g_step_un noX12 (i := .invokestatic 180) (len := 3) (jI_X12_stealClause 24 _ rfl) (gnrS _) h1
  obtain ⟨r1, h1', hx, hc⟩ := g_static_un lk_X12 nat_all lX12_ok (idx := 180) (mode := 1) (mi := 192) (ci := 0) (na := 4) rfl (by decide) (by decide) mq_X12_w4 [(1, 102), (1, 114), (1, 111), (1, 109)] [(1, ρ 0)] rfl rfl h2
  subst hc
  exact ⟨n2, r1, h1', by omega, hx, h3⟩
theorem bk_X12_stealClause_27 {ax : zAx} {CE : g_E} {n : Nat} {ρ : Nat → Int} {s0 : Int} {s1 : Int} {L : List Nat} {g : Nat → Nat → Int} {r : Option g_V} {h : g_H} (hr : g_run RX12 ax CE cX12_stealClause n (27, ρ, [(2, s0), (1, s1)], L, g) r h) : ∃ n' r1 h1', n' < n ∧ CE yX12_worded cX12_worded [(0, s1), (1, s0), (3, g_i ((ρ 1) + 2)), (4, 0), (5, 7)] (L, g) r1 h1' ∧ g_run RX12 ax CE cX12_stealClause n' (36, ρ, g_push r1 [], h1') r h := by
  obtain ⟨n1, e, h1⟩ := g_blk_ok noX12 jI_X12_stealClause tab_X12 5 n hr (c2 := (33, ρ, [(1, 7), (1, 0), (1, g_i ((ρ 1) + 2)), (2, s0), (1, s1)], L, g)) rfl
  obtain ⟨n2, c', e2, h2, h3⟩ := g_step_un noX12 (i := .invokevirtual 269) (len := 3) (jI_X12_stealClause 33 _ rfl) (gnrV _) h1
  obtain ⟨r1, h1', hx, hc⟩ := g_virt_un lk_X12 nat_all lX12_ok (idx := 269) (mi := 199) (ci := 12) (na := 5) rfl (by decide) mq_X12_worded [(2, s0), (1, g_i ((ρ 1) + 2)), (1, 0), (1, 7)] [] s1 rfl rfl h2
  subst hc
  exact ⟨n2, r1, h1', by omega, hx, h3⟩
theorem bk_X12_stealClause_36 {ax : zAx} {CE : g_E} {n : Nat} {ρ : Nat → Int} {s0 : Int} {L : List Nat} {g : Nat → Nat → Int} {r : Option g_V} {h : g_H} (hr : g_run RX12 ax CE cX12_stealClause n (36, ρ, [(1, s0)], L, g) r h) : ∃ n', n' < n ∧ g_run RX12 ax CE cX12_stealClause n' (37, (va_up ρ 2 s0), [], L, g) r h := by
  obtain ⟨n1, e, h1⟩ := g_blk_ok noX12 jI_X12_stealClause tab_X12 1 n hr (c2 := (37, (va_up ρ 2 s0), [], L, g)) rfl
  exact ⟨n1, by omega, h1⟩
theorem bk_X12_stealClause_37 {ax : zAx} {CE : g_E} {n : Nat} {ρ : Nat → Int} {L : List Nat} {g : Nat → Nat → Int} {r : Option g_V} {h : g_H} (hr : g_run RX12 ax CE cX12_stealClause n (37, ρ, [], L, g) r h) : ∃ n', n' < n ∧ ((ρ 2 = 0 ∧ g_run RX12 ax CE cX12_stealClause n' (45, ρ, [], L, g) r h) ∨ (¬ (ρ 2 = 0) ∧ g_run RX12 ax CE cX12_stealClause n' (41, ρ, [], L, g) r h)) := by
  obtain ⟨n1, e, h1⟩ := g_blk_ok noX12 jI_X12_stealClause tab_X12 2 n hr (c2 := (if ρ 2 = 0 then 45 else 41, ρ, [], L, g)) rfl
  refine ⟨n1, by omega, ?_⟩
  by_cases hc : ρ 2 = 0
  · exact Or.inl ⟨hc, by rw [if_pos hc] at h1; exact h1⟩
  · exact Or.inr ⟨hc, by rw [if_neg hc] at h1; exact h1⟩
theorem bk_X12_stealClause_41 {ax : zAx} {CE : g_E} {n : Nat} {ρ : Nat → Int} {L : List Nat} {g : Nat → Nat → Int} {r : Option g_V} {h : g_H} (hr : g_run RX12 ax CE cX12_stealClause n (41, ρ, [], L, g) r h) : ∃ n', n' < n ∧ g_run RX12 ax CE cX12_stealClause n' (62, ρ, [(1, ρ 2)], L, g) r h := by
  obtain ⟨n1, e, h1⟩ := g_blk_ok noX12 jI_X12_stealClause tab_X12 2 n hr (c2 := (62, ρ, [(1, ρ 2)], L, g)) rfl
  exact ⟨n1, by omega, h1⟩
theorem bk_X12_stealClause_45 {ax : zAx} {CE : g_E} {n : Nat} {ρ : Nat → Int} {L : List Nat} {g : Nat → Nat → Int} {r : Option g_V} {h : g_H} (hr : g_run RX12 ax CE cX12_stealClause n (45, ρ, [], L, g) r h) : ∃ n' r1 h1', n' < n ∧ CE yX12_w2 cX12_w2 [(0, 98), (1, 121)] (L, g) r1 h1' ∧ g_run RX12 ax CE cX12_stealClause n' (53, ρ, g_push r1 [(1, ρ 0)], h1') r h := by
  obtain ⟨n1, e, h1⟩ := g_blk_ok noX12 jI_X12_stealClause tab_X12 3 n hr (c2 := (50, ρ, [(1, 121), (1, 98), (1, ρ 0)], L, g)) rfl
  obtain ⟨n2, c', e2, h2, h3⟩ := g_step_un noX12 (i := .invokestatic 172) (len := 3) (jI_X12_stealClause 50 _ rfl) (gnrS _) h1
  obtain ⟨r1, h1', hx, hc⟩ := g_static_un lk_X12 nat_all lX12_ok (idx := 172) (mode := 1) (mi := 190) (ci := 0) (na := 2) rfl (by decide) (by decide) mq_X12_w2 [(1, 98), (1, 121)] [(1, ρ 0)] rfl rfl h2
  subst hc
  exact ⟨n2, r1, h1', by omega, hx, h3⟩
theorem bk_X12_stealClause_53 {ax : zAx} {CE : g_E} {n : Nat} {ρ : Nat → Int} {s0 : Int} {s1 : Int} {L : List Nat} {g : Nat → Nat → Int} {r : Option g_V} {h : g_H} (hr : g_run RX12 ax CE cX12_stealClause n (53, ρ, [(2, s0), (1, s1)], L, g) r h) : ∃ n' r1 h1', n' < n ∧ CE yX12_worded cX12_worded [(0, s1), (1, s0), (3, g_i ((ρ 1) + 3)), (4, 1), (5, 99)] (L, g) r1 h1' ∧ g_run RX12 ax CE cX12_stealClause n' (62, ρ, g_push r1 [], h1') r h := by
  obtain ⟨n1, e, h1⟩ := g_blk_ok noX12 jI_X12_stealClause tab_X12 5 n hr (c2 := (59, ρ, [(1, 99), (1, 1), (1, g_i ((ρ 1) + 3)), (2, s0), (1, s1)], L, g)) rfl
  obtain ⟨n2, c', e2, h2, h3⟩ := g_step_un noX12 (i := .invokevirtual 269) (len := 3) (jI_X12_stealClause 59 _ rfl) (gnrV _) h1
  obtain ⟨r1, h1', hx, hc⟩ := g_virt_un lk_X12 nat_all lX12_ok (idx := 269) (mi := 199) (ci := 12) (na := 5) rfl (by decide) mq_X12_worded [(2, s0), (1, g_i ((ρ 1) + 3)), (1, 1), (1, 99)] [] s1 rfl rfl h2
  subst hc
  exact ⟨n2, r1, h1', by omega, hx, h3⟩
theorem bk_X12_stealClause_62 {ax : zAx} {CE : g_E} {n : Nat} {ρ : Nat → Int} {s0 : Int} {L : List Nat} {g : Nat → Nat → Int} {r : Option g_V} {h : g_H} (hr : g_run RX12 ax CE cX12_stealClause n (62, ρ, [(1, s0)], L, g) r h) : r = some (1, s0) ∧ h = (L, g) := by
  obtain ⟨n1, e, h1⟩ := g_blk_ok noX12 jI_X12_stealClause tab_X12 0 n hr (c2 := (62, ρ, [(1, s0)], L, g)) rfl
  exact g_ret_un noX12 (i := .ireturn) (jI_X12_stealClause 62 _ rfl) (by decide) h1
theorem pt_X12_stealClause_0 {ax : zAx} {CE : g_E} (hCE : ∀ y cc as h r h', CE y cc as h r h' → g_ex ax y cc as h r h') {n : Nat} {ρ : Nat → Int} {L : List Nat} {g : Nat → Nat → Int} {r : Option g_V} {h : g_H} (h0 : g_run RX12 ax CE cX12_stealClause n (0, ρ, [], L, g) r h) : (∃ n' r1 h1', n' < n ∧ CE yX12_figure cX12_figure [(0, (ρ 0)), (1, g_i ((ρ 1) + 1)), (2, 0), (3, 7)] (L, g) r1 h1' ∧ g_run RX12 ax CE cX12_stealClause n' (10, ρ, g_push r1 [], h1') r h) := by
  obtain ⟨n1, r1, k1, l1, x1, h1⟩ := bk_X12_stealClause_0 h0
  exact ⟨n1, r1, k1, by omega, x1, h1⟩
theorem pt_X12_stealClause_10 {ax : zAx} {CE : g_E} (hCE : ∀ y cc as h r h', CE y cc as h r h' → g_ex ax y cc as h r h') {n : Nat} {ρ : Nat → Int} {s0 : Int} {L : List Nat} {g : Nat → Nat → Int} {r : Option g_V} {h : g_H} (h0 : g_run RX12 ax CE cX12_stealClause n (10, ρ, [(1, s0)], L, g) r h) : ((s0 = 0 ∧ (∃ n' r1 h1', n' < n ∧ CE yX12_worded cX12_worded [(0, (ρ 0)), (1, F_X12_w4 102 114 111 109 g), (3, g_i ((ρ 1) + 2)), (4, 0), (5, 7)] (L, g) r1 h1' ∧ g_run RX12 ax CE cX12_stealClause n' (36, (va_up ρ 2 s0), g_push r1 [], h1') r h)) ∨ (¬ (s0 = 0) ∧ (r = some (1, s0) ∧ h = (L, g)))) := by
  obtain ⟨n1, l1, h1⟩ := bk_X12_stealClause_10 h0
  rcases h1 with ⟨c1, h1⟩ | ⟨c1, h1⟩
  · refine Or.inl ⟨c1, ?_⟩
    obtain ⟨n2, r2, k2, l2, x2, h2⟩ := bk_X12_stealClause_15 h1
    obtain ⟨e2, d2⟩ := f_X12_w4 (hCE _ _ _ _ _ _ x2)
    subst e2
    subst d2
    obtain ⟨n3, r3, k3, l3, x3, h3⟩ := bk_X12_stealClause_27 h2
    exact ⟨n3, r3, k3, by omega, x3, h3⟩
  · refine Or.inr ⟨c1, ?_⟩
    obtain ⟨n4, l4, h4⟩ := bk_X12_stealClause_37 h1
    rcases h4 with ⟨c4, h4⟩ | ⟨c4, h4⟩
    · exact absurd c4 c1
    · obtain ⟨n5, l5, h5⟩ := bk_X12_stealClause_41 h4
      obtain ⟨e6, d6⟩ := bk_X12_stealClause_62 h5
      exact ⟨e6, d6⟩
theorem pt_X12_stealClause_36 {ax : zAx} {CE : g_E} (hCE : ∀ y cc as h r h', CE y cc as h r h' → g_ex ax y cc as h r h') {n : Nat} {ρ : Nat → Int} {s0 : Int} {L : List Nat} {g : Nat → Nat → Int} {r : Option g_V} {h : g_H} (h0 : g_run RX12 ax CE cX12_stealClause n (36, ρ, [(1, s0)], L, g) r h) : ((s0 = 0 ∧ (∃ n' r1 h1', n' < n ∧ CE yX12_worded cX12_worded [(0, (ρ 0)), (1, F_X12_w2 98 121 g), (3, g_i ((ρ 1) + 3)), (4, 1), (5, 99)] (L, g) r1 h1' ∧ g_run RX12 ax CE cX12_stealClause n' (62, (va_up ρ 2 s0), g_push r1 [], h1') r h)) ∨ (¬ (s0 = 0) ∧ (r = some (1, s0) ∧ h = (L, g)))) := by
  obtain ⟨n1, l1, h1⟩ := bk_X12_stealClause_36 h0
  obtain ⟨n2, l2, h2⟩ := bk_X12_stealClause_37 h1
  rcases h2 with ⟨c2, h2⟩ | ⟨c2, h2⟩
  · refine Or.inl ⟨c2, ?_⟩
    obtain ⟨n3, r3, k3, l3, x3, h3⟩ := bk_X12_stealClause_45 h2
    obtain ⟨e3, d3⟩ := f_X12_w2 (hCE _ _ _ _ _ _ x3)
    subst e3
    subst d3
    obtain ⟨n4, r4, k4, l4, x4, h4⟩ := bk_X12_stealClause_53 h3
    exact ⟨n4, r4, k4, by omega, x4, h4⟩
  · refine Or.inr ⟨c2, ?_⟩
    obtain ⟨n5, l5, h5⟩ := bk_X12_stealClause_41 h2
    obtain ⟨e6, d6⟩ := bk_X12_stealClause_62 h5
    exact ⟨e6, d6⟩
theorem pt_X12_stealClause_62 {ax : zAx} {CE : g_E} (hCE : ∀ y cc as h r h', CE y cc as h r h' → g_ex ax y cc as h r h') {n : Nat} {ρ : Nat → Int} {s0 : Int} {L : List Nat} {g : Nat → Nat → Int} {r : Option g_V} {h : g_H} (h0 : g_run RX12 ax CE cX12_stealClause n (62, ρ, [(1, s0)], L, g) r h) : (r = some (1, s0) ∧ h = (L, g)) := by
  obtain ⟨e1, d1⟩ := bk_X12_stealClause_62 h0
  exact ⟨e1, d1⟩
