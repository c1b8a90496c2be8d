/-! Paths. -/
theorem jI_X3_readBoth : ∀ (pc : Nat) (q : Instr × Nat), lkp iX3_readBoth pc = some q → decode cX3_readBoth pc = .ok q := fun pc q hq => jX3_readBoth (pc, q) (lkp_in iX3_readBoth hq)
theorem bk_X3_readBoth_0 {ax : zAx} {CE : g_E} {n : Nat} {ρ : Nat → Int} {L : List Nat} {g : Nat → Nat → Int} {r : Option g_V} {h : g_H} (hr : g_run RX3 ax CE cX3_readBoth n (0, ρ, [], L, g) r h) : ∃ n' r1 h1', n' < n ∧ CE yX3_readAsk cX3_readAsk [(0, ρ 0), (1, ρ 1)] (L, g) r1 h1' ∧ g_run RX3 ax CE cX3_readBoth n' (5, ρ, g_push r1 [], h1') r h := by
  obtain ⟨n1, e, h1⟩ := g_blk_ok noX3 jI_X3_readBoth tab_X3 2 n hr (c2 := (2, ρ, [(1, ρ 1), (1, ρ 0)], L, g)) rfl
  obtain ⟨n2, c', e2, h2, h3⟩ := g_step_un noX3 (i := .invokevirtual 128) (len := 3) (jI_X3_readBoth 2 _ rfl) (gnrV _) h1
  obtain ⟨r1, h1', hx, hc⟩ := g_virt_un lk_X3 nat_all lX3_ok (idx := 128) (mi := 230) (ci := 3) (na := 2) rfl (by decide) mq_X3_readAsk [(1, ρ 1)] [] (ρ 0) rfl rfl h2
  subst hc
  exact ⟨n2, r1, h1', by omega, hx, h3⟩
theorem bk_X3_readBoth_5 {ax : zAx} {CE : g_E} {n : Nat} {ρ : Nat → Int} {L : List Nat} {g : Nat → Nat → Int} {r : Option g_V} {h : g_H} (hr : g_run RX3 ax CE cX3_readBoth n (5, ρ, [], L, g) r h) : ∃ n', n' < n ∧ g_run RX3 ax CE cX3_readBoth n' (7, (va_up ρ 2 0), [], L, g) r h := by
  obtain ⟨n1, e, h1⟩ := g_blk_ok noX3 jI_X3_readBoth tab_X3 2 n hr (c2 := (7, (va_up ρ 2 0), [], L, g)) rfl
  exact ⟨n1, by omega, h1⟩
theorem bk_X3_readBoth_7 {ax : zAx} {CE : g_E} {n : Nat} {ρ : Nat → Int} {L : List Nat} {g : Nat → Nat → Int} {r : Option g_V} {h : g_H} (hr : g_run RX3 ax CE cX3_readBoth n (7, ρ, [], L, g) r h) : ∃ n', n' < n ∧ ((300 ≤ ρ 2 ∧ g_run RX3 ax CE cX3_readBoth n' (55, ρ, [], L, g) r h) ∨ (¬ (300 ≤ ρ 2) ∧ g_run RX3 ax CE cX3_readBoth n' (14, ρ, [], L, g) r h)) := by
  obtain ⟨n1, e, h1⟩ := g_blk_ok noX3 jI_X3_readBoth tab_X3 3 n hr (c2 := (if 300 ≤ ρ 2 then 55 else 14, ρ, [], L, g)) rfl
  refine ⟨n1, by omega, ?_⟩
  by_cases hc : 300 ≤ ρ 2
  · exact Or.inl ⟨hc, by rw [if_pos hc] at h1; exact h1⟩
  · exact Or.inr ⟨hc, by rw [if_neg hc] at h1; exact h1⟩
theorem bk_X3_readBoth_14 {ax : zAx} {CE : g_E} {n : Nat} {ρ : Nat → Int} {L : List Nat} {g : Nat → Nat → Int} {r : Option g_V} {h : g_H} (hr : g_run RX3 ax CE cX3_readBoth n (14, ρ, [], L, g) r h) : ∃ n', n' < n ∧ ((g (ρ 0).toNat 0 = 0 ∧ g_run RX3 ax CE cX3_readBoth n' (21, ρ, [], L, g) r h) ∨ (¬ (g (ρ 0).toNat 0 = 0) ∧ g_run RX3 ax CE cX3_readBoth n' (55, ρ, [], L, g) r h)) := by
  obtain ⟨n1, e, h1⟩ := g_blk_ok noX3 jI_X3_readBoth tab_X3 3 n hr (c2 := (if g (ρ 0).toNat 0 = 0 then 21 else 55, ρ, [], L, g)) rfl
  refine ⟨n1, by omega, ?_⟩
  by_cases hc : g (ρ 0).toNat 0 = 0
  · exact Or.inl ⟨hc, by rw [if_pos hc] at h1; exact h1⟩
  · exact Or.inr ⟨hc, by rw [if_neg hc] at h1; exact h1⟩
theorem bk_X3_readBoth_21 {ax : zAx} {CE : g_E} {n : Nat} {ρ : Nat → Int} {L : List Nat} {g : Nat → Nat → Int} {r : Option g_V} {h : g_H} (hr : g_run RX3 ax CE cX3_readBoth n (21, ρ, [], L, g) r h) : ∃ n', n' < n ∧ ((g (ρ 0).toNat 6 = 24 ∧ g_run RX3 ax CE cX3_readBoth n' (30, ρ, [], L, g) r h) ∨ (¬ (g (ρ 0).toNat 6 = 24) ∧ g_run RX3 ax CE cX3_readBoth n' (55, ρ, [], L, g) r h)) := by
  obtain ⟨n1, e, h1⟩ := g_blk_ok noX3 jI_X3_readBoth tab_X3 4 n hr (c2 := (if g (ρ 0).toNat 6 = 24 then 30 else 55, ρ, [], L, g)) rfl
  refine ⟨n1, by omega, ?_⟩
  by_cases hc : g (ρ 0).toNat 6 = 24
  · exact Or.inl ⟨hc, by rw [if_pos hc] at h1; exact h1⟩
  · exact Or.inr ⟨hc, by rw [if_neg hc] at h1; exact h1⟩
theorem bk_X3_readBoth_30 {ax : zAx} {CE : g_E} {n : Nat} {ρ : Nat → Int} {L : List Nat} {g : Nat → Nat → Int} {r : Option g_V} {h : g_H} (hr : g_run RX3 ax CE cX3_readBoth n (30, ρ, [], L, g) r h) : ∃ n' r1 h1', n' < n ∧ CE yX3_advance cX3_advance [(0, ρ 0)] (L, g) r1 h1' ∧ g_run RX3 ax CE cX3_readBoth n' (34, ρ, g_push r1 [], h1') r h := by
  obtain ⟨n1, e, h1⟩ := g_blk_ok noX3 jI_X3_readBoth tab_X3 1 n hr (c2 := (31, ρ, [(1, ρ 0)], L, g)) rfl
  obtain ⟨n2, c', e2, h2, h3⟩ := g_step_un noX3 (i := .invokevirtual 68) (len := 3) (jI_X3_readBoth 31 _ rfl) (gnrV _) h1
  obtain ⟨r1, h1', hx, hc⟩ := g_virt_un lk_X3 nat_all lX3_ok (idx := 68) (mi := 223) (ci := 3) (na := 1) rfl (by decide) mq_X3_advance [] [] (ρ 0) rfl rfl h2
  subst hc
  exact ⟨n2, r1, h1', by omega, hx, h3⟩
theorem bk_X3_readBoth_34 {ax : zAx} {CE : g_E} {n : Nat} {ρ : Nat → Int} {L : List Nat} {g : Nat → Nat → Int} {r : Option g_V} {h : g_H} (hr : g_run RX3 ax CE cX3_readBoth n (34, ρ, [], L, g) r h) : ∃ n' r1 h1', n' < n ∧ CE yX3_readAsk cX3_readAsk [(0, ρ 0), (1, ρ 1)] (L, g) r1 h1' ∧ g_run RX3 ax CE cX3_readBoth n' (39, ρ, g_push r1 [], h1') r h := by
  obtain ⟨n1, e, h1⟩ := g_blk_ok noX3 jI_X3_readBoth tab_X3 2 n hr (c2 := (36, ρ, [(1, ρ 1), (1, ρ 0)], L, g)) rfl
  obtain ⟨n2, c', e2, h2, h3⟩ := g_step_un noX3 (i := .invokevirtual 128) (len := 3) (jI_X3_readBoth 36 _ rfl) (gnrV _) h1
  obtain ⟨r1, h1', hx, hc⟩ := g_virt_un lk_X3 nat_all lX3_ok (idx := 128) (mi := 230) (ci := 3) (na := 2) rfl (by decide) mq_X3_readAsk [(1, ρ 1)] [] (ρ 0) rfl rfl h2
  subst hc
  exact ⟨n2, r1, h1', by omega, hx, h3⟩
theorem bk_X3_readBoth_39 {ax : zAx} {CE : g_E} {n : Nat} {ρ : Nat → Int} {L : List Nat} {g : Nat → Nat → Int} {r : Option g_V} {h : g_H} (hr : g_run RX3 ax CE cX3_readBoth n (39, ρ, [], L, g) r h) : ∃ n' r1 h1', n' < n ∧ CE yX7_write cX7_write [(0, g (ρ 0).toNat 3), (1, 24), (2, 0)] (L, g) r1 h1' ∧ g_run RX3 ax CE cX3_readBoth n' (49, ρ, g_push r1 [], h1') r h := by
  obtain ⟨n1, e, h1⟩ := g_blk_ok noX3 jI_X3_readBoth tab_X3 4 n hr (c2 := (46, ρ, [(1, 0), (1, 24), (1, g (ρ 0).toNat 3)], L, g)) rfl
  obtain ⟨n2, c', e2, h2, h3⟩ := g_step_un noX3 (i := .invokevirtual 125) (len := 3) (jI_X3_readBoth 46 _ rfl) (gnrV _) h1
  obtain ⟨r1, h1', hx, hc⟩ := g_virt_un lk_X3 nat_all lX3_ok (idx := 125) (mi := 264) (ci := 7) (na := 3) rfl (by decide) mq_X7_write [(1, 24), (1, 0)] [] (g (ρ 0).toNat 3) rfl rfl h2
  subst hc
  exact ⟨n2, r1, h1', by omega, hx, h3⟩
theorem bk_X3_readBoth_49 {ax : zAx} {CE : g_E} {n : Nat} {ρ : Nat → Int} {L : List Nat} {g : Nat → Nat → Int} {r : Option g_V} {h : g_H} (hr : g_run RX3 ax CE cX3_readBoth n (49, ρ, [], L, g) r h) : ∃ n', n' < n ∧ g_run RX3 ax CE cX3_readBoth n' (7, (va_up ρ 2 (g_i (ρ 2 + 1))), [], L, g) r h := by
  obtain ⟨n1, e, h1⟩ := g_blk_ok noX3 jI_X3_readBoth tab_X3 2 n hr (c2 := (7, (va_up ρ 2 (g_i (ρ 2 + 1))), [], L, g)) rfl
  exact ⟨n1, by omega, h1⟩
theorem bk_X3_readBoth_55 {ax : zAx} {CE : g_E} {n : Nat} {ρ : Nat → Int} {L : List Nat} {g : Nat → Nat → Int} {r : Option g_V} {h : g_H} (hr : g_run RX3 ax CE cX3_readBoth n (55, ρ, [], L, g) r h) : r = none ∧ h = (L, g) := by
  obtain ⟨n1, e, h1⟩ := g_blk_ok noX3 jI_X3_readBoth tab_X3 0 n hr (c2 := (55, ρ, [], L, g)) rfl
  exact g_retv_un noX3 (jI_X3_readBoth 55 _ rfl) h1
theorem pt_X3_readBoth_0 {ax : zAx} {CE : g_E} (hCE : ∀ y cc as h r h', CE y cc as h r h' → g_ex ax y cc as h r h') {n : Nat} {ρ : Nat → Int} {L : List Nat} {g : Nat → Nat → Int} {r : Option g_V} {h : g_H} (h0 : g_run RX3 ax CE cX3_readBoth n (0, ρ, [], L, g) r h) : (∃ n' r1 h1', n' < n ∧ CE yX3_readAsk cX3_readAsk [(0, (ρ 0)), (1, (ρ 1))] (L, g) r1 h1' ∧ g_run RX3 ax CE cX3_readBoth n' (5, ρ, g_push r1 [], h1') r h) := by
  obtain ⟨n1, r1, k1, l1, x1, h1⟩ := bk_X3_readBoth_0 h0
  exact ⟨n1, r1, k1, by omega, x1, h1⟩
theorem pt_X3_readBoth_7 {ax : zAx} {CE : g_E} (hCE : ∀ y cc as h r h', CE y cc as h r h' → g_ex ax y cc as h r h') {n : Nat} {ρ : Nat → Int} {L : List Nat} {g : Nat → Nat → Int} {r : Option g_V} {h : g_H} (h0 : g_run RX3 ax CE cX3_readBoth n (7, ρ, [], L, g) r h) : ((300 ≤ (ρ 2) ∧ (r = none ∧ h = (L, g))) ∨ (¬ (300 ≤ (ρ 2)) ∧ ((g (ρ 0).toNat 0 = 0 ∧ ((g (ρ 0).toNat 6 = 24 ∧ (∃ n' r1 h1', n' < n ∧ CE yX3_readAsk cX3_readAsk [(0, (ρ 0)), (1, (ρ 1))] (L, (F_X3_advance (ρ 0) g)) r1 h1' ∧ g_run RX3 ax CE cX3_readBoth n' (39, ρ, g_push r1 [], h1') r h)) ∨ (¬ (g (ρ 0).toNat 6 = 24) ∧ (r = none ∧ h = (L, g))))) ∨ (¬ (g (ρ 0).toNat 0 = 0) ∧ (r = none ∧ h = (L, g)))))) := by
  obtain ⟨n1, l1, h1⟩ := bk_X3_readBoth_7 h0
  rcases h1 with ⟨c1, h1⟩ | ⟨c1, h1⟩
  · refine Or.inl ⟨c1, ?_⟩
    obtain ⟨e2, d2⟩ := bk_X3_readBoth_55 h1
    exact ⟨e2, d2⟩
  · refine Or.inr ⟨c1, ?_⟩
    obtain ⟨n3, l3, h3⟩ := bk_X3_readBoth_14 h1
    rcases h3 with ⟨c3, h3⟩ | ⟨c3, h3⟩
    · refine Or.inl ⟨c3, ?_⟩
      obtain ⟨n4, l4, h4⟩ := bk_X3_readBoth_21 h3
      rcases h4 with ⟨c4, h4⟩ | ⟨c4, h4⟩
      · refine Or.inl ⟨c4, ?_⟩
        obtain ⟨n5, r5, k5, l5, x5, h5⟩ := bk_X3_readBoth_30 h4
        obtain ⟨e5, d5⟩ := f_X3_advance (hCE _ _ _ _ _ _ x5)
        subst e5
        subst d5
        obtain ⟨n6, r6, k6, l6, x6, h6⟩ := bk_X3_readBoth_34 h5
        exact ⟨n6, r6, k6, by omega, x6, h6⟩
      · refine Or.inr ⟨c4, ?_⟩
        obtain ⟨e7, d7⟩ := bk_X3_readBoth_55 h4
        exact ⟨e7, d7⟩
    · refine Or.inr ⟨c3, ?_⟩
      obtain ⟨e8, d8⟩ := bk_X3_readBoth_55 h3
      exact ⟨e8, d8⟩
theorem pt_X3_readBoth_5 {ax : zAx} {CE : g_E} (hCE : ∀ y cc as h r h', CE y cc as h r h' → g_ex ax y cc as h r h') {n : Nat} {ρ : Nat → Int} {L : List Nat} {g : Nat → Nat → Int} {r : Option g_V} {h : g_H} (h0 : g_run RX3 ax CE cX3_readBoth n (5, ρ, [], L, g) r h) : (∃ n', n' < n ∧ g_run RX3 ax CE cX3_readBoth n' (7, (va_up ρ 2 0), [], L, g) r h) := by
  obtain ⟨n1, l1, h1⟩ := bk_X3_readBoth_5 h0
  exact ⟨_, by omega, h1⟩
theorem pt_X3_readBoth_39 {ax : zAx} {CE : g_E} (hCE : ∀ y cc as h r h', CE y cc as h r h' → g_ex ax y cc as h r h') {n : Nat} {ρ : Nat → Int} {L : List Nat} {g : Nat → Nat → Int} {r : Option g_V} {h : g_H} (h0 : g_run RX3 ax CE cX3_readBoth n (39, ρ, [], L, g) r h) : (∃ n', n' < n ∧ g_run RX3 ax CE cX3_readBoth n' (7, (va_up ρ 2 (g_i ((ρ 2) + 1))), [], L, (F_X7_write (g (ρ 0).toNat 3) 24 0 g)) r h) := by
  obtain ⟨n1, r1, k1, l1, x1, h1⟩ := bk_X3_readBoth_39 h0
  obtain ⟨e1, d1⟩ := f_X7_write (hCE _ _ _ _ _ _ x1)
  subst e1
  subst d1
  obtain ⟨n2, l2, h2⟩ := bk_X3_readBoth_49 h1
  exact ⟨_, by omega, h2⟩

theorem jI_X3_readAsk : ∀ (pc : Nat) (q : Instr × Nat), lkp iX3_readAsk pc = some q → decode cX3_readAsk pc = .ok q := fun pc q hq => jX3_readAsk (pc, q) (lkp_in iX3_readAsk hq)
theorem bk_X3_readAsk_0 {ax : zAx} {CE : g_E} {n : Nat} {ρ : Nat → Int} {L : List Nat} {g : Nat → Nat → Int} {r : Option g_V} {h : g_H} (hr : g_run RX3 ax CE cX3_readAsk n (0, ρ, [], L, g) r h) : ∃ n', n' < n ∧ ((g (ρ 0).toNat 6 = 25 ∧ g_run RX3 ax CE cX3_readAsk n' (9, ρ, [], L, g) r h) ∨ (¬ (g (ρ 0).toNat 6 = 25) ∧ g_run RX3 ax CE cX3_readAsk n' (35, ρ, [], L, g) r h)) := by
  obtain ⟨n1, e, h1⟩ := g_blk_ok noX3 jI_X3_readAsk tab_X3 4 n hr (c2 := (if g (ρ 0).toNat 6 = 25 then 9 else 35, ρ, [], L, g)) rfl
  refine ⟨n1, by omega, ?_⟩
  by_cases hc : g (ρ 0).toNat 6 = 25
  · exact Or.inl ⟨hc, by rw [if_pos hc] at h1; exact h1⟩
  · exact Or.inr ⟨hc, by rw [if_neg hc] at h1; exact h1⟩
theorem bk_X3_readAsk_9 {ax : zAx} {CE : g_E} {n : Nat} {ρ : Nat → Int} {L : List Nat} {g : Nat → Nat → Int} {r : Option g_V} {h : g_H} (hr : g_run RX3 ax CE cX3_readAsk n (9, ρ, [], L, g) r h) : ∃ n' r1 h1', n' < n ∧ CE yX3_opens cX3_opens [(0, ρ 0), (1, ρ 1)] (L, g) r1 h1' ∧ g_run RX3 ax CE cX3_readAsk n' (14, ρ, g_push r1 [], h1') r h := by
  obtain ⟨n1, e, h1⟩ := g_blk_ok noX3 jI_X3_readAsk tab_X3 2 n hr (c2 := (11, ρ, [(1, ρ 1), (1, ρ 0)], L, g)) rfl
  obtain ⟨n2, c', e2, h2, h3⟩ := g_step_un noX3 (i := .invokevirtual 131) (len := 3) (jI_X3_readAsk 11 _ rfl) (gnrV _) h1
  obtain ⟨r1, h1', hx, hc⟩ := g_virt_un lk_X3 nat_all lX3_ok (idx := 131) (mi := 229) (ci := 3) (na := 2) rfl (by decide) mq_X3_opens [(1, ρ 1)] [] (ρ 0) rfl rfl h2
  subst hc
  exact ⟨n2, r1, h1', by omega, hx, h3⟩
theorem bk_X3_readAsk_14 {ax : zAx} {CE : g_E} {n : Nat} {ρ : Nat → Int} {s0 : Int} {L : List Nat} {g : Nat → Nat → Int} {r : Option g_V} {h : g_H} (hr : g_run RX3 ax CE cX3_readAsk n (14, ρ, [(1, s0)], L, g) r h) : ∃ n', n' < n ∧ ((s0 = 0 ∧ g_run RX3 ax CE cX3_readAsk n' (34, ρ, [], L, g) r h) ∨ (¬ (s0 = 0) ∧ g_run RX3 ax CE cX3_readAsk n' (17, ρ, [], L, g) r h)) := by
  obtain ⟨n1, e, h1⟩ := g_blk_ok noX3 jI_X3_readAsk tab_X3 1 n hr (c2 := (if s0 = 0 then 34 else 17, ρ, [], L, g)) rfl
  refine ⟨n1, by omega, ?_⟩
  by_cases hc : s0 = 0
  · exact Or.inl ⟨hc, by rw [if_pos hc] at h1; exact h1⟩
  · exact Or.inr ⟨hc, by rw [if_neg hc] at h1; exact h1⟩
theorem bk_X3_readAsk_17 {ax : zAx} {CE : g_E} {n : Nat} {ρ : Nat → Int} {L : List Nat} {g : Nat → Nat → Int} {r : Option g_V} {h : g_H} (hr : g_run RX3 ax CE cX3_readAsk n (17, ρ, [], L, g) r h) : ∃ n' r1 h1', n' < n ∧ CE yX3_readAsk cX3_readAsk [(0, ρ 0), (1, g_i ((ρ 1) + 1))] (L, g) r1 h1' ∧ g_run RX3 ax CE cX3_readAsk n' (24, ρ, g_push r1 [], h1') r h := by
  obtain ⟨n1, e, h1⟩ := g_blk_ok noX3 jI_X3_readAsk tab_X3 4 n hr (c2 := (21, ρ, [(1, g_i ((ρ 1) + 1)), (1, ρ 0)], L, g)) rfl
  obtain ⟨n2, c', e2, h2, h3⟩ := g_step_un noX3 (i := .invokevirtual 128) (len := 3) (jI_X3_readAsk 21 _ rfl) (gnrV _) h1
  obtain ⟨r1, h1', hx, hc⟩ := g_virt_un lk_X3 nat_all lX3_ok (idx := 128) (mi := 230) (ci := 3) (na := 2) rfl (by decide) mq_X3_readAsk [(1, g_i ((ρ 1) + 1))] [] (ρ 0) rfl rfl h2
  subst hc
  exact ⟨n2, r1, h1', by omega, hx, h3⟩
theorem bk_X3_readAsk_24 {ax : zAx} {CE : g_E} {n : Nat} {ρ : Nat → Int} {L : List Nat} {g : Nat → Nat → Int} {r : Option g_V} {h : g_H} (hr : g_run RX3 ax CE cX3_readAsk n (24, ρ, [], L, g) r h) : ∃ n' r1 h1', n' < n ∧ CE yX7_write cX7_write [(0, g (ρ 0).toNat 3), (1, 25), (2, 0)] (L, g) r1 h1' ∧ g_run RX3 ax CE cX3_readAsk n' (34, ρ, g_push r1 [], h1') r h := by
  obtain ⟨n1, e, h1⟩ := g_blk_ok noX3 jI_X3_readAsk tab_X3 4 n hr (c2 := (31, ρ, [(1, 0), (1, 25), (1, g (ρ 0).toNat 3)], L, g)) rfl
  obtain ⟨n2, c', e2, h2, h3⟩ := g_step_un noX3 (i := .invokevirtual 125) (len := 3) (jI_X3_readAsk 31 _ rfl) (gnrV _) h1
  obtain ⟨r1, h1', hx, hc⟩ := g_virt_un lk_X3 nat_all lX3_ok (idx := 125) (mi := 264) (ci := 7) (na := 3) rfl (by decide) mq_X7_write [(1, 25), (1, 0)] [] (g (ρ 0).toNat 3) rfl rfl h2
  subst hc
  exact ⟨n2, r1, h1', by omega, hx, h3⟩
theorem bk_X3_readAsk_34 {ax : zAx} {CE : g_E} {n : Nat} {ρ : Nat → Int} {L : List Nat} {g : Nat → Nat → Int} {r : Option g_V} {h : g_H} (hr : g_run RX3 ax CE cX3_readAsk n (34, ρ, [], L, g) r h) : r = none ∧ h = (L, g) := by
  obtain ⟨n1, e, h1⟩ := g_blk_ok noX3 jI_X3_readAsk tab_X3 0 n hr (c2 := (34, ρ, [], L, g)) rfl
  exact g_retv_un noX3 (jI_X3_readAsk 34 _ rfl) h1
theorem bk_X3_readAsk_35 {ax : zAx} {CE : g_E} {n : Nat} {ρ : Nat → Int} {L : List Nat} {g : Nat → Nat → Int} {r : Option g_V} {h : g_H} (hr : g_run RX3 ax CE cX3_readAsk n (35, ρ, [], L, g) r h) : ∃ n' r1 h1', n' < n ∧ CE yX3_readSum cX3_readSum [(0, ρ 0), (1, ρ 1), (2, 1)] (L, g) r1 h1' ∧ g_run RX3 ax CE cX3_readAsk n' (41, ρ, g_push r1 [], h1') r h := by
  obtain ⟨n1, e, h1⟩ := g_blk_ok noX3 jI_X3_readAsk tab_X3 3 n hr (c2 := (38, ρ, [(1, 1), (1, ρ 1), (1, ρ 0)], L, g)) rfl
  obtain ⟨n2, c', e2, h2, h3⟩ := g_step_un noX3 (i := .invokevirtual 96) (len := 3) (jI_X3_readAsk 38 _ rfl) (gnrV _) h1
  obtain ⟨r1, h1', hx, hc⟩ := g_virt_un lk_X3 nat_all lX3_ok (idx := 96) (mi := 240) (ci := 3) (na := 3) rfl (by decide) mq_X3_readSum [(1, ρ 1), (1, 1)] [] (ρ 0) rfl rfl h2
  subst hc
  exact ⟨n2, r1, h1', by omega, hx, h3⟩
theorem bk_X3_readAsk_41 {ax : zAx} {CE : g_E} {n : Nat} {ρ : Nat → Int} {L : List Nat} {g : Nat → Nat → Int} {r : Option g_V} {h : g_H} (hr : g_run RX3 ax CE cX3_readAsk n (41, ρ, [], L, g) r h) : ∃ n', n' < n ∧ ((g (ρ 0).toNat 6 = 44 ∧ g_run RX3 ax CE cX3_readAsk n' (82, (va_up ρ 2 (g (ρ 0).toNat 6)), [], L, g) r h) ∨ (¬ (g (ρ 0).toNat 6 = 44) ∧ g_run RX3 ax CE cX3_readAsk n' (52, (va_up ρ 2 (g (ρ 0).toNat 6)), [], L, g) r h)) := by
  obtain ⟨n1, e, h1⟩ := g_blk_ok noX3 jI_X3_readAsk tab_X3 6 n hr (c2 := (if g (ρ 0).toNat 6 = 44 then 82 else 52, (va_up ρ 2 (g (ρ 0).toNat 6)), [], L, g)) rfl
  refine ⟨n1, by omega, ?_⟩
  by_cases hc : g (ρ 0).toNat 6 = 44
  · exact Or.inl ⟨hc, by rw [if_pos hc] at h1; exact h1⟩
  · exact Or.inr ⟨hc, by rw [if_neg hc] at h1; exact h1⟩
theorem bk_X3_readAsk_52 {ax : zAx} {CE : g_E} {n : Nat} {ρ : Nat → Int} {L : List Nat} {g : Nat → Nat → Int} {r : Option g_V} {h : g_H} (hr : g_run RX3 ax CE cX3_readAsk n (52, ρ, [], L, g) r h) : ∃ n', n' < n ∧ ((ρ 2 = 51 ∧ g_run RX3 ax CE cX3_readAsk n' (82, ρ, [], L, g) r h) ∨ (¬ (ρ 2 = 51) ∧ g_run RX3 ax CE cX3_readAsk n' (58, ρ, [], L, g) r h)) := by
  obtain ⟨n1, e, h1⟩ := g_blk_ok noX3 jI_X3_readAsk tab_X3 3 n hr (c2 := (if ρ 2 = 51 then 82 else 58, ρ, [], L, g)) rfl
  refine ⟨n1, by omega, ?_⟩
  by_cases hc : ρ 2 = 51
  · exact Or.inl ⟨hc, by rw [if_pos hc] at h1; exact h1⟩
  · exact Or.inr ⟨hc, by rw [if_neg hc] at h1; exact h1⟩
theorem bk_X3_readAsk_58 {ax : zAx} {CE : g_E} {n : Nat} {ρ : Nat → Int} {L : List Nat} {g : Nat → Nat → Int} {r : Option g_V} {h : g_H} (hr : g_run RX3 ax CE cX3_readAsk n (58, ρ, [], L, g) r h) : ∃ n', n' < n ∧ ((ρ 2 = 45 ∧ g_run RX3 ax CE cX3_readAsk n' (82, ρ, [], L, g) r h) ∨ (¬ (ρ 2 = 45) ∧ g_run RX3 ax CE cX3_readAsk n' (64, ρ, [], L, g) r h)) := by
  obtain ⟨n1, e, h1⟩ := g_blk_ok noX3 jI_X3_readAsk tab_X3 3 n hr (c2 := (if ρ 2 = 45 then 82 else 64, ρ, [], L, g)) rfl
  refine ⟨n1, by omega, ?_⟩
  by_cases hc : ρ 2 = 45
  · exact Or.inl ⟨hc, by rw [if_pos hc] at h1; exact h1⟩
  · exact Or.inr ⟨hc, by rw [if_neg hc] at h1; exact h1⟩
theorem bk_X3_readAsk_64 {ax : zAx} {CE : g_E} {n : Nat} {ρ : Nat → Int} {L : List Nat} {g : Nat → Nat → Int} {r : Option g_V} {h : g_H} (hr : g_run RX3 ax CE cX3_readAsk n (64, ρ, [], L, g) r h) : ∃ n', n' < n ∧ ((ρ 2 = 52 ∧ g_run RX3 ax CE cX3_readAsk n' (82, ρ, [], L, g) r h) ∨ (¬ (ρ 2 = 52) ∧ g_run RX3 ax CE cX3_readAsk n' (70, ρ, [], L, g) r h)) := by
  obtain ⟨n1, e, h1⟩ := g_blk_ok noX3 jI_X3_readAsk tab_X3 3 n hr (c2 := (if ρ 2 = 52 then 82 else 70, ρ, [], L, g)) rfl
  refine ⟨n1, by omega, ?_⟩
  by_cases hc : ρ 2 = 52
  · exact Or.inl ⟨hc, by rw [if_pos hc] at h1; exact h1⟩
  · exact Or.inr ⟨hc, by rw [if_neg hc] at h1; exact h1⟩
theorem bk_X3_readAsk_70 {ax : zAx} {CE : g_E} {n : Nat} {ρ : Nat → Int} {L : List Nat} {g : Nat → Nat → Int} {r : Option g_V} {h : g_H} (hr : g_run RX3 ax CE cX3_readAsk n (70, ρ, [], L, g) r h) : ∃ n', n' < n ∧ ((ρ 2 = 46 ∧ g_run RX3 ax CE cX3_readAsk n' (82, ρ, [], L, g) r h) ∨ (¬ (ρ 2 = 46) ∧ g_run RX3 ax CE cX3_readAsk n' (76, ρ, [], L, g) r h)) := by
  obtain ⟨n1, e, h1⟩ := g_blk_ok noX3 jI_X3_readAsk tab_X3 3 n hr (c2 := (if ρ 2 = 46 then 82 else 76, ρ, [], L, g)) rfl
  refine ⟨n1, by omega, ?_⟩
  by_cases hc : ρ 2 = 46
  · exact Or.inl ⟨hc, by rw [if_pos hc] at h1; exact h1⟩
  · exact Or.inr ⟨hc, by rw [if_neg hc] at h1; exact h1⟩
theorem bk_X3_readAsk_76 {ax : zAx} {CE : g_E} {n : Nat} {ρ : Nat → Int} {L : List Nat} {g : Nat → Nat → Int} {r : Option g_V} {h : g_H} (hr : g_run RX3 ax CE cX3_readAsk n (76, ρ, [], L, g) r h) : ∃ n', n' < n ∧ ((ρ 2 = 47 ∧ g_run RX3 ax CE cX3_readAsk n' (82, ρ, [], L, g) r h) ∨ (¬ (ρ 2 = 47) ∧ g_run RX3 ax CE cX3_readAsk n' (105, ρ, [], L, g) r h)) := by
  obtain ⟨n1, e, h1⟩ := g_blk_ok noX3 jI_X3_readAsk tab_X3 3 n hr (c2 := (if ρ 2 = 47 then 82 else 105, ρ, [], L, g)) rfl
  refine ⟨n1, by omega, ?_⟩
  by_cases hc : ρ 2 = 47
  · exact Or.inl ⟨hc, by rw [if_pos hc] at h1; exact h1⟩
  · exact Or.inr ⟨hc, by rw [if_neg hc] at h1; exact h1⟩
theorem bk_X3_readAsk_82 {ax : zAx} {CE : g_E} {n : Nat} {ρ : Nat → Int} {L : List Nat} {g : Nat → Nat → Int} {r : Option g_V} {h : g_H} (hr : g_run RX3 ax CE cX3_readAsk n (82, ρ, [], L, g) r h) : ∃ n' r1 h1', n' < n ∧ CE yX3_expect cX3_expect [(0, ρ 0), (1, ρ 2)] (L, g) r1 h1' ∧ g_run RX3 ax CE cX3_readAsk n' (87, ρ, g_push r1 [], h1') r h := by
  obtain ⟨n1, e, h1⟩ := g_blk_ok noX3 jI_X3_readAsk tab_X3 2 n hr (c2 := (84, ρ, [(1, ρ 2), (1, ρ 0)], L, g)) rfl
  obtain ⟨n2, c', e2, h2, h3⟩ := g_step_un noX3 (i := .invokevirtual 78) (len := 3) (jI_X3_readAsk 84 _ rfl) (gnrV _) h1
  obtain ⟨r1, h1', hx, hc⟩ := g_virt_un lk_X3 nat_all lX3_ok (idx := 78) (mi := 224) (ci := 3) (na := 2) rfl (by decide) mq_X3_expect [(1, ρ 2)] [] (ρ 0) rfl rfl h2
  subst hc
  exact ⟨n2, r1, h1', by omega, hx, h3⟩
theorem bk_X3_readAsk_87 {ax : zAx} {CE : g_E} {n : Nat} {ρ : Nat → Int} {L : List Nat} {g : Nat → Nat → Int} {r : Option g_V} {h : g_H} (hr : g_run RX3 ax CE cX3_readAsk n (87, ρ, [], L, g) r h) : ∃ n' r1 h1', n' < n ∧ CE yX3_readSum cX3_readSum [(0, ρ 0), (1, ρ 1), (2, 1)] (L, g) r1 h1' ∧ g_run RX3 ax CE cX3_readAsk n' (93, ρ, g_push r1 [], h1') r h := by
  obtain ⟨n1, e, h1⟩ := g_blk_ok noX3 jI_X3_readAsk tab_X3 3 n hr (c2 := (90, ρ, [(1, 1), (1, ρ 1), (1, ρ 0)], L, g)) rfl
  obtain ⟨n2, c', e2, h2, h3⟩ := g_step_un noX3 (i := .invokevirtual 96) (len := 3) (jI_X3_readAsk 90 _ rfl) (gnrV _) h1
  obtain ⟨r1, h1', hx, hc⟩ := g_virt_un lk_X3 nat_all lX3_ok (idx := 96) (mi := 240) (ci := 3) (na := 3) rfl (by decide) mq_X3_readSum [(1, ρ 1), (1, 1)] [] (ρ 0) rfl rfl h2
  subst hc
  exact ⟨n2, r1, h1', by omega, hx, h3⟩
theorem bk_X3_readAsk_93 {ax : zAx} {CE : g_E} {n : Nat} {ρ : Nat → Int} {L : List Nat} {g : Nat → Nat → Int} {r : Option g_V} {h : g_H} (hr : g_run RX3 ax CE cX3_readAsk n (93, ρ, [], L, g) r h) : ∃ n' r1 h1', n' < n ∧ CE yX7_write cX7_write [(0, g (ρ 0).toNat 3), (1, ρ 2), (2, 0)] (L, g) r1 h1' ∧ g_run RX3 ax CE cX3_readAsk n' (102, ρ, g_push r1 [], h1') r h := by
  obtain ⟨n1, e, h1⟩ := g_blk_ok noX3 jI_X3_readAsk tab_X3 4 n hr (c2 := (99, ρ, [(1, 0), (1, ρ 2), (1, g (ρ 0).toNat 3)], L, g)) rfl
  obtain ⟨n2, c', e2, h2, h3⟩ := g_step_un noX3 (i := .invokevirtual 125) (len := 3) (jI_X3_readAsk 99 _ rfl) (gnrV _) h1
  obtain ⟨r1, h1', hx, hc⟩ := g_virt_un lk_X3 nat_all lX3_ok (idx := 125) (mi := 264) (ci := 7) (na := 3) rfl (by decide) mq_X7_write [(1, ρ 2), (1, 0)] [] (g (ρ 0).toNat 3) rfl rfl h2
  subst hc
  exact ⟨n2, r1, h1', by omega, hx, h3⟩
theorem bk_X3_readAsk_102 {ax : zAx} {CE : g_E} {n : Nat} {ρ : Nat → Int} {L : List Nat} {g : Nat → Nat → Int} {r : Option g_V} {h : g_H} (hr : g_run RX3 ax CE cX3_readAsk n (102, ρ, [], L, g) r h) : ∃ n', n' < n ∧ g_run RX3 ax CE cX3_readAsk n' (110, ρ, [], L, g) r h := by
  obtain ⟨n1, e, h1⟩ := g_blk_ok noX3 jI_X3_readAsk tab_X3 1 n hr (c2 := (110, ρ, [], L, g)) rfl
  exact ⟨n1, by omega, h1⟩
theorem bk_X3_readAsk_105 {ax : zAx} {CE : g_E} {n : Nat} {ρ : Nat → Int} {L : List Nat} {g : Nat → Nat → Int} {r : Option g_V} {h : g_H} (hr : g_run RX3 ax CE cX3_readAsk n (105, ρ, [], L, g) r h) : ∃ n' r1 h1', n' < n ∧ CE yX3_fail cX3_fail [(0, ρ 0), (1, 1)] (L, g) r1 h1' ∧ g_run RX3 ax CE cX3_readAsk n' (110, ρ, g_push r1 [], h1') r h := by
  obtain ⟨n1, e, h1⟩ := g_blk_ok noX3 jI_X3_readAsk tab_X3 2 n hr (c2 := (107, ρ, [(1, 1), (1, ρ 0)], L, g)) rfl
  obtain ⟨n2, c', e2, h2, h3⟩ := g_step_un noX3 (i := .invokevirtual 55) (len := 3) (jI_X3_readAsk 107 _ rfl) (gnrV _) h1
  obtain ⟨r1, h1', hx, hc⟩ := g_virt_un lk_X3 nat_all lX3_ok (idx := 55) (mi := 226) (ci := 3) (na := 2) rfl (by decide) mq_X3_fail [(1, 1)] [] (ρ 0) rfl rfl h2
  subst hc
  exact ⟨n2, r1, h1', by omega, hx, h3⟩
theorem bk_X3_readAsk_110 {ax : zAx} {CE : g_E} {n : Nat} {ρ : Nat → Int} {L : List Nat} {g : Nat → Nat → Int} {r : Option g_V} {h : g_H} (hr : g_run RX3 ax CE cX3_readAsk n (110, ρ, [], L, g) r h) : r = none ∧ h = (L, g) := by
  obtain ⟨n1, e, h1⟩ := g_blk_ok noX3 jI_X3_readAsk tab_X3 0 n hr (c2 := (110, ρ, [], L, g)) rfl
  exact g_retv_un noX3 (jI_X3_readAsk 110 _ rfl) h1
theorem pt_X3_readAsk_0 {ax : zAx} {CE : g_E} (hCE : ∀ y cc as h r h', CE y cc as h r h' → g_ex ax y cc as h r h') {n : Nat} {ρ : Nat → Int} {L : List Nat} {g : Nat → Nat → Int} {r : Option g_V} {h : g_H} (h0 : g_run RX3 ax CE cX3_readAsk n (0, ρ, [], L, g) r h) : ((g (ρ 0).toNat 6 = 25 ∧ (((F_X3_opens (ρ 0) (ρ 1) g).1 = 0 ∧ (r = none ∧ h = (L, (F_X3_opens (ρ 0) (ρ 1) g).2))) ∨ (¬ ((F_X3_opens (ρ 0) (ρ 1) g).1 = 0) ∧ (∃ n' r1 h1', n' < n ∧ CE yX3_readAsk cX3_readAsk [(0, (ρ 0)), (1, g_i ((ρ 1) + 1))] (L, (F_X3_opens (ρ 0) (ρ 1) g).2) r1 h1' ∧ g_run RX3 ax CE cX3_readAsk n' (24, ρ, g_push r1 [], h1') r h)))) ∨ (¬ (g (ρ 0).toNat 6 = 25) ∧ (∃ n' r1 h1', n' < n ∧ CE yX3_readSum cX3_readSum [(0, (ρ 0)), (1, (ρ 1)), (2, 1)] (L, g) r1 h1' ∧ g_run RX3 ax CE cX3_readAsk n' (41, ρ, g_push r1 [], h1') r h))) := by
  obtain ⟨n1, l1, h1⟩ := bk_X3_readAsk_0 h0
  rcases h1 with ⟨c1, h1⟩ | ⟨c1, h1⟩
  · refine Or.inl ⟨c1, ?_⟩
    obtain ⟨n2, r2, k2, l2, x2, h2⟩ := bk_X3_readAsk_9 h1
    obtain ⟨e2, d2⟩ := f_X3_opens (hCE _ _ _ _ _ _ x2)
    subst e2
    subst d2
    obtain ⟨n3, l3, h3⟩ := bk_X3_readAsk_14 h2
    rcases h3 with ⟨c3, h3⟩ | ⟨c3, h3⟩
    · refine Or.inl ⟨c3, ?_⟩
      obtain ⟨e4, d4⟩ := bk_X3_readAsk_34 h3
      exact ⟨e4, d4⟩
    · refine Or.inr ⟨c3, ?_⟩
      obtain ⟨n5, r5, k5, l5, x5, h5⟩ := bk_X3_readAsk_17 h3
      exact ⟨n5, r5, k5, by omega, x5, h5⟩
  · refine Or.inr ⟨c1, ?_⟩
    obtain ⟨n6, r6, k6, l6, x6, h6⟩ := bk_X3_readAsk_35 h1
    exact ⟨n6, r6, k6, by omega, x6, h6⟩
theorem pt_X3_readAsk_24 {ax : zAx} {CE : g_E} (hCE : ∀ y cc as h r h', CE y cc as h r h' → g_ex ax y cc as h r h') {n : Nat} {ρ : Nat → Int} {L : List Nat} {g : Nat → Nat → Int} {r : Option g_V} {h : g_H} (h0 : g_run RX3 ax CE cX3_readAsk n (24, ρ, [], L, g) r h) : (r = none ∧ h = (L, (F_X7_write (g (ρ 0).toNat 3) 25 0 g))) := by
  obtain ⟨n1, r1, k1, l1, x1, h1⟩ := bk_X3_readAsk_24 h0
  obtain ⟨e1, d1⟩ := f_X7_write (hCE _ _ _ _ _ _ x1)
  subst e1
  subst d1
  obtain ⟨e2, d2⟩ := bk_X3_readAsk_34 h1
  exact ⟨e2, d2⟩
theorem pt_X3_readAsk_41 {ax : zAx} {CE : g_E} (hCE : ∀ y cc as h r h', CE y cc as h r h' → g_ex ax y cc as h r h') {n : Nat} {ρ : Nat → Int} {L : List Nat} {g : Nat → Nat → Int} {r : Option g_V} {h : g_H} (h0 : g_run RX3 ax CE cX3_readAsk n (41, ρ, [], L, g) r h) : ((g (ρ 0).toNat 6 = 44 ∧ (∃ n' r1 h1', n' < n ∧ CE yX3_readSum cX3_readSum [(0, (ρ 0)), (1, (ρ 1)), (2, 1)] (L, (F_X3_expect (ρ 0) (g (ρ 0).toNat 6) g)) r1 h1' ∧ g_run RX3 ax CE cX3_readAsk n' (93, (va_up ρ 2 (g (ρ 0).toNat 6)), g_push r1 [], h1') r h)) ∨ (¬ (g (ρ 0).toNat 6 = 44) ∧ ((g (ρ 0).toNat 6 = 51 ∧ (∃ n' r1 h1', n' < n ∧ CE yX3_readSum cX3_readSum [(0, (ρ 0)), (1, (ρ 1)), (2, 1)] (L, (F_X3_expect (ρ 0) (g (ρ 0).toNat 6) g)) r1 h1' ∧ g_run RX3 ax CE cX3_readAsk n' (93, (va_up ρ 2 (g (ρ 0).toNat 6)), g_push r1 [], h1') r h)) ∨ (¬ (g (ρ 0).toNat 6 = 51) ∧ ((g (ρ 0).toNat 6 = 45 ∧ (∃ n' r1 h1', n' < n ∧ CE yX3_readSum cX3_readSum [(0, (ρ 0)), (1, (ρ 1)), (2, 1)] (L, (F_X3_expect (ρ 0) (g (ρ 0).toNat 6) g)) r1 h1' ∧ g_run RX3 ax CE cX3_readAsk n' (93, (va_up ρ 2 (g (ρ 0).toNat 6)), g_push r1 [], h1') r h)) ∨ (¬ (g (ρ 0).toNat 6 = 45) ∧ ((g (ρ 0).toNat 6 = 52 ∧ (∃ n' r1 h1', n' < n ∧ CE yX3_readSum cX3_readSum [(0, (ρ 0)), (1, (ρ 1)), (2, 1)] (L, (F_X3_expect (ρ 0) (g (ρ 0).toNat 6) g)) r1 h1' ∧ g_run RX3 ax CE cX3_readAsk n' (93, (va_up ρ 2 (g (ρ 0).toNat 6)), g_push r1 [], h1') r h)) ∨ (¬ (g (ρ 0).toNat 6 = 52) ∧ ((g (ρ 0).toNat 6 = 46 ∧ (∃ n' r1 h1', n' < n ∧ CE yX3_readSum cX3_readSum [(0, (ρ 0)), (1, (ρ 1)), (2, 1)] (L, (F_X3_expect (ρ 0) (g (ρ 0).toNat 6) g)) r1 h1' ∧ g_run RX3 ax CE cX3_readAsk n' (93, (va_up ρ 2 (g (ρ 0).toNat 6)), g_push r1 [], h1') r h)) ∨ (¬ (g (ρ 0).toNat 6 = 46) ∧ ((g (ρ 0).toNat 6 = 47 ∧ (∃ n' r1 h1', n' < n ∧ CE yX3_readSum cX3_readSum [(0, (ρ 0)), (1, (ρ 1)), (2, 1)] (L, (F_X3_expect (ρ 0) (g (ρ 0).toNat 6) g)) r1 h1' ∧ g_run RX3 ax CE cX3_readAsk n' (93, (va_up ρ 2 (g (ρ 0).toNat 6)), g_push r1 [], h1') r h)) ∨ (¬ (g (ρ 0).toNat 6 = 47) ∧ (r = none ∧ h = (L, (F_X3_fail (ρ 0) 1 g))))))))))))))) := by
  obtain ⟨n1, l1, h1⟩ := bk_X3_readAsk_41 h0
  rcases h1 with ⟨c1, h1⟩ | ⟨c1, h1⟩
  · refine Or.inl ⟨c1, ?_⟩
    obtain ⟨n2, r2, k2, l2, x2, h2⟩ := bk_X3_readAsk_82 h1
    obtain ⟨e2, d2⟩ := f_X3_expect (hCE _ _ _ _ _ _ x2)
    subst e2
    subst d2
    obtain ⟨n3, r3, k3, l3, x3, h3⟩ := bk_X3_readAsk_87 h2
    exact ⟨n3, r3, k3, by omega, x3, h3⟩
  · refine Or.inr ⟨c1, ?_⟩
    obtain ⟨n4, l4, h4⟩ := bk_X3_readAsk_52 h1
    rcases h4 with ⟨c4, h4⟩ | ⟨c4, h4⟩
    · refine Or.inl ⟨c4, ?_⟩
      obtain ⟨n5, r5, k5, l5, x5, h5⟩ := bk_X3_readAsk_82 h4
      obtain ⟨e5, d5⟩ := f_X3_expect (hCE _ _ _ _ _ _ x5)
      subst e5
      subst d5
      obtain ⟨n6, r6, k6, l6, x6, h6⟩ := bk_X3_readAsk_87 h5
      exact ⟨n6, r6, k6, by omega, x6, h6⟩
    · refine Or.inr ⟨c4, ?_⟩
      obtain ⟨n7, l7, h7⟩ := bk_X3_readAsk_58 h4
      rcases h7 with ⟨c7, h7⟩ | ⟨c7, h7⟩
      · refine Or.inl ⟨c7, ?_⟩
        obtain ⟨n8, r8, k8, l8, x8, h8⟩ := bk_X3_readAsk_82 h7
        obtain ⟨e8, d8⟩ := f_X3_expect (hCE _ _ _ _ _ _ x8)
        subst e8
        subst d8
        obtain ⟨n9, r9, k9, l9, x9, h9⟩ := bk_X3_readAsk_87 h8
        exact ⟨n9, r9, k9, by omega, x9, h9⟩
      · refine Or.inr ⟨c7, ?_⟩
        obtain ⟨n10, l10, h10⟩ := bk_X3_readAsk_64 h7
        rcases h10 with ⟨c10, h10⟩ | ⟨c10, h10⟩
        · refine Or.inl ⟨c10, ?_⟩
          obtain ⟨n11, r11, k11, l11, x11, h11⟩ := bk_X3_readAsk_82 h10
          obtain ⟨e11, d11⟩ := f_X3_expect (hCE _ _ _ _ _ _ x11)
          subst e11
          subst d11
          obtain ⟨n12, r12, k12, l12, x12, h12⟩ := bk_X3_readAsk_87 h11
          exact ⟨n12, r12, k12, by omega, x12, h12⟩
        · refine Or.inr ⟨c10, ?_⟩
          obtain ⟨n13, l13, h13⟩ := bk_X3_readAsk_70 h10
          rcases h13 with ⟨c13, h13⟩ | ⟨c13, h13⟩
          · refine Or.inl ⟨c13, ?_⟩
            obtain ⟨n14, r14, k14, l14, x14, h14⟩ := bk_X3_readAsk_82 h13
            obtain ⟨e14, d14⟩ := f_X3_expect (hCE _ _ _ _ _ _ x14)
            subst e14
            subst d14
            obtain ⟨n15, r15, k15, l15, x15, h15⟩ := bk_X3_readAsk_87 h14
            exact ⟨n15, r15, k15, by omega, x15, h15⟩
          · refine Or.inr ⟨c13, ?_⟩
            obtain ⟨n16, l16, h16⟩ := bk_X3_readAsk_76 h13
            rcases h16 with ⟨c16, h16⟩ | ⟨c16, h16⟩
            · refine Or.inl ⟨c16, ?_⟩
              obtain ⟨n17, r17, k17, l17, x17, h17⟩ := bk_X3_readAsk_82 h16
              obtain ⟨e17, d17⟩ := f_X3_expect (hCE _ _ _ _ _ _ x17)
              subst e17
              subst d17
              obtain ⟨n18, r18, k18, l18, x18, h18⟩ := bk_X3_readAsk_87 h17
              exact ⟨n18, r18, k18, by omega, x18, h18⟩
            · refine Or.inr ⟨c16, ?_⟩
              obtain ⟨n19, r19, k19, l19, x19, h19⟩ := bk_X3_readAsk_105 h16
              obtain ⟨e19, d19⟩ := f_X3_fail (hCE _ _ _ _ _ _ x19)
              subst e19
              subst d19
              obtain ⟨e20, d20⟩ := bk_X3_readAsk_110 h19
              exact ⟨e20, d20⟩
theorem pt_X3_readAsk_93 {ax : zAx} {CE : g_E} (hCE : ∀ y cc as h r h', CE y cc as h r h' → g_ex ax y cc as h r h') {n : Nat} {ρ : Nat → Int} {L : List Nat} {g : Nat → Nat → Int} {r : Option g_V} {h : g_H} (h0 : g_run RX3 ax CE cX3_readAsk n (93, ρ, [], L, g) r h) : (r = none ∧ h = (L, (F_X7_write (g (ρ 0).toNat 3) (ρ 2) 0 g))) := by
  obtain ⟨n1, r1, k1, l1, x1, h1⟩ := bk_X3_readAsk_93 h0
  obtain ⟨e1, d1⟩ := f_X7_write (hCE _ _ _ _ _ _ x1)
  subst e1
  subst d1
  obtain ⟨n2, l2, h2⟩ := bk_X3_readAsk_102 h1
  obtain ⟨e3, d3⟩ := bk_X3_readAsk_110 h2
  exact ⟨e3, d3⟩

theorem jI_X3_readSum : ∀ (pc : Nat) (q : Instr × Nat), lkp iX3_readSum pc = some q → decode cX3_readSum pc = .ok q := fun pc q hq => jX3_readSum (pc, q) (lkp_in iX3_readSum hq)
theorem bk_X3_readSum_0 {ax : zAx} {CE : g_E} {n : Nat} {ρ : Nat → Int} {L : List Nat} {g : Nat → Nat → Int} {r : Option g_V} {h : g_H} (hr : g_run RX3 ax CE cX3_readSum n (0, ρ, [], L, g) r h) : ∃ n' r1 h1', n' < n ∧ CE yX3_readProduct cX3_readProduct [(0, ρ 0), (1, ρ 1), (2, ρ 2)] (L, g) r1 h1' ∧ g_run RX3 ax CE cX3_readSum n' (6, ρ, g_push r1 [], h1') r h := by
  obtain ⟨n1, e, h1⟩ := g_blk_ok noX3 jI_X3_readSum tab_X3 3 n hr (c2 := (3, ρ, [(1, ρ 2), (1, ρ 1), (1, ρ 0)], L, g)) rfl
  obtain ⟨n2, c', e2, h2, h3⟩ := g_step_un noX3 (i := .invokevirtual 134) (len := 3) (jI_X3_readSum 3 _ rfl) (gnrV _) h1
  obtain ⟨r1, h1', hx, hc⟩ := g_virt_un lk_X3 nat_all lX3_ok (idx := 134) (mi := 239) (ci := 3) (na := 3) rfl (by decide) mq_X3_readProduct [(1, ρ 1), (1, ρ 2)] [] (ρ 0) rfl rfl h2
  subst hc
  exact ⟨n2, r1, h1', by omega, hx, h3⟩
theorem bk_X3_readSum_6 {ax : zAx} {CE : g_E} {n : Nat} {ρ : Nat → Int} {L : List Nat} {g : Nat → Nat → Int} {r : Option g_V} {h : g_H} (hr : g_run RX3 ax CE cX3_readSum n (6, ρ, [], L, g) r h) : ∃ n', n' < n ∧ g_run RX3 ax CE cX3_readSum n' (8, (va_up ρ 3 0), [], L, g) r h := by
  obtain ⟨n1, e, h1⟩ := g_blk_ok noX3 jI_X3_readSum tab_X3 2 n hr (c2 := (8, (va_up ρ 3 0), [], L, g)) rfl
  exact ⟨n1, by omega, h1⟩
theorem bk_X3_readSum_8 {ax : zAx} {CE : g_E} {n : Nat} {ρ : Nat → Int} {L : List Nat} {g : Nat → Nat → Int} {r : Option g_V} {h : g_H} (hr : g_run RX3 ax CE cX3_readSum n (8, ρ, [], L, g) r h) : ∃ n', n' < n ∧ ((300 ≤ ρ 3 ∧ g_run RX3 ax CE cX3_readSum n' (72, ρ, [], L, g) r h) ∨ (¬ (300 ≤ ρ 3) ∧ g_run RX3 ax CE cX3_readSum n' (15, ρ, [], L, g) r h)) := by
  obtain ⟨n1, e, h1⟩ := g_blk_ok noX3 jI_X3_readSum tab_X3 3 n hr (c2 := (if 300 ≤ ρ 3 then 72 else 15, ρ, [], L, g)) rfl
  refine ⟨n1, by omega, ?_⟩
  by_cases hc : 300 ≤ ρ 3
  · exact Or.inl ⟨hc, by rw [if_pos hc] at h1; exact h1⟩
  · exact Or.inr ⟨hc, by rw [if_neg hc] at h1; exact h1⟩
theorem bk_X3_readSum_15 {ax : zAx} {CE : g_E} {n : Nat} {ρ : Nat → Int} {L : List Nat} {g : Nat → Nat → Int} {r : Option g_V} {h : g_H} (hr : g_run RX3 ax CE cX3_readSum n (15, ρ, [], L, g) r h) : ∃ n', n' < n ∧ ((g (ρ 0).toNat 0 = 0 ∧ g_run RX3 ax CE cX3_readSum n' (22, ρ, [], L, g) r h) ∨ (¬ (g (ρ 0).toNat 0 = 0) ∧ g_run RX3 ax CE cX3_readSum n' (72, ρ, [], L, g) r h)) := by
  obtain ⟨n1, e, h1⟩ := g_blk_ok noX3 jI_X3_readSum tab_X3 3 n hr (c2 := (if g (ρ 0).toNat 0 = 0 then 22 else 72, ρ, [], L, g)) rfl
  refine ⟨n1, by omega, ?_⟩
  by_cases hc : g (ρ 0).toNat 0 = 0
  · exact Or.inl ⟨hc, by rw [if_pos hc] at h1; exact h1⟩
  · exact Or.inr ⟨hc, by rw [if_neg hc] at h1; exact h1⟩
theorem bk_X3_readSum_22 {ax : zAx} {CE : g_E} {n : Nat} {ρ : Nat → Int} {L : List Nat} {g : Nat → Nat → Int} {r : Option g_V} {h : g_H} (hr : g_run RX3 ax CE cX3_readSum n (22, ρ, [], L, g) r h) : ∃ n', n' < n ∧ ((g (ρ 0).toNat 6 = 40 ∧ g_run RX3 ax CE cX3_readSum n' (40, ρ, [], L, g) r h) ∨ (¬ (g (ρ 0).toNat 6 = 40) ∧ g_run RX3 ax CE cX3_readSum n' (31, ρ, [], L, g) r h)) := by
  obtain ⟨n1, e, h1⟩ := g_blk_ok noX3 jI_X3_readSum tab_X3 4 n hr (c2 := (if g (ρ 0).toNat 6 = 40 then 40 else 31, ρ, [], L, g)) rfl
  refine ⟨n1, by omega, ?_⟩
  by_cases hc : g (ρ 0).toNat 6 = 40
  · exact Or.inl ⟨hc, by rw [if_pos hc] at h1; exact h1⟩
  · exact Or.inr ⟨hc, by rw [if_neg hc] at h1; exact h1⟩
theorem bk_X3_readSum_31 {ax : zAx} {CE : g_E} {n : Nat} {ρ : Nat → Int} {L : List Nat} {g : Nat → Nat → Int} {r : Option g_V} {h : g_H} (hr : g_run RX3 ax CE cX3_readSum n (31, ρ, [], L, g) r h) : ∃ n', n' < n ∧ ((g (ρ 0).toNat 6 = 41 ∧ g_run RX3 ax CE cX3_readSum n' (40, ρ, [], L, g) r h) ∨ (¬ (g (ρ 0).toNat 6 = 41) ∧ g_run RX3 ax CE cX3_readSum n' (72, ρ, [], L, g) r h)) := by
  obtain ⟨n1, e, h1⟩ := g_blk_ok noX3 jI_X3_readSum tab_X3 4 n hr (c2 := (if g (ρ 0).toNat 6 = 41 then 40 else 72, ρ, [], L, g)) rfl
  refine ⟨n1, by omega, ?_⟩
  by_cases hc : g (ρ 0).toNat 6 = 41
  · exact Or.inl ⟨hc, by rw [if_pos hc] at h1; exact h1⟩
  · exact Or.inr ⟨hc, by rw [if_neg hc] at h1; exact h1⟩
theorem bk_X3_readSum_40 {ax : zAx} {CE : g_E} {n : Nat} {ρ : Nat → Int} {L : List Nat} {g : Nat → Nat → Int} {r : Option g_V} {h : g_H} (hr : g_run RX3 ax CE cX3_readSum n (40, ρ, [], L, g) r h) : ∃ n' r1 h1', n' < n ∧ CE yX3_advance cX3_advance [(0, ρ 0)] (L, g) r1 h1' ∧ g_run RX3 ax CE cX3_readSum n' (50, (va_up ρ 4 (g (ρ 0).toNat 6)), g_push r1 [], h1') r h := by
  obtain ⟨n1, e, h1⟩ := g_blk_ok noX3 jI_X3_readSum tab_X3 4 n hr (c2 := (47, (va_up ρ 4 (g (ρ 0).toNat 6)), [(1, ρ 0)], L, g)) rfl
  obtain ⟨n2, c', e2, h2, h3⟩ := g_step_un noX3 (i := .invokevirtual 68) (len := 3) (jI_X3_readSum 47 _ rfl) (gnrV _) h1
  obtain ⟨r1, h1', hx, hc⟩ := g_virt_un lk_X3 nat_all lX3_ok (idx := 68) (mi := 223) (ci := 3) (na := 1) rfl (by decide) mq_X3_advance [] [] (ρ 0) rfl rfl h2
  subst hc
  exact ⟨n2, r1, h1', by omega, hx, h3⟩
theorem bk_X3_readSum_50 {ax : zAx} {CE : g_E} {n : Nat} {ρ : Nat → Int} {L : List Nat} {g : Nat → Nat → Int} {r : Option g_V} {h : g_H} (hr : g_run RX3 ax CE cX3_readSum n (50, ρ, [], L, g) r h) : ∃ n' r1 h1', n' < n ∧ CE yX3_readProduct cX3_readProduct [(0, ρ 0), (1, ρ 1), (2, ρ 2)] (L, g) r1 h1' ∧ g_run RX3 ax CE cX3_readSum n' (56, ρ, g_push r1 [], h1') r h := by
  obtain ⟨n1, e, h1⟩ := g_blk_ok noX3 jI_X3_readSum tab_X3 3 n hr (c2 := (53, ρ, [(1, ρ 2), (1, ρ 1), (1, ρ 0)], L, g)) rfl
  obtain ⟨n2, c', e2, h2, h3⟩ := g_step_un noX3 (i := .invokevirtual 134) (len := 3) (jI_X3_readSum 53 _ rfl) (gnrV _) h1
  obtain ⟨r1, h1', hx, hc⟩ := g_virt_un lk_X3 nat_all lX3_ok (idx := 134) (mi := 239) (ci := 3) (na := 3) rfl (by decide) mq_X3_readProduct [(1, ρ 1), (1, ρ 2)] [] (ρ 0) rfl rfl h2
  subst hc
  exact ⟨n2, r1, h1', by omega, hx, h3⟩
theorem bk_X3_readSum_56 {ax : zAx} {CE : g_E} {n : Nat} {ρ : Nat → Int} {L : List Nat} {g : Nat → Nat → Int} {r : Option g_V} {h : g_H} (hr : g_run RX3 ax CE cX3_readSum n (56, ρ, [], L, g) r h) : ∃ n' r1 h1', n' < n ∧ CE yX7_write cX7_write [(0, g (ρ 0).toNat 3), (1, ρ 4), (2, 0)] (L, g) r1 h1' ∧ g_run RX3 ax CE cX3_readSum n' (66, ρ, g_push r1 [], h1') r h := by
  obtain ⟨n1, e, h1⟩ := g_blk_ok noX3 jI_X3_readSum tab_X3 4 n hr (c2 := (63, ρ, [(1, 0), (1, ρ 4), (1, g (ρ 0).toNat 3)], L, g)) rfl
  obtain ⟨n2, c', e2, h2, h3⟩ := g_step_un noX3 (i := .invokevirtual 125) (len := 3) (jI_X3_readSum 63 _ rfl) (gnrV _) h1
  obtain ⟨r1, h1', hx, hc⟩ := g_virt_un lk_X3 nat_all lX3_ok (idx := 125) (mi := 264) (ci := 7) (na := 3) rfl (by decide) mq_X7_write [(1, ρ 4), (1, 0)] [] (g (ρ 0).toNat 3) rfl rfl h2
  subst hc
  exact ⟨n2, r1, h1', by omega, hx, h3⟩
theorem bk_X3_readSum_66 {ax : zAx} {CE : g_E} {n : Nat} {ρ : Nat → Int} {L : List Nat} {g : Nat → Nat → Int} {r : Option g_V} {h : g_H} (hr : g_run RX3 ax CE cX3_readSum n (66, ρ, [], L, g) r h) : ∃ n', n' < n ∧ g_run RX3 ax CE cX3_readSum n' (8, (va_up ρ 3 (g_i (ρ 3 + 1))), [], L, g) r h := by
  obtain ⟨n1, e, h1⟩ := g_blk_ok noX3 jI_X3_readSum tab_X3 2 n hr (c2 := (8, (va_up ρ 3 (g_i (ρ 3 + 1))), [], L, g)) rfl
  exact ⟨n1, by omega, h1⟩
theorem bk_X3_readSum_72 {ax : zAx} {CE : g_E} {n : Nat} {ρ : Nat → Int} {L : List Nat} {g : Nat → Nat → Int} {r : Option g_V} {h : g_H} (hr : g_run RX3 ax CE cX3_readSum n (72, ρ, [], L, g) r h) : r = none ∧ h = (L, g) := by
  obtain ⟨n1, e, h1⟩ := g_blk_ok noX3 jI_X3_readSum tab_X3 0 n hr (c2 := (72, ρ, [], L, g)) rfl
  exact g_retv_un noX3 (jI_X3_readSum 72 _ rfl) h1
theorem pt_X3_readSum_0 {ax : zAx} {CE : g_E} (hCE : ∀ y cc as h r h', CE y cc as h r h' → g_ex ax y cc as h r h') {n : Nat} {ρ : Nat → Int} {L : List Nat} {g : Nat → Nat → Int} {r : Option g_V} {h : g_H} (h0 : g_run RX3 ax CE cX3_readSum n (0, ρ, [], L, g) r h) : (∃ n' r1 h1', n' < n ∧ CE yX3_readProduct cX3_readProduct [(0, (ρ 0)), (1, (ρ 1)), (2, (ρ 2))] (L, g) r1 h1' ∧ g_run RX3 ax CE cX3_readSum n' (6, ρ, g_push r1 [], h1') r h) := by
  obtain ⟨n1, r1, k1, l1, x1, h1⟩ := bk_X3_readSum_0 h0
  exact ⟨n1, r1, k1, by omega, x1, h1⟩
theorem pt_X3_readSum_8 {ax : zAx} {CE : g_E} (hCE : ∀ y cc as h r h', CE y cc as h r h' → g_ex ax y cc as h r h') {n : Nat} {ρ : Nat → Int} {L : List Nat} {g : Nat → Nat → Int} {r : Option g_V} {h : g_H} (h0 : g_run RX3 ax CE cX3_readSum n (8, ρ, [], L, g) r h) : ((300 ≤ (ρ 3) ∧ (r = none ∧ h = (L, g))) ∨ (¬ (300 ≤ (ρ 3)) ∧ ((g (ρ 0).toNat 0 = 0 ∧ ((g (ρ 0).toNat 6 = 40 ∧ (∃ n' r1 h1', n' < n ∧ CE yX3_readProduct cX3_readProduct [(0, (ρ 0)), (1, (ρ 1)), (2, (ρ 2))] (L, (F_X3_advance (ρ 0) g)) r1 h1' ∧ g_run RX3 ax CE cX3_readSum n' (56, (va_up ρ 4 (g (ρ 0).toNat 6)), g_push r1 [], h1') r h)) ∨ (¬ (g (ρ 0).toNat 6 = 40) ∧ ((g (ρ 0).toNat 6 = 41 ∧ (∃ n' r1 h1', n' < n ∧ CE yX3_readProduct cX3_readProduct [(0, (ρ 0)), (1, (ρ 1)), (2, (ρ 2))] (L, (F_X3_advance (ρ 0) g)) r1 h1' ∧ g_run RX3 ax CE cX3_readSum n' (56, (va_up ρ 4 (g (ρ 0).toNat 6)), g_push r1 [], h1') r h)) ∨ (¬ (g (ρ 0).toNat 6 = 41) ∧ (r = none ∧ h = (L, g))))))) ∨ (¬ (g (ρ 0).toNat 0 = 0) ∧ (r = none ∧ h = (L, g)))))) := by
  obtain ⟨n1, l1, h1⟩ := bk_X3_readSum_8 h0
  rcases h1 with ⟨c1, h1⟩ | ⟨c1, h1⟩
  · refine Or.inl ⟨c1, ?_⟩
    obtain ⟨e2, d2⟩ := bk_X3_readSum_72 h1
    exact ⟨e2, d2⟩
  · refine Or.inr ⟨c1, ?_⟩
    obtain ⟨n3, l3, h3⟩ := bk_X3_readSum_15 h1
    rcases h3 with ⟨c3, h3⟩ | ⟨c3, h3⟩
    · refine Or.inl ⟨c3, ?_⟩
      obtain ⟨n4, l4, h4⟩ := bk_X3_readSum_22 h3
      rcases h4 with ⟨c4, h4⟩ | ⟨c4, h4⟩
      · refine Or.inl ⟨c4, ?_⟩
        obtain ⟨n5, r5, k5, l5, x5, h5⟩ := bk_X3_readSum_40 h4
        obtain ⟨e5, d5⟩ := f_X3_advance (hCE _ _ _ _ _ _ x5)
        subst e5
        subst d5
        obtain ⟨n6, r6, k6, l6, x6, h6⟩ := bk_X3_readSum_50 h5
        exact ⟨n6, r6, k6, by omega, x6, h6⟩
      · refine Or.inr ⟨c4, ?_⟩
        obtain ⟨n7, l7, h7⟩ := bk_X3_readSum_31 h4
        rcases h7 with ⟨c7, h7⟩ | ⟨c7, h7⟩
        · refine Or.inl ⟨c7, ?_⟩
          obtain ⟨n8, r8, k8, l8, x8, h8⟩ := bk_X3_readSum_40 h7
          obtain ⟨e8, d8⟩ := f_X3_advance (hCE _ _ _ _ _ _ x8)
          subst e8
          subst d8
          obtain ⟨n9, r9, k9, l9, x9, h9⟩ := bk_X3_readSum_50 h8
          exact ⟨n9, r9, k9, by omega, x9, h9⟩
        · refine Or.inr ⟨c7, ?_⟩
          obtain ⟨e10, d10⟩ := bk_X3_readSum_72 h7
          exact ⟨e10, d10⟩
    · refine Or.inr ⟨c3, ?_⟩
      obtain ⟨e11, d11⟩ := bk_X3_readSum_72 h3
      exact ⟨e11, d11⟩
theorem pt_X3_readSum_6 {ax : zAx} {CE : g_E} (hCE : ∀ y cc as h r h', CE y cc as h r h' → g_ex ax y cc as h r h') {n : Nat} {ρ : Nat → Int} {L : List Nat} {g : Nat → Nat → Int} {r : Option g_V} {h : g_H} (h0 : g_run RX3 ax CE cX3_readSum n (6, ρ, [], L, g) r h) : (∃ n', n' < n ∧ g_run RX3 ax CE cX3_readSum n' (8, (va_up ρ 3 0), [], L, g) r h) := by
  obtain ⟨n1, l1, h1⟩ := bk_X3_readSum_6 h0
  exact ⟨_, by omega, h1⟩
theorem pt_X3_readSum_56 {ax : zAx} {CE : g_E} (hCE : ∀ y cc as h r h', CE y cc as h r h' → g_ex ax y cc as h r h') {n : Nat} {ρ : Nat → Int} {L : List Nat} {g : Nat → Nat → Int} {r : Option g_V} {h : g_H} (h0 : g_run RX3 ax CE cX3_readSum n (56, ρ, [], L, g) r h) : (∃ n', n' < n ∧ g_run RX3 ax CE cX3_readSum n' (8, (va_up ρ 3 (g_i ((ρ 3) + 1))), [], L, (F_X7_write (g (ρ 0).toNat 3) (ρ 4) 0 g)) r h) := by
  obtain ⟨n1, r1, k1, l1, x1, h1⟩ := bk_X3_readSum_56 h0
  obtain ⟨e1, d1⟩ := f_X7_write (hCE _ _ _ _ _ _ x1)
  subst e1
  subst d1
  obtain ⟨n2, l2, h2⟩ := bk_X3_readSum_66 h1
  exact ⟨_, by omega, h2⟩

theorem jI_X3_readProduct : ∀ (pc : Nat) (q : Instr × Nat), lkp iX3_readProduct pc = some q → decode cX3_readProduct pc = .ok q := fun pc q hq => jX3_readProduct (pc, q) (lkp_in iX3_readProduct hq)
theorem bk_X3_readProduct_0 {ax : zAx} {CE : g_E} {n : Nat} {ρ : Nat → Int} {L : List Nat} {g : Nat → Nat → Int} {r : Option g_V} {h : g_H} (hr : g_run RX3 ax CE cX3_readProduct n (0, ρ, [], L, g) r h) : ∃ n' r1 h1', n' < n ∧ CE yX3_readOne cX3_readOne [(0, ρ 0), (1, ρ 1), (2, ρ 2)] (L, g) r1 h1' ∧ g_run RX3 ax CE cX3_readProduct n' (6, ρ, g_push r1 [], h1') r h := by
  obtain ⟨n1, e, h1⟩ := g_blk_ok noX3 jI_X3_readProduct tab_X3 3 n hr (c2 := (3, ρ, [(1, ρ 2), (1, ρ 1), (1, ρ 0)], L, g)) rfl
  obtain ⟨n2, c', e2, h2, h3⟩ := g_step_un noX3 (i := .invokevirtual 137) (len := 3) (jI_X3_readProduct 3 _ rfl) (gnrV _) h1
  obtain ⟨r1, h1', hx, hc⟩ := g_virt_un lk_X3 nat_all lX3_ok (idx := 137) (mi := 237) (ci := 3) (na := 3) rfl (by decide) mq_X3_readOne [(1, ρ 1), (1, ρ 2)] [] (ρ 0) rfl rfl h2
  subst hc
  exact ⟨n2, r1, h1', by omega, hx, h3⟩
theorem bk_X3_readProduct_6 {ax : zAx} {CE : g_E} {n : Nat} {ρ : Nat → Int} {L : List Nat} {g : Nat → Nat → Int} {r : Option g_V} {h : g_H} (hr : g_run RX3 ax CE cX3_readProduct n (6, ρ, [], L, g) r h) : ∃ n', n' < n ∧ g_run RX3 ax CE cX3_readProduct n' (8, (va_up ρ 3 0), [], L, g) r h := by
  obtain ⟨n1, e, h1⟩ := g_blk_ok noX3 jI_X3_readProduct tab_X3 2 n hr (c2 := (8, (va_up ρ 3 0), [], L, g)) rfl
  exact ⟨n1, by omega, h1⟩
theorem bk_X3_readProduct_8 {ax : zAx} {CE : g_E} {n : Nat} {ρ : Nat → Int} {L : List Nat} {g : Nat → Nat → Int} {r : Option g_V} {h : g_H} (hr : g_run RX3 ax CE cX3_readProduct n (8, ρ, [], L, g) r h) : ∃ n', n' < n ∧ ((300 ≤ ρ 3 ∧ g_run RX3 ax CE cX3_readProduct n' (72, ρ, [], L, g) r h) ∨ (¬ (300 ≤ ρ 3) ∧ g_run RX3 ax CE cX3_readProduct n' (15, ρ, [], L, g) r h)) := by
  obtain ⟨n1, e, h1⟩ := g_blk_ok noX3 jI_X3_readProduct tab_X3 3 n hr (c2 := (if 300 ≤ ρ 3 then 72 else 15, ρ, [], L, g)) rfl
  refine ⟨n1, by omega, ?_⟩
  by_cases hc : 300 ≤ ρ 3
  · exact Or.inl ⟨hc, by rw [if_pos hc] at h1; exact h1⟩
  · exact Or.inr ⟨hc, by rw [if_neg hc] at h1; exact h1⟩
theorem bk_X3_readProduct_15 {ax : zAx} {CE : g_E} {n : Nat} {ρ : Nat → Int} {L : List Nat} {g : Nat → Nat → Int} {r : Option g_V} {h : g_H} (hr : g_run RX3 ax CE cX3_readProduct n (15, ρ, [], L, g) r h) : ∃ n', n' < n ∧ ((g (ρ 0).toNat 0 = 0 ∧ g_run RX3 ax CE cX3_readProduct n' (22, ρ, [], L, g) r h) ∨ (¬ (g (ρ 0).toNat 0 = 0) ∧ g_run RX3 ax CE cX3_readProduct n' (72, ρ, [], L, g) r h)) := by
  obtain ⟨n1, e, h1⟩ := g_blk_ok noX3 jI_X3_readProduct tab_X3 3 n hr (c2 := (if g (ρ 0).toNat 0 = 0 then 22 else 72, ρ, [], L, g)) rfl
  refine ⟨n1, by omega, ?_⟩
  by_cases hc : g (ρ 0).toNat 0 = 0
  · exact Or.inl ⟨hc, by rw [if_pos hc] at h1; exact h1⟩
  · exact Or.inr ⟨hc, by rw [if_neg hc] at h1; exact h1⟩
theorem bk_X3_readProduct_22 {ax : zAx} {CE : g_E} {n : Nat} {ρ : Nat → Int} {L : List Nat} {g : Nat → Nat → Int} {r : Option g_V} {h : g_H} (hr : g_run RX3 ax CE cX3_readProduct n (22, ρ, [], L, g) r h) : ∃ n', n' < n ∧ ((g (ρ 0).toNat 6 = 42 ∧ g_run RX3 ax CE cX3_readProduct n' (40, ρ, [], L, g) r h) ∨ (¬ (g (ρ 0).toNat 6 = 42) ∧ g_run RX3 ax CE cX3_readProduct n' (31, ρ, [], L, g) r h)) := by
  obtain ⟨n1, e, h1⟩ := g_blk_ok noX3 jI_X3_readProduct tab_X3 4 n hr (c2 := (if g (ρ 0).toNat 6 = 42 then 40 else 31, ρ, [], L, g)) rfl
  refine ⟨n1, by omega, ?_⟩
  by_cases hc : g (ρ 0).toNat 6 = 42
  · exact Or.inl ⟨hc, by rw [if_pos hc] at h1; exact h1⟩
  · exact Or.inr ⟨hc, by rw [if_neg hc] at h1; exact h1⟩
theorem bk_X3_readProduct_31 {ax : zAx} {CE : g_E} {n : Nat} {ρ : Nat → Int} {L : List Nat} {g : Nat → Nat → Int} {r : Option g_V} {h : g_H} (hr : g_run RX3 ax CE cX3_readProduct n (31, ρ, [], L, g) r h) : ∃ n', n' < n ∧ ((g (ρ 0).toNat 6 = 43 ∧ g_run RX3 ax CE cX3_readProduct n' (40, ρ, [], L, g) r h) ∨ (¬ (g (ρ 0).toNat 6 = 43) ∧ g_run RX3 ax CE cX3_readProduct n' (72, ρ, [], L, g) r h)) := by
  obtain ⟨n1, e, h1⟩ := g_blk_ok noX3 jI_X3_readProduct tab_X3 4 n hr (c2 := (if g (ρ 0).toNat 6 = 43 then 40 else 72, ρ, [], L, g)) rfl
  refine ⟨n1, by omega, ?_⟩
  by_cases hc : g (ρ 0).toNat 6 = 43
  · exact Or.inl ⟨hc, by rw [if_pos hc] at h1; exact h1⟩
  · exact Or.inr ⟨hc, by rw [if_neg hc] at h1; exact h1⟩
theorem bk_X3_readProduct_40 {ax : zAx} {CE : g_E} {n : Nat} {ρ : Nat → Int} {L : List Nat} {g : Nat → Nat → Int} {r : Option g_V} {h : g_H} (hr : g_run RX3 ax CE cX3_readProduct n (40, ρ, [], L, g) r h) : ∃ n' r1 h1', n' < n ∧ CE yX3_advance cX3_advance [(0, ρ 0)] (L, g) r1 h1' ∧ g_run RX3 ax CE cX3_readProduct n' (50, (va_up ρ 4 (g (ρ 0).toNat 6)), g_push r1 [], h1') r h := by
  obtain ⟨n1, e, h1⟩ := g_blk_ok noX3 jI_X3_readProduct tab_X3 4 n hr (c2 := (47, (va_up ρ 4 (g (ρ 0).toNat 6)), [(1, ρ 0)], L, g)) rfl
  obtain ⟨n2, c', e2, h2, h3⟩ := g_step_un noX3 (i := .invokevirtual 68) (len := 3) (jI_X3_readProduct 47 _ rfl) (gnrV _) h1
  obtain ⟨r1, h1', hx, hc⟩ := g_virt_un lk_X3 nat_all lX3_ok (idx := 68) (mi := 223) (ci := 3) (na := 1) rfl (by decide) mq_X3_advance [] [] (ρ 0) rfl rfl h2
  subst hc
  exact ⟨n2, r1, h1', by omega, hx, h3⟩
theorem bk_X3_readProduct_50 {ax : zAx} {CE : g_E} {n : Nat} {ρ : Nat → Int} {L : List Nat} {g : Nat → Nat → Int} {r : Option g_V} {h : g_H} (hr : g_run RX3 ax CE cX3_readProduct n (50, ρ, [], L, g) r h) : ∃ n' r1 h1', n' < n ∧ CE yX3_readOne cX3_readOne [(0, ρ 0), (1, ρ 1), (2, ρ 2)] (L, g) r1 h1' ∧ g_run RX3 ax CE cX3_readProduct n' (56, ρ, g_push r1 [], h1') r h := by
  obtain ⟨n1, e, h1⟩ := g_blk_ok noX3 jI_X3_readProduct tab_X3 3 n hr (c2 := (53, ρ, [(1, ρ 2), (1, ρ 1), (1, ρ 0)], L, g)) rfl
  obtain ⟨n2, c', e2, h2, h3⟩ := g_step_un noX3 (i := .invokevirtual 137) (len := 3) (jI_X3_readProduct 53 _ rfl) (gnrV _) h1
  obtain ⟨r1, h1', hx, hc⟩ := g_virt_un lk_X3 nat_all lX3_ok (idx := 137) (mi := 237) (ci := 3) (na := 3) rfl (by decide) mq_X3_readOne [(1, ρ 1), (1, ρ 2)] [] (ρ 0) rfl rfl h2
  subst hc
  exact ⟨n2, r1, h1', by omega, hx, h3⟩
theorem bk_X3_readProduct_56 {ax : zAx} {CE : g_E} {n : Nat} {ρ : Nat → Int} {L : List Nat} {g : Nat → Nat → Int} {r : Option g_V} {h : g_H} (hr : g_run RX3 ax CE cX3_readProduct n (56, ρ, [], L, g) r h) : ∃ n' r1 h1', n' < n ∧ CE yX7_write cX7_write [(0, g (ρ 0).toNat 3), (1, ρ 4), (2, 0)] (L, g) r1 h1' ∧ g_run RX3 ax CE cX3_readProduct n' (66, ρ, g_push r1 [], h1') r h := by
  obtain ⟨n1, e, h1⟩ := g_blk_ok noX3 jI_X3_readProduct tab_X3 4 n hr (c2 := (63, ρ, [(1, 0), (1, ρ 4), (1, g (ρ 0).toNat 3)], L, g)) rfl
  obtain ⟨n2, c', e2, h2, h3⟩ := g_step_un noX3 (i := .invokevirtual 125) (len := 3) (jI_X3_readProduct 63 _ rfl) (gnrV _) h1
  obtain ⟨r1, h1', hx, hc⟩ := g_virt_un lk_X3 nat_all lX3_ok (idx := 125) (mi := 264) (ci := 7) (na := 3) rfl (by decide) mq_X7_write [(1, ρ 4), (1, 0)] [] (g (ρ 0).toNat 3) rfl rfl h2
  subst hc
  exact ⟨n2, r1, h1', by omega, hx, h3⟩
theorem bk_X3_readProduct_66 {ax : zAx} {CE : g_E} {n : Nat} {ρ : Nat → Int} {L : List Nat} {g : Nat → Nat → Int} {r : Option g_V} {h : g_H} (hr : g_run RX3 ax CE cX3_readProduct n (66, ρ, [], L, g) r h) : ∃ n', n' < n ∧ g_run RX3 ax CE cX3_readProduct n' (8, (va_up ρ 3 (g_i (ρ 3 + 1))), [], L, g) r h := by
  obtain ⟨n1, e, h1⟩ := g_blk_ok noX3 jI_X3_readProduct tab_X3 2 n hr (c2 := (8, (va_up ρ 3 (g_i (ρ 3 + 1))), [], L, g)) rfl
  exact ⟨n1, by omega, h1⟩
theorem bk_X3_readProduct_72 {ax : zAx} {CE : g_E} {n : Nat} {ρ : Nat → Int} {L : List Nat} {g : Nat → Nat → Int} {r : Option g_V} {h : g_H} (hr : g_run RX3 ax CE cX3_readProduct n (72, ρ, [], L, g) r h) : r = none ∧ h = (L, g) := by
  obtain ⟨n1, e, h1⟩ := g_blk_ok noX3 jI_X3_readProduct tab_X3 0 n hr (c2 := (72, ρ, [], L, g)) rfl
  exact g_retv_un noX3 (jI_X3_readProduct 72 _ rfl) h1
theorem pt_X3_readProduct_0 {ax : zAx} {CE : g_E} (hCE : ∀ y cc as h r h', CE y cc as h r h' → g_ex ax y cc as h r h') {n : Nat} {ρ : Nat → Int} {L : List Nat} {g : Nat → Nat → Int} {r : Option g_V} {h : g_H} (h0 : g_run RX3 ax CE cX3_readProduct n (0, ρ, [], L, g) r h) : (∃ n' r1 h1', n' < n ∧ CE yX3_readOne cX3_readOne [(0, (ρ 0)), (1, (ρ 1)), (2, (ρ 2))] (L, g) r1 h1' ∧ g_run RX3 ax CE cX3_readProduct n' (6, ρ, g_push r1 [], h1') r h) := by
  obtain ⟨n1, r1, k1, l1, x1, h1⟩ := bk_X3_readProduct_0 h0
  exact ⟨n1, r1, k1, by omega, x1, h1⟩
theorem pt_X3_readProduct_8 {ax : zAx} {CE : g_E} (hCE : ∀ y cc as h r h', CE y cc as h r h' → g_ex ax y cc as h r h') {n : Nat} {ρ : Nat → Int} {L : List Nat} {g : Nat → Nat → Int} {r : Option g_V} {h : g_H} (h0 : g_run RX3 ax CE cX3_readProduct n (8, ρ, [], L, g) r h) : ((300 ≤ (ρ 3) ∧ (r = none ∧ h = (L, g))) ∨ (¬ (300 ≤ (ρ 3)) ∧ ((g (ρ 0).toNat 0 = 0 ∧ ((g (ρ 0).toNat 6 = 42 ∧ (∃ n' r1 h1', n' < n ∧ CE yX3_readOne cX3_readOne [(0, (ρ 0)), (1, (ρ 1)), (2, (ρ 2))] (L, (F_X3_advance (ρ 0) g)) r1 h1' ∧ g_run RX3 ax CE cX3_readProduct n' (56, (va_up ρ 4 (g (ρ 0).toNat 6)), g_push r1 [], h1') r h)) ∨ (¬ (g (ρ 0).toNat 6 = 42) ∧ ((g (ρ 0).toNat 6 = 43 ∧ (∃ n' r1 h1', n' < n ∧ CE yX3_readOne cX3_readOne [(0, (ρ 0)), (1, (ρ 1)), (2, (ρ 2))] (L, (F_X3_advance (ρ 0) g)) r1 h1' ∧ g_run RX3 ax CE cX3_readProduct n' (56, (va_up ρ 4 (g (ρ 0).toNat 6)), g_push r1 [], h1') r h)) ∨ (¬ (g (ρ 0).toNat 6 = 43) ∧ (r = none ∧ h = (L, g))))))) ∨ (¬ (g (ρ 0).toNat 0 = 0) ∧ (r = none ∧ h = (L, g)))))) := by
  obtain ⟨n1, l1, h1⟩ := bk_X3_readProduct_8 h0
  rcases h1 with ⟨c1, h1⟩ | ⟨c1, h1⟩
  · refine Or.inl ⟨c1, ?_⟩
    obtain ⟨e2, d2⟩ := bk_X3_readProduct_72 h1
    exact ⟨e2, d2⟩
  · refine Or.inr ⟨c1, ?_⟩
    obtain ⟨n3, l3, h3⟩ := bk_X3_readProduct_15 h1
    rcases h3 with ⟨c3, h3⟩ | ⟨c3, h3⟩
    · refine Or.inl ⟨c3, ?_⟩
      obtain ⟨n4, l4, h4⟩ := bk_X3_readProduct_22 h3
      rcases h4 with ⟨c4, h4⟩ | ⟨c4, h4⟩
      · refine Or.inl ⟨c4, ?_⟩
        obtain ⟨n5, r5, k5, l5, x5, h5⟩ := bk_X3_readProduct_40 h4
        obtain ⟨e5, d5⟩ := f_X3_advance (hCE _ _ _ _ _ _ x5)
        subst e5
        subst d5
        obtain ⟨n6, r6, k6, l6, x6, h6⟩ := bk_X3_readProduct_50 h5
        exact ⟨n6, r6, k6, by omega, x6, h6⟩
      · refine Or.inr ⟨c4, ?_⟩
        obtain ⟨n7, l7, h7⟩ := bk_X3_readProduct_31 h4
        rcases h7 with ⟨c7, h7⟩ | ⟨c7, h7⟩
        · refine Or.inl ⟨c7, ?_⟩
          obtain ⟨n8, r8, k8, l8, x8, h8⟩ := bk_X3_readProduct_40 h7
          obtain ⟨e8, d8⟩ := f_X3_advance (hCE _ _ _ _ _ _ x8)
          subst e8
          subst d8
          obtain ⟨n9, r9, k9, l9, x9, h9⟩ := bk_X3_readProduct_50 h8
          exact ⟨n9, r9, k9, by omega, x9, h9⟩
        · refine Or.inr ⟨c7, ?_⟩
          obtain ⟨e10, d10⟩ := bk_X3_readProduct_72 h7
          exact ⟨e10, d10⟩
    · refine Or.inr ⟨c3, ?_⟩
      obtain ⟨e11, d11⟩ := bk_X3_readProduct_72 h3
      exact ⟨e11, d11⟩
theorem pt_X3_readProduct_6 {ax : zAx} {CE : g_E} (hCE : ∀ y cc as h r h', CE y cc as h r h' → g_ex ax y cc as h r h') {n : Nat} {ρ : Nat → Int} {L : List Nat} {g : Nat → Nat → Int} {r : Option g_V} {h : g_H} (h0 : g_run RX3 ax CE cX3_readProduct n (6, ρ, [], L, g) r h) : (∃ n', n' < n ∧ g_run RX3 ax CE cX3_readProduct n' (8, (va_up ρ 3 0), [], L, g) r h) := by
  obtain ⟨n1, l1, h1⟩ := bk_X3_readProduct_6 h0
  exact ⟨_, by omega, h1⟩
theorem pt_X3_readProduct_56 {ax : zAx} {CE : g_E} (hCE : ∀ y cc as h r h', CE y cc as h r h' → g_ex ax y cc as h r h') {n : Nat} {ρ : Nat → Int} {L : List Nat} {g : Nat → Nat → Int} {r : Option g_V} {h : g_H} (h0 : g_run RX3 ax CE cX3_readProduct n (56, ρ, [], L, g) r h) : (∃ n', n' < n ∧ g_run RX3 ax CE cX3_readProduct n' (8, (va_up ρ 3 (g_i ((ρ 3) + 1))), [], L, (F_X7_write (g (ρ 0).toNat 3) (ρ 4) 0 g)) r h) := by
  obtain ⟨n1, r1, k1, l1, x1, h1⟩ := bk_X3_readProduct_56 h0
  obtain ⟨e1, d1⟩ := f_X7_write (hCE _ _ _ _ _ _ x1)
  subst e1
  subst d1
  obtain ⟨n2, l2, h2⟩ := bk_X3_readProduct_66 h1
  exact ⟨_, by omega, h2⟩

theorem jI_X3_readOne : ∀ (pc : Nat) (q : Instr × Nat), lkp iX3_readOne pc = some q → decode cX3_readOne pc = .ok q := fun pc q hq => jX3_readOne (pc, q) (lkp_in iX3_readOne hq)
theorem bk_X3_readOne_0 {ax : zAx} {CE : g_E} {n : Nat} {ρ : Nat → Int} {L : List Nat} {g : Nat → Nat → Int} {r : Option g_V} {h : g_H} (hr : g_run RX3 ax CE cX3_readOne n (0, ρ, [], L, g) r h) : ∃ n', n' < n ∧ ((g (ρ 0).toNat 0 = 0 ∧ g_run RX3 ax CE cX3_readOne n' (8, ρ, [], L, g) r h) ∨ (¬ (g (ρ 0).toNat 0 = 0) ∧ g_run RX3 ax CE cX3_readOne n' (7, ρ, [], L, g) r h)) := by
  obtain ⟨n1, e, h1⟩ := g_blk_ok noX3 jI_X3_readOne tab_X3 3 n hr (c2 := (if g (ρ 0).toNat 0 = 0 then 8 else 7, ρ, [], L, g)) rfl
  refine ⟨n1, by omega, ?_⟩
  by_cases hc : g (ρ 0).toNat 0 = 0
  · exact Or.inl ⟨hc, by rw [if_pos hc] at h1; exact h1⟩
  · exact Or.inr ⟨hc, by rw [if_neg hc] at h1; exact h1⟩
theorem bk_X3_readOne_7 {ax : zAx} {CE : g_E} {n : Nat} {ρ : Nat → Int} {L : List Nat} {g : Nat → Nat → Int} {r : Option g_V} {h : g_H} (hr : g_run RX3 ax CE cX3_readOne n (7, ρ, [], L, g) r h) : r = none ∧ h = (L, g) := by
  obtain ⟨n1, e, h1⟩ := g_blk_ok noX3 jI_X3_readOne tab_X3 0 n hr (c2 := (7, ρ, [], L, g)) rfl
  exact g_retv_un noX3 (jI_X3_readOne 7 _ rfl) h1
theorem bk_X3_readOne_8 {ax : zAx} {CE : g_E} {n : Nat} {ρ : Nat → Int} {L : List Nat} {g : Nat → Nat → Int} {r : Option g_V} {h : g_H} (hr : g_run RX3 ax CE cX3_readOne n (8, ρ, [], L, g) r h) : ∃ n', n' < n ∧ ((g (ρ 0).toNat 6 = 53 ∧ g_run RX3 ax CE cX3_readOne n' (17, ρ, [], L, g) r h) ∨ (¬ (g (ρ 0).toNat 6 = 53) ∧ g_run RX3 ax CE cX3_readOne n' (49, ρ, [], L, g) r h)) := by
  obtain ⟨n1, e, h1⟩ := g_blk_ok noX3 jI_X3_readOne tab_X3 4 n hr (c2 := (if g (ρ 0).toNat 6 = 53 then 17 else 49, ρ, [], L, g)) rfl
  refine ⟨n1, by omega, ?_⟩
  by_cases hc : g (ρ 0).toNat 6 = 53
  · exact Or.inl ⟨hc, by rw [if_pos hc] at h1; exact h1⟩
  · exact Or.inr ⟨hc, by rw [if_neg hc] at h1; exact h1⟩
theorem bk_X3_readOne_17 {ax : zAx} {CE : g_E} {n : Nat} {ρ : Nat → Int} {L : List Nat} {g : Nat → Nat → Int} {r : Option g_V} {h : g_H} (hr : g_run RX3 ax CE cX3_readOne n (17, ρ, [], L, g) r h) : ∃ n' r1 h1', n' < n ∧ CE yX7_write cX7_write [(0, g (ρ 0).toNat 3), (1, 53), (2, g (g (g (ρ 0).toNat 2).toNat 3).toNat (g (ρ 0).toNat 5).toNat)] (L, g) r1 h1' ∧ g_run RX3 ax CE cX3_readOne n' (38, ρ, g_push r1 [], h1') r h := by
  obtain ⟨n1, e, h1⟩ := g_blk_ok noX3 jI_X3_readOne tab_X3 9 n hr (c2 := (35, ρ, [(1, g (g (g (ρ 0).toNat 2).toNat 3).toNat (g (ρ 0).toNat 5).toNat), (1, 53), (1, g (ρ 0).toNat 3)], L, g)) rfl
  obtain ⟨n2, c', e2, h2, h3⟩ := g_step_un noX3 (i := .invokevirtual 125) (len := 3) (jI_X3_readOne 35 _ rfl) (gnrV _) h1
  obtain ⟨r1, h1', hx, hc⟩ := g_virt_un lk_X3 nat_all lX3_ok (idx := 125) (mi := 264) (ci := 7) (na := 3) rfl (by decide) mq_X7_write [(1, 53), (1, g (g (g (ρ 0).toNat 2).toNat 3).toNat (g (ρ 0).toNat 5).toNat)] [] (g (ρ 0).toNat 3) rfl rfl h2
  subst hc
  exact ⟨n2, r1, h1', by omega, hx, h3⟩
theorem bk_X3_readOne_38 {ax : zAx} {CE : g_E} {n : Nat} {ρ : Nat → Int} {L : List Nat} {g : Nat → Nat → Int} {r : Option g_V} {h : g_H} (hr : g_run RX3 ax CE cX3_readOne n (38, ρ, [], L, g) r h) : ∃ n' r1 h1', n' < n ∧ CE yX3_expectNumber cX3_expectNumber [(0, ρ 0), (1, 0), (2, 9999)] (L, g) r1 h1' ∧ g_run RX3 ax CE cX3_readOne n' (46, ρ, g_push r1 [], h1') r h := by
  obtain ⟨n1, e, h1⟩ := g_blk_ok noX3 jI_X3_readOne tab_X3 3 n hr (c2 := (43, ρ, [(1, 9999), (1, 0), (1, ρ 0)], L, g)) rfl
  obtain ⟨n2, c', e2, h2, h3⟩ := g_step_un noX3 (i := .invokevirtual 115) (len := 3) (jI_X3_readOne 43 _ rfl) (gnrV _) h1
  obtain ⟨r1, h1', hx, hc⟩ := g_virt_un lk_X3 nat_all lX3_ok (idx := 115) (mi := 225) (ci := 3) (na := 3) rfl (by decide) mq_X3_expectNumber [(1, 0), (1, 9999)] [] (ρ 0) rfl rfl h2
  subst hc
  exact ⟨n2, r1, h1', by omega, hx, h3⟩
theorem bk_X3_readOne_46 {ax : zAx} {CE : g_E} {n : Nat} {ρ : Nat → Int} {L : List Nat} {g : Nat → Nat → Int} {r : Option g_V} {h : g_H} (hr : g_run RX3 ax CE cX3_readOne n (46, ρ, [], L, g) r h) : ∃ n', n' < n ∧ g_run RX3 ax CE cX3_readOne n' (170, ρ, [], L, g) r h := by
  obtain ⟨n1, e, h1⟩ := g_blk_ok noX3 jI_X3_readOne tab_X3 1 n hr (c2 := (170, ρ, [], L, g)) rfl
  exact ⟨n1, by omega, h1⟩
theorem bk_X3_readOne_49 {ax : zAx} {CE : g_E} {n : Nat} {ρ : Nat → Int} {L : List Nat} {g : Nat → Nat → Int} {r : Option g_V} {h : g_H} (hr : g_run RX3 ax CE cX3_readOne n (49, ρ, [], L, g) r h) : ∃ n' r1 h1', n' < n ∧ CE yX3_isName cX3_isName [(0, g (ρ 0).toNat 6)] (L, g) r1 h1' ∧ g_run RX3 ax CE cX3_readOne n' (56, ρ, g_push r1 [], h1') r h := by
  obtain ⟨n1, e, h1⟩ := g_blk_ok noX3 jI_X3_readOne tab_X3 2 n hr (c2 := (53, ρ, [(1, g (ρ 0).toNat 6)], L, g)) rfl
  obtain ⟨n2, c', e2, h2, h3⟩ := g_step_un noX3 (i := .invokestatic 140) (len := 3) (jI_X3_readOne 53 _ rfl) (gnrS _) h1
  obtain ⟨r1, h1', hx, hc⟩ := g_static_un lk_X3 nat_all lX3_ok (idx := 140) (mode := 1) (mi := 227) (ci := 0) (na := 1) rfl (by decide) (by decide) mq_X3_isName [(1, g (ρ 0).toNat 6)] [] rfl rfl h2
  subst hc
  exact ⟨n2, r1, h1', by omega, hx, h3⟩
theorem bk_X3_readOne_56 {ax : zAx} {CE : g_E} {n : Nat} {ρ : Nat → Int} {s0 : Int} {L : List Nat} {g : Nat → Nat → Int} {r : Option g_V} {h : g_H} (hr : g_run RX3 ax CE cX3_readOne n (56, ρ, [(1, s0)], L, g) r h) : ∃ n', n' < n ∧ ((s0 = 0 ∧ g_run RX3 ax CE cX3_readOne n' (67, ρ, [], L, g) r h) ∨ (¬ (s0 = 0) ∧ g_run RX3 ax CE cX3_readOne n' (59, ρ, [], L, g) r h)) := by
  obtain ⟨n1, e, h1⟩ := g_blk_ok noX3 jI_X3_readOne tab_X3 1 n hr (c2 := (if s0 = 0 then 67 else 59, ρ, [], L, g)) rfl
  refine ⟨n1, by omega, ?_⟩
  by_cases hc : s0 = 0
  · exact Or.inl ⟨hc, by rw [if_pos hc] at h1; exact h1⟩
  · exact Or.inr ⟨hc, by rw [if_neg hc] at h1; exact h1⟩
theorem bk_X3_readOne_59 {ax : zAx} {CE : g_E} {n : Nat} {ρ : Nat → Int} {L : List Nat} {g : Nat → Nat → Int} {r : Option g_V} {h : g_H} (hr : g_run RX3 ax CE cX3_readOne n (59, ρ, [], L, g) r h) : ∃ n' r1 h1', n' < n ∧ CE yX3_readName cX3_readName [(0, ρ 0), (1, ρ 2)] (L, g) r1 h1' ∧ g_run RX3 ax CE cX3_readOne n' (64, ρ, g_push r1 [], h1') r h := by
  obtain ⟨n1, e, h1⟩ := g_blk_ok noX3 jI_X3_readOne tab_X3 2 n hr (c2 := (61, ρ, [(1, ρ 2), (1, ρ 0)], L, g)) rfl
  obtain ⟨n2, c', e2, h2, h3⟩ := g_step_un noX3 (i := .invokevirtual 143) (len := 3) (jI_X3_readOne 61 _ rfl) (gnrV _) h1
  obtain ⟨r1, h1', hx, hc⟩ := g_virt_un lk_X3 nat_all lX3_ok (idx := 143) (mi := 236) (ci := 3) (na := 2) rfl (by decide) mq_X3_readName [(1, ρ 2)] [] (ρ 0) rfl rfl h2
  subst hc
  exact ⟨n2, r1, h1', by omega, hx, h3⟩
theorem bk_X3_readOne_64 {ax : zAx} {CE : g_E} {n : Nat} {ρ : Nat → Int} {L : List Nat} {g : Nat → Nat → Int} {r : Option g_V} {h : g_H} (hr : g_run RX3 ax CE cX3_readOne n (64, ρ, [], L, g) r h) : ∃ n', n' < n ∧ g_run RX3 ax CE cX3_readOne n' (170, ρ, [], L, g) r h := by
  obtain ⟨n1, e, h1⟩ := g_blk_ok noX3 jI_X3_readOne tab_X3 1 n hr (c2 := (170, ρ, [], L, g)) rfl
  exact ⟨n1, by omega, h1⟩
theorem bk_X3_readOne_67 {ax : zAx} {CE : g_E} {n : Nat} {ρ : Nat → Int} {L : List Nat} {g : Nat → Nat → Int} {r : Option g_V} {h : g_H} (hr : g_run RX3 ax CE cX3_readOne n (67, ρ, [], L, g) r h) : ∃ n', n' < n ∧ ((g (ρ 0).toNat 6 = 48 ∧ g_run RX3 ax CE cX3_readOne n' (76, ρ, [], L, g) r h) ∨ (¬ (g (ρ 0).toNat 6 = 48) ∧ g_run RX3 ax CE cX3_readOne n' (101, ρ, [], L, g) r h)) := by
  obtain ⟨n1, e, h1⟩ := g_blk_ok noX3 jI_X3_readOne tab_X3 4 n hr (c2 := (if g (ρ 0).toNat 6 = 48 then 76 else 101, ρ, [], L, g)) rfl
  refine ⟨n1, by omega, ?_⟩
  by_cases hc : g (ρ 0).toNat 6 = 48
  · exact Or.inl ⟨hc, by rw [if_pos hc] at h1; exact h1⟩
  · exact Or.inr ⟨hc, by rw [if_neg hc] at h1; exact h1⟩
theorem bk_X3_readOne_76 {ax : zAx} {CE : g_E} {n : Nat} {ρ : Nat → Int} {L : List Nat} {g : Nat → Nat → Int} {r : Option g_V} {h : g_H} (hr : g_run RX3 ax CE cX3_readOne n (76, ρ, [], L, g) r h) : ∃ n' r1 h1', n' < n ∧ CE yX3_opens cX3_opens [(0, ρ 0), (1, ρ 1)] (L, g) r1 h1' ∧ g_run RX3 ax CE cX3_readOne n' (81, ρ, g_push r1 [], h1') r h := by
  obtain ⟨n1, e, h1⟩ := g_blk_ok noX3 jI_X3_readOne tab_X3 2 n hr (c2 := (78, ρ, [(1, ρ 1), (1, ρ 0)], L, g)) rfl
  obtain ⟨n2, c', e2, h2, h3⟩ := g_step_un noX3 (i := .invokevirtual 131) (len := 3) (jI_X3_readOne 78 _ rfl) (gnrV _) h1
  obtain ⟨r1, h1', hx, hc⟩ := g_virt_un lk_X3 nat_all lX3_ok (idx := 131) (mi := 229) (ci := 3) (na := 2) rfl (by decide) mq_X3_opens [(1, ρ 1)] [] (ρ 0) rfl rfl h2
  subst hc
  exact ⟨n2, r1, h1', by omega, hx, h3⟩
theorem bk_X3_readOne_81 {ax : zAx} {CE : g_E} {n : Nat} {ρ : Nat → Int} {s0 : Int} {L : List Nat} {g : Nat → Nat → Int} {r : Option g_V} {h : g_H} (hr : g_run RX3 ax CE cX3_readOne n (81, ρ, [(1, s0)], L, g) r h) : ∃ n', n' < n ∧ ((s0 = 0 ∧ g_run RX3 ax CE cX3_readOne n' (170, ρ, [], L, g) r h) ∨ (¬ (s0 = 0) ∧ g_run RX3 ax CE cX3_readOne n' (84, ρ, [], L, g) r h)) := by
  obtain ⟨n1, e, h1⟩ := g_blk_ok noX3 jI_X3_readOne tab_X3 1 n hr (c2 := (if s0 = 0 then 170 else 84, ρ, [], L, g)) rfl
  refine ⟨n1, by omega, ?_⟩
  by_cases hc : s0 = 0
  · exact Or.inl ⟨hc, by rw [if_pos hc] at h1; exact h1⟩
  · exact Or.inr ⟨hc, by rw [if_neg hc] at h1; exact h1⟩
theorem bk_X3_readOne_84 {ax : zAx} {CE : g_E} {n : Nat} {ρ : Nat → Int} {L : List Nat} {g : Nat → Nat → Int} {r : Option g_V} {h : g_H} (hr : g_run RX3 ax CE cX3_readOne n (84, ρ, [], L, g) r h) : ∃ n' r1 h1', n' < n ∧ CE yX3_readSum cX3_readSum [(0, ρ 0), (1, g_i ((ρ 1) + 1)), (2, ρ 2)] (L, g) r1 h1' ∧ g_run RX3 ax CE cX3_readOne n' (92, ρ, g_push r1 [], h1') r h := by
  obtain ⟨n1, e, h1⟩ := g_blk_ok noX3 jI_X3_readOne tab_X3 5 n hr (c2 := (89, ρ, [(1, ρ 2), (1, g_i ((ρ 1) + 1)), (1, ρ 0)], L, g)) rfl
  obtain ⟨n2, c', e2, h2, h3⟩ := g_step_un noX3 (i := .invokevirtual 96) (len := 3) (jI_X3_readOne 89 _ rfl) (gnrV _) h1
  obtain ⟨r1, h1', hx, hc⟩ := g_virt_un lk_X3 nat_all lX3_ok (idx := 96) (mi := 240) (ci := 3) (na := 3) rfl (by decide) mq_X3_readSum [(1, g_i ((ρ 1) + 1)), (1, ρ 2)] [] (ρ 0) rfl rfl h2
  subst hc
  exact ⟨n2, r1, h1', by omega, hx, h3⟩
theorem bk_X3_readOne_92 {ax : zAx} {CE : g_E} {n : Nat} {ρ : Nat → Int} {L : List Nat} {g : Nat → Nat → Int} {r : Option g_V} {h : g_H} (hr : g_run RX3 ax CE cX3_readOne n (92, ρ, [], L, g) r h) : ∃ n' r1 h1', n' < n ∧ CE yX3_expect cX3_expect [(0, ρ 0), (1, 49)] (L, g) r1 h1' ∧ g_run RX3 ax CE cX3_readOne n' (98, ρ, g_push r1 [], h1') r h := by
  obtain ⟨n1, e, h1⟩ := g_blk_ok noX3 jI_X3_readOne tab_X3 2 n hr (c2 := (95, ρ, [(1, 49), (1, ρ 0)], L, g)) rfl
  obtain ⟨n2, c', e2, h2, h3⟩ := g_step_un noX3 (i := .invokevirtual 78) (len := 3) (jI_X3_readOne 95 _ rfl) (gnrV _) h1
  obtain ⟨r1, h1', hx, hc⟩ := g_virt_un lk_X3 nat_all lX3_ok (idx := 78) (mi := 224) (ci := 3) (na := 2) rfl (by decide) mq_X3_expect [(1, 49)] [] (ρ 0) rfl rfl h2
  subst hc
  exact ⟨n2, r1, h1', by omega, hx, h3⟩
theorem bk_X3_readOne_98 {ax : zAx} {CE : g_E} {n : Nat} {ρ : Nat → Int} {L : List Nat} {g : Nat → Nat → Int} {r : Option g_V} {h : g_H} (hr : g_run RX3 ax CE cX3_readOne n (98, ρ, [], L, g) r h) : ∃ n', n' < n ∧ g_run RX3 ax CE cX3_readOne n' (170, ρ, [], L, g) r h := by
  obtain ⟨n1, e, h1⟩ := g_blk_ok noX3 jI_X3_readOne tab_X3 1 n hr (c2 := (170, ρ, [], L, g)) rfl
  exact ⟨n1, by omega, h1⟩
theorem bk_X3_readOne_101 {ax : zAx} {CE : g_E} {n : Nat} {ρ : Nat → Int} {L : List Nat} {g : Nat → Nat → Int} {r : Option g_V} {h : g_H} (hr : g_run RX3 ax CE cX3_readOne n (101, ρ, [], L, g) r h) : ∃ n', n' < n ∧ ((g (ρ 0).toNat 6 = 41 ∧ g_run RX3 ax CE cX3_readOne n' (110, ρ, [], L, g) r h) ∨ (¬ (g (ρ 0).toNat 6 = 41) ∧ g_run RX3 ax CE cX3_readOne n' (139, ρ, [], L, g) r h)) := by
  obtain ⟨n1, e, h1⟩ := g_blk_ok noX3 jI_X3_readOne tab_X3 4 n hr (c2 := (if g (ρ 0).toNat 6 = 41 then 110 else 139, ρ, [], L, g)) rfl
  refine ⟨n1, by omega, ?_⟩
  by_cases hc : g (ρ 0).toNat 6 = 41
  · exact Or.inl ⟨hc, by rw [if_pos hc] at h1; exact h1⟩
  · exact Or.inr ⟨hc, by rw [if_neg hc] at h1; exact h1⟩
theorem bk_X3_readOne_110 {ax : zAx} {CE : g_E} {n : Nat} {ρ : Nat → Int} {L : List Nat} {g : Nat → Nat → Int} {r : Option g_V} {h : g_H} (hr : g_run RX3 ax CE cX3_readOne n (110, ρ, [], L, g) r h) : ∃ n' r1 h1', n' < n ∧ CE yX3_opens cX3_opens [(0, ρ 0), (1, ρ 1)] (L, g) r1 h1' ∧ g_run RX3 ax CE cX3_readOne n' (115, ρ, g_push r1 [], h1') r h := by
  obtain ⟨n1, e, h1⟩ := g_blk_ok noX3 jI_X3_readOne tab_X3 2 n hr (c2 := (112, ρ, [(1, ρ 1), (1, ρ 0)], L, g)) rfl
  obtain ⟨n2, c', e2, h2, h3⟩ := g_step_un noX3 (i := .invokevirtual 131) (len := 3) (jI_X3_readOne 112 _ rfl) (gnrV _) h1
  obtain ⟨r1, h1', hx, hc⟩ := g_virt_un lk_X3 nat_all lX3_ok (idx := 131) (mi := 229) (ci := 3) (na := 2) rfl (by decide) mq_X3_opens [(1, ρ 1)] [] (ρ 0) rfl rfl h2
  subst hc
  exact ⟨n2, r1, h1', by omega, hx, h3⟩
theorem bk_X3_readOne_115 {ax : zAx} {CE : g_E} {n : Nat} {ρ : Nat → Int} {s0 : Int} {L : List Nat} {g : Nat → Nat → Int} {r : Option g_V} {h : g_H} (hr : g_run RX3 ax CE cX3_readOne n (115, ρ, [(1, s0)], L, g) r h) : ∃ n', n' < n ∧ ((s0 = 0 ∧ g_run RX3 ax CE cX3_readOne n' (170, ρ, [], L, g) r h) ∨ (¬ (s0 = 0) ∧ g_run RX3 ax CE cX3_readOne n' (118, ρ, [], L, g) r h)) := by
  obtain ⟨n1, e, h1⟩ := g_blk_ok noX3 jI_X3_readOne tab_X3 1 n hr (c2 := (if s0 = 0 then 170 else 118, ρ, [], L, g)) rfl
  refine ⟨n1, by omega, ?_⟩
  by_cases hc : s0 = 0
  · exact Or.inl ⟨hc, by rw [if_pos hc] at h1; exact h1⟩
  · exact Or.inr ⟨hc, by rw [if_neg hc] at h1; exact h1⟩
theorem bk_X3_readOne_118 {ax : zAx} {CE : g_E} {n : Nat} {ρ : Nat → Int} {L : List Nat} {g : Nat → Nat → Int} {r : Option g_V} {h : g_H} (hr : g_run RX3 ax CE cX3_readOne n (118, ρ, [], L, g) r h) : ∃ n' r1 h1', n' < n ∧ CE yX3_readOne cX3_readOne [(0, ρ 0), (1, g_i ((ρ 1) + 1)), (2, ρ 2)] (L, g) r1 h1' ∧ g_run RX3 ax CE cX3_readOne n' (126, ρ, g_push r1 [], h1') r h := by
  obtain ⟨n1, e, h1⟩ := g_blk_ok noX3 jI_X3_readOne tab_X3 5 n hr (c2 := (123, ρ, [(1, ρ 2), (1, g_i ((ρ 1) + 1)), (1, ρ 0)], L, g)) rfl
  obtain ⟨n2, c', e2, h2, h3⟩ := g_step_un noX3 (i := .invokevirtual 137) (len := 3) (jI_X3_readOne 123 _ rfl) (gnrV _) h1
  obtain ⟨r1, h1', hx, hc⟩ := g_virt_un lk_X3 nat_all lX3_ok (idx := 137) (mi := 237) (ci := 3) (na := 3) rfl (by decide) mq_X3_readOne [(1, g_i ((ρ 1) + 1)), (1, ρ 2)] [] (ρ 0) rfl rfl h2
  subst hc
  exact ⟨n2, r1, h1', by omega, hx, h3⟩
theorem bk_X3_readOne_126 {ax : zAx} {CE : g_E} {n : Nat} {ρ : Nat → Int} {L : List Nat} {g : Nat → Nat → Int} {r : Option g_V} {h : g_H} (hr : g_run RX3 ax CE cX3_readOne n (126, ρ, [], L, g) r h) : ∃ n' r1 h1', n' < n ∧ CE yX7_write cX7_write [(0, g (ρ 0).toNat 3), (1, 61), (2, 0)] (L, g) r1 h1' ∧ g_run RX3 ax CE cX3_readOne n' (136, ρ, g_push r1 [], h1') r h := by
  obtain ⟨n1, e, h1⟩ := g_blk_ok noX3 jI_X3_readOne tab_X3 4 n hr (c2 := (133, ρ, [(1, 0), (1, 61), (1, g (ρ 0).toNat 3)], L, g)) rfl
  obtain ⟨n2, c', e2, h2, h3⟩ := g_step_un noX3 (i := .invokevirtual 125) (len := 3) (jI_X3_readOne 133 _ rfl) (gnrV _) h1
  obtain ⟨r1, h1', hx, hc⟩ := g_virt_un lk_X3 nat_all lX3_ok (idx := 125) (mi := 264) (ci := 7) (na := 3) rfl (by decide) mq_X7_write [(1, 61), (1, 0)] [] (g (ρ 0).toNat 3) rfl rfl h2
  subst hc
  exact ⟨n2, r1, h1', by omega, hx, h3⟩
theorem bk_X3_readOne_136 {ax : zAx} {CE : g_E} {n : Nat} {ρ : Nat → Int} {L : List Nat} {g : Nat → Nat → Int} {r : Option g_V} {h : g_H} (hr : g_run RX3 ax CE cX3_readOne n (136, ρ, [], L, g) r h) : ∃ n', n' < n ∧ g_run RX3 ax CE cX3_readOne n' (170, ρ, [], L, g) r h := by
  obtain ⟨n1, e, h1⟩ := g_blk_ok noX3 jI_X3_readOne tab_X3 1 n hr (c2 := (170, ρ, [], L, g)) rfl
  exact ⟨n1, by omega, h1⟩
theorem bk_X3_readOne_139 {ax : zAx} {CE : g_E} {n : Nat} {ρ : Nat → Int} {L : List Nat} {g : Nat → Nat → Int} {r : Option g_V} {h : g_H} (hr : g_run RX3 ax CE cX3_readOne n (139, ρ, [], L, g) r h) : ∃ n', n' < n ∧ ((g (ρ 0).toNat 6 = 20 ∧ g_run RX3 ax CE cX3_readOne n' (157, ρ, [], L, g) r h) ∨ (¬ (g (ρ 0).toNat 6 = 20) ∧ g_run RX3 ax CE cX3_readOne n' (148, ρ, [], L, g) r h)) := by
  obtain ⟨n1, e, h1⟩ := g_blk_ok noX3 jI_X3_readOne tab_X3 4 n hr (c2 := (if g (ρ 0).toNat 6 = 20 then 157 else 148, ρ, [], L, g)) rfl
  refine ⟨n1, by omega, ?_⟩
  by_cases hc : g (ρ 0).toNat 6 = 20
  · exact Or.inl ⟨hc, by rw [if_pos hc] at h1; exact h1⟩
  · exact Or.inr ⟨hc, by rw [if_neg hc] at h1; exact h1⟩
theorem bk_X3_readOne_148 {ax : zAx} {CE : g_E} {n : Nat} {ρ : Nat → Int} {L : List Nat} {g : Nat → Nat → Int} {r : Option g_V} {h : g_H} (hr : g_run RX3 ax CE cX3_readOne n (148, ρ, [], L, g) r h) : ∃ n', n' < n ∧ ((g (ρ 0).toNat 6 = 21 ∧ g_run RX3 ax CE cX3_readOne n' (157, ρ, [], L, g) r h) ∨ (¬ (g (ρ 0).toNat 6 = 21) ∧ g_run RX3 ax CE cX3_readOne n' (165, ρ, [], L, g) r h)) := by
  obtain ⟨n1, e, h1⟩ := g_blk_ok noX3 jI_X3_readOne tab_X3 4 n hr (c2 := (if g (ρ 0).toNat 6 = 21 then 157 else 165, ρ, [], L, g)) rfl
  refine ⟨n1, by omega, ?_⟩
  by_cases hc : g (ρ 0).toNat 6 = 21
  · exact Or.inl ⟨hc, by rw [if_pos hc] at h1; exact h1⟩
  · exact Or.inr ⟨hc, by rw [if_neg hc] at h1; exact h1⟩
theorem bk_X3_readOne_157 {ax : zAx} {CE : g_E} {n : Nat} {ρ : Nat → Int} {L : List Nat} {g : Nat → Nat → Int} {r : Option g_V} {h : g_H} (hr : g_run RX3 ax CE cX3_readOne n (157, ρ, [], L, g) r h) : ∃ n' r1 h1', n' < n ∧ CE yX3_readGroup cX3_readGroup [(0, ρ 0), (1, ρ 1)] (L, g) r1 h1' ∧ g_run RX3 ax CE cX3_readOne n' (162, ρ, g_push r1 [], h1') r h := by
  obtain ⟨n1, e, h1⟩ := g_blk_ok noX3 jI_X3_readOne tab_X3 2 n hr (c2 := (159, ρ, [(1, ρ 1), (1, ρ 0)], L, g)) rfl
  obtain ⟨n2, c', e2, h2, h3⟩ := g_step_un noX3 (i := .invokevirtual 147) (len := 3) (jI_X3_readOne 159 _ rfl) (gnrV _) h1
  obtain ⟨r1, h1', hx, hc⟩ := g_virt_un lk_X3 nat_all lX3_ok (idx := 147) (mi := 234) (ci := 3) (na := 2) rfl (by decide) mq_X3_readGroup [(1, ρ 1)] [] (ρ 0) rfl rfl h2
  subst hc
  exact ⟨n2, r1, h1', by omega, hx, h3⟩
theorem bk_X3_readOne_162 {ax : zAx} {CE : g_E} {n : Nat} {ρ : Nat → Int} {L : List Nat} {g : Nat → Nat → Int} {r : Option g_V} {h : g_H} (hr : g_run RX3 ax CE cX3_readOne n (162, ρ, [], L, g) r h) : ∃ n', n' < n ∧ g_run RX3 ax CE cX3_readOne n' (170, ρ, [], L, g) r h := by
  obtain ⟨n1, e, h1⟩ := g_blk_ok noX3 jI_X3_readOne tab_X3 1 n hr (c2 := (170, ρ, [], L, g)) rfl
  exact ⟨n1, by omega, h1⟩
theorem bk_X3_readOne_165 {ax : zAx} {CE : g_E} {n : Nat} {ρ : Nat → Int} {L : List Nat} {g : Nat → Nat → Int} {r : Option g_V} {h : g_H} (hr : g_run RX3 ax CE cX3_readOne n (165, ρ, [], L, g) r h) : ∃ n' r1 h1', n' < n ∧ CE yX3_fail cX3_fail [(0, ρ 0), (1, 1)] (L, g) r1 h1' ∧ g_run RX3 ax CE cX3_readOne n' (170, ρ, g_push r1 [], h1') r h := by
  obtain ⟨n1, e, h1⟩ := g_blk_ok noX3 jI_X3_readOne tab_X3 2 n hr (c2 := (167, ρ, [(1, 1), (1, ρ 0)], L, g)) rfl
  obtain ⟨n2, c', e2, h2, h3⟩ := g_step_un noX3 (i := .invokevirtual 55) (len := 3) (jI_X3_readOne 167 _ rfl) (gnrV _) h1
  obtain ⟨r1, h1', hx, hc⟩ := g_virt_un lk_X3 nat_all lX3_ok (idx := 55) (mi := 226) (ci := 3) (na := 2) rfl (by decide) mq_X3_fail [(1, 1)] [] (ρ 0) rfl rfl h2
  subst hc
  exact ⟨n2, r1, h1', by omega, hx, h3⟩
theorem bk_X3_readOne_170 {ax : zAx} {CE : g_E} {n : Nat} {ρ : Nat → Int} {L : List Nat} {g : Nat → Nat → Int} {r : Option g_V} {h : g_H} (hr : g_run RX3 ax CE cX3_readOne n (170, ρ, [], L, g) r h) : r = none ∧ h = (L, g) := by
  obtain ⟨n1, e, h1⟩ := g_blk_ok noX3 jI_X3_readOne tab_X3 0 n hr (c2 := (170, ρ, [], L, g)) rfl
  exact g_retv_un noX3 (jI_X3_readOne 170 _ rfl) h1
theorem pt_X3_readOne_0 {ax : zAx} {CE : g_E} (hCE : ∀ y cc as h r h', CE y cc as h r h' → g_ex ax y cc as h r h') {n : Nat} {ρ : Nat → Int} {L : List Nat} {g : Nat → Nat → Int} {r : Option g_V} {h : g_H} (h0 : g_run RX3 ax CE cX3_readOne n (0, ρ, [], L, g) r h) : ((g (ρ 0).toNat 0 = 0 ∧ ((g (ρ 0).toNat 6 = 53 ∧ (∃ n', n' < n ∧ g_run RX3 ax CE cX3_readOne n' (170, ρ, [], L, (F_X3_expectNumber (ρ 0) 0 9999 (F_X7_write (g (ρ 0).toNat 3) 53 (g (g (g (ρ 0).toNat 2).toNat 3).toNat (g (ρ 0).toNat 5).toNat) g))) r h)) ∨ (¬ (g (ρ 0).toNat 6 = 53) ∧ ((F_X3_isName (g (ρ 0).toNat 6) g = 0 ∧ ((g (ρ 0).toNat 6 = 48 ∧ (((F_X3_opens (ρ 0) (ρ 1) g).1 = 0 ∧ (∃ n', n' < n ∧ g_run RX3 ax CE cX3_readOne n' (170, ρ, [], L, (F_X3_opens (ρ 0) (ρ 1) g).2) r h)) ∨ (¬ ((F_X3_opens (ρ 0) (ρ 1) g).1 = 0) ∧ (∃ n' r1 h1', n' < n ∧ CE yX3_readSum cX3_readSum [(0, (ρ 0)), (1, g_i ((ρ 1) + 1)), (2, (ρ 2))] (L, (F_X3_opens (ρ 0) (ρ 1) g).2) r1 h1' ∧ g_run RX3 ax CE cX3_readOne n' (92, ρ, g_push r1 [], h1') r h)))) ∨ (¬ (g (ρ 0).toNat 6 = 48) ∧ ((g (ρ 0).toNat 6 = 41 ∧ (((F_X3_opens (ρ 0) (ρ 1) g).1 = 0 ∧ (∃ n', n' < n ∧ g_run RX3 ax CE cX3_readOne n' (170, ρ, [], L, (F_X3_opens (ρ 0) (ρ 1) g).2) r h)) ∨ (¬ ((F_X3_opens (ρ 0) (ρ 1) g).1 = 0) ∧ (∃ n' r1 h1', n' < n ∧ CE yX3_readOne cX3_readOne [(0, (ρ 0)), (1, g_i ((ρ 1) + 1)), (2, (ρ 2))] (L, (F_X3_opens (ρ 0) (ρ 1) g).2) r1 h1' ∧ g_run RX3 ax CE cX3_readOne n' (126, ρ, g_push r1 [], h1') r h)))) ∨ (¬ (g (ρ 0).toNat 6 = 41) ∧ ((g (ρ 0).toNat 6 = 20 ∧ (∃ n', n' < n ∧ g_run RX3 ax CE cX3_readOne n' (157, ρ, [], L, g) r h)) ∨ (¬ (g (ρ 0).toNat 6 = 20) ∧ ((g (ρ 0).toNat 6 = 21 ∧ (∃ n', n' < n ∧ g_run RX3 ax CE cX3_readOne n' (157, ρ, [], L, g) r h)) ∨ (¬ (g (ρ 0).toNat 6 = 21) ∧ (∃ n', n' < n ∧ g_run RX3 ax CE cX3_readOne n' (170, ρ, [], L, (F_X3_fail (ρ 0) 1 g)) r h)))))))))) ∨ (¬ (F_X3_isName (g (ρ 0).toNat 6) g = 0) ∧ (∃ n', n' < n ∧ g_run RX3 ax CE cX3_readOne n' (170, ρ, [], L, (F_X3_readName (ρ 0) (ρ 2) g)) r h)))))) ∨ (¬ (g (ρ 0).toNat 0 = 0) ∧ (r = none ∧ h = (L, g)))) := by
  obtain ⟨n1, l1, h1⟩ := bk_X3_readOne_0 h0
  rcases h1 with ⟨c1, h1⟩ | ⟨c1, h1⟩
  · refine Or.inl ⟨c1, ?_⟩
    obtain ⟨n2, l2, h2⟩ := bk_X3_readOne_8 h1
    rcases h2 with ⟨c2, h2⟩ | ⟨c2, h2⟩
    · refine Or.inl ⟨c2, ?_⟩
      obtain ⟨n3, r3, k3, l3, x3, h3⟩ := bk_X3_readOne_17 h2
      obtain ⟨e3, d3⟩ := f_X7_write (hCE _ _ _ _ _ _ x3)
      subst e3
      subst d3
      obtain ⟨n4, r4, k4, l4, x4, h4⟩ := bk_X3_readOne_38 h3
      obtain ⟨e4, d4⟩ := f_X3_expectNumber (hCE _ _ _ _ _ _ x4)
      subst e4
      subst d4
      obtain ⟨n5, l5, h5⟩ := bk_X3_readOne_46 h4
      exact ⟨_, by omega, h5⟩
    · refine Or.inr ⟨c2, ?_⟩
      obtain ⟨n7, r7, k7, l7, x7, h7⟩ := bk_X3_readOne_49 h2
      obtain ⟨e7, d7⟩ := f_X3_isName (hCE _ _ _ _ _ _ x7)
      subst e7
      subst d7
      obtain ⟨n8, l8, h8⟩ := bk_X3_readOne_56 h7
      rcases h8 with ⟨c8, h8⟩ | ⟨c8, h8⟩
      · refine Or.inl ⟨c8, ?_⟩
        obtain ⟨n9, l9, h9⟩ := bk_X3_readOne_67 h8
        rcases h9 with ⟨c9, h9⟩ | ⟨c9, h9⟩
        · refine Or.inl ⟨c9, ?_⟩
          obtain ⟨n10, r10, k10, l10, x10, h10⟩ := bk_X3_readOne_76 h9
          obtain ⟨e10, d10⟩ := f_X3_opens (hCE _ _ _ _ _ _ x10)
          subst e10
          subst d10
          obtain ⟨n11, l11, h11⟩ := bk_X3_readOne_81 h10
          rcases h11 with ⟨c11, h11⟩ | ⟨c11, h11⟩
          · refine Or.inl ⟨c11, ?_⟩
            exact ⟨_, by omega, h11⟩
          · refine Or.inr ⟨c11, ?_⟩
            obtain ⟨n13, r13, k13, l13, x13, h13⟩ := bk_X3_readOne_84 h11
            exact ⟨n13, r13, k13, by omega, x13, h13⟩
        · refine Or.inr ⟨c9, ?_⟩
          obtain ⟨n14, l14, h14⟩ := bk_X3_readOne_101 h9
          rcases h14 with ⟨c14, h14⟩ | ⟨c14, h14⟩
          · refine Or.inl ⟨c14, ?_⟩
            obtain ⟨n15, r15, k15, l15, x15, h15⟩ := bk_X3_readOne_110 h14
            obtain ⟨e15, d15⟩ := f_X3_opens (hCE _ _ _ _ _ _ x15)
            subst e15
            subst d15
            obtain ⟨n16, l16, h16⟩ := bk_X3_readOne_115 h15
            rcases h16 with ⟨c16, h16⟩ | ⟨c16, h16⟩
            · refine Or.inl ⟨c16, ?_⟩
              exact ⟨_, by omega, h16⟩
            · refine Or.inr ⟨c16, ?_⟩
              obtain ⟨n18, r18, k18, l18, x18, h18⟩ := bk_X3_readOne_118 h16
              exact ⟨n18, r18, k18, by omega, x18, h18⟩
          · refine Or.inr ⟨c14, ?_⟩
            obtain ⟨n19, l19, h19⟩ := bk_X3_readOne_139 h14
            rcases h19 with ⟨c19, h19⟩ | ⟨c19, h19⟩
            · refine Or.inl ⟨c19, ?_⟩
              exact ⟨_, by omega, h19⟩
            · refine Or.inr ⟨c19, ?_⟩
              obtain ⟨n21, l21, h21⟩ := bk_X3_readOne_148 h19
              rcases h21 with ⟨c21, h21⟩ | ⟨c21, h21⟩
              · refine Or.inl ⟨c21, ?_⟩
                exact ⟨_, by omega, h21⟩
              · refine Or.inr ⟨c21, ?_⟩
                obtain ⟨n23, r23, k23, l23, x23, h23⟩ := bk_X3_readOne_165 h21
                obtain ⟨e23, d23⟩ := f_X3_fail (hCE _ _ _ _ _ _ x23)
                subst e23
                subst d23
                exact ⟨_, by omega, h23⟩
      · refine Or.inr ⟨c8, ?_⟩
        obtain ⟨n25, r25, k25, l25, x25, h25⟩ := bk_X3_readOne_59 h8
        obtain ⟨e25, d25⟩ := f_X3_readName (hCE _ _ _ _ _ _ x25)
        subst e25
        subst d25
        obtain ⟨n26, l26, h26⟩ := bk_X3_readOne_64 h25
        exact ⟨_, by omega, h26⟩
  · refine Or.inr ⟨c1, ?_⟩
    obtain ⟨e28, d28⟩ := bk_X3_readOne_7 h1
    exact ⟨e28, d28⟩
theorem pt_X3_readOne_157 {ax : zAx} {CE : g_E} (hCE : ∀ y cc as h r h', CE y cc as h r h' → g_ex ax y cc as h r h') {n : Nat} {ρ : Nat → Int} {L : List Nat} {g : Nat → Nat → Int} {r : Option g_V} {h : g_H} (h0 : g_run RX3 ax CE cX3_readOne n (157, ρ, [], L, g) r h) : (∃ n' r1 h1', n' < n ∧ CE yX3_readGroup cX3_readGroup [(0, (ρ 0)), (1, (ρ 1))] (L, g) r1 h1' ∧ g_run RX3 ax CE cX3_readOne n' (162, ρ, g_push r1 [], h1') r h) := by
  obtain ⟨n1, r1, k1, l1, x1, h1⟩ := bk_X3_readOne_157 h0
  exact ⟨n1, r1, k1, by omega, x1, h1⟩
theorem pt_X3_readOne_170 {ax : zAx} {CE : g_E} (hCE : ∀ y cc as h r h', CE y cc as h r h' → g_ex ax y cc as h r h') {n : Nat} {ρ : Nat → Int} {L : List Nat} {g : Nat → Nat → Int} {r : Option g_V} {h : g_H} (h0 : g_run RX3 ax CE cX3_readOne n (170, ρ, [], L, g) r h) : (r = none ∧ h = (L, g)) := by
  obtain ⟨e1, d1⟩ := bk_X3_readOne_170 h0
  exact ⟨e1, d1⟩
theorem pt_X3_readOne_92 {ax : zAx} {CE : g_E} (hCE : ∀ y cc as h r h', CE y cc as h r h' → g_ex ax y cc as h r h') {n : Nat} {ρ : Nat → Int} {L : List Nat} {g : Nat → Nat → Int} {r : Option g_V} {h : g_H} (h0 : g_run RX3 ax CE cX3_readOne n (92, ρ, [], L, g) r h) : (∃ n', n' < n ∧ g_run RX3 ax CE cX3_readOne n' (170, ρ, [], L, (F_X3_expect (ρ 0) 49 g)) r h) := by
  obtain ⟨n1, r1, k1, l1, x1, h1⟩ := bk_X3_readOne_92 h0
  obtain ⟨e1, d1⟩ := f_X3_expect (hCE _ _ _ _ _ _ x1)
  subst e1
  subst d1
  obtain ⟨n2, l2, h2⟩ := bk_X3_readOne_98 h1
  exact ⟨_, by omega, h2⟩
theorem pt_X3_readOne_126 {ax : zAx} {CE : g_E} (hCE : ∀ y cc as h r h', CE y cc as h r h' → g_ex ax y cc as h r h') {n : Nat} {ρ : Nat → Int} {L : List Nat} {g : Nat → Nat → Int} {r : Option g_V} {h : g_H} (h0 : g_run RX3 ax CE cX3_readOne n (126, ρ, [], L, g) r h) : (∃ n', n' < n ∧ g_run RX3 ax CE cX3_readOne n' (170, ρ, [], L, (F_X7_write (g (ρ 0).toNat 3) 61 0 g)) r h) := by
  obtain ⟨n1, r1, k1, l1, x1, h1⟩ := bk_X3_readOne_126 h0
  obtain ⟨e1, d1⟩ := f_X7_write (hCE _ _ _ _ _ _ x1)
  subst e1
  subst d1
  obtain ⟨n2, l2, h2⟩ := bk_X3_readOne_136 h1
  exact ⟨_, by omega, h2⟩
theorem pt_X3_readOne_162 {ax : zAx} {CE : g_E} (hCE : ∀ y cc as h r h', CE y cc as h r h' → g_ex ax y cc as h r h') {n : Nat} {ρ : Nat → Int} {L : List Nat} {g : Nat → Nat → Int} {r : Option g_V} {h : g_H} (h0 : g_run RX3 ax CE cX3_readOne n (162, ρ, [], L, g) r h) : (∃ n', n' < n ∧ g_run RX3 ax CE cX3_readOne n' (170, ρ, [], L, g) r h) := by
  obtain ⟨n1, l1, h1⟩ := bk_X3_readOne_162 h0
  exact ⟨_, by omega, h1⟩

theorem jI_X3_readGroup : ∀ (pc : Nat) (q : Instr × Nat), lkp iX3_readGroup pc = some q → decode cX3_readGroup pc = .ok q := fun pc q hq => jX3_readGroup (pc, q) (lkp_in iX3_readGroup hq)
theorem bk_X3_readGroup_0 {ax : zAx} {CE : g_E} {n : Nat} {ρ : Nat → Int} {L : List Nat} {g : Nat → Nat → Int} {r : Option g_V} {h : g_H} (hr : g_run RX3 ax CE cX3_readGroup n (0, ρ, [], L, g) r h) : ∃ n', n' < n ∧ ((g (ρ 0).toNat 6 = 21 ∧ g_run RX3 ax CE cX3_readGroup n' (9, ρ, [], L, g) r h) ∨ (¬ (g (ρ 0).toNat 6 = 21) ∧ g_run RX3 ax CE cX3_readGroup n' (13, ρ, [], L, g) r h)) := by
  obtain ⟨n1, e, h1⟩ := g_blk_ok noX3 jI_X3_readGroup tab_X3 4 n hr (c2 := (if g (ρ 0).toNat 6 = 21 then 9 else 13, ρ, [], L, g)) rfl
  refine ⟨n1, by omega, ?_⟩
  by_cases hc : g (ρ 0).toNat 6 = 21
  · exact Or.inl ⟨hc, by rw [if_pos hc] at h1; exact h1⟩
  · exact Or.inr ⟨hc, by rw [if_neg hc] at h1; exact h1⟩
theorem bk_X3_readGroup_9 {ax : zAx} {CE : g_E} {n : Nat} {ρ : Nat → Int} {L : List Nat} {g : Nat → Nat → Int} {r : Option g_V} {h : g_H} (hr : g_run RX3 ax CE cX3_readGroup n (9, ρ, [], L, g) r h) : ∃ n', n' < n ∧ g_run RX3 ax CE cX3_readGroup n' (14, ρ, [(1, 1)], L, g) r h := by
  obtain ⟨n1, e, h1⟩ := g_blk_ok noX3 jI_X3_readGroup tab_X3 2 n hr (c2 := (14, ρ, [(1, 1)], L, g)) rfl
  exact ⟨n1, by omega, h1⟩
theorem bk_X3_readGroup_13 {ax : zAx} {CE : g_E} {n : Nat} {ρ : Nat → Int} {L : List Nat} {g : Nat → Nat → Int} {r : Option g_V} {h : g_H} (hr : g_run RX3 ax CE cX3_readGroup n (13, ρ, [], L, g) r h) : ∃ n', n' < n ∧ g_run RX3 ax CE cX3_readGroup n' (14, ρ, [(1, 0)], L, g) r h := by
  obtain ⟨n1, e, h1⟩ := g_blk_ok noX3 jI_X3_readGroup tab_X3 1 n hr (c2 := (14, ρ, [(1, 0)], L, g)) rfl
  exact ⟨n1, by omega, h1⟩
theorem bk_X3_readGroup_14 {ax : zAx} {CE : g_E} {n : Nat} {ρ : Nat → Int} {s0 : Int} {L : List Nat} {g : Nat → Nat → Int} {r : Option g_V} {h : g_H} (hr : g_run RX3 ax CE cX3_readGroup n (14, ρ, [(1, s0)], L, g) r h) : ∃ n' r1 h1', n' < n ∧ CE yX3_opens cX3_opens [(0, ρ 0), (1, ρ 1)] (L, g) r1 h1' ∧ g_run RX3 ax CE cX3_readGroup n' (28, (va_up (va_up ρ 2 s0) 3 (g (g (ρ 0).toNat 3).toNat 8)), g_push r1 [], h1') r h := by
  obtain ⟨n1, e, h1⟩ := g_blk_ok noX3 jI_X3_readGroup tab_X3 7 n hr (c2 := (25, (va_up (va_up ρ 2 s0) 3 (g (g (ρ 0).toNat 3).toNat 8)), [(1, ρ 1), (1, ρ 0)], L, g)) rfl
  obtain ⟨n2, c', e2, h2, h3⟩ := g_step_un noX3 (i := .invokevirtual 131) (len := 3) (jI_X3_readGroup 25 _ rfl) (gnrV _) h1
  obtain ⟨r1, h1', hx, hc⟩ := g_virt_un lk_X3 nat_all lX3_ok (idx := 131) (mi := 229) (ci := 3) (na := 2) rfl (by decide) mq_X3_opens [(1, ρ 1)] [] (ρ 0) rfl rfl h2
  subst hc
  exact ⟨n2, r1, h1', by omega, hx, h3⟩
theorem bk_X3_readGroup_28 {ax : zAx} {CE : g_E} {n : Nat} {ρ : Nat → Int} {s0 : Int} {L : List Nat} {g : Nat → Nat → Int} {r : Option g_V} {h : g_H} (hr : g_run RX3 ax CE cX3_readGroup n (28, ρ, [(1, s0)], L, g) r h) : ∃ n', n' < n ∧ ((s0 = 0 ∧ g_run RX3 ax CE cX3_readGroup n' (38, ρ, [], L, g) r h) ∨ (¬ (s0 = 0) ∧ g_run RX3 ax CE cX3_readGroup n' (31, ρ, [], L, g) r h)) := by
  obtain ⟨n1, e, h1⟩ := g_blk_ok noX3 jI_X3_readGroup tab_X3 1 n hr (c2 := (if s0 = 0 then 38 else 31, ρ, [], L, g)) rfl
  refine ⟨n1, by omega, ?_⟩
  by_cases hc : s0 = 0
  · exact Or.inl ⟨hc, by rw [if_pos hc] at h1; exact h1⟩
  · exact Or.inr ⟨hc, by rw [if_neg hc] at h1; exact h1⟩
theorem bk_X3_readGroup_31 {ax : zAx} {CE : g_E} {n : Nat} {ρ : Nat → Int} {L : List Nat} {g : Nat → Nat → Int} {r : Option g_V} {h : g_H} (hr : g_run RX3 ax CE cX3_readGroup n (31, ρ, [], L, g) r h) : ∃ n', n' < n ∧ ((ρ 3 < 300 ∧ g_run RX3 ax CE cX3_readGroup n' (39, ρ, [], L, g) r h) ∨ (¬ (ρ 3 < 300) ∧ g_run RX3 ax CE cX3_readGroup n' (38, ρ, [], L, g) r h)) := by
  obtain ⟨n1, e, h1⟩ := g_blk_ok noX3 jI_X3_readGroup tab_X3 3 n hr (c2 := (if ρ 3 < 300 then 39 else 38, ρ, [], L, g)) rfl
  refine ⟨n1, by omega, ?_⟩
  by_cases hc : ρ 3 < 300
  · exact Or.inl ⟨hc, by rw [if_pos hc] at h1; exact h1⟩
  · exact Or.inr ⟨hc, by rw [if_neg hc] at h1; exact h1⟩
theorem bk_X3_readGroup_38 {ax : zAx} {CE : g_E} {n : Nat} {ρ : Nat → Int} {L : List Nat} {g : Nat → Nat → Int} {r : Option g_V} {h : g_H} (hr : g_run RX3 ax CE cX3_readGroup n (38, ρ, [], L, g) r h) : r = none ∧ h = (L, g) := by
  obtain ⟨n1, e, h1⟩ := g_blk_ok noX3 jI_X3_readGroup tab_X3 0 n hr (c2 := (38, ρ, [], L, g)) rfl
  exact g_retv_un noX3 (jI_X3_readGroup 38 _ rfl) h1
theorem bk_X3_readGroup_39 {ax : zAx} {CE : g_E} {n : Nat} {ρ : Nat → Int} {L : List Nat} {g : Nat → Nat → Int} {r : Option g_V} {h : g_H} (hr : g_run RX3 ax CE cX3_readGroup n (39, ρ, [], L, g) r h) : ∃ n' r1 h1', n' < n ∧ CE yX7_write cX7_write [(0, (g_up g (g (ρ 0).toNat 3).toNat 8 (g_i ((g (g (ρ 0).toNat 3).toNat 8) + 1))) (ρ 0).toNat 3), (1, 62), (2, ρ 3)] (L, (g_up g (g (ρ 0).toNat 3).toNat 8 (g_i ((g (g (ρ 0).toNat 3).toNat 8) + 1)))) r1 h1' ∧ g_run RX3 ax CE cX3_readGroup n' (62, ρ, g_push r1 [], h1') r h := by
  obtain ⟨n1, e, h1⟩ := g_blk_ok noX3 jI_X3_readGroup tab_X3 11 n hr (c2 := (59, ρ, [(1, ρ 3), (1, 62), (1, (g_up g (g (ρ 0).toNat 3).toNat 8 (g_i ((g (g (ρ 0).toNat 3).toNat 8) + 1))) (ρ 0).toNat 3)], L, (g_up g (g (ρ 0).toNat 3).toNat 8 (g_i ((g (g (ρ 0).toNat 3).toNat 8) + 1))))) rfl
  obtain ⟨n2, c', e2, h2, h3⟩ := g_step_un noX3 (i := .invokevirtual 125) (len := 3) (jI_X3_readGroup 59 _ rfl) (gnrV _) h1
  obtain ⟨r1, h1', hx, hc⟩ := g_virt_un lk_X3 nat_all lX3_ok (idx := 125) (mi := 264) (ci := 7) (na := 3) rfl (by decide) mq_X7_write [(1, 62), (1, ρ 3)] [] ((g_up g (g (ρ 0).toNat 3).toNat 8 (g_i ((g (g (ρ 0).toNat 3).toNat 8) + 1))) (ρ 0).toNat 3) rfl rfl h2
  subst hc
  exact ⟨n2, r1, h1', by omega, hx, h3⟩
theorem bk_X3_readGroup_62 {ax : zAx} {CE : g_E} {n : Nat} {ρ : Nat → Int} {L : List Nat} {g : Nat → Nat → Int} {r : Option g_V} {h : g_H} (hr : g_run RX3 ax CE cX3_readGroup n (62, ρ, [], L, g) r h) : ∃ n', n' < n ∧ ((ρ 2 = 0 ∧ g_run RX3 ax CE cX3_readGroup n' (92, ρ, [], L, (g_up g (g (g (ρ 0).toNat 3).toNat 6).toNat (ρ 3).toNat (g (g (ρ 0).toNat 3).toNat 5))) r h) ∨ (¬ (ρ 2 = 0) ∧ g_run RX3 ax CE cX3_readGroup n' (82, ρ, [], L, (g_up g (g (g (ρ 0).toNat 3).toNat 6).toNat (ρ 3).toNat (g (g (ρ 0).toNat 3).toNat 5))) r h)) := by
  obtain ⟨n1, e, h1⟩ := g_blk_ok noX3 jI_X3_readGroup tab_X3 10 n hr (c2 := (if ρ 2 = 0 then 92 else 82, ρ, [], L, (g_up g (g (g (ρ 0).toNat 3).toNat 6).toNat (ρ 3).toNat (g (g (ρ 0).toNat 3).toNat 5)))) rfl
  refine ⟨n1, by omega, ?_⟩
  by_cases hc : ρ 2 = 0
  · exact Or.inl ⟨hc, by rw [if_pos hc] at h1; exact h1⟩
  · exact Or.inr ⟨hc, by rw [if_neg hc] at h1; exact h1⟩
theorem bk_X3_readGroup_82 {ax : zAx} {CE : g_E} {n : Nat} {ρ : Nat → Int} {L : List Nat} {g : Nat → Nat → Int} {r : Option g_V} {h : g_H} (hr : g_run RX3 ax CE cX3_readGroup n (82, ρ, [], L, g) r h) : ∃ n' r1 h1', n' < n ∧ CE yX3_readEither cX3_readEither [(0, ρ 0), (1, g_i ((ρ 1) + 1))] (L, g) r1 h1' ∧ g_run RX3 ax CE cX3_readGroup n' (89, ρ, g_push r1 [], h1') r h := by
  obtain ⟨n1, e, h1⟩ := g_blk_ok noX3 jI_X3_readGroup tab_X3 4 n hr (c2 := (86, ρ, [(1, g_i ((ρ 1) + 1)), (1, ρ 0)], L, g)) rfl
  obtain ⟨n2, c', e2, h2, h3⟩ := g_step_un noX3 (i := .invokevirtual 153) (len := 3) (jI_X3_readGroup 86 _ rfl) (gnrV _) h1
  obtain ⟨r1, h1', hx, hc⟩ := g_virt_un lk_X3 nat_all lX3_ok (idx := 153) (mi := 233) (ci := 3) (na := 2) rfl (by decide) mq_X3_readEither [(1, g_i ((ρ 1) + 1))] [] (ρ 0) rfl rfl h2
  subst hc
  exact ⟨n2, r1, h1', by omega, hx, h3⟩
theorem bk_X3_readGroup_89 {ax : zAx} {CE : g_E} {n : Nat} {ρ : Nat → Int} {L : List Nat} {g : Nat → Nat → Int} {r : Option g_V} {h : g_H} (hr : g_run RX3 ax CE cX3_readGroup n (89, ρ, [], L, g) r h) : ∃ n', n' < n ∧ g_run RX3 ax CE cX3_readGroup n' (100, ρ, [], L, g) r h := by
  obtain ⟨n1, e, h1⟩ := g_blk_ok noX3 jI_X3_readGroup tab_X3 1 n hr (c2 := (100, ρ, [], L, g)) rfl
  exact ⟨n1, by omega, h1⟩
theorem bk_X3_readGroup_92 {ax : zAx} {CE : g_E} {n : Nat} {ρ : Nat → Int} {L : List Nat} {g : Nat → Nat → Int} {r : Option g_V} {h : g_H} (hr : g_run RX3 ax CE cX3_readGroup n (92, ρ, [], L, g) r h) : ∃ n' r1 h1', n' < n ∧ CE yX3_readSum cX3_readSum [(0, ρ 0), (1, g_i ((ρ 1) + 1)), (2, 1)] (L, g) r1 h1' ∧ g_run RX3 ax CE cX3_readGroup n' (100, ρ, g_push r1 [], h1') r h := by
  obtain ⟨n1, e, h1⟩ := g_blk_ok noX3 jI_X3_readGroup tab_X3 5 n hr (c2 := (97, ρ, [(1, 1), (1, g_i ((ρ 1) + 1)), (1, ρ 0)], L, g)) rfl
  obtain ⟨n2, c', e2, h2, h3⟩ := g_step_un noX3 (i := .invokevirtual 96) (len := 3) (jI_X3_readGroup 97 _ rfl) (gnrV _) h1
  obtain ⟨r1, h1', hx, hc⟩ := g_virt_un lk_X3 nat_all lX3_ok (idx := 96) (mi := 240) (ci := 3) (na := 3) rfl (by decide) mq_X3_readSum [(1, g_i ((ρ 1) + 1)), (1, 1)] [] (ρ 0) rfl rfl h2
  subst hc
  exact ⟨n2, r1, h1', by omega, hx, h3⟩
theorem bk_X3_readGroup_100 {ax : zAx} {CE : g_E} {n : Nat} {ρ : Nat → Int} {L : List Nat} {g : Nat → Nat → Int} {r : Option g_V} {h : g_H} (hr : g_run RX3 ax CE cX3_readGroup n (100, ρ, [], L, g) r h) : ∃ n' r1 h1', n' < n ∧ CE yX3_expect cX3_expect [(0, ρ 0), (1, 22)] (L, (g_up g (g (g (ρ 0).toNat 3).toNat 7).toNat (ρ 3).toNat (g (g (ρ 0).toNat 3).toNat 5))) r1 h1' ∧ g_run RX3 ax CE cX3_readGroup n' (122, ρ, g_push r1 [], h1') r h := by
  obtain ⟨n1, e, h1⟩ := g_blk_ok noX3 jI_X3_readGroup tab_X3 10 n hr (c2 := (119, ρ, [(1, 22), (1, ρ 0)], L, (g_up g (g (g (ρ 0).toNat 3).toNat 7).toNat (ρ 3).toNat (g (g (ρ 0).toNat 3).toNat 5)))) rfl
  obtain ⟨n2, c', e2, h2, h3⟩ := g_step_un noX3 (i := .invokevirtual 78) (len := 3) (jI_X3_readGroup 119 _ rfl) (gnrV _) h1
  obtain ⟨r1, h1', hx, hc⟩ := g_virt_un lk_X3 nat_all lX3_ok (idx := 78) (mi := 224) (ci := 3) (na := 2) rfl (by decide) mq_X3_expect [(1, 22)] [] (ρ 0) rfl rfl h2
  subst hc
  exact ⟨n2, r1, h1', by omega, hx, h3⟩
theorem bk_X3_readGroup_122 {ax : zAx} {CE : g_E} {n : Nat} {ρ : Nat → Int} {L : List Nat} {g : Nat → Nat → Int} {r : Option g_V} {h : g_H} (hr : g_run RX3 ax CE cX3_readGroup n (122, ρ, [], L, g) r h) : r = none ∧ h = (L, g) := by
  obtain ⟨n1, e, h1⟩ := g_blk_ok noX3 jI_X3_readGroup tab_X3 0 n hr (c2 := (122, ρ, [], L, g)) rfl
  exact g_retv_un noX3 (jI_X3_readGroup 122 _ rfl) h1
theorem pt_X3_readGroup_0 {ax : zAx} {CE : g_E} (hCE : ∀ y cc as h r h', CE y cc as h r h' → g_ex ax y cc as h r h') {n : Nat} {ρ : Nat → Int} {L : List Nat} {g : Nat → Nat → Int} {r : Option g_V} {h : g_H} (h0 : g_run RX3 ax CE cX3_readGroup n (0, ρ, [], L, g) r h) : ((g (ρ 0).toNat 6 = 21 ∧ (((F_X3_opens (ρ 0) (ρ 1) g).1 = 0 ∧ (r = none ∧ h = (L, (F_X3_opens (ρ 0) (ρ 1) g).2))) ∨ (¬ ((F_X3_opens (ρ 0) (ρ 1) g).1 = 0) ∧ ((g (g (ρ 0).toNat 3).toNat 8 < 300 ∧ (∃ n' r1 h1', n' < n ∧ CE yX3_readEither cX3_readEither [(0, (ρ 0)), (1, g_i ((ρ 1) + 1))] (L, (g_up (F_X7_write ((F_X3_opens (ρ 0) (ρ 1) g).2 (ρ 0).toNat 3) 62 (g (g (ρ 0).toNat 3).toNat 8) (g_up (F_X3_opens (ρ 0) (ρ 1) g).2 ((F_X3_opens (ρ 0) (ρ 1) g).2 (ρ 0).toNat 3).toNat 8 (g_i (((F_X3_opens (ρ 0) (ρ 1) g).2 ((F_X3_opens (ρ 0) (ρ 1) g).2 (ρ 0).toNat 3).toNat 8) + 1)))) ((F_X7_write ((F_X3_opens (ρ 0) (ρ 1) g).2 (ρ 0).toNat 3) 62 (g (g (ρ 0).toNat 3).toNat 8) (g_up (F_X3_opens (ρ 0) (ρ 1) g).2 ((F_X3_opens (ρ 0) (ρ 1) g).2 (ρ 0).toNat 3).toNat 8 (g_i (((F_X3_opens (ρ 0) (ρ 1) g).2 ((F_X3_opens (ρ 0) (ρ 1) g).2 (ρ 0).toNat 3).toNat 8) + 1)))) ((F_X7_write ((F_X3_opens (ρ 0) (ρ 1) g).2 (ρ 0).toNat 3) 62 (g (g (ρ 0).toNat 3).toNat 8) (g_up (F_X3_opens (ρ 0) (ρ 1) g).2 ((F_X3_opens (ρ 0) (ρ 1) g).2 (ρ 0).toNat 3).toNat 8 (g_i (((F_X3_opens (ρ 0) (ρ 1) g).2 ((F_X3_opens (ρ 0) (ρ 1) g).2 (ρ 0).toNat 3).toNat 8) + 1)))) (ρ 0).toNat 3).toNat 6).toNat (g (g (ρ 0).toNat 3).toNat 8).toNat ((F_X7_write ((F_X3_opens (ρ 0) (ρ 1) g).2 (ρ 0).toNat 3) 62 (g (g (ρ 0).toNat 3).toNat 8) (g_up (F_X3_opens (ρ 0) (ρ 1) g).2 ((F_X3_opens (ρ 0) (ρ 1) g).2 (ρ 0).toNat 3).toNat 8 (g_i (((F_X3_opens (ρ 0) (ρ 1) g).2 ((F_X3_opens (ρ 0) (ρ 1) g).2 (ρ 0).toNat 3).toNat 8) + 1)))) ((F_X7_write ((F_X3_opens (ρ 0) (ρ 1) g).2 (ρ 0).toNat 3) 62 (g (g (ρ 0).toNat 3).toNat 8) (g_up (F_X3_opens (ρ 0) (ρ 1) g).2 ((F_X3_opens (ρ 0) (ρ 1) g).2 (ρ 0).toNat 3).toNat 8 (g_i (((F_X3_opens (ρ 0) (ρ 1) g).2 ((F_X3_opens (ρ 0) (ρ 1) g).2 (ρ 0).toNat 3).toNat 8) + 1)))) (ρ 0).toNat 3).toNat 5))) r1 h1' ∧ g_run RX3 ax CE cX3_readGroup n' (89, (va_up (va_up ρ 2 1) 3 (g (g (ρ 0).toNat 3).toNat 8)), g_push r1 [], h1') r h)) ∨ (¬ (g (g (ρ 0).toNat 3).toNat 8 < 300) ∧ (r = none ∧ h = (L, (F_X3_opens (ρ 0) (ρ 1) g).2))))))) ∨ (¬ (g (ρ 0).toNat 6 = 21) ∧ (((F_X3_opens (ρ 0) (ρ 1) g).1 = 0 ∧ (r = none ∧ h = (L, (F_X3_opens (ρ 0) (ρ 1) g).2))) ∨ (¬ ((F_X3_opens (ρ 0) (ρ 1) g).1 = 0) ∧ ((g (g (ρ 0).toNat 3).toNat 8 < 300 ∧ (∃ n' r1 h1', n' < n ∧ CE yX3_readSum cX3_readSum [(0, (ρ 0)), (1, g_i ((ρ 1) + 1)), (2, 1)] (L, (g_up (F_X7_write ((F_X3_opens (ρ 0) (ρ 1) g).2 (ρ 0).toNat 3) 62 (g (g (ρ 0).toNat 3).toNat 8) (g_up (F_X3_opens (ρ 0) (ρ 1) g).2 ((F_X3_opens (ρ 0) (ρ 1) g).2 (ρ 0).toNat 3).toNat 8 (g_i (((F_X3_opens (ρ 0) (ρ 1) g).2 ((F_X3_opens (ρ 0) (ρ 1) g).2 (ρ 0).toNat 3).toNat 8) + 1)))) ((F_X7_write ((F_X3_opens (ρ 0) (ρ 1) g).2 (ρ 0).toNat 3) 62 (g (g (ρ 0).toNat 3).toNat 8) (g_up (F_X3_opens (ρ 0) (ρ 1) g).2 ((F_X3_opens (ρ 0) (ρ 1) g).2 (ρ 0).toNat 3).toNat 8 (g_i (((F_X3_opens (ρ 0) (ρ 1) g).2 ((F_X3_opens (ρ 0) (ρ 1) g).2 (ρ 0).toNat 3).toNat 8) + 1)))) ((F_X7_write ((F_X3_opens (ρ 0) (ρ 1) g).2 (ρ 0).toNat 3) 62 (g (g (ρ 0).toNat 3).toNat 8) (g_up (F_X3_opens (ρ 0) (ρ 1) g).2 ((F_X3_opens (ρ 0) (ρ 1) g).2 (ρ 0).toNat 3).toNat 8 (g_i (((F_X3_opens (ρ 0) (ρ 1) g).2 ((F_X3_opens (ρ 0) (ρ 1) g).2 (ρ 0).toNat 3).toNat 8) + 1)))) (ρ 0).toNat 3).toNat 6).toNat (g (g (ρ 0).toNat 3).toNat 8).toNat ((F_X7_write ((F_X3_opens (ρ 0) (ρ 1) g).2 (ρ 0).toNat 3) 62 (g (g (ρ 0).toNat 3).toNat 8) (g_up (F_X3_opens (ρ 0) (ρ 1) g).2 ((F_X3_opens (ρ 0) (ρ 1) g).2 (ρ 0).toNat 3).toNat 8 (g_i (((F_X3_opens (ρ 0) (ρ 1) g).2 ((F_X3_opens (ρ 0) (ρ 1) g).2 (ρ 0).toNat 3).toNat 8) + 1)))) ((F_X7_write ((F_X3_opens (ρ 0) (ρ 1) g).2 (ρ 0).toNat 3) 62 (g (g (ρ 0).toNat 3).toNat 8) (g_up (F_X3_opens (ρ 0) (ρ 1) g).2 ((F_X3_opens (ρ 0) (ρ 1) g).2 (ρ 0).toNat 3).toNat 8 (g_i (((F_X3_opens (ρ 0) (ρ 1) g).2 ((F_X3_opens (ρ 0) (ρ 1) g).2 (ρ 0).toNat 3).toNat 8) + 1)))) (ρ 0).toNat 3).toNat 5))) r1 h1' ∧ g_run RX3 ax CE cX3_readGroup n' (100, (va_up (va_up ρ 2 0) 3 (g (g (ρ 0).toNat 3).toNat 8)), g_push r1 [], h1') r h)) ∨ (¬ (g (g (ρ 0).toNat 3).toNat 8 < 300) ∧ (r = none ∧ h = (L, (F_X3_opens (ρ 0) (ρ 1) g).2)))))))) := by
  obtain ⟨n1, l1, h1⟩ := bk_X3_readGroup_0 h0
  rcases h1 with ⟨c1, h1⟩ | ⟨c1, h1⟩
  · refine Or.inl ⟨c1, ?_⟩
    obtain ⟨n2, l2, h2⟩ := bk_X3_readGroup_9 h1
    obtain ⟨n3, r3, k3, l3, x3, h3⟩ := bk_X3_readGroup_14 h2
    obtain ⟨e3, d3⟩ := f_X3_opens (hCE _ _ _ _ _ _ x3)
    subst e3
    subst d3
    obtain ⟨n4, l4, h4⟩ := bk_X3_readGroup_28 h3
    rcases h4 with ⟨c4, h4⟩ | ⟨c4, h4⟩
    · refine Or.inl ⟨c4, ?_⟩
      obtain ⟨e5, d5⟩ := bk_X3_readGroup_38 h4
      exact ⟨e5, d5⟩
    · refine Or.inr ⟨c4, ?_⟩
      obtain ⟨n6, l6, h6⟩ := bk_X3_readGroup_31 h4
      rcases h6 with ⟨c6, h6⟩ | ⟨c6, h6⟩
      · refine Or.inl ⟨c6, ?_⟩
        obtain ⟨n7, r7, k7, l7, x7, h7⟩ := bk_X3_readGroup_39 h6
        obtain ⟨e7, d7⟩ := f_X7_write (hCE _ _ _ _ _ _ x7)
        subst e7
        subst d7
        obtain ⟨n8, l8, h8⟩ := bk_X3_readGroup_62 h7
        rcases h8 with ⟨c8, h8⟩ | ⟨c8, h8⟩
        · exact absurd c8 (show ¬ ((1 : Int) = 0) from by decide)
        · obtain ⟨n9, r9, k9, l9, x9, h9⟩ := bk_X3_readGroup_82 h8
          exact ⟨n9, r9, k9, by omega, x9, h9⟩
      · refine Or.inr ⟨c6, ?_⟩
        obtain ⟨e10, d10⟩ := bk_X3_readGroup_38 h6
        exact ⟨e10, d10⟩
  · refine Or.inr ⟨c1, ?_⟩
    obtain ⟨n11, l11, h11⟩ := bk_X3_readGroup_13 h1
    obtain ⟨n12, r12, k12, l12, x12, h12⟩ := bk_X3_readGroup_14 h11
    obtain ⟨e12, d12⟩ := f_X3_opens (hCE _ _ _ _ _ _ x12)
    subst e12
    subst d12
    obtain ⟨n13, l13, h13⟩ := bk_X3_readGroup_28 h12
    rcases h13 with ⟨c13, h13⟩ | ⟨c13, h13⟩
    · refine Or.inl ⟨c13, ?_⟩
      obtain ⟨e14, d14⟩ := bk_X3_readGroup_38 h13
      exact ⟨e14, d14⟩
    · refine Or.inr ⟨c13, ?_⟩
      obtain ⟨n15, l15, h15⟩ := bk_X3_readGroup_31 h13
      rcases h15 with ⟨c15, h15⟩ | ⟨c15, h15⟩
      · refine Or.inl ⟨c15, ?_⟩
        obtain ⟨n16, r16, k16, l16, x16, h16⟩ := bk_X3_readGroup_39 h15
        obtain ⟨e16, d16⟩ := f_X7_write (hCE _ _ _ _ _ _ x16)
        subst e16
        subst d16
        obtain ⟨n17, l17, h17⟩ := bk_X3_readGroup_62 h16
        rcases h17 with ⟨c17, h17⟩ | ⟨c17, h17⟩
        · obtain ⟨n18, r18, k18, l18, x18, h18⟩ := bk_X3_readGroup_92 h17
          exact ⟨n18, r18, k18, by omega, x18, h18⟩
        · exact absurd (show (0 : Int) = 0 from by decide) c17
      · refine Or.inr ⟨c15, ?_⟩
        obtain ⟨e19, d19⟩ := bk_X3_readGroup_38 h15
        exact ⟨e19, d19⟩
theorem pt_X3_readGroup_89 {ax : zAx} {CE : g_E} (hCE : ∀ y cc as h r h', CE y cc as h r h' → g_ex ax y cc as h r h') {n : Nat} {ρ : Nat → Int} {L : List Nat} {g : Nat → Nat → Int} {r : Option g_V} {h : g_H} (h0 : g_run RX3 ax CE cX3_readGroup n (89, ρ, [], L, g) r h) : (r = none ∧ h = (L, (F_X3_expect (ρ 0) 22 (g_up g (g (g (ρ 0).toNat 3).toNat 7).toNat (ρ 3).toNat (g (g (ρ 0).toNat 3).toNat 5))))) := by
  obtain ⟨n1, l1, h1⟩ := bk_X3_readGroup_89 h0
  obtain ⟨n2, r2, k2, l2, x2, h2⟩ := bk_X3_readGroup_100 h1
  obtain ⟨e2, d2⟩ := f_X3_expect (hCE _ _ _ _ _ _ x2)
  subst e2
  subst d2
  obtain ⟨e3, d3⟩ := bk_X3_readGroup_122 h2
  exact ⟨e3, d3⟩
theorem pt_X3_readGroup_100 {ax : zAx} {CE : g_E} (hCE : ∀ y cc as h r h', CE y cc as h r h' → g_ex ax y cc as h r h') {n : Nat} {ρ : Nat → Int} {L : List Nat} {g : Nat → Nat → Int} {r : Option g_V} {h : g_H} (h0 : g_run RX3 ax CE cX3_readGroup n (100, ρ, [], L, g) r h) : (r = none ∧ h = (L, (F_X3_expect (ρ 0) 22 (g_up g (g (g (ρ 0).toNat 3).toNat 7).toNat (ρ 3).toNat (g (g (ρ 0).toNat 3).toNat 5))))) := by
  obtain ⟨n1, r1, k1, l1, x1, h1⟩ := bk_X3_readGroup_100 h0
  obtain ⟨e1, d1⟩ := f_X3_expect (hCE _ _ _ _ _ _ x1)
  subst e1
  subst d1
  obtain ⟨e2, d2⟩ := bk_X3_readGroup_122 h1
  exact ⟨e2, d2⟩

def iX7_init : List (Nat × Instr × Nat) := [(0, .aload_n 0, 1), (1, .invokespecial 3, 3), (4, .aload_n 0, 1), (5, .bipush 24, 2), (7, .newarray .int, 2), (9, .putfield 9, 3), (12, .aload_n 0, 1), (13, .bipush 72, 2), (15, .newarray .int, 2), (17, .putfield 15, 3), (20, .aload_n 0, 1), (21, .sipush 300, 3), (24, .newarray .int, 2), (26, .putfield 18, 3), (29, .aload_n 0, 1), (30, .sipush 300, 3), (33, .newarray .int, 2), (35, .putfield 21, 3), (38, .aload_n 0, 1), (39, .sipush 300, 3), (42, .newarray .int, 2), (44, .putfield 24, 3), (47, .aload_n 0, 1), (48, .sipush 300, 3), (51, .newarray .int, 2), (53, .putfield 27, 3), (56, .aload_n 0, 1), (57, .iconst 5, 1), (58, .newarray .int, 2), (60, .putfield 30, 3), (63, .aload_n 0, 1), (64, .iconst 5, 1), (65, .newarray .int, 2), (67, .putfield 33, 3), (70, .aload_n 0, 1), (71, .iconst 5, 1), (72, .newarray .int, 2), (74, .putfield 36, 3), (77, .aload_n 0, 1), (78, .iconst 5, 1), (79, .newarray .int, 2), (81, .putfield 39, 3), (84, .return_, 1)]
theorem jX7_init : ∀ e ∈ iX7_init, decode cX7_init e.1 = .ok e.2 := by decide +kernel
theorem jI_X7_init : ∀ (pc : Nat) (q : Instr × Nat), lkp iX7_init pc = some q → decode cX7_init pc = .ok q := fun pc q hq => jX7_init (pc, q) (lkp_in iX7_init hq)
theorem bk_X7_init_0 {ax : zAx} {CE : g_E} (hCE : ∀ y cc as h r h', CE y cc as h r h' → g_ex ax y cc as h r h') {n : Nat} {ρ : Nat → Int} {L : List Nat} {g : Nat → Nat → Int} {r : Option g_V} {h : g_H} (hr : g_run RX7 ax CE cX7_init n (0, ρ, [], L, g) r h) : ∃ n', n' < n ∧ g_run RX7 ax CE cX7_init n' (4, ρ, [], L, g) r h := by
  obtain ⟨n1, e, h1⟩ := g_blk_ok noX7 jI_X7_init tab_X7c 1 n hr (c2 := (1, ρ, [(1, ρ 0)], L, g)) rfl
  obtain ⟨n2, c', e2, h2, h3⟩ := g_step_un noX7 (i := .invokespecial 3) (len := 3) (jI_X7_init 1 _ rfl) (gnrI _) h1
  have hc := g_obj_un hCE sp_X7_3 h2
  subst hc
  exact ⟨n2, by omega, h3⟩
theorem bk_X7_init_4 {ax : zAx} {CE : g_E} {n : Nat} {ρ : Nat → Int} {L : List Nat} {g : Nat → Nat → Int} {r : Option g_V} {h : g_H} (hr : g_run RX7 ax CE cX7_init n (4, ρ, [], L, g) r h) : ∃ (n' q : Nat), n' < n ∧ (q ∉ L ∧ q ≠ ax.2.2 ∧ q ≠ ax.1 0 ∧ q ≠ ax.1 1) ∧ g_run RX7 ax CE cX7_init n' (9, ρ, [(1, (q : Int)), (1, ρ 0)], L ++ [q], g_upr g q (fun _ => 0)) r h := by
  obtain ⟨n1, e, h1⟩ := g_blk_ok noX7 jI_X7_init tab_X7c 2 n hr (c2 := (7, ρ, [(1, 24), (1, ρ 0)], L, g)) rfl
  obtain ⟨n2, c', e2, h2, h3⟩ := g_step_un noX7 (i := .newarray .int) (len := 2) (jI_X7_init 7 _ rfl) gnrA h1
  obtain ⟨q, q1, q2, q3, q4, hc⟩ := h2
  subst hc
  exact ⟨n2, q, by omega, ⟨q1, q2, q3, q4⟩, h3⟩
theorem bk_X7_init_9 {ax : zAx} {CE : g_E} {n : Nat} {ρ : Nat → Int} {s0 : Int} {s1 : Int} {L : List Nat} {g : Nat → Nat → Int} {r : Option g_V} {h : g_H} (hr : g_run RX7 ax CE cX7_init n (9, ρ, [(1, s0), (1, s1)], L, g) r h) : ∃ (n' q : Nat), n' < n ∧ (q ∉ L ∧ q ≠ ax.2.2 ∧ q ≠ ax.1 0 ∧ q ≠ ax.1 1) ∧ g_run RX7 ax CE cX7_init n' (17, ρ, [(1, (q : Int)), (1, ρ 0)], L ++ [q], g_upr (g_up g s1.toNat 1 s0) q (fun _ => 0)) r h := by
  obtain ⟨n1, e, h1⟩ := g_blk_ok noX7 jI_X7_init tab_X7c 3 n hr (c2 := (15, ρ, [(1, 72), (1, ρ 0)], L, (g_up g s1.toNat 1 s0))) rfl
  obtain ⟨n2, c', e2, h2, h3⟩ := g_step_un noX7 (i := .newarray .int) (len := 2) (jI_X7_init 15 _ rfl) gnrA h1
  obtain ⟨q, q1, q2, q3, q4, hc⟩ := h2
  subst hc
  exact ⟨n2, q, by omega, ⟨q1, q2, q3, q4⟩, h3⟩
theorem bk_X7_init_17 {ax : zAx} {CE : g_E} {n : Nat} {ρ : Nat → Int} {s0 : Int} {s1 : Int} {L : List Nat} {g : Nat → Nat → Int} {r : Option g_V} {h : g_H} (hr : g_run RX7 ax CE cX7_init n (17, ρ, [(1, s0), (1, s1)], L, g) r h) : ∃ (n' q : Nat), n' < n ∧ (q ∉ L ∧ q ≠ ax.2.2 ∧ q ≠ ax.1 0 ∧ q ≠ ax.1 1) ∧ g_run RX7 ax CE cX7_init n' (26, ρ, [(1, (q : Int)), (1, ρ 0)], L ++ [q], g_upr (g_up g s1.toNat 2 s0) q (fun _ => 0)) r h := by
  obtain ⟨n1, e, h1⟩ := g_blk_ok noX7 jI_X7_init tab_X7c 3 n hr (c2 := (24, ρ, [(1, 300), (1, ρ 0)], L, (g_up g s1.toNat 2 s0))) rfl
  obtain ⟨n2, c', e2, h2, h3⟩ := g_step_un noX7 (i := .newarray .int) (len := 2) (jI_X7_init 24 _ rfl) gnrA h1
  obtain ⟨q, q1, q2, q3, q4, hc⟩ := h2
  subst hc
  exact ⟨n2, q, by omega, ⟨q1, q2, q3, q4⟩, h3⟩
theorem bk_X7_init_26 {ax : zAx} {CE : g_E} {n : Nat} {ρ : Nat → Int} {s0 : Int} {s1 : Int} {L : List Nat} {g : Nat → Nat → Int} {r : Option g_V} {h : g_H} (hr : g_run RX7 ax CE cX7_init n (26, ρ, [(1, s0), (1, s1)], L, g) r h) : ∃ (n' q : Nat), n' < n ∧ (q ∉ L ∧ q ≠ ax.2.2 ∧ q ≠ ax.1 0 ∧ q ≠ ax.1 1) ∧ g_run RX7 ax CE cX7_init n' (35, ρ, [(1, (q : Int)), (1, ρ 0)], L ++ [q], g_upr (g_up g s1.toNat 3 s0) q (fun _ => 0)) r h := by
  obtain ⟨n1, e, h1⟩ := g_blk_ok noX7 jI_X7_init tab_X7c 3 n hr (c2 := (33, ρ, [(1, 300), (1, ρ 0)], L, (g_up g s1.toNat 3 s0))) rfl
  obtain ⟨n2, c', e2, h2, h3⟩ := g_step_un noX7 (i := .newarray .int) (len := 2) (jI_X7_init 33 _ rfl) gnrA h1
  obtain ⟨q, q1, q2, q3, q4, hc⟩ := h2
  subst hc
  exact ⟨n2, q, by omega, ⟨q1, q2, q3, q4⟩, h3⟩
theorem bk_X7_init_35 {ax : zAx} {CE : g_E} {n : Nat} {ρ : Nat → Int} {s0 : Int} {s1 : Int} {L : List Nat} {g : Nat → Nat → Int} {r : Option g_V} {h : g_H} (hr : g_run RX7 ax CE cX7_init n (35, ρ, [(1, s0), (1, s1)], L, g) r h) : ∃ (n' q : Nat), n' < n ∧ (q ∉ L ∧ q ≠ ax.2.2 ∧ q ≠ ax.1 0 ∧ q ≠ ax.1 1) ∧ g_run RX7 ax CE cX7_init n' (44, ρ, [(1, (q : Int)), (1, ρ 0)], L ++ [q], g_upr (g_up g s1.toNat 4 s0) q (fun _ => 0)) r h := by
  obtain ⟨n1, e, h1⟩ := g_blk_ok noX7 jI_X7_init tab_X7c 3 n hr (c2 := (42, ρ, [(1, 300), (1, ρ 0)], L, (g_up g s1.toNat 4 s0))) rfl
  obtain ⟨n2, c', e2, h2, h3⟩ := g_step_un noX7 (i := .newarray .int) (len := 2) (jI_X7_init 42 _ rfl) gnrA h1
  obtain ⟨q, q1, q2, q3, q4, hc⟩ := h2
  subst hc
  exact ⟨n2, q, by omega, ⟨q1, q2, q3, q4⟩, h3⟩
theorem bk_X7_init_44 {ax : zAx} {CE : g_E} {n : Nat} {ρ : Nat → Int} {s0 : Int} {s1 : Int} {L : List Nat} {g : Nat → Nat → Int} {r : Option g_V} {h : g_H} (hr : g_run RX7 ax CE cX7_init n (44, ρ, [(1, s0), (1, s1)], L, g) r h) : ∃ (n' q : Nat), n' < n ∧ (q ∉ L ∧ q ≠ ax.2.2 ∧ q ≠ ax.1 0 ∧ q ≠ ax.1 1) ∧ g_run RX7 ax CE cX7_init n' (53, ρ, [(1, (q : Int)), (1, ρ 0)], L ++ [q], g_upr (g_up g s1.toNat 6 s0) q (fun _ => 0)) r h := by
  obtain ⟨n1, e, h1⟩ := g_blk_ok noX7 jI_X7_init tab_X7c 3 n hr (c2 := (51, ρ, [(1, 300), (1, ρ 0)], L, (g_up g s1.toNat 6 s0))) rfl
  obtain ⟨n2, c', e2, h2, h3⟩ := g_step_un noX7 (i := .newarray .int) (len := 2) (jI_X7_init 51 _ rfl) gnrA h1
  obtain ⟨q, q1, q2, q3, q4, hc⟩ := h2
  subst hc
  exact ⟨n2, q, by omega, ⟨q1, q2, q3, q4⟩, h3⟩
theorem bk_X7_init_53 {ax : zAx} {CE : g_E} {n : Nat} {ρ : Nat → Int} {s0 : Int} {s1 : Int} {L : List Nat} {g : Nat → Nat → Int} {r : Option g_V} {h : g_H} (hr : g_run RX7 ax CE cX7_init n (53, ρ, [(1, s0), (1, s1)], L, g) r h) : ∃ (n' q : Nat), n' < n ∧ (q ∉ L ∧ q ≠ ax.2.2 ∧ q ≠ ax.1 0 ∧ q ≠ ax.1 1) ∧ g_run RX7 ax CE cX7_init n' (60, ρ, [(1, (q : Int)), (1, ρ 0)], L ++ [q], g_upr (g_up g s1.toNat 7 s0) q (fun _ => 0)) r h := by
  obtain ⟨n1, e, h1⟩ := g_blk_ok noX7 jI_X7_init tab_X7c 3 n hr (c2 := (58, ρ, [(1, 5), (1, ρ 0)], L, (g_up g s1.toNat 7 s0))) rfl
  obtain ⟨n2, c', e2, h2, h3⟩ := g_step_un noX7 (i := .newarray .int) (len := 2) (jI_X7_init 58 _ rfl) gnrA h1
  obtain ⟨q, q1, q2, q3, q4, hc⟩ := h2
  subst hc
  exact ⟨n2, q, by omega, ⟨q1, q2, q3, q4⟩, h3⟩
theorem bk_X7_init_60 {ax : zAx} {CE : g_E} {n : Nat} {ρ : Nat → Int} {s0 : Int} {s1 : Int} {L : List Nat} {g : Nat → Nat → Int} {r : Option g_V} {h : g_H} (hr : g_run RX7 ax CE cX7_init n (60, ρ, [(1, s0), (1, s1)], L, g) r h) : ∃ (n' q : Nat), n' < n ∧ (q ∉ L ∧ q ≠ ax.2.2 ∧ q ≠ ax.1 0 ∧ q ≠ ax.1 1) ∧ g_run RX7 ax CE cX7_init n' (67, ρ, [(1, (q : Int)), (1, ρ 0)], L ++ [q], g_upr (g_up g s1.toNat 9 s0) q (fun _ => 0)) r h := by
  obtain ⟨n1, e, h1⟩ := g_blk_ok noX7 jI_X7_init tab_X7c 3 n hr (c2 := (65, ρ, [(1, 5), (1, ρ 0)], L, (g_up g s1.toNat 9 s0))) rfl
  obtain ⟨n2, c', e2, h2, h3⟩ := g_step_un noX7 (i := .newarray .int) (len := 2) (jI_X7_init 65 _ rfl) gnrA h1
  obtain ⟨q, q1, q2, q3, q4, hc⟩ := h2
  subst hc
  exact ⟨n2, q, by omega, ⟨q1, q2, q3, q4⟩, h3⟩
theorem bk_X7_init_67 {ax : zAx} {CE : g_E} {n : Nat} {ρ : Nat → Int} {s0 : Int} {s1 : Int} {L : List Nat} {g : Nat → Nat → Int} {r : Option g_V} {h : g_H} (hr : g_run RX7 ax CE cX7_init n (67, ρ, [(1, s0), (1, s1)], L, g) r h) : ∃ (n' q : Nat), n' < n ∧ (q ∉ L ∧ q ≠ ax.2.2 ∧ q ≠ ax.1 0 ∧ q ≠ ax.1 1) ∧ g_run RX7 ax CE cX7_init n' (74, ρ, [(1, (q : Int)), (1, ρ 0)], L ++ [q], g_upr (g_up g s1.toNat 10 s0) q (fun _ => 0)) r h := by
  obtain ⟨n1, e, h1⟩ := g_blk_ok noX7 jI_X7_init tab_X7c 3 n hr (c2 := (72, ρ, [(1, 5), (1, ρ 0)], L, (g_up g s1.toNat 10 s0))) rfl
  obtain ⟨n2, c', e2, h2, h3⟩ := g_step_un noX7 (i := .newarray .int) (len := 2) (jI_X7_init 72 _ rfl) gnrA h1
  obtain ⟨q, q1, q2, q3, q4, hc⟩ := h2
  subst hc
  exact ⟨n2, q, by omega, ⟨q1, q2, q3, q4⟩, h3⟩
theorem bk_X7_init_74 {ax : zAx} {CE : g_E} {n : Nat} {ρ : Nat → Int} {s0 : Int} {s1 : Int} {L : List Nat} {g : Nat → Nat → Int} {r : Option g_V} {h : g_H} (hr : g_run RX7 ax CE cX7_init n (74, ρ, [(1, s0), (1, s1)], L, g) r h) : ∃ (n' q : Nat), n' < n ∧ (q ∉ L ∧ q ≠ ax.2.2 ∧ q ≠ ax.1 0 ∧ q ≠ ax.1 1) ∧ g_run RX7 ax CE cX7_init n' (81, ρ, [(1, (q : Int)), (1, ρ 0)], L ++ [q], g_upr (g_up g s1.toNat 11 s0) q (fun _ => 0)) r h := by
  obtain ⟨n1, e, h1⟩ := g_blk_ok noX7 jI_X7_init tab_X7c 3 n hr (c2 := (79, ρ, [(1, 5), (1, ρ 0)], L, (g_up g s1.toNat 11 s0))) rfl
  obtain ⟨n2, c', e2, h2, h3⟩ := g_step_un noX7 (i := .newarray .int) (len := 2) (jI_X7_init 79 _ rfl) gnrA h1
  obtain ⟨q, q1, q2, q3, q4, hc⟩ := h2
  subst hc
  exact ⟨n2, q, by omega, ⟨q1, q2, q3, q4⟩, h3⟩
theorem bk_X7_init_81 {ax : zAx} {CE : g_E} {n : Nat} {ρ : Nat → Int} {s0 : Int} {s1 : Int} {L : List Nat} {g : Nat → Nat → Int} {r : Option g_V} {h : g_H} (hr : g_run RX7 ax CE cX7_init n (81, ρ, [(1, s0), (1, s1)], L, g) r h) : r = none ∧ h = (L, (g_up g s1.toNat 12 s0)) := by
  obtain ⟨n1, e, h1⟩ := g_blk_ok noX7 jI_X7_init tab_X7c 1 n hr (c2 := (84, ρ, [], L, (g_up g s1.toNat 12 s0))) rfl
  exact g_retv_un noX7 (jI_X7_init 84 _ rfl) h1
theorem pt_X7_init_0 {ax : zAx} {CE : g_E} (hCE : ∀ y cc as h r h', CE y cc as h r h' → g_ex ax y cc as h r h') {n : Nat} {ρ : Nat → Int} {L : List Nat} {g : Nat → Nat → Int} {r : Option g_V} {h : g_H} (h0 : g_run RX7 ax CE cX7_init n (0, ρ, [], L, g) r h) : (∃ (n' q : Nat), n' < n ∧ (q ∉ L ∧ q ≠ ax.2.2 ∧ q ≠ ax.1 0 ∧ q ≠ ax.1 1) ∧ g_run RX7 ax CE cX7_init n' (9, ρ, [(1, (q : Int)), (1, (ρ 0))], L ++ [q], g_upr g q (fun _ => 0)) r h) := by
  obtain ⟨n1, l1, h1⟩ := bk_X7_init_0 hCE h0
  obtain ⟨n2, q2, l2, e2, h2⟩ := bk_X7_init_4 h1
  exact ⟨n2, q2, by omega, e2, h2⟩
theorem pt_X7_init_9 {ax : zAx} {CE : g_E} (hCE : ∀ y cc as h r h', CE y cc as h r h' → g_ex ax y cc as h r h') {n : Nat} {ρ : Nat → Int} {s0 : Int} {s1 : Int} {L : List Nat} {g : Nat → Nat → Int} {r : Option g_V} {h : g_H} (h0 : g_run RX7 ax CE cX7_init n (9, ρ, [(1, s0), (1, s1)], L, g) r h) : (∃ (n' q : Nat), n' < n ∧ (q ∉ L ∧ q ≠ ax.2.2 ∧ q ≠ ax.1 0 ∧ q ≠ ax.1 1) ∧ g_run RX7 ax CE cX7_init n' (17, ρ, [(1, (q : Int)), (1, (ρ 0))], L ++ [q], g_upr (g_up g s1.toNat 1 s0) q (fun _ => 0)) r h) := by
  obtain ⟨n1, q1, l1, e1, h1⟩ := bk_X7_init_9 h0
  exact ⟨n1, q1, by omega, e1, h1⟩
theorem pt_X7_init_17 {ax : zAx} {CE : g_E} (hCE : ∀ y cc as h r h', CE y cc as h r h' → g_ex ax y cc as h r h') {n : Nat} {ρ : Nat → Int} {s0 : Int} {s1 : Int} {L : List Nat} {g : Nat → Nat → Int} {r : Option g_V} {h : g_H} (h0 : g_run RX7 ax CE cX7_init n (17, ρ, [(1, s0), (1, s1)], L, g) r h) : (∃ (n' q : Nat), n' < n ∧ (q ∉ L ∧ q ≠ ax.2.2 ∧ q ≠ ax.1 0 ∧ q ≠ ax.1 1) ∧ g_run RX7 ax CE cX7_init n' (26, ρ, [(1, (q : Int)), (1, (ρ 0))], L ++ [q], g_upr (g_up g s1.toNat 2 s0) q (fun _ => 0)) r h) := by
  obtain ⟨n1, q1, l1, e1, h1⟩ := bk_X7_init_17 h0
  exact ⟨n1, q1, by omega, e1, h1⟩
theorem pt_X7_init_26 {ax : zAx} {CE : g_E} (hCE : ∀ y cc as h r h', CE y cc as h r h' → g_ex ax y cc as h r h') {n : Nat} {ρ : Nat → Int} {s0 : Int} {s1 : Int} {L : List Nat} {g : Nat → Nat → Int} {r : Option g_V} {h : g_H} (h0 : g_run RX7 ax CE cX7_init n (26, ρ, [(1, s0), (1, s1)], L, g) r h) : (∃ (n' q : Nat), n' < n ∧ (q ∉ L ∧ q ≠ ax.2.2 ∧ q ≠ ax.1 0 ∧ q ≠ ax.1 1) ∧ g_run RX7 ax CE cX7_init n' (35, ρ, [(1, (q : Int)), (1, (ρ 0))], L ++ [q], g_upr (g_up g s1.toNat 3 s0) q (fun _ => 0)) r h) := by
  obtain ⟨n1, q1, l1, e1, h1⟩ := bk_X7_init_26 h0
  exact ⟨n1, q1, by omega, e1, h1⟩
theorem pt_X7_init_35 {ax : zAx} {CE : g_E} (hCE : ∀ y cc as h r h', CE y cc as h r h' → g_ex ax y cc as h r h') {n : Nat} {ρ : Nat → Int} {s0 : Int} {s1 : Int} {L : List Nat} {g : Nat → Nat → Int} {r : Option g_V} {h : g_H} (h0 : g_run RX7 ax CE cX7_init n (35, ρ, [(1, s0), (1, s1)], L, g) r h) : (∃ (n' q : Nat), n' < n ∧ (q ∉ L ∧ q ≠ ax.2.2 ∧ q ≠ ax.1 0 ∧ q ≠ ax.1 1) ∧ g_run RX7 ax CE cX7_init n' (44, ρ, [(1, (q : Int)), (1, (ρ 0))], L ++ [q], g_upr (g_up g s1.toNat 4 s0) q (fun _ => 0)) r h) := by
  obtain ⟨n1, q1, l1, e1, h1⟩ := bk_X7_init_35 h0
  exact ⟨n1, q1, by omega, e1, h1⟩
theorem pt_X7_init_44 {ax : zAx} {CE : g_E} (hCE : ∀ y cc as h r h', CE y cc as h r h' → g_ex ax y cc as h r h') {n : Nat} {ρ : Nat → Int} {s0 : Int} {s1 : Int} {L : List Nat} {g : Nat → Nat → Int} {r : Option g_V} {h : g_H} (h0 : g_run RX7 ax CE cX7_init n (44, ρ, [(1, s0), (1, s1)], L, g) r h) : (∃ (n' q : Nat), n' < n ∧ (q ∉ L ∧ q ≠ ax.2.2 ∧ q ≠ ax.1 0 ∧ q ≠ ax.1 1) ∧ g_run RX7 ax CE cX7_init n' (53, ρ, [(1, (q : Int)), (1, (ρ 0))], L ++ [q], g_upr (g_up g s1.toNat 6 s0) q (fun _ => 0)) r h) := by
  obtain ⟨n1, q1, l1, e1, h1⟩ := bk_X7_init_44 h0
  exact ⟨n1, q1, by omega, e1, h1⟩
theorem pt_X7_init_53 {ax : zAx} {CE : g_E} (hCE : ∀ y cc as h r h', CE y cc as h r h' → g_ex ax y cc as h r h') {n : Nat} {ρ : Nat → Int} {s0 : Int} {s1 : Int} {L : List Nat} {g : Nat → Nat → Int} {r : Option g_V} {h : g_H} (h0 : g_run RX7 ax CE cX7_init n (53, ρ, [(1, s0), (1, s1)], L, g) r h) : (∃ (n' q : Nat), n' < n ∧ (q ∉ L ∧ q ≠ ax.2.2 ∧ q ≠ ax.1 0 ∧ q ≠ ax.1 1) ∧ g_run RX7 ax CE cX7_init n' (60, ρ, [(1, (q : Int)), (1, (ρ 0))], L ++ [q], g_upr (g_up g s1.toNat 7 s0) q (fun _ => 0)) r h) := by
  obtain ⟨n1, q1, l1, e1, h1⟩ := bk_X7_init_53 h0
  exact ⟨n1, q1, by omega, e1, h1⟩
theorem pt_X7_init_60 {ax : zAx} {CE : g_E} (hCE : ∀ y cc as h r h', CE y cc as h r h' → g_ex ax y cc as h r h') {n : Nat} {ρ : Nat → Int} {s0 : Int} {s1 : Int} {L : List Nat} {g : Nat → Nat → Int} {r : Option g_V} {h : g_H} (h0 : g_run RX7 ax CE cX7_init n (60, ρ, [(1, s0), (1, s1)], L, g) r h) : (∃ (n' q : Nat), n' < n ∧ (q ∉ L ∧ q ≠ ax.2.2 ∧ q ≠ ax.1 0 ∧ q ≠ ax.1 1) ∧ g_run RX7 ax CE cX7_init n' (67, ρ, [(1, (q : Int)), (1, (ρ 0))], L ++ [q], g_upr (g_up g s1.toNat 9 s0) q (fun _ => 0)) r h) := by
  obtain ⟨n1, q1, l1, e1, h1⟩ := bk_X7_init_60 h0
  exact ⟨n1, q1, by omega, e1, h1⟩
theorem pt_X7_init_67 {ax : zAx} {CE : g_E} (hCE : ∀ y cc as h r h', CE y cc as h r h' → g_ex ax y cc as h r h') {n : Nat} {ρ : Nat → Int} {s0 : Int} {s1 : Int} {L : List Nat} {g : Nat → Nat → Int} {r : Option g_V} {h : g_H} (h0 : g_run RX7 ax CE cX7_init n (67, ρ, [(1, s0), (1, s1)], L, g) r h) : (∃ (n' q : Nat), n' < n ∧ (q ∉ L ∧ q ≠ ax.2.2 ∧ q ≠ ax.1 0 ∧ q ≠ ax.1 1) ∧ g_run RX7 ax CE cX7_init n' (74, ρ, [(1, (q : Int)), (1, (ρ 0))], L ++ [q], g_upr (g_up g s1.toNat 10 s0) q (fun _ => 0)) r h) := by
  obtain ⟨n1, q1, l1, e1, h1⟩ := bk_X7_init_67 h0
  exact ⟨n1, q1, by omega, e1, h1⟩
theorem pt_X7_init_74 {ax : zAx} {CE : g_E} (hCE : ∀ y cc as h r h', CE y cc as h r h' → g_ex ax y cc as h r h') {n : Nat} {ρ : Nat → Int} {s0 : Int} {s1 : Int} {L : List Nat} {g : Nat → Nat → Int} {r : Option g_V} {h : g_H} (h0 : g_run RX7 ax CE cX7_init n (74, ρ, [(1, s0), (1, s1)], L, g) r h) : (∃ (n' q : Nat), n' < n ∧ (q ∉ L ∧ q ≠ ax.2.2 ∧ q ≠ ax.1 0 ∧ q ≠ ax.1 1) ∧ g_run RX7 ax CE cX7_init n' (81, ρ, [(1, (q : Int)), (1, (ρ 0))], L ++ [q], g_upr (g_up g s1.toNat 11 s0) q (fun _ => 0)) r h) := by
  obtain ⟨n1, q1, l1, e1, h1⟩ := bk_X7_init_74 h0
  exact ⟨n1, q1, by omega, e1, h1⟩
theorem pt_X7_init_81 {ax : zAx} {CE : g_E} (hCE : ∀ y cc as h r h', CE y cc as h r h' → g_ex ax y cc as h r h') {n : Nat} {ρ : Nat → Int} {s0 : Int} {s1 : Int} {L : List Nat} {g : Nat → Nat → Int} {r : Option g_V} {h : g_H} (h0 : g_run RX7 ax CE cX7_init n (81, ρ, [(1, s0), (1, s1)], L, g) r h) : (r = none ∧ h = (L, (g_up g s1.toNat 12 s0))) := by
  obtain ⟨e1, d1⟩ := bk_X7_init_81 h0
  exact ⟨e1, d1⟩

theorem jI_X12_readText : ∀ (pc : Nat) (q : Instr × Nat), lkp iX12_readText pc = some q → decode cX12_readText pc = .ok q := fun pc q hq => jX12_readText (pc, q) (lkp_in iX12_readText hq)
theorem bk_X12_readText_0 {ax : zAx} {CE : g_E} {n : Nat} {ρ : Nat → Int} {L : List Nat} {g : Nat → Nat → Int} {r : Option g_V} {h : g_H} (hr : g_run RX12 ax CE cX12_readText n (0, ρ, [], L, g) r h) : ∃ n' r1 h1', n' < n ∧ CE yX12_nextToken cX12_nextToken [(0, ρ 0)] (L, (g_up (g_up (g_up (g_up (g_up g (ρ 0).toNat 12 (g_i (705 * (g (g (ρ 0).toNat 0).toNat 7)))) ((g_up g (ρ 0).toNat 12 (g_i (705 * (g (g (ρ 0).toNat 0).toNat 7)))) (ρ 0).toNat 2).toNat ((g_up g (ρ 0).toNat 12 (g_i (705 * (g (g (ρ 0).toNat 0).toNat 7)))) (ρ 0).toNat 12).toNat 0) (ρ 0).toNat 13 0) (ρ 0).toNat 21 0) (ρ 0).toNat 7 0)) r1 h1' ∧ g_run RX12 ax CE cX12_readText n' (44, ρ, g_push r1 [], h1') r h := by
  obtain ⟨n1, e, h1⟩ := g_blk_ok noX12 jI_X12_readText tab_X12 24 n hr (c2 := (41, ρ, [(1, ρ 0)], L, (g_up (g_up (g_up (g_up (g_up g (ρ 0).toNat 12 (g_i (705 * (g (g (ρ 0).toNat 0).toNat 7)))) ((g_up g (ρ 0).toNat 12 (g_i (705 * (g (g (ρ 0).toNat 0).toNat 7)))) (ρ 0).toNat 2).toNat ((g_up g (ρ 0).toNat 12 (g_i (705 * (g (g (ρ 0).toNat 0).toNat 7)))) (ρ 0).toNat 12).toNat 0) (ρ 0).toNat 13 0) (ρ 0).toNat 21 0) (ρ 0).toNat 7 0))) rfl
  obtain ⟨n2, c', e2, h2, h3⟩ := g_step_un noX12 (i := .invokevirtual 217) (len := 3) (jI_X12_readText 41 _ rfl) (gnrV _) h1
  obtain ⟨r1, h1', hx, hc⟩ := g_virt_un lk_X12 nat_all lX12_ok (idx := 217) (mi := 146) (ci := 12) (na := 1) rfl (by decide) mq_X12_nextToken [] [] (ρ 0) rfl rfl h2
  subst hc
  exact ⟨n2, r1, h1', by omega, hx, h3⟩
theorem bk_X12_readText_44 {ax : zAx} {CE : g_E} {n : Nat} {ρ : Nat → Int} {L : List Nat} {g : Nat → Nat → Int} {r : Option g_V} {h : g_H} (hr : g_run RX12 ax CE cX12_readText n (44, ρ, [], L, g) r h) : ∃ n', n' < n ∧ ((g (ρ 0).toNat 9 = 0 ∧ g_run RX12 ax CE cX12_readText n' (65, ρ, [], L, g) r h) ∨ (¬ (g (ρ 0).toNat 9 = 0) ∧ g_run RX12 ax CE cX12_readText n' (51, ρ, [], L, g) r h)) := by
  obtain ⟨n1, e, h1⟩ := g_blk_ok noX12 jI_X12_readText tab_X12 3 n hr (c2 := (if g (ρ 0).toNat 9 = 0 then 65 else 51, ρ, [], L, g)) rfl
  refine ⟨n1, by omega, ?_⟩
  by_cases hc : g (ρ 0).toNat 9 = 0
  · exact Or.inl ⟨hc, by rw [if_pos hc] at h1; exact h1⟩
  · exact Or.inr ⟨hc, by rw [if_neg hc] at h1; exact h1⟩
theorem bk_X12_readText_51 {ax : zAx} {CE : g_E} {n : Nat} {ρ : Nat → Int} {L : List Nat} {g : Nat → Nat → Int} {r : Option g_V} {h : g_H} (hr : g_run RX12 ax CE cX12_readText n (51, ρ, [], L, g) r h) : ∃ n' r1 h1', n' < n ∧ CE yX12_clause cX12_clause [(0, ρ 0)] (L, g) r1 h1' ∧ g_run RX12 ax CE cX12_readText n' (55, ρ, g_push r1 [], h1') r h := by
  obtain ⟨n1, e, h1⟩ := g_blk_ok noX12 jI_X12_readText tab_X12 1 n hr (c2 := (52, ρ, [(1, ρ 0)], L, g)) rfl
  obtain ⟨n2, c', e2, h2, h3⟩ := g_step_un noX12 (i := .invokevirtual 302) (len := 3) (jI_X12_readText 52 _ rfl) (gnrV _) h1
  obtain ⟨r1, h1', hx, hc⟩ := g_virt_un lk_X12 nat_all lX12_ok (idx := 302) (mi := 89) (ci := 12) (na := 1) rfl (by decide) mq_X12_clause [] [] (ρ 0) rfl rfl h2
  subst hc
  exact ⟨n2, r1, h1', by omega, hx, h3⟩
theorem bk_X12_readText_55 {ax : zAx} {CE : g_E} {n : Nat} {ρ : Nat → Int} {s0 : Int} {L : List Nat} {g : Nat → Nat → Int} {r : Option g_V} {h : g_H} (hr : g_run RX12 ax CE cX12_readText n (55, ρ, [(1, s0)], L, g) r h) : ∃ n', n' < n ∧ ((s0 = 0 ∧ g_run RX12 ax CE cX12_readText n' (62, (va_up ρ 1 s0), [], L, g) r h) ∨ (¬ (s0 = 0) ∧ g_run RX12 ax CE cX12_readText n' (60, (va_up ρ 1 s0), [], L, g) r h)) := by
  obtain ⟨n1, e, h1⟩ := g_blk_ok noX12 jI_X12_readText tab_X12 3 n hr (c2 := (if s0 = 0 then 62 else 60, (va_up ρ 1 s0), [], L, g)) rfl
  refine ⟨n1, by omega, ?_⟩
  by_cases hc : s0 = 0
  · exact Or.inl ⟨hc, by rw [if_pos hc] at h1; exact h1⟩
  · exact Or.inr ⟨hc, by rw [if_neg hc] at h1; exact h1⟩
theorem bk_X12_readText_60 {ax : zAx} {CE : g_E} {n : Nat} {ρ : Nat → Int} {L : List Nat} {g : Nat → Nat → Int} {r : Option g_V} {h : g_H} (hr : g_run RX12 ax CE cX12_readText n (60, ρ, [], L, g) r h) : r = some (1, ρ 1) ∧ h = (L, g) := by
  obtain ⟨n1, e, h1⟩ := g_blk_ok noX12 jI_X12_readText tab_X12 1 n hr (c2 := (61, ρ, [(1, ρ 1)], L, g)) rfl
  exact g_ret_un noX12 (i := .ireturn) (jI_X12_readText 61 _ rfl) (by decide) h1
theorem bk_X12_readText_62 {ax : zAx} {CE : g_E} {n : Nat} {ρ : Nat → Int} {L : List Nat} {g : Nat → Nat → Int} {r : Option g_V} {h : g_H} (hr : g_run RX12 ax CE cX12_readText n (62, ρ, [], L, g) r h) : ∃ n', n' < n ∧ g_run RX12 ax CE cX12_readText n' (44, ρ, [], L, g) r h := by
  obtain ⟨n1, e, h1⟩ := g_blk_ok noX12 jI_X12_readText tab_X12 1 n hr (c2 := (44, ρ, [], L, g)) rfl
  exact ⟨n1, by omega, h1⟩
theorem bk_X12_readText_65 {ax : zAx} {CE : g_E} {n : Nat} {ρ : Nat → Int} {L : List Nat} {g : Nat → Nat → Int} {r : Option g_V} {h : g_H} (hr : g_run RX12 ax CE cX12_readText n (65, ρ, [], L, g) r h) : r = some (1, 0) ∧ h = (L, g) := by
  obtain ⟨n1, e, h1⟩ := g_blk_ok noX12 jI_X12_readText tab_X12 1 n hr (c2 := (66, ρ, [(1, 0)], L, g)) rfl
  exact g_ret_un noX12 (i := .ireturn) (jI_X12_readText 66 _ rfl) (by decide) h1
theorem pt_X12_readText_0 {ax : zAx} {CE : g_E} (hCE : ∀ y cc as h r h', CE y cc as h r h' → g_ex ax y cc as h r h') {n : Nat} {ρ : Nat → Int} {L : List Nat} {g : Nat → Nat → Int} {r : Option g_V} {h : g_H} (h0 : g_run RX12 ax CE cX12_readText n (0, ρ, [], L, g) r h) : (∃ n' r1 h1', n' < n ∧ CE yX12_nextToken cX12_nextToken [(0, (ρ 0))] (L, (g_up (g_up (g_up (g_up (g_up g (ρ 0).toNat 12 (g_i (705 * (g (g (ρ 0).toNat 0).toNat 7)))) (g (ρ 0).toNat 2).toNat ((g_up g (ρ 0).toNat 12 (g_i (705 * (g (g (ρ 0).toNat 0).toNat 7)))) (ρ 0).toNat 12).toNat 0) (ρ 0).toNat 13 0) (ρ 0).toNat 21 0) (ρ 0).toNat 7 0)) r1 h1' ∧ g_run RX12 ax CE cX12_readText n' (44, ρ, g_push r1 [], h1') r h) := by
  obtain ⟨n1, r1, k1, l1, x1, h1⟩ := bk_X12_readText_0 h0
  exact ⟨n1, r1, k1, by omega, x1, h1⟩
theorem pt_X12_readText_44 {ax : zAx} {CE : g_E} (hCE : ∀ y cc as h r h', CE y cc as h r h' → g_ex ax y cc as h r h') {n : Nat} {ρ : Nat → Int} {L : List Nat} {g : Nat → Nat → Int} {r : Option g_V} {h : g_H} (h0 : g_run RX12 ax CE cX12_readText n (44, ρ, [], L, g) r h) : ((g (ρ 0).toNat 9 = 0 ∧ (r = some (1, 0) ∧ h = (L, g))) ∨ (¬ (g (ρ 0).toNat 9 = 0) ∧ (∃ n' r1 h1', n' < n ∧ CE yX12_clause cX12_clause [(0, (ρ 0))] (L, g) r1 h1' ∧ g_run RX12 ax CE cX12_readText n' (55, ρ, g_push r1 [], h1') r h))) := by
  obtain ⟨n1, l1, h1⟩ := bk_X12_readText_44 h0
  rcases h1 with ⟨c1, h1⟩ | ⟨c1, h1⟩
  · refine Or.inl ⟨c1, ?_⟩
    obtain ⟨e2, d2⟩ := bk_X12_readText_65 h1
    exact ⟨e2, d2⟩
  · refine Or.inr ⟨c1, ?_⟩
    obtain ⟨n3, r3, k3, l3, x3, h3⟩ := bk_X12_readText_51 h1
    exact ⟨n3, r3, k3, by omega, x3, h3⟩
theorem pt_X12_readText_55 {ax : zAx} {CE : g_E} (hCE : ∀ y cc as h r h', CE y cc as h r h' → g_ex ax y cc as h r h') {n : Nat} {ρ : Nat → Int} {s0 : Int} {L : List Nat} {g : Nat → Nat → Int} {r : Option g_V} {h : g_H} (h0 : g_run RX12 ax CE cX12_readText n (55, ρ, [(1, s0)], L, g) r h) : ((s0 = 0 ∧ (∃ n', n' < n ∧ g_run RX12 ax CE cX12_readText n' (44, (va_up ρ 1 s0), [], L, g) r h)) ∨ (¬ (s0 = 0) ∧ (r = some (1, s0) ∧ h = (L, g)))) := by
  obtain ⟨n1, l1, h1⟩ := bk_X12_readText_55 h0
  rcases h1 with ⟨c1, h1⟩ | ⟨c1, h1⟩
  · refine Or.inl ⟨c1, ?_⟩
    obtain ⟨n2, l2, h2⟩ := bk_X12_readText_62 h1
    exact ⟨_, by omega, h2⟩
  · refine Or.inr ⟨c1, ?_⟩
    obtain ⟨e4, d4⟩ := bk_X12_readText_60 h1
    exact ⟨e4, d4⟩
