/-! Paths. -/
theorem jI_X12_betweenOf : ∀ (pc : Nat) (q : Instr × Nat), lkp iX12_betweenOf pc = some q → decode cX12_betweenOf pc = .ok q := fun pc q hq => jX12_betweenOf (pc, q) (lkp_in iX12_betweenOf hq)
theorem bk_X12_betweenOf_0 {ax : zAx} {CE : g_E} {n : Nat} {ρ : Nat → Int} {L : List Nat} {g : Nat → Nat → Int} {r : Option g_V} {h : g_H} (hr : g_run RX12 ax CE cX12_betweenOf n (0, ρ, [], L, g) r h) : ∃ n', n' < n ∧ ((g (ρ 0).toNat 9 = 43 ∧ g_run RX12 ax CE cX12_betweenOf n' (9, ρ, [], L, g) r h) ∨ (¬ (g (ρ 0).toNat 9 = 43) ∧ g_run RX12 ax CE cX12_betweenOf n' (11, ρ, [], L, g) r h)) := by
  obtain ⟨n1, e, h1⟩ := g_blk_ok noX12 jI_X12_betweenOf tab_X12 4 n hr (c2 := (if g (ρ 0).toNat 9 = 43 then 9 else 11, ρ, [], L, g)) rfl
  refine ⟨n1, by omega, ?_⟩
  by_cases hc : g (ρ 0).toNat 9 = 43
  · exact Or.inl ⟨hc, by rw [if_pos hc] at h1; exact h1⟩
  · exact Or.inr ⟨hc, by rw [if_neg hc] at h1; exact h1⟩
theorem bk_X12_betweenOf_9 {ax : zAx} {CE : g_E} {n : Nat} {ρ : Nat → Int} {L : List Nat} {g : Nat → Nat → Int} {r : Option g_V} {h : g_H} (hr : g_run RX12 ax CE cX12_betweenOf n (9, ρ, [], L, g) r h) : r = some (1, 3) ∧ h = (L, g) := by
  obtain ⟨n1, e, h1⟩ := g_blk_ok noX12 jI_X12_betweenOf tab_X12 1 n hr (c2 := (10, ρ, [(1, 3)], L, g)) rfl
  exact g_ret_un noX12 (i := .ireturn) (jI_X12_betweenOf 10 _ rfl) (by decide) h1
theorem bk_X12_betweenOf_11 {ax : zAx} {CE : g_E} {n : Nat} {ρ : Nat → Int} {L : List Nat} {g : Nat → Nat → Int} {r : Option g_V} {h : g_H} (hr : g_run RX12 ax CE cX12_betweenOf n (11, ρ, [], L, g) r h) : ∃ n', n' < n ∧ ((g (ρ 0).toNat 9 = 45 ∧ g_run RX12 ax CE cX12_betweenOf n' (20, ρ, [], L, g) r h) ∨ (¬ (g (ρ 0).toNat 9 = 45) ∧ g_run RX12 ax CE cX12_betweenOf n' (22, ρ, [], L, g) r h)) := by
  obtain ⟨n1, e, h1⟩ := g_blk_ok noX12 jI_X12_betweenOf tab_X12 4 n hr (c2 := (if g (ρ 0).toNat 9 = 45 then 20 else 22, ρ, [], L, g)) rfl
  refine ⟨n1, by omega, ?_⟩
  by_cases hc : g (ρ 0).toNat 9 = 45
  · exact Or.inl ⟨hc, by rw [if_pos hc] at h1; exact h1⟩
  · exact Or.inr ⟨hc, by rw [if_neg hc] at h1; exact h1⟩
theorem bk_X12_betweenOf_20 {ax : zAx} {CE : g_E} {n : Nat} {ρ : Nat → Int} {L : List Nat} {g : Nat → Nat → Int} {r : Option g_V} {h : g_H} (hr : g_run RX12 ax CE cX12_betweenOf n (20, ρ, [], L, g) r h) : r = some (1, 4) ∧ h = (L, g) := by
  obtain ⟨n1, e, h1⟩ := g_blk_ok noX12 jI_X12_betweenOf tab_X12 1 n hr (c2 := (21, ρ, [(1, 4)], L, g)) rfl
  exact g_ret_un noX12 (i := .ireturn) (jI_X12_betweenOf 21 _ rfl) (by decide) h1
theorem bk_X12_betweenOf_22 {ax : zAx} {CE : g_E} {n : Nat} {ρ : Nat → Int} {L : List Nat} {g : Nat → Nat → Int} {r : Option g_V} {h : g_H} (hr : g_run RX12 ax CE cX12_betweenOf n (22, ρ, [], L, g) r h) : ∃ n', n' < n ∧ ((g (ρ 0).toNat 9 = 42 ∧ g_run RX12 ax CE cX12_betweenOf n' (31, ρ, [], L, g) r h) ∨ (¬ (g (ρ 0).toNat 9 = 42) ∧ g_run RX12 ax CE cX12_betweenOf n' (33, ρ, [], L, g) r h)) := by
  obtain ⟨n1, e, h1⟩ := g_blk_ok noX12 jI_X12_betweenOf tab_X12 4 n hr (c2 := (if g (ρ 0).toNat 9 = 42 then 31 else 33, ρ, [], L, g)) rfl
  refine ⟨n1, by omega, ?_⟩
  by_cases hc : g (ρ 0).toNat 9 = 42
  · exact Or.inl ⟨hc, by rw [if_pos hc] at h1; exact h1⟩
  · exact Or.inr ⟨hc, by rw [if_neg hc] at h1; exact h1⟩
theorem bk_X12_betweenOf_31 {ax : zAx} {CE : g_E} {n : Nat} {ρ : Nat → Int} {L : List Nat} {g : Nat → Nat → Int} {r : Option g_V} {h : g_H} (hr : g_run RX12 ax CE cX12_betweenOf n (31, ρ, [], L, g) r h) : r = some (1, 5) ∧ h = (L, g) := by
  obtain ⟨n1, e, h1⟩ := g_blk_ok noX12 jI_X12_betweenOf tab_X12 1 n hr (c2 := (32, ρ, [(1, 5)], L, g)) rfl
  exact g_ret_un noX12 (i := .ireturn) (jI_X12_betweenOf 32 _ rfl) (by decide) h1
theorem bk_X12_betweenOf_33 {ax : zAx} {CE : g_E} {n : Nat} {ρ : Nat → Int} {L : List Nat} {g : Nat → Nat → Int} {r : Option g_V} {h : g_H} (hr : g_run RX12 ax CE cX12_betweenOf n (33, ρ, [], L, g) r h) : ∃ n', n' < n ∧ ((g (ρ 0).toNat 9 = 47 ∧ g_run RX12 ax CE cX12_betweenOf n' (42, ρ, [], L, g) r h) ∨ (¬ (g (ρ 0).toNat 9 = 47) ∧ g_run RX12 ax CE cX12_betweenOf n' (45, ρ, [], L, g) r h)) := by
  obtain ⟨n1, e, h1⟩ := g_blk_ok noX12 jI_X12_betweenOf tab_X12 4 n hr (c2 := (if g (ρ 0).toNat 9 = 47 then 42 else 45, ρ, [], L, g)) rfl
  refine ⟨n1, by omega, ?_⟩
  by_cases hc : g (ρ 0).toNat 9 = 47
  · exact Or.inl ⟨hc, by rw [if_pos hc] at h1; exact h1⟩
  · exact Or.inr ⟨hc, by rw [if_neg hc] at h1; exact h1⟩
theorem bk_X12_betweenOf_42 {ax : zAx} {CE : g_E} {n : Nat} {ρ : Nat → Int} {L : List Nat} {g : Nat → Nat → Int} {r : Option g_V} {h : g_H} (hr : g_run RX12 ax CE cX12_betweenOf n (42, ρ, [], L, g) r h) : r = some (1, 6) ∧ h = (L, g) := by
  obtain ⟨n1, e, h1⟩ := g_blk_ok noX12 jI_X12_betweenOf tab_X12 1 n hr (c2 := (44, ρ, [(1, 6)], L, g)) rfl
  exact g_ret_un noX12 (i := .ireturn) (jI_X12_betweenOf 44 _ rfl) (by decide) h1
theorem bk_X12_betweenOf_45 {ax : zAx} {CE : g_E} {n : Nat} {ρ : Nat → Int} {L : List Nat} {g : Nat → Nat → Int} {r : Option g_V} {h : g_H} (hr : g_run RX12 ax CE cX12_betweenOf n (45, ρ, [], L, g) r h) : ∃ n' r1 h1', n' < n ∧ CE yX12_openNow cX12_openNow [(0, ρ 0)] (L, g) r1 h1' ∧ g_run RX12 ax CE cX12_betweenOf n' (49, ρ, g_push r1 [], h1') r h := by
  obtain ⟨n1, e, h1⟩ := g_blk_ok noX12 jI_X12_betweenOf tab_X12 1 n hr (c2 := (46, ρ, [(1, ρ 0)], L, g)) rfl
  obtain ⟨n2, c', e2, h2, h3⟩ := g_step_un noX12 (i := .invokevirtual 213) (len := 3) (jI_X12_betweenOf 46 _ rfl) (gnrV _) h1
  obtain ⟨r1, h1', hx, hc⟩ := g_virt_un lk_X12 nat_all lX12_ok (idx := 213) (mi := 151) (ci := 12) (na := 1) rfl (by decide) mq_X12_openNow [] [] (ρ 0) rfl rfl h2
  subst hc
  exact ⟨n2, r1, h1', by omega, hx, h3⟩
theorem bk_X12_betweenOf_49 {ax : zAx} {CE : g_E} {n : Nat} {ρ : Nat → Int} {s0 : Int} {L : List Nat} {g : Nat → Nat → Int} {r : Option g_V} {h : g_H} (hr : g_run RX12 ax CE cX12_betweenOf n (49, ρ, [(1, s0)], L, g) r h) : ∃ n', n' < n ∧ ((s0 = 42 ∧ g_run RX12 ax CE cX12_betweenOf n' (56, ρ, [], L, g) r h) ∨ (¬ (s0 = 42) ∧ g_run RX12 ax CE cX12_betweenOf n' (54, ρ, [], L, g) r h)) := by
  obtain ⟨n1, e, h1⟩ := g_blk_ok noX12 jI_X12_betweenOf tab_X12 2 n hr (c2 := (if s0 = 42 then 56 else 54, ρ, [], L, g)) rfl
  refine ⟨n1, by omega, ?_⟩
  by_cases hc : s0 = 42
  · exact Or.inl ⟨hc, by rw [if_pos hc] at h1; exact h1⟩
  · exact Or.inr ⟨hc, by rw [if_neg hc] at h1; exact h1⟩
theorem bk_X12_betweenOf_54 {ax : zAx} {CE : g_E} {n : Nat} {ρ : Nat → Int} {L : List Nat} {g : Nat → Nat → Int} {r : Option g_V} {h : g_H} (hr : g_run RX12 ax CE cX12_betweenOf n (54, ρ, [], L, g) r h) : r = some (1, (-1)) ∧ h = (L, g) := by
  obtain ⟨n1, e, h1⟩ := g_blk_ok noX12 jI_X12_betweenOf tab_X12 1 n hr (c2 := (55, ρ, [(1, (-1))], L, g)) rfl
  exact g_ret_un noX12 (i := .ireturn) (jI_X12_betweenOf 55 _ rfl) (by decide) h1
theorem bk_X12_betweenOf_56 {ax : zAx} {CE : g_E} {n : Nat} {ρ : Nat → Int} {L : List Nat} {g : Nat → Nat → Int} {r : Option g_V} {h : g_H} (hr : g_run RX12 ax CE cX12_betweenOf n (56, ρ, [], L, g) r h) : ∃ n' r1 h1', n' < n ∧ CE yX12_isCompared cX12_isCompared [(0, ρ 0)] (L, g) r1 h1' ∧ g_run RX12 ax CE cX12_betweenOf n' (60, ρ, g_push r1 [], h1') r h := by
  obtain ⟨n1, e, h1⟩ := g_blk_ok noX12 jI_X12_betweenOf tab_X12 1 n hr (c2 := (57, ρ, [(1, ρ 0)], L, g)) rfl
  obtain ⟨n2, c', e2, h2, h3⟩ := g_step_un noX12 (i := .invokevirtual 244) (len := 3) (jI_X12_betweenOf 57 _ rfl) (gnrV _) h1
  obtain ⟨r1, h1', hx, hc⟩ := g_virt_un lk_X12 nat_all lX12_ok (idx := 244) (mi := 123) (ci := 12) (na := 1) rfl (by decide) mq_X12_isCompared [] [] (ρ 0) rfl rfl h2
  subst hc
  exact ⟨n2, r1, h1', by omega, hx, h3⟩
theorem bk_X12_betweenOf_60 {ax : zAx} {CE : g_E} {n : Nat} {ρ : Nat → Int} {s0 : Int} {L : List Nat} {g : Nat → Nat → Int} {r : Option g_V} {h : g_H} (hr : g_run RX12 ax CE cX12_betweenOf n (60, ρ, [(1, s0)], L, g) r h) : ∃ n', n' < n ∧ ((s0 = 0 ∧ g_run RX12 ax CE cX12_betweenOf n' (63, ρ, [], L, g) r h) ∨ (¬ (s0 = 0) ∧ g_run RX12 ax CE cX12_betweenOf n' (68, ρ, [], L, g) r h)) := by
  obtain ⟨n1, e, h1⟩ := g_blk_ok noX12 jI_X12_betweenOf tab_X12 1 n hr (c2 := (if s0 = 0 then 63 else 68, ρ, [], L, g)) rfl
  refine ⟨n1, by omega, ?_⟩
  by_cases hc : s0 = 0
  · exact Or.inl ⟨hc, by rw [if_pos hc] at h1; exact h1⟩
  · exact Or.inr ⟨hc, by rw [if_neg hc] at h1; exact h1⟩
theorem bk_X12_betweenOf_63 {ax : zAx} {CE : g_E} {n : Nat} {ρ : Nat → Int} {L : List Nat} {g : Nat → Nat → Int} {r : Option g_V} {h : g_H} (hr : g_run RX12 ax CE cX12_betweenOf n (63, ρ, [], L, g) r h) : ∃ n' r1 h1', n' < n ∧ CE yX12_compareOf cX12_compareOf [(0, ρ 0)] (L, g) r1 h1' ∧ g_run RX12 ax CE cX12_betweenOf n' (67, ρ, g_push r1 [], h1') r h := by
  obtain ⟨n1, e, h1⟩ := g_blk_ok noX12 jI_X12_betweenOf tab_X12 1 n hr (c2 := (64, ρ, [(1, ρ 0)], L, g)) rfl
  obtain ⟨n2, c', e2, h2, h3⟩ := g_step_un noX12 (i := .invokevirtual 247) (len := 3) (jI_X12_betweenOf 64 _ rfl) (gnrV _) h1
  obtain ⟨r1, h1', hx, hc⟩ := g_virt_un lk_X12 nat_all lX12_ok (idx := 247) (mi := 92) (ci := 12) (na := 1) rfl (by decide) mq_X12_compareOf [] [] (ρ 0) rfl rfl h2
  subst hc
  exact ⟨n2, r1, h1', by omega, hx, h3⟩
theorem bk_X12_betweenOf_67 {ax : zAx} {CE : g_E} {n : Nat} {ρ : Nat → Int} {s0 : Int} {L : List Nat} {g : Nat → Nat → Int} {r : Option g_V} {h : g_H} (hr : g_run RX12 ax CE cX12_betweenOf n (67, ρ, [(1, s0)], L, g) r h) : r = some (1, s0) ∧ h = (L, g) := by
  obtain ⟨n1, e, h1⟩ := g_blk_ok noX12 jI_X12_betweenOf tab_X12 0 n hr (c2 := (67, ρ, [(1, s0)], L, g)) rfl
  exact g_ret_un noX12 (i := .ireturn) (jI_X12_betweenOf 67 _ rfl) (by decide) h1
theorem bk_X12_betweenOf_68 {ax : zAx} {CE : g_E} {n : Nat} {ρ : Nat → Int} {L : List Nat} {g : Nat → Nat → Int} {r : Option g_V} {h : g_H} (hr : g_run RX12 ax CE cX12_betweenOf n (68, ρ, [], L, g) r h) : ∃ n' r1 h1', n' < n ∧ CE yX12_w3 cX12_w3 [(0, 97), (1, 110), (2, 100)] (L, g) r1 h1' ∧ g_run RX12 ax CE cX12_betweenOf n' (78, ρ, g_push r1 [(1, ρ 0)], h1') r h := by
  obtain ⟨n1, e, h1⟩ := g_blk_ok noX12 jI_X12_betweenOf tab_X12 4 n hr (c2 := (75, ρ, [(1, 100), (1, 110), (1, 97), (1, ρ 0)], L, g)) rfl
  obtain ⟨n2, c', e2, h2, h3⟩ := g_step_un noX12 (i := .invokestatic 176) (len := 3) (jI_X12_betweenOf 75 _ rfl) (gnrS _) h1
  obtain ⟨r1, h1', hx, hc⟩ := g_static_un lk_X12 nat_all lX12_ok (idx := 176) (mode := 1) (mi := 191) (ci := 0) (na := 3) rfl (by decide) (by decide) mq_X12_w3 [(1, 97), (1, 110), (1, 100)] [(1, ρ 0)] rfl rfl h2
  subst hc
  exact ⟨n2, r1, h1', by omega, hx, h3⟩
theorem bk_X12_betweenOf_78 {ax : zAx} {CE : g_E} {n : Nat} {ρ : Nat → Int} {s0 : Int} {s1 : Int} {L : List Nat} {g : Nat → Nat → Int} {r : Option g_V} {h : g_H} (hr : g_run RX12 ax CE cX12_betweenOf n (78, ρ, [(2, s0), (1, s1)], L, g) r h) : ∃ n' r1 h1', n' < n ∧ CE yX12_isWord cX12_isWord [(0, s1), (1, s0)] (L, g) r1 h1' ∧ g_run RX12 ax CE cX12_betweenOf n' (81, ρ, g_push r1 [], h1') r h := by
  obtain ⟨n1, e, h1⟩ := g_blk_ok noX12 jI_X12_betweenOf tab_X12 0 n hr (c2 := (78, ρ, [(2, s0), (1, s1)], L, g)) rfl
  obtain ⟨n2, c', e2, h2, h3⟩ := g_step_un noX12 (i := .invokevirtual 236) (len := 3) (jI_X12_betweenOf 78 _ rfl) (gnrV _) h1
  obtain ⟨r1, h1', hx, hc⟩ := g_virt_un lk_X12 nat_all lX12_ok (idx := 236) (mi := 132) (ci := 12) (na := 2) rfl (by decide) mq_X12_isWord [(2, s0)] [] s1 rfl rfl h2
  subst hc
  exact ⟨n2, r1, h1', by omega, hx, h3⟩
theorem bk_X12_betweenOf_81 {ax : zAx} {CE : g_E} {n : Nat} {ρ : Nat → Int} {s0 : Int} {L : List Nat} {g : Nat → Nat → Int} {r : Option g_V} {h : g_H} (hr : g_run RX12 ax CE cX12_betweenOf n (81, ρ, [(1, s0)], L, g) r h) : ∃ n', n' < n ∧ ((s0 = 0 ∧ g_run RX12 ax CE cX12_betweenOf n' (89, ρ, [], L, g) r h) ∨ (¬ (s0 = 0) ∧ g_run RX12 ax CE cX12_betweenOf n' (84, ρ, [], L, g) r h)) := by
  obtain ⟨n1, e, h1⟩ := g_blk_ok noX12 jI_X12_betweenOf tab_X12 1 n hr (c2 := (if s0 = 0 then 89 else 84, ρ, [], L, g)) rfl
  refine ⟨n1, by omega, ?_⟩
  by_cases hc : s0 = 0
  · exact Or.inl ⟨hc, by rw [if_pos hc] at h1; exact h1⟩
  · exact Or.inr ⟨hc, by rw [if_neg hc] at h1; exact h1⟩
theorem bk_X12_betweenOf_84 {ax : zAx} {CE : g_E} {n : Nat} {ρ : Nat → Int} {L : List Nat} {g : Nat → Nat → Int} {r : Option g_V} {h : g_H} (hr : g_run RX12 ax CE cX12_betweenOf n (84, ρ, [], L, g) r h) : ∃ n', n' < n ∧ g_run RX12 ax CE cX12_betweenOf n' (109, ρ, [(1, 21)], L, g) r h := by
  obtain ⟨n1, e, h1⟩ := g_blk_ok noX12 jI_X12_betweenOf tab_X12 2 n hr (c2 := (109, ρ, [(1, 21)], L, g)) rfl
  exact ⟨n1, by omega, h1⟩
theorem bk_X12_betweenOf_89 {ax : zAx} {CE : g_E} {n : Nat} {ρ : Nat → Int} {L : List Nat} {g : Nat → Nat → Int} {r : Option g_V} {h : g_H} (hr : g_run RX12 ax CE cX12_betweenOf n (89, ρ, [], L, g) r h) : ∃ n' r1 h1', n' < n ∧ CE yX12_w2 cX12_w2 [(0, 111), (1, 114)] (L, g) r1 h1' ∧ g_run RX12 ax CE cX12_betweenOf n' (97, ρ, g_push r1 [(1, ρ 0)], h1') r h := by
  obtain ⟨n1, e, h1⟩ := g_blk_ok noX12 jI_X12_betweenOf tab_X12 3 n hr (c2 := (94, ρ, [(1, 114), (1, 111), (1, ρ 0)], L, g)) rfl
  obtain ⟨n2, c', e2, h2, h3⟩ := g_step_un noX12 (i := .invokestatic 172) (len := 3) (jI_X12_betweenOf 94 _ rfl) (gnrS _) h1
  obtain ⟨r1, h1', hx, hc⟩ := g_static_un lk_X12 nat_all lX12_ok (idx := 172) (mode := 1) (mi := 190) (ci := 0) (na := 2) rfl (by decide) (by decide) mq_X12_w2 [(1, 111), (1, 114)] [(1, ρ 0)] rfl rfl h2
  subst hc
  exact ⟨n2, r1, h1', by omega, hx, h3⟩
theorem bk_X12_betweenOf_97 {ax : zAx} {CE : g_E} {n : Nat} {ρ : Nat → Int} {s0 : Int} {s1 : Int} {L : List Nat} {g : Nat → Nat → Int} {r : Option g_V} {h : g_H} (hr : g_run RX12 ax CE cX12_betweenOf n (97, ρ, [(2, s0), (1, s1)], L, g) r h) : ∃ n' r1 h1', n' < n ∧ CE yX12_isWord cX12_isWord [(0, s1), (1, s0)] (L, g) r1 h1' ∧ g_run RX12 ax CE cX12_betweenOf n' (100, ρ, g_push r1 [], h1') r h := by
  obtain ⟨n1, e, h1⟩ := g_blk_ok noX12 jI_X12_betweenOf tab_X12 0 n hr (c2 := (97, ρ, [(2, s0), (1, s1)], L, g)) rfl
  obtain ⟨n2, c', e2, h2, h3⟩ := g_step_un noX12 (i := .invokevirtual 236) (len := 3) (jI_X12_betweenOf 97 _ rfl) (gnrV _) h1
  obtain ⟨r1, h1', hx, hc⟩ := g_virt_un lk_X12 nat_all lX12_ok (idx := 236) (mi := 132) (ci := 12) (na := 2) rfl (by decide) mq_X12_isWord [(2, s0)] [] s1 rfl rfl h2
  subst hc
  exact ⟨n2, r1, h1', by omega, hx, h3⟩
theorem bk_X12_betweenOf_100 {ax : zAx} {CE : g_E} {n : Nat} {ρ : Nat → Int} {s0 : Int} {L : List Nat} {g : Nat → Nat → Int} {r : Option g_V} {h : g_H} (hr : g_run RX12 ax CE cX12_betweenOf n (100, ρ, [(1, s0)], L, g) r h) : ∃ n', n' < n ∧ ((s0 = 0 ∧ g_run RX12 ax CE cX12_betweenOf n' (108, ρ, [], L, g) r h) ∨ (¬ (s0 = 0) ∧ g_run RX12 ax CE cX12_betweenOf n' (103, ρ, [], L, g) r h)) := by
  obtain ⟨n1, e, h1⟩ := g_blk_ok noX12 jI_X12_betweenOf tab_X12 1 n hr (c2 := (if s0 = 0 then 108 else 103, ρ, [], L, g)) rfl
  refine ⟨n1, by omega, ?_⟩
  by_cases hc : s0 = 0
  · exact Or.inl ⟨hc, by rw [if_pos hc] at h1; exact h1⟩
  · exact Or.inr ⟨hc, by rw [if_neg hc] at h1; exact h1⟩
theorem bk_X12_betweenOf_103 {ax : zAx} {CE : g_E} {n : Nat} {ρ : Nat → Int} {L : List Nat} {g : Nat → Nat → Int} {r : Option g_V} {h : g_H} (hr : g_run RX12 ax CE cX12_betweenOf n (103, ρ, [], L, g) r h) : ∃ n', n' < n ∧ g_run RX12 ax CE cX12_betweenOf n' (109, ρ, [(1, 22)], L, g) r h := by
  obtain ⟨n1, e, h1⟩ := g_blk_ok noX12 jI_X12_betweenOf tab_X12 2 n hr (c2 := (109, ρ, [(1, 22)], L, g)) rfl
  exact ⟨n1, by omega, h1⟩
theorem bk_X12_betweenOf_108 {ax : zAx} {CE : g_E} {n : Nat} {ρ : Nat → Int} {L : List Nat} {g : Nat → Nat → Int} {r : Option g_V} {h : g_H} (hr : g_run RX12 ax CE cX12_betweenOf n (108, ρ, [], L, g) r h) : ∃ n', n' < n ∧ g_run RX12 ax CE cX12_betweenOf n' (109, ρ, [(1, (-1))], L, g) r h := by
  obtain ⟨n1, e, h1⟩ := g_blk_ok noX12 jI_X12_betweenOf tab_X12 1 n hr (c2 := (109, ρ, [(1, (-1))], L, g)) rfl
  exact ⟨n1, by omega, h1⟩
theorem bk_X12_betweenOf_109 {ax : zAx} {CE : g_E} {n : Nat} {ρ : Nat → Int} {s0 : Int} {L : List Nat} {g : Nat → Nat → Int} {r : Option g_V} {h : g_H} (hr : g_run RX12 ax CE cX12_betweenOf n (109, ρ, [(1, s0)], L, g) r h) : r = some (1, s0) ∧ h = (L, g) := by
  obtain ⟨n1, e, h1⟩ := g_blk_ok noX12 jI_X12_betweenOf tab_X12 0 n hr (c2 := (109, ρ, [(1, s0)], L, g)) rfl
  exact g_ret_un noX12 (i := .ireturn) (jI_X12_betweenOf 109 _ rfl) (by decide) h1
theorem pt_X12_betweenOf_0 {ax : zAx} {CE : g_E} (hCE : ∀ y cc as h r h', CE y cc as h r h' → g_ex ax y cc as h r h') {n : Nat} {ρ : Nat → Int} {L : List Nat} {g : Nat → Nat → Int} {r : Option g_V} {h : g_H} (h0 : g_run RX12 ax CE cX12_betweenOf n (0, ρ, [], L, g) r h) : ((g (ρ 0).toNat 9 = 43 ∧ (r = some (1, 3) ∧ h = (L, g))) ∨ (¬ (g (ρ 0).toNat 9 = 43) ∧ ((g (ρ 0).toNat 9 = 45 ∧ (r = some (1, 4) ∧ h = (L, g))) ∨ (¬ (g (ρ 0).toNat 9 = 45) ∧ ((g (ρ 0).toNat 9 = 42 ∧ (r = some (1, 5) ∧ h = (L, g))) ∨ (¬ (g (ρ 0).toNat 9 = 42) ∧ ((g (ρ 0).toNat 9 = 47 ∧ (r = some (1, 6) ∧ h = (L, g))) ∨ (¬ (g (ρ 0).toNat 9 = 47) ∧ (∃ n' r1 h1', n' < n ∧ CE yX12_openNow cX12_openNow [(0, (ρ 0))] (L, g) r1 h1' ∧ g_run RX12 ax CE cX12_betweenOf n' (49, ρ, g_push r1 [], h1') r h))))))))) := by
  obtain ⟨n1, l1, h1⟩ := bk_X12_betweenOf_0 h0
  rcases h1 with ⟨c1, h1⟩ | ⟨c1, h1⟩
  · refine Or.inl ⟨c1, ?_⟩
    obtain ⟨e2, d2⟩ := bk_X12_betweenOf_9 h1
    exact ⟨e2, d2⟩
  · refine Or.inr ⟨c1, ?_⟩
    obtain ⟨n3, l3, h3⟩ := bk_X12_betweenOf_11 h1
    rcases h3 with ⟨c3, h3⟩ | ⟨c3, h3⟩
    · refine Or.inl ⟨c3, ?_⟩
      obtain ⟨e4, d4⟩ := bk_X12_betweenOf_20 h3
      exact ⟨e4, d4⟩
    · refine Or.inr ⟨c3, ?_⟩
      obtain ⟨n5, l5, h5⟩ := bk_X12_betweenOf_22 h3
      rcases h5 with ⟨c5, h5⟩ | ⟨c5, h5⟩
      · refine Or.inl ⟨c5, ?_⟩
        obtain ⟨e6, d6⟩ := bk_X12_betweenOf_31 h5
        exact ⟨e6, d6⟩
      · refine Or.inr ⟨c5, ?_⟩
        obtain ⟨n7, l7, h7⟩ := bk_X12_betweenOf_33 h5
        rcases h7 with ⟨c7, h7⟩ | ⟨c7, h7⟩
        · refine Or.inl ⟨c7, ?_⟩
          obtain ⟨e8, d8⟩ := bk_X12_betweenOf_42 h7
          exact ⟨e8, d8⟩
        · refine Or.inr ⟨c7, ?_⟩
          obtain ⟨n9, r9, k9, l9, x9, h9⟩ := bk_X12_betweenOf_45 h7
          exact ⟨n9, r9, k9, by omega, x9, h9⟩
theorem pt_X12_betweenOf_49 {ax : zAx} {CE : g_E} (hCE : ∀ y cc as h r h', CE y cc as h r h' → g_ex ax y cc as h r h') {n : Nat} {ρ : Nat → Int} {s0 : Int} {L : List Nat} {g : Nat → Nat → Int} {r : Option g_V} {h : g_H} (h0 : g_run RX12 ax CE cX12_betweenOf n (49, ρ, [(1, s0)], L, g) r h) : ((s0 = 42 ∧ (∃ n' r1 h1', n' < n ∧ CE yX12_isCompared cX12_isCompared [(0, (ρ 0))] (L, g) r1 h1' ∧ g_run RX12 ax CE cX12_betweenOf n' (60, ρ, g_push r1 [], h1') r h)) ∨ (¬ (s0 = 42) ∧ (r = some (1, (-1)) ∧ h = (L, g)))) := by
  obtain ⟨n1, l1, h1⟩ := bk_X12_betweenOf_49 h0
  rcases h1 with ⟨c1, h1⟩ | ⟨c1, h1⟩
  · refine Or.inl ⟨c1, ?_⟩
    obtain ⟨n2, r2, k2, l2, x2, h2⟩ := bk_X12_betweenOf_56 h1
    exact ⟨n2, r2, k2, by omega, x2, h2⟩
  · refine Or.inr ⟨c1, ?_⟩
    obtain ⟨e3, d3⟩ := bk_X12_betweenOf_54 h1
    exact ⟨e3, d3⟩
theorem pt_X12_betweenOf_60 {ax : zAx} {CE : g_E} (hCE : ∀ y cc as h r h', CE y cc as h r h' → g_ex ax y cc as h r h') {n : Nat} {ρ : Nat → Int} {s0 : Int} {L : List Nat} {g : Nat → Nat → Int} {r : Option g_V} {h : g_H} (h0 : g_run RX12 ax CE cX12_betweenOf n (60, ρ, [(1, s0)], L, g) r h) : ((s0 = 0 ∧ (r = some (1, F_X12_compareOf (ρ 0) g) ∧ h = (L, g))) ∨ (¬ (s0 = 0) ∧ ((F_X12_isWord (ρ 0) (F_X12_w3 97 110 100 g) g = 0 ∧ ((F_X12_isWord (ρ 0) (F_X12_w2 111 114 g) g = 0 ∧ (r = some (1, (-1)) ∧ h = (L, g))) ∨ (¬ (F_X12_isWord (ρ 0) (F_X12_w2 111 114 g) g = 0) ∧ (r = some (1, 22) ∧ h = (L, g))))) ∨ (¬ (F_X12_isWord (ρ 0) (F_X12_w3 97 110 100 g) g = 0) ∧ (r = some (1, 21) ∧ h = (L, g)))))) := by
  obtain ⟨n1, l1, h1⟩ := bk_X12_betweenOf_60 h0
  rcases h1 with ⟨c1, h1⟩ | ⟨c1, h1⟩
  · refine Or.inl ⟨c1, ?_⟩
    obtain ⟨n2, r2, k2, l2, x2, h2⟩ := bk_X12_betweenOf_63 h1
    obtain ⟨e2, d2⟩ := f_X12_compareOf (hCE _ _ _ _ _ _ x2)
    subst e2
    subst d2
    obtain ⟨e3, d3⟩ := bk_X12_betweenOf_67 h2
    exact ⟨e3, d3⟩
  · refine Or.inr ⟨c1, ?_⟩
    obtain ⟨n4, r4, k4, l4, x4, h4⟩ := bk_X12_betweenOf_68 h1
    obtain ⟨e4, d4⟩ := f_X12_w3 (hCE _ _ _ _ _ _ x4)
    subst e4
    subst d4
    obtain ⟨n5, r5, k5, l5, x5, h5⟩ := bk_X12_betweenOf_78 h4
    obtain ⟨e5, d5⟩ := f_X12_isWord (hCE _ _ _ _ _ _ x5)
    subst e5
    subst d5
    obtain ⟨n6, l6, h6⟩ := bk_X12_betweenOf_81 h5
    rcases h6 with ⟨c6, h6⟩ | ⟨c6, h6⟩
    · refine Or.inl ⟨c6, ?_⟩
      obtain ⟨n7, r7, k7, l7, x7, h7⟩ := bk_X12_betweenOf_89 h6
      obtain ⟨e7, d7⟩ := f_X12_w2 (hCE _ _ _ _ _ _ x7)
      subst e7
      subst d7
      obtain ⟨n8, r8, k8, l8, x8, h8⟩ := bk_X12_betweenOf_97 h7
      obtain ⟨e8, d8⟩ := f_X12_isWord (hCE _ _ _ _ _ _ x8)
      subst e8
      subst d8
      obtain ⟨n9, l9, h9⟩ := bk_X12_betweenOf_100 h8
      rcases h9 with ⟨c9, h9⟩ | ⟨c9, h9⟩
      · refine Or.inl ⟨c9, ?_⟩
        obtain ⟨n10, l10, h10⟩ := bk_X12_betweenOf_108 h9
        obtain ⟨e11, d11⟩ := bk_X12_betweenOf_109 h10
        exact ⟨e11, d11⟩
      · refine Or.inr ⟨c9, ?_⟩
        obtain ⟨n12, l12, h12⟩ := bk_X12_betweenOf_103 h9
        obtain ⟨e13, d13⟩ := bk_X12_betweenOf_109 h12
        exact ⟨e13, d13⟩
    · refine Or.inr ⟨c6, ?_⟩
      obtain ⟨n14, l14, h14⟩ := bk_X12_betweenOf_84 h6
      obtain ⟨e15, d15⟩ := bk_X12_betweenOf_109 h14
      exact ⟨e15, d15⟩

theorem jI_X12_shut : ∀ (pc : Nat) (q : Instr × Nat), lkp iX12_shut pc = some q → decode cX12_shut pc = .ok q := fun pc q hq => jX12_shut (pc, q) (lkp_in iX12_shut hq)
theorem bk_X12_shut_0 {ax : zAx} {CE : g_E} {n : Nat} {ρ : Nat → Int} {L : List Nat} {g : Nat → Nat → Int} {r : Option g_V} {h : g_H} (hr : g_run RX12 ax CE cX12_shut n (0, ρ, [], L, g) r h) : ∃ n' r1 h1', n' < n ∧ CE yX12_settle cX12_settle [(0, ρ 0), (1, 1)] (L, g) r1 h1' ∧ g_run RX12 ax CE cX12_shut n' (5, ρ, g_push r1 [], h1') r h := by
  obtain ⟨n1, e, h1⟩ := g_blk_ok noX12 jI_X12_shut tab_X12 2 n hr (c2 := (2, ρ, [(1, 1), (1, ρ 0)], L, g)) rfl
  obtain ⟨n2, c', e2, h2, h3⟩ := g_step_un noX12 (i := .invokevirtual 230) (len := 3) (jI_X12_shut 2 _ rfl) (gnrV _) h1
  obtain ⟨r1, h1', hx, hc⟩ := g_virt_un lk_X12 nat_all lX12_ok (idx := 230) (mi := 171) (ci := 12) (na := 2) rfl (by decide) mq_X12_settle [(1, 1)] [] (ρ 0) rfl rfl h2
  subst hc
  exact ⟨n2, r1, h1', by omega, hx, h3⟩
theorem bk_X12_shut_5 {ax : zAx} {CE : g_E} {n : Nat} {ρ : Nat → Int} {L : List Nat} {g : Nat → Nat → Int} {r : Option g_V} {h : g_H} (hr : g_run RX12 ax CE cX12_shut n (5, ρ, [], L, g) r h) : ∃ n', n' < n ∧ ((ρ 1 < 41 ∧ g_run RX12 ax CE cX12_shut n' (97, ρ, [], L, (g_up (g_up g (ρ 0).toNat 17 (g_i ((g (ρ 0).toNat 17) - 1))) (ρ 0).toNat 18 (g_i (((g_up g (ρ 0).toNat 17 (g_i ((g (ρ 0).toNat 17) - 1))) (ρ 0).toNat 18) - 1)))) r h) ∨ (¬ (ρ 1 < 41) ∧ g_run RX12 ax CE cX12_shut n' (31, ρ, [], L, (g_up (g_up g (ρ 0).toNat 17 (g_i ((g (ρ 0).toNat 17) - 1))) (ρ 0).toNat 18 (g_i (((g_up g (ρ 0).toNat 17 (g_i ((g (ρ 0).toNat 17) - 1))) (ρ 0).toNat 18) - 1)))) r h)) := by
  obtain ⟨n1, e, h1⟩ := g_blk_ok noX12 jI_X12_shut tab_X12 15 n hr (c2 := (if ρ 1 < 41 then 97 else 31, ρ, [], L, (g_up (g_up g (ρ 0).toNat 17 (g_i ((g (ρ 0).toNat 17) - 1))) (ρ 0).toNat 18 (g_i (((g_up g (ρ 0).toNat 17 (g_i ((g (ρ 0).toNat 17) - 1))) (ρ 0).toNat 18) - 1))))) rfl
  refine ⟨n1, by omega, ?_⟩
  by_cases hc : ρ 1 < 41
  · exact Or.inl ⟨hc, by rw [if_pos hc] at h1; exact h1⟩
  · exact Or.inr ⟨hc, by rw [if_neg hc] at h1; exact h1⟩
theorem bk_X12_shut_31 {ax : zAx} {CE : g_E} {n : Nat} {ρ : Nat → Int} {L : List Nat} {g : Nat → Nat → Int} {r : Option g_V} {h : g_H} (hr : g_run RX12 ax CE cX12_shut n (31, ρ, [], L, g) r h) : ∃ n', n' < n ∧ ((ρ 1 = 41 ∧ g_run RX12 ax CE cX12_shut n' (78, ρ, [(1, ρ 0)], L, (g_up (g_up g (ρ 0).toNat 19 (g_i ((g (ρ 0).toNat 19) - 1))) ((g_up g (ρ 0).toNat 19 (g_i ((g (ρ 0).toNat 19) - 1))) (ρ 0).toNat 2).toNat (g_i ((g_i ((g_i (((g_up g (ρ 0).toNat 19 (g_i ((g (ρ 0).toNat 19) - 1))) (ρ 0).toNat 12) + 97)) + (g_i (2 * ((g_up g (ρ 0).toNat 19 (g_i ((g (ρ 0).toNat 19) - 1))) ((g_up g (ρ 0).toNat 19 (g_i ((g (ρ 0).toNat 19) - 1))) (ρ 0).toNat 16).toNat ((g_up g (ρ 0).toNat 19 (g_i ((g (ρ 0).toNat 19) - 1))) (ρ 0).toNat 19).toNat))))) + 1)).toNat ((g_up g (ρ 0).toNat 19 (g_i ((g (ρ 0).toNat 19) - 1))) (ρ 0).toNat 13))) r h) ∨ (¬ (ρ 1 = 41) ∧ g_run RX12 ax CE cX12_shut n' (83, ρ, [(1, ρ 0)], L, (g_up (g_up g (ρ 0).toNat 19 (g_i ((g (ρ 0).toNat 19) - 1))) ((g_up g (ρ 0).toNat 19 (g_i ((g (ρ 0).toNat 19) - 1))) (ρ 0).toNat 2).toNat (g_i ((g_i ((g_i (((g_up g (ρ 0).toNat 19 (g_i ((g (ρ 0).toNat 19) - 1))) (ρ 0).toNat 12) + 97)) + (g_i (2 * ((g_up g (ρ 0).toNat 19 (g_i ((g (ρ 0).toNat 19) - 1))) ((g_up g (ρ 0).toNat 19 (g_i ((g (ρ 0).toNat 19) - 1))) (ρ 0).toNat 16).toNat ((g_up g (ρ 0).toNat 19 (g_i ((g (ρ 0).toNat 19) - 1))) (ρ 0).toNat 19).toNat))))) + 1)).toNat ((g_up g (ρ 0).toNat 19 (g_i ((g (ρ 0).toNat 19) - 1))) (ρ 0).toNat 13))) r h)) := by
  obtain ⟨n1, e, h1⟩ := g_blk_ok noX12 jI_X12_shut tab_X12 29 n hr (c2 := (if ρ 1 = 41 then 78 else 83, ρ, [(1, ρ 0)], L, (g_up (g_up g (ρ 0).toNat 19 (g_i ((g (ρ 0).toNat 19) - 1))) ((g_up g (ρ 0).toNat 19 (g_i ((g (ρ 0).toNat 19) - 1))) (ρ 0).toNat 2).toNat (g_i ((g_i ((g_i (((g_up g (ρ 0).toNat 19 (g_i ((g (ρ 0).toNat 19) - 1))) (ρ 0).toNat 12) + 97)) + (g_i (2 * ((g_up g (ρ 0).toNat 19 (g_i ((g (ρ 0).toNat 19) - 1))) ((g_up g (ρ 0).toNat 19 (g_i ((g (ρ 0).toNat 19) - 1))) (ρ 0).toNat 16).toNat ((g_up g (ρ 0).toNat 19 (g_i ((g (ρ 0).toNat 19) - 1))) (ρ 0).toNat 19).toNat))))) + 1)).toNat ((g_up g (ρ 0).toNat 19 (g_i ((g (ρ 0).toNat 19) - 1))) (ρ 0).toNat 13)))) rfl
  refine ⟨n1, by omega, ?_⟩
  by_cases hc : ρ 1 = 41
  · exact Or.inl ⟨hc, by rw [if_pos hc] at h1; exact h1⟩
  · exact Or.inr ⟨hc, by rw [if_neg hc] at h1; exact h1⟩
theorem bk_X12_shut_78 {ax : zAx} {CE : g_E} {n : Nat} {ρ : Nat → Int} {s0 : Int} {L : List Nat} {g : Nat → Nat → Int} {r : Option g_V} {h : g_H} (hr : g_run RX12 ax CE cX12_shut n (78, ρ, [(1, s0)], L, g) r h) : ∃ n', n' < n ∧ g_run RX12 ax CE cX12_shut n' (85, ρ, [(1, 31), (1, s0)], L, g) r h := by
  obtain ⟨n1, e, h1⟩ := g_blk_ok noX12 jI_X12_shut tab_X12 2 n hr (c2 := (85, ρ, [(1, 31), (1, s0)], L, g)) rfl
  exact ⟨n1, by omega, h1⟩
theorem bk_X12_shut_83 {ax : zAx} {CE : g_E} {n : Nat} {ρ : Nat → Int} {s0 : Int} {L : List Nat} {g : Nat → Nat → Int} {r : Option g_V} {h : g_H} (hr : g_run RX12 ax CE cX12_shut n (83, ρ, [(1, s0)], L, g) r h) : ∃ n', n' < n ∧ g_run RX12 ax CE cX12_shut n' (85, ρ, [(1, 32), (1, s0)], L, g) r h := by
  obtain ⟨n1, e, h1⟩ := g_blk_ok noX12 jI_X12_shut tab_X12 1 n hr (c2 := (85, ρ, [(1, 32), (1, s0)], L, g)) rfl
  exact ⟨n1, by omega, h1⟩
theorem bk_X12_shut_85 {ax : zAx} {CE : g_E} {n : Nat} {ρ : Nat → Int} {s0 : Int} {s1 : Int} {L : List Nat} {g : Nat → Nat → Int} {r : Option g_V} {h : g_H} (hr : g_run RX12 ax CE cX12_shut n (85, ρ, [(1, s0), (1, s1)], L, g) r h) : ∃ n' r1 h1', n' < n ∧ CE yX12_emit cX12_emit [(0, s1), (1, s0), (2, g (g (ρ 0).toNat 16).toNat (g (ρ 0).toNat 19).toNat)] (L, g) r1 h1' ∧ g_run RX12 ax CE cX12_shut n' (97, ρ, g_push r1 [], h1') r h := by
  obtain ⟨n1, e, h1⟩ := g_blk_ok noX12 jI_X12_shut tab_X12 5 n hr (c2 := (94, ρ, [(1, g (g (ρ 0).toNat 16).toNat (g (ρ 0).toNat 19).toNat), (1, s0), (1, s1)], L, g)) rfl
  obtain ⟨n2, c', e2, h2, h3⟩ := g_step_un noX12 (i := .invokevirtual 206) (len := 3) (jI_X12_shut 94 _ rfl) (gnrV _) h1
  obtain ⟨r1, h1', hx, hc⟩ := g_virt_un lk_X12 nat_all lX12_ok (idx := 206) (mi := 96) (ci := 12) (na := 3) rfl (by decide) mq_X12_emit [(1, s0), (1, g (g (ρ 0).toNat 16).toNat (g (ρ 0).toNat 19).toNat)] [] s1 rfl rfl h2
  subst hc
  exact ⟨n2, r1, h1', by omega, hx, h3⟩
theorem bk_X12_shut_97 {ax : zAx} {CE : g_E} {n : Nat} {ρ : Nat → Int} {L : List Nat} {g : Nat → Nat → Int} {r : Option g_V} {h : g_H} (hr : g_run RX12 ax CE cX12_shut n (97, ρ, [], L, g) r h) : ∃ n' r1 h1', n' < n ∧ CE yX12_nextToken cX12_nextToken [(0, ρ 0)] (L, g) r1 h1' ∧ g_run RX12 ax CE cX12_shut n' (101, ρ, g_push r1 [], h1') r h := by
  obtain ⟨n1, e, h1⟩ := g_blk_ok noX12 jI_X12_shut tab_X12 1 n hr (c2 := (98, ρ, [(1, ρ 0)], L, g)) rfl
  obtain ⟨n2, c', e2, h2, h3⟩ := g_step_un noX12 (i := .invokevirtual 217) (len := 3) (jI_X12_shut 98 _ rfl) (gnrV _) h1
  obtain ⟨r1, h1', hx, hc⟩ := g_virt_un lk_X12 nat_all lX12_ok (idx := 217) (mi := 146) (ci := 12) (na := 1) rfl (by decide) mq_X12_nextToken [] [] (ρ 0) rfl rfl h2
  subst hc
  exact ⟨n2, r1, h1', by omega, hx, h3⟩
theorem bk_X12_shut_101 {ax : zAx} {CE : g_E} {n : Nat} {ρ : Nat → Int} {L : List Nat} {g : Nat → Nat → Int} {r : Option g_V} {h : g_H} (hr : g_run RX12 ax CE cX12_shut n (101, ρ, [], L, g) r h) : ∃ n' r1 h1', n' < n ∧ CE yX12_settle cX12_settle [(0, ρ 0), (1, 7)] (L, g) r1 h1' ∧ g_run RX12 ax CE cX12_shut n' (107, ρ, g_push r1 [], h1') r h := by
  obtain ⟨n1, e, h1⟩ := g_blk_ok noX12 jI_X12_shut tab_X12 2 n hr (c2 := (104, ρ, [(1, 7), (1, ρ 0)], L, g)) rfl
  obtain ⟨n2, c', e2, h2, h3⟩ := g_step_un noX12 (i := .invokevirtual 230) (len := 3) (jI_X12_shut 104 _ rfl) (gnrV _) h1
  obtain ⟨r1, h1', hx, hc⟩ := g_virt_un lk_X12 nat_all lX12_ok (idx := 230) (mi := 171) (ci := 12) (na := 2) rfl (by decide) mq_X12_settle [(1, 7)] [] (ρ 0) rfl rfl h2
  subst hc
  exact ⟨n2, r1, h1', by omega, hx, h3⟩
theorem bk_X12_shut_107 {ax : zAx} {CE : g_E} {n : Nat} {ρ : Nat → Int} {L : List Nat} {g : Nat → Nat → Int} {r : Option g_V} {h : g_H} (hr : g_run RX12 ax CE cX12_shut n (107, ρ, [], L, g) r h) : r = none ∧ h = (L, g) := by
  obtain ⟨n1, e, h1⟩ := g_blk_ok noX12 jI_X12_shut tab_X12 0 n hr (c2 := (107, ρ, [], L, g)) rfl
  exact g_retv_un noX12 (jI_X12_shut 107 _ rfl) h1
theorem pt_X12_shut_0 {ax : zAx} {CE : g_E} (hCE : ∀ y cc as h r h', CE y cc as h r h' → g_ex ax y cc as h r h') {n : Nat} {ρ : Nat → Int} {L : List Nat} {g : Nat → Nat → Int} {r : Option g_V} {h : g_H} (h0 : g_run RX12 ax CE cX12_shut n (0, ρ, [], L, g) r h) : (∃ n' r1 h1', n' < n ∧ CE yX12_settle cX12_settle [(0, (ρ 0)), (1, 1)] (L, g) r1 h1' ∧ g_run RX12 ax CE cX12_shut n' (5, ρ, g_push r1 [], h1') r h) := by
  obtain ⟨n1, r1, k1, l1, x1, h1⟩ := bk_X12_shut_0 h0
  exact ⟨n1, r1, k1, by omega, x1, h1⟩
theorem pt_X12_shut_5 {ax : zAx} {CE : g_E} (hCE : ∀ y cc as h r h', CE y cc as h r h' → g_ex ax y cc as h r h') {n : Nat} {ρ : Nat → Int} {L : List Nat} {g : Nat → Nat → Int} {r : Option g_V} {h : g_H} (h0 : g_run RX12 ax CE cX12_shut n (5, ρ, [], L, g) r h) : (((ρ 1) < 41 ∧ (∃ n' r1 h1', n' < n ∧ CE yX12_nextToken cX12_nextToken [(0, (ρ 0))] (L, (g_up (g_up g (ρ 0).toNat 17 (g_i ((g (ρ 0).toNat 17) - 1))) (ρ 0).toNat 18 (g_i ((g (ρ 0).toNat 18) - 1)))) r1 h1' ∧ g_run RX12 ax CE cX12_shut n' (101, ρ, g_push r1 [], h1') r h)) ∨ (¬ ((ρ 1) < 41) ∧ (((ρ 1) = 41 ∧ (∃ n' r1 h1', n' < n ∧ CE yX12_nextToken cX12_nextToken [(0, (ρ 0))] (L, (F_X12_emit (ρ 0) 31 ((g_up (g_up (g_up (g_up g (ρ 0).toNat 17 (g_i ((g (ρ 0).toNat 17) - 1))) (ρ 0).toNat 18 (g_i ((g (ρ 0).toNat 18) - 1))) (ρ 0).toNat 19 (g_i ((g (ρ 0).toNat 19) - 1))) (g (ρ 0).toNat 2).toNat (g_i ((g_i ((g_i ((g (ρ 0).toNat 12) + 97)) + (g_i (2 * ((g_up (g_up (g_up g (ρ 0).toNat 17 (g_i ((g (ρ 0).toNat 17) - 1))) (ρ 0).toNat 18 (g_i ((g (ρ 0).toNat 18) - 1))) (ρ 0).toNat 19 (g_i ((g (ρ 0).toNat 19) - 1))) (g (ρ 0).toNat 16).toNat ((g_up (g_up (g_up g (ρ 0).toNat 17 (g_i ((g (ρ 0).toNat 17) - 1))) (ρ 0).toNat 18 (g_i ((g (ρ 0).toNat 18) - 1))) (ρ 0).toNat 19 (g_i ((g (ρ 0).toNat 19) - 1))) (ρ 0).toNat 19).toNat))))) + 1)).toNat (g (ρ 0).toNat 13)) ((g_up (g_up (g_up (g_up g (ρ 0).toNat 17 (g_i ((g (ρ 0).toNat 17) - 1))) (ρ 0).toNat 18 (g_i ((g (ρ 0).toNat 18) - 1))) (ρ 0).toNat 19 (g_i ((g (ρ 0).toNat 19) - 1))) (g (ρ 0).toNat 2).toNat (g_i ((g_i ((g_i ((g (ρ 0).toNat 12) + 97)) + (g_i (2 * ((g_up (g_up (g_up g (ρ 0).toNat 17 (g_i ((g (ρ 0).toNat 17) - 1))) (ρ 0).toNat 18 (g_i ((g (ρ 0).toNat 18) - 1))) (ρ 0).toNat 19 (g_i ((g (ρ 0).toNat 19) - 1))) (g (ρ 0).toNat 16).toNat ((g_up (g_up (g_up g (ρ 0).toNat 17 (g_i ((g (ρ 0).toNat 17) - 1))) (ρ 0).toNat 18 (g_i ((g (ρ 0).toNat 18) - 1))) (ρ 0).toNat 19 (g_i ((g (ρ 0).toNat 19) - 1))) (ρ 0).toNat 19).toNat))))) + 1)).toNat (g (ρ 0).toNat 13)) (ρ 0).toNat 16).toNat ((g_up (g_up (g_up (g_up g (ρ 0).toNat 17 (g_i ((g (ρ 0).toNat 17) - 1))) (ρ 0).toNat 18 (g_i ((g (ρ 0).toNat 18) - 1))) (ρ 0).toNat 19 (g_i ((g (ρ 0).toNat 19) - 1))) (g (ρ 0).toNat 2).toNat (g_i ((g_i ((g_i ((g (ρ 0).toNat 12) + 97)) + (g_i (2 * ((g_up (g_up (g_up g (ρ 0).toNat 17 (g_i ((g (ρ 0).toNat 17) - 1))) (ρ 0).toNat 18 (g_i ((g (ρ 0).toNat 18) - 1))) (ρ 0).toNat 19 (g_i ((g (ρ 0).toNat 19) - 1))) (g (ρ 0).toNat 16).toNat ((g_up (g_up (g_up g (ρ 0).toNat 17 (g_i ((g (ρ 0).toNat 17) - 1))) (ρ 0).toNat 18 (g_i ((g (ρ 0).toNat 18) - 1))) (ρ 0).toNat 19 (g_i ((g (ρ 0).toNat 19) - 1))) (ρ 0).toNat 19).toNat))))) + 1)).toNat (g (ρ 0).toNat 13)) (ρ 0).toNat 19).toNat) (g_up (g_up (g_up (g_up g (ρ 0).toNat 17 (g_i ((g (ρ 0).toNat 17) - 1))) (ρ 0).toNat 18 (g_i ((g (ρ 0).toNat 18) - 1))) (ρ 0).toNat 19 (g_i ((g (ρ 0).toNat 19) - 1))) (g (ρ 0).toNat 2).toNat (g_i ((g_i ((g_i ((g (ρ 0).toNat 12) + 97)) + (g_i (2 * ((g_up (g_up (g_up g (ρ 0).toNat 17 (g_i ((g (ρ 0).toNat 17) - 1))) (ρ 0).toNat 18 (g_i ((g (ρ 0).toNat 18) - 1))) (ρ 0).toNat 19 (g_i ((g (ρ 0).toNat 19) - 1))) (g (ρ 0).toNat 16).toNat ((g_up (g_up (g_up g (ρ 0).toNat 17 (g_i ((g (ρ 0).toNat 17) - 1))) (ρ 0).toNat 18 (g_i ((g (ρ 0).toNat 18) - 1))) (ρ 0).toNat 19 (g_i ((g (ρ 0).toNat 19) - 1))) (ρ 0).toNat 19).toNat))))) + 1)).toNat (g (ρ 0).toNat 13)))) r1 h1' ∧ g_run RX12 ax CE cX12_shut n' (101, ρ, g_push r1 [], h1') r h)) ∨ (¬ ((ρ 1) = 41) ∧ (∃ n' r1 h1', n' < n ∧ CE yX12_nextToken cX12_nextToken [(0, (ρ 0))] (L, (F_X12_emit (ρ 0) 32 ((g_up (g_up (g_up (g_up g (ρ 0).toNat 17 (g_i ((g (ρ 0).toNat 17) - 1))) (ρ 0).toNat 18 (g_i ((g (ρ 0).toNat 18) - 1))) (ρ 0).toNat 19 (g_i ((g (ρ 0).toNat 19) - 1))) (g (ρ 0).toNat 2).toNat (g_i ((g_i ((g_i ((g (ρ 0).toNat 12) + 97)) + (g_i (2 * ((g_up (g_up (g_up g (ρ 0).toNat 17 (g_i ((g (ρ 0).toNat 17) - 1))) (ρ 0).toNat 18 (g_i ((g (ρ 0).toNat 18) - 1))) (ρ 0).toNat 19 (g_i ((g (ρ 0).toNat 19) - 1))) (g (ρ 0).toNat 16).toNat ((g_up (g_up (g_up g (ρ 0).toNat 17 (g_i ((g (ρ 0).toNat 17) - 1))) (ρ 0).toNat 18 (g_i ((g (ρ 0).toNat 18) - 1))) (ρ 0).toNat 19 (g_i ((g (ρ 0).toNat 19) - 1))) (ρ 0).toNat 19).toNat))))) + 1)).toNat (g (ρ 0).toNat 13)) ((g_up (g_up (g_up (g_up g (ρ 0).toNat 17 (g_i ((g (ρ 0).toNat 17) - 1))) (ρ 0).toNat 18 (g_i ((g (ρ 0).toNat 18) - 1))) (ρ 0).toNat 19 (g_i ((g (ρ 0).toNat 19) - 1))) (g (ρ 0).toNat 2).toNat (g_i ((g_i ((g_i ((g (ρ 0).toNat 12) + 97)) + (g_i (2 * ((g_up (g_up (g_up g (ρ 0).toNat 17 (g_i ((g (ρ 0).toNat 17) - 1))) (ρ 0).toNat 18 (g_i ((g (ρ 0).toNat 18) - 1))) (ρ 0).toNat 19 (g_i ((g (ρ 0).toNat 19) - 1))) (g (ρ 0).toNat 16).toNat ((g_up (g_up (g_up g (ρ 0).toNat 17 (g_i ((g (ρ 0).toNat 17) - 1))) (ρ 0).toNat 18 (g_i ((g (ρ 0).toNat 18) - 1))) (ρ 0).toNat 19 (g_i ((g (ρ 0).toNat 19) - 1))) (ρ 0).toNat 19).toNat))))) + 1)).toNat (g (ρ 0).toNat 13)) (ρ 0).toNat 16).toNat ((g_up (g_up (g_up (g_up g (ρ 0).toNat 17 (g_i ((g (ρ 0).toNat 17) - 1))) (ρ 0).toNat 18 (g_i ((g (ρ 0).toNat 18) - 1))) (ρ 0).toNat 19 (g_i ((g (ρ 0).toNat 19) - 1))) (g (ρ 0).toNat 2).toNat (g_i ((g_i ((g_i ((g (ρ 0).toNat 12) + 97)) + (g_i (2 * ((g_up (g_up (g_up g (ρ 0).toNat 17 (g_i ((g (ρ 0).toNat 17) - 1))) (ρ 0).toNat 18 (g_i ((g (ρ 0).toNat 18) - 1))) (ρ 0).toNat 19 (g_i ((g (ρ 0).toNat 19) - 1))) (g (ρ 0).toNat 16).toNat ((g_up (g_up (g_up g (ρ 0).toNat 17 (g_i ((g (ρ 0).toNat 17) - 1))) (ρ 0).toNat 18 (g_i ((g (ρ 0).toNat 18) - 1))) (ρ 0).toNat 19 (g_i ((g (ρ 0).toNat 19) - 1))) (ρ 0).toNat 19).toNat))))) + 1)).toNat (g (ρ 0).toNat 13)) (ρ 0).toNat 19).toNat) (g_up (g_up (g_up (g_up g (ρ 0).toNat 17 (g_i ((g (ρ 0).toNat 17) - 1))) (ρ 0).toNat 18 (g_i ((g (ρ 0).toNat 18) - 1))) (ρ 0).toNat 19 (g_i ((g (ρ 0).toNat 19) - 1))) (g (ρ 0).toNat 2).toNat (g_i ((g_i ((g_i ((g (ρ 0).toNat 12) + 97)) + (g_i (2 * ((g_up (g_up (g_up g (ρ 0).toNat 17 (g_i ((g (ρ 0).toNat 17) - 1))) (ρ 0).toNat 18 (g_i ((g (ρ 0).toNat 18) - 1))) (ρ 0).toNat 19 (g_i ((g (ρ 0).toNat 19) - 1))) (g (ρ 0).toNat 16).toNat ((g_up (g_up (g_up g (ρ 0).toNat 17 (g_i ((g (ρ 0).toNat 17) - 1))) (ρ 0).toNat 18 (g_i ((g (ρ 0).toNat 18) - 1))) (ρ 0).toNat 19 (g_i ((g (ρ 0).toNat 19) - 1))) (ρ 0).toNat 19).toNat))))) + 1)).toNat (g (ρ 0).toNat 13)))) r1 h1' ∧ g_run RX12 ax CE cX12_shut n' (101, ρ, g_push r1 [], h1') r h))))) := by
  obtain ⟨n1, l1, h1⟩ := bk_X12_shut_5 h0
  rcases h1 with ⟨c1, h1⟩ | ⟨c1, h1⟩
  · refine Or.inl ⟨c1, ?_⟩
    obtain ⟨n2, r2, k2, l2, x2, h2⟩ := bk_X12_shut_97 h1
    exact ⟨n2, r2, k2, by omega, x2, h2⟩
  · refine Or.inr ⟨c1, ?_⟩
    obtain ⟨n3, l3, h3⟩ := bk_X12_shut_31 h1
    rcases h3 with ⟨c3, h3⟩ | ⟨c3, h3⟩
    · refine Or.inl ⟨c3, ?_⟩
      obtain ⟨n4, l4, h4⟩ := bk_X12_shut_78 h3
      obtain ⟨n5, r5, k5, l5, x5, h5⟩ := bk_X12_shut_85 h4
      obtain ⟨e5, d5⟩ := f_X12_emit (hCE _ _ _ _ _ _ x5)
      subst e5
      subst d5
      obtain ⟨n6, r6, k6, l6, x6, h6⟩ := bk_X12_shut_97 h5
      exact ⟨n6, r6, k6, by omega, x6, h6⟩
    · refine Or.inr ⟨c3, ?_⟩
      obtain ⟨n7, l7, h7⟩ := bk_X12_shut_83 h3
      obtain ⟨n8, r8, k8, l8, x8, h8⟩ := bk_X12_shut_85 h7
      obtain ⟨e8, d8⟩ := f_X12_emit (hCE _ _ _ _ _ _ x8)
      subst e8
      subst d8
      obtain ⟨n9, r9, k9, l9, x9, h9⟩ := bk_X12_shut_97 h8
      exact ⟨n9, r9, k9, by omega, x9, h9⟩
theorem pt_X12_shut_101 {ax : zAx} {CE : g_E} (hCE : ∀ y cc as h r h', CE y cc as h r h' → g_ex ax y cc as h r h') {n : Nat} {ρ : Nat → Int} {L : List Nat} {g : Nat → Nat → Int} {r : Option g_V} {h : g_H} (h0 : g_run RX12 ax CE cX12_shut n (101, ρ, [], L, g) r h) : (∃ n' r1 h1', n' < n ∧ CE yX12_settle cX12_settle [(0, (ρ 0)), (1, 7)] (L, g) r1 h1' ∧ g_run RX12 ax CE cX12_shut n' (107, ρ, g_push r1 [], h1') r h) := by
  obtain ⟨n1, r1, k1, l1, x1, h1⟩ := bk_X12_shut_101 h0
  exact ⟨n1, r1, k1, by omega, x1, h1⟩
theorem pt_X12_shut_107 {ax : zAx} {CE : g_E} (hCE : ∀ y cc as h r h', CE y cc as h r h' → g_ex ax y cc as h r h') {n : Nat} {ρ : Nat → Int} {L : List Nat} {g : Nat → Nat → Int} {r : Option g_V} {h : g_H} (h0 : g_run RX12 ax CE cX12_shut n (107, ρ, [], L, g) r h) : (r = none ∧ h = (L, g)) := by
  obtain ⟨e1, d1⟩ := bk_X12_shut_107 h0
  exact ⟨e1, d1⟩

theorem jI_X12_behindOne : ∀ (pc : Nat) (q : Instr × Nat), lkp iX12_behindOne pc = some q → decode cX12_behindOne pc = .ok q := fun pc q hq => jX12_behindOne (pc, q) (lkp_in iX12_behindOne hq)
theorem bk_X12_behindOne_0 {ax : zAx} {CE : g_E} {n : Nat} {ρ : Nat → Int} {L : List Nat} {g : Nat → Nat → Int} {r : Option g_V} {h : g_H} (hr : g_run RX12 ax CE cX12_behindOne n (0, ρ, [], L, g) r h) : ∃ n' r1 h1', n' < n ∧ CE yX12_betweenOf cX12_betweenOf [(0, ρ 0)] (L, g) r1 h1' ∧ g_run RX12 ax CE cX12_behindOne n' (4, ρ, g_push r1 [], h1') r h := by
  obtain ⟨n1, e, h1⟩ := g_blk_ok noX12 jI_X12_behindOne tab_X12 1 n hr (c2 := (1, ρ, [(1, ρ 0)], L, g)) rfl
  obtain ⟨n2, c', e2, h2, h3⟩ := g_step_un noX12 (i := .invokevirtual 250) (len := 3) (jI_X12_behindOne 1 _ rfl) (gnrV _) h1
  obtain ⟨r1, h1', hx, hc⟩ := g_virt_un lk_X12 nat_all lX12_ok (idx := 250) (mi := 79) (ci := 12) (na := 1) rfl (by decide) mq_X12_betweenOf [] [] (ρ 0) rfl rfl h2
  subst hc
  exact ⟨n2, r1, h1', by omega, hx, h3⟩
theorem bk_X12_behindOne_4 {ax : zAx} {CE : g_E} {n : Nat} {ρ : Nat → Int} {s0 : Int} {L : List Nat} {g : Nat → Nat → Int} {r : Option g_V} {h : g_H} (hr : g_run RX12 ax CE cX12_behindOne n (4, ρ, [(1, s0)], L, g) r h) : ∃ n', n' < n ∧ ((s0 < 0 ∧ g_run RX12 ax CE cX12_behindOne n' (48, (va_up ρ 1 s0), [], L, g) r h) ∨ (¬ (s0 < 0) ∧ g_run RX12 ax CE cX12_behindOne n' (9, (va_up ρ 1 s0), [], L, g) r h)) := by
  obtain ⟨n1, e, h1⟩ := g_blk_ok noX12 jI_X12_behindOne tab_X12 3 n hr (c2 := (if s0 < 0 then 48 else 9, (va_up ρ 1 s0), [], L, g)) rfl
  refine ⟨n1, by omega, ?_⟩
  by_cases hc : s0 < 0
  · exact Or.inl ⟨hc, by rw [if_pos hc] at h1; exact h1⟩
  · exact Or.inr ⟨hc, by rw [if_neg hc] at h1; exact h1⟩
theorem bk_X12_behindOne_9 {ax : zAx} {CE : g_E} {n : Nat} {ρ : Nat → Int} {L : List Nat} {g : Nat → Nat → Int} {r : Option g_V} {h : g_H} (hr : g_run RX12 ax CE cX12_behindOne n (9, ρ, [], L, g) r h) : ∃ n' r1 h1', n' < n ∧ CE yX12_rank cX12_rank [(0, ρ 1)] (L, g) r1 h1' ∧ g_run RX12 ax CE cX12_behindOne n' (14, ρ, g_push r1 [(1, ρ 0)], h1') r h := by
  obtain ⟨n1, e, h1⟩ := g_blk_ok noX12 jI_X12_behindOne tab_X12 2 n hr (c2 := (11, ρ, [(1, ρ 1), (1, ρ 0)], L, g)) rfl
  obtain ⟨n2, c', e2, h2, h3⟩ := g_step_un noX12 (i := .invokestatic 203) (len := 3) (jI_X12_behindOne 11 _ rfl) (gnrS _) h1
  obtain ⟨r1, h1', hx, hc⟩ := g_static_un lk_X12 nat_all lX12_ok (idx := 203) (mode := 1) (mi := 166) (ci := 0) (na := 1) rfl (by decide) (by decide) mq_X12_rank [(1, ρ 1)] [(1, ρ 0)] rfl rfl h2
  subst hc
  exact ⟨n2, r1, h1', by omega, hx, h3⟩
theorem bk_X12_behindOne_14 {ax : zAx} {CE : g_E} {n : Nat} {ρ : Nat → Int} {s0 : Int} {s1 : Int} {L : List Nat} {g : Nat → Nat → Int} {r : Option g_V} {h : g_H} (hr : g_run RX12 ax CE cX12_behindOne n (14, ρ, [(1, s0), (1, s1)], L, g) r h) : ∃ n' r1 h1', n' < n ∧ CE yX12_settle cX12_settle [(0, s1), (1, s0)] (L, g) r1 h1' ∧ g_run RX12 ax CE cX12_behindOne n' (17, ρ, g_push r1 [], h1') r h := by
  obtain ⟨n1, e, h1⟩ := g_blk_ok noX12 jI_X12_behindOne tab_X12 0 n hr (c2 := (14, ρ, [(1, s0), (1, s1)], L, g)) rfl
  obtain ⟨n2, c', e2, h2, h3⟩ := g_step_un noX12 (i := .invokevirtual 230) (len := 3) (jI_X12_behindOne 14 _ rfl) (gnrV _) h1
  obtain ⟨r1, h1', hx, hc⟩ := g_virt_un lk_X12 nat_all lX12_ok (idx := 230) (mi := 171) (ci := 12) (na := 2) rfl (by decide) mq_X12_settle [(1, s0)] [] s1 rfl rfl h2
  subst hc
  exact ⟨n2, r1, h1', by omega, hx, h3⟩
theorem bk_X12_behindOne_17 {ax : zAx} {CE : g_E} {n : Nat} {ρ : Nat → Int} {L : List Nat} {g : Nat → Nat → Int} {r : Option g_V} {h : g_H} (hr : g_run RX12 ax CE cX12_behindOne n (17, ρ, [], L, g) r h) : ∃ n' r1 h1', n' < n ∧ CE yX12_nextToken cX12_nextToken [(0, ρ 0)] (L, (g_up (g_up (g_up g (g (ρ 0).toNat 15).toNat (g (ρ 0).toNat 17).toNat (ρ 1)) (ρ 0).toNat 17 (g_i (((g_up g (g (ρ 0).toNat 15).toNat (g (ρ 0).toNat 17).toNat (ρ 1)) (ρ 0).toNat 17) + 1))) (ρ 0).toNat 20 0)) r1 h1' ∧ g_run RX12 ax CE cX12_behindOne n' (46, ρ, g_push r1 [], h1') r h := by
  obtain ⟨n1, e, h1⟩ := g_blk_ok noX12 jI_X12_behindOne tab_X12 16 n hr (c2 := (43, ρ, [(1, ρ 0)], L, (g_up (g_up (g_up g (g (ρ 0).toNat 15).toNat (g (ρ 0).toNat 17).toNat (ρ 1)) (ρ 0).toNat 17 (g_i (((g_up g (g (ρ 0).toNat 15).toNat (g (ρ 0).toNat 17).toNat (ρ 1)) (ρ 0).toNat 17) + 1))) (ρ 0).toNat 20 0))) rfl
  obtain ⟨n2, c', e2, h2, h3⟩ := g_step_un noX12 (i := .invokevirtual 217) (len := 3) (jI_X12_behindOne 43 _ rfl) (gnrV _) h1
  obtain ⟨r1, h1', hx, hc⟩ := g_virt_un lk_X12 nat_all lX12_ok (idx := 217) (mi := 146) (ci := 12) (na := 1) rfl (by decide) mq_X12_nextToken [] [] (ρ 0) rfl rfl h2
  subst hc
  exact ⟨n2, r1, h1', by omega, hx, h3⟩
theorem bk_X12_behindOne_46 {ax : zAx} {CE : g_E} {n : Nat} {ρ : Nat → Int} {L : List Nat} {g : Nat → Nat → Int} {r : Option g_V} {h : g_H} (hr : g_run RX12 ax CE cX12_behindOne n (46, ρ, [], L, g) r h) : r = some (1, 1) ∧ h = (L, g) := by
  obtain ⟨n1, e, h1⟩ := g_blk_ok noX12 jI_X12_behindOne tab_X12 1 n hr (c2 := (47, ρ, [(1, 1)], L, g)) rfl
  exact g_ret_un noX12 (i := .ireturn) (jI_X12_behindOne 47 _ rfl) (by decide) h1
theorem bk_X12_behindOne_48 {ax : zAx} {CE : g_E} {n : Nat} {ρ : Nat → Int} {L : List Nat} {g : Nat → Nat → Int} {r : Option g_V} {h : g_H} (hr : g_run RX12 ax CE cX12_behindOne n (48, ρ, [], L, g) r h) : ∃ n' r1 h1', n' < n ∧ CE yX12_openNow cX12_openNow [(0, ρ 0)] (L, g) r1 h1' ∧ g_run RX12 ax CE cX12_behindOne n' (52, ρ, g_push r1 [], h1') r h := by
  obtain ⟨n1, e, h1⟩ := g_blk_ok noX12 jI_X12_behindOne tab_X12 1 n hr (c2 := (49, ρ, [(1, ρ 0)], L, g)) rfl
  obtain ⟨n2, c', e2, h2, h3⟩ := g_step_un noX12 (i := .invokevirtual 213) (len := 3) (jI_X12_behindOne 49 _ rfl) (gnrV _) h1
  obtain ⟨r1, h1', hx, hc⟩ := g_virt_un lk_X12 nat_all lX12_ok (idx := 213) (mi := 151) (ci := 12) (na := 1) rfl (by decide) mq_X12_openNow [] [] (ρ 0) rfl rfl h2
  subst hc
  exact ⟨n2, r1, h1', by omega, hx, h3⟩
theorem bk_X12_behindOne_52 {ax : zAx} {CE : g_E} {n : Nat} {ρ : Nat → Int} {s0 : Int} {L : List Nat} {g : Nat → Nat → Int} {r : Option g_V} {h : g_H} (hr : g_run RX12 ax CE cX12_behindOne n (52, ρ, [(1, s0)], L, g) r h) : ∃ n', n' < n ∧ ((s0 = 40 ∧ g_run RX12 ax CE cX12_behindOne n' (59, (va_up ρ 2 s0), [], L, g) r h) ∨ (¬ (s0 = 40) ∧ g_run RX12 ax CE cX12_behindOne n' (76, (va_up ρ 2 s0), [], L, g) r h)) := by
  obtain ⟨n1, e, h1⟩ := g_blk_ok noX12 jI_X12_behindOne tab_X12 4 n hr (c2 := (if s0 = 40 then 59 else 76, (va_up ρ 2 s0), [], L, g)) rfl
  refine ⟨n1, by omega, ?_⟩
  by_cases hc : s0 = 40
  · exact Or.inl ⟨hc, by rw [if_pos hc] at h1; exact h1⟩
  · exact Or.inr ⟨hc, by rw [if_neg hc] at h1; exact h1⟩
theorem bk_X12_behindOne_59 {ax : zAx} {CE : g_E} {n : Nat} {ρ : Nat → Int} {L : List Nat} {g : Nat → Nat → Int} {r : Option g_V} {h : g_H} (hr : g_run RX12 ax CE cX12_behindOne n (59, ρ, [], L, g) r h) : ∃ n', n' < n ∧ ((g (ρ 0).toNat 9 = 41 ∧ g_run RX12 ax CE cX12_behindOne n' (68, ρ, [], L, g) r h) ∨ (¬ (g (ρ 0).toNat 9 = 41) ∧ g_run RX12 ax CE cX12_behindOne n' (72, ρ, [], L, g) r h)) := by
  obtain ⟨n1, e, h1⟩ := g_blk_ok noX12 jI_X12_behindOne tab_X12 4 n hr (c2 := (if g (ρ 0).toNat 9 = 41 then 68 else 72, ρ, [], L, g)) rfl
  refine ⟨n1, by omega, ?_⟩
  by_cases hc : g (ρ 0).toNat 9 = 41
  · exact Or.inl ⟨hc, by rw [if_pos hc] at h1; exact h1⟩
  · exact Or.inr ⟨hc, by rw [if_neg hc] at h1; exact h1⟩
theorem bk_X12_behindOne_68 {ax : zAx} {CE : g_E} {n : Nat} {ρ : Nat → Int} {L : List Nat} {g : Nat → Nat → Int} {r : Option g_V} {h : g_H} (hr : g_run RX12 ax CE cX12_behindOne n (68, ρ, [], L, g) r h) : ∃ n', n' < n ∧ g_run RX12 ax CE cX12_behindOne n' (114, ρ, [(1, 1)], L, g) r h := by
  obtain ⟨n1, e, h1⟩ := g_blk_ok noX12 jI_X12_behindOne tab_X12 2 n hr (c2 := (114, ρ, [(1, 1)], L, g)) rfl
  exact ⟨n1, by omega, h1⟩
theorem bk_X12_behindOne_72 {ax : zAx} {CE : g_E} {n : Nat} {ρ : Nat → Int} {L : List Nat} {g : Nat → Nat → Int} {r : Option g_V} {h : g_H} (hr : g_run RX12 ax CE cX12_behindOne n (72, ρ, [], L, g) r h) : ∃ n', n' < n ∧ g_run RX12 ax CE cX12_behindOne n' (114, ρ, [(1, 0)], L, g) r h := by
  obtain ⟨n1, e, h1⟩ := g_blk_ok noX12 jI_X12_behindOne tab_X12 2 n hr (c2 := (114, ρ, [(1, 0)], L, g)) rfl
  exact ⟨n1, by omega, h1⟩
theorem bk_X12_behindOne_76 {ax : zAx} {CE : g_E} {n : Nat} {ρ : Nat → Int} {L : List Nat} {g : Nat → Nat → Int} {r : Option g_V} {h : g_H} (hr : g_run RX12 ax CE cX12_behindOne n (76, ρ, [], L, g) r h) : ∃ n', n' < n ∧ ((ρ 2 < 0 ∧ g_run RX12 ax CE cX12_behindOne n' (113, ρ, [], L, g) r h) ∨ (¬ (ρ 2 < 0) ∧ g_run RX12 ax CE cX12_behindOne n' (80, ρ, [], L, g) r h)) := by
  obtain ⟨n1, e, h1⟩ := g_blk_ok noX12 jI_X12_behindOne tab_X12 2 n hr (c2 := (if ρ 2 < 0 then 113 else 80, ρ, [], L, g)) rfl
  refine ⟨n1, by omega, ?_⟩
  by_cases hc : ρ 2 < 0
  · exact Or.inl ⟨hc, by rw [if_pos hc] at h1; exact h1⟩
  · exact Or.inr ⟨hc, by rw [if_neg hc] at h1; exact h1⟩
theorem bk_X12_behindOne_80 {ax : zAx} {CE : g_E} {n : Nat} {ρ : Nat → Int} {L : List Nat} {g : Nat → Nat → Int} {r : Option g_V} {h : g_H} (hr : g_run RX12 ax CE cX12_behindOne n (80, ρ, [], L, g) r h) : ∃ n' r1 h1', n' < n ∧ CE yX12_w3 cX12_w3 [(0, 101), (1, 110), (2, 100)] (L, g) r1 h1' ∧ g_run RX12 ax CE cX12_behindOne n' (90, ρ, g_push r1 [(1, ρ 0)], h1') r h := by
  obtain ⟨n1, e, h1⟩ := g_blk_ok noX12 jI_X12_behindOne tab_X12 4 n hr (c2 := (87, ρ, [(1, 100), (1, 110), (1, 101), (1, ρ 0)], L, g)) rfl
  obtain ⟨n2, c', e2, h2, h3⟩ := g_step_un noX12 (i := .invokestatic 176) (len := 3) (jI_X12_behindOne 87 _ rfl) (gnrS _) h1
  obtain ⟨r1, h1', hx, hc⟩ := g_static_un lk_X12 nat_all lX12_ok (idx := 176) (mode := 1) (mi := 191) (ci := 0) (na := 3) rfl (by decide) (by decide) mq_X12_w3 [(1, 101), (1, 110), (1, 100)] [(1, ρ 0)] rfl rfl h2
  subst hc
  exact ⟨n2, r1, h1', by omega, hx, h3⟩
theorem bk_X12_behindOne_90 {ax : zAx} {CE : g_E} {n : Nat} {ρ : Nat → Int} {s0 : Int} {s1 : Int} {L : List Nat} {g : Nat → Nat → Int} {r : Option g_V} {h : g_H} (hr : g_run RX12 ax CE cX12_behindOne n (90, ρ, [(2, s0), (1, s1)], L, g) r h) : ∃ n' r1 h1', n' < n ∧ CE yX12_isWord cX12_isWord [(0, s1), (1, s0)] (L, g) r1 h1' ∧ g_run RX12 ax CE cX12_behindOne n' (93, ρ, g_push r1 [], h1') r h := by
  obtain ⟨n1, e, h1⟩ := g_blk_ok noX12 jI_X12_behindOne tab_X12 0 n hr (c2 := (90, ρ, [(2, s0), (1, s1)], L, g)) rfl
  obtain ⟨n2, c', e2, h2, h3⟩ := g_step_un noX12 (i := .invokevirtual 236) (len := 3) (jI_X12_behindOne 90 _ rfl) (gnrV _) h1
  obtain ⟨r1, h1', hx, hc⟩ := g_virt_un lk_X12 nat_all lX12_ok (idx := 236) (mi := 132) (ci := 12) (na := 2) rfl (by decide) mq_X12_isWord [(2, s0)] [] s1 rfl rfl h2
  subst hc
  exact ⟨n2, r1, h1', by omega, hx, h3⟩
theorem bk_X12_behindOne_93 {ax : zAx} {CE : g_E} {n : Nat} {ρ : Nat → Int} {s0 : Int} {L : List Nat} {g : Nat → Nat → Int} {r : Option g_V} {h : g_H} (hr : g_run RX12 ax CE cX12_behindOne n (93, ρ, [(1, s0)], L, g) r h) : ∃ n', n' < n ∧ ((s0 = 0 ∧ g_run RX12 ax CE cX12_behindOne n' (113, ρ, [], L, g) r h) ∨ (¬ (s0 = 0) ∧ g_run RX12 ax CE cX12_behindOne n' (96, ρ, [], L, g) r h)) := by
  obtain ⟨n1, e, h1⟩ := g_blk_ok noX12 jI_X12_behindOne tab_X12 1 n hr (c2 := (if s0 = 0 then 113 else 96, ρ, [], L, g)) rfl
  refine ⟨n1, by omega, ?_⟩
  by_cases hc : s0 = 0
  · exact Or.inl ⟨hc, by rw [if_pos hc] at h1; exact h1⟩
  · exact Or.inr ⟨hc, by rw [if_neg hc] at h1; exact h1⟩
theorem bk_X12_behindOne_96 {ax : zAx} {CE : g_E} {n : Nat} {ρ : Nat → Int} {L : List Nat} {g : Nat → Nat → Int} {r : Option g_V} {h : g_H} (hr : g_run RX12 ax CE cX12_behindOne n (96, ρ, [], L, g) r h) : ∃ n', n' < n ∧ ((ρ 2 = 41 ∧ g_run RX12 ax CE cX12_behindOne n' (109, ρ, [], L, g) r h) ∨ (¬ (ρ 2 = 41) ∧ g_run RX12 ax CE cX12_behindOne n' (102, ρ, [], L, g) r h)) := by
  obtain ⟨n1, e, h1⟩ := g_blk_ok noX12 jI_X12_behindOne tab_X12 3 n hr (c2 := (if ρ 2 = 41 then 109 else 102, ρ, [], L, g)) rfl
  refine ⟨n1, by omega, ?_⟩
  by_cases hc : ρ 2 = 41
  · exact Or.inl ⟨hc, by rw [if_pos hc] at h1; exact h1⟩
  · exact Or.inr ⟨hc, by rw [if_neg hc] at h1; exact h1⟩
theorem bk_X12_behindOne_102 {ax : zAx} {CE : g_E} {n : Nat} {ρ : Nat → Int} {L : List Nat} {g : Nat → Nat → Int} {r : Option g_V} {h : g_H} (hr : g_run RX12 ax CE cX12_behindOne n (102, ρ, [], L, g) r h) : ∃ n' r1 h1', n' < n ∧ CE yX12_isCompared cX12_isCompared [(0, ρ 0)] (L, g) r1 h1' ∧ g_run RX12 ax CE cX12_behindOne n' (106, ρ, g_push r1 [], h1') r h := by
  obtain ⟨n1, e, h1⟩ := g_blk_ok noX12 jI_X12_behindOne tab_X12 1 n hr (c2 := (103, ρ, [(1, ρ 0)], L, g)) rfl
  obtain ⟨n2, c', e2, h2, h3⟩ := g_step_un noX12 (i := .invokevirtual 244) (len := 3) (jI_X12_behindOne 103 _ rfl) (gnrV _) h1
  obtain ⟨r1, h1', hx, hc⟩ := g_virt_un lk_X12 nat_all lX12_ok (idx := 244) (mi := 123) (ci := 12) (na := 1) rfl (by decide) mq_X12_isCompared [] [] (ρ 0) rfl rfl h2
  subst hc
  exact ⟨n2, r1, h1', by omega, hx, h3⟩
theorem bk_X12_behindOne_106 {ax : zAx} {CE : g_E} {n : Nat} {ρ : Nat → Int} {s0 : Int} {L : List Nat} {g : Nat → Nat → Int} {r : Option g_V} {h : g_H} (hr : g_run RX12 ax CE cX12_behindOne n (106, ρ, [(1, s0)], L, g) r h) : ∃ n', n' < n ∧ ((s0 = 0 ∧ g_run RX12 ax CE cX12_behindOne n' (113, ρ, [], L, g) r h) ∨ (¬ (s0 = 0) ∧ g_run RX12 ax CE cX12_behindOne n' (109, ρ, [], L, g) r h)) := by
  obtain ⟨n1, e, h1⟩ := g_blk_ok noX12 jI_X12_behindOne tab_X12 1 n hr (c2 := (if s0 = 0 then 113 else 109, ρ, [], L, g)) rfl
  refine ⟨n1, by omega, ?_⟩
  by_cases hc : s0 = 0
  · exact Or.inl ⟨hc, by rw [if_pos hc] at h1; exact h1⟩
  · exact Or.inr ⟨hc, by rw [if_neg hc] at h1; exact h1⟩
theorem bk_X12_behindOne_109 {ax : zAx} {CE : g_E} {n : Nat} {ρ : Nat → Int} {L : List Nat} {g : Nat → Nat → Int} {r : Option g_V} {h : g_H} (hr : g_run RX12 ax CE cX12_behindOne n (109, ρ, [], L, g) r h) : ∃ n', n' < n ∧ g_run RX12 ax CE cX12_behindOne n' (114, ρ, [(1, 1)], L, g) r h := by
  obtain ⟨n1, e, h1⟩ := g_blk_ok noX12 jI_X12_behindOne tab_X12 2 n hr (c2 := (114, ρ, [(1, 1)], L, g)) rfl
  exact ⟨n1, by omega, h1⟩
theorem bk_X12_behindOne_113 {ax : zAx} {CE : g_E} {n : Nat} {ρ : Nat → Int} {L : List Nat} {g : Nat → Nat → Int} {r : Option g_V} {h : g_H} (hr : g_run RX12 ax CE cX12_behindOne n (113, ρ, [], L, g) r h) : ∃ n', n' < n ∧ g_run RX12 ax CE cX12_behindOne n' (114, ρ, [(1, 0)], L, g) r h := by
  obtain ⟨n1, e, h1⟩ := g_blk_ok noX12 jI_X12_behindOne tab_X12 1 n hr (c2 := (114, ρ, [(1, 0)], L, g)) rfl
  exact ⟨n1, by omega, h1⟩
theorem bk_X12_behindOne_114 {ax : zAx} {CE : g_E} {n : Nat} {ρ : Nat → Int} {s0 : Int} {L : List Nat} {g : Nat → Nat → Int} {r : Option g_V} {h : g_H} (hr : g_run RX12 ax CE cX12_behindOne n (114, ρ, [(1, s0)], L, g) r h) : ∃ n', n' < n ∧ ((s0 = 0 ∧ g_run RX12 ax CE cX12_behindOne n' (124, (va_up ρ 3 s0), [], L, g) r h) ∨ (¬ (s0 = 0) ∧ g_run RX12 ax CE cX12_behindOne n' (119, (va_up ρ 3 s0), [], L, g) r h)) := by
  obtain ⟨n1, e, h1⟩ := g_blk_ok noX12 jI_X12_behindOne tab_X12 3 n hr (c2 := (if s0 = 0 then 124 else 119, (va_up ρ 3 s0), [], L, g)) rfl
  refine ⟨n1, by omega, ?_⟩
  by_cases hc : s0 = 0
  · exact Or.inl ⟨hc, by rw [if_pos hc] at h1; exact h1⟩
  · exact Or.inr ⟨hc, by rw [if_neg hc] at h1; exact h1⟩
theorem bk_X12_behindOne_119 {ax : zAx} {CE : g_E} {n : Nat} {ρ : Nat → Int} {L : List Nat} {g : Nat → Nat → Int} {r : Option g_V} {h : g_H} (hr : g_run RX12 ax CE cX12_behindOne n (119, ρ, [], L, g) r h) : ∃ n' r1 h1', n' < n ∧ CE yX12_shut cX12_shut [(0, ρ 0), (1, ρ 2)] (L, g) r1 h1' ∧ g_run RX12 ax CE cX12_behindOne n' (124, ρ, g_push r1 [], h1') r h := by
  obtain ⟨n1, e, h1⟩ := g_blk_ok noX12 jI_X12_behindOne tab_X12 2 n hr (c2 := (121, ρ, [(1, ρ 2), (1, ρ 0)], L, g)) rfl
  obtain ⟨n2, c', e2, h2, h3⟩ := g_step_un noX12 (i := .invokevirtual 253) (len := 3) (jI_X12_behindOne 121 _ rfl) (gnrV _) h1
  obtain ⟨r1, h1', hx, hc⟩ := g_virt_un lk_X12 nat_all lX12_ok (idx := 253) (mi := 175) (ci := 12) (na := 2) rfl (by decide) mq_X12_shut [(1, ρ 2)] [] (ρ 0) rfl rfl h2
  subst hc
  exact ⟨n2, r1, h1', by omega, hx, h3⟩
theorem bk_X12_behindOne_124 {ax : zAx} {CE : g_E} {n : Nat} {ρ : Nat → Int} {L : List Nat} {g : Nat → Nat → Int} {r : Option g_V} {h : g_H} (hr : g_run RX12 ax CE cX12_behindOne n (124, ρ, [], L, g) r h) : r = some (1, ρ 3) ∧ h = (L, g) := by
  obtain ⟨n1, e, h1⟩ := g_blk_ok noX12 jI_X12_behindOne tab_X12 1 n hr (c2 := (125, ρ, [(1, ρ 3)], L, g)) rfl
  exact g_ret_un noX12 (i := .ireturn) (jI_X12_behindOne 125 _ rfl) (by decide) h1
theorem pt_X12_behindOne_0 {ax : zAx} {CE : g_E} (hCE : ∀ y cc as h r h', CE y cc as h r h' → g_ex ax y cc as h r h') {n : Nat} {ρ : Nat → Int} {L : List Nat} {g : Nat → Nat → Int} {r : Option g_V} {h : g_H} (h0 : g_run RX12 ax CE cX12_behindOne n (0, ρ, [], L, g) r h) : (∃ n' r1 h1', n' < n ∧ CE yX12_betweenOf cX12_betweenOf [(0, (ρ 0))] (L, g) r1 h1' ∧ g_run RX12 ax CE cX12_behindOne n' (4, ρ, g_push r1 [], h1') r h) := by
  obtain ⟨n1, r1, k1, l1, x1, h1⟩ := bk_X12_behindOne_0 h0
  exact ⟨n1, r1, k1, by omega, x1, h1⟩
theorem pt_X12_behindOne_4 {ax : zAx} {CE : g_E} (hCE : ∀ y cc as h r h', CE y cc as h r h' → g_ex ax y cc as h r h') {n : Nat} {ρ : Nat → Int} {s0 : Int} {L : List Nat} {g : Nat → Nat → Int} {r : Option g_V} {h : g_H} (h0 : g_run RX12 ax CE cX12_behindOne n (4, ρ, [(1, s0)], L, g) r h) : ((s0 < 0 ∧ (∃ n' r1 h1', n' < n ∧ CE yX12_openNow cX12_openNow [(0, (ρ 0))] (L, g) r1 h1' ∧ g_run RX12 ax CE cX12_behindOne n' (52, (va_up ρ 1 s0), g_push r1 [], h1') r h)) ∨ (¬ (s0 < 0) ∧ (∃ n' r1 h1', n' < n ∧ CE yX12_settle cX12_settle [(0, (ρ 0)), (1, F_X12_rank s0 g)] (L, g) r1 h1' ∧ g_run RX12 ax CE cX12_behindOne n' (17, (va_up ρ 1 s0), g_push r1 [], h1') r h))) := by
  obtain ⟨n1, l1, h1⟩ := bk_X12_behindOne_4 h0
  rcases h1 with ⟨c1, h1⟩ | ⟨c1, h1⟩
  · refine Or.inl ⟨c1, ?_⟩
    obtain ⟨n2, r2, k2, l2, x2, h2⟩ := bk_X12_behindOne_48 h1
    exact ⟨n2, r2, k2, by omega, x2, h2⟩
  · refine Or.inr ⟨c1, ?_⟩
    obtain ⟨n3, r3, k3, l3, x3, h3⟩ := bk_X12_behindOne_9 h1
    obtain ⟨e3, d3⟩ := f_X12_rank (hCE _ _ _ _ _ _ x3)
    subst e3
    subst d3
    obtain ⟨n4, r4, k4, l4, x4, h4⟩ := bk_X12_behindOne_14 h3
    exact ⟨n4, r4, k4, by omega, x4, h4⟩
theorem pt_X12_behindOne_52 {ax : zAx} {CE : g_E} (hCE : ∀ y cc as h r h', CE y cc as h r h' → g_ex ax y cc as h r h') {n : Nat} {ρ : Nat → Int} {s0 : Int} {L : List Nat} {g : Nat → Nat → Int} {r : Option g_V} {h : g_H} (h0 : g_run RX12 ax CE cX12_behindOne n (52, ρ, [(1, s0)], L, g) r h) : ((s0 = 40 ∧ ((g (ρ 0).toNat 9 = 41 ∧ (∃ n' r1 h1', n' < n ∧ CE yX12_shut cX12_shut [(0, (ρ 0)), (1, s0)] (L, g) r1 h1' ∧ g_run RX12 ax CE cX12_behindOne n' (124, (va_up (va_up ρ 2 s0) 3 1), g_push r1 [], h1') r h)) ∨ (¬ (g (ρ 0).toNat 9 = 41) ∧ (r = some (1, 0) ∧ h = (L, g))))) ∨ (¬ (s0 = 40) ∧ ((s0 < 0 ∧ (r = some (1, 0) ∧ h = (L, g))) ∨ (¬ (s0 < 0) ∧ ((F_X12_isWord (ρ 0) (F_X12_w3 101 110 100 g) g = 0 ∧ (r = some (1, 0) ∧ h = (L, g))) ∨ (¬ (F_X12_isWord (ρ 0) (F_X12_w3 101 110 100 g) g = 0) ∧ ((s0 = 41 ∧ (∃ n' r1 h1', n' < n ∧ CE yX12_shut cX12_shut [(0, (ρ 0)), (1, s0)] (L, g) r1 h1' ∧ g_run RX12 ax CE cX12_behindOne n' (124, (va_up (va_up ρ 2 s0) 3 1), g_push r1 [], h1') r h)) ∨ (¬ (s0 = 41) ∧ (∃ n' r1 h1', n' < n ∧ CE yX12_isCompared cX12_isCompared [(0, (ρ 0))] (L, g) r1 h1' ∧ g_run RX12 ax CE cX12_behindOne n' (106, (va_up ρ 2 s0), g_push r1 [], h1') r h))))))))) := by
  obtain ⟨n1, l1, h1⟩ := bk_X12_behindOne_52 h0
  rcases h1 with ⟨c1, h1⟩ | ⟨c1, h1⟩
  · refine Or.inl ⟨c1, ?_⟩
    obtain ⟨n2, l2, h2⟩ := bk_X12_behindOne_59 h1
    rcases h2 with ⟨c2, h2⟩ | ⟨c2, h2⟩
    · refine Or.inl ⟨c2, ?_⟩
      obtain ⟨n3, l3, h3⟩ := bk_X12_behindOne_68 h2
      obtain ⟨n4, l4, h4⟩ := bk_X12_behindOne_114 h3
      rcases h4 with ⟨c4, h4⟩ | ⟨c4, h4⟩
      · exact absurd c4 (show ¬ ((1 : Int) = 0) from by decide)
      · obtain ⟨n5, r5, k5, l5, x5, h5⟩ := bk_X12_behindOne_119 h4
        exact ⟨n5, r5, k5, by omega, x5, h5⟩
    · refine Or.inr ⟨c2, ?_⟩
      obtain ⟨n6, l6, h6⟩ := bk_X12_behindOne_72 h2
      obtain ⟨n7, l7, h7⟩ := bk_X12_behindOne_114 h6
      rcases h7 with ⟨c7, h7⟩ | ⟨c7, h7⟩
      · obtain ⟨e8, d8⟩ := bk_X12_behindOne_124 h7
        exact ⟨e8, d8⟩
      · exact absurd (show (0 : Int) = 0 from by decide) c7
  · refine Or.inr ⟨c1, ?_⟩
    obtain ⟨n9, l9, h9⟩ := bk_X12_behindOne_76 h1
    rcases h9 with ⟨c9, h9⟩ | ⟨c9, h9⟩
    · refine Or.inl ⟨c9, ?_⟩
      obtain ⟨n10, l10, h10⟩ := bk_X12_behindOne_113 h9
      obtain ⟨n11, l11, h11⟩ := bk_X12_behindOne_114 h10
      rcases h11 with ⟨c11, h11⟩ | ⟨c11, h11⟩
      · obtain ⟨e12, d12⟩ := bk_X12_behindOne_124 h11
        exact ⟨e12, d12⟩
      · exact absurd (show (0 : Int) = 0 from by decide) c11
    · refine Or.inr ⟨c9, ?_⟩
      obtain ⟨n13, r13, k13, l13, x13, h13⟩ := bk_X12_behindOne_80 h9
      obtain ⟨e13, d13⟩ := f_X12_w3 (hCE _ _ _ _ _ _ x13)
      subst e13
      subst d13
      obtain ⟨n14, r14, k14, l14, x14, h14⟩ := bk_X12_behindOne_90 h13
      obtain ⟨e14, d14⟩ := f_X12_isWord (hCE _ _ _ _ _ _ x14)
      subst e14
      subst d14
      obtain ⟨n15, l15, h15⟩ := bk_X12_behindOne_93 h14
      rcases h15 with ⟨c15, h15⟩ | ⟨c15, h15⟩
      · refine Or.inl ⟨c15, ?_⟩
        obtain ⟨n16, l16, h16⟩ := bk_X12_behindOne_113 h15
        obtain ⟨n17, l17, h17⟩ := bk_X12_behindOne_114 h16
        rcases h17 with ⟨c17, h17⟩ | ⟨c17, h17⟩
        · obtain ⟨e18, d18⟩ := bk_X12_behindOne_124 h17
          exact ⟨e18, d18⟩
        · exact absurd (show (0 : Int) = 0 from by decide) c17
      · refine Or.inr ⟨c15, ?_⟩
        obtain ⟨n19, l19, h19⟩ := bk_X12_behindOne_96 h15
        rcases h19 with ⟨c19, h19⟩ | ⟨c19, h19⟩
        · refine Or.inl ⟨c19, ?_⟩
          obtain ⟨n20, l20, h20⟩ := bk_X12_behindOne_109 h19
          obtain ⟨n21, l21, h21⟩ := bk_X12_behindOne_114 h20
          rcases h21 with ⟨c21, h21⟩ | ⟨c21, h21⟩
          · exact absurd c21 (show ¬ ((1 : Int) = 0) from by decide)
          · obtain ⟨n22, r22, k22, l22, x22, h22⟩ := bk_X12_behindOne_119 h21
            exact ⟨n22, r22, k22, by omega, x22, h22⟩
        · refine Or.inr ⟨c19, ?_⟩
          obtain ⟨n23, r23, k23, l23, x23, h23⟩ := bk_X12_behindOne_102 h19
          exact ⟨n23, r23, k23, by omega, x23, h23⟩
theorem pt_X12_behindOne_17 {ax : zAx} {CE : g_E} (hCE : ∀ y cc as h r h', CE y cc as h r h' → g_ex ax y cc as h r h') {n : Nat} {ρ : Nat → Int} {L : List Nat} {g : Nat → Nat → Int} {r : Option g_V} {h : g_H} (h0 : g_run RX12 ax CE cX12_behindOne n (17, ρ, [], L, g) r h) : (∃ n' r1 h1', n' < n ∧ CE yX12_nextToken cX12_nextToken [(0, (ρ 0))] (L, (g_up (g_up (g_up g (g (ρ 0).toNat 15).toNat (g (ρ 0).toNat 17).toNat (ρ 1)) (ρ 0).toNat 17 (g_i (((g_up g (g (ρ 0).toNat 15).toNat (g (ρ 0).toNat 17).toNat (ρ 1)) (ρ 0).toNat 17) + 1))) (ρ 0).toNat 20 0)) r1 h1' ∧ g_run RX12 ax CE cX12_behindOne n' (46, ρ, g_push r1 [], h1') r h) := by
  obtain ⟨n1, r1, k1, l1, x1, h1⟩ := bk_X12_behindOne_17 h0
  exact ⟨n1, r1, k1, by omega, x1, h1⟩
theorem pt_X12_behindOne_124 {ax : zAx} {CE : g_E} (hCE : ∀ y cc as h r h', CE y cc as h r h' → g_ex ax y cc as h r h') {n : Nat} {ρ : Nat → Int} {L : List Nat} {g : Nat → Nat → Int} {r : Option g_V} {h : g_H} (h0 : g_run RX12 ax CE cX12_behindOne n (124, ρ, [], L, g) r h) : (r = some (1, (ρ 3)) ∧ h = (L, g)) := by
  obtain ⟨e1, d1⟩ := bk_X12_behindOne_124 h0
  exact ⟨e1, d1⟩
theorem pt_X12_behindOne_106 {ax : zAx} {CE : g_E} (hCE : ∀ y cc as h r h', CE y cc as h r h' → g_ex ax y cc as h r h') {n : Nat} {ρ : Nat → Int} {s0 : Int} {L : List Nat} {g : Nat → Nat → Int} {r : Option g_V} {h : g_H} (h0 : g_run RX12 ax CE cX12_behindOne n (106, ρ, [(1, s0)], L, g) r h) : ((s0 = 0 ∧ (r = some (1, 0) ∧ h = (L, g))) ∨ (¬ (s0 = 0) ∧ (∃ n' r1 h1', n' < n ∧ CE yX12_shut cX12_shut [(0, (ρ 0)), (1, (ρ 2))] (L, g) r1 h1' ∧ g_run RX12 ax CE cX12_behindOne n' (124, (va_up ρ 3 1), g_push r1 [], h1') r h))) := by
  obtain ⟨n1, l1, h1⟩ := bk_X12_behindOne_106 h0
  rcases h1 with ⟨c1, h1⟩ | ⟨c1, h1⟩
  · refine Or.inl ⟨c1, ?_⟩
    obtain ⟨n2, l2, h2⟩ := bk_X12_behindOne_113 h1
    obtain ⟨n3, l3, h3⟩ := bk_X12_behindOne_114 h2
    rcases h3 with ⟨c3, h3⟩ | ⟨c3, h3⟩
    · obtain ⟨e4, d4⟩ := bk_X12_behindOne_124 h3
      exact ⟨e4, d4⟩
    · exact absurd (show (0 : Int) = 0 from by decide) c3
  · refine Or.inr ⟨c1, ?_⟩
    obtain ⟨n5, l5, h5⟩ := bk_X12_behindOne_109 h1
    obtain ⟨n6, l6, h6⟩ := bk_X12_behindOne_114 h5
    rcases h6 with ⟨c6, h6⟩ | ⟨c6, h6⟩
    · exact absurd c6 (show ¬ ((1 : Int) = 0) from by decide)
    · obtain ⟨n7, r7, k7, l7, x7, h7⟩ := bk_X12_behindOne_119 h6
      exact ⟨n7, r7, k7, by omega, x7, h7⟩
theorem pt_X12_behindOne_46 {ax : zAx} {CE : g_E} (hCE : ∀ y cc as h r h', CE y cc as h r h' → g_ex ax y cc as h r h') {n : Nat} {ρ : Nat → Int} {L : List Nat} {g : Nat → Nat → Int} {r : Option g_V} {h : g_H} (h0 : g_run RX12 ax CE cX12_behindOne n (46, ρ, [], L, g) r h) : (r = some (1, 1) ∧ h = (L, g)) := by
  obtain ⟨e1, d1⟩ := bk_X12_behindOne_46 h0
  exact ⟨e1, d1⟩

theorem jI_X12_summed : ∀ (pc : Nat) (q : Instr × Nat), lkp iX12_summed pc = some q → decode cX12_summed pc = .ok q := fun pc q hq => jX12_summed (pc, q) (lkp_in iX12_summed hq)
theorem bk_X12_summed_0 {ax : zAx} {CE : g_E} {n : Nat} {ρ : Nat → Int} {L : List Nat} {g : Nat → Nat → Int} {r : Option g_V} {h : g_H} (hr : g_run RX12 ax CE cX12_summed n (0, ρ, [], L, g) r h) : ∃ n', n' < n ∧ g_run RX12 ax CE cX12_summed n' (20, ρ, [], L, (g_up (g_up (g_up (g_up g (ρ 0).toNat 17 0) (ρ 0).toNat 18 0) (ρ 0).toNat 19 0) (ρ 0).toNat 20 0)) r h := by
  obtain ⟨n1, e, h1⟩ := g_blk_ok noX12 jI_X12_summed tab_X12 12 n hr (c2 := (20, ρ, [], L, (g_up (g_up (g_up (g_up g (ρ 0).toNat 17 0) (ρ 0).toNat 18 0) (ρ 0).toNat 19 0) (ρ 0).toNat 20 0))) rfl
  exact ⟨n1, by omega, h1⟩
theorem bk_X12_summed_20 {ax : zAx} {CE : g_E} {n : Nat} {ρ : Nat → Int} {L : List Nat} {g : Nat → Nat → Int} {r : Option g_V} {h : g_H} (hr : g_run RX12 ax CE cX12_summed n (20, ρ, [], L, g) r h) : ∃ n', n' < n ∧ ((g (ρ 0).toNat 20 = 0 ∧ g_run RX12 ax CE cX12_summed n' (53, ρ, [], L, g) r h) ∨ (¬ (g (ρ 0).toNat 20 = 0) ∧ g_run RX12 ax CE cX12_summed n' (27, ρ, [], L, g) r h)) := by
  obtain ⟨n1, e, h1⟩ := g_blk_ok noX12 jI_X12_summed tab_X12 3 n hr (c2 := (if g (ρ 0).toNat 20 = 0 then 53 else 27, ρ, [], L, g)) rfl
  refine ⟨n1, by omega, ?_⟩
  by_cases hc : g (ρ 0).toNat 20 = 0
  · exact Or.inl ⟨hc, by rw [if_pos hc] at h1; exact h1⟩
  · exact Or.inr ⟨hc, by rw [if_neg hc] at h1; exact h1⟩
theorem bk_X12_summed_27 {ax : zAx} {CE : g_E} {n : Nat} {ρ : Nat → Int} {L : List Nat} {g : Nat → Nat → Int} {r : Option g_V} {h : g_H} (hr : g_run RX12 ax CE cX12_summed n (27, ρ, [], L, g) r h) : ∃ n' r1 h1', n' < n ∧ CE yX12_behindOne cX12_behindOne [(0, ρ 0)] (L, g) r1 h1' ∧ g_run RX12 ax CE cX12_summed n' (31, ρ, g_push r1 [], h1') r h := by
  obtain ⟨n1, e, h1⟩ := g_blk_ok noX12 jI_X12_summed tab_X12 1 n hr (c2 := (28, ρ, [(1, ρ 0)], L, g)) rfl
  obtain ⟨n2, c', e2, h2, h3⟩ := g_step_un noX12 (i := .invokevirtual 256) (len := 3) (jI_X12_summed 28 _ rfl) (gnrV _) h1
  obtain ⟨r1, h1', hx, hc⟩ := g_virt_un lk_X12 nat_all lX12_ok (idx := 256) (mi := 78) (ci := 12) (na := 1) rfl (by decide) mq_X12_behindOne [] [] (ρ 0) rfl rfl h2
  subst hc
  exact ⟨n2, r1, h1', by omega, hx, h3⟩
theorem bk_X12_summed_31 {ax : zAx} {CE : g_E} {n : Nat} {ρ : Nat → Int} {s0 : Int} {L : List Nat} {g : Nat → Nat → Int} {r : Option g_V} {h : g_H} (hr : g_run RX12 ax CE cX12_summed n (31, ρ, [(1, s0)], L, g) r h) : ∃ n', n' < n ∧ ((s0 = 0 ∧ g_run RX12 ax CE cX12_summed n' (37, ρ, [], L, g) r h) ∨ (¬ (s0 = 0) ∧ g_run RX12 ax CE cX12_summed n' (34, ρ, [], L, g) r h)) := by
  obtain ⟨n1, e, h1⟩ := g_blk_ok noX12 jI_X12_summed tab_X12 1 n hr (c2 := (if s0 = 0 then 37 else 34, ρ, [], L, g)) rfl
  refine ⟨n1, by omega, ?_⟩
  by_cases hc : s0 = 0
  · exact Or.inl ⟨hc, by rw [if_pos hc] at h1; exact h1⟩
  · exact Or.inr ⟨hc, by rw [if_neg hc] at h1; exact h1⟩
theorem bk_X12_summed_34 {ax : zAx} {CE : g_E} {n : Nat} {ρ : Nat → Int} {L : List Nat} {g : Nat → Nat → Int} {r : Option g_V} {h : g_H} (hr : g_run RX12 ax CE cX12_summed n (34, ρ, [], L, g) r h) : ∃ n', n' < n ∧ g_run RX12 ax CE cX12_summed n' (20, ρ, [], L, g) r h := by
  obtain ⟨n1, e, h1⟩ := g_blk_ok noX12 jI_X12_summed tab_X12 1 n hr (c2 := (20, ρ, [], L, g)) rfl
  exact ⟨n1, by omega, h1⟩
theorem bk_X12_summed_37 {ax : zAx} {CE : g_E} {n : Nat} {ρ : Nat → Int} {L : List Nat} {g : Nat → Nat → Int} {r : Option g_V} {h : g_H} (hr : g_run RX12 ax CE cX12_summed n (37, ρ, [], L, g) r h) : ∃ n' r1 h1', n' < n ∧ CE yX12_openNow cX12_openNow [(0, ρ 0)] (L, g) r1 h1' ∧ g_run RX12 ax CE cX12_summed n' (41, ρ, g_push r1 [], h1') r h := by
  obtain ⟨n1, e, h1⟩ := g_blk_ok noX12 jI_X12_summed tab_X12 1 n hr (c2 := (38, ρ, [(1, ρ 0)], L, g)) rfl
  obtain ⟨n2, c', e2, h2, h3⟩ := g_step_un noX12 (i := .invokevirtual 213) (len := 3) (jI_X12_summed 38 _ rfl) (gnrV _) h1
  obtain ⟨r1, h1', hx, hc⟩ := g_virt_un lk_X12 nat_all lX12_ok (idx := 213) (mi := 151) (ci := 12) (na := 1) rfl (by decide) mq_X12_openNow [] [] (ρ 0) rfl rfl h2
  subst hc
  exact ⟨n2, r1, h1', by omega, hx, h3⟩
theorem bk_X12_summed_41 {ax : zAx} {CE : g_E} {n : Nat} {ρ : Nat → Int} {s0 : Int} {L : List Nat} {g : Nat → Nat → Int} {r : Option g_V} {h : g_H} (hr : g_run RX12 ax CE cX12_summed n (41, ρ, [(1, s0)], L, g) r h) : ∃ n', n' < n ∧ ((s0 < 0 ∧ g_run RX12 ax CE cX12_summed n' (46, ρ, [], L, g) r h) ∨ (¬ (s0 < 0) ∧ g_run RX12 ax CE cX12_summed n' (44, ρ, [], L, g) r h)) := by
  obtain ⟨n1, e, h1⟩ := g_blk_ok noX12 jI_X12_summed tab_X12 1 n hr (c2 := (if s0 < 0 then 46 else 44, ρ, [], L, g)) rfl
  refine ⟨n1, by omega, ?_⟩
  by_cases hc : s0 < 0
  · exact Or.inl ⟨hc, by rw [if_pos hc] at h1; exact h1⟩
  · exact Or.inr ⟨hc, by rw [if_neg hc] at h1; exact h1⟩
theorem bk_X12_summed_44 {ax : zAx} {CE : g_E} {n : Nat} {ρ : Nat → Int} {L : List Nat} {g : Nat → Nat → Int} {r : Option g_V} {h : g_H} (hr : g_run RX12 ax CE cX12_summed n (44, ρ, [], L, g) r h) : r = some (1, 1) ∧ h = (L, g) := by
  obtain ⟨n1, e, h1⟩ := g_blk_ok noX12 jI_X12_summed tab_X12 1 n hr (c2 := (45, ρ, [(1, 1)], L, g)) rfl
  exact g_ret_un noX12 (i := .ireturn) (jI_X12_summed 45 _ rfl) (by decide) h1
theorem bk_X12_summed_46 {ax : zAx} {CE : g_E} {n : Nat} {ρ : Nat → Int} {L : List Nat} {g : Nat → Nat → Int} {r : Option g_V} {h : g_H} (hr : g_run RX12 ax CE cX12_summed n (46, ρ, [], L, g) r h) : ∃ n' r1 h1', n' < n ∧ CE yX12_settle cX12_settle [(0, ρ 0), (1, 1)] (L, g) r1 h1' ∧ g_run RX12 ax CE cX12_summed n' (51, ρ, g_push r1 [], h1') r h := by
  obtain ⟨n1, e, h1⟩ := g_blk_ok noX12 jI_X12_summed tab_X12 2 n hr (c2 := (48, ρ, [(1, 1), (1, ρ 0)], L, g)) rfl
  obtain ⟨n2, c', e2, h2, h3⟩ := g_step_un noX12 (i := .invokevirtual 230) (len := 3) (jI_X12_summed 48 _ rfl) (gnrV _) h1
  obtain ⟨r1, h1', hx, hc⟩ := g_virt_un lk_X12 nat_all lX12_ok (idx := 230) (mi := 171) (ci := 12) (na := 2) rfl (by decide) mq_X12_settle [(1, 1)] [] (ρ 0) rfl rfl h2
  subst hc
  exact ⟨n2, r1, h1', by omega, hx, h3⟩
theorem bk_X12_summed_51 {ax : zAx} {CE : g_E} {n : Nat} {ρ : Nat → Int} {L : List Nat} {g : Nat → Nat → Int} {r : Option g_V} {h : g_H} (hr : g_run RX12 ax CE cX12_summed n (51, ρ, [], L, g) r h) : r = some (1, 0) ∧ h = (L, g) := by
  obtain ⟨n1, e, h1⟩ := g_blk_ok noX12 jI_X12_summed tab_X12 1 n hr (c2 := (52, ρ, [(1, 0)], L, g)) rfl
  exact g_ret_un noX12 (i := .ireturn) (jI_X12_summed 52 _ rfl) (by decide) h1
theorem bk_X12_summed_53 {ax : zAx} {CE : g_E} {n : Nat} {ρ : Nat → Int} {L : List Nat} {g : Nat → Nat → Int} {r : Option g_V} {h : g_H} (hr : g_run RX12 ax CE cX12_summed n (53, ρ, [], L, g) r h) : ∃ n' r1 h1', n' < n ∧ CE yX12_beginOne cX12_beginOne [(0, ρ 0)] (L, g) r1 h1' ∧ g_run RX12 ax CE cX12_summed n' (57, ρ, g_push r1 [], h1') r h := by
  obtain ⟨n1, e, h1⟩ := g_blk_ok noX12 jI_X12_summed tab_X12 1 n hr (c2 := (54, ρ, [(1, ρ 0)], L, g)) rfl
  obtain ⟨n2, c', e2, h2, h3⟩ := g_step_un noX12 (i := .invokevirtual 259) (len := 3) (jI_X12_summed 54 _ rfl) (gnrV _) h1
  obtain ⟨r1, h1', hx, hc⟩ := g_virt_un lk_X12 nat_all lX12_ok (idx := 259) (mi := 77) (ci := 12) (na := 1) rfl (by decide) mq_X12_beginOne [] [] (ρ 0) rfl rfl h2
  subst hc
  exact ⟨n2, r1, h1', by omega, hx, h3⟩
theorem bk_X12_summed_57 {ax : zAx} {CE : g_E} {n : Nat} {ρ : Nat → Int} {s0 : Int} {L : List Nat} {g : Nat → Nat → Int} {r : Option g_V} {h : g_H} (hr : g_run RX12 ax CE cX12_summed n (57, ρ, [(1, s0)], L, g) r h) : ∃ n', n' < n ∧ ((s0 = 0 ∧ g_run RX12 ax CE cX12_summed n' (64, (va_up ρ 1 s0), [], L, g) r h) ∨ (¬ (s0 = 0) ∧ g_run RX12 ax CE cX12_summed n' (62, (va_up ρ 1 s0), [], L, g) r h)) := by
  obtain ⟨n1, e, h1⟩ := g_blk_ok noX12 jI_X12_summed tab_X12 3 n hr (c2 := (if s0 = 0 then 64 else 62, (va_up ρ 1 s0), [], L, g)) rfl
  refine ⟨n1, by omega, ?_⟩
  by_cases hc : s0 = 0
  · exact Or.inl ⟨hc, by rw [if_pos hc] at h1; exact h1⟩
  · exact Or.inr ⟨hc, by rw [if_neg hc] at h1; exact h1⟩
theorem bk_X12_summed_62 {ax : zAx} {CE : g_E} {n : Nat} {ρ : Nat → Int} {L : List Nat} {g : Nat → Nat → Int} {r : Option g_V} {h : g_H} (hr : g_run RX12 ax CE cX12_summed n (62, ρ, [], L, g) r h) : r = some (1, ρ 1) ∧ h = (L, g) := by
  obtain ⟨n1, e, h1⟩ := g_blk_ok noX12 jI_X12_summed tab_X12 1 n hr (c2 := (63, ρ, [(1, ρ 1)], L, g)) rfl
  exact g_ret_un noX12 (i := .ireturn) (jI_X12_summed 63 _ rfl) (by decide) h1
theorem bk_X12_summed_64 {ax : zAx} {CE : g_E} {n : Nat} {ρ : Nat → Int} {L : List Nat} {g : Nat → Nat → Int} {r : Option g_V} {h : g_H} (hr : g_run RX12 ax CE cX12_summed n (64, ρ, [], L, g) r h) : ∃ n', n' < n ∧ g_run RX12 ax CE cX12_summed n' (20, ρ, [], L, g) r h := by
  obtain ⟨n1, e, h1⟩ := g_blk_ok noX12 jI_X12_summed tab_X12 1 n hr (c2 := (20, ρ, [], L, g)) rfl
  exact ⟨n1, by omega, h1⟩
theorem pt_X12_summed_0 {ax : zAx} {CE : g_E} (hCE : ∀ y cc as h r h', CE y cc as h r h' → g_ex ax y cc as h r h') {n : Nat} {ρ : Nat → Int} {L : List Nat} {g : Nat → Nat → Int} {r : Option g_V} {h : g_H} (h0 : g_run RX12 ax CE cX12_summed n (0, ρ, [], L, g) r h) : (∃ n', n' < n ∧ g_run RX12 ax CE cX12_summed n' (20, ρ, [], L, (g_up (g_up (g_up (g_up g (ρ 0).toNat 17 0) (ρ 0).toNat 18 0) (ρ 0).toNat 19 0) (ρ 0).toNat 20 0)) r h) := by
  obtain ⟨n1, l1, h1⟩ := bk_X12_summed_0 h0
  exact ⟨_, by omega, h1⟩
theorem pt_X12_summed_20 {ax : zAx} {CE : g_E} (hCE : ∀ y cc as h r h', CE y cc as h r h' → g_ex ax y cc as h r h') {n : Nat} {ρ : Nat → Int} {L : List Nat} {g : Nat → Nat → Int} {r : Option g_V} {h : g_H} (h0 : g_run RX12 ax CE cX12_summed n (20, ρ, [], L, g) r h) : ((g (ρ 0).toNat 20 = 0 ∧ (∃ n' r1 h1', n' < n ∧ CE yX12_beginOne cX12_beginOne [(0, (ρ 0))] (L, g) r1 h1' ∧ g_run RX12 ax CE cX12_summed n' (57, ρ, g_push r1 [], h1') r h)) ∨ (¬ (g (ρ 0).toNat 20 = 0) ∧ (∃ n' r1 h1', n' < n ∧ CE yX12_behindOne cX12_behindOne [(0, (ρ 0))] (L, g) r1 h1' ∧ g_run RX12 ax CE cX12_summed n' (31, ρ, g_push r1 [], h1') r h))) := by
  obtain ⟨n1, l1, h1⟩ := bk_X12_summed_20 h0
  rcases h1 with ⟨c1, h1⟩ | ⟨c1, h1⟩
  · refine Or.inl ⟨c1, ?_⟩
    obtain ⟨n2, r2, k2, l2, x2, h2⟩ := bk_X12_summed_53 h1
    exact ⟨n2, r2, k2, by omega, x2, h2⟩
  · refine Or.inr ⟨c1, ?_⟩
    obtain ⟨n3, r3, k3, l3, x3, h3⟩ := bk_X12_summed_27 h1
    exact ⟨n3, r3, k3, by omega, x3, h3⟩
theorem pt_X12_summed_57 {ax : zAx} {CE : g_E} (hCE : ∀ y cc as h r h', CE y cc as h r h' → g_ex ax y cc as h r h') {n : Nat} {ρ : Nat → Int} {s0 : Int} {L : List Nat} {g : Nat → Nat → Int} {r : Option g_V} {h : g_H} (h0 : g_run RX12 ax CE cX12_summed n (57, ρ, [(1, s0)], L, g) r h) : ((s0 = 0 ∧ (∃ n', n' < n ∧ g_run RX12 ax CE cX12_summed n' (20, (va_up ρ 1 s0), [], L, g) r h)) ∨ (¬ (s0 = 0) ∧ (r = some (1, s0) ∧ h = (L, g)))) := by
  obtain ⟨n1, l1, h1⟩ := bk_X12_summed_57 h0
  rcases h1 with ⟨c1, h1⟩ | ⟨c1, h1⟩
  · refine Or.inl ⟨c1, ?_⟩
    obtain ⟨n2, l2, h2⟩ := bk_X12_summed_64 h1
    exact ⟨_, by omega, h2⟩
  · refine Or.inr ⟨c1, ?_⟩
    obtain ⟨e4, d4⟩ := bk_X12_summed_62 h1
    exact ⟨e4, d4⟩
theorem pt_X12_summed_31 {ax : zAx} {CE : g_E} (hCE : ∀ y cc as h r h', CE y cc as h r h' → g_ex ax y cc as h r h') {n : Nat} {ρ : Nat → Int} {s0 : Int} {L : List Nat} {g : Nat → Nat → Int} {r : Option g_V} {h : g_H} (h0 : g_run RX12 ax CE cX12_summed n (31, ρ, [(1, s0)], L, g) r h) : ((s0 = 0 ∧ (∃ n' r1 h1', n' < n ∧ CE yX12_openNow cX12_openNow [(0, (ρ 0))] (L, g) r1 h1' ∧ g_run RX12 ax CE cX12_summed n' (41, ρ, g_push r1 [], h1') r h)) ∨ (¬ (s0 = 0) ∧ (∃ n', n' < n ∧ g_run RX12 ax CE cX12_summed n' (20, ρ, [], L, g) r h))) := by
  obtain ⟨n1, l1, h1⟩ := bk_X12_summed_31 h0
  rcases h1 with ⟨c1, h1⟩ | ⟨c1, h1⟩
  · refine Or.inl ⟨c1, ?_⟩
    obtain ⟨n2, r2, k2, l2, x2, h2⟩ := bk_X12_summed_37 h1
    exact ⟨n2, r2, k2, by omega, x2, h2⟩
  · refine Or.inr ⟨c1, ?_⟩
    obtain ⟨n3, l3, h3⟩ := bk_X12_summed_34 h1
    exact ⟨_, by omega, h3⟩
theorem pt_X12_summed_41 {ax : zAx} {CE : g_E} (hCE : ∀ y cc as h r h', CE y cc as h r h' → g_ex ax y cc as h r h') {n : Nat} {ρ : Nat → Int} {s0 : Int} {L : List Nat} {g : Nat → Nat → Int} {r : Option g_V} {h : g_H} (h0 : g_run RX12 ax CE cX12_summed n (41, ρ, [(1, s0)], L, g) r h) : ((s0 < 0 ∧ (∃ n' r1 h1', n' < n ∧ CE yX12_settle cX12_settle [(0, (ρ 0)), (1, 1)] (L, g) r1 h1' ∧ g_run RX12 ax CE cX12_summed n' (51, ρ, g_push r1 [], h1') r h)) ∨ (¬ (s0 < 0) ∧ (r = some (1, 1) ∧ h = (L, g)))) := by
  obtain ⟨n1, l1, h1⟩ := bk_X12_summed_41 h0
  rcases h1 with ⟨c1, h1⟩ | ⟨c1, h1⟩
  · refine Or.inl ⟨c1, ?_⟩
    obtain ⟨n2, r2, k2, l2, x2, h2⟩ := bk_X12_summed_46 h1
    exact ⟨n2, r2, k2, by omega, x2, h2⟩
  · refine Or.inr ⟨c1, ?_⟩
    obtain ⟨e3, d3⟩ := bk_X12_summed_44 h1
    exact ⟨e3, d3⟩
theorem pt_X12_summed_51 {ax : zAx} {CE : g_E} (hCE : ∀ y cc as h r h', CE y cc as h r h' → g_ex ax y cc as h r h') {n : Nat} {ρ : Nat → Int} {L : List Nat} {g : Nat → Nat → Int} {r : Option g_V} {h : g_H} (h0 : g_run RX12 ax CE cX12_summed n (51, ρ, [], L, g) r h) : (r = some (1, 0) ∧ h = (L, g)) := by
  obtain ⟨e1, d1⟩ := bk_X12_summed_51 h0
  exact ⟨e1, d1⟩
