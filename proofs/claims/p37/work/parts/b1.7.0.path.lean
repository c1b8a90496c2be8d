/-! Paths. -/
theorem jI_X11_feed : ∀ (pc : Nat) (q : Instr × Nat), lkp iX11_feed pc = some q → decode cX11_feed pc = .ok q := fun pc q hq => jX11_feed (pc, q) (lkp_in iX11_feed hq)
theorem bk_X11_feed_0 {ax : zAx} {CE : g_E} {n : Nat} {ρ : Nat → Int} {L : List Nat} {g : Nat → Nat → Int} {r : Option g_V} {h : g_H} (hr : g_run RX11 ax CE cX11_feed n (0, ρ, [], L, g) r h) : ∃ n', n' < n ∧ ((g_i ((g (g (ρ 0).toNat 2).toNat 0) + 20) ≤ 300 ∧ g_run RX11 ax CE cX11_feed n' (18, ρ, [], L, g) r h) ∨ (¬ (g_i ((g (g (ρ 0).toNat 2).toNat 0) + 20) ≤ 300) ∧ g_run RX11 ax CE cX11_feed n' (16, ρ, [], L, g) r h)) := by
  obtain ⟨n1, e, h1⟩ := g_blk_ok noX11 jI_X11_feed tab_X11 7 n hr (c2 := (if g_i ((g (g (ρ 0).toNat 2).toNat 0) + 20) ≤ 300 then 18 else 16, ρ, [], L, g)) rfl
  refine ⟨n1, by omega, ?_⟩
  by_cases hc : g_i ((g (g (ρ 0).toNat 2).toNat 0) + 20) ≤ 300
  · exact Or.inl ⟨hc, by rw [if_pos hc] at h1; exact h1⟩
  · exact Or.inr ⟨hc, by rw [if_neg hc] at h1; exact h1⟩
theorem bk_X11_feed_16 {ax : zAx} {CE : g_E} {n : Nat} {ρ : Nat → Int} {L : List Nat} {g : Nat → Nat → Int} {r : Option g_V} {h : g_H} (hr : g_run RX11 ax CE cX11_feed n (16, ρ, [], L, g) r h) : r = some (1, (-1)) ∧ h = (L, g) := by
  obtain ⟨n1, e, h1⟩ := g_blk_ok noX11 jI_X11_feed tab_X11 1 n hr (c2 := (17, ρ, [(1, (-1))], L, g)) rfl
  exact g_ret_un noX11 (i := .ireturn) (jI_X11_feed 17 _ rfl) (by decide) h1
theorem bk_X11_feed_18 {ax : zAx} {CE : g_E} {n : Nat} {ρ : Nat → Int} {L : List Nat} {g : Nat → Nat → Int} {r : Option g_V} {h : g_H} (hr : g_run RX11 ax CE cX11_feed n (18, ρ, [], L, g) r h) : ∃ n' r1 h1', n' < n ∧ CE yX6_append cX6_append [(0, g (ρ 0).toNat 2), (1, ρ 1)] (L, g) r1 h1' ∧ g_run RX11 ax CE cX11_feed n' (26, ρ, g_push r1 [], h1') r h := by
  obtain ⟨n1, e, h1⟩ := g_blk_ok noX11 jI_X11_feed tab_X11 3 n hr (c2 := (23, ρ, [(1, ρ 1), (1, g (ρ 0).toNat 2)], L, g)) rfl
  obtain ⟨n2, c', e2, h2, h3⟩ := g_step_un noX11 (i := .invokevirtual 110) (len := 3) (jI_X11_feed 23 _ rfl) (gnrV _) h1
  obtain ⟨r1, h1', hx, hc⟩ := g_virt_un lk_X11 nat_all lX11_ok (idx := 110) (mi := 258) (ci := 6) (na := 2) rfl (by decide) mq_X6_append [(1, ρ 1)] [] (g (ρ 0).toNat 2) rfl rfl h2
  subst hc
  exact ⟨n2, r1, h1', by omega, hx, h3⟩
theorem bk_X11_feed_26 {ax : zAx} {CE : g_E} {n : Nat} {ρ : Nat → Int} {L : List Nat} {g : Nat → Nat → Int} {r : Option g_V} {h : g_H} (hr : g_run RX11 ax CE cX11_feed n (26, ρ, [], L, g) r h) : ∃ n' r1 h1', n' < n ∧ CE yX6_append cX6_append [(0, g (ρ 0).toNat 2), (1, ρ 2)] (L, g) r1 h1' ∧ g_run RX11 ax CE cX11_feed n' (34, ρ, g_push r1 [], h1') r h := by
  obtain ⟨n1, e, h1⟩ := g_blk_ok noX11 jI_X11_feed tab_X11 3 n hr (c2 := (31, ρ, [(1, ρ 2), (1, g (ρ 0).toNat 2)], L, g)) rfl
  obtain ⟨n2, c', e2, h2, h3⟩ := g_step_un noX11 (i := .invokevirtual 110) (len := 3) (jI_X11_feed 31 _ rfl) (gnrV _) h1
  obtain ⟨r1, h1', hx, hc⟩ := g_virt_un lk_X11 nat_all lX11_ok (idx := 110) (mi := 258) (ci := 6) (na := 2) rfl (by decide) mq_X6_append [(1, ρ 2)] [] (g (ρ 0).toNat 2) rfl rfl h2
  subst hc
  exact ⟨n2, r1, h1', by omega, hx, h3⟩
theorem bk_X11_feed_34 {ax : zAx} {CE : g_E} {n : Nat} {ρ : Nat → Int} {L : List Nat} {g : Nat → Nat → Int} {r : Option g_V} {h : g_H} (hr : g_run RX11 ax CE cX11_feed n (34, ρ, [], L, g) r h) : ∃ n' r1 h1', n' < n ∧ CE yX6_append cX6_append [(0, g (ρ 0).toNat 2), (1, ρ 3)] (L, g) r1 h1' ∧ g_run RX11 ax CE cX11_feed n' (42, ρ, g_push r1 [], h1') r h := by
  obtain ⟨n1, e, h1⟩ := g_blk_ok noX11 jI_X11_feed tab_X11 3 n hr (c2 := (39, ρ, [(1, ρ 3), (1, g (ρ 0).toNat 2)], L, g)) rfl
  obtain ⟨n2, c', e2, h2, h3⟩ := g_step_un noX11 (i := .invokevirtual 110) (len := 3) (jI_X11_feed 39 _ rfl) (gnrV _) h1
  obtain ⟨r1, h1', hx, hc⟩ := g_virt_un lk_X11 nat_all lX11_ok (idx := 110) (mi := 258) (ci := 6) (na := 2) rfl (by decide) mq_X6_append [(1, ρ 3)] [] (g (ρ 0).toNat 2) rfl rfl h2
  subst hc
  exact ⟨n2, r1, h1', by omega, hx, h3⟩
theorem bk_X11_feed_42 {ax : zAx} {CE : g_E} {n : Nat} {ρ : Nat → Int} {L : List Nat} {g : Nat → Nat → Int} {r : Option g_V} {h : g_H} (hr : g_run RX11 ax CE cX11_feed n (42, ρ, [], L, g) r h) : ∃ n' r1 h1', n' < n ∧ CE yX6_append cX6_append [(0, g (ρ 0).toNat 2), (1, ρ 4)] (L, g) r1 h1' ∧ g_run RX11 ax CE cX11_feed n' (51, ρ, g_push r1 [], h1') r h := by
  obtain ⟨n1, e, h1⟩ := g_blk_ok noX11 jI_X11_feed tab_X11 3 n hr (c2 := (48, ρ, [(1, ρ 4), (1, g (ρ 0).toNat 2)], L, g)) rfl
  obtain ⟨n2, c', e2, h2, h3⟩ := g_step_un noX11 (i := .invokevirtual 110) (len := 3) (jI_X11_feed 48 _ rfl) (gnrV _) h1
  obtain ⟨r1, h1', hx, hc⟩ := g_virt_un lk_X11 nat_all lX11_ok (idx := 110) (mi := 258) (ci := 6) (na := 2) rfl (by decide) mq_X6_append [(1, ρ 4)] [] (g (ρ 0).toNat 2) rfl rfl h2
  subst hc
  exact ⟨n2, r1, h1', by omega, hx, h3⟩
theorem bk_X11_feed_51 {ax : zAx} {CE : g_E} {n : Nat} {ρ : Nat → Int} {L : List Nat} {g : Nat → Nat → Int} {r : Option g_V} {h : g_H} (hr : g_run RX11 ax CE cX11_feed n (51, ρ, [], L, g) r h) : ∃ n' r1 h1', n' < n ∧ CE yX6_append cX6_append [(0, g (ρ 0).toNat 2), (1, ρ 5)] (L, g) r1 h1' ∧ g_run RX11 ax CE cX11_feed n' (60, ρ, g_push r1 [], h1') r h := by
  obtain ⟨n1, e, h1⟩ := g_blk_ok noX11 jI_X11_feed tab_X11 3 n hr (c2 := (57, ρ, [(1, ρ 5), (1, g (ρ 0).toNat 2)], L, g)) rfl
  obtain ⟨n2, c', e2, h2, h3⟩ := g_step_un noX11 (i := .invokevirtual 110) (len := 3) (jI_X11_feed 57 _ rfl) (gnrV _) h1
  obtain ⟨r1, h1', hx, hc⟩ := g_virt_un lk_X11 nat_all lX11_ok (idx := 110) (mi := 258) (ci := 6) (na := 2) rfl (by decide) mq_X6_append [(1, ρ 5)] [] (g (ρ 0).toNat 2) rfl rfl h2
  subst hc
  exact ⟨n2, r1, h1', by omega, hx, h3⟩
theorem bk_X11_feed_60 {ax : zAx} {CE : g_E} {n : Nat} {ρ : Nat → Int} {L : List Nat} {g : Nat → Nat → Int} {r : Option g_V} {h : g_H} (hr : g_run RX11 ax CE cX11_feed n (60, ρ, [], L, g) r h) : r = some (1, g (g (ρ 0).toNat 2).toNat 0) ∧ h = (L, g) := by
  obtain ⟨n1, e, h1⟩ := g_blk_ok noX11 jI_X11_feed tab_X11 3 n hr (c2 := (67, ρ, [(1, g (g (ρ 0).toNat 2).toNat 0)], L, g)) rfl
  exact g_ret_un noX11 (i := .ireturn) (jI_X11_feed 67 _ rfl) (by decide) h1
theorem pt_X11_feed_0 {ax : zAx} {CE : g_E} (hCE : ∀ y cc as h r h', CE y cc as h r h' → g_ex ax y cc as h r h') {n : Nat} {ρ : Nat → Int} {L : List Nat} {g : Nat → Nat → Int} {r : Option g_V} {h : g_H} (h0 : g_run RX11 ax CE cX11_feed n (0, ρ, [], L, g) r h) : ((g_i ((g (g (ρ 0).toNat 2).toNat 0) + 20) ≤ 300 ∧ (∃ n' r1 h1', n' < n ∧ CE yX6_append cX6_append [(0, g (ρ 0).toNat 2), (1, (ρ 1))] (L, g) r1 h1' ∧ g_run RX11 ax CE cX11_feed n' (26, ρ, g_push r1 [], h1') r h)) ∨ (¬ (g_i ((g (g (ρ 0).toNat 2).toNat 0) + 20) ≤ 300) ∧ (r = some (1, (-1)) ∧ h = (L, g)))) := by
  obtain ⟨n1, l1, h1⟩ := bk_X11_feed_0 h0
  rcases h1 with ⟨c1, h1⟩ | ⟨c1, h1⟩
  · refine Or.inl ⟨c1, ?_⟩
    obtain ⟨n2, r2, k2, l2, x2, h2⟩ := bk_X11_feed_18 h1
    exact ⟨n2, r2, k2, by omega, x2, h2⟩
  · refine Or.inr ⟨c1, ?_⟩
    obtain ⟨e3, d3⟩ := bk_X11_feed_16 h1
    exact ⟨e3, d3⟩
theorem pt_X11_feed_26 {ax : zAx} {CE : g_E} (hCE : ∀ y cc as h r h', CE y cc as h r h' → g_ex ax y cc as h r h') {n : Nat} {ρ : Nat → Int} {L : List Nat} {g : Nat → Nat → Int} {r : Option g_V} {h : g_H} (h0 : g_run RX11 ax CE cX11_feed n (26, ρ, [], L, g) r h) : (∃ n' r1 h1', n' < n ∧ CE yX6_append cX6_append [(0, g (ρ 0).toNat 2), (1, (ρ 2))] (L, g) r1 h1' ∧ g_run RX11 ax CE cX11_feed n' (34, ρ, g_push r1 [], h1') r h) := by
  obtain ⟨n1, r1, k1, l1, x1, h1⟩ := bk_X11_feed_26 h0
  exact ⟨n1, r1, k1, by omega, x1, h1⟩
theorem pt_X11_feed_34 {ax : zAx} {CE : g_E} (hCE : ∀ y cc as h r h', CE y cc as h r h' → g_ex ax y cc as h r h') {n : Nat} {ρ : Nat → Int} {L : List Nat} {g : Nat → Nat → Int} {r : Option g_V} {h : g_H} (h0 : g_run RX11 ax CE cX11_feed n (34, ρ, [], L, g) r h) : (∃ n' r1 h1', n' < n ∧ CE yX6_append cX6_append [(0, g (ρ 0).toNat 2), (1, (ρ 3))] (L, g) r1 h1' ∧ g_run RX11 ax CE cX11_feed n' (42, ρ, g_push r1 [], h1') r h) := by
  obtain ⟨n1, r1, k1, l1, x1, h1⟩ := bk_X11_feed_34 h0
  exact ⟨n1, r1, k1, by omega, x1, h1⟩
theorem pt_X11_feed_42 {ax : zAx} {CE : g_E} (hCE : ∀ y cc as h r h', CE y cc as h r h' → g_ex ax y cc as h r h') {n : Nat} {ρ : Nat → Int} {L : List Nat} {g : Nat → Nat → Int} {r : Option g_V} {h : g_H} (h0 : g_run RX11 ax CE cX11_feed n (42, ρ, [], L, g) r h) : (∃ n' r1 h1', n' < n ∧ CE yX6_append cX6_append [(0, g (ρ 0).toNat 2), (1, (ρ 4))] (L, g) r1 h1' ∧ g_run RX11 ax CE cX11_feed n' (51, ρ, g_push r1 [], h1') r h) := by
  obtain ⟨n1, r1, k1, l1, x1, h1⟩ := bk_X11_feed_42 h0
  exact ⟨n1, r1, k1, by omega, x1, h1⟩
theorem pt_X11_feed_51 {ax : zAx} {CE : g_E} (hCE : ∀ y cc as h r h', CE y cc as h r h' → g_ex ax y cc as h r h') {n : Nat} {ρ : Nat → Int} {L : List Nat} {g : Nat → Nat → Int} {r : Option g_V} {h : g_H} (h0 : g_run RX11 ax CE cX11_feed n (51, ρ, [], L, g) r h) : (∃ n' r1 h1', n' < n ∧ CE yX6_append cX6_append [(0, g (ρ 0).toNat 2), (1, (ρ 5))] (L, g) r1 h1' ∧ g_run RX11 ax CE cX11_feed n' (60, ρ, g_push r1 [], h1') r h) := by
  obtain ⟨n1, r1, k1, l1, x1, h1⟩ := bk_X11_feed_51 h0
  exact ⟨n1, r1, k1, by omega, x1, h1⟩
theorem pt_X11_feed_60 {ax : zAx} {CE : g_E} (hCE : ∀ y cc as h r h', CE y cc as h r h' → g_ex ax y cc as h r h') {n : Nat} {ρ : Nat → Int} {L : List Nat} {g : Nat → Nat → Int} {r : Option g_V} {h : g_H} (h0 : g_run RX11 ax CE cX11_feed n (60, ρ, [], L, g) r h) : (r = some (1, g (g (ρ 0).toNat 2).toNat 0) ∧ h = (L, g)) := by
  obtain ⟨e1, d1⟩ := bk_X11_feed_60 h0
  exact ⟨e1, d1⟩

theorem jI_X6_append : ∀ (pc : Nat) (q : Instr × Nat), lkp iX6_append pc = some q → decode cX6_append pc = .ok q := fun pc q hq => jX6_append (pc, q) (lkp_in iX6_append hq)
theorem bk_X6_append_0 {ax : zAx} {CE : g_E} {n : Nat} {ρ : Nat → Int} {L : List Nat} {g : Nat → Nat → Int} {r : Option g_V} {h : g_H} (hr : g_run RX6 ax CE cX6_append n (0, ρ, [], L, g) r h) : ∃ n', n' < n ∧ g_run RX6 ax CE cX6_append n' (3, (va_up ρ 2 24), [], L, g) r h := by
  obtain ⟨n1, e, h1⟩ := g_blk_ok noX6 jI_X6_append tab_X6 2 n hr (c2 := (3, (va_up ρ 2 24), [], L, g)) rfl
  exact ⟨n1, by omega, h1⟩
theorem bk_X6_append_3 {ax : zAx} {CE : g_E} {n : Nat} {ρ : Nat → Int} {L : List Nat} {g : Nat → Nat → Int} {r : Option g_V} {h : g_H} (hr : g_run RX6 ax CE cX6_append n (3, ρ, [], L, g) r h) : ∃ n', n' < n ∧ ((ρ 2 < 0 ∧ g_run RX6 ax CE cX6_append n' (49, ρ, [], L, g) r h) ∨ (¬ (ρ 2 < 0) ∧ g_run RX6 ax CE cX6_append n' (7, ρ, [], L, g) r h)) := by
  obtain ⟨n1, e, h1⟩ := g_blk_ok noX6 jI_X6_append tab_X6 2 n hr (c2 := (if ρ 2 < 0 then 49 else 7, ρ, [], L, g)) rfl
  refine ⟨n1, by omega, ?_⟩
  by_cases hc : ρ 2 < 0
  · exact Or.inl ⟨hc, by rw [if_pos hc] at h1; exact h1⟩
  · exact Or.inr ⟨hc, by rw [if_neg hc] at h1; exact h1⟩
theorem bk_X6_append_7 {ax : zAx} {CE : g_E} {n : Nat} {ρ : Nat → Int} {L : List Nat} {g : Nat → Nat → Int} {r : Option g_V} {h : g_H} (hr : g_run RX6 ax CE cX6_append n (7, ρ, [], L, g) r h) : ∃ n', n' < n ∧ ((300 ≤ g (ρ 0).toNat 0 ∧ g_run RX6 ax CE cX6_append n' (49, ρ, [], L, g) r h) ∨ (¬ (300 ≤ g (ρ 0).toNat 0) ∧ g_run RX6 ax CE cX6_append n' (17, ρ, [], L, g) r h)) := by
  obtain ⟨n1, e, h1⟩ := g_blk_ok noX6 jI_X6_append tab_X6 4 n hr (c2 := (if 300 ≤ g (ρ 0).toNat 0 then 49 else 17, ρ, [], L, g)) rfl
  refine ⟨n1, by omega, ?_⟩
  by_cases hc : 300 ≤ g (ρ 0).toNat 0
  · exact Or.inl ⟨hc, by rw [if_pos hc] at h1; exact h1⟩
  · exact Or.inr ⟨hc, by rw [if_neg hc] at h1; exact h1⟩
theorem bk_X6_append_17 {ax : zAx} {CE : g_E} {n : Nat} {ρ : Nat → Int} {L : List Nat} {g : Nat → Nat → Int} {r : Option g_V} {h : g_H} (hr : g_run RX6 ax CE cX6_append n (17, ρ, [], L, g) r h) : ∃ n', n' < n ∧ g_run RX6 ax CE cX6_append n' (3, (va_up ρ 2 (g_i (ρ 2 + (-8)))), [], L, (g_up (g_up g (g (ρ 0).toNat 5).toNat (g (ρ 0).toNat 0).toNat ((Int32.ofInt ((Int32.ofInt (ρ 1) >>> (Int32.ofInt (ρ 2) &&& 31)).toInt) &&& Int32.ofInt 255).toInt)) (ρ 0).toNat 0 (g_i (((g_up g (g (ρ 0).toNat 5).toNat (g (ρ 0).toNat 0).toNat ((Int32.ofInt ((Int32.ofInt (ρ 1) >>> (Int32.ofInt (ρ 2) &&& 31)).toInt) &&& Int32.ofInt 255).toInt)) (ρ 0).toNat 0) + 1)))) r h := by
  obtain ⟨n1, e, h1⟩ := g_blk_ok noX6 jI_X6_append tab_X6 18 n hr (c2 := (3, (va_up ρ 2 (g_i (ρ 2 + (-8)))), [], L, (g_up (g_up g (g (ρ 0).toNat 5).toNat (g (ρ 0).toNat 0).toNat ((Int32.ofInt ((Int32.ofInt (ρ 1) >>> (Int32.ofInt (ρ 2) &&& 31)).toInt) &&& Int32.ofInt 255).toInt)) (ρ 0).toNat 0 (g_i (((g_up g (g (ρ 0).toNat 5).toNat (g (ρ 0).toNat 0).toNat ((Int32.ofInt ((Int32.ofInt (ρ 1) >>> (Int32.ofInt (ρ 2) &&& 31)).toInt) &&& Int32.ofInt 255).toInt)) (ρ 0).toNat 0) + 1))))) rfl
  exact ⟨n1, by omega, h1⟩
theorem bk_X6_append_49 {ax : zAx} {CE : g_E} {n : Nat} {ρ : Nat → Int} {L : List Nat} {g : Nat → Nat → Int} {r : Option g_V} {h : g_H} (hr : g_run RX6 ax CE cX6_append n (49, ρ, [], L, g) r h) : r = none ∧ h = (L, g) := by
  obtain ⟨n1, e, h1⟩ := g_blk_ok noX6 jI_X6_append tab_X6 0 n hr (c2 := (49, ρ, [], L, g)) rfl
  exact g_retv_un noX6 (jI_X6_append 49 _ rfl) h1
theorem pt_X6_append_0 {ax : zAx} {CE : g_E} (hCE : ∀ y cc as h r h', CE y cc as h r h' → g_ex ax y cc as h r h') {n : Nat} {ρ : Nat → Int} {L : List Nat} {g : Nat → Nat → Int} {r : Option g_V} {h : g_H} (h0 : g_run RX6 ax CE cX6_append n (0, ρ, [], L, g) r h) : (∃ n', n' < n ∧ g_run RX6 ax CE cX6_append n' (3, (va_up ρ 2 24), [], L, g) r h) := by
  obtain ⟨n1, l1, h1⟩ := bk_X6_append_0 h0
  exact ⟨_, by omega, h1⟩
theorem pt_X6_append_3 {ax : zAx} {CE : g_E} (hCE : ∀ y cc as h r h', CE y cc as h r h' → g_ex ax y cc as h r h') {n : Nat} {ρ : Nat → Int} {L : List Nat} {g : Nat → Nat → Int} {r : Option g_V} {h : g_H} (h0 : g_run RX6 ax CE cX6_append n (3, ρ, [], L, g) r h) : (((ρ 2) < 0 ∧ (r = none ∧ h = (L, g))) ∨ (¬ ((ρ 2) < 0) ∧ ((300 ≤ g (ρ 0).toNat 0 ∧ (r = none ∧ h = (L, g))) ∨ (¬ (300 ≤ g (ρ 0).toNat 0) ∧ (∃ n', n' < n ∧ g_run RX6 ax CE cX6_append n' (3, (va_up ρ 2 (g_i ((ρ 2) + (-8)))), [], L, (g_up (g_up g (g (ρ 0).toNat 5).toNat (g (ρ 0).toNat 0).toNat ((Int32.ofInt ((Int32.ofInt (ρ 1) >>> (Int32.ofInt (ρ 2) &&& 31)).toInt) &&& Int32.ofInt 255).toInt)) (ρ 0).toNat 0 (g_i (((g_up g (g (ρ 0).toNat 5).toNat (g (ρ 0).toNat 0).toNat ((Int32.ofInt ((Int32.ofInt (ρ 1) >>> (Int32.ofInt (ρ 2) &&& 31)).toInt) &&& Int32.ofInt 255).toInt)) (ρ 0).toNat 0) + 1)))) r h))))) := by
  obtain ⟨n1, l1, h1⟩ := bk_X6_append_3 h0
  rcases h1 with ⟨c1, h1⟩ | ⟨c1, h1⟩
  · refine Or.inl ⟨c1, ?_⟩
    obtain ⟨e2, d2⟩ := bk_X6_append_49 h1
    exact ⟨e2, d2⟩
  · refine Or.inr ⟨c1, ?_⟩
    obtain ⟨n3, l3, h3⟩ := bk_X6_append_7 h1
    rcases h3 with ⟨c3, h3⟩ | ⟨c3, h3⟩
    · refine Or.inl ⟨c3, ?_⟩
      obtain ⟨e4, d4⟩ := bk_X6_append_49 h3
      exact ⟨e4, d4⟩
    · refine Or.inr ⟨c3, ?_⟩
      obtain ⟨n5, l5, h5⟩ := bk_X6_append_17 h3
      exact ⟨_, by omega, h5⟩

theorem jI_X12_feed : ∀ (pc : Nat) (q : Instr × Nat), lkp iX12_feed pc = some q → decode cX12_feed pc = .ok q := fun pc q hq => jX12_feed (pc, q) (lkp_in iX12_feed hq)
theorem bk_X12_feed_0 {ax : zAx} {CE : g_E} {n : Nat} {ρ : Nat → Int} {L : List Nat} {g : Nat → Nat → Int} {r : Option g_V} {h : g_H} (hr : g_run RX12 ax CE cX12_feed n (0, ρ, [], L, g) r h) : ∃ n', n' < n ∧ ((g_i ((g (ρ 0).toNat 4) + 20) ≤ 300 ∧ g_run RX12 ax CE cX12_feed n' (15, ρ, [], L, g) r h) ∨ (¬ (g_i ((g (ρ 0).toNat 4) + 20) ≤ 300) ∧ g_run RX12 ax CE cX12_feed n' (13, ρ, [], L, g) r h)) := by
  obtain ⟨n1, e, h1⟩ := g_blk_ok noX12 jI_X12_feed tab_X12 6 n hr (c2 := (if g_i ((g (ρ 0).toNat 4) + 20) ≤ 300 then 15 else 13, ρ, [], L, g)) rfl
  refine ⟨n1, by omega, ?_⟩
  by_cases hc : g_i ((g (ρ 0).toNat 4) + 20) ≤ 300
  · exact Or.inl ⟨hc, by rw [if_pos hc] at h1; exact h1⟩
  · exact Or.inr ⟨hc, by rw [if_neg hc] at h1; exact h1⟩
theorem bk_X12_feed_13 {ax : zAx} {CE : g_E} {n : Nat} {ρ : Nat → Int} {L : List Nat} {g : Nat → Nat → Int} {r : Option g_V} {h : g_H} (hr : g_run RX12 ax CE cX12_feed n (13, ρ, [], L, g) r h) : r = some (1, (-1)) ∧ h = (L, g) := by
  obtain ⟨n1, e, h1⟩ := g_blk_ok noX12 jI_X12_feed tab_X12 1 n hr (c2 := (14, ρ, [(1, (-1))], L, g)) rfl
  exact g_ret_un noX12 (i := .ireturn) (jI_X12_feed 14 _ rfl) (by decide) h1
theorem bk_X12_feed_15 {ax : zAx} {CE : g_E} {n : Nat} {ρ : Nat → Int} {L : List Nat} {g : Nat → Nat → Int} {r : Option g_V} {h : g_H} (hr : g_run RX12 ax CE cX12_feed n (15, ρ, [], L, g) r h) : ∃ n' r1 h1', n' < n ∧ CE yX12_four cX12_four [(0, ρ 0), (1, ρ 1)] (L, g) r1 h1' ∧ g_run RX12 ax CE cX12_feed n' (20, ρ, g_push r1 [], h1') r h := by
  obtain ⟨n1, e, h1⟩ := g_blk_ok noX12 jI_X12_feed tab_X12 2 n hr (c2 := (17, ρ, [(1, ρ 1), (1, ρ 0)], L, g)) rfl
  obtain ⟨n2, c', e2, h2, h3⟩ := g_step_un noX12 (i := .invokevirtual 136) (len := 3) (jI_X12_feed 17 _ rfl) (gnrV _) h1
  obtain ⟨r1, h1', hx, hc⟩ := g_virt_un lk_X12 nat_all lX12_ok (idx := 136) (mi := 113) (ci := 12) (na := 2) rfl (by decide) mq_X12_four [(1, ρ 1)] [] (ρ 0) rfl rfl h2
  subst hc
  exact ⟨n2, r1, h1', by omega, hx, h3⟩
theorem bk_X12_feed_20 {ax : zAx} {CE : g_E} {n : Nat} {ρ : Nat → Int} {L : List Nat} {g : Nat → Nat → Int} {r : Option g_V} {h : g_H} (hr : g_run RX12 ax CE cX12_feed n (20, ρ, [], L, g) r h) : ∃ n' r1 h1', n' < n ∧ CE yX12_four cX12_four [(0, ρ 0), (1, ρ 2)] (L, g) r1 h1' ∧ g_run RX12 ax CE cX12_feed n' (25, ρ, g_push r1 [], h1') r h := by
  obtain ⟨n1, e, h1⟩ := g_blk_ok noX12 jI_X12_feed tab_X12 2 n hr (c2 := (22, ρ, [(1, ρ 2), (1, ρ 0)], L, g)) rfl
  obtain ⟨n2, c', e2, h2, h3⟩ := g_step_un noX12 (i := .invokevirtual 136) (len := 3) (jI_X12_feed 22 _ rfl) (gnrV _) h1
  obtain ⟨r1, h1', hx, hc⟩ := g_virt_un lk_X12 nat_all lX12_ok (idx := 136) (mi := 113) (ci := 12) (na := 2) rfl (by decide) mq_X12_four [(1, ρ 2)] [] (ρ 0) rfl rfl h2
  subst hc
  exact ⟨n2, r1, h1', by omega, hx, h3⟩
theorem bk_X12_feed_25 {ax : zAx} {CE : g_E} {n : Nat} {ρ : Nat → Int} {L : List Nat} {g : Nat → Nat → Int} {r : Option g_V} {h : g_H} (hr : g_run RX12 ax CE cX12_feed n (25, ρ, [], L, g) r h) : ∃ n' r1 h1', n' < n ∧ CE yX12_four cX12_four [(0, ρ 0), (1, ρ 3)] (L, g) r1 h1' ∧ g_run RX12 ax CE cX12_feed n' (30, ρ, g_push r1 [], h1') r h := by
  obtain ⟨n1, e, h1⟩ := g_blk_ok noX12 jI_X12_feed tab_X12 2 n hr (c2 := (27, ρ, [(1, ρ 3), (1, ρ 0)], L, g)) rfl
  obtain ⟨n2, c', e2, h2, h3⟩ := g_step_un noX12 (i := .invokevirtual 136) (len := 3) (jI_X12_feed 27 _ rfl) (gnrV _) h1
  obtain ⟨r1, h1', hx, hc⟩ := g_virt_un lk_X12 nat_all lX12_ok (idx := 136) (mi := 113) (ci := 12) (na := 2) rfl (by decide) mq_X12_four [(1, ρ 3)] [] (ρ 0) rfl rfl h2
  subst hc
  exact ⟨n2, r1, h1', by omega, hx, h3⟩
theorem bk_X12_feed_30 {ax : zAx} {CE : g_E} {n : Nat} {ρ : Nat → Int} {L : List Nat} {g : Nat → Nat → Int} {r : Option g_V} {h : g_H} (hr : g_run RX12 ax CE cX12_feed n (30, ρ, [], L, g) r h) : ∃ n' r1 h1', n' < n ∧ CE yX12_four cX12_four [(0, ρ 0), (1, ρ 4)] (L, g) r1 h1' ∧ g_run RX12 ax CE cX12_feed n' (36, ρ, g_push r1 [], h1') r h := by
  obtain ⟨n1, e, h1⟩ := g_blk_ok noX12 jI_X12_feed tab_X12 2 n hr (c2 := (33, ρ, [(1, ρ 4), (1, ρ 0)], L, g)) rfl
  obtain ⟨n2, c', e2, h2, h3⟩ := g_step_un noX12 (i := .invokevirtual 136) (len := 3) (jI_X12_feed 33 _ rfl) (gnrV _) h1
  obtain ⟨r1, h1', hx, hc⟩ := g_virt_un lk_X12 nat_all lX12_ok (idx := 136) (mi := 113) (ci := 12) (na := 2) rfl (by decide) mq_X12_four [(1, ρ 4)] [] (ρ 0) rfl rfl h2
  subst hc
  exact ⟨n2, r1, h1', by omega, hx, h3⟩
theorem bk_X12_feed_36 {ax : zAx} {CE : g_E} {n : Nat} {ρ : Nat → Int} {L : List Nat} {g : Nat → Nat → Int} {r : Option g_V} {h : g_H} (hr : g_run RX12 ax CE cX12_feed n (36, ρ, [], L, g) r h) : ∃ n' r1 h1', n' < n ∧ CE yX12_four cX12_four [(0, ρ 0), (1, ρ 5)] (L, g) r1 h1' ∧ g_run RX12 ax CE cX12_feed n' (42, ρ, g_push r1 [], h1') r h := by
  obtain ⟨n1, e, h1⟩ := g_blk_ok noX12 jI_X12_feed tab_X12 2 n hr (c2 := (39, ρ, [(1, ρ 5), (1, ρ 0)], L, g)) rfl
  obtain ⟨n2, c', e2, h2, h3⟩ := g_step_un noX12 (i := .invokevirtual 136) (len := 3) (jI_X12_feed 39 _ rfl) (gnrV _) h1
  obtain ⟨r1, h1', hx, hc⟩ := g_virt_un lk_X12 nat_all lX12_ok (idx := 136) (mi := 113) (ci := 12) (na := 2) rfl (by decide) mq_X12_four [(1, ρ 5)] [] (ρ 0) rfl rfl h2
  subst hc
  exact ⟨n2, r1, h1', by omega, hx, h3⟩
theorem bk_X12_feed_42 {ax : zAx} {CE : g_E} {n : Nat} {ρ : Nat → Int} {L : List Nat} {g : Nat → Nat → Int} {r : Option g_V} {h : g_H} (hr : g_run RX12 ax CE cX12_feed n (42, ρ, [], L, g) r h) : r = some (1, g (ρ 0).toNat 4) ∧ h = (L, g) := by
  obtain ⟨n1, e, h1⟩ := g_blk_ok noX12 jI_X12_feed tab_X12 2 n hr (c2 := (46, ρ, [(1, g (ρ 0).toNat 4)], L, g)) rfl
  exact g_ret_un noX12 (i := .ireturn) (jI_X12_feed 46 _ rfl) (by decide) h1
theorem pt_X12_feed_0 {ax : zAx} {CE : g_E} (hCE : ∀ y cc as h r h', CE y cc as h r h' → g_ex ax y cc as h r h') {n : Nat} {ρ : Nat → Int} {L : List Nat} {g : Nat → Nat → Int} {r : Option g_V} {h : g_H} (h0 : g_run RX12 ax CE cX12_feed n (0, ρ, [], L, g) r h) : ((g_i ((g (ρ 0).toNat 4) + 20) ≤ 300 ∧ (∃ n' r1 h1', n' < n ∧ CE yX12_four cX12_four [(0, (ρ 0)), (1, (ρ 1))] (L, g) r1 h1' ∧ g_run RX12 ax CE cX12_feed n' (20, ρ, g_push r1 [], h1') r h)) ∨ (¬ (g_i ((g (ρ 0).toNat 4) + 20) ≤ 300) ∧ (r = some (1, (-1)) ∧ h = (L, g)))) := by
  obtain ⟨n1, l1, h1⟩ := bk_X12_feed_0 h0
  rcases h1 with ⟨c1, h1⟩ | ⟨c1, h1⟩
  · refine Or.inl ⟨c1, ?_⟩
    obtain ⟨n2, r2, k2, l2, x2, h2⟩ := bk_X12_feed_15 h1
    exact ⟨n2, r2, k2, by omega, x2, h2⟩
  · refine Or.inr ⟨c1, ?_⟩
    obtain ⟨e3, d3⟩ := bk_X12_feed_13 h1
    exact ⟨e3, d3⟩
theorem pt_X12_feed_20 {ax : zAx} {CE : g_E} (hCE : ∀ y cc as h r h', CE y cc as h r h' → g_ex ax y cc as h r h') {n : Nat} {ρ : Nat → Int} {L : List Nat} {g : Nat → Nat → Int} {r : Option g_V} {h : g_H} (h0 : g_run RX12 ax CE cX12_feed n (20, ρ, [], L, g) r h) : (∃ n' r1 h1', n' < n ∧ CE yX12_four cX12_four [(0, (ρ 0)), (1, (ρ 2))] (L, g) r1 h1' ∧ g_run RX12 ax CE cX12_feed n' (25, ρ, g_push r1 [], h1') r h) := by
  obtain ⟨n1, r1, k1, l1, x1, h1⟩ := bk_X12_feed_20 h0
  exact ⟨n1, r1, k1, by omega, x1, h1⟩
theorem pt_X12_feed_25 {ax : zAx} {CE : g_E} (hCE : ∀ y cc as h r h', CE y cc as h r h' → g_ex ax y cc as h r h') {n : Nat} {ρ : Nat → Int} {L : List Nat} {g : Nat → Nat → Int} {r : Option g_V} {h : g_H} (h0 : g_run RX12 ax CE cX12_feed n (25, ρ, [], L, g) r h) : (∃ n' r1 h1', n' < n ∧ CE yX12_four cX12_four [(0, (ρ 0)), (1, (ρ 3))] (L, g) r1 h1' ∧ g_run RX12 ax CE cX12_feed n' (30, ρ, g_push r1 [], h1') r h) := by
  obtain ⟨n1, r1, k1, l1, x1, h1⟩ := bk_X12_feed_25 h0
  exact ⟨n1, r1, k1, by omega, x1, h1⟩
theorem pt_X12_feed_30 {ax : zAx} {CE : g_E} (hCE : ∀ y cc as h r h', CE y cc as h r h' → g_ex ax y cc as h r h') {n : Nat} {ρ : Nat → Int} {L : List Nat} {g : Nat → Nat → Int} {r : Option g_V} {h : g_H} (h0 : g_run RX12 ax CE cX12_feed n (30, ρ, [], L, g) r h) : (∃ n' r1 h1', n' < n ∧ CE yX12_four cX12_four [(0, (ρ 0)), (1, (ρ 4))] (L, g) r1 h1' ∧ g_run RX12 ax CE cX12_feed n' (36, ρ, g_push r1 [], h1') r h) := by
  obtain ⟨n1, r1, k1, l1, x1, h1⟩ := bk_X12_feed_30 h0
  exact ⟨n1, r1, k1, by omega, x1, h1⟩
theorem pt_X12_feed_36 {ax : zAx} {CE : g_E} (hCE : ∀ y cc as h r h', CE y cc as h r h' → g_ex ax y cc as h r h') {n : Nat} {ρ : Nat → Int} {L : List Nat} {g : Nat → Nat → Int} {r : Option g_V} {h : g_H} (h0 : g_run RX12 ax CE cX12_feed n (36, ρ, [], L, g) r h) : (∃ n' r1 h1', n' < n ∧ CE yX12_four cX12_four [(0, (ρ 0)), (1, (ρ 5))] (L, g) r1 h1' ∧ g_run RX12 ax CE cX12_feed n' (42, ρ, g_push r1 [], h1') r h) := by
  obtain ⟨n1, r1, k1, l1, x1, h1⟩ := bk_X12_feed_36 h0
  exact ⟨n1, r1, k1, by omega, x1, h1⟩
theorem pt_X12_feed_42 {ax : zAx} {CE : g_E} (hCE : ∀ y cc as h r h', CE y cc as h r h' → g_ex ax y cc as h r h') {n : Nat} {ρ : Nat → Int} {L : List Nat} {g : Nat → Nat → Int} {r : Option g_V} {h : g_H} (h0 : g_run RX12 ax CE cX12_feed n (42, ρ, [], L, g) r h) : (r = some (1, g (ρ 0).toNat 4) ∧ h = (L, g)) := by
  obtain ⟨e1, d1⟩ := bk_X12_feed_42 h0
  exact ⟨e1, d1⟩

theorem jI_X12_four : ∀ (pc : Nat) (q : Instr × Nat), lkp iX12_four pc = some q → decode cX12_four pc = .ok q := fun pc q hq => jX12_four (pc, q) (lkp_in iX12_four hq)
theorem bk_X12_four_0 {ax : zAx} {CE : g_E} {n : Nat} {ρ : Nat → Int} {L : List Nat} {g : Nat → Nat → Int} {r : Option g_V} {h : g_H} (hr : g_run RX12 ax CE cX12_four n (0, ρ, [], L, g) r h) : ∃ n', n' < n ∧ g_run RX12 ax CE cX12_four n' (3, (va_up ρ 2 24), [], L, g) r h := by
  obtain ⟨n1, e, h1⟩ := g_blk_ok noX12 jI_X12_four tab_X12 2 n hr (c2 := (3, (va_up ρ 2 24), [], L, g)) rfl
  exact ⟨n1, by omega, h1⟩
theorem bk_X12_four_3 {ax : zAx} {CE : g_E} {n : Nat} {ρ : Nat → Int} {L : List Nat} {g : Nat → Nat → Int} {r : Option g_V} {h : g_H} (hr : g_run RX12 ax CE cX12_four n (3, ρ, [], L, g) r h) : ∃ n', n' < n ∧ ((ρ 2 < 0 ∧ g_run RX12 ax CE cX12_four n' (39, ρ, [], L, g) r h) ∨ (¬ (ρ 2 < 0) ∧ g_run RX12 ax CE cX12_four n' (7, ρ, [], L, g) r h)) := by
  obtain ⟨n1, e, h1⟩ := g_blk_ok noX12 jI_X12_four tab_X12 2 n hr (c2 := (if ρ 2 < 0 then 39 else 7, ρ, [], L, g)) rfl
  refine ⟨n1, by omega, ?_⟩
  by_cases hc : ρ 2 < 0
  · exact Or.inl ⟨hc, by rw [if_pos hc] at h1; exact h1⟩
  · exact Or.inr ⟨hc, by rw [if_neg hc] at h1; exact h1⟩
theorem bk_X12_four_7 {ax : zAx} {CE : g_E} {n : Nat} {ρ : Nat → Int} {L : List Nat} {g : Nat → Nat → Int} {r : Option g_V} {h : g_H} (hr : g_run RX12 ax CE cX12_four n (7, ρ, [], L, g) r h) : ∃ n', n' < n ∧ g_run RX12 ax CE cX12_four n' (3, (va_up ρ 2 (g_i (ρ 2 + (-8)))), [], L, (g_up (g_up g (g (ρ 0).toNat 3).toNat (g (ρ 0).toNat 4).toNat ((Int32.ofInt ((Int32.ofInt (ρ 1) >>> (Int32.ofInt (ρ 2) &&& 31)).toInt) &&& Int32.ofInt 255).toInt)) (ρ 0).toNat 4 (g_i (((g_up g (g (ρ 0).toNat 3).toNat (g (ρ 0).toNat 4).toNat ((Int32.ofInt ((Int32.ofInt (ρ 1) >>> (Int32.ofInt (ρ 2) &&& 31)).toInt) &&& Int32.ofInt 255).toInt)) (ρ 0).toNat 4) + 1)))) r h := by
  obtain ⟨n1, e, h1⟩ := g_blk_ok noX12 jI_X12_four tab_X12 18 n hr (c2 := (3, (va_up ρ 2 (g_i (ρ 2 + (-8)))), [], L, (g_up (g_up g (g (ρ 0).toNat 3).toNat (g (ρ 0).toNat 4).toNat ((Int32.ofInt ((Int32.ofInt (ρ 1) >>> (Int32.ofInt (ρ 2) &&& 31)).toInt) &&& Int32.ofInt 255).toInt)) (ρ 0).toNat 4 (g_i (((g_up g (g (ρ 0).toNat 3).toNat (g (ρ 0).toNat 4).toNat ((Int32.ofInt ((Int32.ofInt (ρ 1) >>> (Int32.ofInt (ρ 2) &&& 31)).toInt) &&& Int32.ofInt 255).toInt)) (ρ 0).toNat 4) + 1))))) rfl
  exact ⟨n1, by omega, h1⟩
theorem bk_X12_four_39 {ax : zAx} {CE : g_E} {n : Nat} {ρ : Nat → Int} {L : List Nat} {g : Nat → Nat → Int} {r : Option g_V} {h : g_H} (hr : g_run RX12 ax CE cX12_four n (39, ρ, [], L, g) r h) : r = none ∧ h = (L, g) := by
  obtain ⟨n1, e, h1⟩ := g_blk_ok noX12 jI_X12_four tab_X12 0 n hr (c2 := (39, ρ, [], L, g)) rfl
  exact g_retv_un noX12 (jI_X12_four 39 _ rfl) h1
theorem pt_X12_four_0 {ax : zAx} {CE : g_E} (hCE : ∀ y cc as h r h', CE y cc as h r h' → g_ex ax y cc as h r h') {n : Nat} {ρ : Nat → Int} {L : List Nat} {g : Nat → Nat → Int} {r : Option g_V} {h : g_H} (h0 : g_run RX12 ax CE cX12_four n (0, ρ, [], L, g) r h) : (∃ n', n' < n ∧ g_run RX12 ax CE cX12_four n' (3, (va_up ρ 2 24), [], L, g) r h) := by
  obtain ⟨n1, l1, h1⟩ := bk_X12_four_0 h0
  exact ⟨_, by omega, h1⟩
theorem pt_X12_four_3 {ax : zAx} {CE : g_E} (hCE : ∀ y cc as h r h', CE y cc as h r h' → g_ex ax y cc as h r h') {n : Nat} {ρ : Nat → Int} {L : List Nat} {g : Nat → Nat → Int} {r : Option g_V} {h : g_H} (h0 : g_run RX12 ax CE cX12_four n (3, ρ, [], L, g) r h) : (((ρ 2) < 0 ∧ (r = none ∧ h = (L, g))) ∨ (¬ ((ρ 2) < 0) ∧ (∃ n', n' < n ∧ g_run RX12 ax CE cX12_four n' (3, (va_up ρ 2 (g_i ((ρ 2) + (-8)))), [], L, (g_up (g_up g (g (ρ 0).toNat 3).toNat (g (ρ 0).toNat 4).toNat ((Int32.ofInt ((Int32.ofInt (ρ 1) >>> (Int32.ofInt (ρ 2) &&& 31)).toInt) &&& Int32.ofInt 255).toInt)) (ρ 0).toNat 4 (g_i (((g_up g (g (ρ 0).toNat 3).toNat (g (ρ 0).toNat 4).toNat ((Int32.ofInt ((Int32.ofInt (ρ 1) >>> (Int32.ofInt (ρ 2) &&& 31)).toInt) &&& Int32.ofInt 255).toInt)) (ρ 0).toNat 4) + 1)))) r h))) := by
  obtain ⟨n1, l1, h1⟩ := bk_X12_four_3 h0
  rcases h1 with ⟨c1, h1⟩ | ⟨c1, h1⟩
  · refine Or.inl ⟨c1, ?_⟩
    obtain ⟨e2, d2⟩ := bk_X12_four_39 h1
    exact ⟨e2, d2⟩
  · refine Or.inr ⟨c1, ?_⟩
    obtain ⟨n3, l3, h3⟩ := bk_X12_four_7 h1
    exact ⟨_, by omega, h3⟩

theorem jI_X11_text : ∀ (pc : Nat) (q : Instr × Nat), lkp iX11_text pc = some q → decode cX11_text pc = .ok q := fun pc q hq => jX11_text (pc, q) (lkp_in iX11_text hq)
theorem bk_X11_text_0 {ax : zAx} {CE : g_E} {n : Nat} {ρ : Nat → Int} {L : List Nat} {g : Nat → Nat → Int} {r : Option g_V} {h : g_H} (hr : g_run RX11 ax CE cX11_text n (0, ρ, [], L, g) r h) : ∃ n', n' < n ∧ ((g (g (ρ 0).toNat 0).toNat 5 < 4 ∧ g_run RX11 ax CE cX11_text n' (13, ρ, [], L, g) r h) ∨ (¬ (g (g (ρ 0).toNat 0).toNat 5 < 4) ∧ g_run RX11 ax CE cX11_text n' (11, ρ, [], L, g) r h)) := by
  obtain ⟨n1, e, h1⟩ := g_blk_ok noX11 jI_X11_text tab_X11 5 n hr (c2 := (if g (g (ρ 0).toNat 0).toNat 5 < 4 then 13 else 11, ρ, [], L, g)) rfl
  refine ⟨n1, by omega, ?_⟩
  by_cases hc : g (g (ρ 0).toNat 0).toNat 5 < 4
  · exact Or.inl ⟨hc, by rw [if_pos hc] at h1; exact h1⟩
  · exact Or.inr ⟨hc, by rw [if_neg hc] at h1; exact h1⟩
theorem bk_X11_text_11 {ax : zAx} {CE : g_E} {n : Nat} {ρ : Nat → Int} {L : List Nat} {g : Nat → Nat → Int} {r : Option g_V} {h : g_H} (hr : g_run RX11 ax CE cX11_text n (11, ρ, [], L, g) r h) : r = some (1, (-1)) ∧ h = (L, g) := by
  obtain ⟨n1, e, h1⟩ := g_blk_ok noX11 jI_X11_text tab_X11 1 n hr (c2 := (12, ρ, [(1, (-1))], L, g)) rfl
  exact g_ret_un noX11 (i := .ireturn) (jI_X11_text 12 _ rfl) (by decide) h1
theorem bk_X11_text_13 {ax : zAx} {CE : g_E} {n : Nat} {ρ : Nat → Int} {L : List Nat} {g : Nat → Nat → Int} {r : Option g_V} {h : g_H} (hr : g_run RX11 ax CE cX11_text n (13, ρ, [], L, g) r h) : ∃ n' r1 h1', n' < n ∧ CE yX3_readTape cX3_readTape [(0, g (ρ 0).toNat 3)] (L, g) r1 h1' ∧ g_run RX11 ax CE cX11_text n' (20, ρ, g_push r1 [], h1') r h := by
  obtain ⟨n1, e, h1⟩ := g_blk_ok noX11 jI_X11_text tab_X11 2 n hr (c2 := (17, ρ, [(1, g (ρ 0).toNat 3)], L, g)) rfl
  obtain ⟨n2, c', e2, h2, h3⟩ := g_step_un noX11 (i := .invokevirtual 117) (len := 3) (jI_X11_text 17 _ rfl) (gnrV _) h1
  obtain ⟨r1, h1', hx, hc⟩ := g_virt_un lk_X11 nat_all lX11_ok (idx := 117) (mi := 241) (ci := 3) (na := 1) rfl (by decide) mq_X3_readTape [] [] (g (ρ 0).toNat 3) rfl rfl h2
  subst hc
  exact ⟨n2, r1, h1', by omega, hx, h3⟩
theorem bk_X11_text_20 {ax : zAx} {CE : g_E} {n : Nat} {ρ : Nat → Int} {s0 : Int} {L : List Nat} {g : Nat → Nat → Int} {r : Option g_V} {h : g_H} (hr : g_run RX11 ax CE cX11_text n (20, ρ, [(1, s0)], L, g) r h) : ∃ n', n' < n ∧ ((s0 = -1 ∧ g_run RX11 ax CE cX11_text n' (25, (va_up ρ 1 s0), [], L, g) r h) ∨ (¬ (s0 = -1) ∧ g_run RX11 ax CE cX11_text n' (27, (va_up ρ 1 s0), [], L, g) r h)) := by
  obtain ⟨n1, e, h1⟩ := g_blk_ok noX11 jI_X11_text tab_X11 3 n hr (c2 := (if s0 = -1 then 25 else 27, (va_up ρ 1 s0), [], L, g)) rfl
  refine ⟨n1, by omega, ?_⟩
  by_cases hc : s0 = -1
  · exact Or.inl ⟨hc, by rw [if_pos hc] at h1; exact h1⟩
  · exact Or.inr ⟨hc, by rw [if_neg hc] at h1; exact h1⟩
theorem bk_X11_text_25 {ax : zAx} {CE : g_E} {n : Nat} {ρ : Nat → Int} {L : List Nat} {g : Nat → Nat → Int} {r : Option g_V} {h : g_H} (hr : g_run RX11 ax CE cX11_text n (25, ρ, [], L, g) r h) : r = some (1, (-1)) ∧ h = (L, g) := by
  obtain ⟨n1, e, h1⟩ := g_blk_ok noX11 jI_X11_text tab_X11 1 n hr (c2 := (26, ρ, [(1, (-1))], L, g)) rfl
  exact g_ret_un noX11 (i := .ireturn) (jI_X11_text 26 _ rfl) (by decide) h1
theorem bk_X11_text_27 {ax : zAx} {CE : g_E} {n : Nat} {ρ : Nat → Int} {L : List Nat} {g : Nat → Nat → Int} {r : Option g_V} {h : g_H} (hr : g_run RX11 ax CE cX11_text n (27, ρ, [], L, g) r h) : ∃ n' r1 h1', n' < n ∧ CE yX4_addText cX4_addText [(0, g (ρ 0).toNat 0), (1, ρ 1)] (L, g) r1 h1' ∧ g_run RX11 ax CE cX11_text n' (35, ρ, g_push r1 [], h1') r h := by
  obtain ⟨n1, e, h1⟩ := g_blk_ok noX11 jI_X11_text tab_X11 3 n hr (c2 := (32, ρ, [(1, ρ 1), (1, g (ρ 0).toNat 0)], L, g)) rfl
  obtain ⟨n2, c', e2, h2, h3⟩ := g_step_un noX11 (i := .invokevirtual 121) (len := 3) (jI_X11_text 32 _ rfl) (gnrV _) h1
  obtain ⟨r1, h1', hx, hc⟩ := g_virt_un lk_X11 nat_all lX11_ok (idx := 121) (mi := 242) (ci := 4) (na := 2) rfl (by decide) mq_X4_addText [(1, ρ 1)] [] (g (ρ 0).toNat 0) rfl rfl h2
  subst hc
  exact ⟨n2, r1, h1', by omega, hx, h3⟩
theorem bk_X11_text_35 {ax : zAx} {CE : g_E} {n : Nat} {ρ : Nat → Int} {s0 : Int} {L : List Nat} {g : Nat → Nat → Int} {r : Option g_V} {h : g_H} (hr : g_run RX11 ax CE cX11_text n (35, ρ, [(1, s0)], L, g) r h) : r = some (1, s0) ∧ h = (L, g) := by
  obtain ⟨n1, e, h1⟩ := g_blk_ok noX11 jI_X11_text tab_X11 0 n hr (c2 := (35, ρ, [(1, s0)], L, g)) rfl
  exact g_ret_un noX11 (i := .ireturn) (jI_X11_text 35 _ rfl) (by decide) h1
theorem pt_X11_text_0 {ax : zAx} {CE : g_E} (hCE : ∀ y cc as h r h', CE y cc as h r h' → g_ex ax y cc as h r h') {n : Nat} {ρ : Nat → Int} {L : List Nat} {g : Nat → Nat → Int} {r : Option g_V} {h : g_H} (h0 : g_run RX11 ax CE cX11_text n (0, ρ, [], L, g) r h) : ((g (g (ρ 0).toNat 0).toNat 5 < 4 ∧ (∃ n' r1 h1', n' < n ∧ CE yX3_readTape cX3_readTape [(0, g (ρ 0).toNat 3)] (L, g) r1 h1' ∧ g_run RX11 ax CE cX11_text n' (20, ρ, g_push r1 [], h1') r h)) ∨ (¬ (g (g (ρ 0).toNat 0).toNat 5 < 4) ∧ (r = some (1, (-1)) ∧ h = (L, g)))) := by
  obtain ⟨n1, l1, h1⟩ := bk_X11_text_0 h0
  rcases h1 with ⟨c1, h1⟩ | ⟨c1, h1⟩
  · refine Or.inl ⟨c1, ?_⟩
    obtain ⟨n2, r2, k2, l2, x2, h2⟩ := bk_X11_text_13 h1
    exact ⟨n2, r2, k2, by omega, x2, h2⟩
  · refine Or.inr ⟨c1, ?_⟩
    obtain ⟨e3, d3⟩ := bk_X11_text_11 h1
    exact ⟨e3, d3⟩
theorem pt_X11_text_20 {ax : zAx} {CE : g_E} (hCE : ∀ y cc as h r h', CE y cc as h r h' → g_ex ax y cc as h r h') {n : Nat} {ρ : Nat → Int} {s0 : Int} {L : List Nat} {g : Nat → Nat → Int} {r : Option g_V} {h : g_H} (h0 : g_run RX11 ax CE cX11_text n (20, ρ, [(1, s0)], L, g) r h) : ((s0 = -1 ∧ (r = some (1, (-1)) ∧ h = (L, g))) ∨ (¬ (s0 = -1) ∧ (r = some (1, (F_X4_addText (g (ρ 0).toNat 0) s0 g).1) ∧ h = (L, (F_X4_addText (g (ρ 0).toNat 0) s0 g).2)))) := by
  obtain ⟨n1, l1, h1⟩ := bk_X11_text_20 h0
  rcases h1 with ⟨c1, h1⟩ | ⟨c1, h1⟩
  · refine Or.inl ⟨c1, ?_⟩
    obtain ⟨e2, d2⟩ := bk_X11_text_25 h1
    exact ⟨e2, d2⟩
  · refine Or.inr ⟨c1, ?_⟩
    obtain ⟨n3, r3, k3, l3, x3, h3⟩ := bk_X11_text_27 h1
    obtain ⟨e3, d3⟩ := f_X4_addText (hCE _ _ _ _ _ _ x3)
    subst e3
    subst d3
    obtain ⟨e4, d4⟩ := bk_X11_text_35 h3
    exact ⟨e4, d4⟩

theorem jI_X12_text : ∀ (pc : Nat) (q : Instr × Nat), lkp iX12_text pc = some q → decode cX12_text pc = .ok q := fun pc q hq => jX12_text (pc, q) (lkp_in iX12_text hq)
theorem bk_X12_text_0 {ax : zAx} {CE : g_E} {n : Nat} {ρ : Nat → Int} {L : List Nat} {g : Nat → Nat → Int} {r : Option g_V} {h : g_H} (hr : g_run RX12 ax CE cX12_text n (0, ρ, [], L, g) r h) : ∃ n', n' < n ∧ ((g (g (ρ 0).toNat 0).toNat 7 = 4 ∧ g_run RX12 ax CE cX12_text n' (11, ρ, [], L, g) r h) ∨ (¬ (g (g (ρ 0).toNat 0).toNat 7 = 4) ∧ g_run RX12 ax CE cX12_text n' (13, ρ, [], L, g) r h)) := by
  obtain ⟨n1, e, h1⟩ := g_blk_ok noX12 jI_X12_text tab_X12 6 n hr (c2 := (if g (g (ρ 0).toNat 0).toNat 7 = 4 then 11 else 13, ρ, [], L, g)) rfl
  refine ⟨n1, by omega, ?_⟩
  by_cases hc : g (g (ρ 0).toNat 0).toNat 7 = 4
  · exact Or.inl ⟨hc, by rw [if_pos hc] at h1; exact h1⟩
  · exact Or.inr ⟨hc, by rw [if_neg hc] at h1; exact h1⟩
theorem bk_X12_text_11 {ax : zAx} {CE : g_E} {n : Nat} {ρ : Nat → Int} {L : List Nat} {g : Nat → Nat → Int} {r : Option g_V} {h : g_H} (hr : g_run RX12 ax CE cX12_text n (11, ρ, [], L, g) r h) : r = some (1, (-1)) ∧ h = (L, g) := by
  obtain ⟨n1, e, h1⟩ := g_blk_ok noX12 jI_X12_text tab_X12 1 n hr (c2 := (12, ρ, [(1, (-1))], L, g)) rfl
  exact g_ret_un noX12 (i := .ireturn) (jI_X12_text 12 _ rfl) (by decide) h1
theorem bk_X12_text_13 {ax : zAx} {CE : g_E} {n : Nat} {ρ : Nat → Int} {L : List Nat} {g : Nat → Nat → Int} {r : Option g_V} {h : g_H} (hr : g_run RX12 ax CE cX12_text n (13, ρ, [], L, g) r h) : ∃ n' r1 h1', n' < n ∧ CE yX12_readText cX12_readText [(0, ρ 0)] (L, g) r1 h1' ∧ g_run RX12 ax CE cX12_text n' (18, ρ, g_push r1 [(1, ρ 0)], h1') r h := by
  obtain ⟨n1, e, h1⟩ := g_blk_ok noX12 jI_X12_text tab_X12 2 n hr (c2 := (15, ρ, [(1, ρ 0), (1, ρ 0)], L, g)) rfl
  obtain ⟨n2, c', e2, h2, h3⟩ := g_step_un noX12 (i := .invokevirtual 305) (len := 3) (jI_X12_text 15 _ rfl) (gnrV _) h1
  obtain ⟨r1, h1', hx, hc⟩ := g_virt_un lk_X12 nat_all lX12_ok (idx := 305) (mi := 167) (ci := 12) (na := 1) rfl (by decide) mq_X12_readText [] [(1, ρ 0)] (ρ 0) rfl rfl h2
  subst hc
  exact ⟨n2, r1, h1', by omega, hx, h3⟩
theorem bk_X12_text_18 {ax : zAx} {CE : g_E} {n : Nat} {ρ : Nat → Int} {s0 : Int} {s1 : Int} {L : List Nat} {g : Nat → Nat → Int} {r : Option g_V} {h : g_H} (hr : g_run RX12 ax CE cX12_text n (18, ρ, [(1, s0), (1, s1)], L, g) r h) : ∃ n', n' < n ∧ (((g_up g s1.toNat 5 s0) (ρ 0).toNat 5 = 0 ∧ g_run RX12 ax CE cX12_text n' (29, ρ, [(1, ρ 0)], L, (g_up g s1.toNat 5 s0)) r h) ∨ (¬ ((g_up g s1.toNat 5 s0) (ρ 0).toNat 5 = 0) ∧ g_run RX12 ax CE cX12_text n' (33, ρ, [(1, ρ 0)], L, (g_up g s1.toNat 5 s0)) r h)) := by
  obtain ⟨n1, e, h1⟩ := g_blk_ok noX12 jI_X12_text tab_X12 5 n hr (c2 := (if (g_up g s1.toNat 5 s0) (ρ 0).toNat 5 = 0 then 29 else 33, ρ, [(1, ρ 0)], L, (g_up g s1.toNat 5 s0))) rfl
  refine ⟨n1, by omega, ?_⟩
  by_cases hc : (g_up g s1.toNat 5 s0) (ρ 0).toNat 5 = 0
  · exact Or.inl ⟨hc, by rw [if_pos hc] at h1; exact h1⟩
  · exact Or.inr ⟨hc, by rw [if_neg hc] at h1; exact h1⟩
theorem bk_X12_text_29 {ax : zAx} {CE : g_E} {n : Nat} {ρ : Nat → Int} {s0 : Int} {L : List Nat} {g : Nat → Nat → Int} {r : Option g_V} {h : g_H} (hr : g_run RX12 ax CE cX12_text n (29, ρ, [(1, s0)], L, g) r h) : ∃ n', n' < n ∧ g_run RX12 ax CE cX12_text n' (37, ρ, [(1, (-1)), (1, s0)], L, g) r h := by
  obtain ⟨n1, e, h1⟩ := g_blk_ok noX12 jI_X12_text tab_X12 2 n hr (c2 := (37, ρ, [(1, (-1)), (1, s0)], L, g)) rfl
  exact ⟨n1, by omega, h1⟩
theorem bk_X12_text_33 {ax : zAx} {CE : g_E} {n : Nat} {ρ : Nat → Int} {s0 : Int} {L : List Nat} {g : Nat → Nat → Int} {r : Option g_V} {h : g_H} (hr : g_run RX12 ax CE cX12_text n (33, ρ, [(1, s0)], L, g) r h) : ∃ n', n' < n ∧ g_run RX12 ax CE cX12_text n' (37, ρ, [(1, g (ρ 0).toNat 8), (1, s0)], L, g) r h := by
  obtain ⟨n1, e, h1⟩ := g_blk_ok noX12 jI_X12_text tab_X12 2 n hr (c2 := (37, ρ, [(1, g (ρ 0).toNat 8), (1, s0)], L, g)) rfl
  exact ⟨n1, by omega, h1⟩
theorem bk_X12_text_37 {ax : zAx} {CE : g_E} {n : Nat} {ρ : Nat → Int} {s0 : Int} {s1 : Int} {L : List Nat} {g : Nat → Nat → Int} {r : Option g_V} {h : g_H} (hr : g_run RX12 ax CE cX12_text n (37, ρ, [(1, s0), (1, s1)], L, g) r h) : ∃ n', n' < n ∧ (((g_up (g_up g s1.toNat 6 s0) (ρ 0).toNat 4 0) (ρ 0).toNat 5 = 0 ∧ g_run RX12 ax CE cX12_text n' (54, ρ, [], L, (g_up (g_up g s1.toNat 6 s0) (ρ 0).toNat 4 0)) r h) ∨ (¬ ((g_up (g_up g s1.toNat 6 s0) (ρ 0).toNat 4 0) (ρ 0).toNat 5 = 0) ∧ g_run RX12 ax CE cX12_text n' (52, ρ, [], L, (g_up (g_up g s1.toNat 6 s0) (ρ 0).toNat 4 0)) r h)) := by
  obtain ⟨n1, e, h1⟩ := g_blk_ok noX12 jI_X12_text tab_X12 7 n hr (c2 := (if (g_up (g_up g s1.toNat 6 s0) (ρ 0).toNat 4 0) (ρ 0).toNat 5 = 0 then 54 else 52, ρ, [], L, (g_up (g_up g s1.toNat 6 s0) (ρ 0).toNat 4 0))) rfl
  refine ⟨n1, by omega, ?_⟩
  by_cases hc : (g_up (g_up g s1.toNat 6 s0) (ρ 0).toNat 4 0) (ρ 0).toNat 5 = 0
  · exact Or.inl ⟨hc, by rw [if_pos hc] at h1; exact h1⟩
  · exact Or.inr ⟨hc, by rw [if_neg hc] at h1; exact h1⟩
theorem bk_X12_text_52 {ax : zAx} {CE : g_E} {n : Nat} {ρ : Nat → Int} {L : List Nat} {g : Nat → Nat → Int} {r : Option g_V} {h : g_H} (hr : g_run RX12 ax CE cX12_text n (52, ρ, [], L, g) r h) : r = some (1, (-1)) ∧ h = (L, g) := by
  obtain ⟨n1, e, h1⟩ := g_blk_ok noX12 jI_X12_text tab_X12 1 n hr (c2 := (53, ρ, [(1, (-1))], L, g)) rfl
  exact g_ret_un noX12 (i := .ireturn) (jI_X12_text 53 _ rfl) (by decide) h1
theorem bk_X12_text_54 {ax : zAx} {CE : g_E} {n : Nat} {ρ : Nat → Int} {L : List Nat} {g : Nat → Nat → Int} {r : Option g_V} {h : g_H} (hr : g_run RX12 ax CE cX12_text n (54, ρ, [], L, g) r h) : r = some (1, g_i (((g_up g (g (ρ 0).toNat 0).toNat 7 (g_i ((g (g (ρ 0).toNat 0).toNat 7) + 1))) ((g_up g (g (ρ 0).toNat 0).toNat 7 (g_i ((g (g (ρ 0).toNat 0).toNat 7) + 1))) (ρ 0).toNat 0).toNat 7) - 1)) ∧ h = (L, (g_up g (g (ρ 0).toNat 0).toNat 7 (g_i ((g (g (ρ 0).toNat 0).toNat 7) + 1)))) := by
  obtain ⟨n1, e, h1⟩ := g_blk_ok noX12 jI_X12_text tab_X12 14 n hr (c2 := (74, ρ, [(1, g_i (((g_up g (g (ρ 0).toNat 0).toNat 7 (g_i ((g (g (ρ 0).toNat 0).toNat 7) + 1))) ((g_up g (g (ρ 0).toNat 0).toNat 7 (g_i ((g (g (ρ 0).toNat 0).toNat 7) + 1))) (ρ 0).toNat 0).toNat 7) - 1))], L, (g_up g (g (ρ 0).toNat 0).toNat 7 (g_i ((g (g (ρ 0).toNat 0).toNat 7) + 1))))) rfl
  exact g_ret_un noX12 (i := .ireturn) (jI_X12_text 74 _ rfl) (by decide) h1
theorem pt_X12_text_0 {ax : zAx} {CE : g_E} (hCE : ∀ y cc as h r h', CE y cc as h r h' → g_ex ax y cc as h r h') {n : Nat} {ρ : Nat → Int} {L : List Nat} {g : Nat → Nat → Int} {r : Option g_V} {h : g_H} (h0 : g_run RX12 ax CE cX12_text n (0, ρ, [], L, g) r h) : ((g (g (ρ 0).toNat 0).toNat 7 = 4 ∧ (r = some (1, (-1)) ∧ h = (L, g))) ∨ (¬ (g (g (ρ 0).toNat 0).toNat 7 = 4) ∧ (∃ n' r1 h1', n' < n ∧ CE yX12_readText cX12_readText [(0, (ρ 0))] (L, g) r1 h1' ∧ g_run RX12 ax CE cX12_text n' (18, ρ, g_push r1 [(1, (ρ 0))], h1') r h))) := by
  obtain ⟨n1, l1, h1⟩ := bk_X12_text_0 h0
  rcases h1 with ⟨c1, h1⟩ | ⟨c1, h1⟩
  · refine Or.inl ⟨c1, ?_⟩
    obtain ⟨e2, d2⟩ := bk_X12_text_11 h1
    exact ⟨e2, d2⟩
  · refine Or.inr ⟨c1, ?_⟩
    obtain ⟨n3, r3, k3, l3, x3, h3⟩ := bk_X12_text_13 h1
    exact ⟨n3, r3, k3, by omega, x3, h3⟩
theorem pt_X12_text_18 {ax : zAx} {CE : g_E} (hCE : ∀ y cc as h r h', CE y cc as h r h' → g_ex ax y cc as h r h') {n : Nat} {ρ : Nat → Int} {s0 : Int} {s1 : Int} {L : List Nat} {g : Nat → Nat → Int} {r : Option g_V} {h : g_H} (h0 : g_run RX12 ax CE cX12_text n (18, ρ, [(1, s0), (1, s1)], L, g) r h) : (((g_up g s1.toNat 5 s0) (ρ 0).toNat 5 = 0 ∧ (r = some (1, g_i (((g_up (g_up (g_up (g_up g s1.toNat 5 s0) (ρ 0).toNat 6 (-1)) (ρ 0).toNat 4 0) (g (ρ 0).toNat 0).toNat 7 (g_i ((g (g (ρ 0).toNat 0).toNat 7) + 1))) (g (ρ 0).toNat 0).toNat 7) - 1)) ∧ h = (L, (g_up (g_up (g_up (g_up g s1.toNat 5 s0) (ρ 0).toNat 6 (-1)) (ρ 0).toNat 4 0) (g (ρ 0).toNat 0).toNat 7 (g_i ((g (g (ρ 0).toNat 0).toNat 7) + 1)))))) ∨ (¬ ((g_up g s1.toNat 5 s0) (ρ 0).toNat 5 = 0) ∧ (r = some (1, (-1)) ∧ h = (L, (g_up (g_up (g_up g s1.toNat 5 s0) (ρ 0).toNat 6 (g (ρ 0).toNat 8)) (ρ 0).toNat 4 0))))) := by
  obtain ⟨n1, l1, h1⟩ := bk_X12_text_18 h0
  rcases h1 with ⟨c1, h1⟩ | ⟨c1, h1⟩
  · refine Or.inl ⟨c1, ?_⟩
    obtain ⟨n2, l2, h2⟩ := bk_X12_text_29 h1
    obtain ⟨n3, l3, h3⟩ := bk_X12_text_37 h2
    rcases h3 with ⟨c3, h3⟩ | ⟨c3, h3⟩
    · obtain ⟨e4, d4⟩ := bk_X12_text_54 h3
      exact ⟨e4, d4⟩
    · exact absurd c1 c3
  · refine Or.inr ⟨c1, ?_⟩
    obtain ⟨n5, l5, h5⟩ := bk_X12_text_33 h1
    obtain ⟨n6, l6, h6⟩ := bk_X12_text_37 h5
    rcases h6 with ⟨c6, h6⟩ | ⟨c6, h6⟩
    · exact absurd c6 c1
    · obtain ⟨e7, d7⟩ := bk_X12_text_52 h6
      exact ⟨e7, d7⟩

theorem jI_X6_findTokens : ∀ (pc : Nat) (q : Instr × Nat), lkp iX6_findTokens pc = some q → decode cX6_findTokens pc = .ok q := fun pc q hq => jX6_findTokens (pc, q) (lkp_in iX6_findTokens hq)
theorem bk_X6_findTokens_0 {ax : zAx} {CE : g_E} {n : Nat} {ρ : Nat → Int} {L : List Nat} {g : Nat → Nat → Int} {r : Option g_V} {h : g_H} (hr : g_run RX6 ax CE cX6_findTokens n (0, ρ, [], L, g) r h) : ∃ n', n' < n ∧ g_run RX6 ax CE cX6_findTokens n' (9, (va_up (va_up ρ 1 0) 2 0), [], L, (g_up g (ρ 0).toNat 1 0)) r h := by
  obtain ⟨n1, e, h1⟩ := g_blk_ok noX6 jI_X6_findTokens tab_X6 7 n hr (c2 := (9, (va_up (va_up ρ 1 0) 2 0), [], L, (g_up g (ρ 0).toNat 1 0))) rfl
  exact ⟨n1, by omega, h1⟩
theorem bk_X6_findTokens_9 {ax : zAx} {CE : g_E} {n : Nat} {ρ : Nat → Int} {L : List Nat} {g : Nat → Nat → Int} {r : Option g_V} {h : g_H} (hr : g_run RX6 ax CE cX6_findTokens n (9, ρ, [], L, g) r h) : ∃ n', n' < n ∧ ((300 ≤ ρ 2 ∧ g_run RX6 ax CE cX6_findTokens n' (106, ρ, [], L, g) r h) ∨ (¬ (300 ≤ ρ 2) ∧ g_run RX6 ax CE cX6_findTokens n' (16, ρ, [], L, g) r h)) := by
  obtain ⟨n1, e, h1⟩ := g_blk_ok noX6 jI_X6_findTokens tab_X6 3 n hr (c2 := (if 300 ≤ ρ 2 then 106 else 16, ρ, [], L, g)) rfl
  refine ⟨n1, by omega, ?_⟩
  by_cases hc : 300 ≤ ρ 2
  · exact Or.inl ⟨hc, by rw [if_pos hc] at h1; exact h1⟩
  · exact Or.inr ⟨hc, by rw [if_neg hc] at h1; exact h1⟩
theorem bk_X6_findTokens_16 {ax : zAx} {CE : g_E} {n : Nat} {ρ : Nat → Int} {L : List Nat} {g : Nat → Nat → Int} {r : Option g_V} {h : g_H} (hr : g_run RX6 ax CE cX6_findTokens n (16, ρ, [], L, g) r h) : ∃ n', n' < n ∧ ((g (ρ 0).toNat 0 ≤ ρ 1 ∧ g_run RX6 ax CE cX6_findTokens n' (106, ρ, [], L, g) r h) ∨ (¬ (g (ρ 0).toNat 0 ≤ ρ 1) ∧ g_run RX6 ax CE cX6_findTokens n' (24, ρ, [], L, g) r h)) := by
  obtain ⟨n1, e, h1⟩ := g_blk_ok noX6 jI_X6_findTokens tab_X6 4 n hr (c2 := (if g (ρ 0).toNat 0 ≤ ρ 1 then 106 else 24, ρ, [], L, g)) rfl
  refine ⟨n1, by omega, ?_⟩
  by_cases hc : g (ρ 0).toNat 0 ≤ ρ 1
  · exact Or.inl ⟨hc, by rw [if_pos hc] at h1; exact h1⟩
  · exact Or.inr ⟨hc, by rw [if_neg hc] at h1; exact h1⟩
theorem bk_X6_findTokens_24 {ax : zAx} {CE : g_E} {n : Nat} {ρ : Nat → Int} {L : List Nat} {g : Nat → Nat → Int} {r : Option g_V} {h : g_H} (hr : g_run RX6 ax CE cX6_findTokens n (24, ρ, [], L, g) r h) : ∃ n' r1 h1', n' < n ∧ CE yX6_isLetter cX6_isLetter [(0, g (g (ρ 0).toNat 5).toNat (ρ 1).toNat)] (L, g) r1 h1' ∧ g_run RX6 ax CE cX6_findTokens n' (33, ρ, g_push r1 [], h1') r h := by
  obtain ⟨n1, e, h1⟩ := g_blk_ok noX6 jI_X6_findTokens tab_X6 4 n hr (c2 := (30, ρ, [(1, g (g (ρ 0).toNat 5).toNat (ρ 1).toNat)], L, g)) rfl
  obtain ⟨n2, c', e2, h2, h3⟩ := g_step_un noX6 (i := .invokestatic 31) (len := 3) (jI_X6_findTokens 30 _ rfl) (gnrS _) h1
  obtain ⟨r1, h1', hx, hc⟩ := g_static_un lk_X6 nat_all lX6_ok (idx := 31) (mode := 1) (mi := 261) (ci := 0) (na := 1) rfl (by decide) (by decide) mq_X6_isLetter [(1, g (g (ρ 0).toNat 5).toNat (ρ 1).toNat)] [] rfl rfl h2
  subst hc
  exact ⟨n2, r1, h1', by omega, hx, h3⟩
theorem bk_X6_findTokens_33 {ax : zAx} {CE : g_E} {n : Nat} {ρ : Nat → Int} {s0 : Int} {L : List Nat} {g : Nat → Nat → Int} {r : Option g_V} {h : g_H} (hr : g_run RX6 ax CE cX6_findTokens n (33, ρ, [(1, s0)], L, g) r h) : ∃ n', n' < n ∧ ((s0 = 0 ∧ g_run RX6 ax CE cX6_findTokens n' (45, ρ, [], L, g) r h) ∨ (¬ (s0 = 0) ∧ g_run RX6 ax CE cX6_findTokens n' (36, ρ, [], L, g) r h)) := by
  obtain ⟨n1, e, h1⟩ := g_blk_ok noX6 jI_X6_findTokens tab_X6 1 n hr (c2 := (if s0 = 0 then 45 else 36, ρ, [], L, g)) rfl
  refine ⟨n1, by omega, ?_⟩
  by_cases hc : s0 = 0
  · exact Or.inl ⟨hc, by rw [if_pos hc] at h1; exact h1⟩
  · exact Or.inr ⟨hc, by rw [if_neg hc] at h1; exact h1⟩
theorem bk_X6_findTokens_36 {ax : zAx} {CE : g_E} {n : Nat} {ρ : Nat → Int} {L : List Nat} {g : Nat → Nat → Int} {r : Option g_V} {h : g_H} (hr : g_run RX6 ax CE cX6_findTokens n (36, ρ, [], L, g) r h) : ∃ n' r1 h1', n' < n ∧ CE yX6_addWord cX6_addWord [(0, ρ 0), (1, ρ 1)] (L, g) r1 h1' ∧ g_run RX6 ax CE cX6_findTokens n' (41, ρ, g_push r1 [], h1') r h := by
  obtain ⟨n1, e, h1⟩ := g_blk_ok noX6 jI_X6_findTokens tab_X6 2 n hr (c2 := (38, ρ, [(1, ρ 1), (1, ρ 0)], L, g)) rfl
  obtain ⟨n2, c', e2, h2, h3⟩ := g_step_un noX6 (i := .invokevirtual 35) (len := 3) (jI_X6_findTokens 38 _ rfl) (gnrV _) h1
  obtain ⟨r1, h1', hx, hc⟩ := g_virt_un lk_X6 nat_all lX6_ok (idx := 35) (mi := 257) (ci := 6) (na := 2) rfl (by decide) mq_X6_addWord [(1, ρ 1)] [] (ρ 0) rfl rfl h2
  subst hc
  exact ⟨n2, r1, h1', by omega, hx, h3⟩
theorem bk_X6_findTokens_41 {ax : zAx} {CE : g_E} {n : Nat} {ρ : Nat → Int} {s0 : Int} {L : List Nat} {g : Nat → Nat → Int} {r : Option g_V} {h : g_H} (hr : g_run RX6 ax CE cX6_findTokens n (41, ρ, [(1, s0)], L, g) r h) : ∃ n', n' < n ∧ g_run RX6 ax CE cX6_findTokens n' (100, (va_up ρ 1 s0), [], L, g) r h := by
  obtain ⟨n1, e, h1⟩ := g_blk_ok noX6 jI_X6_findTokens tab_X6 2 n hr (c2 := (100, (va_up ρ 1 s0), [], L, g)) rfl
  exact ⟨n1, by omega, h1⟩
theorem bk_X6_findTokens_45 {ax : zAx} {CE : g_E} {n : Nat} {ρ : Nat → Int} {L : List Nat} {g : Nat → Nat → Int} {r : Option g_V} {h : g_H} (hr : g_run RX6 ax CE cX6_findTokens n (45, ρ, [], L, g) r h) : ∃ n' r1 h1', n' < n ∧ CE yX6_isDigit cX6_isDigit [(0, g (g (ρ 0).toNat 5).toNat (ρ 1).toNat)] (L, g) r1 h1' ∧ g_run RX6 ax CE cX6_findTokens n' (54, ρ, g_push r1 [], h1') r h := by
  obtain ⟨n1, e, h1⟩ := g_blk_ok noX6 jI_X6_findTokens tab_X6 4 n hr (c2 := (51, ρ, [(1, g (g (ρ 0).toNat 5).toNat (ρ 1).toNat)], L, g)) rfl
  obtain ⟨n2, c', e2, h2, h3⟩ := g_step_un noX6 (i := .invokestatic 39) (len := 3) (jI_X6_findTokens 51 _ rfl) (gnrS _) h1
  obtain ⟨r1, h1', hx, hc⟩ := g_static_un lk_X6 nat_all lX6_ok (idx := 39) (mode := 1) (mi := 260) (ci := 0) (na := 1) rfl (by decide) (by decide) mq_X6_isDigit [(1, g (g (ρ 0).toNat 5).toNat (ρ 1).toNat)] [] rfl rfl h2
  subst hc
  exact ⟨n2, r1, h1', by omega, hx, h3⟩
theorem bk_X6_findTokens_54 {ax : zAx} {CE : g_E} {n : Nat} {ρ : Nat → Int} {s0 : Int} {L : List Nat} {g : Nat → Nat → Int} {r : Option g_V} {h : g_H} (hr : g_run RX6 ax CE cX6_findTokens n (54, ρ, [(1, s0)], L, g) r h) : ∃ n', n' < n ∧ ((s0 = 0 ∧ g_run RX6 ax CE cX6_findTokens n' (66, ρ, [], L, g) r h) ∨ (¬ (s0 = 0) ∧ g_run RX6 ax CE cX6_findTokens n' (57, ρ, [], L, g) r h)) := by
  obtain ⟨n1, e, h1⟩ := g_blk_ok noX6 jI_X6_findTokens tab_X6 1 n hr (c2 := (if s0 = 0 then 66 else 57, ρ, [], L, g)) rfl
  refine ⟨n1, by omega, ?_⟩
  by_cases hc : s0 = 0
  · exact Or.inl ⟨hc, by rw [if_pos hc] at h1; exact h1⟩
  · exact Or.inr ⟨hc, by rw [if_neg hc] at h1; exact h1⟩
theorem bk_X6_findTokens_57 {ax : zAx} {CE : g_E} {n : Nat} {ρ : Nat → Int} {L : List Nat} {g : Nat → Nat → Int} {r : Option g_V} {h : g_H} (hr : g_run RX6 ax CE cX6_findTokens n (57, ρ, [], L, g) r h) : ∃ n' r1 h1', n' < n ∧ CE yX6_addNumber cX6_addNumber [(0, ρ 0), (1, ρ 1)] (L, g) r1 h1' ∧ g_run RX6 ax CE cX6_findTokens n' (62, ρ, g_push r1 [], h1') r h := by
  obtain ⟨n1, e, h1⟩ := g_blk_ok noX6 jI_X6_findTokens tab_X6 2 n hr (c2 := (59, ρ, [(1, ρ 1), (1, ρ 0)], L, g)) rfl
  obtain ⟨n2, c', e2, h2, h3⟩ := g_step_un noX6 (i := .invokevirtual 42) (len := 3) (jI_X6_findTokens 59 _ rfl) (gnrV _) h1
  obtain ⟨r1, h1', hx, hc⟩ := g_virt_un lk_X6 nat_all lX6_ok (idx := 42) (mi := 254) (ci := 6) (na := 2) rfl (by decide) mq_X6_addNumber [(1, ρ 1)] [] (ρ 0) rfl rfl h2
  subst hc
  exact ⟨n2, r1, h1', by omega, hx, h3⟩
theorem bk_X6_findTokens_62 {ax : zAx} {CE : g_E} {n : Nat} {ρ : Nat → Int} {s0 : Int} {L : List Nat} {g : Nat → Nat → Int} {r : Option g_V} {h : g_H} (hr : g_run RX6 ax CE cX6_findTokens n (62, ρ, [(1, s0)], L, g) r h) : ∃ n', n' < n ∧ g_run RX6 ax CE cX6_findTokens n' (100, (va_up ρ 1 s0), [], L, g) r h := by
  obtain ⟨n1, e, h1⟩ := g_blk_ok noX6 jI_X6_findTokens tab_X6 2 n hr (c2 := (100, (va_up ρ 1 s0), [], L, g)) rfl
  exact ⟨n1, by omega, h1⟩
theorem bk_X6_findTokens_66 {ax : zAx} {CE : g_E} {n : Nat} {ρ : Nat → Int} {L : List Nat} {g : Nat → Nat → Int} {r : Option g_V} {h : g_H} (hr : g_run RX6 ax CE cX6_findTokens n (66, ρ, [], L, g) r h) : ∃ n', n' < n ∧ ((g (g (ρ 0).toNat 5).toNat (ρ 1).toNat = 32 ∧ g_run RX6 ax CE cX6_findTokens n' (88, ρ, [], L, g) r h) ∨ (¬ (g (g (ρ 0).toNat 5).toNat (ρ 1).toNat = 32) ∧ g_run RX6 ax CE cX6_findTokens n' (77, ρ, [], L, g) r h)) := by
  obtain ⟨n1, e, h1⟩ := g_blk_ok noX6 jI_X6_findTokens tab_X6 6 n hr (c2 := (if g (g (ρ 0).toNat 5).toNat (ρ 1).toNat = 32 then 88 else 77, ρ, [], L, g)) rfl
  refine ⟨n1, by omega, ?_⟩
  by_cases hc : g (g (ρ 0).toNat 5).toNat (ρ 1).toNat = 32
  · exact Or.inl ⟨hc, by rw [if_pos hc] at h1; exact h1⟩
  · exact Or.inr ⟨hc, by rw [if_neg hc] at h1; exact h1⟩
theorem bk_X6_findTokens_77 {ax : zAx} {CE : g_E} {n : Nat} {ρ : Nat → Int} {L : List Nat} {g : Nat → Nat → Int} {r : Option g_V} {h : g_H} (hr : g_run RX6 ax CE cX6_findTokens n (77, ρ, [], L, g) r h) : ∃ n', n' < n ∧ ((g (g (ρ 0).toNat 5).toNat (ρ 1).toNat = 10 ∧ g_run RX6 ax CE cX6_findTokens n' (88, ρ, [], L, g) r h) ∨ (¬ (g (g (ρ 0).toNat 5).toNat (ρ 1).toNat = 10) ∧ g_run RX6 ax CE cX6_findTokens n' (94, ρ, [], L, g) r h)) := by
  obtain ⟨n1, e, h1⟩ := g_blk_ok noX6 jI_X6_findTokens tab_X6 6 n hr (c2 := (if g (g (ρ 0).toNat 5).toNat (ρ 1).toNat = 10 then 88 else 94, ρ, [], L, g)) rfl
  refine ⟨n1, by omega, ?_⟩
  by_cases hc : g (g (ρ 0).toNat 5).toNat (ρ 1).toNat = 10
  · exact Or.inl ⟨hc, by rw [if_pos hc] at h1; exact h1⟩
  · exact Or.inr ⟨hc, by rw [if_neg hc] at h1; exact h1⟩
theorem bk_X6_findTokens_88 {ax : zAx} {CE : g_E} {n : Nat} {ρ : Nat → Int} {L : List Nat} {g : Nat → Nat → Int} {r : Option g_V} {h : g_H} (hr : g_run RX6 ax CE cX6_findTokens n (88, ρ, [], L, g) r h) : ∃ n', n' < n ∧ g_run RX6 ax CE cX6_findTokens n' (100, (va_up ρ 1 (g_i (ρ 1 + 1))), [], L, g) r h := by
  obtain ⟨n1, e, h1⟩ := g_blk_ok noX6 jI_X6_findTokens tab_X6 2 n hr (c2 := (100, (va_up ρ 1 (g_i (ρ 1 + 1))), [], L, g)) rfl
  exact ⟨n1, by omega, h1⟩
theorem bk_X6_findTokens_94 {ax : zAx} {CE : g_E} {n : Nat} {ρ : Nat → Int} {L : List Nat} {g : Nat → Nat → Int} {r : Option g_V} {h : g_H} (hr : g_run RX6 ax CE cX6_findTokens n (94, ρ, [], L, g) r h) : ∃ n' r1 h1', n' < n ∧ CE yX6_addSign cX6_addSign [(0, ρ 0), (1, ρ 1)] (L, g) r1 h1' ∧ g_run RX6 ax CE cX6_findTokens n' (99, ρ, g_push r1 [], h1') r h := by
  obtain ⟨n1, e, h1⟩ := g_blk_ok noX6 jI_X6_findTokens tab_X6 2 n hr (c2 := (96, ρ, [(1, ρ 1), (1, ρ 0)], L, g)) rfl
  obtain ⟨n2, c', e2, h2, h3⟩ := g_step_un noX6 (i := .invokevirtual 45) (len := 3) (jI_X6_findTokens 96 _ rfl) (gnrV _) h1
  obtain ⟨r1, h1', hx, hc⟩ := g_virt_un lk_X6 nat_all lX6_ok (idx := 45) (mi := 255) (ci := 6) (na := 2) rfl (by decide) mq_X6_addSign [(1, ρ 1)] [] (ρ 0) rfl rfl h2
  subst hc
  exact ⟨n2, r1, h1', by omega, hx, h3⟩
theorem bk_X6_findTokens_99 {ax : zAx} {CE : g_E} {n : Nat} {ρ : Nat → Int} {s0 : Int} {L : List Nat} {g : Nat → Nat → Int} {r : Option g_V} {h : g_H} (hr : g_run RX6 ax CE cX6_findTokens n (99, ρ, [(1, s0)], L, g) r h) : ∃ n', n' < n ∧ g_run RX6 ax CE cX6_findTokens n' (100, (va_up ρ 1 s0), [], L, g) r h := by
  obtain ⟨n1, e, h1⟩ := g_blk_ok noX6 jI_X6_findTokens tab_X6 1 n hr (c2 := (100, (va_up ρ 1 s0), [], L, g)) rfl
  exact ⟨n1, by omega, h1⟩
theorem bk_X6_findTokens_100 {ax : zAx} {CE : g_E} {n : Nat} {ρ : Nat → Int} {L : List Nat} {g : Nat → Nat → Int} {r : Option g_V} {h : g_H} (hr : g_run RX6 ax CE cX6_findTokens n (100, ρ, [], L, g) r h) : ∃ n', n' < n ∧ g_run RX6 ax CE cX6_findTokens n' (9, (va_up ρ 2 (g_i (ρ 2 + 1))), [], L, g) r h := by
  obtain ⟨n1, e, h1⟩ := g_blk_ok noX6 jI_X6_findTokens tab_X6 2 n hr (c2 := (9, (va_up ρ 2 (g_i (ρ 2 + 1))), [], L, g)) rfl
  exact ⟨n1, by omega, h1⟩
theorem bk_X6_findTokens_106 {ax : zAx} {CE : g_E} {n : Nat} {ρ : Nat → Int} {L : List Nat} {g : Nat → Nat → Int} {r : Option g_V} {h : g_H} (hr : g_run RX6 ax CE cX6_findTokens n (106, ρ, [], L, g) r h) : ∃ n' r1 h1', n' < n ∧ CE yX6_addToken cX6_addToken [(0, ρ 0), (1, 54), (2, g (ρ 0).toNat 0)] (L, g) r1 h1' ∧ g_run RX6 ax CE cX6_findTokens n' (116, ρ, g_push r1 [], h1') r h := by
  obtain ⟨n1, e, h1⟩ := g_blk_ok noX6 jI_X6_findTokens tab_X6 4 n hr (c2 := (113, ρ, [(1, g (ρ 0).toNat 0), (1, 54), (1, ρ 0)], L, g)) rfl
  obtain ⟨n2, c', e2, h2, h3⟩ := g_step_un noX6 (i := .invokevirtual 48) (len := 3) (jI_X6_findTokens 113 _ rfl) (gnrV _) h1
  obtain ⟨r1, h1', hx, hc⟩ := g_virt_un lk_X6 nat_all lX6_ok (idx := 48) (mi := 256) (ci := 6) (na := 3) rfl (by decide) mq_X6_addToken [(1, 54), (1, g (ρ 0).toNat 0)] [] (ρ 0) rfl rfl h2
  subst hc
  exact ⟨n2, r1, h1', by omega, hx, h3⟩
theorem bk_X6_findTokens_116 {ax : zAx} {CE : g_E} {n : Nat} {ρ : Nat → Int} {L : List Nat} {g : Nat → Nat → Int} {r : Option g_V} {h : g_H} (hr : g_run RX6 ax CE cX6_findTokens n (116, ρ, [], L, g) r h) : r = none ∧ h = (L, g) := by
  obtain ⟨n1, e, h1⟩ := g_blk_ok noX6 jI_X6_findTokens tab_X6 0 n hr (c2 := (116, ρ, [], L, g)) rfl
  exact g_retv_un noX6 (jI_X6_findTokens 116 _ rfl) h1
theorem pt_X6_findTokens_0 {ax : zAx} {CE : g_E} (hCE : ∀ y cc as h r h', CE y cc as h r h' → g_ex ax y cc as h r h') {n : Nat} {ρ : Nat → Int} {L : List Nat} {g : Nat → Nat → Int} {r : Option g_V} {h : g_H} (h0 : g_run RX6 ax CE cX6_findTokens n (0, ρ, [], L, g) r h) : (∃ n', n' < n ∧ g_run RX6 ax CE cX6_findTokens n' (9, (va_up (va_up ρ 1 0) 2 0), [], L, (g_up g (ρ 0).toNat 1 0)) r h) := by
  obtain ⟨n1, l1, h1⟩ := bk_X6_findTokens_0 h0
  exact ⟨_, by omega, h1⟩
theorem pt_X6_findTokens_9 {ax : zAx} {CE : g_E} (hCE : ∀ y cc as h r h', CE y cc as h r h' → g_ex ax y cc as h r h') {n : Nat} {ρ : Nat → Int} {L : List Nat} {g : Nat → Nat → Int} {r : Option g_V} {h : g_H} (h0 : g_run RX6 ax CE cX6_findTokens n (9, ρ, [], L, g) r h) : ((300 ≤ (ρ 2) ∧ (r = none ∧ h = (L, (F_X6_addToken (ρ 0) 54 (g (ρ 0).toNat 0) g)))) ∨ (¬ (300 ≤ (ρ 2)) ∧ ((g (ρ 0).toNat 0 ≤ (ρ 1) ∧ (r = none ∧ h = (L, (F_X6_addToken (ρ 0) 54 (g (ρ 0).toNat 0) g)))) ∨ (¬ (g (ρ 0).toNat 0 ≤ (ρ 1)) ∧ ((F_X6_isLetter (g (g (ρ 0).toNat 5).toNat (ρ 1).toNat) g = 0 ∧ ((F_X6_isDigit (g (g (ρ 0).toNat 5).toNat (ρ 1).toNat) g = 0 ∧ ((g (g (ρ 0).toNat 5).toNat (ρ 1).toNat = 32 ∧ (∃ n', n' < n ∧ g_run RX6 ax CE cX6_findTokens n' (9, (va_up (va_up ρ 1 (g_i ((ρ 1) + 1))) 2 (g_i ((ρ 2) + 1))), [], L, g) r h)) ∨ (¬ (g (g (ρ 0).toNat 5).toNat (ρ 1).toNat = 32) ∧ ((g (g (ρ 0).toNat 5).toNat (ρ 1).toNat = 10 ∧ (∃ n', n' < n ∧ g_run RX6 ax CE cX6_findTokens n' (9, (va_up (va_up ρ 1 (g_i ((ρ 1) + 1))) 2 (g_i ((ρ 2) + 1))), [], L, g) r h)) ∨ (¬ (g (g (ρ 0).toNat 5).toNat (ρ 1).toNat = 10) ∧ (∃ n' r1 h1', n' < n ∧ CE yX6_addSign cX6_addSign [(0, (ρ 0)), (1, (ρ 1))] (L, g) r1 h1' ∧ g_run RX6 ax CE cX6_findTokens n' (99, ρ, g_push r1 [], h1') r h)))))) ∨ (¬ (F_X6_isDigit (g (g (ρ 0).toNat 5).toNat (ρ 1).toNat) g = 0) ∧ (∃ n' r1 h1', n' < n ∧ CE yX6_addNumber cX6_addNumber [(0, (ρ 0)), (1, (ρ 1))] (L, g) r1 h1' ∧ g_run RX6 ax CE cX6_findTokens n' (62, ρ, g_push r1 [], h1') r h)))) ∨ (¬ (F_X6_isLetter (g (g (ρ 0).toNat 5).toNat (ρ 1).toNat) g = 0) ∧ (∃ n' r1 h1', n' < n ∧ CE yX6_addWord cX6_addWord [(0, (ρ 0)), (1, (ρ 1))] (L, g) r1 h1' ∧ g_run RX6 ax CE cX6_findTokens n' (41, ρ, g_push r1 [], h1') r h))))))) := by
  obtain ⟨n1, l1, h1⟩ := bk_X6_findTokens_9 h0
  rcases h1 with ⟨c1, h1⟩ | ⟨c1, h1⟩
  · refine Or.inl ⟨c1, ?_⟩
    obtain ⟨n2, r2, k2, l2, x2, h2⟩ := bk_X6_findTokens_106 h1
    obtain ⟨e2, d2⟩ := f_X6_addToken (hCE _ _ _ _ _ _ x2)
    subst e2
    subst d2
    obtain ⟨e3, d3⟩ := bk_X6_findTokens_116 h2
    exact ⟨e3, d3⟩
  · refine Or.inr ⟨c1, ?_⟩
    obtain ⟨n4, l4, h4⟩ := bk_X6_findTokens_16 h1
    rcases h4 with ⟨c4, h4⟩ | ⟨c4, h4⟩
    · refine Or.inl ⟨c4, ?_⟩
      obtain ⟨n5, r5, k5, l5, x5, h5⟩ := bk_X6_findTokens_106 h4
      obtain ⟨e5, d5⟩ := f_X6_addToken (hCE _ _ _ _ _ _ x5)
      subst e5
      subst d5
      obtain ⟨e6, d6⟩ := bk_X6_findTokens_116 h5
      exact ⟨e6, d6⟩
    · refine Or.inr ⟨c4, ?_⟩
      obtain ⟨n7, r7, k7, l7, x7, h7⟩ := bk_X6_findTokens_24 h4
      obtain ⟨e7, d7⟩ := f_X6_isLetter (hCE _ _ _ _ _ _ x7)
      subst e7
      subst d7
      obtain ⟨n8, l8, h8⟩ := bk_X6_findTokens_33 h7
      rcases h8 with ⟨c8, h8⟩ | ⟨c8, h8⟩
      · refine Or.inl ⟨c8, ?_⟩
        obtain ⟨n9, r9, k9, l9, x9, h9⟩ := bk_X6_findTokens_45 h8
        obtain ⟨e9, d9⟩ := f_X6_isDigit (hCE _ _ _ _ _ _ x9)
        subst e9
        subst d9
        obtain ⟨n10, l10, h10⟩ := bk_X6_findTokens_54 h9
        rcases h10 with ⟨c10, h10⟩ | ⟨c10, h10⟩
        · refine Or.inl ⟨c10, ?_⟩
          obtain ⟨n11, l11, h11⟩ := bk_X6_findTokens_66 h10
          rcases h11 with ⟨c11, h11⟩ | ⟨c11, h11⟩
          · refine Or.inl ⟨c11, ?_⟩
            obtain ⟨n12, l12, h12⟩ := bk_X6_findTokens_88 h11
            obtain ⟨n13, l13, h13⟩ := bk_X6_findTokens_100 h12
            exact ⟨_, by omega, h13⟩
          · refine Or.inr ⟨c11, ?_⟩
            obtain ⟨n15, l15, h15⟩ := bk_X6_findTokens_77 h11
            rcases h15 with ⟨c15, h15⟩ | ⟨c15, h15⟩
            · refine Or.inl ⟨c15, ?_⟩
              obtain ⟨n16, l16, h16⟩ := bk_X6_findTokens_88 h15
              obtain ⟨n17, l17, h17⟩ := bk_X6_findTokens_100 h16
              exact ⟨_, by omega, h17⟩
            · refine Or.inr ⟨c15, ?_⟩
              obtain ⟨n19, r19, k19, l19, x19, h19⟩ := bk_X6_findTokens_94 h15
              exact ⟨n19, r19, k19, by omega, x19, h19⟩
        · refine Or.inr ⟨c10, ?_⟩
          obtain ⟨n20, r20, k20, l20, x20, h20⟩ := bk_X6_findTokens_57 h10
          exact ⟨n20, r20, k20, by omega, x20, h20⟩
      · refine Or.inr ⟨c8, ?_⟩
        obtain ⟨n21, r21, k21, l21, x21, h21⟩ := bk_X6_findTokens_36 h8
        exact ⟨n21, r21, k21, by omega, x21, h21⟩
theorem pt_X6_findTokens_99 {ax : zAx} {CE : g_E} (hCE : ∀ y cc as h r h', CE y cc as h r h' → g_ex ax y cc as h r h') {n : Nat} {ρ : Nat → Int} {s0 : Int} {L : List Nat} {g : Nat → Nat → Int} {r : Option g_V} {h : g_H} (h0 : g_run RX6 ax CE cX6_findTokens n (99, ρ, [(1, s0)], L, g) r h) : (∃ n', n' < n ∧ g_run RX6 ax CE cX6_findTokens n' (9, (va_up (va_up ρ 1 s0) 2 (g_i ((ρ 2) + 1))), [], L, g) r h) := by
  obtain ⟨n1, l1, h1⟩ := bk_X6_findTokens_99 h0
  obtain ⟨n2, l2, h2⟩ := bk_X6_findTokens_100 h1
  exact ⟨_, by omega, h2⟩
theorem pt_X6_findTokens_62 {ax : zAx} {CE : g_E} (hCE : ∀ y cc as h r h', CE y cc as h r h' → g_ex ax y cc as h r h') {n : Nat} {ρ : Nat → Int} {s0 : Int} {L : List Nat} {g : Nat → Nat → Int} {r : Option g_V} {h : g_H} (h0 : g_run RX6 ax CE cX6_findTokens n (62, ρ, [(1, s0)], L, g) r h) : (∃ n', n' < n ∧ g_run RX6 ax CE cX6_findTokens n' (9, (va_up (va_up ρ 1 s0) 2 (g_i ((ρ 2) + 1))), [], L, g) r h) := by
  obtain ⟨n1, l1, h1⟩ := bk_X6_findTokens_62 h0
  obtain ⟨n2, l2, h2⟩ := bk_X6_findTokens_100 h1
  exact ⟨_, by omega, h2⟩
theorem pt_X6_findTokens_41 {ax : zAx} {CE : g_E} (hCE : ∀ y cc as h r h', CE y cc as h r h' → g_ex ax y cc as h r h') {n : Nat} {ρ : Nat → Int} {s0 : Int} {L : List Nat} {g : Nat → Nat → Int} {r : Option g_V} {h : g_H} (h0 : g_run RX6 ax CE cX6_findTokens n (41, ρ, [(1, s0)], L, g) r h) : (∃ n', n' < n ∧ g_run RX6 ax CE cX6_findTokens n' (9, (va_up (va_up ρ 1 s0) 2 (g_i ((ρ 2) + 1))), [], L, g) r h) := by
  obtain ⟨n1, l1, h1⟩ := bk_X6_findTokens_41 h0
  obtain ⟨n2, l2, h2⟩ := bk_X6_findTokens_100 h1
  exact ⟨_, by omega, h2⟩

theorem jI_X6_addWord : ∀ (pc : Nat) (q : Instr × Nat), lkp iX6_addWord pc = some q → decode cX6_addWord pc = .ok q := fun pc q hq => jX6_addWord (pc, q) (lkp_in iX6_addWord hq)
theorem bk_X6_addWord_0 {ax : zAx} {CE : g_E} {n : Nat} {ρ : Nat → Int} {L : List Nat} {g : Nat → Nat → Int} {r : Option g_V} {h : g_H} (hr : g_run RX6 ax CE cX6_addWord n (0, ρ, [], L, g) r h) : ∃ n', n' < n ∧ g_run RX6 ax CE cX6_addWord n' (2, (va_up ρ 2 (ρ 1)), [], L, g) r h := by
  obtain ⟨n1, e, h1⟩ := g_blk_ok noX6 jI_X6_addWord tab_X6 2 n hr (c2 := (2, (va_up ρ 2 (ρ 1)), [], L, g)) rfl
  exact ⟨n1, by omega, h1⟩
theorem bk_X6_addWord_2 {ax : zAx} {CE : g_E} {n : Nat} {ρ : Nat → Int} {L : List Nat} {g : Nat → Nat → Int} {r : Option g_V} {h : g_H} (hr : g_run RX6 ax CE cX6_addWord n (2, ρ, [], L, g) r h) : ∃ n', n' < n ∧ ((g (ρ 0).toNat 0 ≤ ρ 2 ∧ g_run RX6 ax CE cX6_addWord n' (28, ρ, [], L, g) r h) ∨ (¬ (g (ρ 0).toNat 0 ≤ ρ 2) ∧ g_run RX6 ax CE cX6_addWord n' (10, ρ, [], L, g) r h)) := by
  obtain ⟨n1, e, h1⟩ := g_blk_ok noX6 jI_X6_addWord tab_X6 4 n hr (c2 := (if g (ρ 0).toNat 0 ≤ ρ 2 then 28 else 10, ρ, [], L, g)) rfl
  refine ⟨n1, by omega, ?_⟩
  by_cases hc : g (ρ 0).toNat 0 ≤ ρ 2
  · exact Or.inl ⟨hc, by rw [if_pos hc] at h1; exact h1⟩
  · exact Or.inr ⟨hc, by rw [if_neg hc] at h1; exact h1⟩
theorem bk_X6_addWord_10 {ax : zAx} {CE : g_E} {n : Nat} {ρ : Nat → Int} {L : List Nat} {g : Nat → Nat → Int} {r : Option g_V} {h : g_H} (hr : g_run RX6 ax CE cX6_addWord n (10, ρ, [], L, g) r h) : ∃ n' r1 h1', n' < n ∧ CE yX6_isLetter cX6_isLetter [(0, g (g (ρ 0).toNat 5).toNat (ρ 2).toNat)] (L, g) r1 h1' ∧ g_run RX6 ax CE cX6_addWord n' (19, ρ, g_push r1 [], h1') r h := by
  obtain ⟨n1, e, h1⟩ := g_blk_ok noX6 jI_X6_addWord tab_X6 4 n hr (c2 := (16, ρ, [(1, g (g (ρ 0).toNat 5).toNat (ρ 2).toNat)], L, g)) rfl
  obtain ⟨n2, c', e2, h2, h3⟩ := g_step_un noX6 (i := .invokestatic 31) (len := 3) (jI_X6_addWord 16 _ rfl) (gnrS _) h1
  obtain ⟨r1, h1', hx, hc⟩ := g_static_un lk_X6 nat_all lX6_ok (idx := 31) (mode := 1) (mi := 261) (ci := 0) (na := 1) rfl (by decide) (by decide) mq_X6_isLetter [(1, g (g (ρ 0).toNat 5).toNat (ρ 2).toNat)] [] rfl rfl h2
  subst hc
  exact ⟨n2, r1, h1', by omega, hx, h3⟩
theorem bk_X6_addWord_19 {ax : zAx} {CE : g_E} {n : Nat} {ρ : Nat → Int} {s0 : Int} {L : List Nat} {g : Nat → Nat → Int} {r : Option g_V} {h : g_H} (hr : g_run RX6 ax CE cX6_addWord n (19, ρ, [(1, s0)], L, g) r h) : ∃ n', n' < n ∧ ((s0 = 0 ∧ g_run RX6 ax CE cX6_addWord n' (28, ρ, [], L, g) r h) ∨ (¬ (s0 = 0) ∧ g_run RX6 ax CE cX6_addWord n' (22, ρ, [], L, g) r h)) := by
  obtain ⟨n1, e, h1⟩ := g_blk_ok noX6 jI_X6_addWord tab_X6 1 n hr (c2 := (if s0 = 0 then 28 else 22, ρ, [], L, g)) rfl
  refine ⟨n1, by omega, ?_⟩
  by_cases hc : s0 = 0
  · exact Or.inl ⟨hc, by rw [if_pos hc] at h1; exact h1⟩
  · exact Or.inr ⟨hc, by rw [if_neg hc] at h1; exact h1⟩
theorem bk_X6_addWord_22 {ax : zAx} {CE : g_E} {n : Nat} {ρ : Nat → Int} {L : List Nat} {g : Nat → Nat → Int} {r : Option g_V} {h : g_H} (hr : g_run RX6 ax CE cX6_addWord n (22, ρ, [], L, g) r h) : ∃ n', n' < n ∧ g_run RX6 ax CE cX6_addWord n' (2, (va_up ρ 2 (g_i (ρ 2 + 1))), [], L, g) r h := by
  obtain ⟨n1, e, h1⟩ := g_blk_ok noX6 jI_X6_addWord tab_X6 2 n hr (c2 := (2, (va_up ρ 2 (g_i (ρ 2 + 1))), [], L, g)) rfl
  exact ⟨n1, by omega, h1⟩
theorem bk_X6_addWord_28 {ax : zAx} {CE : g_E} {n : Nat} {ρ : Nat → Int} {L : List Nat} {g : Nat → Nat → Int} {r : Option g_V} {h : g_H} (hr : g_run RX6 ax CE cX6_addWord n (28, ρ, [], L, g) r h) : ∃ n' r1 h1', n' < n ∧ CE yX6_wordOf cX6_wordOf [(0, ρ 0), (1, ρ 1), (2, ρ 2)] (L, g) r1 h1' ∧ g_run RX6 ax CE cX6_addWord n' (35, ρ, g_push r1 [(1, ρ 0)], h1') r h := by
  obtain ⟨n1, e, h1⟩ := g_blk_ok noX6 jI_X6_addWord tab_X6 4 n hr (c2 := (32, ρ, [(1, ρ 2), (1, ρ 1), (1, ρ 0), (1, ρ 0)], L, g)) rfl
  obtain ⟨n2, c', e2, h2, h3⟩ := g_step_un noX6 (i := .invokevirtual 52) (len := 3) (jI_X6_addWord 32 _ rfl) (gnrV _) h1
  obtain ⟨r1, h1', hx, hc⟩ := g_virt_un lk_X6 nat_all lX6_ok (idx := 52) (mi := 262) (ci := 6) (na := 3) rfl (by decide) mq_X6_wordOf [(1, ρ 1), (1, ρ 2)] [(1, ρ 0)] (ρ 0) rfl rfl h2
  subst hc
  exact ⟨n2, r1, h1', by omega, hx, h3⟩
theorem bk_X6_addWord_35 {ax : zAx} {CE : g_E} {n : Nat} {ρ : Nat → Int} {s0 : Int} {s1 : Int} {L : List Nat} {g : Nat → Nat → Int} {r : Option g_V} {h : g_H} (hr : g_run RX6 ax CE cX6_addWord n (35, ρ, [(1, s0), (1, s1)], L, g) r h) : ∃ n' r1 h1', n' < n ∧ CE yX6_addToken cX6_addToken [(0, s1), (1, s0), (2, ρ 1)] (L, g) r1 h1' ∧ g_run RX6 ax CE cX6_addWord n' (39, ρ, g_push r1 [], h1') r h := by
  obtain ⟨n1, e, h1⟩ := g_blk_ok noX6 jI_X6_addWord tab_X6 1 n hr (c2 := (36, ρ, [(1, ρ 1), (1, s0), (1, s1)], L, g)) rfl
  obtain ⟨n2, c', e2, h2, h3⟩ := g_step_un noX6 (i := .invokevirtual 48) (len := 3) (jI_X6_addWord 36 _ rfl) (gnrV _) h1
  obtain ⟨r1, h1', hx, hc⟩ := g_virt_un lk_X6 nat_all lX6_ok (idx := 48) (mi := 256) (ci := 6) (na := 3) rfl (by decide) mq_X6_addToken [(1, s0), (1, ρ 1)] [] s1 rfl rfl h2
  subst hc
  exact ⟨n2, r1, h1', by omega, hx, h3⟩
theorem bk_X6_addWord_39 {ax : zAx} {CE : g_E} {n : Nat} {ρ : Nat → Int} {L : List Nat} {g : Nat → Nat → Int} {r : Option g_V} {h : g_H} (hr : g_run RX6 ax CE cX6_addWord n (39, ρ, [], L, g) r h) : r = some (1, ρ 2) ∧ h = (L, g) := by
  obtain ⟨n1, e, h1⟩ := g_blk_ok noX6 jI_X6_addWord tab_X6 1 n hr (c2 := (40, ρ, [(1, ρ 2)], L, g)) rfl
  exact g_ret_un noX6 (i := .ireturn) (jI_X6_addWord 40 _ rfl) (by decide) h1
theorem pt_X6_addWord_0 {ax : zAx} {CE : g_E} (hCE : ∀ y cc as h r h', CE y cc as h r h' → g_ex ax y cc as h r h') {n : Nat} {ρ : Nat → Int} {L : List Nat} {g : Nat → Nat → Int} {r : Option g_V} {h : g_H} (h0 : g_run RX6 ax CE cX6_addWord n (0, ρ, [], L, g) r h) : (∃ n', n' < n ∧ g_run RX6 ax CE cX6_addWord n' (2, (va_up ρ 2 (ρ 1)), [], L, g) r h) := by
  obtain ⟨n1, l1, h1⟩ := bk_X6_addWord_0 h0
  exact ⟨_, by omega, h1⟩
theorem pt_X6_addWord_2 {ax : zAx} {CE : g_E} (hCE : ∀ y cc as h r h', CE y cc as h r h' → g_ex ax y cc as h r h') {n : Nat} {ρ : Nat → Int} {L : List Nat} {g : Nat → Nat → Int} {r : Option g_V} {h : g_H} (h0 : g_run RX6 ax CE cX6_addWord n (2, ρ, [], L, g) r h) : ((g (ρ 0).toNat 0 ≤ (ρ 2) ∧ (∃ n' r1 h1', n' < n ∧ CE yX6_wordOf cX6_wordOf [(0, (ρ 0)), (1, (ρ 1)), (2, (ρ 2))] (L, g) r1 h1' ∧ g_run RX6 ax CE cX6_addWord n' (35, ρ, g_push r1 [(1, (ρ 0))], h1') r h)) ∨ (¬ (g (ρ 0).toNat 0 ≤ (ρ 2)) ∧ ((F_X6_isLetter (g (g (ρ 0).toNat 5).toNat (ρ 2).toNat) g = 0 ∧ (∃ n' r1 h1', n' < n ∧ CE yX6_wordOf cX6_wordOf [(0, (ρ 0)), (1, (ρ 1)), (2, (ρ 2))] (L, g) r1 h1' ∧ g_run RX6 ax CE cX6_addWord n' (35, ρ, g_push r1 [(1, (ρ 0))], h1') r h)) ∨ (¬ (F_X6_isLetter (g (g (ρ 0).toNat 5).toNat (ρ 2).toNat) g = 0) ∧ (∃ n', n' < n ∧ g_run RX6 ax CE cX6_addWord n' (2, (va_up ρ 2 (g_i ((ρ 2) + 1))), [], L, g) r h))))) := by
  obtain ⟨n1, l1, h1⟩ := bk_X6_addWord_2 h0
  rcases h1 with ⟨c1, h1⟩ | ⟨c1, h1⟩
  · refine Or.inl ⟨c1, ?_⟩
    obtain ⟨n2, r2, k2, l2, x2, h2⟩ := bk_X6_addWord_28 h1
    exact ⟨n2, r2, k2, by omega, x2, h2⟩
  · refine Or.inr ⟨c1, ?_⟩
    obtain ⟨n3, r3, k3, l3, x3, h3⟩ := bk_X6_addWord_10 h1
    obtain ⟨e3, d3⟩ := f_X6_isLetter (hCE _ _ _ _ _ _ x3)
    subst e3
    subst d3
    obtain ⟨n4, l4, h4⟩ := bk_X6_addWord_19 h3
    rcases h4 with ⟨c4, h4⟩ | ⟨c4, h4⟩
    · refine Or.inl ⟨c4, ?_⟩
      obtain ⟨n5, r5, k5, l5, x5, h5⟩ := bk_X6_addWord_28 h4
      exact ⟨n5, r5, k5, by omega, x5, h5⟩
    · refine Or.inr ⟨c4, ?_⟩
      obtain ⟨n6, l6, h6⟩ := bk_X6_addWord_22 h4
      exact ⟨_, by omega, h6⟩
theorem pt_X6_addWord_35 {ax : zAx} {CE : g_E} (hCE : ∀ y cc as h r h', CE y cc as h r h' → g_ex ax y cc as h r h') {n : Nat} {ρ : Nat → Int} {s0 : Int} {s1 : Int} {L : List Nat} {g : Nat → Nat → Int} {r : Option g_V} {h : g_H} (h0 : g_run RX6 ax CE cX6_addWord n (35, ρ, [(1, s0), (1, s1)], L, g) r h) : (r = some (1, (ρ 2)) ∧ h = (L, (F_X6_addToken s1 s0 (ρ 1) g))) := by
  obtain ⟨n1, r1, k1, l1, x1, h1⟩ := bk_X6_addWord_35 h0
  obtain ⟨e1, d1⟩ := f_X6_addToken (hCE _ _ _ _ _ _ x1)
  subst e1
  subst d1
  obtain ⟨e2, d2⟩ := bk_X6_addWord_39 h1
  exact ⟨e2, d2⟩
