/-! Paths. -/
theorem jI_X6_addNumber : ∀ (pc : Nat) (q : Instr × Nat), lkp iX6_addNumber pc = some q → decode cX6_addNumber pc = .ok q := fun pc q hq => jX6_addNumber (pc, q) (lkp_in iX6_addNumber hq)
theorem bk_X6_addNumber_0 {ax : zAx} {CE : g_E} {n : Nat} {ρ : Nat → Int} {L : List Nat} {g : Nat → Nat → Int} {r : Option g_V} {h : g_H} (hr : g_run RX6 ax CE cX6_addNumber n (0, ρ, [], L, g) r h) : ∃ n', n' < n ∧ g_run RX6 ax CE cX6_addNumber n' (4, (va_up (va_up ρ 2 0) 3 (ρ 1)), [], L, g) r h := by
  obtain ⟨n1, e, h1⟩ := g_blk_ok noX6 jI_X6_addNumber tab_X6 4 n hr (c2 := (4, (va_up (va_up ρ 2 0) 3 (ρ 1)), [], L, g)) rfl
  exact ⟨n1, by omega, h1⟩
theorem bk_X6_addNumber_4 {ax : zAx} {CE : g_E} {n : Nat} {ρ : Nat → Int} {L : List Nat} {g : Nat → Nat → Int} {r : Option g_V} {h : g_H} (hr : g_run RX6 ax CE cX6_addNumber n (4, ρ, [], L, g) r h) : ∃ n', n' < n ∧ ((g (ρ 0).toNat 0 ≤ ρ 3 ∧ g_run RX6 ax CE cX6_addNumber n' (51, ρ, [], L, g) r h) ∨ (¬ (g (ρ 0).toNat 0 ≤ ρ 3) ∧ g_run RX6 ax CE cX6_addNumber n' (12, ρ, [], L, g) r h)) := by
  obtain ⟨n1, e, h1⟩ := g_blk_ok noX6 jI_X6_addNumber tab_X6 4 n hr (c2 := (if g (ρ 0).toNat 0 ≤ ρ 3 then 51 else 12, ρ, [], L, g)) rfl
  refine ⟨n1, by omega, ?_⟩
  by_cases hc : g (ρ 0).toNat 0 ≤ ρ 3
  · exact Or.inl ⟨hc, by rw [if_pos hc] at h1; exact h1⟩
  · exact Or.inr ⟨hc, by rw [if_neg hc] at h1; exact h1⟩
theorem bk_X6_addNumber_12 {ax : zAx} {CE : g_E} {n : Nat} {ρ : Nat → Int} {L : List Nat} {g : Nat → Nat → Int} {r : Option g_V} {h : g_H} (hr : g_run RX6 ax CE cX6_addNumber n (12, ρ, [], L, g) r h) : ∃ n' r1 h1', n' < n ∧ CE yX6_isDigit cX6_isDigit [(0, g (g (ρ 0).toNat 5).toNat (ρ 3).toNat)] (L, g) r1 h1' ∧ g_run RX6 ax CE cX6_addNumber n' (21, ρ, g_push r1 [], h1') r h := by
  obtain ⟨n1, e, h1⟩ := g_blk_ok noX6 jI_X6_addNumber tab_X6 4 n hr (c2 := (18, ρ, [(1, g (g (ρ 0).toNat 5).toNat (ρ 3).toNat)], L, g)) rfl
  obtain ⟨n2, c', e2, h2, h3⟩ := g_step_un noX6 (i := .invokestatic 39) (len := 3) (jI_X6_addNumber 18 _ rfl) (gnrS _) h1
  obtain ⟨r1, h1', hx, hc⟩ := g_static_un lk_X6 nat_all lX6_ok (idx := 39) (mode := 1) (mi := 260) (ci := 0) (na := 1) rfl (by decide) (by decide) mq_X6_isDigit [(1, g (g (ρ 0).toNat 5).toNat (ρ 3).toNat)] [] rfl rfl h2
  subst hc
  exact ⟨n2, r1, h1', by omega, hx, h3⟩
theorem bk_X6_addNumber_21 {ax : zAx} {CE : g_E} {n : Nat} {ρ : Nat → Int} {s0 : Int} {L : List Nat} {g : Nat → Nat → Int} {r : Option g_V} {h : g_H} (hr : g_run RX6 ax CE cX6_addNumber n (21, ρ, [(1, s0)], L, g) r h) : ∃ n', n' < n ∧ ((s0 = 0 ∧ g_run RX6 ax CE cX6_addNumber n' (51, ρ, [], L, g) r h) ∨ (¬ (s0 = 0) ∧ g_run RX6 ax CE cX6_addNumber n' (24, ρ, [], L, g) r h)) := by
  obtain ⟨n1, e, h1⟩ := g_blk_ok noX6 jI_X6_addNumber tab_X6 1 n hr (c2 := (if s0 = 0 then 51 else 24, ρ, [], L, g)) rfl
  refine ⟨n1, by omega, ?_⟩
  by_cases hc : s0 = 0
  · exact Or.inl ⟨hc, by rw [if_pos hc] at h1; exact h1⟩
  · exact Or.inr ⟨hc, by rw [if_neg hc] at h1; exact h1⟩
theorem bk_X6_addNumber_24 {ax : zAx} {CE : g_E} (hCE : ∀ y cc as h r h', CE y cc as h r h' → g_ex ax y cc as h r h') {n : Nat} {ρ : Nat → Int} {L : List Nat} {g : Nat → Nat → Int} {r : Option g_V} {h : g_H} (hr : g_run RX6 ax CE cX6_addNumber n (24, ρ, [], L, g) r h) : ∃ n', n' < n ∧ g_run RX6 ax CE cX6_addNumber n' (44, ρ, [(1, min (g_i ((g_i ((g_i ((ρ 2) * 10)) + (g (g (ρ 0).toNat 5).toNat (ρ 3).toNat))) - 48)) 10000)], L, g) r h := by
  obtain ⟨n1, e, h1⟩ := g_blk_ok noX6 jI_X6_addNumber tab_X6 11 n hr (c2 := (41, ρ, [(1, 10000), (1, g_i ((g_i ((g_i ((ρ 2) * 10)) + (g (g (ρ 0).toNat 5).toNat (ρ 3).toNat))) - 48))], L, g)) rfl
  obtain ⟨n2, c', e2, h2, h3⟩ := g_step_un noX6 (i := .invokestatic 56) (len := 3) (jI_X6_addNumber 41 _ rfl) (gnrS _) h1
  have hc := g_min_un hCE lk_X6 (idx := 56) (mi := 0) (ci := 0) (na := 0) rfl h2
  subst hc
  exact ⟨n2, by omega, h3⟩
theorem bk_X6_addNumber_44 {ax : zAx} {CE : g_E} {n : Nat} {ρ : Nat → Int} {s0 : Int} {L : List Nat} {g : Nat → Nat → Int} {r : Option g_V} {h : g_H} (hr : g_run RX6 ax CE cX6_addNumber n (44, ρ, [(1, s0)], L, g) r h) : ∃ n', n' < n ∧ g_run RX6 ax CE cX6_addNumber n' (4, (va_up (va_up ρ 2 s0) 3 (g_i (ρ 3 + 1))), [], L, g) r h := by
  obtain ⟨n1, e, h1⟩ := g_blk_ok noX6 jI_X6_addNumber tab_X6 3 n hr (c2 := (4, (va_up (va_up ρ 2 s0) 3 (g_i (ρ 3 + 1))), [], L, g)) rfl
  exact ⟨n1, by omega, h1⟩
theorem bk_X6_addNumber_51 {ax : zAx} {CE : g_E} {n : Nat} {ρ : Nat → Int} {L : List Nat} {g : Nat → Nat → Int} {r : Option g_V} {h : g_H} (hr : g_run RX6 ax CE cX6_addNumber n (51, ρ, [], L, g) r h) : ∃ n' r1 h1', n' < n ∧ CE yX6_addToken cX6_addToken [(0, ρ 0), (1, 53), (2, ρ 1)] (L, g) r1 h1' ∧ g_run RX6 ax CE cX6_addNumber n' (58, ρ, g_push r1 [], h1') r h := by
  obtain ⟨n1, e, h1⟩ := g_blk_ok noX6 jI_X6_addNumber tab_X6 3 n hr (c2 := (55, ρ, [(1, ρ 1), (1, 53), (1, ρ 0)], L, g)) rfl
  obtain ⟨n2, c', e2, h2, h3⟩ := g_step_un noX6 (i := .invokevirtual 48) (len := 3) (jI_X6_addNumber 55 _ rfl) (gnrV _) h1
  obtain ⟨r1, h1', hx, hc⟩ := g_virt_un lk_X6 nat_all lX6_ok (idx := 48) (mi := 256) (ci := 6) (na := 3) rfl (by decide) mq_X6_addToken [(1, 53), (1, ρ 1)] [] (ρ 0) rfl rfl h2
  subst hc
  exact ⟨n2, r1, h1', by omega, hx, h3⟩
theorem bk_X6_addNumber_58 {ax : zAx} {CE : g_E} {n : Nat} {ρ : Nat → Int} {L : List Nat} {g : Nat → Nat → Int} {r : Option g_V} {h : g_H} (hr : g_run RX6 ax CE cX6_addNumber n (58, ρ, [], L, g) r h) : r = some (1, ρ 3) ∧ h = (L, (g_up g (g (ρ 0).toNat 3).toNat (g_i ((g (ρ 0).toNat 1) - 1)).toNat (ρ 2))) := by
  obtain ⟨n1, e, h1⟩ := g_blk_ok noX6 jI_X6_addNumber tab_X6 9 n hr (c2 := (71, ρ, [(1, ρ 3)], L, (g_up g (g (ρ 0).toNat 3).toNat (g_i ((g (ρ 0).toNat 1) - 1)).toNat (ρ 2)))) rfl
  exact g_ret_un noX6 (i := .ireturn) (jI_X6_addNumber 71 _ rfl) (by decide) h1
theorem pt_X6_addNumber_0 {ax : zAx} {CE : g_E} (hCE : ∀ y cc as h r h', CE y cc as h r h' → g_ex ax y cc as h r h') {n : Nat} {ρ : Nat → Int} {L : List Nat} {g : Nat → Nat → Int} {r : Option g_V} {h : g_H} (h0 : g_run RX6 ax CE cX6_addNumber n (0, ρ, [], L, g) r h) : (∃ n', n' < n ∧ g_run RX6 ax CE cX6_addNumber n' (4, (va_up (va_up ρ 2 0) 3 (ρ 1)), [], L, g) r h) := by
  obtain ⟨n1, l1, h1⟩ := bk_X6_addNumber_0 h0
  exact ⟨_, by omega, h1⟩
theorem pt_X6_addNumber_4 {ax : zAx} {CE : g_E} (hCE : ∀ y cc as h r h', CE y cc as h r h' → g_ex ax y cc as h r h') {n : Nat} {ρ : Nat → Int} {L : List Nat} {g : Nat → Nat → Int} {r : Option g_V} {h : g_H} (h0 : g_run RX6 ax CE cX6_addNumber n (4, ρ, [], L, g) r h) : ((g (ρ 0).toNat 0 ≤ (ρ 3) ∧ (r = some (1, (ρ 3)) ∧ h = (L, (g_up (F_X6_addToken (ρ 0) 53 (ρ 1) g) ((F_X6_addToken (ρ 0) 53 (ρ 1) g) (ρ 0).toNat 3).toNat (g_i (((F_X6_addToken (ρ 0) 53 (ρ 1) g) (ρ 0).toNat 1) - 1)).toNat (ρ 2))))) ∨ (¬ (g (ρ 0).toNat 0 ≤ (ρ 3)) ∧ ((F_X6_isDigit (g (g (ρ 0).toNat 5).toNat (ρ 3).toNat) g = 0 ∧ (r = some (1, (ρ 3)) ∧ h = (L, (g_up (F_X6_addToken (ρ 0) 53 (ρ 1) g) ((F_X6_addToken (ρ 0) 53 (ρ 1) g) (ρ 0).toNat 3).toNat (g_i (((F_X6_addToken (ρ 0) 53 (ρ 1) g) (ρ 0).toNat 1) - 1)).toNat (ρ 2))))) ∨ (¬ (F_X6_isDigit (g (g (ρ 0).toNat 5).toNat (ρ 3).toNat) g = 0) ∧ (∃ n', n' < n ∧ g_run RX6 ax CE cX6_addNumber n' (4, (va_up (va_up ρ 2 (min (g_i ((g_i ((g_i ((ρ 2) * 10)) + (g (g (ρ 0).toNat 5).toNat (ρ 3).toNat))) - 48)) 10000)) 3 (g_i ((ρ 3) + 1))), [], L, g) r h))))) := by
  obtain ⟨n1, l1, h1⟩ := bk_X6_addNumber_4 h0
  rcases h1 with ⟨c1, h1⟩ | ⟨c1, h1⟩
  · refine Or.inl ⟨c1, ?_⟩
    obtain ⟨n2, r2, k2, l2, x2, h2⟩ := bk_X6_addNumber_51 h1
    obtain ⟨e2, d2⟩ := f_X6_addToken (hCE _ _ _ _ _ _ x2)
    subst e2
    subst d2
    obtain ⟨e3, d3⟩ := bk_X6_addNumber_58 h2
    exact ⟨e3, d3⟩
  · refine Or.inr ⟨c1, ?_⟩
    obtain ⟨n4, r4, k4, l4, x4, h4⟩ := bk_X6_addNumber_12 h1
    obtain ⟨e4, d4⟩ := f_X6_isDigit (hCE _ _ _ _ _ _ x4)
    subst e4
    subst d4
    obtain ⟨n5, l5, h5⟩ := bk_X6_addNumber_21 h4
    rcases h5 with ⟨c5, h5⟩ | ⟨c5, h5⟩
    · refine Or.inl ⟨c5, ?_⟩
      obtain ⟨n6, r6, k6, l6, x6, h6⟩ := bk_X6_addNumber_51 h5
      obtain ⟨e6, d6⟩ := f_X6_addToken (hCE _ _ _ _ _ _ x6)
      subst e6
      subst d6
      obtain ⟨e7, d7⟩ := bk_X6_addNumber_58 h6
      exact ⟨e7, d7⟩
    · refine Or.inr ⟨c5, ?_⟩
      obtain ⟨n8, l8, h8⟩ := bk_X6_addNumber_24 hCE h5
      obtain ⟨n9, l9, h9⟩ := bk_X6_addNumber_44 h8
      exact ⟨_, by omega, h9⟩

theorem jI_X6_addSign : ∀ (pc : Nat) (q : Instr × Nat), lkp iX6_addSign pc = some q → decode cX6_addSign pc = .ok q := fun pc q hq => jX6_addSign (pc, q) (lkp_in iX6_addSign hq)
theorem bk_X6_addSign_0 {ax : zAx} {CE : g_E} {n : Nat} {ρ : Nat → Int} {L : List Nat} {g : Nat → Nat → Int} {r : Option g_V} {h : g_H} (hr : g_run RX6 ax CE cX6_addSign n (0, ρ, [], L, g) r h) : ∃ n', n' < n ∧ g_run RX6 ax CE cX6_addSign n' (2, ρ, [(1, (ax.1 0 : Int))], L, g) r h := by
  obtain ⟨n1, e, h1⟩ := g_blk_ok noX6 jI_X6_addSign tab_X6 0 n hr (c2 := (0, ρ, [], L, g)) rfl
  obtain ⟨n2, c', e2, h2, h3⟩ := g_step_un noX6 (i := .ldc 61) (len := 2) (jI_X6_addSign 0 _ rfl) (gnrL _) h1
  have hc := g_lds (k := 61) (j := 0) (by decide) h2
  subst hc
  exact ⟨n2, by omega, h3⟩
theorem bk_X6_addSign_2 {ax : zAx} {CE : g_E} {n : Nat} {ρ : Nat → Int} {s0 : Int} {L : List Nat} {g : Nat → Nat → Int} {r : Option g_V} {h : g_H} (hr : g_run RX6 ax CE cX6_addSign n (2, ρ, [(1, s0)], L, g) r h) {jj : Nat} (hs : s0 = (ax.1 jj : Int)) (hj : jj = 0) (hL : ax.1 jj ∉ L) (hd : ax.1 0 ≠ ax.1 1) : ∃ (n' : Nat) (v : Int), n' < n ∧ ixE (Int32.ofInt (((Int32.ofInt (g (g (ρ 0).toNat 5).toNat (ρ 1).toNat)).toUInt32 % 65536).toInt32.toInt)) v ∧ g_run RX6 ax CE cX6_addSign n' (12, ρ, [(1, (Int32.ofInt v).toInt)], L, g) r h := by
  obtain ⟨n1, e, h1⟩ := g_blk_ok noX6 jI_X6_addSign tab_X6 5 n hr (c2 := (9, ρ, [(1, ((Int32.ofInt (g (g (ρ 0).toNat 5).toNat (ρ 1).toNat)).toUInt32 % 65536).toInt32.toInt), (1, s0)], L, g)) rfl
  obtain ⟨n2, c', e2, h2, h3⟩ := g_step_un noX6 (i := .invokevirtual 63) (len := 3) (jI_X6_addSign 9 _ rfl) (gnrV _) h1
  obtain ⟨v, hv, hc⟩ := g_ix_un hs hj hL hd h2
  subst hc
  exact ⟨n2, v, by omega, hv, h3⟩
theorem bk_X6_addSign_12 {ax : zAx} {CE : g_E} {n : Nat} {ρ : Nat → Int} {s0 : Int} {L : List Nat} {g : Nat → Nat → Int} {r : Option g_V} {h : g_H} (hr : g_run RX6 ax CE cX6_addSign n (12, ρ, [(1, s0)], L, g) r h) : ∃ n', n' < n ∧ ((0 ≤ s0 ∧ g_run RX6 ax CE cX6_addSign n' (22, (va_up ρ 2 s0), [], L, g) r h) ∨ (¬ (0 ≤ s0) ∧ g_run RX6 ax CE cX6_addSign n' (17, (va_up ρ 2 s0), [], L, g) r h)) := by
  obtain ⟨n1, e, h1⟩ := g_blk_ok noX6 jI_X6_addSign tab_X6 3 n hr (c2 := (if 0 ≤ s0 then 22 else 17, (va_up ρ 2 s0), [], L, g)) rfl
  refine ⟨n1, by omega, ?_⟩
  by_cases hc : 0 ≤ s0
  · exact Or.inl ⟨hc, by rw [if_pos hc] at h1; exact h1⟩
  · exact Or.inr ⟨hc, by rw [if_neg hc] at h1; exact h1⟩
theorem bk_X6_addSign_17 {ax : zAx} {CE : g_E} {n : Nat} {ρ : Nat → Int} {L : List Nat} {g : Nat → Nat → Int} {r : Option g_V} {h : g_H} (hr : g_run RX6 ax CE cX6_addSign n (17, ρ, [], L, g) r h) : ∃ n', n' < n ∧ g_run RX6 ax CE cX6_addSign n' (26, ρ, [(1, 55)], L, g) r h := by
  obtain ⟨n1, e, h1⟩ := g_blk_ok noX6 jI_X6_addSign tab_X6 2 n hr (c2 := (26, ρ, [(1, 55)], L, g)) rfl
  exact ⟨n1, by omega, h1⟩
theorem bk_X6_addSign_22 {ax : zAx} {CE : g_E} {n : Nat} {ρ : Nat → Int} {L : List Nat} {g : Nat → Nat → Int} {r : Option g_V} {h : g_H} (hr : g_run RX6 ax CE cX6_addSign n (22, ρ, [], L, g) r h) : ∃ n', n' < n ∧ g_run RX6 ax CE cX6_addSign n' (26, ρ, [(1, g_i (40 + (ρ 2)))], L, g) r h := by
  obtain ⟨n1, e, h1⟩ := g_blk_ok noX6 jI_X6_addSign tab_X6 3 n hr (c2 := (26, ρ, [(1, g_i (40 + (ρ 2)))], L, g)) rfl
  exact ⟨n1, by omega, h1⟩
theorem bk_X6_addSign_26 {ax : zAx} {CE : g_E} {n : Nat} {ρ : Nat → Int} {s0 : Int} {L : List Nat} {g : Nat → Nat → Int} {r : Option g_V} {h : g_H} (hr : g_run RX6 ax CE cX6_addSign n (26, ρ, [(1, s0)], L, g) r h) : ∃ n', n' < n ∧ ((g (ρ 0).toNat 0 ≤ g_i ((ρ 1) + 1) ∧ g_run RX6 ax CE cX6_addSign n' (66, (va_up ρ 3 s0), [], L, g) r h) ∨ (¬ (g (ρ 0).toNat 0 ≤ g_i ((ρ 1) + 1)) ∧ g_run RX6 ax CE cX6_addSign n' (37, (va_up ρ 3 s0), [], L, g) r h)) := by
  obtain ⟨n1, e, h1⟩ := g_blk_ok noX6 jI_X6_addSign tab_X6 7 n hr (c2 := (if g (ρ 0).toNat 0 ≤ g_i ((ρ 1) + 1) then 66 else 37, (va_up ρ 3 s0), [], L, g)) rfl
  refine ⟨n1, by omega, ?_⟩
  by_cases hc : g (ρ 0).toNat 0 ≤ g_i ((ρ 1) + 1)
  · exact Or.inl ⟨hc, by rw [if_pos hc] at h1; exact h1⟩
  · exact Or.inr ⟨hc, by rw [if_neg hc] at h1; exact h1⟩
theorem bk_X6_addSign_37 {ax : zAx} {CE : g_E} {n : Nat} {ρ : Nat → Int} {L : List Nat} {g : Nat → Nat → Int} {r : Option g_V} {h : g_H} (hr : g_run RX6 ax CE cX6_addSign n (37, ρ, [], L, g) r h) : ∃ n', n' < n ∧ ((g (g (ρ 0).toNat 5).toNat (g_i ((ρ 1) + 1)).toNat = 61 ∧ g_run RX6 ax CE cX6_addSign n' (50, ρ, [], L, g) r h) ∨ (¬ (g (g (ρ 0).toNat 5).toNat (g_i ((ρ 1) + 1)).toNat = 61) ∧ g_run RX6 ax CE cX6_addSign n' (66, ρ, [], L, g) r h)) := by
  obtain ⟨n1, e, h1⟩ := g_blk_ok noX6 jI_X6_addSign tab_X6 8 n hr (c2 := (if g (g (ρ 0).toNat 5).toNat (g_i ((ρ 1) + 1)).toNat = 61 then 50 else 66, ρ, [], L, g)) rfl
  refine ⟨n1, by omega, ?_⟩
  by_cases hc : g (g (ρ 0).toNat 5).toNat (g_i ((ρ 1) + 1)).toNat = 61
  · exact Or.inl ⟨hc, by rw [if_pos hc] at h1; exact h1⟩
  · exact Or.inr ⟨hc, by rw [if_neg hc] at h1; exact h1⟩
theorem bk_X6_addSign_50 {ax : zAx} {CE : g_E} {n : Nat} {ρ : Nat → Int} {L : List Nat} {g : Nat → Nat → Int} {r : Option g_V} {h : g_H} (hr : g_run RX6 ax CE cX6_addSign n (50, ρ, [], L, g) r h) : ∃ n', n' < n ∧ ((ρ 3 = 44 ∧ g_run RX6 ax CE cX6_addSign n' (62, ρ, [], L, g) r h) ∨ (¬ (ρ 3 = 44) ∧ g_run RX6 ax CE cX6_addSign n' (56, ρ, [], L, g) r h)) := by
  obtain ⟨n1, e, h1⟩ := g_blk_ok noX6 jI_X6_addSign tab_X6 3 n hr (c2 := (if ρ 3 = 44 then 62 else 56, ρ, [], L, g)) rfl
  refine ⟨n1, by omega, ?_⟩
  by_cases hc : ρ 3 = 44
  · exact Or.inl ⟨hc, by rw [if_pos hc] at h1; exact h1⟩
  · exact Or.inr ⟨hc, by rw [if_neg hc] at h1; exact h1⟩
theorem bk_X6_addSign_56 {ax : zAx} {CE : g_E} {n : Nat} {ρ : Nat → Int} {L : List Nat} {g : Nat → Nat → Int} {r : Option g_V} {h : g_H} (hr : g_run RX6 ax CE cX6_addSign n (56, ρ, [], L, g) r h) : ∃ n', n' < n ∧ ((ρ 3 = 45 ∧ g_run RX6 ax CE cX6_addSign n' (62, ρ, [], L, g) r h) ∨ (¬ (ρ 3 = 45) ∧ g_run RX6 ax CE cX6_addSign n' (66, ρ, [], L, g) r h)) := by
  obtain ⟨n1, e, h1⟩ := g_blk_ok noX6 jI_X6_addSign tab_X6 3 n hr (c2 := (if ρ 3 = 45 then 62 else 66, ρ, [], L, g)) rfl
  refine ⟨n1, by omega, ?_⟩
  by_cases hc : ρ 3 = 45
  · exact Or.inl ⟨hc, by rw [if_pos hc] at h1; exact h1⟩
  · exact Or.inr ⟨hc, by rw [if_neg hc] at h1; exact h1⟩
theorem bk_X6_addSign_62 {ax : zAx} {CE : g_E} {n : Nat} {ρ : Nat → Int} {L : List Nat} {g : Nat → Nat → Int} {r : Option g_V} {h : g_H} (hr : g_run RX6 ax CE cX6_addSign n (62, ρ, [], L, g) r h) : ∃ n', n' < n ∧ g_run RX6 ax CE cX6_addSign n' (67, ρ, [(1, 1)], L, g) r h := by
  obtain ⟨n1, e, h1⟩ := g_blk_ok noX6 jI_X6_addSign tab_X6 2 n hr (c2 := (67, ρ, [(1, 1)], L, g)) rfl
  exact ⟨n1, by omega, h1⟩
theorem bk_X6_addSign_66 {ax : zAx} {CE : g_E} {n : Nat} {ρ : Nat → Int} {L : List Nat} {g : Nat → Nat → Int} {r : Option g_V} {h : g_H} (hr : g_run RX6 ax CE cX6_addSign n (66, ρ, [], L, g) r h) : ∃ n', n' < n ∧ g_run RX6 ax CE cX6_addSign n' (67, ρ, [(1, 0)], L, g) r h := by
  obtain ⟨n1, e, h1⟩ := g_blk_ok noX6 jI_X6_addSign tab_X6 1 n hr (c2 := (67, ρ, [(1, 0)], L, g)) rfl
  exact ⟨n1, by omega, h1⟩
theorem bk_X6_addSign_67 {ax : zAx} {CE : g_E} {n : Nat} {ρ : Nat → Int} {s0 : Int} {L : List Nat} {g : Nat → Nat → Int} {r : Option g_V} {h : g_H} (hr : g_run RX6 ax CE cX6_addSign n (67, ρ, [(1, s0)], L, g) r h) : ∃ n', n' < n ∧ ((s0 = 0 ∧ g_run RX6 ax CE cX6_addSign n' (88, (va_up ρ 4 s0), [], L, g) r h) ∨ (¬ (s0 = 0) ∧ g_run RX6 ax CE cX6_addSign n' (74, (va_up ρ 4 s0), [], L, g) r h)) := by
  obtain ⟨n1, e, h1⟩ := g_blk_ok noX6 jI_X6_addSign tab_X6 3 n hr (c2 := (if s0 = 0 then 88 else 74, (va_up ρ 4 s0), [], L, g)) rfl
  refine ⟨n1, by omega, ?_⟩
  by_cases hc : s0 = 0
  · exact Or.inl ⟨hc, by rw [if_pos hc] at h1; exact h1⟩
  · exact Or.inr ⟨hc, by rw [if_neg hc] at h1; exact h1⟩
theorem bk_X6_addSign_74 {ax : zAx} {CE : g_E} {n : Nat} {ρ : Nat → Int} {L : List Nat} {g : Nat → Nat → Int} {r : Option g_V} {h : g_H} (hr : g_run RX6 ax CE cX6_addSign n (74, ρ, [], L, g) r h) : ∃ n', n' < n ∧ ((ρ 3 = 44 ∧ g_run RX6 ax CE cX6_addSign n' (80, ρ, [], L, g) r h) ∨ (¬ (ρ 3 = 44) ∧ g_run RX6 ax CE cX6_addSign n' (85, ρ, [], L, g) r h)) := by
  obtain ⟨n1, e, h1⟩ := g_blk_ok noX6 jI_X6_addSign tab_X6 3 n hr (c2 := (if ρ 3 = 44 then 80 else 85, ρ, [], L, g)) rfl
  refine ⟨n1, by omega, ?_⟩
  by_cases hc : ρ 3 = 44
  · exact Or.inl ⟨hc, by rw [if_pos hc] at h1; exact h1⟩
  · exact Or.inr ⟨hc, by rw [if_neg hc] at h1; exact h1⟩
theorem bk_X6_addSign_80 {ax : zAx} {CE : g_E} {n : Nat} {ρ : Nat → Int} {L : List Nat} {g : Nat → Nat → Int} {r : Option g_V} {h : g_H} (hr : g_run RX6 ax CE cX6_addSign n (80, ρ, [], L, g) r h) : ∃ n', n' < n ∧ g_run RX6 ax CE cX6_addSign n' (87, ρ, [(1, 51)], L, g) r h := by
  obtain ⟨n1, e, h1⟩ := g_blk_ok noX6 jI_X6_addSign tab_X6 2 n hr (c2 := (87, ρ, [(1, 51)], L, g)) rfl
  exact ⟨n1, by omega, h1⟩
theorem bk_X6_addSign_85 {ax : zAx} {CE : g_E} {n : Nat} {ρ : Nat → Int} {L : List Nat} {g : Nat → Nat → Int} {r : Option g_V} {h : g_H} (hr : g_run RX6 ax CE cX6_addSign n (85, ρ, [], L, g) r h) : ∃ n', n' < n ∧ g_run RX6 ax CE cX6_addSign n' (87, ρ, [(1, 52)], L, g) r h := by
  obtain ⟨n1, e, h1⟩ := g_blk_ok noX6 jI_X6_addSign tab_X6 1 n hr (c2 := (87, ρ, [(1, 52)], L, g)) rfl
  exact ⟨n1, by omega, h1⟩
theorem bk_X6_addSign_87 {ax : zAx} {CE : g_E} {n : Nat} {ρ : Nat → Int} {s0 : Int} {L : List Nat} {g : Nat → Nat → Int} {r : Option g_V} {h : g_H} (hr : g_run RX6 ax CE cX6_addSign n (87, ρ, [(1, s0)], L, g) r h) : ∃ n', n' < n ∧ g_run RX6 ax CE cX6_addSign n' (88, (va_up ρ 3 s0), [], L, g) r h := by
  obtain ⟨n1, e, h1⟩ := g_blk_ok noX6 jI_X6_addSign tab_X6 1 n hr (c2 := (88, (va_up ρ 3 s0), [], L, g)) rfl
  exact ⟨n1, by omega, h1⟩
theorem bk_X6_addSign_88 {ax : zAx} {CE : g_E} {n : Nat} {ρ : Nat → Int} {L : List Nat} {g : Nat → Nat → Int} {r : Option g_V} {h : g_H} (hr : g_run RX6 ax CE cX6_addSign n (88, ρ, [], L, g) r h) : ∃ n' r1 h1', n' < n ∧ CE yX6_addToken cX6_addToken [(0, ρ 0), (1, ρ 3), (2, ρ 1)] (L, g) r1 h1' ∧ g_run RX6 ax CE cX6_addSign n' (94, ρ, g_push r1 [], h1') r h := by
  obtain ⟨n1, e, h1⟩ := g_blk_ok noX6 jI_X6_addSign tab_X6 3 n hr (c2 := (91, ρ, [(1, ρ 1), (1, ρ 3), (1, ρ 0)], L, g)) rfl
  obtain ⟨n2, c', e2, h2, h3⟩ := g_step_un noX6 (i := .invokevirtual 48) (len := 3) (jI_X6_addSign 91 _ rfl) (gnrV _) h1
  obtain ⟨r1, h1', hx, hc⟩ := g_virt_un lk_X6 nat_all lX6_ok (idx := 48) (mi := 256) (ci := 6) (na := 3) rfl (by decide) mq_X6_addToken [(1, ρ 3), (1, ρ 1)] [] (ρ 0) rfl rfl h2
  subst hc
  exact ⟨n2, r1, h1', by omega, hx, h3⟩
theorem bk_X6_addSign_94 {ax : zAx} {CE : g_E} {n : Nat} {ρ : Nat → Int} {L : List Nat} {g : Nat → Nat → Int} {r : Option g_V} {h : g_H} (hr : g_run RX6 ax CE cX6_addSign n (94, ρ, [], L, g) r h) : ∃ n', n' < n ∧ ((ρ 4 = 0 ∧ g_run RX6 ax CE cX6_addSign n' (105, ρ, [], L, g) r h) ∨ (¬ (ρ 4 = 0) ∧ g_run RX6 ax CE cX6_addSign n' (99, ρ, [], L, g) r h)) := by
  obtain ⟨n1, e, h1⟩ := g_blk_ok noX6 jI_X6_addSign tab_X6 2 n hr (c2 := (if ρ 4 = 0 then 105 else 99, ρ, [], L, g)) rfl
  refine ⟨n1, by omega, ?_⟩
  by_cases hc : ρ 4 = 0
  · exact Or.inl ⟨hc, by rw [if_pos hc] at h1; exact h1⟩
  · exact Or.inr ⟨hc, by rw [if_neg hc] at h1; exact h1⟩
theorem bk_X6_addSign_99 {ax : zAx} {CE : g_E} {n : Nat} {ρ : Nat → Int} {L : List Nat} {g : Nat → Nat → Int} {r : Option g_V} {h : g_H} (hr : g_run RX6 ax CE cX6_addSign n (99, ρ, [], L, g) r h) : ∃ n', n' < n ∧ g_run RX6 ax CE cX6_addSign n' (108, ρ, [(1, g_i ((ρ 1) + 2))], L, g) r h := by
  obtain ⟨n1, e, h1⟩ := g_blk_ok noX6 jI_X6_addSign tab_X6 4 n hr (c2 := (108, ρ, [(1, g_i ((ρ 1) + 2))], L, g)) rfl
  exact ⟨n1, by omega, h1⟩
theorem bk_X6_addSign_105 {ax : zAx} {CE : g_E} {n : Nat} {ρ : Nat → Int} {L : List Nat} {g : Nat → Nat → Int} {r : Option g_V} {h : g_H} (hr : g_run RX6 ax CE cX6_addSign n (105, ρ, [], L, g) r h) : ∃ n', n' < n ∧ g_run RX6 ax CE cX6_addSign n' (108, ρ, [(1, g_i ((ρ 1) + 1))], L, g) r h := by
  obtain ⟨n1, e, h1⟩ := g_blk_ok noX6 jI_X6_addSign tab_X6 3 n hr (c2 := (108, ρ, [(1, g_i ((ρ 1) + 1))], L, g)) rfl
  exact ⟨n1, by omega, h1⟩
theorem bk_X6_addSign_108 {ax : zAx} {CE : g_E} {n : Nat} {ρ : Nat → Int} {s0 : Int} {L : List Nat} {g : Nat → Nat → Int} {r : Option g_V} {h : g_H} (hr : g_run RX6 ax CE cX6_addSign n (108, ρ, [(1, s0)], L, g) r h) : r = some (1, s0) ∧ h = (L, g) := by
  obtain ⟨n1, e, h1⟩ := g_blk_ok noX6 jI_X6_addSign tab_X6 0 n hr (c2 := (108, ρ, [(1, s0)], L, g)) rfl
  exact g_ret_un noX6 (i := .ireturn) (jI_X6_addSign 108 _ rfl) (by decide) h1
theorem pt_X6_addSign_0 {ax : zAx} {CE : g_E} (hCE : ∀ y cc as h r h', CE y cc as h r h' → g_ex ax y cc as h r h') {L : List Nat} (hL0 : ax.1 0 ∉ L) (hL1 : ax.1 1 ∉ L) (hd : ax.1 0 ≠ ax.1 1) {n : Nat} {ρ : Nat → Int} {g : Nat → Nat → Int} {r : Option g_V} {h : g_H} (h0 : g_run RX6 ax CE cX6_addSign n (0, ρ, [], L, g) r h) : (∃ v : Int, ixE (Int32.ofInt (((Int32.ofInt (g (g (ρ 0).toNat 5).toNat (ρ 1).toNat)).toUInt32 % 65536).toInt32.toInt)) v ∧ ((0 ≤ (Int32.ofInt v).toInt ∧ (∃ n', n' < n ∧ g_run RX6 ax CE cX6_addSign n' (26, (va_up ρ 2 ((Int32.ofInt v).toInt)), [(1, g_i (40 + ((Int32.ofInt v).toInt)))], L, g) r h)) ∨ (¬ (0 ≤ (Int32.ofInt v).toInt) ∧ (∃ n', n' < n ∧ g_run RX6 ax CE cX6_addSign n' (26, (va_up ρ 2 ((Int32.ofInt v).toInt)), [(1, 55)], L, g) r h)))) := by
  obtain ⟨n1, l1, h1⟩ := bk_X6_addSign_0 h0
  obtain ⟨n2, v2, l2, x2, h2⟩ := bk_X6_addSign_2 h1 (jj := 0) rfl rfl hL0 hd
  refine ⟨v2, x2, ?_⟩
  obtain ⟨n3, l3, h3⟩ := bk_X6_addSign_12 h2
  rcases h3 with ⟨c3, h3⟩ | ⟨c3, h3⟩
  · refine Or.inl ⟨c3, ?_⟩
    obtain ⟨n4, l4, h4⟩ := bk_X6_addSign_22 h3
    exact ⟨_, by omega, h4⟩
  · refine Or.inr ⟨c3, ?_⟩
    obtain ⟨n6, l6, h6⟩ := bk_X6_addSign_17 h3
    exact ⟨_, by omega, h6⟩
theorem pt_X6_addSign_26 {ax : zAx} {CE : g_E} (hCE : ∀ y cc as h r h', CE y cc as h r h' → g_ex ax y cc as h r h') {L : List Nat} (hL0 : ax.1 0 ∉ L) (hL1 : ax.1 1 ∉ L) (hd : ax.1 0 ≠ ax.1 1) {n : Nat} {ρ : Nat → Int} {s0 : Int} {g : Nat → Nat → Int} {r : Option g_V} {h : g_H} (h0 : g_run RX6 ax CE cX6_addSign n (26, ρ, [(1, s0)], L, g) r h) : ((g (ρ 0).toNat 0 ≤ g_i ((ρ 1) + 1) ∧ (∃ n', n' < n ∧ g_run RX6 ax CE cX6_addSign n' (88, (va_up (va_up ρ 3 s0) 4 0), [], L, g) r h)) ∨ (¬ (g (ρ 0).toNat 0 ≤ g_i ((ρ 1) + 1)) ∧ ((g (g (ρ 0).toNat 5).toNat (g_i ((ρ 1) + 1)).toNat = 61 ∧ ((s0 = 44 ∧ (∃ n', n' < n ∧ g_run RX6 ax CE cX6_addSign n' (88, (va_up (va_up (va_up ρ 3 s0) 4 1) 3 51), [], L, g) r h)) ∨ (¬ (s0 = 44) ∧ ((s0 = 45 ∧ (∃ n', n' < n ∧ g_run RX6 ax CE cX6_addSign n' (88, (va_up (va_up (va_up ρ 3 s0) 4 1) 3 52), [], L, g) r h)) ∨ (¬ (s0 = 45) ∧ (∃ n', n' < n ∧ g_run RX6 ax CE cX6_addSign n' (88, (va_up (va_up ρ 3 s0) 4 0), [], L, g) r h)))))) ∨ (¬ (g (g (ρ 0).toNat 5).toNat (g_i ((ρ 1) + 1)).toNat = 61) ∧ (∃ n', n' < n ∧ g_run RX6 ax CE cX6_addSign n' (88, (va_up (va_up ρ 3 s0) 4 0), [], L, g) r h))))) := by
  obtain ⟨n1, l1, h1⟩ := bk_X6_addSign_26 h0
  rcases h1 with ⟨c1, h1⟩ | ⟨c1, h1⟩
  · refine Or.inl ⟨c1, ?_⟩
    obtain ⟨n2, l2, h2⟩ := bk_X6_addSign_66 h1
    obtain ⟨n3, l3, h3⟩ := bk_X6_addSign_67 h2
    rcases h3 with ⟨c3, h3⟩ | ⟨c3, h3⟩
    · exact ⟨_, by omega, h3⟩
    · exact absurd (show (0 : Int) = 0 from by decide) c3
  · refine Or.inr ⟨c1, ?_⟩
    obtain ⟨n5, l5, h5⟩ := bk_X6_addSign_37 h1
    rcases h5 with ⟨c5, h5⟩ | ⟨c5, h5⟩
    · refine Or.inl ⟨c5, ?_⟩
      obtain ⟨n6, l6, h6⟩ := bk_X6_addSign_50 h5
      rcases h6 with ⟨c6, h6⟩ | ⟨c6, h6⟩
      · refine Or.inl ⟨c6, ?_⟩
        obtain ⟨n7, l7, h7⟩ := bk_X6_addSign_62 h6
        obtain ⟨n8, l8, h8⟩ := bk_X6_addSign_67 h7
        rcases h8 with ⟨c8, h8⟩ | ⟨c8, h8⟩
        · exact absurd c8 (show ¬ ((1 : Int) = 0) from by decide)
        · obtain ⟨n9, l9, h9⟩ := bk_X6_addSign_74 h8
          rcases h9 with ⟨c9, h9⟩ | ⟨c9, h9⟩
          · obtain ⟨n10, l10, h10⟩ := bk_X6_addSign_80 h9
            obtain ⟨n11, l11, h11⟩ := bk_X6_addSign_87 h10
            exact ⟨_, by omega, h11⟩
          · exact absurd c6 c9
      · refine Or.inr ⟨c6, ?_⟩
        obtain ⟨n13, l13, h13⟩ := bk_X6_addSign_56 h6
        rcases h13 with ⟨c13, h13⟩ | ⟨c13, h13⟩
        · refine Or.inl ⟨c13, ?_⟩
          obtain ⟨n14, l14, h14⟩ := bk_X6_addSign_62 h13
          obtain ⟨n15, l15, h15⟩ := bk_X6_addSign_67 h14
          rcases h15 with ⟨c15, h15⟩ | ⟨c15, h15⟩
          · exact absurd c15 (show ¬ ((1 : Int) = 0) from by decide)
          · obtain ⟨n16, l16, h16⟩ := bk_X6_addSign_74 h15
            rcases h16 with ⟨c16, h16⟩ | ⟨c16, h16⟩
            · exact absurd c16 c6
            · obtain ⟨n17, l17, h17⟩ := bk_X6_addSign_85 h16
              obtain ⟨n18, l18, h18⟩ := bk_X6_addSign_87 h17
              exact ⟨_, by omega, h18⟩
        · refine Or.inr ⟨c13, ?_⟩
          obtain ⟨n20, l20, h20⟩ := bk_X6_addSign_66 h13
          obtain ⟨n21, l21, h21⟩ := bk_X6_addSign_67 h20
          rcases h21 with ⟨c21, h21⟩ | ⟨c21, h21⟩
          · exact ⟨_, by omega, h21⟩
          · exact absurd (show (0 : Int) = 0 from by decide) c21
    · refine Or.inr ⟨c5, ?_⟩
      obtain ⟨n23, l23, h23⟩ := bk_X6_addSign_66 h5
      obtain ⟨n24, l24, h24⟩ := bk_X6_addSign_67 h23
      rcases h24 with ⟨c24, h24⟩ | ⟨c24, h24⟩
      · exact ⟨_, by omega, h24⟩
      · exact absurd (show (0 : Int) = 0 from by decide) c24
theorem pt_X6_addSign_88 {ax : zAx} {CE : g_E} (hCE : ∀ y cc as h r h', CE y cc as h r h' → g_ex ax y cc as h r h') {L : List Nat} (hL0 : ax.1 0 ∉ L) (hL1 : ax.1 1 ∉ L) (hd : ax.1 0 ≠ ax.1 1) {n : Nat} {ρ : Nat → Int} {g : Nat → Nat → Int} {r : Option g_V} {h : g_H} (h0 : g_run RX6 ax CE cX6_addSign n (88, ρ, [], L, g) r h) : (((ρ 4) = 0 ∧ (r = some (1, g_i ((ρ 1) + 1)) ∧ h = (L, (F_X6_addToken (ρ 0) (ρ 3) (ρ 1) g)))) ∨ (¬ ((ρ 4) = 0) ∧ (r = some (1, g_i ((ρ 1) + 2)) ∧ h = (L, (F_X6_addToken (ρ 0) (ρ 3) (ρ 1) g))))) := by
  obtain ⟨n1, r1, k1, l1, x1, h1⟩ := bk_X6_addSign_88 h0
  obtain ⟨e1, d1⟩ := f_X6_addToken (hCE _ _ _ _ _ _ x1)
  subst e1
  subst d1
  obtain ⟨n2, l2, h2⟩ := bk_X6_addSign_94 h1
  rcases h2 with ⟨c2, h2⟩ | ⟨c2, h2⟩
  · refine Or.inl ⟨c2, ?_⟩
    obtain ⟨n3, l3, h3⟩ := bk_X6_addSign_105 h2
    obtain ⟨e4, d4⟩ := bk_X6_addSign_108 h3
    exact ⟨e4, d4⟩
  · refine Or.inr ⟨c2, ?_⟩
    obtain ⟨n5, l5, h5⟩ := bk_X6_addSign_99 h2
    obtain ⟨e6, d6⟩ := bk_X6_addSign_108 h5
    exact ⟨e6, d6⟩

theorem jI_X6_wordOf : ∀ (pc : Nat) (q : Instr × Nat), lkp iX6_wordOf pc = some q → decode cX6_wordOf pc = .ok q := fun pc q hq => jX6_wordOf (pc, q) (lkp_in iX6_wordOf hq)
theorem bk_X6_wordOf_0 {ax : zAx} {CE : g_E} {n : Nat} {ρ : Nat → Int} {L : List Nat} {g : Nat → Nat → Int} {r : Option g_V} {h : g_H} (hr : g_run RX6 ax CE cX6_wordOf n (0, ρ, [], L, g) r h) : ∃ n', n' < n ∧ g_run RX6 ax CE cX6_wordOf n' (11, (va_up (va_up (va_up (va_up ρ 3 0) 4 (ρ 1)) 5 1) 6 0), [], L, g) r h := by
  obtain ⟨n1, e, h1⟩ := g_blk_ok noX6 jI_X6_wordOf tab_X6 8 n hr (c2 := (11, (va_up (va_up (va_up (va_up ρ 3 0) 4 (ρ 1)) 5 1) 6 0), [], L, g)) rfl
  exact ⟨n1, by omega, h1⟩
theorem bk_X6_wordOf_11 {ax : zAx} {CE : g_E} {n : Nat} {ρ : Nat → Int} {L : List Nat} {g : Nat → Nat → Int} {r : Option g_V} {h : g_H} (hr : g_run RX6 ax CE cX6_wordOf n (11, ρ, [], L, g) r h) : ∃ n', n' < n ∧ g_run RX6 ax CE cX6_wordOf n' (15, ρ, [(1, (ax.1 1 : Int)), (1, ρ 6)], L, g) r h := by
  obtain ⟨n1, e, h1⟩ := g_blk_ok noX6 jI_X6_wordOf tab_X6 1 n hr (c2 := (13, ρ, [(1, ρ 6)], L, g)) rfl
  obtain ⟨n2, c', e2, h2, h3⟩ := g_step_un noX6 (i := .ldc 68) (len := 2) (jI_X6_wordOf 13 _ rfl) (gnrL _) h1
  have hc := g_lds (k := 68) (j := 1) (by decide) h2
  subst hc
  exact ⟨n2, by omega, h3⟩
theorem bk_X6_wordOf_15 {ax : zAx} {CE : g_E} {n : Nat} {ρ : Nat → Int} {s0 : Int} {s1 : Int} {L : List Nat} {g : Nat → Nat → Int} {r : Option g_V} {h : g_H} (hr : g_run RX6 ax CE cX6_wordOf n (15, ρ, [(1, s0), (1, s1)], L, g) r h) {jj : Nat} (hs : s0 = (ax.1 jj : Int)) (hj : jj < 2) (hL : ax.1 jj ∉ L) (hd : ax.1 0 ≠ ax.1 1) : ∃ n', n' < n ∧ g_run RX6 ax CE cX6_wordOf n' (18, ρ, [(1, (Int32.ofNat (zlen.getD jj 0)).toInt), (1, s1)], L, g) r h := by
  obtain ⟨n1, e, h1⟩ := g_blk_ok noX6 jI_X6_wordOf tab_X6 0 n hr (c2 := (15, ρ, [(1, s0), (1, s1)], L, g)) rfl
  obtain ⟨n2, c', e2, h2, h3⟩ := g_step_un noX6 (i := .invokevirtual 70) (len := 3) (jI_X6_wordOf 15 _ rfl) (gnrV _) h1
  have hc := g_len_un hs hj hL hd h2
  subst hc
  exact ⟨n2, by omega, h3⟩
theorem bk_X6_wordOf_18 {ax : zAx} {CE : g_E} {n : Nat} {ρ : Nat → Int} {s0 : Int} {s1 : Int} {L : List Nat} {g : Nat → Nat → Int} {r : Option g_V} {h : g_H} (hr : g_run RX6 ax CE cX6_wordOf n (18, ρ, [(1, s0), (1, s1)], L, g) r h) : ∃ n', n' < n ∧ ((s0 ≤ s1 ∧ g_run RX6 ax CE cX6_wordOf n' (101, ρ, [], L, g) r h) ∨ (¬ (s0 ≤ s1) ∧ g_run RX6 ax CE cX6_wordOf n' (21, ρ, [], L, g) r h)) := by
  obtain ⟨n1, e, h1⟩ := g_blk_ok noX6 jI_X6_wordOf tab_X6 1 n hr (c2 := (if s0 ≤ s1 then 101 else 21, ρ, [], L, g)) rfl
  refine ⟨n1, by omega, ?_⟩
  by_cases hc : s0 ≤ s1
  · exact Or.inl ⟨hc, by rw [if_pos hc] at h1; exact h1⟩
  · exact Or.inr ⟨hc, by rw [if_neg hc] at h1; exact h1⟩
theorem bk_X6_wordOf_21 {ax : zAx} {CE : g_E} {n : Nat} {ρ : Nat → Int} {L : List Nat} {g : Nat → Nat → Int} {r : Option g_V} {h : g_H} (hr : g_run RX6 ax CE cX6_wordOf n (21, ρ, [], L, g) r h) : ∃ n', n' < n ∧ g_run RX6 ax CE cX6_wordOf n' (23, ρ, [(1, (ax.1 1 : Int))], L, g) r h := by
  obtain ⟨n1, e, h1⟩ := g_blk_ok noX6 jI_X6_wordOf tab_X6 0 n hr (c2 := (21, ρ, [], L, g)) rfl
  obtain ⟨n2, c', e2, h2, h3⟩ := g_step_un noX6 (i := .ldc 68) (len := 2) (jI_X6_wordOf 21 _ rfl) (gnrL _) h1
  have hc := g_lds (k := 68) (j := 1) (by decide) h2
  subst hc
  exact ⟨n2, by omega, h3⟩
theorem bk_X6_wordOf_23 {ax : zAx} {CE : g_E} {n : Nat} {ρ : Nat → Int} {s0 : Int} {L : List Nat} {g : Nat → Nat → Int} {r : Option g_V} {h : g_H} (hr : g_run RX6 ax CE cX6_wordOf n (23, ρ, [(1, s0)], L, g) r h) {jj : Nat} (hs : s0 = (ax.1 jj : Int)) (hj : jj < 2) (hL : ax.1 jj ∉ L) (hd : ax.1 0 ≠ ax.1 1) : ∃ n', n' < n ∧ g_run RX6 ax CE cX6_wordOf n' (28, ρ, [(1, ((zbyt.getD jj []).getD (ρ 6).toNat 0 &&& 255).toInt)], L, g) r h := by
  obtain ⟨n1, e, h1⟩ := g_blk_ok noX6 jI_X6_wordOf tab_X6 1 n hr (c2 := (25, ρ, [(1, ρ 6), (1, s0)], L, g)) rfl
  obtain ⟨n2, c', e2, h2, h3⟩ := g_step_un noX6 (i := .invokevirtual 73) (len := 3) (jI_X6_wordOf 25 _ rfl) (gnrV _) h1
  have hc := g_chr_un hs hj hL hd h2
  subst hc
  exact ⟨n2, by omega, h3⟩
theorem bk_X6_wordOf_28 {ax : zAx} {CE : g_E} {n : Nat} {ρ : Nat → Int} {s0 : Int} {L : List Nat} {g : Nat → Nat → Int} {r : Option g_V} {h : g_H} (hr : g_run RX6 ax CE cX6_wordOf n (28, ρ, [(1, s0)], L, g) r h) : ∃ n', n' < n ∧ ((s0 = 32 ∧ g_run RX6 ax CE cX6_wordOf n' (73, (va_up ρ 7 s0), [], L, g) r h) ∨ (¬ (s0 = 32) ∧ g_run RX6 ax CE cX6_wordOf n' (37, (va_up ρ 7 s0), [], L, g) r h)) := by
  obtain ⟨n1, e, h1⟩ := g_blk_ok noX6 jI_X6_wordOf tab_X6 4 n hr (c2 := (if s0 = 32 then 73 else 37, (va_up ρ 7 s0), [], L, g)) rfl
  refine ⟨n1, by omega, ?_⟩
  by_cases hc : s0 = 32
  · exact Or.inl ⟨hc, by rw [if_pos hc] at h1; exact h1⟩
  · exact Or.inr ⟨hc, by rw [if_neg hc] at h1; exact h1⟩
theorem bk_X6_wordOf_37 {ax : zAx} {CE : g_E} {n : Nat} {ρ : Nat → Int} {L : List Nat} {g : Nat → Nat → Int} {r : Option g_V} {h : g_H} (hr : g_run RX6 ax CE cX6_wordOf n (37, ρ, [], L, g) r h) : ∃ n', n' < n ∧ ((ρ 5 = 0 ∧ g_run RX6 ax CE cX6_wordOf n' (64, ρ, [], L, g) r h) ∨ (¬ (ρ 5 = 0) ∧ g_run RX6 ax CE cX6_wordOf n' (42, ρ, [], L, g) r h)) := by
  obtain ⟨n1, e, h1⟩ := g_blk_ok noX6 jI_X6_wordOf tab_X6 2 n hr (c2 := (if ρ 5 = 0 then 64 else 42, ρ, [], L, g)) rfl
  refine ⟨n1, by omega, ?_⟩
  by_cases hc : ρ 5 = 0
  · exact Or.inl ⟨hc, by rw [if_pos hc] at h1; exact h1⟩
  · exact Or.inr ⟨hc, by rw [if_neg hc] at h1; exact h1⟩
theorem bk_X6_wordOf_42 {ax : zAx} {CE : g_E} {n : Nat} {ρ : Nat → Int} {L : List Nat} {g : Nat → Nat → Int} {r : Option g_V} {h : g_H} (hr : g_run RX6 ax CE cX6_wordOf n (42, ρ, [], L, g) r h) : ∃ n', n' < n ∧ ((ρ 2 ≤ ρ 4 ∧ g_run RX6 ax CE cX6_wordOf n' (64, ρ, [], L, g) r h) ∨ (¬ (ρ 2 ≤ ρ 4) ∧ g_run RX6 ax CE cX6_wordOf n' (48, ρ, [], L, g) r h)) := by
  obtain ⟨n1, e, h1⟩ := g_blk_ok noX6 jI_X6_wordOf tab_X6 3 n hr (c2 := (if ρ 2 ≤ ρ 4 then 64 else 48, ρ, [], L, g)) rfl
  refine ⟨n1, by omega, ?_⟩
  by_cases hc : ρ 2 ≤ ρ 4
  · exact Or.inl ⟨hc, by rw [if_pos hc] at h1; exact h1⟩
  · exact Or.inr ⟨hc, by rw [if_neg hc] at h1; exact h1⟩
theorem bk_X6_wordOf_48 {ax : zAx} {CE : g_E} {n : Nat} {ρ : Nat → Int} {L : List Nat} {g : Nat → Nat → Int} {r : Option g_V} {h : g_H} (hr : g_run RX6 ax CE cX6_wordOf n (48, ρ, [], L, g) r h) : ∃ n', n' < n ∧ ((g (g (ρ 0).toNat 5).toNat (ρ 4).toNat = ρ 7 ∧ g_run RX6 ax CE cX6_wordOf n' (60, ρ, [], L, g) r h) ∨ (¬ (g (g (ρ 0).toNat 5).toNat (ρ 4).toNat = ρ 7) ∧ g_run RX6 ax CE cX6_wordOf n' (64, ρ, [], L, g) r h)) := by
  obtain ⟨n1, e, h1⟩ := g_blk_ok noX6 jI_X6_wordOf tab_X6 6 n hr (c2 := (if g (g (ρ 0).toNat 5).toNat (ρ 4).toNat = ρ 7 then 60 else 64, ρ, [], L, g)) rfl
  refine ⟨n1, by omega, ?_⟩
  by_cases hc : g (g (ρ 0).toNat 5).toNat (ρ 4).toNat = ρ 7
  · exact Or.inl ⟨hc, by rw [if_pos hc] at h1; exact h1⟩
  · exact Or.inr ⟨hc, by rw [if_neg hc] at h1; exact h1⟩
theorem bk_X6_wordOf_60 {ax : zAx} {CE : g_E} {n : Nat} {ρ : Nat → Int} {L : List Nat} {g : Nat → Nat → Int} {r : Option g_V} {h : g_H} (hr : g_run RX6 ax CE cX6_wordOf n (60, ρ, [], L, g) r h) : ∃ n', n' < n ∧ g_run RX6 ax CE cX6_wordOf n' (65, ρ, [(1, 1)], L, g) r h := by
  obtain ⟨n1, e, h1⟩ := g_blk_ok noX6 jI_X6_wordOf tab_X6 2 n hr (c2 := (65, ρ, [(1, 1)], L, g)) rfl
  exact ⟨n1, by omega, h1⟩
theorem bk_X6_wordOf_64 {ax : zAx} {CE : g_E} {n : Nat} {ρ : Nat → Int} {L : List Nat} {g : Nat → Nat → Int} {r : Option g_V} {h : g_H} (hr : g_run RX6 ax CE cX6_wordOf n (64, ρ, [], L, g) r h) : ∃ n', n' < n ∧ g_run RX6 ax CE cX6_wordOf n' (65, ρ, [(1, 0)], L, g) r h := by
  obtain ⟨n1, e, h1⟩ := g_blk_ok noX6 jI_X6_wordOf tab_X6 1 n hr (c2 := (65, ρ, [(1, 0)], L, g)) rfl
  exact ⟨n1, by omega, h1⟩
theorem bk_X6_wordOf_65 {ax : zAx} {CE : g_E} {n : Nat} {ρ : Nat → Int} {s0 : Int} {L : List Nat} {g : Nat → Nat → Int} {r : Option g_V} {h : g_H} (hr : g_run RX6 ax CE cX6_wordOf n (65, ρ, [(1, s0)], L, g) r h) : ∃ n', n' < n ∧ g_run RX6 ax CE cX6_wordOf n' (95, (va_up (va_up ρ 5 s0) 4 (g_i (ρ 4 + 1))), [], L, g) r h := by
  obtain ⟨n1, e, h1⟩ := g_blk_ok noX6 jI_X6_wordOf tab_X6 3 n hr (c2 := (95, (va_up (va_up ρ 5 s0) 4 (g_i (ρ 4 + 1))), [], L, g)) rfl
  exact ⟨n1, by omega, h1⟩
theorem bk_X6_wordOf_73 {ax : zAx} {CE : g_E} {n : Nat} {ρ : Nat → Int} {L : List Nat} {g : Nat → Nat → Int} {r : Option g_V} {h : g_H} (hr : g_run RX6 ax CE cX6_wordOf n (73, ρ, [], L, g) r h) : ∃ n', n' < n ∧ ((ρ 5 = 0 ∧ g_run RX6 ax CE cX6_wordOf n' (86, ρ, [], L, g) r h) ∨ (¬ (ρ 5 = 0) ∧ g_run RX6 ax CE cX6_wordOf n' (78, ρ, [], L, g) r h)) := by
  obtain ⟨n1, e, h1⟩ := g_blk_ok noX6 jI_X6_wordOf tab_X6 2 n hr (c2 := (if ρ 5 = 0 then 86 else 78, ρ, [], L, g)) rfl
  refine ⟨n1, by omega, ?_⟩
  by_cases hc : ρ 5 = 0
  · exact Or.inl ⟨hc, by rw [if_pos hc] at h1; exact h1⟩
  · exact Or.inr ⟨hc, by rw [if_neg hc] at h1; exact h1⟩
theorem bk_X6_wordOf_78 {ax : zAx} {CE : g_E} {n : Nat} {ρ : Nat → Int} {L : List Nat} {g : Nat → Nat → Int} {r : Option g_V} {h : g_H} (hr : g_run RX6 ax CE cX6_wordOf n (78, ρ, [], L, g) r h) : ∃ n', n' < n ∧ ((ρ 4 = ρ 2 ∧ g_run RX6 ax CE cX6_wordOf n' (84, ρ, [], L, g) r h) ∨ (¬ (ρ 4 = ρ 2) ∧ g_run RX6 ax CE cX6_wordOf n' (86, ρ, [], L, g) r h)) := by
  obtain ⟨n1, e, h1⟩ := g_blk_ok noX6 jI_X6_wordOf tab_X6 3 n hr (c2 := (if ρ 4 = ρ 2 then 84 else 86, ρ, [], L, g)) rfl
  refine ⟨n1, by omega, ?_⟩
  by_cases hc : ρ 4 = ρ 2
  · exact Or.inl ⟨hc, by rw [if_pos hc] at h1; exact h1⟩
  · exact Or.inr ⟨hc, by rw [if_neg hc] at h1; exact h1⟩
theorem bk_X6_wordOf_84 {ax : zAx} {CE : g_E} {n : Nat} {ρ : Nat → Int} {L : List Nat} {g : Nat → Nat → Int} {r : Option g_V} {h : g_H} (hr : g_run RX6 ax CE cX6_wordOf n (84, ρ, [], L, g) r h) : r = some (1, ρ 3) ∧ h = (L, g) := by
  obtain ⟨n1, e, h1⟩ := g_blk_ok noX6 jI_X6_wordOf tab_X6 1 n hr (c2 := (85, ρ, [(1, ρ 3)], L, g)) rfl
  exact g_ret_un noX6 (i := .ireturn) (jI_X6_wordOf 85 _ rfl) (by decide) h1
theorem bk_X6_wordOf_86 {ax : zAx} {CE : g_E} {n : Nat} {ρ : Nat → Int} {L : List Nat} {g : Nat → Nat → Int} {r : Option g_V} {h : g_H} (hr : g_run RX6 ax CE cX6_wordOf n (86, ρ, [], L, g) r h) : ∃ n', n' < n ∧ g_run RX6 ax CE cX6_wordOf n' (95, (va_up (va_up (va_up ρ 3 (g_i (ρ 3 + 1))) 4 (ρ 1)) 5 1), [], L, g) r h := by
  obtain ⟨n1, e, h1⟩ := g_blk_ok noX6 jI_X6_wordOf tab_X6 5 n hr (c2 := (95, (va_up (va_up (va_up ρ 3 (g_i (ρ 3 + 1))) 4 (ρ 1)) 5 1), [], L, g)) rfl
  exact ⟨n1, by omega, h1⟩
theorem bk_X6_wordOf_95 {ax : zAx} {CE : g_E} {n : Nat} {ρ : Nat → Int} {L : List Nat} {g : Nat → Nat → Int} {r : Option g_V} {h : g_H} (hr : g_run RX6 ax CE cX6_wordOf n (95, ρ, [], L, g) r h) : ∃ n', n' < n ∧ g_run RX6 ax CE cX6_wordOf n' (11, (va_up ρ 6 (g_i (ρ 6 + 1))), [], L, g) r h := by
  obtain ⟨n1, e, h1⟩ := g_blk_ok noX6 jI_X6_wordOf tab_X6 2 n hr (c2 := (11, (va_up ρ 6 (g_i (ρ 6 + 1))), [], L, g)) rfl
  exact ⟨n1, by omega, h1⟩
theorem bk_X6_wordOf_101 {ax : zAx} {CE : g_E} {n : Nat} {ρ : Nat → Int} {L : List Nat} {g : Nat → Nat → Int} {r : Option g_V} {h : g_H} (hr : g_run RX6 ax CE cX6_wordOf n (101, ρ, [], L, g) r h) : r = some (1, 55) ∧ h = (L, g) := by
  obtain ⟨n1, e, h1⟩ := g_blk_ok noX6 jI_X6_wordOf tab_X6 1 n hr (c2 := (103, ρ, [(1, 55)], L, g)) rfl
  exact g_ret_un noX6 (i := .ireturn) (jI_X6_wordOf 103 _ rfl) (by decide) h1
theorem pt_X6_wordOf_0 {ax : zAx} {CE : g_E} (hCE : ∀ y cc as h r h', CE y cc as h r h' → g_ex ax y cc as h r h') {L : List Nat} (hL0 : ax.1 0 ∉ L) (hL1 : ax.1 1 ∉ L) (hd : ax.1 0 ≠ ax.1 1) {n : Nat} {ρ : Nat → Int} {g : Nat → Nat → Int} {r : Option g_V} {h : g_H} (h0 : g_run RX6 ax CE cX6_wordOf n (0, ρ, [], L, g) r h) : (∃ n', n' < n ∧ g_run RX6 ax CE cX6_wordOf n' (11, (va_up (va_up (va_up (va_up ρ 3 0) 4 (ρ 1)) 5 1) 6 0), [], L, g) r h) := by
  obtain ⟨n1, l1, h1⟩ := bk_X6_wordOf_0 h0
  exact ⟨_, by omega, h1⟩
theorem pt_X6_wordOf_11 {ax : zAx} {CE : g_E} (hCE : ∀ y cc as h r h', CE y cc as h r h' → g_ex ax y cc as h r h') {L : List Nat} (hL0 : ax.1 0 ∉ L) (hL1 : ax.1 1 ∉ L) (hd : ax.1 0 ≠ ax.1 1) {n : Nat} {ρ : Nat → Int} {g : Nat → Nat → Int} {r : Option g_V} {h : g_H} (h0 : g_run RX6 ax CE cX6_wordOf n (11, ρ, [], L, g) r h) : (((Int32.ofNat (zlen.getD 1 0)).toInt ≤ (ρ 6) ∧ (r = some (1, 55) ∧ h = (L, g))) ∨ (¬ ((Int32.ofNat (zlen.getD 1 0)).toInt ≤ (ρ 6)) ∧ ((((zbyt.getD 1 []).getD (ρ 6).toNat 0 &&& 255).toInt = 32 ∧ (((ρ 5) = 0 ∧ (∃ n', n' < n ∧ g_run RX6 ax CE cX6_wordOf n' (11, (va_up (va_up (va_up (va_up (va_up ρ 7 (((zbyt.getD 1 []).getD (ρ 6).toNat 0 &&& 255).toInt)) 3 (g_i ((ρ 3) + 1))) 4 (ρ 1)) 5 1) 6 (g_i ((ρ 6) + 1))), [], L, g) r h)) ∨ (¬ ((ρ 5) = 0) ∧ (((ρ 4) = (ρ 2) ∧ (r = some (1, (ρ 3)) ∧ h = (L, g))) ∨ (¬ ((ρ 4) = (ρ 2)) ∧ (∃ n', n' < n ∧ g_run RX6 ax CE cX6_wordOf n' (11, (va_up (va_up (va_up (va_up (va_up ρ 7 (((zbyt.getD 1 []).getD (ρ 6).toNat 0 &&& 255).toInt)) 3 (g_i ((ρ 3) + 1))) 4 (ρ 1)) 5 1) 6 (g_i ((ρ 6) + 1))), [], L, g) r h)))))) ∨ (¬ (((zbyt.getD 1 []).getD (ρ 6).toNat 0 &&& 255).toInt = 32) ∧ (((ρ 5) = 0 ∧ (∃ n', n' < n ∧ g_run RX6 ax CE cX6_wordOf n' (11, (va_up (va_up (va_up (va_up ρ 7 (((zbyt.getD 1 []).getD (ρ 6).toNat 0 &&& 255).toInt)) 5 0) 4 (g_i ((ρ 4) + 1))) 6 (g_i ((ρ 6) + 1))), [], L, g) r h)) ∨ (¬ ((ρ 5) = 0) ∧ (((ρ 2) ≤ (ρ 4) ∧ (∃ n', n' < n ∧ g_run RX6 ax CE cX6_wordOf n' (11, (va_up (va_up (va_up (va_up ρ 7 (((zbyt.getD 1 []).getD (ρ 6).toNat 0 &&& 255).toInt)) 5 0) 4 (g_i ((ρ 4) + 1))) 6 (g_i ((ρ 6) + 1))), [], L, g) r h)) ∨ (¬ ((ρ 2) ≤ (ρ 4)) ∧ ((g (g (ρ 0).toNat 5).toNat (ρ 4).toNat = ((zbyt.getD 1 []).getD (ρ 6).toNat 0 &&& 255).toInt ∧ (∃ n', n' < n ∧ g_run RX6 ax CE cX6_wordOf n' (11, (va_up (va_up (va_up (va_up ρ 7 (((zbyt.getD 1 []).getD (ρ 6).toNat 0 &&& 255).toInt)) 5 1) 4 (g_i ((ρ 4) + 1))) 6 (g_i ((ρ 6) + 1))), [], L, g) r h)) ∨ (¬ (g (g (ρ 0).toNat 5).toNat (ρ 4).toNat = ((zbyt.getD 1 []).getD (ρ 6).toNat 0 &&& 255).toInt) ∧ (∃ n', n' < n ∧ g_run RX6 ax CE cX6_wordOf n' (11, (va_up (va_up (va_up (va_up ρ 7 (((zbyt.getD 1 []).getD (ρ 6).toNat 0 &&& 255).toInt)) 5 0) 4 (g_i ((ρ 4) + 1))) 6 (g_i ((ρ 6) + 1))), [], L, g) r h))))))))))) := by
  obtain ⟨n1, l1, h1⟩ := bk_X6_wordOf_11 h0
  obtain ⟨n2, l2, h2⟩ := bk_X6_wordOf_15 h1 (jj := 1) rfl (by decide) hL1 hd
  obtain ⟨n3, l3, h3⟩ := bk_X6_wordOf_18 h2
  rcases h3 with ⟨c3, h3⟩ | ⟨c3, h3⟩
  · refine Or.inl ⟨c3, ?_⟩
    obtain ⟨e4, d4⟩ := bk_X6_wordOf_101 h3
    exact ⟨e4, d4⟩
  · refine Or.inr ⟨c3, ?_⟩
    obtain ⟨n5, l5, h5⟩ := bk_X6_wordOf_21 h3
    obtain ⟨n6, l6, h6⟩ := bk_X6_wordOf_23 h5 (jj := 1) rfl (by decide) hL1 hd
    obtain ⟨n7, l7, h7⟩ := bk_X6_wordOf_28 h6
    rcases h7 with ⟨c7, h7⟩ | ⟨c7, h7⟩
    · refine Or.inl ⟨c7, ?_⟩
      obtain ⟨n8, l8, h8⟩ := bk_X6_wordOf_73 h7
      rcases h8 with ⟨c8, h8⟩ | ⟨c8, h8⟩
      · refine Or.inl ⟨c8, ?_⟩
        obtain ⟨n9, l9, h9⟩ := bk_X6_wordOf_86 h8
        obtain ⟨n10, l10, h10⟩ := bk_X6_wordOf_95 h9
        exact ⟨_, by omega, h10⟩
      · refine Or.inr ⟨c8, ?_⟩
        obtain ⟨n12, l12, h12⟩ := bk_X6_wordOf_78 h8
        rcases h12 with ⟨c12, h12⟩ | ⟨c12, h12⟩
        · refine Or.inl ⟨c12, ?_⟩
          obtain ⟨e13, d13⟩ := bk_X6_wordOf_84 h12
          exact ⟨e13, d13⟩
        · refine Or.inr ⟨c12, ?_⟩
          obtain ⟨n14, l14, h14⟩ := bk_X6_wordOf_86 h12
          obtain ⟨n15, l15, h15⟩ := bk_X6_wordOf_95 h14
          exact ⟨_, by omega, h15⟩
    · refine Or.inr ⟨c7, ?_⟩
      obtain ⟨n17, l17, h17⟩ := bk_X6_wordOf_37 h7
      rcases h17 with ⟨c17, h17⟩ | ⟨c17, h17⟩
      · refine Or.inl ⟨c17, ?_⟩
        obtain ⟨n18, l18, h18⟩ := bk_X6_wordOf_64 h17
        obtain ⟨n19, l19, h19⟩ := bk_X6_wordOf_65 h18
        obtain ⟨n20, l20, h20⟩ := bk_X6_wordOf_95 h19
        exact ⟨_, by omega, h20⟩
      · refine Or.inr ⟨c17, ?_⟩
        obtain ⟨n22, l22, h22⟩ := bk_X6_wordOf_42 h17
        rcases h22 with ⟨c22, h22⟩ | ⟨c22, h22⟩
        · refine Or.inl ⟨c22, ?_⟩
          obtain ⟨n23, l23, h23⟩ := bk_X6_wordOf_64 h22
          obtain ⟨n24, l24, h24⟩ := bk_X6_wordOf_65 h23
          obtain ⟨n25, l25, h25⟩ := bk_X6_wordOf_95 h24
          exact ⟨_, by omega, h25⟩
        · refine Or.inr ⟨c22, ?_⟩
          obtain ⟨n27, l27, h27⟩ := bk_X6_wordOf_48 h22
          rcases h27 with ⟨c27, h27⟩ | ⟨c27, h27⟩
          · refine Or.inl ⟨c27, ?_⟩
            obtain ⟨n28, l28, h28⟩ := bk_X6_wordOf_60 h27
            obtain ⟨n29, l29, h29⟩ := bk_X6_wordOf_65 h28
            obtain ⟨n30, l30, h30⟩ := bk_X6_wordOf_95 h29
            exact ⟨_, by omega, h30⟩
          · refine Or.inr ⟨c27, ?_⟩
            obtain ⟨n32, l32, h32⟩ := bk_X6_wordOf_64 h27
            obtain ⟨n33, l33, h33⟩ := bk_X6_wordOf_65 h32
            obtain ⟨n34, l34, h34⟩ := bk_X6_wordOf_95 h33
            exact ⟨_, by omega, h34⟩

theorem jI_X3_readTape : ∀ (pc : Nat) (q : Instr × Nat), lkp iX3_readTape pc = some q → decode cX3_readTape pc = .ok q := fun pc q hq => jX3_readTape (pc, q) (lkp_in iX3_readTape hq)
theorem bk_X3_readTape_0 {ax : zAx} {CE : g_E} {n : Nat} {ρ : Nat → Int} {L : List Nat} {g : Nat → Nat → Int} {r : Option g_V} {h : g_H} (hr : g_run RX3 ax CE cX3_readTape n (0, ρ, [], L, g) r h) : ∃ (n' q : Nat) (d : Nat → Int), n' < n ∧ (q ∉ L ∧ q ≠ ax.2.2 ∧ q ≠ ax.1 0 ∧ q ≠ ax.1 1) ∧ g_nd RX3 22 d ∧ g_run RX3 ax CE cX3_readTape n' (14, ρ, [(1, (q : Int)), (1, ρ 0)], L ++ [q], g_upr (g_up (g_up g (ρ 0).toNat 0 0) (ρ 0).toNat 1 (-1)) q d) r h := by
  obtain ⟨n1, e, h1⟩ := g_blk_ok noX3 jI_X3_readTape tab_X3 7 n hr (c2 := (11, ρ, [(1, ρ 0)], L, (g_up (g_up g (ρ 0).toNat 0 0) (ρ 0).toNat 1 (-1)))) rfl
  obtain ⟨n2, c', e2, h2, h3⟩ := g_step_un noX3 (i := .new 22) (len := 3) (jI_X3_readTape 11 _ rfl) (gnrN _) h1
  obtain ⟨q, ci, N, C, T, ty0, d, q1, q2, q3, q4, d1, d2, d3, hc⟩ := h2
  subst hc
  exact ⟨n2, q, d, by omega, ⟨q1, q2, q3, q4⟩, ⟨ci, N, C, T, ty0, d1, d2, d3⟩, h3⟩
theorem bk_X3_readTape_14 {ax : zAx} {CE : g_E} {n : Nat} {ρ : Nat → Int} {s0 : Int} {s1 : Int} {L : List Nat} {g : Nat → Nat → Int} {r : Option g_V} {h : g_H} (hr : g_run RX3 ax CE cX3_readTape n (14, ρ, [(1, s0), (1, s1)], L, g) r h) : ∃ n' r1 h1', n' < n ∧ CE yX7_init cX7_init [(0, s0)] (L, g) r1 h1' ∧ g_run RX3 ax CE cX3_readTape n' (18, ρ, g_push r1 [(1, s0), (1, s1)], h1') r h := by
  obtain ⟨n1, e, h1⟩ := g_blk_ok noX3 jI_X3_readTape tab_X3 1 n hr (c2 := (15, ρ, [(1, s0), (1, s0), (1, s1)], L, g)) rfl
  obtain ⟨n2, c', e2, h2, h3⟩ := g_step_un noX3 (i := .invokespecial 24) (len := 3) (jI_X3_readTape 15 _ rfl) (gnrI _) h1
  obtain ⟨r1, h1', hx, hc⟩ := g_ctor_un sp_X3_24 cd_X7_init [] [(1, s0), (1, s1)] s0 pn_X7_init (by decide) rfl h2
  subst hc
  exact ⟨n2, r1, h1', by omega, hx, h3⟩
theorem bk_X3_readTape_18 {ax : zAx} {CE : g_E} {n : Nat} {ρ : Nat → Int} {s0 : Int} {s1 : Int} {L : List Nat} {g : Nat → Nat → Int} {r : Option g_V} {h : g_H} (hr : g_run RX3 ax CE cX3_readTape n (18, ρ, [(1, s0), (1, s1)], L, g) r h) : ∃ n' r1 h1', n' < n ∧ CE yX6_findTokens cX6_findTokens [(0, (g_up g s1.toNat 3 s0) (ρ 0).toNat 2)] (L, (g_up g s1.toNat 3 s0)) r1 h1' ∧ g_run RX3 ax CE cX3_readTape n' (28, ρ, g_push r1 [], h1') r h := by
  obtain ⟨n1, e, h1⟩ := g_blk_ok noX3 jI_X3_readTape tab_X3 3 n hr (c2 := (25, ρ, [(1, (g_up g s1.toNat 3 s0) (ρ 0).toNat 2)], L, (g_up g s1.toNat 3 s0))) rfl
  obtain ⟨n2, c', e2, h2, h3⟩ := g_step_un noX3 (i := .invokevirtual 29) (len := 3) (jI_X3_readTape 25 _ rfl) (gnrV _) h1
  obtain ⟨r1, h1', hx, hc⟩ := g_virt_un lk_X3 nat_all lX3_ok (idx := 29) (mi := 259) (ci := 6) (na := 1) rfl (by decide) mq_X6_findTokens [] [] ((g_up g s1.toNat 3 s0) (ρ 0).toNat 2) rfl rfl h2
  subst hc
  exact ⟨n2, r1, h1', by omega, hx, h3⟩
theorem bk_X3_readTape_28 {ax : zAx} {CE : g_E} {n : Nat} {ρ : Nat → Int} {L : List Nat} {g : Nat → Nat → Int} {r : Option g_V} {h : g_H} (hr : g_run RX3 ax CE cX3_readTape n (28, ρ, [], L, g) r h) : ∃ n', n' < n ∧ g_run RX3 ax CE cX3_readTape n' (48, (va_up ρ 1 0), [], L, (g_up (g_up g (ρ 0).toNat 5 0) (ρ 0).toNat 6 ((g_up g (ρ 0).toNat 5 0) ((g_up g (ρ 0).toNat 5 0) ((g_up g (ρ 0).toNat 5 0) (ρ 0).toNat 2).toNat 2).toNat 0))) r h := by
  obtain ⟨n1, e, h1⟩ := g_blk_ok noX3 jI_X3_readTape tab_X3 12 n hr (c2 := (48, (va_up ρ 1 0), [], L, (g_up (g_up g (ρ 0).toNat 5 0) (ρ 0).toNat 6 ((g_up g (ρ 0).toNat 5 0) ((g_up g (ρ 0).toNat 5 0) ((g_up g (ρ 0).toNat 5 0) (ρ 0).toNat 2).toNat 2).toNat 0)))) rfl
  exact ⟨n1, by omega, h1⟩
theorem bk_X3_readTape_48 {ax : zAx} {CE : g_E} {n : Nat} {ρ : Nat → Int} {L : List Nat} {g : Nat → Nat → Int} {r : Option g_V} {h : g_H} (hr : g_run RX3 ax CE cX3_readTape n (48, ρ, [], L, g) r h) : ∃ n', n' < n ∧ ((24 < ρ 1 ∧ g_run RX3 ax CE cX3_readTape n' (81, ρ, [], L, g) r h) ∨ (¬ (24 < ρ 1) ∧ g_run RX3 ax CE cX3_readTape n' (54, ρ, [], L, g) r h)) := by
  obtain ⟨n1, e, h1⟩ := g_blk_ok noX3 jI_X3_readTape tab_X3 3 n hr (c2 := (if 24 < ρ 1 then 81 else 54, ρ, [], L, g)) rfl
  refine ⟨n1, by omega, ?_⟩
  by_cases hc : 24 < ρ 1
  · exact Or.inl ⟨hc, by rw [if_pos hc] at h1; exact h1⟩
  · exact Or.inr ⟨hc, by rw [if_neg hc] at h1; exact h1⟩
theorem bk_X3_readTape_54 {ax : zAx} {CE : g_E} {n : Nat} {ρ : Nat → Int} {L : List Nat} {g : Nat → Nat → Int} {r : Option g_V} {h : g_H} (hr : g_run RX3 ax CE cX3_readTape n (54, ρ, [], L, g) r h) : ∃ n', n' < n ∧ ((g (ρ 0).toNat 0 = 0 ∧ g_run RX3 ax CE cX3_readTape n' (61, ρ, [], L, g) r h) ∨ (¬ (g (ρ 0).toNat 0 = 0) ∧ g_run RX3 ax CE cX3_readTape n' (81, ρ, [], L, g) r h)) := by
  obtain ⟨n1, e, h1⟩ := g_blk_ok noX3 jI_X3_readTape tab_X3 3 n hr (c2 := (if g (ρ 0).toNat 0 = 0 then 61 else 81, ρ, [], L, g)) rfl
  refine ⟨n1, by omega, ?_⟩
  by_cases hc : g (ρ 0).toNat 0 = 0
  · exact Or.inl ⟨hc, by rw [if_pos hc] at h1; exact h1⟩
  · exact Or.inr ⟨hc, by rw [if_neg hc] at h1; exact h1⟩
theorem bk_X3_readTape_61 {ax : zAx} {CE : g_E} {n : Nat} {ρ : Nat → Int} {L : List Nat} {g : Nat → Nat → Int} {r : Option g_V} {h : g_H} (hr : g_run RX3 ax CE cX3_readTape n (61, ρ, [], L, g) r h) : ∃ n', n' < n ∧ ((g (ρ 0).toNat 6 = 54 ∧ g_run RX3 ax CE cX3_readTape n' (81, ρ, [], L, g) r h) ∨ (¬ (g (ρ 0).toNat 6 = 54) ∧ g_run RX3 ax CE cX3_readTape n' (70, ρ, [], L, g) r h)) := by
  obtain ⟨n1, e, h1⟩ := g_blk_ok noX3 jI_X3_readTape tab_X3 4 n hr (c2 := (if g (ρ 0).toNat 6 = 54 then 81 else 70, ρ, [], L, g)) rfl
  refine ⟨n1, by omega, ?_⟩
  by_cases hc : g (ρ 0).toNat 6 = 54
  · exact Or.inl ⟨hc, by rw [if_pos hc] at h1; exact h1⟩
  · exact Or.inr ⟨hc, by rw [if_neg hc] at h1; exact h1⟩
theorem bk_X3_readTape_70 {ax : zAx} {CE : g_E} {n : Nat} {ρ : Nat → Int} {L : List Nat} {g : Nat → Nat → Int} {r : Option g_V} {h : g_H} (hr : g_run RX3 ax CE cX3_readTape n (70, ρ, [], L, g) r h) : ∃ n' r1 h1', n' < n ∧ CE yX3_readClause cX3_readClause [(0, ρ 0), (1, ρ 1)] (L, g) r1 h1' ∧ g_run RX3 ax CE cX3_readTape n' (75, ρ, g_push r1 [], h1') r h := by
  obtain ⟨n1, e, h1⟩ := g_blk_ok noX3 jI_X3_readTape tab_X3 2 n hr (c2 := (72, ρ, [(1, ρ 1), (1, ρ 0)], L, g)) rfl
  obtain ⟨n2, c', e2, h2, h3⟩ := g_step_un noX3 (i := .invokevirtual 43) (len := 3) (jI_X3_readTape 72 _ rfl) (gnrV _) h1
  obtain ⟨r1, h1', hx, hc⟩ := g_virt_un lk_X3 nat_all lX3_ok (idx := 43) (mi := 232) (ci := 3) (na := 2) rfl (by decide) mq_X3_readClause [(1, ρ 1)] [] (ρ 0) rfl rfl h2
  subst hc
  exact ⟨n2, r1, h1', by omega, hx, h3⟩
theorem bk_X3_readTape_75 {ax : zAx} {CE : g_E} {n : Nat} {ρ : Nat → Int} {L : List Nat} {g : Nat → Nat → Int} {r : Option g_V} {h : g_H} (hr : g_run RX3 ax CE cX3_readTape n (75, ρ, [], L, g) r h) : ∃ n', n' < n ∧ g_run RX3 ax CE cX3_readTape n' (48, (va_up ρ 1 (g_i (ρ 1 + 1))), [], L, g) r h := by
  obtain ⟨n1, e, h1⟩ := g_blk_ok noX3 jI_X3_readTape tab_X3 2 n hr (c2 := (48, (va_up ρ 1 (g_i (ρ 1 + 1))), [], L, g)) rfl
  exact ⟨n1, by omega, h1⟩
theorem bk_X3_readTape_81 {ax : zAx} {CE : g_E} {n : Nat} {ρ : Nat → Int} {L : List Nat} {g : Nat → Nat → Int} {r : Option g_V} {h : g_H} (hr : g_run RX3 ax CE cX3_readTape n (81, ρ, [], L, g) r h) : ∃ n', n' < n ∧ (((g_up g (g (ρ 0).toNat 2).toNat 0 0) (ρ 0).toNat 0 = 0 ∧ g_run RX3 ax CE cX3_readTape n' (96, ρ, [], L, (g_up g (g (ρ 0).toNat 2).toNat 0 0)) r h) ∨ (¬ ((g_up g (g (ρ 0).toNat 2).toNat 0 0) (ρ 0).toNat 0 = 0) ∧ g_run RX3 ax CE cX3_readTape n' (103, ρ, [], L, (g_up g (g (ρ 0).toNat 2).toNat 0 0)) r h)) := by
  obtain ⟨n1, e, h1⟩ := g_blk_ok noX3 jI_X3_readTape tab_X3 7 n hr (c2 := (if (g_up g (g (ρ 0).toNat 2).toNat 0 0) (ρ 0).toNat 0 = 0 then 96 else 103, ρ, [], L, (g_up g (g (ρ 0).toNat 2).toNat 0 0))) rfl
  refine ⟨n1, by omega, ?_⟩
  by_cases hc : (g_up g (g (ρ 0).toNat 2).toNat 0 0) (ρ 0).toNat 0 = 0
  · exact Or.inl ⟨hc, by rw [if_pos hc] at h1; exact h1⟩
  · exact Or.inr ⟨hc, by rw [if_neg hc] at h1; exact h1⟩
theorem bk_X3_readTape_96 {ax : zAx} {CE : g_E} {n : Nat} {ρ : Nat → Int} {L : List Nat} {g : Nat → Nat → Int} {r : Option g_V} {h : g_H} (hr : g_run RX3 ax CE cX3_readTape n (96, ρ, [], L, g) r h) : ∃ n', n' < n ∧ g_run RX3 ax CE cX3_readTape n' (104, ρ, [(1, g (ρ 0).toNat 3)], L, g) r h := by
  obtain ⟨n1, e, h1⟩ := g_blk_ok noX3 jI_X3_readTape tab_X3 3 n hr (c2 := (104, ρ, [(1, g (ρ 0).toNat 3)], L, g)) rfl
  exact ⟨n1, by omega, h1⟩
theorem bk_X3_readTape_103 {ax : zAx} {CE : g_E} {n : Nat} {ρ : Nat → Int} {L : List Nat} {g : Nat → Nat → Int} {r : Option g_V} {h : g_H} (hr : g_run RX3 ax CE cX3_readTape n (103, ρ, [], L, g) r h) : ∃ n', n' < n ∧ g_run RX3 ax CE cX3_readTape n' (104, ρ, [(1, (-1))], L, g) r h := by
  obtain ⟨n1, e, h1⟩ := g_blk_ok noX3 jI_X3_readTape tab_X3 1 n hr (c2 := (104, ρ, [(1, (-1))], L, g)) rfl
  exact ⟨n1, by omega, h1⟩
theorem bk_X3_readTape_104 {ax : zAx} {CE : g_E} {n : Nat} {ρ : Nat → Int} {s0 : Int} {L : List Nat} {g : Nat → Nat → Int} {r : Option g_V} {h : g_H} (hr : g_run RX3 ax CE cX3_readTape n (104, ρ, [(1, s0)], L, g) r h) : r = some (1, s0) ∧ h = (L, g) := by
  obtain ⟨n1, e, h1⟩ := g_blk_ok noX3 jI_X3_readTape tab_X3 0 n hr (c2 := (104, ρ, [(1, s0)], L, g)) rfl
  exact g_ret_un noX3 (i := .areturn) (jI_X3_readTape 104 _ rfl) (by decide) h1
theorem pt_X3_readTape_0 {ax : zAx} {CE : g_E} (hCE : ∀ y cc as h r h', CE y cc as h r h' → g_ex ax y cc as h r h') {n : Nat} {ρ : Nat → Int} {L : List Nat} {g : Nat → Nat → Int} {r : Option g_V} {h : g_H} (h0 : g_run RX3 ax CE cX3_readTape n (0, ρ, [], L, g) r h) : (∃ (n' q : Nat) (d : Nat → Int), n' < n ∧ (q ∉ L ∧ q ≠ ax.2.2 ∧ q ≠ ax.1 0 ∧ q ≠ ax.1 1) ∧ g_nd RX3 22 d ∧ g_run RX3 ax CE cX3_readTape n' (14, ρ, [(1, (q : Int)), (1, (ρ 0))], L ++ [q], g_upr (g_up (g_up g (ρ 0).toNat 0 0) (ρ 0).toNat 1 (-1)) q d) r h) := by
  obtain ⟨n1, q1, d1, l1, e1, f1, h1⟩ := bk_X3_readTape_0 h0
  exact ⟨n1, q1, d1, by omega, e1, f1, h1⟩
theorem pt_X3_readTape_48 {ax : zAx} {CE : g_E} (hCE : ∀ y cc as h r h', CE y cc as h r h' → g_ex ax y cc as h r h') {n : Nat} {ρ : Nat → Int} {L : List Nat} {g : Nat → Nat → Int} {r : Option g_V} {h : g_H} (h0 : g_run RX3 ax CE cX3_readTape n (48, ρ, [], L, g) r h) : ((24 < (ρ 1) ∧ (((g_up g (g (ρ 0).toNat 2).toNat 0 0) (ρ 0).toNat 0 = 0 ∧ (r = some (1, g (ρ 0).toNat 3) ∧ h = (L, (g_up g (g (ρ 0).toNat 2).toNat 0 0)))) ∨ (¬ ((g_up g (g (ρ 0).toNat 2).toNat 0 0) (ρ 0).toNat 0 = 0) ∧ (r = some (1, (-1)) ∧ h = (L, (g_up g (g (ρ 0).toNat 2).toNat 0 0)))))) ∨ (¬ (24 < (ρ 1)) ∧ ((g (ρ 0).toNat 0 = 0 ∧ ((g (ρ 0).toNat 6 = 54 ∧ (((g_up g (g (ρ 0).toNat 2).toNat 0 0) (ρ 0).toNat 0 = 0 ∧ (r = some (1, g (ρ 0).toNat 3) ∧ h = (L, (g_up g (g (ρ 0).toNat 2).toNat 0 0)))) ∨ (¬ ((g_up g (g (ρ 0).toNat 2).toNat 0 0) (ρ 0).toNat 0 = 0) ∧ (r = some (1, (-1)) ∧ h = (L, (g_up g (g (ρ 0).toNat 2).toNat 0 0)))))) ∨ (¬ (g (ρ 0).toNat 6 = 54) ∧ (∃ n' r1 h1', n' < n ∧ CE yX3_readClause cX3_readClause [(0, (ρ 0)), (1, (ρ 1))] (L, g) r1 h1' ∧ g_run RX3 ax CE cX3_readTape n' (75, ρ, g_push r1 [], h1') r h)))) ∨ (¬ (g (ρ 0).toNat 0 = 0) ∧ (((g_up g (g (ρ 0).toNat 2).toNat 0 0) (ρ 0).toNat 0 = 0 ∧ (r = some (1, g (ρ 0).toNat 3) ∧ h = (L, (g_up g (g (ρ 0).toNat 2).toNat 0 0)))) ∨ (¬ ((g_up g (g (ρ 0).toNat 2).toNat 0 0) (ρ 0).toNat 0 = 0) ∧ (r = some (1, (-1)) ∧ h = (L, (g_up g (g (ρ 0).toNat 2).toNat 0 0))))))))) := by
  obtain ⟨n1, l1, h1⟩ := bk_X3_readTape_48 h0
  rcases h1 with ⟨c1, h1⟩ | ⟨c1, h1⟩
  · refine Or.inl ⟨c1, ?_⟩
    obtain ⟨n2, l2, h2⟩ := bk_X3_readTape_81 h1
    rcases h2 with ⟨c2, h2⟩ | ⟨c2, h2⟩
    · refine Or.inl ⟨c2, ?_⟩
      obtain ⟨n3, l3, h3⟩ := bk_X3_readTape_96 h2
      obtain ⟨e4, d4⟩ := bk_X3_readTape_104 h3
      exact ⟨e4, d4⟩
    · refine Or.inr ⟨c2, ?_⟩
      obtain ⟨n5, l5, h5⟩ := bk_X3_readTape_103 h2
      obtain ⟨e6, d6⟩ := bk_X3_readTape_104 h5
      exact ⟨e6, d6⟩
  · refine Or.inr ⟨c1, ?_⟩
    obtain ⟨n7, l7, h7⟩ := bk_X3_readTape_54 h1
    rcases h7 with ⟨c7, h7⟩ | ⟨c7, h7⟩
    · refine Or.inl ⟨c7, ?_⟩
      obtain ⟨n8, l8, h8⟩ := bk_X3_readTape_61 h7
      rcases h8 with ⟨c8, h8⟩ | ⟨c8, h8⟩
      · refine Or.inl ⟨c8, ?_⟩
        obtain ⟨n9, l9, h9⟩ := bk_X3_readTape_81 h8
        rcases h9 with ⟨c9, h9⟩ | ⟨c9, h9⟩
        · refine Or.inl ⟨c9, ?_⟩
          obtain ⟨n10, l10, h10⟩ := bk_X3_readTape_96 h9
          obtain ⟨e11, d11⟩ := bk_X3_readTape_104 h10
          exact ⟨e11, d11⟩
        · refine Or.inr ⟨c9, ?_⟩
          obtain ⟨n12, l12, h12⟩ := bk_X3_readTape_103 h9
          obtain ⟨e13, d13⟩ := bk_X3_readTape_104 h12
          exact ⟨e13, d13⟩
      · refine Or.inr ⟨c8, ?_⟩
        obtain ⟨n14, r14, k14, l14, x14, h14⟩ := bk_X3_readTape_70 h8
        exact ⟨n14, r14, k14, by omega, x14, h14⟩
    · refine Or.inr ⟨c7, ?_⟩
      obtain ⟨n15, l15, h15⟩ := bk_X3_readTape_81 h7
      rcases h15 with ⟨c15, h15⟩ | ⟨c15, h15⟩
      · refine Or.inl ⟨c15, ?_⟩
        obtain ⟨n16, l16, h16⟩ := bk_X3_readTape_96 h15
        obtain ⟨e17, d17⟩ := bk_X3_readTape_104 h16
        exact ⟨e17, d17⟩
      · refine Or.inr ⟨c15, ?_⟩
        obtain ⟨n18, l18, h18⟩ := bk_X3_readTape_103 h15
        obtain ⟨e19, d19⟩ := bk_X3_readTape_104 h18
        exact ⟨e19, d19⟩
theorem pt_X3_readTape_14 {ax : zAx} {CE : g_E} (hCE : ∀ y cc as h r h', CE y cc as h r h' → g_ex ax y cc as h r h') {n : Nat} {ρ : Nat → Int} {s0 : Int} {s1 : Int} {L : List Nat} {g : Nat → Nat → Int} {r : Option g_V} {h : g_H} (h0 : g_run RX3 ax CE cX3_readTape n (14, ρ, [(1, s0), (1, s1)], L, g) r h) : (∃ n' r1 h1', n' < n ∧ CE yX7_init cX7_init [(0, s0)] (L, g) r1 h1' ∧ g_run RX3 ax CE cX3_readTape n' (18, ρ, g_push r1 [(1, s0), (1, s1)], h1') r h) := by
  obtain ⟨n1, r1, k1, l1, x1, h1⟩ := bk_X3_readTape_14 h0
  exact ⟨n1, r1, k1, by omega, x1, h1⟩
theorem pt_X3_readTape_75 {ax : zAx} {CE : g_E} (hCE : ∀ y cc as h r h', CE y cc as h r h' → g_ex ax y cc as h r h') {n : Nat} {ρ : Nat → Int} {L : List Nat} {g : Nat → Nat → Int} {r : Option g_V} {h : g_H} (h0 : g_run RX3 ax CE cX3_readTape n (75, ρ, [], L, g) r h) : (∃ n', n' < n ∧ g_run RX3 ax CE cX3_readTape n' (48, (va_up ρ 1 (g_i ((ρ 1) + 1))), [], L, g) r h) := by
  obtain ⟨n1, l1, h1⟩ := bk_X3_readTape_75 h0
  exact ⟨_, by omega, h1⟩
theorem pt_X3_readTape_18 {ax : zAx} {CE : g_E} (hCE : ∀ y cc as h r h', CE y cc as h r h' → g_ex ax y cc as h r h') {n : Nat} {ρ : Nat → Int} {s0 : Int} {s1 : Int} {L : List Nat} {g : Nat → Nat → Int} {r : Option g_V} {h : g_H} (h0 : g_run RX3 ax CE cX3_readTape n (18, ρ, [(1, s0), (1, s1)], L, g) r h) : (∃ n' r1 h1', n' < n ∧ CE yX6_findTokens cX6_findTokens [(0, g (ρ 0).toNat 2)] (L, (g_up g s1.toNat 3 s0)) r1 h1' ∧ g_run RX3 ax CE cX3_readTape n' (28, ρ, g_push r1 [], h1') r h) := by
  obtain ⟨n1, r1, k1, l1, x1, h1⟩ := bk_X3_readTape_18 h0
  exact ⟨n1, r1, k1, by omega, x1, h1⟩
theorem pt_X3_readTape_28 {ax : zAx} {CE : g_E} (hCE : ∀ y cc as h r h', CE y cc as h r h' → g_ex ax y cc as h r h') {n : Nat} {ρ : Nat → Int} {L : List Nat} {g : Nat → Nat → Int} {r : Option g_V} {h : g_H} (h0 : g_run RX3 ax CE cX3_readTape n (28, ρ, [], L, g) r h) : (∃ n', n' < n ∧ g_run RX3 ax CE cX3_readTape n' (48, (va_up ρ 1 0), [], L, (g_up (g_up g (ρ 0).toNat 5 0) (ρ 0).toNat 6 (g (g (g (ρ 0).toNat 2).toNat 2).toNat 0))) r h) := by
  obtain ⟨n1, l1, h1⟩ := bk_X3_readTape_28 h0
  exact ⟨_, by omega, h1⟩

theorem jI_X3_readClause : ∀ (pc : Nat) (q : Instr × Nat), lkp iX3_readClause pc = some q → decode cX3_readClause pc = .ok q := fun pc q hq => jX3_readClause (pc, q) (lkp_in iX3_readClause hq)
theorem bk_X3_readClause_0 {ax : zAx} {CE : g_E} {n : Nat} {ρ : Nat → Int} {L : List Nat} {g : Nat → Nat → Int} {r : Option g_V} {h : g_H} (hr : g_run RX3 ax CE cX3_readClause n (0, ρ, [], L, g) r h) : ∃ n', n' < n ∧ ((g (ρ 0).toNat 6 ≤ 13 ∧ g_run RX3 ax CE cX3_readClause n' (19, (va_up ρ 2 (g (ρ 0).toNat 6)), [], L, g) r h) ∨ (¬ (g (ρ 0).toNat 6 ≤ 13) ∧ g_run RX3 ax CE cX3_readClause n' (11, (va_up ρ 2 (g (ρ 0).toNat 6)), [], L, g) r h)) := by
  obtain ⟨n1, e, h1⟩ := g_blk_ok noX3 jI_X3_readClause tab_X3 6 n hr (c2 := (if g (ρ 0).toNat 6 ≤ 13 then 19 else 11, (va_up ρ 2 (g (ρ 0).toNat 6)), [], L, g)) rfl
  refine ⟨n1, by omega, ?_⟩
  by_cases hc : g (ρ 0).toNat 6 ≤ 13
  · exact Or.inl ⟨hc, by rw [if_pos hc] at h1; exact h1⟩
  · exact Or.inr ⟨hc, by rw [if_neg hc] at h1; exact h1⟩
theorem bk_X3_readClause_11 {ax : zAx} {CE : g_E} {n : Nat} {ρ : Nat → Int} {L : List Nat} {g : Nat → Nat → Int} {r : Option g_V} {h : g_H} (hr : g_run RX3 ax CE cX3_readClause n (11, ρ, [], L, g) r h) : ∃ n' r1 h1', n' < n ∧ CE yX3_fail cX3_fail [(0, ρ 0), (1, 1)] (L, g) r1 h1' ∧ g_run RX3 ax CE cX3_readClause n' (16, ρ, g_push r1 [], h1') r h := by
  obtain ⟨n1, e, h1⟩ := g_blk_ok noX3 jI_X3_readClause tab_X3 2 n hr (c2 := (13, ρ, [(1, 1), (1, ρ 0)], L, g)) rfl
  obtain ⟨n2, c', e2, h2, h3⟩ := g_step_un noX3 (i := .invokevirtual 55) (len := 3) (jI_X3_readClause 13 _ rfl) (gnrV _) h1
  obtain ⟨r1, h1', hx, hc⟩ := g_virt_un lk_X3 nat_all lX3_ok (idx := 55) (mi := 226) (ci := 3) (na := 2) rfl (by decide) mq_X3_fail [(1, 1)] [] (ρ 0) rfl rfl h2
  subst hc
  exact ⟨n2, r1, h1', by omega, hx, h3⟩
theorem bk_X3_readClause_16 {ax : zAx} {CE : g_E} {n : Nat} {ρ : Nat → Int} {L : List Nat} {g : Nat → Nat → Int} {r : Option g_V} {h : g_H} (hr : g_run RX3 ax CE cX3_readClause n (16, ρ, [], L, g) r h) : ∃ n', n' < n ∧ g_run RX3 ax CE cX3_readClause n' (109, ρ, [], L, g) r h := by
  obtain ⟨n1, e, h1⟩ := g_blk_ok noX3 jI_X3_readClause tab_X3 1 n hr (c2 := (109, ρ, [], L, g)) rfl
  exact ⟨n1, by omega, h1⟩
theorem bk_X3_readClause_19 {ax : zAx} {CE : g_E} {n : Nat} {ρ : Nat → Int} {L : List Nat} {g : Nat → Nat → Int} {r : Option g_V} {h : g_H} (hr : g_run RX3 ax CE cX3_readClause n (19, ρ, [], L, g) r h) : ∃ n', n' < n ∧ ((5 ≤ ρ 2 ∧ g_run RX3 ax CE cX3_readClause n' (43, ρ, [], L, g) r h) ∨ (¬ (5 ≤ ρ 2) ∧ g_run RX3 ax CE cX3_readClause n' (24, ρ, [], L, g) r h)) := by
  obtain ⟨n1, e, h1⟩ := g_blk_ok noX3 jI_X3_readClause tab_X3 3 n hr (c2 := (if 5 ≤ ρ 2 then 43 else 24, ρ, [], L, g)) rfl
  refine ⟨n1, by omega, ?_⟩
  by_cases hc : 5 ≤ ρ 2
  · exact Or.inl ⟨hc, by rw [if_pos hc] at h1; exact h1⟩
  · exact Or.inr ⟨hc, by rw [if_neg hc] at h1; exact h1⟩
theorem bk_X3_readClause_24 {ax : zAx} {CE : g_E} {n : Nat} {ρ : Nat → Int} {L : List Nat} {g : Nat → Nat → Int} {r : Option g_V} {h : g_H} (hr : g_run RX3 ax CE cX3_readClause n (24, ρ, [], L, g) r h) : ∃ n' r1 h1', n' < n ∧ CE yX7_hasLaw cX7_hasLaw [(0, g (ρ 0).toNat 3), (1, ρ 2)] (L, g) r1 h1' ∧ g_run RX3 ax CE cX3_readClause n' (32, ρ, g_push r1 [], h1') r h := by
  obtain ⟨n1, e, h1⟩ := g_blk_ok noX3 jI_X3_readClause tab_X3 3 n hr (c2 := (29, ρ, [(1, ρ 2), (1, g (ρ 0).toNat 3)], L, g)) rfl
  obtain ⟨n2, c', e2, h2, h3⟩ := g_step_un noX3 (i := .invokevirtual 58) (len := 3) (jI_X3_readClause 29 _ rfl) (gnrV _) h1
  obtain ⟨r1, h1', hx, hc⟩ := g_virt_un lk_X3 nat_all lX3_ok (idx := 58) (mi := 263) (ci := 7) (na := 2) rfl (by decide) mq_X7_hasLaw [(1, ρ 2)] [] (g (ρ 0).toNat 3) rfl rfl h2
  subst hc
  exact ⟨n2, r1, h1', by omega, hx, h3⟩
theorem bk_X3_readClause_32 {ax : zAx} {CE : g_E} {n : Nat} {ρ : Nat → Int} {s0 : Int} {L : List Nat} {g : Nat → Nat → Int} {r : Option g_V} {h : g_H} (hr : g_run RX3 ax CE cX3_readClause n (32, ρ, [(1, s0)], L, g) r h) : ∃ n', n' < n ∧ ((s0 = 0 ∧ g_run RX3 ax CE cX3_readClause n' (43, ρ, [], L, g) r h) ∨ (¬ (s0 = 0) ∧ g_run RX3 ax CE cX3_readClause n' (35, ρ, [], L, g) r h)) := by
  obtain ⟨n1, e, h1⟩ := g_blk_ok noX3 jI_X3_readClause tab_X3 1 n hr (c2 := (if s0 = 0 then 43 else 35, ρ, [], L, g)) rfl
  refine ⟨n1, by omega, ?_⟩
  by_cases hc : s0 = 0
  · exact Or.inl ⟨hc, by rw [if_pos hc] at h1; exact h1⟩
  · exact Or.inr ⟨hc, by rw [if_neg hc] at h1; exact h1⟩
theorem bk_X3_readClause_35 {ax : zAx} {CE : g_E} {n : Nat} {ρ : Nat → Int} {L : List Nat} {g : Nat → Nat → Int} {r : Option g_V} {h : g_H} (hr : g_run RX3 ax CE cX3_readClause n (35, ρ, [], L, g) r h) : ∃ n' r1 h1', n' < n ∧ CE yX3_fail cX3_fail [(0, ρ 0), (1, 4)] (L, g) r1 h1' ∧ g_run RX3 ax CE cX3_readClause n' (40, ρ, g_push r1 [], h1') r h := by
  obtain ⟨n1, e, h1⟩ := g_blk_ok noX3 jI_X3_readClause tab_X3 2 n hr (c2 := (37, ρ, [(1, 4), (1, ρ 0)], L, g)) rfl
  obtain ⟨n2, c', e2, h2, h3⟩ := g_step_un noX3 (i := .invokevirtual 55) (len := 3) (jI_X3_readClause 37 _ rfl) (gnrV _) h1
  obtain ⟨r1, h1', hx, hc⟩ := g_virt_un lk_X3 nat_all lX3_ok (idx := 55) (mi := 226) (ci := 3) (na := 2) rfl (by decide) mq_X3_fail [(1, 4)] [] (ρ 0) rfl rfl h2
  subst hc
  exact ⟨n2, r1, h1', by omega, hx, h3⟩
theorem bk_X3_readClause_40 {ax : zAx} {CE : g_E} {n : Nat} {ρ : Nat → Int} {L : List Nat} {g : Nat → Nat → Int} {r : Option g_V} {h : g_H} (hr : g_run RX3 ax CE cX3_readClause n (40, ρ, [], L, g) r h) : ∃ n', n' < n ∧ g_run RX3 ax CE cX3_readClause n' (109, ρ, [], L, g) r h := by
  obtain ⟨n1, e, h1⟩ := g_blk_ok noX3 jI_X3_readClause tab_X3 1 n hr (c2 := (109, ρ, [], L, g)) rfl
  exact ⟨n1, by omega, h1⟩
theorem bk_X3_readClause_43 {ax : zAx} {CE : g_E} {n : Nat} {ρ : Nat → Int} {L : List Nat} {g : Nat → Nat → Int} {r : Option g_V} {h : g_H} (hr : g_run RX3 ax CE cX3_readClause n (43, ρ, [], L, g) r h) : ∃ n', n' < n ∧ ((ρ 1 < 24 ∧ g_run RX3 ax CE cX3_readClause n' (58, ρ, [], L, g) r h) ∨ (¬ (ρ 1 < 24) ∧ g_run RX3 ax CE cX3_readClause n' (49, ρ, [], L, g) r h)) := by
  obtain ⟨n1, e, h1⟩ := g_blk_ok noX3 jI_X3_readClause tab_X3 3 n hr (c2 := (if ρ 1 < 24 then 58 else 49, ρ, [], L, g)) rfl
  refine ⟨n1, by omega, ?_⟩
  by_cases hc : ρ 1 < 24
  · exact Or.inl ⟨hc, by rw [if_pos hc] at h1; exact h1⟩
  · exact Or.inr ⟨hc, by rw [if_neg hc] at h1; exact h1⟩
theorem bk_X3_readClause_49 {ax : zAx} {CE : g_E} {n : Nat} {ρ : Nat → Int} {L : List Nat} {g : Nat → Nat → Int} {r : Option g_V} {h : g_H} (hr : g_run RX3 ax CE cX3_readClause n (49, ρ, [], L, g) r h) : ∃ n' r1 h1', n' < n ∧ CE yX3_fail cX3_fail [(0, ρ 0), (1, 6)] (L, g) r1 h1' ∧ g_run RX3 ax CE cX3_readClause n' (55, ρ, g_push r1 [], h1') r h := by
  obtain ⟨n1, e, h1⟩ := g_blk_ok noX3 jI_X3_readClause tab_X3 2 n hr (c2 := (52, ρ, [(1, 6), (1, ρ 0)], L, g)) rfl
  obtain ⟨n2, c', e2, h2, h3⟩ := g_step_un noX3 (i := .invokevirtual 55) (len := 3) (jI_X3_readClause 52 _ rfl) (gnrV _) h1
  obtain ⟨r1, h1', hx, hc⟩ := g_virt_un lk_X3 nat_all lX3_ok (idx := 55) (mi := 226) (ci := 3) (na := 2) rfl (by decide) mq_X3_fail [(1, 6)] [] (ρ 0) rfl rfl h2
  subst hc
  exact ⟨n2, r1, h1', by omega, hx, h3⟩
theorem bk_X3_readClause_55 {ax : zAx} {CE : g_E} {n : Nat} {ρ : Nat → Int} {L : List Nat} {g : Nat → Nat → Int} {r : Option g_V} {h : g_H} (hr : g_run RX3 ax CE cX3_readClause n (55, ρ, [], L, g) r h) : ∃ n', n' < n ∧ g_run RX3 ax CE cX3_readClause n' (109, ρ, [], L, g) r h := by
  obtain ⟨n1, e, h1⟩ := g_blk_ok noX3 jI_X3_readClause tab_X3 1 n hr (c2 := (109, ρ, [], L, g)) rfl
  exact ⟨n1, by omega, h1⟩
theorem bk_X3_readClause_58 {ax : zAx} {CE : g_E} {n : Nat} {ρ : Nat → Int} {L : List Nat} {g : Nat → Nat → Int} {r : Option g_V} {h : g_H} (hr : g_run RX3 ax CE cX3_readClause n (58, ρ, [], L, g) r h) : ∃ n' r1 h1', n' < n ∧ CE yX3_advance cX3_advance [(0, ρ 0)] (L, (g_up (g_up g (g (g (ρ 0).toNat 3).toNat 1).toNat (ρ 1).toNat (ρ 2)) ((g_up g (g (g (ρ 0).toNat 3).toNat 1).toNat (ρ 1).toNat (ρ 2)) (ρ 0).toNat 3).toNat 0 (g_i ((ρ 1) + 1)))) r1 h1' ∧ g_run RX3 ax CE cX3_readClause n' (82, ρ, g_push r1 [], h1') r h := by
  obtain ⟨n1, e, h1⟩ := g_blk_ok noX3 jI_X3_readClause tab_X3 13 n hr (c2 := (79, ρ, [(1, ρ 0)], L, (g_up (g_up g (g (g (ρ 0).toNat 3).toNat 1).toNat (ρ 1).toNat (ρ 2)) ((g_up g (g (g (ρ 0).toNat 3).toNat 1).toNat (ρ 1).toNat (ρ 2)) (ρ 0).toNat 3).toNat 0 (g_i ((ρ 1) + 1))))) rfl
  obtain ⟨n2, c', e2, h2, h3⟩ := g_step_un noX3 (i := .invokevirtual 68) (len := 3) (jI_X3_readClause 79 _ rfl) (gnrV _) h1
  obtain ⟨r1, h1', hx, hc⟩ := g_virt_un lk_X3 nat_all lX3_ok (idx := 68) (mi := 223) (ci := 3) (na := 1) rfl (by decide) mq_X3_advance [] [] (ρ 0) rfl rfl h2
  subst hc
  exact ⟨n2, r1, h1', by omega, hx, h3⟩
theorem bk_X3_readClause_82 {ax : zAx} {CE : g_E} {n : Nat} {ρ : Nat → Int} {L : List Nat} {g : Nat → Nat → Int} {r : Option g_V} {h : g_H} (hr : g_run RX3 ax CE cX3_readClause n (82, ρ, [], L, g) r h) : ∃ n', n' < n ∧ ((5 ≤ ρ 2 ∧ g_run RX3 ax CE cX3_readClause n' (95, ρ, [], L, g) r h) ∨ (¬ (5 ≤ ρ 2) ∧ g_run RX3 ax CE cX3_readClause n' (87, ρ, [], L, g) r h)) := by
  obtain ⟨n1, e, h1⟩ := g_blk_ok noX3 jI_X3_readClause tab_X3 3 n hr (c2 := (if 5 ≤ ρ 2 then 95 else 87, ρ, [], L, g)) rfl
  refine ⟨n1, by omega, ?_⟩
  by_cases hc : 5 ≤ ρ 2
  · exact Or.inl ⟨hc, by rw [if_pos hc] at h1; exact h1⟩
  · exact Or.inr ⟨hc, by rw [if_neg hc] at h1; exact h1⟩
theorem bk_X3_readClause_87 {ax : zAx} {CE : g_E} {n : Nat} {ρ : Nat → Int} {L : List Nat} {g : Nat → Nat → Int} {r : Option g_V} {h : g_H} (hr : g_run RX3 ax CE cX3_readClause n (87, ρ, [], L, g) r h) : ∃ n' r1 h1', n' < n ∧ CE yX3_readLaw cX3_readLaw [(0, ρ 0), (1, ρ 2)] (L, g) r1 h1' ∧ g_run RX3 ax CE cX3_readClause n' (92, ρ, g_push r1 [], h1') r h := by
  obtain ⟨n1, e, h1⟩ := g_blk_ok noX3 jI_X3_readClause tab_X3 2 n hr (c2 := (89, ρ, [(1, ρ 2), (1, ρ 0)], L, g)) rfl
  obtain ⟨n2, c', e2, h2, h3⟩ := g_step_un noX3 (i := .invokevirtual 71) (len := 3) (jI_X3_readClause 89 _ rfl) (gnrV _) h1
  obtain ⟨r1, h1', hx, hc⟩ := g_virt_un lk_X3 nat_all lX3_ok (idx := 71) (mi := 235) (ci := 3) (na := 2) rfl (by decide) mq_X3_readLaw [(1, ρ 2)] [] (ρ 0) rfl rfl h2
  subst hc
  exact ⟨n2, r1, h1', by omega, hx, h3⟩
theorem bk_X3_readClause_92 {ax : zAx} {CE : g_E} {n : Nat} {ρ : Nat → Int} {L : List Nat} {g : Nat → Nat → Int} {r : Option g_V} {h : g_H} (hr : g_run RX3 ax CE cX3_readClause n (92, ρ, [], L, g) r h) : ∃ n', n' < n ∧ g_run RX3 ax CE cX3_readClause n' (103, ρ, [], L, g) r h := by
  obtain ⟨n1, e, h1⟩ := g_blk_ok noX3 jI_X3_readClause tab_X3 1 n hr (c2 := (103, ρ, [], L, g)) rfl
  exact ⟨n1, by omega, h1⟩
theorem bk_X3_readClause_95 {ax : zAx} {CE : g_E} {n : Nat} {ρ : Nat → Int} {L : List Nat} {g : Nat → Nat → Int} {r : Option g_V} {h : g_H} (hr : g_run RX3 ax CE cX3_readClause n (95, ρ, [], L, g) r h) : ∃ n' r1 h1', n' < n ∧ CE yX3_readParts cX3_readParts [(0, ρ 0), (1, ρ 1), (2, g_i ((ρ 2) - 5))] (L, g) r1 h1' ∧ g_run RX3 ax CE cX3_readClause n' (103, ρ, g_push r1 [], h1') r h := by
  obtain ⟨n1, e, h1⟩ := g_blk_ok noX3 jI_X3_readClause tab_X3 5 n hr (c2 := (100, ρ, [(1, g_i ((ρ 2) - 5)), (1, ρ 1), (1, ρ 0)], L, g)) rfl
  obtain ⟨n2, c', e2, h2, h3⟩ := g_step_un noX3 (i := .invokevirtual 74) (len := 3) (jI_X3_readClause 100 _ rfl) (gnrV _) h1
  obtain ⟨r1, h1', hx, hc⟩ := g_virt_un lk_X3 nat_all lX3_ok (idx := 74) (mi := 238) (ci := 3) (na := 3) rfl (by decide) mq_X3_readParts [(1, ρ 1), (1, g_i ((ρ 2) - 5))] [] (ρ 0) rfl rfl h2
  subst hc
  exact ⟨n2, r1, h1', by omega, hx, h3⟩
theorem bk_X3_readClause_103 {ax : zAx} {CE : g_E} {n : Nat} {ρ : Nat → Int} {L : List Nat} {g : Nat → Nat → Int} {r : Option g_V} {h : g_H} (hr : g_run RX3 ax CE cX3_readClause n (103, ρ, [], L, g) r h) : ∃ n' r1 h1', n' < n ∧ CE yX3_expect cX3_expect [(0, ρ 0), (1, 50)] (L, g) r1 h1' ∧ g_run RX3 ax CE cX3_readClause n' (109, ρ, g_push r1 [], h1') r h := by
  obtain ⟨n1, e, h1⟩ := g_blk_ok noX3 jI_X3_readClause tab_X3 2 n hr (c2 := (106, ρ, [(1, 50), (1, ρ 0)], L, g)) rfl
  obtain ⟨n2, c', e2, h2, h3⟩ := g_step_un noX3 (i := .invokevirtual 78) (len := 3) (jI_X3_readClause 106 _ rfl) (gnrV _) h1
  obtain ⟨r1, h1', hx, hc⟩ := g_virt_un lk_X3 nat_all lX3_ok (idx := 78) (mi := 224) (ci := 3) (na := 2) rfl (by decide) mq_X3_expect [(1, 50)] [] (ρ 0) rfl rfl h2
  subst hc
  exact ⟨n2, r1, h1', by omega, hx, h3⟩
theorem bk_X3_readClause_109 {ax : zAx} {CE : g_E} {n : Nat} {ρ : Nat → Int} {L : List Nat} {g : Nat → Nat → Int} {r : Option g_V} {h : g_H} (hr : g_run RX3 ax CE cX3_readClause n (109, ρ, [], L, g) r h) : r = none ∧ h = (L, g) := by
  obtain ⟨n1, e, h1⟩ := g_blk_ok noX3 jI_X3_readClause tab_X3 0 n hr (c2 := (109, ρ, [], L, g)) rfl
  exact g_retv_un noX3 (jI_X3_readClause 109 _ rfl) h1
theorem pt_X3_readClause_0 {ax : zAx} {CE : g_E} (hCE : ∀ y cc as h r h', CE y cc as h r h' → g_ex ax y cc as h r h') {n : Nat} {ρ : Nat → Int} {L : List Nat} {g : Nat → Nat → Int} {r : Option g_V} {h : g_H} (h0 : g_run RX3 ax CE cX3_readClause n (0, ρ, [], L, g) r h) : ((g (ρ 0).toNat 6 ≤ 13 ∧ ((5 ≤ g (ρ 0).toNat 6 ∧ (((ρ 1) < 24 ∧ (∃ n' r1 h1', n' < n ∧ CE yX3_readParts cX3_readParts [(0, (ρ 0)), (1, (ρ 1)), (2, g_i ((g (ρ 0).toNat 6) - 5))] (L, (F_X3_advance (ρ 0) (g_up (g_up g (g (g (ρ 0).toNat 3).toNat 1).toNat (ρ 1).toNat (g (ρ 0).toNat 6)) ((g_up g (g (g (ρ 0).toNat 3).toNat 1).toNat (ρ 1).toNat (g (ρ 0).toNat 6)) (ρ 0).toNat 3).toNat 0 (g_i ((ρ 1) + 1))))) r1 h1' ∧ g_run RX3 ax CE cX3_readClause n' (103, (va_up ρ 2 (g (ρ 0).toNat 6)), g_push r1 [], h1') r h)) ∨ (¬ ((ρ 1) < 24) ∧ (r = none ∧ h = (L, (F_X3_fail (ρ 0) 6 g)))))) ∨ (¬ (5 ≤ g (ρ 0).toNat 6) ∧ ((F_X7_hasLaw (g (ρ 0).toNat 3) (g (ρ 0).toNat 6) g = 0 ∧ (((ρ 1) < 24 ∧ (∃ n' r1 h1', n' < n ∧ CE yX3_readLaw cX3_readLaw [(0, (ρ 0)), (1, g (ρ 0).toNat 6)] (L, (F_X3_advance (ρ 0) (g_up (g_up g (g (g (ρ 0).toNat 3).toNat 1).toNat (ρ 1).toNat (g (ρ 0).toNat 6)) ((g_up g (g (g (ρ 0).toNat 3).toNat 1).toNat (ρ 1).toNat (g (ρ 0).toNat 6)) (ρ 0).toNat 3).toNat 0 (g_i ((ρ 1) + 1))))) r1 h1' ∧ g_run RX3 ax CE cX3_readClause n' (92, (va_up ρ 2 (g (ρ 0).toNat 6)), g_push r1 [], h1') r h)) ∨ (¬ ((ρ 1) < 24) ∧ (r = none ∧ h = (L, (F_X3_fail (ρ 0) 6 g)))))) ∨ (¬ (F_X7_hasLaw (g (ρ 0).toNat 3) (g (ρ 0).toNat 6) g = 0) ∧ (r = none ∧ h = (L, (F_X3_fail (ρ 0) 4 g)))))))) ∨ (¬ (g (ρ 0).toNat 6 ≤ 13) ∧ (r = none ∧ h = (L, (F_X3_fail (ρ 0) 1 g))))) := by
  obtain ⟨n1, l1, h1⟩ := bk_X3_readClause_0 h0
  rcases h1 with ⟨c1, h1⟩ | ⟨c1, h1⟩
  · refine Or.inl ⟨c1, ?_⟩
    obtain ⟨n2, l2, h2⟩ := bk_X3_readClause_19 h1
    rcases h2 with ⟨c2, h2⟩ | ⟨c2, h2⟩
    · refine Or.inl ⟨c2, ?_⟩
      obtain ⟨n3, l3, h3⟩ := bk_X3_readClause_43 h2
      rcases h3 with ⟨c3, h3⟩ | ⟨c3, h3⟩
      · refine Or.inl ⟨c3, ?_⟩
        obtain ⟨n4, r4, k4, l4, x4, h4⟩ := bk_X3_readClause_58 h3
        obtain ⟨e4, d4⟩ := f_X3_advance (hCE _ _ _ _ _ _ x4)
        subst e4
        subst d4
        obtain ⟨n5, l5, h5⟩ := bk_X3_readClause_82 h4
        rcases h5 with ⟨c5, h5⟩ | ⟨c5, h5⟩
        · obtain ⟨n6, r6, k6, l6, x6, h6⟩ := bk_X3_readClause_95 h5
          exact ⟨n6, r6, k6, by omega, x6, h6⟩
        · exact absurd c2 c5
      · refine Or.inr ⟨c3, ?_⟩
        obtain ⟨n7, r7, k7, l7, x7, h7⟩ := bk_X3_readClause_49 h3
        obtain ⟨e7, d7⟩ := f_X3_fail (hCE _ _ _ _ _ _ x7)
        subst e7
        subst d7
        obtain ⟨n8, l8, h8⟩ := bk_X3_readClause_55 h7
        obtain ⟨e9, d9⟩ := bk_X3_readClause_109 h8
        exact ⟨e9, d9⟩
    · refine Or.inr ⟨c2, ?_⟩
      obtain ⟨n10, r10, k10, l10, x10, h10⟩ := bk_X3_readClause_24 h2
      obtain ⟨e10, d10⟩ := f_X7_hasLaw (hCE _ _ _ _ _ _ x10)
      subst e10
      subst d10
      obtain ⟨n11, l11, h11⟩ := bk_X3_readClause_32 h10
      rcases h11 with ⟨c11, h11⟩ | ⟨c11, h11⟩
      · refine Or.inl ⟨c11, ?_⟩
        obtain ⟨n12, l12, h12⟩ := bk_X3_readClause_43 h11
        rcases h12 with ⟨c12, h12⟩ | ⟨c12, h12⟩
        · refine Or.inl ⟨c12, ?_⟩
          obtain ⟨n13, r13, k13, l13, x13, h13⟩ := bk_X3_readClause_58 h12
          obtain ⟨e13, d13⟩ := f_X3_advance (hCE _ _ _ _ _ _ x13)
          subst e13
          subst d13
          obtain ⟨n14, l14, h14⟩ := bk_X3_readClause_82 h13
          rcases h14 with ⟨c14, h14⟩ | ⟨c14, h14⟩
          · exact absurd c14 c2
          · obtain ⟨n15, r15, k15, l15, x15, h15⟩ := bk_X3_readClause_87 h14
            exact ⟨n15, r15, k15, by omega, x15, h15⟩
        · refine Or.inr ⟨c12, ?_⟩
          obtain ⟨n16, r16, k16, l16, x16, h16⟩ := bk_X3_readClause_49 h12
          obtain ⟨e16, d16⟩ := f_X3_fail (hCE _ _ _ _ _ _ x16)
          subst e16
          subst d16
          obtain ⟨n17, l17, h17⟩ := bk_X3_readClause_55 h16
          obtain ⟨e18, d18⟩ := bk_X3_readClause_109 h17
          exact ⟨e18, d18⟩
      · refine Or.inr ⟨c11, ?_⟩
        obtain ⟨n19, r19, k19, l19, x19, h19⟩ := bk_X3_readClause_35 h11
        obtain ⟨e19, d19⟩ := f_X3_fail (hCE _ _ _ _ _ _ x19)
        subst e19
        subst d19
        obtain ⟨n20, l20, h20⟩ := bk_X3_readClause_40 h19
        obtain ⟨e21, d21⟩ := bk_X3_readClause_109 h20
        exact ⟨e21, d21⟩
  · refine Or.inr ⟨c1, ?_⟩
    obtain ⟨n22, r22, k22, l22, x22, h22⟩ := bk_X3_readClause_11 h1
    obtain ⟨e22, d22⟩ := f_X3_fail (hCE _ _ _ _ _ _ x22)
    subst e22
    subst d22
    obtain ⟨n23, l23, h23⟩ := bk_X3_readClause_16 h22
    obtain ⟨e24, d24⟩ := bk_X3_readClause_109 h23
    exact ⟨e24, d24⟩
theorem pt_X3_readClause_103 {ax : zAx} {CE : g_E} (hCE : ∀ y cc as h r h', CE y cc as h r h' → g_ex ax y cc as h r h') {n : Nat} {ρ : Nat → Int} {L : List Nat} {g : Nat → Nat → Int} {r : Option g_V} {h : g_H} (h0 : g_run RX3 ax CE cX3_readClause n (103, ρ, [], L, g) r h) : (r = none ∧ h = (L, (F_X3_expect (ρ 0) 50 g))) := by
  obtain ⟨n1, r1, k1, l1, x1, h1⟩ := bk_X3_readClause_103 h0
  obtain ⟨e1, d1⟩ := f_X3_expect (hCE _ _ _ _ _ _ x1)
  subst e1
  subst d1
  obtain ⟨e2, d2⟩ := bk_X3_readClause_109 h1
  exact ⟨e2, d2⟩
theorem pt_X3_readClause_92 {ax : zAx} {CE : g_E} (hCE : ∀ y cc as h r h', CE y cc as h r h' → g_ex ax y cc as h r h') {n : Nat} {ρ : Nat → Int} {L : List Nat} {g : Nat → Nat → Int} {r : Option g_V} {h : g_H} (h0 : g_run RX3 ax CE cX3_readClause n (92, ρ, [], L, g) r h) : (r = none ∧ h = (L, (F_X3_expect (ρ 0) 50 g))) := by
  obtain ⟨n1, l1, h1⟩ := bk_X3_readClause_92 h0
  obtain ⟨n2, r2, k2, l2, x2, h2⟩ := bk_X3_readClause_103 h1
  obtain ⟨e2, d2⟩ := f_X3_expect (hCE _ _ _ _ _ _ x2)
  subst e2
  subst d2
  obtain ⟨e3, d3⟩ := bk_X3_readClause_109 h2
  exact ⟨e3, d3⟩

theorem jI_X3_readLaw : ∀ (pc : Nat) (q : Instr × Nat), lkp iX3_readLaw pc = some q → decode cX3_readLaw pc = .ok q := fun pc q hq => jX3_readLaw (pc, q) (lkp_in iX3_readLaw hq)
theorem bk_X3_readLaw_0 {ax : zAx} {CE : g_E} {n : Nat} {ρ : Nat → Int} {L : List Nat} {g : Nat → Nat → Int} {r : Option g_V} {h : g_H} (hr : g_run RX3 ax CE cX3_readLaw n (0, ρ, [], L, g) r h) : ∃ n', n' < n ∧ ((ρ 1 = 3 ∧ g_run RX3 ax CE cX3_readLaw n' (48, ρ, [(1, 0), (1, ρ 0)], L, (g_up (g_up (g_up g (ρ 0).toNat 4 (ρ 1)) ((g_up g (ρ 0).toNat 4 (ρ 1)) ((g_up g (ρ 0).toNat 4 (ρ 1)) (ρ 0).toNat 3).toNat 9).toNat (ρ 1).toNat ((g_up g (ρ 0).toNat 4 (ρ 1)) ((g_up g (ρ 0).toNat 4 (ρ 1)) (ρ 0).toNat 3).toNat 5)) ((g_up (g_up g (ρ 0).toNat 4 (ρ 1)) ((g_up g (ρ 0).toNat 4 (ρ 1)) ((g_up g (ρ 0).toNat 4 (ρ 1)) (ρ 0).toNat 3).toNat 9).toNat (ρ 1).toNat ((g_up g (ρ 0).toNat 4 (ρ 1)) ((g_up g (ρ 0).toNat 4 (ρ 1)) (ρ 0).toNat 3).toNat 5)) ((g_up (g_up g (ρ 0).toNat 4 (ρ 1)) ((g_up g (ρ 0).toNat 4 (ρ 1)) ((g_up g (ρ 0).toNat 4 (ρ 1)) (ρ 0).toNat 3).toNat 9).toNat (ρ 1).toNat ((g_up g (ρ 0).toNat 4 (ρ 1)) ((g_up g (ρ 0).toNat 4 (ρ 1)) (ρ 0).toNat 3).toNat 5)) (ρ 0).toNat 3).toNat 11).toNat (ρ 1).toNat ((g_up (g_up g (ρ 0).toNat 4 (ρ 1)) ((g_up g (ρ 0).toNat 4 (ρ 1)) ((g_up g (ρ 0).toNat 4 (ρ 1)) (ρ 0).toNat 3).toNat 9).toNat (ρ 1).toNat ((g_up g (ρ 0).toNat 4 (ρ 1)) ((g_up g (ρ 0).toNat 4 (ρ 1)) (ρ 0).toNat 3).toNat 5)) ((g_up (g_up g (ρ 0).toNat 4 (ρ 1)) ((g_up g (ρ 0).toNat 4 (ρ 1)) ((g_up g (ρ 0).toNat 4 (ρ 1)) (ρ 0).toNat 3).toNat 9).toNat (ρ 1).toNat ((g_up g (ρ 0).toNat 4 (ρ 1)) ((g_up g (ρ 0).toNat 4 (ρ 1)) (ρ 0).toNat 3).toNat 5)) (ρ 0).toNat 3).toNat 8))) r h) ∨ (¬ (ρ 1 = 3) ∧ g_run RX3 ax CE cX3_readLaw n' (44, ρ, [(1, 0), (1, ρ 0)], L, (g_up (g_up (g_up g (ρ 0).toNat 4 (ρ 1)) ((g_up g (ρ 0).toNat 4 (ρ 1)) ((g_up g (ρ 0).toNat 4 (ρ 1)) (ρ 0).toNat 3).toNat 9).toNat (ρ 1).toNat ((g_up g (ρ 0).toNat 4 (ρ 1)) ((g_up g (ρ 0).toNat 4 (ρ 1)) (ρ 0).toNat 3).toNat 5)) ((g_up (g_up g (ρ 0).toNat 4 (ρ 1)) ((g_up g (ρ 0).toNat 4 (ρ 1)) ((g_up g (ρ 0).toNat 4 (ρ 1)) (ρ 0).toNat 3).toNat 9).toNat (ρ 1).toNat ((g_up g (ρ 0).toNat 4 (ρ 1)) ((g_up g (ρ 0).toNat 4 (ρ 1)) (ρ 0).toNat 3).toNat 5)) ((g_up (g_up g (ρ 0).toNat 4 (ρ 1)) ((g_up g (ρ 0).toNat 4 (ρ 1)) ((g_up g (ρ 0).toNat 4 (ρ 1)) (ρ 0).toNat 3).toNat 9).toNat (ρ 1).toNat ((g_up g (ρ 0).toNat 4 (ρ 1)) ((g_up g (ρ 0).toNat 4 (ρ 1)) (ρ 0).toNat 3).toNat 5)) (ρ 0).toNat 3).toNat 11).toNat (ρ 1).toNat ((g_up (g_up g (ρ 0).toNat 4 (ρ 1)) ((g_up g (ρ 0).toNat 4 (ρ 1)) ((g_up g (ρ 0).toNat 4 (ρ 1)) (ρ 0).toNat 3).toNat 9).toNat (ρ 1).toNat ((g_up g (ρ 0).toNat 4 (ρ 1)) ((g_up g (ρ 0).toNat 4 (ρ 1)) (ρ 0).toNat 3).toNat 5)) ((g_up (g_up g (ρ 0).toNat 4 (ρ 1)) ((g_up g (ρ 0).toNat 4 (ρ 1)) ((g_up g (ρ 0).toNat 4 (ρ 1)) (ρ 0).toNat 3).toNat 9).toNat (ρ 1).toNat ((g_up g (ρ 0).toNat 4 (ρ 1)) ((g_up g (ρ 0).toNat 4 (ρ 1)) (ρ 0).toNat 3).toNat 5)) (ρ 0).toNat 3).toNat 8))) r h)) := by
  obtain ⟨n1, e, h1⟩ := g_blk_ok noX3 jI_X3_readLaw tab_X3 24 n hr (c2 := (if ρ 1 = 3 then 48 else 44, ρ, [(1, 0), (1, ρ 0)], L, (g_up (g_up (g_up g (ρ 0).toNat 4 (ρ 1)) ((g_up g (ρ 0).toNat 4 (ρ 1)) ((g_up g (ρ 0).toNat 4 (ρ 1)) (ρ 0).toNat 3).toNat 9).toNat (ρ 1).toNat ((g_up g (ρ 0).toNat 4 (ρ 1)) ((g_up g (ρ 0).toNat 4 (ρ 1)) (ρ 0).toNat 3).toNat 5)) ((g_up (g_up g (ρ 0).toNat 4 (ρ 1)) ((g_up g (ρ 0).toNat 4 (ρ 1)) ((g_up g (ρ 0).toNat 4 (ρ 1)) (ρ 0).toNat 3).toNat 9).toNat (ρ 1).toNat ((g_up g (ρ 0).toNat 4 (ρ 1)) ((g_up g (ρ 0).toNat 4 (ρ 1)) (ρ 0).toNat 3).toNat 5)) ((g_up (g_up g (ρ 0).toNat 4 (ρ 1)) ((g_up g (ρ 0).toNat 4 (ρ 1)) ((g_up g (ρ 0).toNat 4 (ρ 1)) (ρ 0).toNat 3).toNat 9).toNat (ρ 1).toNat ((g_up g (ρ 0).toNat 4 (ρ 1)) ((g_up g (ρ 0).toNat 4 (ρ 1)) (ρ 0).toNat 3).toNat 5)) (ρ 0).toNat 3).toNat 11).toNat (ρ 1).toNat ((g_up (g_up g (ρ 0).toNat 4 (ρ 1)) ((g_up g (ρ 0).toNat 4 (ρ 1)) ((g_up g (ρ 0).toNat 4 (ρ 1)) (ρ 0).toNat 3).toNat 9).toNat (ρ 1).toNat ((g_up g (ρ 0).toNat 4 (ρ 1)) ((g_up g (ρ 0).toNat 4 (ρ 1)) (ρ 0).toNat 3).toNat 5)) ((g_up (g_up g (ρ 0).toNat 4 (ρ 1)) ((g_up g (ρ 0).toNat 4 (ρ 1)) ((g_up g (ρ 0).toNat 4 (ρ 1)) (ρ 0).toNat 3).toNat 9).toNat (ρ 1).toNat ((g_up g (ρ 0).toNat 4 (ρ 1)) ((g_up g (ρ 0).toNat 4 (ρ 1)) (ρ 0).toNat 3).toNat 5)) (ρ 0).toNat 3).toNat 8)))) rfl
  refine ⟨n1, by omega, ?_⟩
  by_cases hc : ρ 1 = 3
  · exact Or.inl ⟨hc, by rw [if_pos hc] at h1; exact h1⟩
  · exact Or.inr ⟨hc, by rw [if_neg hc] at h1; exact h1⟩
theorem bk_X3_readLaw_44 {ax : zAx} {CE : g_E} {n : Nat} {ρ : Nat → Int} {s0 : Int} {s1 : Int} {L : List Nat} {g : Nat → Nat → Int} {r : Option g_V} {h : g_H} (hr : g_run RX3 ax CE cX3_readLaw n (44, ρ, [(1, s0), (1, s1)], L, g) r h) : ∃ n', n' < n ∧ g_run RX3 ax CE cX3_readLaw n' (49, ρ, [(1, 1), (1, s0), (1, s1)], L, g) r h := by
  obtain ⟨n1, e, h1⟩ := g_blk_ok noX3 jI_X3_readLaw tab_X3 2 n hr (c2 := (49, ρ, [(1, 1), (1, s0), (1, s1)], L, g)) rfl
  exact ⟨n1, by omega, h1⟩
theorem bk_X3_readLaw_48 {ax : zAx} {CE : g_E} {n : Nat} {ρ : Nat → Int} {s0 : Int} {s1 : Int} {L : List Nat} {g : Nat → Nat → Int} {r : Option g_V} {h : g_H} (hr : g_run RX3 ax CE cX3_readLaw n (48, ρ, [(1, s0), (1, s1)], L, g) r h) : ∃ n', n' < n ∧ g_run RX3 ax CE cX3_readLaw n' (49, ρ, [(1, 0), (1, s0), (1, s1)], L, g) r h := by
  obtain ⟨n1, e, h1⟩ := g_blk_ok noX3 jI_X3_readLaw tab_X3 1 n hr (c2 := (49, ρ, [(1, 0), (1, s0), (1, s1)], L, g)) rfl
  exact ⟨n1, by omega, h1⟩
theorem bk_X3_readLaw_49 {ax : zAx} {CE : g_E} {n : Nat} {ρ : Nat → Int} {s0 : Int} {s1 : Int} {s2 : Int} {L : List Nat} {g : Nat → Nat → Int} {r : Option g_V} {h : g_H} (hr : g_run RX3 ax CE cX3_readLaw n (49, ρ, [(1, s0), (1, s1), (1, s2)], L, g) r h) : ∃ n' r1 h1', n' < n ∧ CE yX3_readSum cX3_readSum [(0, s2), (1, s1), (2, s0)] (L, g) r1 h1' ∧ g_run RX3 ax CE cX3_readLaw n' (52, ρ, g_push r1 [], h1') r h := by
  obtain ⟨n1, e, h1⟩ := g_blk_ok noX3 jI_X3_readLaw tab_X3 0 n hr (c2 := (49, ρ, [(1, s0), (1, s1), (1, s2)], L, g)) rfl
  obtain ⟨n2, c', e2, h2, h3⟩ := g_step_un noX3 (i := .invokevirtual 96) (len := 3) (jI_X3_readLaw 49 _ rfl) (gnrV _) h1
  obtain ⟨r1, h1', hx, hc⟩ := g_virt_un lk_X3 nat_all lX3_ok (idx := 96) (mi := 240) (ci := 3) (na := 3) rfl (by decide) mq_X3_readSum [(1, s1), (1, s0)] [] s2 rfl rfl h2
  subst hc
  exact ⟨n2, r1, h1', by omega, hx, h3⟩
theorem bk_X3_readLaw_52 {ax : zAx} {CE : g_E} {n : Nat} {ρ : Nat → Int} {L : List Nat} {g : Nat → Nat → Int} {r : Option g_V} {h : g_H} (hr : g_run RX3 ax CE cX3_readLaw n (52, ρ, [], L, g) r h) : r = none ∧ h = (L, (g_up (g_up g (g (g (ρ 0).toNat 3).toNat 10).toNat (ρ 1).toNat (g (g (ρ 0).toNat 3).toNat 5)) ((g_up g (g (g (ρ 0).toNat 3).toNat 10).toNat (ρ 1).toNat (g (g (ρ 0).toNat 3).toNat 5)) ((g_up g (g (g (ρ 0).toNat 3).toNat 10).toNat (ρ 1).toNat (g (g (ρ 0).toNat 3).toNat 5)) (ρ 0).toNat 3).toNat 12).toNat (ρ 1).toNat ((g_up g (g (g (ρ 0).toNat 3).toNat 10).toNat (ρ 1).toNat (g (g (ρ 0).toNat 3).toNat 5)) ((g_up g (g (g (ρ 0).toNat 3).toNat 10).toNat (ρ 1).toNat (g (g (ρ 0).toNat 3).toNat 5)) (ρ 0).toNat 3).toNat 8))) := by
  obtain ⟨n1, e, h1⟩ := g_blk_ok noX3 jI_X3_readLaw tab_X3 16 n hr (c2 := (84, ρ, [], L, (g_up (g_up g (g (g (ρ 0).toNat 3).toNat 10).toNat (ρ 1).toNat (g (g (ρ 0).toNat 3).toNat 5)) ((g_up g (g (g (ρ 0).toNat 3).toNat 10).toNat (ρ 1).toNat (g (g (ρ 0).toNat 3).toNat 5)) ((g_up g (g (g (ρ 0).toNat 3).toNat 10).toNat (ρ 1).toNat (g (g (ρ 0).toNat 3).toNat 5)) (ρ 0).toNat 3).toNat 12).toNat (ρ 1).toNat ((g_up g (g (g (ρ 0).toNat 3).toNat 10).toNat (ρ 1).toNat (g (g (ρ 0).toNat 3).toNat 5)) ((g_up g (g (g (ρ 0).toNat 3).toNat 10).toNat (ρ 1).toNat (g (g (ρ 0).toNat 3).toNat 5)) (ρ 0).toNat 3).toNat 8)))) rfl
  exact g_retv_un noX3 (jI_X3_readLaw 84 _ rfl) h1
theorem pt_X3_readLaw_0 {ax : zAx} {CE : g_E} (hCE : ∀ y cc as h r h', CE y cc as h r h' → g_ex ax y cc as h r h') {n : Nat} {ρ : Nat → Int} {L : List Nat} {g : Nat → Nat → Int} {r : Option g_V} {h : g_H} (h0 : g_run RX3 ax CE cX3_readLaw n (0, ρ, [], L, g) r h) : (((ρ 1) = 3 ∧ (∃ n' r1 h1', n' < n ∧ CE yX3_readSum cX3_readSum [(0, (ρ 0)), (1, 0), (2, 0)] (L, (g_up (g_up (g_up g (ρ 0).toNat 4 (ρ 1)) (g (g (ρ 0).toNat 3).toNat 9).toNat (ρ 1).toNat (g (g (ρ 0).toNat 3).toNat 5)) ((g_up (g_up g (ρ 0).toNat 4 (ρ 1)) (g (g (ρ 0).toNat 3).toNat 9).toNat (ρ 1).toNat (g (g (ρ 0).toNat 3).toNat 5)) ((g_up (g_up g (ρ 0).toNat 4 (ρ 1)) (g (g (ρ 0).toNat 3).toNat 9).toNat (ρ 1).toNat (g (g (ρ 0).toNat 3).toNat 5)) (ρ 0).toNat 3).toNat 11).toNat (ρ 1).toNat ((g_up (g_up g (ρ 0).toNat 4 (ρ 1)) (g (g (ρ 0).toNat 3).toNat 9).toNat (ρ 1).toNat (g (g (ρ 0).toNat 3).toNat 5)) ((g_up (g_up g (ρ 0).toNat 4 (ρ 1)) (g (g (ρ 0).toNat 3).toNat 9).toNat (ρ 1).toNat (g (g (ρ 0).toNat 3).toNat 5)) (ρ 0).toNat 3).toNat 8))) r1 h1' ∧ g_run RX3 ax CE cX3_readLaw n' (52, ρ, g_push r1 [], h1') r h)) ∨ (¬ ((ρ 1) = 3) ∧ (∃ n' r1 h1', n' < n ∧ CE yX3_readSum cX3_readSum [(0, (ρ 0)), (1, 0), (2, 1)] (L, (g_up (g_up (g_up g (ρ 0).toNat 4 (ρ 1)) (g (g (ρ 0).toNat 3).toNat 9).toNat (ρ 1).toNat (g (g (ρ 0).toNat 3).toNat 5)) ((g_up (g_up g (ρ 0).toNat 4 (ρ 1)) (g (g (ρ 0).toNat 3).toNat 9).toNat (ρ 1).toNat (g (g (ρ 0).toNat 3).toNat 5)) ((g_up (g_up g (ρ 0).toNat 4 (ρ 1)) (g (g (ρ 0).toNat 3).toNat 9).toNat (ρ 1).toNat (g (g (ρ 0).toNat 3).toNat 5)) (ρ 0).toNat 3).toNat 11).toNat (ρ 1).toNat ((g_up (g_up g (ρ 0).toNat 4 (ρ 1)) (g (g (ρ 0).toNat 3).toNat 9).toNat (ρ 1).toNat (g (g (ρ 0).toNat 3).toNat 5)) ((g_up (g_up g (ρ 0).toNat 4 (ρ 1)) (g (g (ρ 0).toNat 3).toNat 9).toNat (ρ 1).toNat (g (g (ρ 0).toNat 3).toNat 5)) (ρ 0).toNat 3).toNat 8))) r1 h1' ∧ g_run RX3 ax CE cX3_readLaw n' (52, ρ, g_push r1 [], h1') r h))) := by
  obtain ⟨n1, l1, h1⟩ := bk_X3_readLaw_0 h0
  rcases h1 with ⟨c1, h1⟩ | ⟨c1, h1⟩
  · refine Or.inl ⟨c1, ?_⟩
    obtain ⟨n2, l2, h2⟩ := bk_X3_readLaw_48 h1
    obtain ⟨n3, r3, k3, l3, x3, h3⟩ := bk_X3_readLaw_49 h2
    exact ⟨n3, r3, k3, by omega, x3, h3⟩
  · refine Or.inr ⟨c1, ?_⟩
    obtain ⟨n4, l4, h4⟩ := bk_X3_readLaw_44 h1
    obtain ⟨n5, r5, k5, l5, x5, h5⟩ := bk_X3_readLaw_49 h4
    exact ⟨n5, r5, k5, by omega, x5, h5⟩
theorem pt_X3_readLaw_52 {ax : zAx} {CE : g_E} (hCE : ∀ y cc as h r h', CE y cc as h r h' → g_ex ax y cc as h r h') {n : Nat} {ρ : Nat → Int} {L : List Nat} {g : Nat → Nat → Int} {r : Option g_V} {h : g_H} (h0 : g_run RX3 ax CE cX3_readLaw n (52, ρ, [], L, g) r h) : (r = none ∧ h = (L, (g_up (g_up g (g (g (ρ 0).toNat 3).toNat 10).toNat (ρ 1).toNat (g (g (ρ 0).toNat 3).toNat 5)) ((g_up g (g (g (ρ 0).toNat 3).toNat 10).toNat (ρ 1).toNat (g (g (ρ 0).toNat 3).toNat 5)) ((g_up g (g (g (ρ 0).toNat 3).toNat 10).toNat (ρ 1).toNat (g (g (ρ 0).toNat 3).toNat 5)) (ρ 0).toNat 3).toNat 12).toNat (ρ 1).toNat ((g_up g (g (g (ρ 0).toNat 3).toNat 10).toNat (ρ 1).toNat (g (g (ρ 0).toNat 3).toNat 5)) ((g_up g (g (g (ρ 0).toNat 3).toNat 10).toNat (ρ 1).toNat (g (g (ρ 0).toNat 3).toNat 5)) (ρ 0).toNat 3).toNat 8)))) := by
  obtain ⟨e1, d1⟩ := bk_X3_readLaw_52 h0
  exact ⟨e1, d1⟩

theorem jI_X3_readParts : ∀ (pc : Nat) (q : Instr × Nat), lkp iX3_readParts pc = some q → decode cX3_readParts pc = .ok q := fun pc q hq => jX3_readParts (pc, q) (lkp_in iX3_readParts hq)
theorem bk_X3_readParts_0 {ax : zAx} {CE : g_E} {n : Nat} {ρ : Nat → Int} {L : List Nat} {g : Nat → Nat → Int} {r : Option g_V} {h : g_H} (hr : g_run RX3 ax CE cX3_readParts n (0, ρ, [], L, g) r h) : ∃ n', n' < n ∧ g_run RX3 ax CE cX3_readParts n' (2, (va_up ρ 3 0), [], L, g) r h := by
  obtain ⟨n1, e, h1⟩ := g_blk_ok noX3 jI_X3_readParts tab_X3 2 n hr (c2 := (2, (va_up ρ 3 0), [], L, g)) rfl
  exact ⟨n1, by omega, h1⟩
theorem bk_X3_readParts_2 {ax : zAx} {CE : g_E} {n : Nat} {ρ : Nat → Int} {L : List Nat} {g : Nat → Nat → Int} {r : Option g_V} {h : g_H} (hr : g_run RX3 ax CE cX3_readParts n (2, ρ, [], L, g) r h) : ∃ n', n' < n ∧ ((3 ≤ ρ 3 ∧ g_run RX3 ax CE cX3_readParts n' (105, ρ, [], L, g) r h) ∨ (¬ (3 ≤ ρ 3) ∧ g_run RX3 ax CE cX3_readParts n' (7, ρ, [], L, g) r h)) := by
  obtain ⟨n1, e, h1⟩ := g_blk_ok noX3 jI_X3_readParts tab_X3 3 n hr (c2 := (if 3 ≤ ρ 3 then 105 else 7, ρ, [], L, g)) rfl
  refine ⟨n1, by omega, ?_⟩
  by_cases hc : 3 ≤ ρ 3
  · exact Or.inl ⟨hc, by rw [if_pos hc] at h1; exact h1⟩
  · exact Or.inr ⟨hc, by rw [if_neg hc] at h1; exact h1⟩
theorem bk_X3_readParts_7 {ax : zAx} {CE : g_E} {n : Nat} {ρ : Nat → Int} {L : List Nat} {g : Nat → Nat → Int} {r : Option g_V} {h : g_H} (hr : g_run RX3 ax CE cX3_readParts n (7, ρ, [], L, g) r h) : ∃ n', n' < n ∧ ((g (ρ 0).toNat 0 = 0 ∧ g_run RX3 ax CE cX3_readParts n' (14, ρ, [], L, g) r h) ∨ (¬ (g (ρ 0).toNat 0 = 0) ∧ g_run RX3 ax CE cX3_readParts n' (105, ρ, [], L, g) r h)) := by
  obtain ⟨n1, e, h1⟩ := g_blk_ok noX3 jI_X3_readParts tab_X3 3 n hr (c2 := (if g (ρ 0).toNat 0 = 0 then 14 else 105, ρ, [], L, g)) rfl
  refine ⟨n1, by omega, ?_⟩
  by_cases hc : g (ρ 0).toNat 0 = 0
  · exact Or.inl ⟨hc, by rw [if_pos hc] at h1; exact h1⟩
  · exact Or.inr ⟨hc, by rw [if_neg hc] at h1; exact h1⟩
theorem bk_X3_readParts_14 {ax : zAx} {CE : g_E} {n : Nat} {ρ : Nat → Int} {L : List Nat} {g : Nat → Nat → Int} {r : Option g_V} {h : g_H} (hr : g_run RX3 ax CE cX3_readParts n (14, ρ, [], L, g) r h) : ∃ n', n' < n ∧ ((ρ 3 ≤ 0 ∧ g_run RX3 ax CE cX3_readParts n' (40, (va_up ρ 4 (g_i ((g_i ((g_i ((ρ 2) * 3)) + (ρ 3))) * 3))), [], L, g) r h) ∨ (¬ (ρ 3 ≤ 0) ∧ g_run RX3 ax CE cX3_readParts n' (27, (va_up ρ 4 (g_i ((g_i ((g_i ((ρ 2) * 3)) + (ρ 3))) * 3))), [], L, g) r h)) := by
  obtain ⟨n1, e, h1⟩ := g_blk_ok noX3 jI_X3_readParts tab_X3 10 n hr (c2 := (if ρ 3 ≤ 0 then 40 else 27, (va_up ρ 4 (g_i ((g_i ((g_i ((ρ 2) * 3)) + (ρ 3))) * 3))), [], L, g)) rfl
  refine ⟨n1, by omega, ?_⟩
  by_cases hc : ρ 3 ≤ 0
  · exact Or.inl ⟨hc, by rw [if_pos hc] at h1; exact h1⟩
  · exact Or.inr ⟨hc, by rw [if_neg hc] at h1; exact h1⟩
theorem bk_X3_readParts_27 {ax : zAx} {CE : g_E} {n : Nat} {ρ : Nat → Int} {L : List Nat} {g : Nat → Nat → Int} {r : Option g_V} {h : g_H} (hr : g_run RX3 ax CE cX3_readParts n (27, ρ, [], L, g) r h) : ∃ n', n' < n ∧ g_run RX3 ax CE cX3_readParts n' (30, ρ, [(1, (ax.2.2 : Int))], L, g) r h := by
  obtain ⟨n1, e, h1⟩ := g_blk_ok noX3 jI_X3_readParts tab_X3 0 n hr (c2 := (27, ρ, [], L, g)) rfl
  obtain ⟨n2, c', e2, h2, h3⟩ := g_step_un noX3 (i := .getstatic 106) (len := 3) (jI_X3_readParts 27 _ rfl) (gnrG _) h1
  obtain ⟨-, -, hc⟩ := h2
  subst hc
  exact ⟨n2, by omega, h3⟩
theorem bk_X3_readParts_30 {ax : zAx} {CE : g_E} {n : Nat} {ρ : Nat → Int} {s0 : Int} {L : List Nat} {g : Nat → Nat → Int} {r : Option g_V} {h : g_H} (hr : g_run RX3 ax CE cX3_readParts n (30, ρ, [(1, s0)], L, g) r h) : ∃ n', n' < n ∧ ((g s0.toNat (ρ 4).toNat = (-1) ∧ g_run RX3 ax CE cX3_readParts n' (37, ρ, [], L, g) r h) ∨ (¬ (g s0.toNat (ρ 4).toNat = (-1)) ∧ g_run RX3 ax CE cX3_readParts n' (40, ρ, [], L, g) r h)) := by
  obtain ⟨n1, e, h1⟩ := g_blk_ok noX3 jI_X3_readParts tab_X3 4 n hr (c2 := (if g s0.toNat (ρ 4).toNat = (-1) then 37 else 40, ρ, [], L, g)) rfl
  refine ⟨n1, by omega, ?_⟩
  by_cases hc : g s0.toNat (ρ 4).toNat = (-1)
  · exact Or.inl ⟨hc, by rw [if_pos hc] at h1; exact h1⟩
  · exact Or.inr ⟨hc, by rw [if_neg hc] at h1; exact h1⟩
theorem bk_X3_readParts_37 {ax : zAx} {CE : g_E} {n : Nat} {ρ : Nat → Int} {L : List Nat} {g : Nat → Nat → Int} {r : Option g_V} {h : g_H} (hr : g_run RX3 ax CE cX3_readParts n (37, ρ, [], L, g) r h) : ∃ n', n' < n ∧ g_run RX3 ax CE cX3_readParts n' (105, ρ, [], L, g) r h := by
  obtain ⟨n1, e, h1⟩ := g_blk_ok noX3 jI_X3_readParts tab_X3 1 n hr (c2 := (105, ρ, [], L, g)) rfl
  exact ⟨n1, by omega, h1⟩
theorem bk_X3_readParts_40 {ax : zAx} {CE : g_E} {n : Nat} {ρ : Nat → Int} {L : List Nat} {g : Nat → Nat → Int} {r : Option g_V} {h : g_H} (hr : g_run RX3 ax CE cX3_readParts n (40, ρ, [], L, g) r h) : ∃ n', n' < n ∧ ((ρ 3 ≤ 0 ∧ g_run RX3 ax CE cX3_readParts n' (54, ρ, [], L, g) r h) ∨ (¬ (ρ 3 ≤ 0) ∧ g_run RX3 ax CE cX3_readParts n' (44, ρ, [], L, g) r h)) := by
  obtain ⟨n1, e, h1⟩ := g_blk_ok noX3 jI_X3_readParts tab_X3 2 n hr (c2 := (if ρ 3 ≤ 0 then 54 else 44, ρ, [], L, g)) rfl
  refine ⟨n1, by omega, ?_⟩
  by_cases hc : ρ 3 ≤ 0
  · exact Or.inl ⟨hc, by rw [if_pos hc] at h1; exact h1⟩
  · exact Or.inr ⟨hc, by rw [if_neg hc] at h1; exact h1⟩
theorem bk_X3_readParts_44 {ax : zAx} {CE : g_E} {n : Nat} {ρ : Nat → Int} {L : List Nat} {g : Nat → Nat → Int} {r : Option g_V} {h : g_H} (hr : g_run RX3 ax CE cX3_readParts n (44, ρ, [], L, g) r h) : ∃ n', n' < n ∧ g_run RX3 ax CE cX3_readParts n' (48, ρ, [(1, (ax.2.2 : Int)), (1, ρ 0)], L, g) r h := by
  obtain ⟨n1, e, h1⟩ := g_blk_ok noX3 jI_X3_readParts tab_X3 1 n hr (c2 := (45, ρ, [(1, ρ 0)], L, g)) rfl
  obtain ⟨n2, c', e2, h2, h3⟩ := g_step_un noX3 (i := .getstatic 106) (len := 3) (jI_X3_readParts 45 _ rfl) (gnrG _) h1
  obtain ⟨-, -, hc⟩ := h2
  subst hc
  exact ⟨n2, by omega, h3⟩
theorem bk_X3_readParts_48 {ax : zAx} {CE : g_E} {n : Nat} {ρ : Nat → Int} {s0 : Int} {s1 : Int} {L : List Nat} {g : Nat → Nat → Int} {r : Option g_V} {h : g_H} (hr : g_run RX3 ax CE cX3_readParts n (48, ρ, [(1, s0), (1, s1)], L, g) r h) : ∃ n' r1 h1', n' < n ∧ CE yX3_expect cX3_expect [(0, s1), (1, g s0.toNat (ρ 4).toNat)] (L, g) r1 h1' ∧ g_run RX3 ax CE cX3_readParts n' (54, ρ, g_push r1 [], h1') r h := by
  obtain ⟨n1, e, h1⟩ := g_blk_ok noX3 jI_X3_readParts tab_X3 2 n hr (c2 := (51, ρ, [(1, g s0.toNat (ρ 4).toNat), (1, s1)], L, g)) rfl
  obtain ⟨n2, c', e2, h2, h3⟩ := g_step_un noX3 (i := .invokevirtual 78) (len := 3) (jI_X3_readParts 51 _ rfl) (gnrV _) h1
  obtain ⟨r1, h1', hx, hc⟩ := g_virt_un lk_X3 nat_all lX3_ok (idx := 78) (mi := 224) (ci := 3) (na := 2) rfl (by decide) mq_X3_expect [(1, g s0.toNat (ρ 4).toNat)] [] s1 rfl rfl h2
  subst hc
  exact ⟨n2, r1, h1', by omega, hx, h3⟩
theorem bk_X3_readParts_54 {ax : zAx} {CE : g_E} {n : Nat} {ρ : Nat → Int} {L : List Nat} {g : Nat → Nat → Int} {r : Option g_V} {h : g_H} (hr : g_run RX3 ax CE cX3_readParts n (54, ρ, [], L, g) r h) : ∃ n', n' < n ∧ g_run RX3 ax CE cX3_readParts n' (83, ρ, [(1, (ax.2.2 : Int)), (1, ρ 0)], L, (g_up g (g (g (ρ 0).toNat 3).toNat 2).toNat (g_i ((g_i ((ρ 1) * 3)) + (ρ 3))).toNat (g (g (g (ρ 0).toNat 2).toNat 3).toNat (g (ρ 0).toNat 5).toNat))) r h := by
  obtain ⟨n1, e, h1⟩ := g_blk_ok noX3 jI_X3_readParts tab_X3 16 n hr (c2 := (80, ρ, [(1, ρ 0)], L, (g_up g (g (g (ρ 0).toNat 3).toNat 2).toNat (g_i ((g_i ((ρ 1) * 3)) + (ρ 3))).toNat (g (g (g (ρ 0).toNat 2).toNat 3).toNat (g (ρ 0).toNat 5).toNat)))) rfl
  obtain ⟨n2, c', e2, h2, h3⟩ := g_step_un noX3 (i := .getstatic 106) (len := 3) (jI_X3_readParts 80 _ rfl) (gnrG _) h1
  obtain ⟨-, -, hc⟩ := h2
  subst hc
  exact ⟨n2, by omega, h3⟩
theorem bk_X3_readParts_83 {ax : zAx} {CE : g_E} {n : Nat} {ρ : Nat → Int} {s0 : Int} {s1 : Int} {L : List Nat} {g : Nat → Nat → Int} {r : Option g_V} {h : g_H} (hr : g_run RX3 ax CE cX3_readParts n (83, ρ, [(1, s0), (1, s1)], L, g) r h) : ∃ n', n' < n ∧ g_run RX3 ax CE cX3_readParts n' (91, ρ, [(1, (ax.2.2 : Int)), (1, g s0.toNat (g_i ((ρ 4) + 1)).toNat), (1, s1)], L, g) r h := by
  obtain ⟨n1, e, h1⟩ := g_blk_ok noX3 jI_X3_readParts tab_X3 4 n hr (c2 := (88, ρ, [(1, g s0.toNat (g_i ((ρ 4) + 1)).toNat), (1, s1)], L, g)) rfl
  obtain ⟨n2, c', e2, h2, h3⟩ := g_step_un noX3 (i := .getstatic 106) (len := 3) (jI_X3_readParts 88 _ rfl) (gnrG _) h1
  obtain ⟨-, -, hc⟩ := h2
  subst hc
  exact ⟨n2, by omega, h3⟩
theorem bk_X3_readParts_91 {ax : zAx} {CE : g_E} {n : Nat} {ρ : Nat → Int} {s0 : Int} {s1 : Int} {s2 : Int} {L : List Nat} {g : Nat → Nat → Int} {r : Option g_V} {h : g_H} (hr : g_run RX3 ax CE cX3_readParts n (91, ρ, [(1, s0), (1, s1), (1, s2)], L, g) r h) : ∃ n' r1 h1', n' < n ∧ CE yX3_expectNumber cX3_expectNumber [(0, s2), (1, s1), (2, g s0.toNat (g_i ((ρ 4) + 2)).toNat)] (L, g) r1 h1' ∧ g_run RX3 ax CE cX3_readParts n' (99, ρ, g_push r1 [], h1') r h := by
  obtain ⟨n1, e, h1⟩ := g_blk_ok noX3 jI_X3_readParts tab_X3 4 n hr (c2 := (96, ρ, [(1, g s0.toNat (g_i ((ρ 4) + 2)).toNat), (1, s1), (1, s2)], L, g)) rfl
  obtain ⟨n2, c', e2, h2, h3⟩ := g_step_un noX3 (i := .invokevirtual 115) (len := 3) (jI_X3_readParts 96 _ rfl) (gnrV _) h1
  obtain ⟨r1, h1', hx, hc⟩ := g_virt_un lk_X3 nat_all lX3_ok (idx := 115) (mi := 225) (ci := 3) (na := 3) rfl (by decide) mq_X3_expectNumber [(1, s1), (1, g s0.toNat (g_i ((ρ 4) + 2)).toNat)] [] s2 rfl rfl h2
  subst hc
  exact ⟨n2, r1, h1', by omega, hx, h3⟩
theorem bk_X3_readParts_99 {ax : zAx} {CE : g_E} {n : Nat} {ρ : Nat → Int} {L : List Nat} {g : Nat → Nat → Int} {r : Option g_V} {h : g_H} (hr : g_run RX3 ax CE cX3_readParts n (99, ρ, [], L, g) r h) : ∃ n', n' < n ∧ g_run RX3 ax CE cX3_readParts n' (2, (va_up ρ 3 (g_i (ρ 3 + 1))), [], L, g) r h := by
  obtain ⟨n1, e, h1⟩ := g_blk_ok noX3 jI_X3_readParts tab_X3 2 n hr (c2 := (2, (va_up ρ 3 (g_i (ρ 3 + 1))), [], L, g)) rfl
  exact ⟨n1, by omega, h1⟩
theorem bk_X3_readParts_105 {ax : zAx} {CE : g_E} {n : Nat} {ρ : Nat → Int} {L : List Nat} {g : Nat → Nat → Int} {r : Option g_V} {h : g_H} (hr : g_run RX3 ax CE cX3_readParts n (105, ρ, [], L, g) r h) : r = none ∧ h = (L, g) := by
  obtain ⟨n1, e, h1⟩ := g_blk_ok noX3 jI_X3_readParts tab_X3 0 n hr (c2 := (105, ρ, [], L, g)) rfl
  exact g_retv_un noX3 (jI_X3_readParts 105 _ rfl) h1
theorem pt_X3_readParts_0 {ax : zAx} {CE : g_E} (hCE : ∀ y cc as h r h', CE y cc as h r h' → g_ex ax y cc as h r h') {n : Nat} {ρ : Nat → Int} {L : List Nat} {g : Nat → Nat → Int} {r : Option g_V} {h : g_H} (h0 : g_run RX3 ax CE cX3_readParts n (0, ρ, [], L, g) r h) : (∃ n', n' < n ∧ g_run RX3 ax CE cX3_readParts n' (2, (va_up ρ 3 0), [], L, g) r h) := by
  obtain ⟨n1, l1, h1⟩ := bk_X3_readParts_0 h0
  exact ⟨_, by omega, h1⟩
theorem pt_X3_readParts_2 {ax : zAx} {CE : g_E} (hCE : ∀ y cc as h r h', CE y cc as h r h' → g_ex ax y cc as h r h') {n : Nat} {ρ : Nat → Int} {L : List Nat} {g : Nat → Nat → Int} {r : Option g_V} {h : g_H} (h0 : g_run RX3 ax CE cX3_readParts n (2, ρ, [], L, g) r h) : ((3 ≤ (ρ 3) ∧ (r = none ∧ h = (L, g))) ∨ (¬ (3 ≤ (ρ 3)) ∧ ((g (ρ 0).toNat 0 = 0 ∧ (((ρ 3) ≤ 0 ∧ (∃ n', n' < n ∧ g_run RX3 ax CE cX3_readParts n' (2, (va_up (va_up ρ 4 (g_i ((g_i ((g_i ((ρ 2) * 3)) + (ρ 3))) * 3))) 3 (g_i ((ρ 3) + 1))), [], L, (F_X3_expectNumber (ρ 0) ((g_up g (g (g (ρ 0).toNat 3).toNat 2).toNat (g_i ((g_i ((ρ 1) * 3)) + (ρ 3))).toNat (g (g (g (ρ 0).toNat 2).toNat 3).toNat (g (ρ 0).toNat 5).toNat)) (ax.2.2 : Int).toNat (g_i ((g_i ((g_i ((g_i ((ρ 2) * 3)) + (ρ 3))) * 3)) + 1)).toNat) ((g_up g (g (g (ρ 0).toNat 3).toNat 2).toNat (g_i ((g_i ((ρ 1) * 3)) + (ρ 3))).toNat (g (g (g (ρ 0).toNat 2).toNat 3).toNat (g (ρ 0).toNat 5).toNat)) (ax.2.2 : Int).toNat (g_i ((g_i ((g_i ((g_i ((ρ 2) * 3)) + (ρ 3))) * 3)) + 2)).toNat) (g_up g (g (g (ρ 0).toNat 3).toNat 2).toNat (g_i ((g_i ((ρ 1) * 3)) + (ρ 3))).toNat (g (g (g (ρ 0).toNat 2).toNat 3).toNat (g (ρ 0).toNat 5).toNat)))) r h)) ∨ (¬ ((ρ 3) ≤ 0) ∧ ((g (ax.2.2 : Int).toNat (g_i ((g_i ((g_i ((ρ 2) * 3)) + (ρ 3))) * 3)).toNat = (-1) ∧ (r = none ∧ h = (L, g))) ∨ (¬ (g (ax.2.2 : Int).toNat (g_i ((g_i ((g_i ((ρ 2) * 3)) + (ρ 3))) * 3)).toNat = (-1)) ∧ (∃ n', n' < n ∧ g_run RX3 ax CE cX3_readParts n' (2, (va_up (va_up ρ 4 (g_i ((g_i ((g_i ((ρ 2) * 3)) + (ρ 3))) * 3))) 3 (g_i ((ρ 3) + 1))), [], L, (F_X3_expectNumber (ρ 0) ((g_up (F_X3_expect (ρ 0) (g (ax.2.2 : Int).toNat (g_i ((g_i ((g_i ((ρ 2) * 3)) + (ρ 3))) * 3)).toNat) g) ((F_X3_expect (ρ 0) (g (ax.2.2 : Int).toNat (g_i ((g_i ((g_i ((ρ 2) * 3)) + (ρ 3))) * 3)).toNat) g) ((F_X3_expect (ρ 0) (g (ax.2.2 : Int).toNat (g_i ((g_i ((g_i ((ρ 2) * 3)) + (ρ 3))) * 3)).toNat) g) (ρ 0).toNat 3).toNat 2).toNat (g_i ((g_i ((ρ 1) * 3)) + (ρ 3))).toNat ((F_X3_expect (ρ 0) (g (ax.2.2 : Int).toNat (g_i ((g_i ((g_i ((ρ 2) * 3)) + (ρ 3))) * 3)).toNat) g) ((F_X3_expect (ρ 0) (g (ax.2.2 : Int).toNat (g_i ((g_i ((g_i ((ρ 2) * 3)) + (ρ 3))) * 3)).toNat) g) ((F_X3_expect (ρ 0) (g (ax.2.2 : Int).toNat (g_i ((g_i ((g_i ((ρ 2) * 3)) + (ρ 3))) * 3)).toNat) g) (ρ 0).toNat 2).toNat 3).toNat ((F_X3_expect (ρ 0) (g (ax.2.2 : Int).toNat (g_i ((g_i ((g_i ((ρ 2) * 3)) + (ρ 3))) * 3)).toNat) g) (ρ 0).toNat 5).toNat)) (ax.2.2 : Int).toNat (g_i ((g_i ((g_i ((g_i ((ρ 2) * 3)) + (ρ 3))) * 3)) + 1)).toNat) ((g_up (F_X3_expect (ρ 0) (g (ax.2.2 : Int).toNat (g_i ((g_i ((g_i ((ρ 2) * 3)) + (ρ 3))) * 3)).toNat) g) ((F_X3_expect (ρ 0) (g (ax.2.2 : Int).toNat (g_i ((g_i ((g_i ((ρ 2) * 3)) + (ρ 3))) * 3)).toNat) g) ((F_X3_expect (ρ 0) (g (ax.2.2 : Int).toNat (g_i ((g_i ((g_i ((ρ 2) * 3)) + (ρ 3))) * 3)).toNat) g) (ρ 0).toNat 3).toNat 2).toNat (g_i ((g_i ((ρ 1) * 3)) + (ρ 3))).toNat ((F_X3_expect (ρ 0) (g (ax.2.2 : Int).toNat (g_i ((g_i ((g_i ((ρ 2) * 3)) + (ρ 3))) * 3)).toNat) g) ((F_X3_expect (ρ 0) (g (ax.2.2 : Int).toNat (g_i ((g_i ((g_i ((ρ 2) * 3)) + (ρ 3))) * 3)).toNat) g) ((F_X3_expect (ρ 0) (g (ax.2.2 : Int).toNat (g_i ((g_i ((g_i ((ρ 2) * 3)) + (ρ 3))) * 3)).toNat) g) (ρ 0).toNat 2).toNat 3).toNat ((F_X3_expect (ρ 0) (g (ax.2.2 : Int).toNat (g_i ((g_i ((g_i ((ρ 2) * 3)) + (ρ 3))) * 3)).toNat) g) (ρ 0).toNat 5).toNat)) (ax.2.2 : Int).toNat (g_i ((g_i ((g_i ((g_i ((ρ 2) * 3)) + (ρ 3))) * 3)) + 2)).toNat) (g_up (F_X3_expect (ρ 0) (g (ax.2.2 : Int).toNat (g_i ((g_i ((g_i ((ρ 2) * 3)) + (ρ 3))) * 3)).toNat) g) ((F_X3_expect (ρ 0) (g (ax.2.2 : Int).toNat (g_i ((g_i ((g_i ((ρ 2) * 3)) + (ρ 3))) * 3)).toNat) g) ((F_X3_expect (ρ 0) (g (ax.2.2 : Int).toNat (g_i ((g_i ((g_i ((ρ 2) * 3)) + (ρ 3))) * 3)).toNat) g) (ρ 0).toNat 3).toNat 2).toNat (g_i ((g_i ((ρ 1) * 3)) + (ρ 3))).toNat ((F_X3_expect (ρ 0) (g (ax.2.2 : Int).toNat (g_i ((g_i ((g_i ((ρ 2) * 3)) + (ρ 3))) * 3)).toNat) g) ((F_X3_expect (ρ 0) (g (ax.2.2 : Int).toNat (g_i ((g_i ((g_i ((ρ 2) * 3)) + (ρ 3))) * 3)).toNat) g) ((F_X3_expect (ρ 0) (g (ax.2.2 : Int).toNat (g_i ((g_i ((g_i ((ρ 2) * 3)) + (ρ 3))) * 3)).toNat) g) (ρ 0).toNat 2).toNat 3).toNat ((F_X3_expect (ρ 0) (g (ax.2.2 : Int).toNat (g_i ((g_i ((g_i ((ρ 2) * 3)) + (ρ 3))) * 3)).toNat) g) (ρ 0).toNat 5).toNat)))) r h)))))) ∨ (¬ (g (ρ 0).toNat 0 = 0) ∧ (r = none ∧ h = (L, g)))))) := by
  obtain ⟨n1, l1, h1⟩ := bk_X3_readParts_2 h0
  rcases h1 with ⟨c1, h1⟩ | ⟨c1, h1⟩
  · refine Or.inl ⟨c1, ?_⟩
    obtain ⟨e2, d2⟩ := bk_X3_readParts_105 h1
    exact ⟨e2, d2⟩
  · refine Or.inr ⟨c1, ?_⟩
    obtain ⟨n3, l3, h3⟩ := bk_X3_readParts_7 h1
    rcases h3 with ⟨c3, h3⟩ | ⟨c3, h3⟩
    · refine Or.inl ⟨c3, ?_⟩
      obtain ⟨n4, l4, h4⟩ := bk_X3_readParts_14 h3
      rcases h4 with ⟨c4, h4⟩ | ⟨c4, h4⟩
      · refine Or.inl ⟨c4, ?_⟩
        obtain ⟨n5, l5, h5⟩ := bk_X3_readParts_40 h4
        rcases h5 with ⟨c5, h5⟩ | ⟨c5, h5⟩
        · obtain ⟨n6, l6, h6⟩ := bk_X3_readParts_54 h5
          obtain ⟨n7, l7, h7⟩ := bk_X3_readParts_83 h6
          obtain ⟨n8, r8, k8, l8, x8, h8⟩ := bk_X3_readParts_91 h7
          obtain ⟨e8, d8⟩ := f_X3_expectNumber (hCE _ _ _ _ _ _ x8)
          subst e8
          subst d8
          obtain ⟨n9, l9, h9⟩ := bk_X3_readParts_99 h8
          exact ⟨_, by omega, h9⟩
        · exact absurd c4 c5
      · refine Or.inr ⟨c4, ?_⟩
        obtain ⟨n11, l11, h11⟩ := bk_X3_readParts_27 h4
        obtain ⟨n12, l12, h12⟩ := bk_X3_readParts_30 h11
        rcases h12 with ⟨c12, h12⟩ | ⟨c12, h12⟩
        · refine Or.inl ⟨c12, ?_⟩
          obtain ⟨n13, l13, h13⟩ := bk_X3_readParts_37 h12
          obtain ⟨e14, d14⟩ := bk_X3_readParts_105 h13
          exact ⟨e14, d14⟩
        · refine Or.inr ⟨c12, ?_⟩
          obtain ⟨n15, l15, h15⟩ := bk_X3_readParts_40 h12
          rcases h15 with ⟨c15, h15⟩ | ⟨c15, h15⟩
          · exact absurd c15 c4
          · obtain ⟨n16, l16, h16⟩ := bk_X3_readParts_44 h15
            obtain ⟨n17, r17, k17, l17, x17, h17⟩ := bk_X3_readParts_48 h16
            obtain ⟨e17, d17⟩ := f_X3_expect (hCE _ _ _ _ _ _ x17)
            subst e17
            subst d17
            obtain ⟨n18, l18, h18⟩ := bk_X3_readParts_54 h17
            obtain ⟨n19, l19, h19⟩ := bk_X3_readParts_83 h18
            obtain ⟨n20, r20, k20, l20, x20, h20⟩ := bk_X3_readParts_91 h19
            obtain ⟨e20, d20⟩ := f_X3_expectNumber (hCE _ _ _ _ _ _ x20)
            subst e20
            subst d20
            obtain ⟨n21, l21, h21⟩ := bk_X3_readParts_99 h20
            exact ⟨_, by omega, h21⟩
    · refine Or.inr ⟨c3, ?_⟩
      obtain ⟨e23, d23⟩ := bk_X3_readParts_105 h3
      exact ⟨e23, d23⟩

theorem jI_X3_readEither : ∀ (pc : Nat) (q : Instr × Nat), lkp iX3_readEither pc = some q → decode cX3_readEither pc = .ok q := fun pc q hq => jX3_readEither (pc, q) (lkp_in iX3_readEither hq)
theorem bk_X3_readEither_0 {ax : zAx} {CE : g_E} {n : Nat} {ρ : Nat → Int} {L : List Nat} {g : Nat → Nat → Int} {r : Option g_V} {h : g_H} (hr : g_run RX3 ax CE cX3_readEither n (0, ρ, [], L, g) r h) : ∃ n' r1 h1', n' < n ∧ CE yX3_readBoth cX3_readBoth [(0, ρ 0), (1, ρ 1)] (L, g) r1 h1' ∧ g_run RX3 ax CE cX3_readEither n' (5, ρ, g_push r1 [], h1') r h := by
  obtain ⟨n1, e, h1⟩ := g_blk_ok noX3 jI_X3_readEither tab_X3 2 n hr (c2 := (2, ρ, [(1, ρ 1), (1, ρ 0)], L, g)) rfl
  obtain ⟨n2, c', e2, h2, h3⟩ := g_step_un noX3 (i := .invokevirtual 122) (len := 3) (jI_X3_readEither 2 _ rfl) (gnrV _) h1
  obtain ⟨r1, h1', hx, hc⟩ := g_virt_un lk_X3 nat_all lX3_ok (idx := 122) (mi := 231) (ci := 3) (na := 2) rfl (by decide) mq_X3_readBoth [(1, ρ 1)] [] (ρ 0) rfl rfl h2
  subst hc
  exact ⟨n2, r1, h1', by omega, hx, h3⟩
theorem bk_X3_readEither_5 {ax : zAx} {CE : g_E} {n : Nat} {ρ : Nat → Int} {L : List Nat} {g : Nat → Nat → Int} {r : Option g_V} {h : g_H} (hr : g_run RX3 ax CE cX3_readEither n (5, ρ, [], L, g) r h) : ∃ n', n' < n ∧ g_run RX3 ax CE cX3_readEither n' (7, (va_up ρ 2 0), [], L, g) r h := by
  obtain ⟨n1, e, h1⟩ := g_blk_ok noX3 jI_X3_readEither tab_X3 2 n hr (c2 := (7, (va_up ρ 2 0), [], L, g)) rfl
  exact ⟨n1, by omega, h1⟩
theorem bk_X3_readEither_7 {ax : zAx} {CE : g_E} {n : Nat} {ρ : Nat → Int} {L : List Nat} {g : Nat → Nat → Int} {r : Option g_V} {h : g_H} (hr : g_run RX3 ax CE cX3_readEither n (7, ρ, [], L, g) r h) : ∃ n', n' < n ∧ ((300 ≤ ρ 2 ∧ g_run RX3 ax CE cX3_readEither n' (55, ρ, [], L, g) r h) ∨ (¬ (300 ≤ ρ 2) ∧ g_run RX3 ax CE cX3_readEither n' (14, ρ, [], L, g) r h)) := by
  obtain ⟨n1, e, h1⟩ := g_blk_ok noX3 jI_X3_readEither tab_X3 3 n hr (c2 := (if 300 ≤ ρ 2 then 55 else 14, ρ, [], L, g)) rfl
  refine ⟨n1, by omega, ?_⟩
  by_cases hc : 300 ≤ ρ 2
  · exact Or.inl ⟨hc, by rw [if_pos hc] at h1; exact h1⟩
  · exact Or.inr ⟨hc, by rw [if_neg hc] at h1; exact h1⟩
theorem bk_X3_readEither_14 {ax : zAx} {CE : g_E} {n : Nat} {ρ : Nat → Int} {L : List Nat} {g : Nat → Nat → Int} {r : Option g_V} {h : g_H} (hr : g_run RX3 ax CE cX3_readEither n (14, ρ, [], L, g) r h) : ∃ n', n' < n ∧ ((g (ρ 0).toNat 0 = 0 ∧ g_run RX3 ax CE cX3_readEither n' (21, ρ, [], L, g) r h) ∨ (¬ (g (ρ 0).toNat 0 = 0) ∧ g_run RX3 ax CE cX3_readEither n' (55, ρ, [], L, g) r h)) := by
  obtain ⟨n1, e, h1⟩ := g_blk_ok noX3 jI_X3_readEither tab_X3 3 n hr (c2 := (if g (ρ 0).toNat 0 = 0 then 21 else 55, ρ, [], L, g)) rfl
  refine ⟨n1, by omega, ?_⟩
  by_cases hc : g (ρ 0).toNat 0 = 0
  · exact Or.inl ⟨hc, by rw [if_pos hc] at h1; exact h1⟩
  · exact Or.inr ⟨hc, by rw [if_neg hc] at h1; exact h1⟩
theorem bk_X3_readEither_21 {ax : zAx} {CE : g_E} {n : Nat} {ρ : Nat → Int} {L : List Nat} {g : Nat → Nat → Int} {r : Option g_V} {h : g_H} (hr : g_run RX3 ax CE cX3_readEither n (21, ρ, [], L, g) r h) : ∃ n', n' < n ∧ ((g (ρ 0).toNat 6 = 23 ∧ g_run RX3 ax CE cX3_readEither n' (30, ρ, [], L, g) r h) ∨ (¬ (g (ρ 0).toNat 6 = 23) ∧ g_run RX3 ax CE cX3_readEither n' (55, ρ, [], L, g) r h)) := by
  obtain ⟨n1, e, h1⟩ := g_blk_ok noX3 jI_X3_readEither tab_X3 4 n hr (c2 := (if g (ρ 0).toNat 6 = 23 then 30 else 55, ρ, [], L, g)) rfl
  refine ⟨n1, by omega, ?_⟩
  by_cases hc : g (ρ 0).toNat 6 = 23
  · exact Or.inl ⟨hc, by rw [if_pos hc] at h1; exact h1⟩
  · exact Or.inr ⟨hc, by rw [if_neg hc] at h1; exact h1⟩
theorem bk_X3_readEither_30 {ax : zAx} {CE : g_E} {n : Nat} {ρ : Nat → Int} {L : List Nat} {g : Nat → Nat → Int} {r : Option g_V} {h : g_H} (hr : g_run RX3 ax CE cX3_readEither n (30, ρ, [], L, g) r h) : ∃ n' r1 h1', n' < n ∧ CE yX3_advance cX3_advance [(0, ρ 0)] (L, g) r1 h1' ∧ g_run RX3 ax CE cX3_readEither n' (34, ρ, g_push r1 [], h1') r h := by
  obtain ⟨n1, e, h1⟩ := g_blk_ok noX3 jI_X3_readEither tab_X3 1 n hr (c2 := (31, ρ, [(1, ρ 0)], L, g)) rfl
  obtain ⟨n2, c', e2, h2, h3⟩ := g_step_un noX3 (i := .invokevirtual 68) (len := 3) (jI_X3_readEither 31 _ rfl) (gnrV _) h1
  obtain ⟨r1, h1', hx, hc⟩ := g_virt_un lk_X3 nat_all lX3_ok (idx := 68) (mi := 223) (ci := 3) (na := 1) rfl (by decide) mq_X3_advance [] [] (ρ 0) rfl rfl h2
  subst hc
  exact ⟨n2, r1, h1', by omega, hx, h3⟩
theorem bk_X3_readEither_34 {ax : zAx} {CE : g_E} {n : Nat} {ρ : Nat → Int} {L : List Nat} {g : Nat → Nat → Int} {r : Option g_V} {h : g_H} (hr : g_run RX3 ax CE cX3_readEither n (34, ρ, [], L, g) r h) : ∃ n' r1 h1', n' < n ∧ CE yX3_readBoth cX3_readBoth [(0, ρ 0), (1, ρ 1)] (L, g) r1 h1' ∧ g_run RX3 ax CE cX3_readEither n' (39, ρ, g_push r1 [], h1') r h := by
  obtain ⟨n1, e, h1⟩ := g_blk_ok noX3 jI_X3_readEither tab_X3 2 n hr (c2 := (36, ρ, [(1, ρ 1), (1, ρ 0)], L, g)) rfl
  obtain ⟨n2, c', e2, h2, h3⟩ := g_step_un noX3 (i := .invokevirtual 122) (len := 3) (jI_X3_readEither 36 _ rfl) (gnrV _) h1
  obtain ⟨r1, h1', hx, hc⟩ := g_virt_un lk_X3 nat_all lX3_ok (idx := 122) (mi := 231) (ci := 3) (na := 2) rfl (by decide) mq_X3_readBoth [(1, ρ 1)] [] (ρ 0) rfl rfl h2
  subst hc
  exact ⟨n2, r1, h1', by omega, hx, h3⟩
theorem bk_X3_readEither_39 {ax : zAx} {CE : g_E} {n : Nat} {ρ : Nat → Int} {L : List Nat} {g : Nat → Nat → Int} {r : Option g_V} {h : g_H} (hr : g_run RX3 ax CE cX3_readEither n (39, ρ, [], L, g) r h) : ∃ n' r1 h1', n' < n ∧ CE yX7_write cX7_write [(0, g (ρ 0).toNat 3), (1, 23), (2, 0)] (L, g) r1 h1' ∧ g_run RX3 ax CE cX3_readEither n' (49, ρ, g_push r1 [], h1') r h := by
  obtain ⟨n1, e, h1⟩ := g_blk_ok noX3 jI_X3_readEither tab_X3 4 n hr (c2 := (46, ρ, [(1, 0), (1, 23), (1, g (ρ 0).toNat 3)], L, g)) rfl
  obtain ⟨n2, c', e2, h2, h3⟩ := g_step_un noX3 (i := .invokevirtual 125) (len := 3) (jI_X3_readEither 46 _ rfl) (gnrV _) h1
  obtain ⟨r1, h1', hx, hc⟩ := g_virt_un lk_X3 nat_all lX3_ok (idx := 125) (mi := 264) (ci := 7) (na := 3) rfl (by decide) mq_X7_write [(1, 23), (1, 0)] [] (g (ρ 0).toNat 3) rfl rfl h2
  subst hc
  exact ⟨n2, r1, h1', by omega, hx, h3⟩
theorem bk_X3_readEither_49 {ax : zAx} {CE : g_E} {n : Nat} {ρ : Nat → Int} {L : List Nat} {g : Nat → Nat → Int} {r : Option g_V} {h : g_H} (hr : g_run RX3 ax CE cX3_readEither n (49, ρ, [], L, g) r h) : ∃ n', n' < n ∧ g_run RX3 ax CE cX3_readEither n' (7, (va_up ρ 2 (g_i (ρ 2 + 1))), [], L, g) r h := by
  obtain ⟨n1, e, h1⟩ := g_blk_ok noX3 jI_X3_readEither tab_X3 2 n hr (c2 := (7, (va_up ρ 2 (g_i (ρ 2 + 1))), [], L, g)) rfl
  exact ⟨n1, by omega, h1⟩
theorem bk_X3_readEither_55 {ax : zAx} {CE : g_E} {n : Nat} {ρ : Nat → Int} {L : List Nat} {g : Nat → Nat → Int} {r : Option g_V} {h : g_H} (hr : g_run RX3 ax CE cX3_readEither n (55, ρ, [], L, g) r h) : r = none ∧ h = (L, g) := by
  obtain ⟨n1, e, h1⟩ := g_blk_ok noX3 jI_X3_readEither tab_X3 0 n hr (c2 := (55, ρ, [], L, g)) rfl
  exact g_retv_un noX3 (jI_X3_readEither 55 _ rfl) h1
theorem pt_X3_readEither_0 {ax : zAx} {CE : g_E} (hCE : ∀ y cc as h r h', CE y cc as h r h' → g_ex ax y cc as h r h') {n : Nat} {ρ : Nat → Int} {L : List Nat} {g : Nat → Nat → Int} {r : Option g_V} {h : g_H} (h0 : g_run RX3 ax CE cX3_readEither n (0, ρ, [], L, g) r h) : (∃ n' r1 h1', n' < n ∧ CE yX3_readBoth cX3_readBoth [(0, (ρ 0)), (1, (ρ 1))] (L, g) r1 h1' ∧ g_run RX3 ax CE cX3_readEither n' (5, ρ, g_push r1 [], h1') r h) := by
  obtain ⟨n1, r1, k1, l1, x1, h1⟩ := bk_X3_readEither_0 h0
  exact ⟨n1, r1, k1, by omega, x1, h1⟩
theorem pt_X3_readEither_7 {ax : zAx} {CE : g_E} (hCE : ∀ y cc as h r h', CE y cc as h r h' → g_ex ax y cc as h r h') {n : Nat} {ρ : Nat → Int} {L : List Nat} {g : Nat → Nat → Int} {r : Option g_V} {h : g_H} (h0 : g_run RX3 ax CE cX3_readEither n (7, ρ, [], L, g) r h) : ((300 ≤ (ρ 2) ∧ (r = none ∧ h = (L, g))) ∨ (¬ (300 ≤ (ρ 2)) ∧ ((g (ρ 0).toNat 0 = 0 ∧ ((g (ρ 0).toNat 6 = 23 ∧ (∃ n' r1 h1', n' < n ∧ CE yX3_readBoth cX3_readBoth [(0, (ρ 0)), (1, (ρ 1))] (L, (F_X3_advance (ρ 0) g)) r1 h1' ∧ g_run RX3 ax CE cX3_readEither n' (39, ρ, g_push r1 [], h1') r h)) ∨ (¬ (g (ρ 0).toNat 6 = 23) ∧ (r = none ∧ h = (L, g))))) ∨ (¬ (g (ρ 0).toNat 0 = 0) ∧ (r = none ∧ h = (L, g)))))) := by
  obtain ⟨n1, l1, h1⟩ := bk_X3_readEither_7 h0
  rcases h1 with ⟨c1, h1⟩ | ⟨c1, h1⟩
  · refine Or.inl ⟨c1, ?_⟩
    obtain ⟨e2, d2⟩ := bk_X3_readEither_55 h1
    exact ⟨e2, d2⟩
  · refine Or.inr ⟨c1, ?_⟩
    obtain ⟨n3, l3, h3⟩ := bk_X3_readEither_14 h1
    rcases h3 with ⟨c3, h3⟩ | ⟨c3, h3⟩
    · refine Or.inl ⟨c3, ?_⟩
      obtain ⟨n4, l4, h4⟩ := bk_X3_readEither_21 h3
      rcases h4 with ⟨c4, h4⟩ | ⟨c4, h4⟩
      · refine Or.inl ⟨c4, ?_⟩
        obtain ⟨n5, r5, k5, l5, x5, h5⟩ := bk_X3_readEither_30 h4
        obtain ⟨e5, d5⟩ := f_X3_advance (hCE _ _ _ _ _ _ x5)
        subst e5
        subst d5
        obtain ⟨n6, r6, k6, l6, x6, h6⟩ := bk_X3_readEither_34 h5
        exact ⟨n6, r6, k6, by omega, x6, h6⟩
      · refine Or.inr ⟨c4, ?_⟩
        obtain ⟨e7, d7⟩ := bk_X3_readEither_55 h4
        exact ⟨e7, d7⟩
    · refine Or.inr ⟨c3, ?_⟩
      obtain ⟨e8, d8⟩ := bk_X3_readEither_55 h3
      exact ⟨e8, d8⟩
theorem pt_X3_readEither_5 {ax : zAx} {CE : g_E} (hCE : ∀ y cc as h r h', CE y cc as h r h' → g_ex ax y cc as h r h') {n : Nat} {ρ : Nat → Int} {L : List Nat} {g : Nat → Nat → Int} {r : Option g_V} {h : g_H} (h0 : g_run RX3 ax CE cX3_readEither n (5, ρ, [], L, g) r h) : (∃ n', n' < n ∧ g_run RX3 ax CE cX3_readEither n' (7, (va_up ρ 2 0), [], L, g) r h) := by
  obtain ⟨n1, l1, h1⟩ := bk_X3_readEither_5 h0
  exact ⟨_, by omega, h1⟩
theorem pt_X3_readEither_39 {ax : zAx} {CE : g_E} (hCE : ∀ y cc as h r h', CE y cc as h r h' → g_ex ax y cc as h r h') {n : Nat} {ρ : Nat → Int} {L : List Nat} {g : Nat → Nat → Int} {r : Option g_V} {h : g_H} (h0 : g_run RX3 ax CE cX3_readEither n (39, ρ, [], L, g) r h) : (∃ n', n' < n ∧ g_run RX3 ax CE cX3_readEither n' (7, (va_up ρ 2 (g_i ((ρ 2) + 1))), [], L, (F_X7_write (g (ρ 0).toNat 3) 23 0 g)) r h) := by
  obtain ⟨n1, r1, k1, l1, x1, h1⟩ := bk_X3_readEither_39 h0
  obtain ⟨e1, d1⟩ := f_X7_write (hCE _ _ _ _ _ _ x1)
  subst e1
  subst d1
  obtain ⟨n2, l2, h2⟩ := bk_X3_readEither_49 h1
  exact ⟨_, by omega, h2⟩
