/-! Calls and ends of the ghost's runs. -/
section GC
variable {own : String} {ax : zAx} {CE : g_E} {cc : ByteArray} {ft : List (Nat × EF)} {kt kl : List (Nat × Int)} {lt : LT} {r : Option g_V} {h : g_H}
theorem g_step_u0 (ho : g_triv own = false) {n : Nat} {c : g_C} {i : Instr} {len : Nat} (hd : decode cc c.1 = .ok (i, len)) (hi : i ≠ .return_ ∧ i ≠ .ireturn ∧ i ≠ .lreturn ∧ i ≠ .areturn) (hr : g_run own ax CE cc n c r h) : ∃ n' c', n = n' + 1 ∧ g_in own ax CE i len c c' ∧ g_run own ax CE cc n' c' r h := by
  cases n with
  | zero => exact (g_rt_not hd hi hr).elim
  | succ n =>
    obtain ⟨c', hs, hr'⟩ := hr
    rcases hs with hs | ⟨i', len', hd2, hs⟩
    · rw [ho] at hs
      cases hs
    · rw [hd] at hd2
      obtain ⟨rfl, rfl⟩ := Prod.mk.inj (Except.ok.inj hd2)
      exact ⟨n, c', rfl, hs, hr'⟩
theorem g_step_un (ho : g_triv own = false) {n pc : Nat} {ρ : Nat → Int} {st : List g_V} {H : g_H} {i : Instr} {len : Nat} (hd : decode cc pc = .ok (i, len)) (hi : i ≠ .return_ ∧ i ≠ .ireturn ∧ i ≠ .lreturn ∧ i ≠ .areturn) (hr : g_run own ax CE cc n (pc, ρ, st, H) r h) : ∃ n' c', n = n' + 1 ∧ g_in own ax CE i len (pc, ρ, st, H) c' ∧ g_run own ax CE cc n' c' r h := g_step_u0 (c := (pc, ρ, st, H)) ho hd hi hr
theorem g_ret_un (ho : g_triv own = false) {n pc len : Nat} {ρ : Nat → Int} {st : List g_V} {H : g_H} {i : Instr} (hd : decode cc pc = .ok (i, len)) (hi : i = .ireturn ∨ i = .lreturn ∨ i = .areturn) (hr : g_run own ax CE cc n (pc, ρ, st, H) r h) : r = some (st.getD 0 (1, 0)) ∧ h = H := by
  cases n with
  | zero =>
    obtain ⟨h1, h2⟩ := hr
    rcases h1 with ⟨⟨l, h1⟩, -⟩ | ⟨-, h1⟩
    · rw [show decode cc pc = .ok (i, len) from hd] at h1
      obtain ⟨rfl, -⟩ := Prod.mk.inj (Except.ok.inj h1)
      rcases hi with hi | hi | hi <;> cases hi
    · exact ⟨h1, h2⟩
  | succ n =>
    obtain ⟨c', hs, hr'⟩ := hr
    rcases hs with hs | ⟨i', len', hd2, hs⟩
    · rw [ho] at hs
      cases hs
    · rw [show decode cc pc = .ok (i, len) from hd] at hd2
      obtain ⟨rfl, rfl⟩ := Prod.mk.inj (Except.ok.inj hd2)
      obtain ⟨L, g⟩ := H
      rcases hi with rfl | rfl | rfl <;> exact hs.elim
theorem g_retv_un (ho : g_triv own = false) {n pc len : Nat} {ρ : Nat → Int} {st : List g_V} {H : g_H} (hd : decode cc pc = .ok (.return_, len)) (hr : g_run own ax CE cc n (pc, ρ, st, H) r h) : r = none ∧ h = H := by
  cases n with
  | zero =>
    obtain ⟨h1, h2⟩ := hr
    rcases h1 with ⟨-, h1⟩ | ⟨⟨l, h1⟩, -⟩
    · exact ⟨h1, h2⟩
    · rcases h1 with h1 | h1 | h1 <;> rw [show decode cc pc = .ok (.return_, len) from hd] at h1 <;> cases h1
  | succ n =>
    obtain ⟨c', hs, hr'⟩ := hr
    rcases hs with hs | ⟨i', len', hd2, hs⟩
    · rw [ho] at hs
      cases hs
    · rw [show decode cc pc = .ok (.return_, len) from hd] at hd2
      obtain ⟨rfl, rfl⟩ := Prod.mk.inj (Except.ok.inj hd2)
      obtain ⟨L, g⟩ := H
      exact hs.elim
theorem g_apl {as as' st0 st0' : List g_V} (hl : as'.length = as.length) (h : as'.reverse ++ st0' = as.reverse ++ st0) : as' = as ∧ st0' = st0 := by
  obtain ⟨h1, h2⟩ := List.append_inj h (by rw [List.length_reverse, List.length_reverse, hl])
  exact ⟨List.reverse_inj.mp h1, h2⟩
theorem g_callV_un {N : Nat} (hk : g_lk own ft kt kl lt = true) (hlt : ∀ e ∈ lt, lP own e) {idx pc mi ci na : Nat} {ρ : Nat → Int} {st : List g_V} {H : g_H} {c' : g_C} (hl : lkp lt idx = some (0, mi, ci, na)) (hmi : mi < N) (as st0 : List g_V) (a : Int) (hna : as.length + 1 = na) (hst : st = as.reverse ++ (1, a) :: st0) (h : g_callV CE own idx pc ρ st H c') : ∃ r1 h1, CE (mt mi).1 (mt mi).2.1 (g_lay 0 ((1, a) :: as)) H r1 h1 ∧ c' = (pc + 3, ρ, g_push r1 st0, h1) := by
  obtain ⟨y, b, nb, ret, a', av, st0', r1, h1, hm, hc, hu, hp, hs, -, hce, hc'⟩ := h
  have hy := (g_lnk hk hl hm).1 (Nat.zero_le 2)
  subst hy
  obtain ⟨v0, -, -, -, v5⟩ := (hlt (idx, 0, mi, ci, na) (lkp_in lt hl)).1 (Nat.zero_le 2)
  have hb : b = (mt mi).2.1 := (hu _ _ _ v0.2.1).symm
  subst hb
  have hlen : av.length = as.length := by
    rcases hpd : parseMethodDescriptor (mt mi).1.desc with _ | q
    · rw [hpd] at hp; cases hp
    · rw [hpd] at hp v5
      have e1 : q.parameters.length = av.length := Option.some.inj hp
      have e2 : q.parameters.length + 1 = na := Option.some.inj v5
      omega
  rw [hst] at hs
  obtain ⟨e1, e2⟩ := g_apl hlen hs.symm
  subst e1
  obtain ⟨e3, e4⟩ := List.cons.inj e2
  have e5 : a' = a := (Prod.mk.inj e3).2
  subst e5
  subst e4
  exact ⟨r1, h1, hce, hc'⟩
theorem g_callS_un {N : Nat} (hk : g_lk own ft kt kl lt = true) (hlt : ∀ e ∈ lt, lP own e) {idx pc mode mi ci na : Nat} {ρ : Nat → Int} {st : List g_V} {H : g_H} {c' : g_C} (hl : lkp lt idx = some (mode, mi, ci, na)) (hmo : mode = 1 ∨ mode = 2) (hmi : mi < N) (as st0 : List g_V) (hna : as.length = na) (hst : st = as.reverse ++ st0) (h : g_call CE own idx pc ρ st H c') : ∃ r1 h1, CE (mt mi).1 (mt mi).2.1 (g_lay 0 as) H r1 h1 ∧ c' = (pc + 3, ρ, g_push r1 st0, h1) := by
  obtain ⟨y, b, nb, ret, av, st0', r1, h1, hm, hc, hu, hp, hs, hce, hc'⟩ := h
  have hy := (g_lnk hk hl hm).1 (by omega)
  subst hy
  have hlk := (hlt (idx, mode, mi, ci, na) (lkp_in lt hl)).1 (by show mode ≤ 2; omega)
  have hb : b = (mt mi).2.1 := (hu _ _ _ hlk.1.2.1).symm
  subst hb
  have v5 : (parseMethodDescriptor (mt mi).1.desc).map (fun d => d.parameters.length) = some na := by
    rcases hmo with rfl | rfl
    · exact hlk.2.2.2
    · exact hlk.2.2.2
  have hlen : av.length = as.length := by
    have := hp.symm.trans v5
    have := Option.some.inj this
    omega
  rw [hst] at hs
  obtain ⟨e1, e2⟩ := g_apl hlen hs.symm
  subst e1
  subst e2
  exact ⟨r1, h1, hce, hc'⟩
/-- the JDK's own that are done at once are no others -/
def g_nat (N : Nat) : Bool := (List.range N).all (fun i => !(decide ((mt i).1 = arraycopyName)) && !(decide ((mt i).1 = Lib.Math.min.name)) && !(decide ((mt i).1 = Lib.Math.max.name)) && !(decide ((mt i).1.cls = "java/lang/String")))
theorem g_nat_ok {N mi : Nat} (hna' : g_nat N = true) (hmi : mi < N) : (((mt mi).1 ≠ arraycopyName ∧ (mt mi).1 ≠ Lib.Math.min.name) ∧ (mt mi).1 ≠ Lib.Math.max.name) ∧ (mt mi).1.cls ≠ "java/lang/String" := by
  unfold g_nat at hna'
  rw [List.all_eq_true] at hna'
  simpa using hna' mi (List.mem_range.mpr hmi)
theorem g_virt_un {N : Nat} (hk : g_lk own ft kt kl lt = true) (hna' : g_nat N = true) (hlt : ∀ e ∈ lt, lP own e) {idx pc mi ci na : Nat} {ρ : Nat → Int} {st : List g_V} {L : List Nat} {g : Nat → Nat → Int} {c' : g_C} (hl : lkp lt idx = some (0, mi, ci, na)) (hmi : mi < N) {y0 : MethodName} {b0 : ByteArray} (hy0 : (mt mi).1 = y0 ∧ (mt mi).2.1 = b0) (as st0 : List g_V) (a : Int) (hna : as.length + 1 = na) (hst : st = as.reverse ++ (1, a) :: st0) (h : g_in own ax CE (.invokevirtual idx) 3 (pc, ρ, st, L, g) c') : ∃ r1 h1, CE y0 b0 (g_lay 0 ((1, a) :: as)) (L, g) r1 h1 ∧ c' = (pc + 3, ρ, g_push r1 st0, h1) := by
  obtain ⟨rfl, rfl⟩ := hy0
  have hx : ∀ y, Cond.methodLink own idx y ∈ gtbl → y = (mt mi).1 := fun y hy => (g_lnk hk hl (Or.inl hy)).1 (by omega)
  have hn := (g_nat_ok hna' hmi).2
  rcases h with h | ⟨-, i, -, h | h | h⟩
  · exact g_callV_un hk hlt hl hmi as st0 a hna hst h
  · exact absurd (by rw [← hx _ h.1]) hn
  · exact absurd (by rw [← hx _ h.1]) hn
  · exact absurd (by rw [← hx _ h.2.1]) hn
theorem g_static_un {N : Nat} (hk : g_lk own ft kt kl lt = true) (hna' : g_nat N = true) (hlt : ∀ e ∈ lt, lP own e) {idx pc mode mi ci na : Nat} {ρ : Nat → Int} {st : List g_V} {L : List Nat} {g : Nat → Nat → Int} {c' : g_C} (hl : lkp lt idx = some (mode, mi, ci, na)) (hmo : mode = 1 ∨ mode = 2) (hmi : mi < N) {y0 : MethodName} {b0 : ByteArray} (hy0 : (mt mi).1 = y0 ∧ (mt mi).2.1 = b0) (as st0 : List g_V) (hna : as.length = na) (hst : st = as.reverse ++ st0) (h : g_in own ax CE (.invokestatic idx) 3 (pc, ρ, st, L, g) c') : ∃ r1 h1, CE y0 b0 (g_lay 0 as) (L, g) r1 h1 ∧ c' = (pc + 3, ρ, g_push r1 st0, h1) := by
  obtain ⟨rfl, rfl⟩ := hy0
  have hx : ∀ y, Cond.methodLink own idx y ∈ gtbl → y = (mt mi).1 := fun y hy => (g_lnk hk hl (Or.inl hy)).1 (by omega)
  have hn := (g_nat_ok hna' hmi).1
  rcases h with h | ⟨h, -⟩ | ⟨h, -⟩ | ⟨h, -⟩
  · exact g_callS_un hk hlt hl hmo hmi as st0 hna hst h
  · exact absurd (hx _ h).symm hn.1.1
  · exact absurd (hx _ h).symm hn.1.2
  · exact absurd (hx _ h).symm hn.2
end GC
