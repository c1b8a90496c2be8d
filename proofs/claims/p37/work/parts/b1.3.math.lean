/-! What the JDK does at once: min, max, rows copied. -/
def iMin : List (Nat × Instr × Nat) := [(0, .iload_n 0, 1), (1, .iload_n 1, 1), (2, .if_icmp .gt 7, 3), (5, .iload_n 0, 1), (6, .goto 4, 3), (9, .iload_n 1, 1), (10, .ireturn, 1)]
def iMax : List (Nat × Instr × Nat) := [(0, .iload_n 0, 1), (1, .iload_n 1, 1), (2, .if_icmp .lt 7, 3), (5, .iload_n 0, 1), (6, .goto 4, 3), (9, .iload_n 1, 1), (10, .ireturn, 1)]
theorem jMin : ∀ e ∈ iMin, decode Lib.Math.min.code e.1 = .ok e.2 := by decide +kernel
theorem jMax : ∀ e ∈ iMax, decode Lib.Math.max.code e.1 = .ok e.2 := by decide +kernel
theorem jIMin (pc : Nat) (q : Instr × Nat) (h : lkp iMin pc = some q) : decode Lib.Math.min.code pc = .ok q := jMin (pc, q) (lkp_in iMin h)
theorem jIMax (pc : Nat) (q : Instr × Nat) (h : lkp iMax pc = some q) : decode Lib.Math.max.code pc = .ok q := jMax (pc, q) (lkp_in iMax h)
theorem noMath : g_triv "java/lang/Math" = false := by decide +kernel
theorem tabMath : g_tab "java/lang/Math" (fun _ => none) (fun _ => none) (fun _ => none) := ⟨fun _ _ h => (by cases h), fun _ _ h => (by cases h), fun _ _ h => (by cases h)⟩
section MM
variable {ax : zAx} {x z : Int} {h : g_H} {r : Option g_V} {h' : g_H}
theorem m_min (hx : g_ex ax Lib.Math.min.name Lib.Math.min.code [(0, x), (1, z)] h r h') : r = some (1, min x z) ∧ h' = h := by
  obtain ⟨ρ, n, hρ, hr⟩ := g_run_of hx
  have e0 : ρ 0 = x := hρ (0, x) (List.mem_cons_self ..)
  have e1 : ρ 1 = z := hρ (1, z) (List.mem_cons_of_mem _ (List.mem_cons_self ..))
  obtain ⟨L, g⟩ := h
  obtain ⟨n1, -, h1⟩ := g_blk_ok (own := "java/lang/Math") noMath jIMin tabMath 3 n hr (c2 := (if ρ 1 < ρ 0 then 9 else 5, ρ, [], L, g)) rfl
  rw [Int.min_def]
  by_cases hc : ρ 1 < ρ 0
  · rw [if_pos hc] at h1
    obtain ⟨n2, -, h2⟩ := g_blk_ok (own := "java/lang/Math") noMath jIMin tabMath 1 n1 h1 (c2 := (10, ρ, [(1, ρ 1)], L, g)) rfl
    obtain ⟨e3, e4⟩ := g_ret_un (own := "java/lang/Math") noMath (i := .ireturn) (jIMin 10 _ rfl) (Or.inl rfl) h2
    rw [e3, if_neg (by omega), ← e1]
    exact ⟨rfl, e4⟩
  · rw [if_neg hc] at h1
    obtain ⟨n2, -, h2⟩ := g_blk_ok (own := "java/lang/Math") noMath jIMin tabMath 2 n1 h1 (c2 := (10, ρ, [(1, ρ 0)], L, g)) rfl
    obtain ⟨e3, e4⟩ := g_ret_un (own := "java/lang/Math") noMath (i := .ireturn) (jIMin 10 _ rfl) (Or.inl rfl) h2
    rw [e3, if_pos (by omega), ← e0]
    exact ⟨rfl, e4⟩
theorem m_max (hx : g_ex ax Lib.Math.max.name Lib.Math.max.code [(0, x), (1, z)] h r h') : r = some (1, max x z) ∧ h' = h := by
  obtain ⟨ρ, n, hρ, hr⟩ := g_run_of hx
  have e0 : ρ 0 = x := hρ (0, x) (List.mem_cons_self ..)
  have e1 : ρ 1 = z := hρ (1, z) (List.mem_cons_of_mem _ (List.mem_cons_self ..))
  obtain ⟨L, g⟩ := h
  obtain ⟨n1, -, h1⟩ := g_blk_ok (own := "java/lang/Math") noMath jIMax tabMath 3 n hr (c2 := (if ρ 0 < ρ 1 then 9 else 5, ρ, [], L, g)) rfl
  rw [Int.max_def]
  by_cases hc : ρ 0 < ρ 1
  · rw [if_pos hc] at h1
    obtain ⟨n2, -, h2⟩ := g_blk_ok (own := "java/lang/Math") noMath jIMax tabMath 1 n1 h1 (c2 := (10, ρ, [(1, ρ 1)], L, g)) rfl
    obtain ⟨e3, e4⟩ := g_ret_un (own := "java/lang/Math") noMath (i := .ireturn) (jIMax 10 _ rfl) (Or.inl rfl) h2
    rw [e3, if_pos (by omega), ← e1]
    exact ⟨rfl, e4⟩
  · rw [if_neg hc] at h1
    obtain ⟨n2, -, h2⟩ := g_blk_ok (own := "java/lang/Math") noMath jIMax tabMath 2 n1 h1 (c2 := (10, ρ, [(1, ρ 0)], L, g)) rfl
    obtain ⟨e3, e4⟩ := g_ret_un (own := "java/lang/Math") noMath (i := .ireturn) (jIMax 10 _ rfl) (Or.inl rfl) h2
    rw [e3, ← e0, ← e1]
    refine ⟨?_, e4⟩
    show some ((1, ρ 0) : g_V) = _
    congr 2
    split <;> omega
end MM
/-- codes of the JDK's own -/
def g_jdk : Bool := gtbl.all (fun w => match w with
  | .code y b _ _ => !(decide (y = arraycopyName)) && (!(decide (y = Lib.Math.min.name)) || decide (b = Lib.Math.min.code)) && (!(decide (y = Lib.Math.max.name)) || decide (b = Lib.Math.max.code))
  | _ => true)
theorem cdk_jdk : g_jdk = true := by decide +kernel
theorem g_jdk_ok {y : MethodName} {b : ByteArray} {nb : Nat} {ret : Option FieldType} (h : Cond.code y b nb ret ∈ gtbl) : y ≠ arraycopyName ∧ (y = Lib.Math.min.name → b = Lib.Math.min.code) ∧ (y = Lib.Math.max.name → b = Lib.Math.max.code) := by
  have h0 := cdk_jdk
  unfold g_jdk at h0
  rw [List.all_eq_true] at h0
  have h1 := h0 _ h
  simp only [Bool.and_eq_true, Bool.or_eq_true, Bool.not_eq_true', decide_eq_false_iff_not, decide_eq_true_eq] at h1
  exact ⟨h1.1.1, fun e => h1.1.2.resolve_left (fun h => h e), fun e => h1.2.resolve_left (fun h => h e)⟩
theorem nmm : Lib.Math.min.name ≠ Lib.Math.max.name ∧ arraycopyName ≠ Lib.Math.min.name ∧ arraycopyName ≠ Lib.Math.max.name := by decide
theorem pmm : (parseMethodDescriptor Lib.Math.min.name.desc).map (fun d => d.parameters.length) = some 2 ∧ (parseMethodDescriptor Lib.Math.max.name.desc).map (fun d => d.parameters.length) = some 2 := by decide +kernel
section MA
variable {own : String} {ax : zAx} {CE : g_E} {ft : List (Nat × EF)} {kt kl : List (Nat × Int)} {lt : LT} {idx pc mi ci na : Nat} {ρ : Nat → Int} {x z : Int} {st : List g_V} {L : List Nat} {g : Nat → Nat → Int} {c' : g_C}
theorem g_min_un (hCE : ∀ y cc as h r h', CE y cc as h r h' → g_ex ax y cc as h r h') (hk : g_lk own ft kt kl lt = true) (hl : lkp lt idx = some (8, mi, ci, na)) (h : g_in own ax CE (.invokestatic idx) 3 (pc, ρ, (1, z) :: (1, x) :: st, L, g) c') : c' = (pc + 3, ρ, (1, min x z) :: st, L, g) := by
  have hx : ∀ y, (Cond.methodLink own idx y ∈ gtbl ∨ (own, idx, y) ∈ znests) → y = Lib.Math.min.name := fun y hy => (g_lnk hk hl hy).2.2.2 rfl
  rcases h with h | ⟨h, -⟩ | ⟨-, h⟩ | ⟨h, -⟩
  · obtain ⟨y, b, nb, ret, av, st0, r, h1, hm, hc, -, hp, hs, hce, hc'⟩ := h
    have hy := hx y hm
    subst hy
    have hb := (g_jdk_ok hc).2.1 rfl
    subst hb
    rw [pmm.1] at hp
    have hlen : av.length = [((1, x) : g_V), (1, z)].length := (Option.some.inj hp).symm
    obtain ⟨e1, e2⟩ := g_apl (as := [(1, x), (1, z)]) (st0 := st) hlen hs.symm
    subst e1
    subst e2
    obtain ⟨e3, e4⟩ := m_min (x := x) (z := z) (hCE _ _ _ _ _ _ hce)
    rw [hc', e3, e4]
    rfl
  · exact absurd (hx _ (Or.inl h)) nmm.2.1
  · exact h
  · exact absurd (hx _ (Or.inl h)) (Ne.symm nmm.1)
theorem g_max_un (hCE : ∀ y cc as h r h', CE y cc as h r h' → g_ex ax y cc as h r h') (hk : g_lk own ft kt kl lt = true) (hl : lkp lt idx = some (7, mi, ci, na)) (h : g_in own ax CE (.invokestatic idx) 3 (pc, ρ, (1, z) :: (1, x) :: st, L, g) c') : c' = (pc + 3, ρ, (1, max x z) :: st, L, g) := by
  have hx : ∀ y, (Cond.methodLink own idx y ∈ gtbl ∨ (own, idx, y) ∈ znests) → y = Lib.Math.max.name := fun y hy => (g_lnk hk hl hy).2.2.1 rfl
  rcases h with h | ⟨h, -⟩ | ⟨h, -⟩ | ⟨-, h⟩
  · obtain ⟨y, b, nb, ret, av, st0, r, h1, hm, hc, -, hp, hs, hce, hc'⟩ := h
    have hy := hx y hm
    subst hy
    have hb := (g_jdk_ok hc).2.2 rfl
    subst hb
    rw [pmm.2] at hp
    have hlen : av.length = [((1, x) : g_V), (1, z)].length := (Option.some.inj hp).symm
    obtain ⟨e1, e2⟩ := g_apl (as := [(1, x), (1, z)]) (st0 := st) hlen hs.symm
    subst e1
    subst e2
    obtain ⟨e3, e4⟩ := m_max (x := x) (z := z) (hCE _ _ _ _ _ _ hce)
    rw [hc', e3, e4]
    rfl
  · exact absurd (hx _ (Or.inl h)) nmm.2.2
  · exact absurd (hx _ (Or.inl h)) nmm.1
  · exact h
theorem g_arr_un (hk : g_lk own ft kt kl lt = true) (hl : lkp lt idx = some (9, mi, ci, na)) (h : g_in own ax CE (.invokestatic idx) 3 (pc, ρ, st, L, g) c') : c' = (pc + 3, ρ, st.drop 5, L, g_cpy g (g_t st 4).toNat (g_t st 3).toNat (g_t st 2).toNat (g_t st 1).toNat (g_t st 0).toNat) := by
  have hx : ∀ y, (Cond.methodLink own idx y ∈ gtbl ∨ (own, idx, y) ∈ znests) → y = arraycopyName := fun y hy => (g_lnk hk hl hy).2.1 rfl
  rcases h with h | ⟨-, h⟩ | ⟨h, -⟩ | ⟨h, -⟩
  · obtain ⟨y, b, nb, ret, av, st0, r, h1, hm, hc, -, hp, hs, hce, hc'⟩ := h
    exact absurd (hx y hm) (g_jdk_ok hc).1
  · exact h
  · exact absurd (hx _ (Or.inl h)) (Ne.symm nmm.2.1)
  · exact absurd (hx _ (Or.inl h)) (Ne.symm nmm.2.2)
end MA
