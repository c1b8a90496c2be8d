/-! What is made anew, and constructors. -/
theorem gnrN (i : Nat) : Instr.new i ≠ .return_ ∧ Instr.new i ≠ .ireturn ∧ Instr.new i ≠ .lreturn ∧ Instr.new i ≠ .areturn := ⟨fun h => (by cases h), fun h => (by cases h), fun h => (by cases h), fun h => (by cases h)⟩
theorem gnrI (i : Nat) : Instr.invokespecial i ≠ .return_ ∧ Instr.invokespecial i ≠ .ireturn ∧ Instr.invokespecial i ≠ .lreturn ∧ Instr.invokespecial i ≠ .areturn := ⟨fun h => (by cases h), fun h => (by cases h), fun h => (by cases h), fun h => (by cases h)⟩
theorem gnrA : Instr.newarray .int ≠ .return_ ∧ Instr.newarray .int ≠ .ireturn ∧ Instr.newarray .int ≠ .lreturn ∧ Instr.newarray .int ≠ .areturn := ⟨fun h => (by cases h), fun h => (by cases h), fun h => (by cases h), fun h => (by cases h)⟩
def g_nd (own : String) (idx : Nat) (d : Nat → Int) : Prop := ∃ (ci N : Nat) (C : String) (T : u_T) (ty0 : Nat → FieldType), vwCl[ci]? = some (C, T, N) ∧ Cond.classLink own idx C ∈ gtbl ∧ ∀ j, j < N → parseFieldDescriptor (T j).2.2.1 = some (ty0 j) ∧ d j = g_vi (defaultValue (ty0 j))
def g_spB (own : String) (idx : Nat) (y0 : MethodName) : Bool := gtbl.all (fun w => match w with
  | .methodLink o i y => !(decide (o = own) && Nat.beq i idx) || decide (y = y0)
  | _ => true) && znests.all (fun q => !(decide (q.1 = own) && Nat.beq q.2.1 idx) || decide (q.2.2 = y0))
theorem g_sp_un {own : String} {idx : Nat} {y0 y : MethodName} (h : g_spB own idx y0 = true) (hy : Cond.methodLink own idx y ∈ gtbl ∨ (own, idx, y) ∈ znests) : y = y0 := by
  unfold g_spB at h
  rw [Bool.and_eq_true, List.all_eq_true, List.all_eq_true] at h
  rcases hy with hy | hy
  · have h1 := h.1 _ hy
    simpa using h1
  · have h1 := h.2 _ hy
    simpa using h1
def g_cdB (y0 : MethodName) (b0 : ByteArray) : Bool := gtbl.all (fun w => match w with
  | .code y b _ _ => !(decide (y = y0)) || decide (b = b0)
  | _ => true)
theorem g_cd_un {y0 : MethodName} {b0 b : ByteArray} {nb : Nat} {ret : Option FieldType} (h : g_cdB y0 b0 = true) (hy : Cond.code y0 b nb ret ∈ gtbl) : b = b0 := by
  unfold g_cdB at h
  rw [List.all_eq_true] at h
  have h1 := h _ hy
  simpa using h1
section GI
variable {own : String} {ax : zAx} {CE : g_E} {idx pc : Nat} {ρ : Nat → Int} {st : List g_V} {L : List Nat} {g : Nat → Nat → Int} {c' : g_C} {y0 : MethodName} {b0 : ByteArray}
theorem g_ctor_un (hs : g_spB own idx y0 = true) (hc : g_cdB y0 b0 = true) (as st0 : List g_V) (a : Int) (hp : (parseMethodDescriptor y0.desc).map (fun d => d.parameters.length) = some as.length) (hno : y0 ≠ (objectInit : MethodName)) (hst : st = as.reverse ++ (1, a) :: st0) (h : g_in own ax CE (.invokespecial idx) 3 (pc, ρ, st, L, g) c') : ∃ r1 h1, CE y0 b0 (g_lay 0 ((1, a) :: as)) (L, g) r1 h1 ∧ c' = (pc + 3, ρ, g_push r1 st0, h1) := by
  rcases h with h | ⟨h, -⟩
  · obtain ⟨y, b, nb, ret, a', av, st0', r1, h1, hm, hcd, hu, hp', hs', hce, hc'⟩ := h
    have hy := g_sp_un hs hm
    subst hy
    have hb := g_cd_un hc hcd
    subst hb
    have hlen : av.length = as.length := Option.some.inj (hp'.symm.trans hp)
    rw [hst] at hs'
    obtain ⟨e1, e2⟩ := g_apl hlen hs'.symm
    subst e1
    obtain ⟨e3, e4⟩ := List.cons.inj e2
    have e5 : a' = a := (Prod.mk.inj e3).2
    subst e5
    subst e4
    exact ⟨r1, h1, hce, hc'⟩
  · exact absurd (g_sp_un hs (Or.inl h)).symm hno
theorem noO : g_triv (objectInit : MethodName).cls = false := by decide +kernel
theorem dO : decode ⟨#[0xb1]⟩ 0 = .ok (.return_, 1) := by decide +kernel
theorem cd_obj : g_cdB objectInit ⟨#[0xb1]⟩ = true := by decide +kernel
theorem pn_obj : (parseMethodDescriptor (objectInit : MethodName).desc).map (fun d => d.parameters.length) = some 0 := by decide +kernel
theorem m_obj {as : List (Nat × Int)} {h h' : g_H} {r : Option g_V} (hx : g_ex ax objectInit ⟨#[0xb1]⟩ as h r h') : r = none ∧ h' = h := by
  obtain ⟨ρ, n, hρ, hr⟩ := g_run_of hx
  exact g_retv_un noO dO hr
theorem g_obj_un (hCE : ∀ y cc as h r h', CE y cc as h r h' → g_ex ax y cc as h r h') (hs : g_spB own idx objectInit = true) (h : g_in own ax CE (.invokespecial idx) 3 (pc, ρ, st, L, g) c') : c' = (pc + 3, ρ, st.drop 1, L, g) := by
  rcases h with h | ⟨-, h⟩
  · obtain ⟨y, b, nb, ret, a', av, st0', r1, h1, hm, hcd, hu, hp', hs', hce, hc'⟩ := h
    have hy := g_sp_un hs hm
    subst hy
    have hb := g_cd_un cd_obj hcd
    subst hb
    obtain ⟨e1, e2⟩ := m_obj (hCE _ _ _ _ _ _ hce)
    subst e1
    have hl : av.length = 0 := Option.some.inj (hp'.symm.trans pn_obj)
    have hav : av = [] := List.eq_nil_of_length_eq_zero hl
    subst hav
    rw [hc', e2, hs']
    rfl
  · exact h
end GI
theorem sp_X7_3 : g_spB RX7 3 objectInit = true := by decide +kernel
theorem sp_X3_24 : g_spB RX3 24 yX7_init = true := by decide +kernel
theorem cd_X7_init : g_cdB yX7_init cX7_init = true := by decide +kernel
theorem pn_X7_init : (parseMethodDescriptor yX7_init.desc).map (fun d => d.parameters.length) = some ([] : List g_V).length := by decide +kernel
theorem cl_Text0 : gtbl.all (fun w => match w with
  | .classLink o i c => !(decide (o = RX3) && Nat.beq i 22) || decide (c = RX7)
  | _ => true) = true := by decide +kernel
theorem cl_Text1 : (List.range 13).all (fun ci => match vwCl[ci]? with
  | some r => !(decide (r.1 = RX7)) || (decide (9 ≤ r.2.2) && decide ((r.2.1 0).2.2.1 = "I") && decide ((r.2.1 5).2.2.1 = "I") && decide ((r.2.1 8).2.2.1 = "I"))
  | none => true) = true := by decide +kernel
theorem df_I : (parseFieldDescriptor "I").map (fun t => g_vi (defaultValue t)) = some 0 := by decide +kernel
theorem nd_Text {d : Nat → Int} (h : g_nd RX3 22 d) : d 0 = 0 ∧ d 5 = 0 ∧ d 8 = 0 := by
  obtain ⟨ci, N, C, T, ty0, h1, h2, h3⟩ := h
  have c0 := cl_Text0
  rw [List.all_eq_true] at c0
  have c1 := c0 _ h2
  have hC : C = RX7 := by simpa using c1
  subst hC
  have lc : ci < 13 := (List.getElem?_eq_some_iff.mp h1).1
  have c2 := cl_Text1
  rw [List.all_eq_true] at c2
  have c3 := c2 ci (List.mem_range.mpr lc)
  rw [h1] at c3
  have c4 : (!(decide (RX7 = RX7)) || (decide (9 ≤ N) && decide ((T 0).2.2.1 = "I") && decide ((T 5).2.2.1 = "I") && decide ((T 8).2.2.1 = "I"))) = true := c3
  rw [decide_eq_true rfl] at c4
  simp only [Bool.not_true, Bool.false_or, Bool.and_eq_true, decide_eq_true_eq] at c4
  obtain ⟨⟨⟨n9, t0⟩, t5⟩, t8⟩ := c4
  have z : ∀ j, j < N → (T j).2.2.1 = "I" → d j = 0 := fun j hj ht => by
    obtain ⟨p1, p2⟩ := h3 j hj
    rw [ht] at p1
    have := df_I
    rw [p1] at this
    rw [p2]
    exact Option.some.inj this
  exact ⟨z 0 (by omega) t0, z 5 (by omega) t5, z 8 (by omega) t8⟩
def ftB (ft : List (Nat × EF)) : Bool := ft.all (fun e => match vwCl[e.2.1]? with
  | some r => decide (e.2.2.1 < r.2.2)
  | none => false)
section GK2
variable {own : String} {ft : List (Nat × EF)} {kt kl : List (Nat × Int)} {lt : LT}
theorem g_fr_un2 (hk : g_lk own ft kt kl lt = true) (hf : ftB ft = true) {idx j cat : Nat} {e : EF} (he : lkp ft idx = some e) (h : g_fr own idx j cat) : j = e.2.1 ∧ cat = (if e.2.2.1 = 2 then 2 else 1) := by
  obtain ⟨ci, C, T, N, hc, hj, hq, hcat⟩ := h
  unfold ftB at hf
  rw [List.all_eq_true] at hf
  have hf1 := hf (idx, e) (lkp_in ft he)
  have h1 := g_lk_in hk hq
  cases c1 : vwCl[e.1]? with
  | none =>
    simp only [c1] at hf1
    cases hf1
  | some q =>
    obtain ⟨C', T', N'⟩ := q
    simp only [c1, decide_eq_true_eq] at hf1
    simp only [g_lkw, decide_true, Bool.not_true, Bool.false_or, he, c1, Bool.and_eq_true, decide_eq_true_eq] at h1
    obtain ⟨⟨h2, h3⟩, h4⟩ := h1
    obtain ⟨-, e2⟩ := g_nm_ok c1 hc hf1 hj h2 h3
    refine ⟨e2.symm, ?_⟩
    rw [hcat]
    have h5 : Nat.beq e.2.2.1 2 = decide ((T j).2.2.1 = "J") := by simpa using h4
    by_cases h6 : e.2.2.1 = 2
    · rw [if_pos h6]
      rw [h6] at h5
      exact if_pos (by simpa using h5.symm)
    · rw [if_neg h6]
      have h7 : Nat.beq e.2.2.1 2 = false := by
        cases h : Nat.beq e.2.2.1 2 with
        | false => rfl
        | true => exact absurd (Nat.eq_of_beq_eq_true h) h6
      rw [h7] at h5
      exact if_neg (by simpa using h5.symm)
theorem g_tab_ok2 (hk : g_lk own ft kt kl lt = true) (hf : ftB ft = true) (hs : own ≠ "OwnRain$Tape") : g_tab own (flT ft) (lkp kt) (lkp kl) := by
  refine ⟨fun idx q hq j cat hfr => ?_, fun k v hv => ⟨fun h => hs h.1, fun x hx => ?_⟩, fun k v hv x hx => ?_⟩
  · unfold flT at hq
    cases he : lkp ft idx with
    | none => rw [he] at hq; cases hq
    | some e =>
      rw [he] at hq
      obtain ⟨e1, e2⟩ := g_fr_un2 hk hf he hfr
      rw [e1, e2]
      exact Option.some.inj hq
  · have h1 := g_lk_in hk hx
    simpa only [g_lkw, decide_true, Bool.not_true, Bool.false_or, hv, decide_eq_true_eq] using h1
  · have h1 := g_lk_in hk hx
    simpa only [g_lkw, decide_true, Bool.not_true, Bool.false_or, hv, decide_eq_true_eq] using h1
end GK2
def fX7c : List (Nat × EF) := [(9, 7, 1, 0, false), (15, 7, 2, 0, false), (18, 7, 3, 0, false), (21, 7, 4, 0, false), (24, 7, 6, 0, false), (27, 7, 7, 0, false), (30, 7, 9, 0, false), (33, 7, 10, 0, false), (36, 7, 11, 0, false), (39, 7, 12, 0, false), (42, 7, 5, 0, false)]
theorem lk_X7c : g_lk RX7 fX7c kX7 kkX7 lX7 = true := by decide +kernel
theorem tab_X7c : g_tab RX7 (flT fX7c) (lkp kX7) (lkp kkX7) := g_tab_ok2 lk_X7c (by decide +kernel) (by decide +kernel)
