/-! Links: what the tables' words say is told once alone. -/
abbrev LT : Type := List (Nat × Nat × Nat × Nat × Nat)
def g_lkw (own : String) (ft : List (Nat × EF)) (kt kl : List (Nat × Int)) (lt : LT) (w : Cond) : Bool := match w with
  | .fieldLink o i c n d => !(decide (o = own)) || (match lkp ft i with
    | some e => (match vwCl[e.1]? with
      | some r => decide ((r.2.1 e.2.1).1 = c) && decide ((r.2.1 e.2.1).2.1 = n) && (Nat.beq e.2.2.1 2 == decide (d = "J"))
      | none => false)
    | none => true)
  | .constant o k v => !(decide (o = own)) || (match lkp kt k with
    | some z => decide (v.toInt = z)
    | none => true)
  | .constantLong o k v => !(decide (o = own)) || (match lkp kl k with
    | some z => decide (v.toInt = z)
    | none => true)
  | .methodLink o i y => !(decide (o = own)) || (match lkp lt i with
    | some e => if Nat.ble e.1 1 then decide (y = (mt e.2.1).1) else if Nat.beq e.1 9 then decide (y = arraycopyName) else if Nat.beq e.1 7 then decide (y = Lib.Math.max.name) else if Nat.beq e.1 8 then decide (y = Lib.Math.min.name) else false
    | none => true)
  | _ => true
def g_lk (own : String) (ft : List (Nat × EF)) (kt kl : List (Nat × Int)) (lt : LT) : Bool := gtbl.all (fun w => g_lkw own ft kt kl lt w) && znests.all (fun q => !(decide (q.1 = own)) || (match lkp lt q.2.1 with
    | some e => Nat.beq e.1 2 && decide (q.2.2 = (mt e.2.1).1)
    | none => true))
theorem g_nm : ((List.range 13).all fun a => (List.range 13).all fun b => match vwCl[a]?, vwCl[b]? with
  | some r, some q => (List.range r.2.2).all fun i => (List.range q.2.2).all fun j => !(decide ((r.2.1 i).1 = (q.2.1 j).1) && decide ((r.2.1 i).2.1 = (q.2.1 j).2.1)) || (Nat.beq a b && Nat.beq i j)
  | _, _ => true) = true := by decide +kernel
theorem g_nm_ok {a b i j N M : Nat} {C C' : String} {T T' : u_T} (ha : vwCl[a]? = some (C, T, N)) (hb : vwCl[b]? = some (C', T', M)) (hi : i < N) (hj : j < M) (h1 : (T i).1 = (T' j).1) (h2 : (T i).2.1 = (T' j).2.1) : a = b ∧ i = j := by
  have la : a < 13 := (List.getElem?_eq_some_iff.mp ha).1
  have lb : b < 13 := (List.getElem?_eq_some_iff.mp hb).1
  have h := g_nm
  rw [List.all_eq_true] at h
  have h3 := h a (List.mem_range.mpr la)
  rw [List.all_eq_true] at h3
  have h4 := h3 b (List.mem_range.mpr lb)
  rw [ha, hb] at h4
  have h5 : ((List.range N).all fun i => (List.range M).all fun j => !(decide ((T i).1 = (T' j).1) && decide ((T i).2.1 = (T' j).2.1)) || (Nat.beq a b && Nat.beq i j)) = true := h4
  rw [List.all_eq_true] at h5
  have h6 := h5 i (List.mem_range.mpr hi)
  rw [List.all_eq_true] at h6
  have h7 := h6 j (List.mem_range.mpr hj)
  simp only [h1, h2, decide_true, Bool.and_self, Bool.not_true, Bool.false_or, Bool.and_eq_true] at h7
  exact ⟨Nat.eq_of_beq_eq_true h7.1, Nat.eq_of_beq_eq_true h7.2⟩
section GK
variable {own : String} {ft : List (Nat × EF)} {kt kl : List (Nat × Int)} {lt : LT}
theorem g_lk_in (hk : g_lk own ft kt kl lt = true) {w : Cond} (hw : w ∈ gtbl) : g_lkw own ft kt kl lt w = true := by
  unfold g_lk at hk
  rw [Bool.and_eq_true, List.all_eq_true] at hk
  exact hk.1 w hw
theorem g_fr_un (hk : g_lk own ft kt kl lt = true) (hf : ∀ e ∈ ft, fldOk own e.1 e.2) {idx j cat : Nat} {e : EF} (he : lkp ft idx = some e) (h : g_fr own idx j cat) : j = e.2.1 ∧ cat = (if e.2.2.1 = 2 then 2 else 1) := by
  obtain ⟨ci, C, T, N, hc, hj, hq, hcat⟩ := h
  obtain ⟨C', T', N', ty0, ty, c1, -, -, -, c5, -⟩ := hf (idx, e) (lkp_in ft he)
  have h1 := g_lk_in hk hq
  simp only [g_lkw, decide_true, Bool.not_true, Bool.false_or, he, c1, Bool.and_eq_true, decide_eq_true_eq] at h1
  obtain ⟨⟨h2, h3⟩, h4⟩ := h1
  obtain ⟨-, e2⟩ := g_nm_ok c1 hc c5 hj h2 h3
  refine ⟨e2.symm, ?_⟩
  rw [hcat]
  have h5 : Nat.beq e.2.2.1 2 = decide ((T j).2.2.1 = "J") := by simpa using h4
  by_cases h6 : e.2.2.1 = 2
  · rw [if_pos h6]
    rw [h6] at h5
    exact if_pos (by simpa using h5.symm)
  · rw [if_neg h6]
    have h7 : Nat.beq e.2.2.1 2 = false := by
      cases h : Nat.beq e.2.2.1 2 with
      | false => rfl
      | true => exact absurd (Nat.eq_of_beq_eq_true h) h6
    rw [h7] at h5
    exact if_neg (by simpa using h5.symm)
def flT (ft : List (Nat × EF)) (idx : Nat) : Option (Nat × Nat) := (lkp ft idx).map (fun e => (e.2.1, if e.2.2.1 = 2 then 2 else 1))
theorem g_tab_ok (hk : g_lk own ft kt kl lt = true) (hf : ∀ e ∈ ft, fldOk own e.1 e.2) (hs : own = "OwnRain$Tape" → lkp kt 61 = none ∧ lkp kt 68 = none) : g_tab own (flT ft) (lkp kt) (lkp kl) := by
  refine ⟨fun idx q hq j cat hfr => ?_, fun k v hv => ⟨fun h => ?_, fun x hx => ?_⟩, fun k v hv x hx => ?_⟩
  · unfold flT at hq
    cases he : lkp ft idx with
    | none => rw [he] at hq; cases hq
    | some e =>
      rw [he] at hq
      obtain ⟨e1, e2⟩ := g_fr_un hk hf he hfr
      rw [e1, e2]
      exact Option.some.inj hq
  · obtain ⟨h1, h2⟩ := h
    obtain ⟨h3, h4⟩ := hs h1
    rcases h2 with rfl | rfl
    · rw [h3] at hv; cases hv
    · rw [h4] at hv; cases hv
  · have h1 := g_lk_in hk hx
    simpa only [g_lkw, decide_true, Bool.not_true, Bool.false_or, hv, decide_eq_true_eq] using h1
  · have h1 := g_lk_in hk hx
    simpa only [g_lkw, decide_true, Bool.not_true, Bool.false_or, hv, decide_eq_true_eq] using h1
theorem g_lnk (hk : g_lk own ft kt kl lt = true) {idx mode mi ci na : Nat} (hl : lkp lt idx = some (mode, mi, ci, na)) {y : MethodName} (hm : Cond.methodLink own idx y ∈ gtbl ∨ (own, idx, y) ∈ znests) : (mode ≤ 2 → y = (mt mi).1) ∧ (mode = 9 → y = arraycopyName) ∧ (mode = 7 → y = Lib.Math.max.name) ∧ (mode = 8 → y = Lib.Math.min.name) := by
  rcases hm with hm | hm
  · have h1 := g_lk_in hk hm
    simp only [g_lkw, decide_true, Bool.not_true, Bool.false_or, hl] at h1
    split at h1
    · rename_i h2
      have h3 := Nat.le_of_ble_eq_true h2
      refine ⟨fun _ => by simpa using h1, fun h => by omega, fun h => by omega, fun h => by omega⟩
    · split at h1
      · rename_i h2
        have h3 := Nat.eq_of_beq_eq_true h2
        refine ⟨fun _ => by omega, fun h => by simpa using h1, fun h => by omega, fun h => by omega⟩
      · split at h1
        · rename_i h2
          have h3 := Nat.eq_of_beq_eq_true h2
          refine ⟨fun _ => by omega, fun h => by omega, fun h => by simpa using h1, fun h => by omega⟩
        · split at h1
          · rename_i h2
            have h3 := Nat.eq_of_beq_eq_true h2
            refine ⟨fun _ => by omega, fun h => by omega, fun h => by omega, fun h => by simpa using h1⟩
          · cases h1
  · unfold g_lk at hk
    rw [Bool.and_eq_true, List.all_eq_true, List.all_eq_true] at hk
    have h1 := hk.2 _ hm
    simp only [decide_true, Bool.not_true, Bool.false_or, hl, Bool.and_eq_true, decide_eq_true_eq] at h1
    have h3 := Nat.eq_of_beq_eq_true h1.1
    exact ⟨fun _ => h1.2, fun h => by omega, fun h => by omega, fun h => by omega⟩
end GK
