/-! Rows of numbers: what may lie at the places that a term can mean. -/
def enumT (env : EN) : List (Int × Nat) → Option (List Int)
  | [] => some [0]
  | t :: ts => match enumT env ts with
    | some l => if decide ((ebd env t.2).2 - (ebd env t.2).1 ≤ 2000) && decide (l.length * ((ebd env t.2).2 - (ebd env t.2).1 + 1).toNat ≤ 4000) then some ((List.range ((ebd env t.2).2 - (ebd env t.2).1 + 1).toNat).flatMap (fun (m : Nat) => l.map (fun s => t.1 * ((ebd env t.2).1 + (m : Int)) + s))) else none
    | none => none
theorem enumT_ok {env : EN} {ν : Nat → Int} (h : eok env ν) : ∀ (ts : List (Int × Nat)) (l : List Int), enumT env ts = some l → xvT ν ts ∈ l := by
  intro ts
  induction ts with
  | nil =>
    intro l hl
    cases hl
    exact List.mem_singleton.mpr rfl
  | cons t ts ih =>
    intro l hl
    unfold enumT at hl
    split at hl
    · rename_i l' hl'
      split at hl
      · cases hl
        have hb := h t.2
        refine List.mem_flatMap.mpr ⟨(ν t.2 - (ebd env t.2).1).toNat, List.mem_range.mpr (by omega), List.mem_map.mpr ⟨xvT ν ts, ih l' hl', ?_⟩⟩
        rw [xvT]
        congr 2
        omega
      · cases hl
    · cases hl
def hullL (k : Nat) : List Int → Int × Int × Bool
  | [] => (2147483647, -2147483648, true)
  | z :: zs => (min (kbd k z.toNat).1 (hullL k zs).1, max (kbd k z.toNat).2.1 (hullL k zs).2.1, (kbd k z.toNat).2.2 && (hullL k zs).2.2)
theorem hullL_ok {k : Nat} {B x z : Int} : ∀ l : List Int, z ∈ l → bok B (kbd k z.toNat) x → bok B (hullL k l) x := by
  intro l
  induction l with
  | nil => intro h; cases h
  | cons a l ih =>
    intro hz hb
    rcases List.mem_cons.mp hz with rfl | hz
    · obtain ⟨h1, h2, h3⟩ := hb
      refine ⟨?_, ?_, fun hf => ?_⟩
      · simp only [hullL]; omega
      · simp only [hullL]; omega
      · simp only [hullL, Bool.and_eq_true] at hf
        exact h3 hf.1
    · obtain ⟨h1, h2, h3⟩ := ih hz hb
      refine ⟨?_, ?_, fun hf => ?_⟩
      · simp only [hullL]; omega
      · simp only [hullL]; omega
      · simp only [hullL, Bool.and_eq_true] at hf
        exact h3 hf.2
def hull (k : Nat) (env : EN) (e : EX) : Int × Int × Bool := match (zkd k).2.2 with
  | d :: _ => (d.2.1, d.2.2, false)
  | [] => if !(k == kMTX) && decide (1746 ≤ lb env e) then (-2147483648, 2147483647, false) else match enumT env e.2 with
    | some l => hullL k (l.map (fun z => e.1 + z))
    | none => (-2147483648, 2147483647, false)
theorem hull_ok {k : Nat} {env : EN} {ν : Nat → Int} (h : eok env ν) {e : EX} {B : Int} {x : Int32} (hb : bok B (kbd k (xv ν e).toNat) x.toInt) : bok B (hull k env e) x.toInt := by
  unfold hull
  split
  · rename_i d ds hd
    unfold kbd at hb
    rw [hd] at hb
    exact hb
  · split
    · have := i32r x
      exact ⟨this.1, this.2, fun h => by cases h⟩
    split
    · rename_i l hl
      refine hullL_ok _ (List.mem_map.mpr ⟨xvT ν e.2, enumT_ok h _ _ hl, rfl⟩) ?_
      exact hb
    · have := i32r x
      exact ⟨this.1, this.2, fun h => by cases h⟩
def abB (G : EG) (k : Nat) : Int × Int := match G.2.2.2.2.2.1.find? (fun q => q.1 == k) with
  | some q => q.2
  | none => (-2147483648, 2147483647)
/-- where there is an upper bound B -/
def leB (G : EG) (fl : Bool) (v : EX) : Option EG := if fl then (match gM G 0 (xc 0) with
  | some e => asG G (xsub e v)
  | none => some G) else some G
def addP (G : EG) (id k : Nat) (e : EX) : EG := if (zkd k).2.2.isEmpty then (G.1, G.2.1, G.2.2.1, G.2.2.2.1, G.2.2.2.2.1, G.2.2.2.2.2.1, (id, k, e) :: G.2.2.2.2.2.2) else G
def inb (G : EG) (k : Nat) (ix : EX) : Bool := ge0 G.1 G.2.1 ix && ge0 G.1 G.2.1 (xk (xsc (-1) ix) (((zkd k).2.1 : Int) - 1)) && Nat.ble (zkd k).2.1 2147483648
/-- 8 a[0] ≥ a[1] -/
def l01 (G : EG) (k : Nat) (ix : EX) : Option EG := if (k == kMA || k == kMI) && (ix == (0, []) || ix == (1, [])) then (match gM G k (0, []), gM G k (1, []) with
  | some x, some y => asG G (xsub (xsc 8 x) y)
  | _, _ => some G) else some G
def rdI (k : Nat) (ix : EX) (pc : Nat) (lv : EL) (st : List EV) (G : EG) : Option (List EP) := match gM G k ix with
  | some e => pu1 pc lv st (0, 0, e) G
  | none => if scA lv st G && scE G.1.length ix then (match leB (addP (frG G (max (hull k G.1 ix).1 (abB G k).1) (min (hull k G.1 ix).2.1 (abB G k).2)) G.1.length k ix) (hull k G.1 ix).2.2 (xi G.1.length) with
    | some G' => (match l01 (if Nat.ble 40 k then addM G' k ix (xi G.1.length) else G') k ix with
      | some G2 => pu1 pc lv st (0, 0, xi G.1.length) G2
      | none => some [])
    | none => some []) else none
def sIld (ln pc : Nat) (lv : EL) (st : List EV) (G : EG) : Option (List EP) := match st with
  | (ti, _, ix) :: (t, r, _) :: st' => (match G.2.2.2.1[r]? with
    | some k => if ti == 0 && t == 2 && ln == 1 && (zkd k).1 == 2 && !(k == 0) && Nat.blt k 1000 && inb G k ix then rdI k ix (pc + 1) lv st' G else none
    | none => none)
  | _ => none
section RI
variable {E : zCx} {l0 : Launch} {D0 : va_G} {cy0 : Nat → ClassId} {ax0 : zAx} {own : String} {cc : ByteArray} {nL : Nat} {R0 : Room} {k n : Nat} {K : Nat → Nat} {B : Int} {L : List Nat} {f : Nat → va_E} {ν : Nat → Int} {μ : Nat → Nat} {lv : EL} {st : List EV} {G : EG} {lvc : List (Nat × Value)} {stc : List Value} {i : Instr} {ln pc : Nat} {X : EC}
theorem gM0_ok (h : Wd X K B L f ν μ lv st G lvc stc) {e v : EX} (hg : gM G 0 e = some v) : B = xv ν v := by
  unfold gM at hg
  cases hf : G.2.2.2.2.1.find? (fun q => q.1.1 == 0 && q.1.2 == e) with
  | none => rw [hf] at hg; cases hg
  | some q =>
    rw [hf] at hg
    have h1 := List.find?_some hf
    have h2 := List.mem_of_find?_eq_some hf
    simp only [Bool.and_eq_true, beq_iff_eq] at h1
    simp only [Option.map_some, Option.some.injEq] at hg
    have h3 := h.2.2.2.1.2.2.2.2.1 q h2
    unfold mok at h3
    rw [if_pos h1.1, hg] at h3
    exact h3
theorem leB_ok (h : Wd X K B L f ν μ lv st G lvc stc) {fl : Bool} {v : EX} (hv : fl = true → xv ν v ≤ B) : ∃ G', leB G fl v = some G' ∧ Wd X K B L f ν μ lv st G' lvc stc := by
  unfold leB
  split
  · rename_i hf
    split
    · rename_i e he
      have h1 := gM0_ok h he
      have h2 := hv hf
      exact h.as1 (by rw [xv_sub]; omega)
    · exact ⟨G, rfl, h⟩
  · exact ⟨G, rfl, h⟩
theorem Wd.aP (h : Wd X K B L f ν μ lv st G lvc stc) {id kd : Nat} {e : EX} (hp : pvok K B L f ν μ (id, kd, e)) : Wd X K B L f ν μ lv st (addP G id kd e) lvc stc := by
  unfold addP
  split
  · obtain ⟨hh, hx, hi, ⟨g1, g2, g3, g4, g5, g6, g7⟩, hl, ht⟩ := h
    refine ⟨hh, hx, ?_, ⟨g1, g2, g3, g4, g5, g6, fun q hq => ?_⟩, hl, ht⟩
    · obtain ⟨cy, mods, L0, f0, K0, n0, ν0, r0, μ0⟩ := X
      exact hi
    · rcases List.mem_cons.mp hq with rfl | hq
      · exact hp
      · exact g7 q hq
  · exact h
theorem abB_ok (h : Wd X K B L f ν μ lv st G lvc stc) {kd b j : Nat} {x : Int32} (hb : b ∈ L) (hk : K b = kd) (hj : j < (zkd kd).2.1) (hc : cval K (f b) j = some x.toInt) : (abB G kd).1 ≤ x.toInt ∧ x.toInt ≤ (abB G kd).2 := by
  unfold abB
  split
  · rename_i q hq
    have h1 := List.find?_some hq
    have h2 := List.mem_of_find?_eq_some hq
    have h1' : q.1 = kd := by simpa using h1
    obtain ⟨y, y1, y2, y3⟩ := h.2.2.2.1.2.2.2.2.2.1 q h2 b hb (hk.trans h1'.symm) j (by rw [h1']; exact hj)
    rw [hc] at y1
    have := Option.some.inj y1
    omega
  · exact i32r x
theorem l01_ok (h : Wd X K B L f ν μ lv st G lvc stc) {kd b : Nat} (ix : EX) (hb : b ∈ L) (hk : K b = kd) (hc : ∃ cA N g, f b = .inl (cA, N, .inl g)) : ∃ G', l01 G kd ix = some G' ∧ Wd X K B L f ν μ lv st G' lvc stc := by
  unfold l01
  split
  · rename_i hc1
    have hkd : kd = kMA ∨ kd = kMI := by
      simp only [Bool.and_eq_true, Bool.or_eq_true, beq_iff_eq] at hc1
      exact hc1.1
    split
    · rename_i x y hx hy
      obtain ⟨cA, N, g, hf⟩ := hc
      have h0 : kd ≠ 0 := by rcases hkd with h | h <;> rw [h] <;> decide
      have h1 := (gM_ok h hx h0 hb hk).2
      have h2 := (gM_ok h hy h0 hb hk).2
      have e0 : (xv ν (0, [])).toNat = 0 := rfl
      have e1 : (xv ν (1, [])).toNat = 1 := rfl
      rw [e0, hf] at h1
      rw [e1, hf] at h2
      have h3 : (g 0).toInt = xv ν x := Option.some.inj h1
      have h4 : (g 1).toInt = xv ν y := Option.some.inj h2
      have h5 := h.1.2.2.2.2 b hb (by rw [hk]; exact hkd)
      have h6 : gi (f b) 0 = (g 0).toInt := by rw [hf]; rfl
      have h7 : gi (f b) 1 = (g 1).toInt := by rw [hf]; rfl
      rw [h6, h7] at h5
      exact h.as1 (by rw [xv_sub, xv_sc, ← h3, ← h4]; omega)
    · exact ⟨G, rfl, h⟩
  · exact ⟨G, rfl, h⟩
theorem rdI_ok {kd b N : Nat} {cy : Nat → ClassId} {g : Nat → Int32} {ix : EX} {rs : List EP} {p : Nat} (hw : Wd X K B L f ν μ lv st G lvc stc) (hb : b ∈ L) (hk : K b = kd) (h0 : kd ≠ 0) (hN : (zkd kd).2.1 = N) (hf : f b = zIA cy N g) (hbd : ∀ j, j < N → bok B (kbd kd j) (g j).toInt) (hkd1 : kd < 1000) (hi0 : 0 ≤ xv ν ix) (hiN : xv ν ix < N) (hs : rdI kd ix p lv st G = some rs) (kk : Alls E k n X K B L f rs) : eW E k n L f p lvc (.int (g (xv ν ix).toNat) :: stc) := by
  have hcv : ∀ j, cval K (f b) j = some (g j).toInt := fun j => by rw [hf]; rfl
  unfold rdI at hs
  split at hs
  · rename_i e hg
    have h9 := (gM_ok hw hg h0 hb hk).2
    rw [hcv] at h9
    have h8 : (g (xv ν ix).toNat).toInt = xv ν e := Option.some.inj h9
    refine pu1_go hs kk hw ?_
    rw [cv0 rfl]
    show Value.int (Int32.ofInt (xv ν e)) = _
    rw [← h8, Int32.ofInt_toInt]
  · split at hs
    · rename_i hc
      simp only [Bool.and_eq_true] at hc
      obtain ⟨hsc, hse⟩ := hc
      have hx := hbd (xv ν ix).toNat (by omega)
      have hh := hull_ok (k := kd) hw.2.2.2.1.1 (e := ix) hx
      have ha := abB_ok hw (j := (xv ν ix).toNat) hb hk (by omega) (hcv _)
      obtain ⟨h1, h2, h3⟩ := hh
      have hw2 := hw.fr hsc (z := (g (xv ν ix).toNat).toInt) (lo := max (hull kd G.1 ix).1 (abB G kd).1) (hi := min (hull kd G.1 ix).2.1 (abB G kd).2) (by omega) (by omega)
      have hid : xv (va_up ν G.1.length (g (xv ν ix).toNat).toInt) (xi G.1.length) = (g (xv ν ix).toNat).toInt := by rw [xv_i, va_up_self]
      have hix := xv_upd (ν := ν) hse (g (xv ν ix).toNat).toInt
      have hw3 := hw2.aP (id := G.1.length) (kd := kd) (e := ix) (by
        unfold pvok
        dsimp only
        rw [if_pos hkd1, hix, va_up_self]
        exact hx)
      obtain ⟨G', e1, hw4⟩ := leB_ok hw3 (fl := (hull kd G.1 ix).2.2) (v := xi G.1.length) (fun hfl => by rw [hid]; exact h3 hfl)
      rw [e1] at hs
      have hcv2 : cv (va_up ν G.1.length (g (xv ν ix).toNat).toInt) μ (0, 0, xi G.1.length) = .int (g (xv ν ix).toNat) := by
        rw [cv0 rfl]
        show Value.int (Int32.ofInt (xv _ (xi _))) = _
        rw [hid, Int32.ofInt_toInt]
      dsimp only at hs
      have hw5 : Wd X K B L f (va_up ν G.1.length (g (xv ν ix).toNat).toInt) μ lv st (if Nat.ble 40 kd then addM G' kd ix (xi G.1.length) else G') lvc stc := by
        split
        · rename_i h40
          refine hw4.aM h0 (fun b' hb' hk' => ?_)
          have : b' = b := hw.uni hb' hb (hk'.trans hk.symm) (by rw [hk']; exact Nat.le_of_ble_eq_true h40)
          rw [this, hix, hcv, hid]
          exact ⟨hi0, rfl⟩
        · exact hw4
      obtain ⟨G2, e2, hw6⟩ := l01_ok hw5 ix hb hk ⟨_, _, _, hf⟩
      rw [e2] at hs
      exact pu1_go hs kk hw6 hcv2
    · cases hs
theorem inb_ok (hw : Wd X K B L f ν μ lv st G lvc stc) {kd : Nat} {ix : EX} (hi : inb G kd ix = true) : 0 ≤ xv ν ix ∧ xv ν ix < (zkd kd).2.1 ∧ (Int32.ofInt (xv ν ix)).toInt = xv ν ix ∧ vp_in (Int32.ofInt (xv ν ix)) (zkd kd).2.1 ∧ (Int32.ofInt (xv ν ix)).toNatClampNeg = (xv ν ix).toNat := by
  unfold inb at hi
  simp only [Bool.and_eq_true, Nat.ble_eq] at hi
  have h1 := ge0_ok hw.2.2.2.1.1 hw.2.2.2.1.2.1 hi.1.1
  have h2 := ge0_ok hw.2.2.2.1.1 hw.2.2.2.1.2.1 hi.1.2
  rw [xv_k, xv_sc] at h2
  have h3 := hi.2
  have e := i32i (z := xv ν ix) (by omega) (by omega)
  refine ⟨by omega, by omega, e, ?_, ?_⟩
  · rw [vp_in_iff, e]
    omega
  · show (Int32.ofInt (xv ν ix)).toInt.toNat = _
    rw [e]
theorem sIld_ok {rs : List EP} (hE : zOk E (l0, D0, cy0, ax0) own cc nL R0) (hX : X.1 = cy0) (hd : decode cc pc = .ok (.iaload, ln)) (h : Wd X K B L f ν μ lv st G lvc stc) (hs : sIld ln pc lv st G = some rs) (kk : Alls E k n X K B L f rs) : eW E k n L f pc lvc stc := by
  unfold sIld at hs
  split at hs
  · rename_i ti ri ix t r e0 st'
    split at hs
    · rename_i kd hr
      split at hs
      · rename_i hc
        simp only [Bool.and_eq_true, beq_iff_eq, Bool.not_eq_true', beq_eq_false_iff_ne, Nat.blt_eq] at hc
        obtain ⟨⟨⟨⟨⟨⟨rfl, rfl⟩, rfl⟩, hz⟩, h0⟩, hk1⟩, hin⟩ := hc
        obtain ⟨s1, rfl, hw1⟩ := h.pop
        obtain ⟨s2, rfl, hw⟩ := hw1.pop
        obtain ⟨hb, hk⟩ := h.ref hr
        have hcok := h.1.1 (μ r) hb
        rw [hk] at hcok
        unfold cok at hcok
        rw [hz] at hcok
        obtain ⟨g, hf, hbd⟩ := hcok
        rw [hX] at hf
        obtain ⟨i1, i2, i3, i4, i5⟩ := inb_ok hw hin
        rw [cv0 rfl, cv2 rfl]
        refine h_iald hE hb hf i4 hd ?_
        show eW E k n L f (pc + 1) lvc (.int (g (Int32.ofInt (xv ν ix)).toNatClampNeg) :: s2)
        rw [i5]
        exact rdI_ok hw hb hk h0 rfl hf hbd hk1 i1 i2 hs kk
      · cases hs
    · cases hs
  · cases hs
end RI
