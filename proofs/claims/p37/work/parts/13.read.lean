/-! Steps that read the heap. -/
def gM (G : EG) (k : Nat) (e : EX) : Option EX := (G.2.2.2.2.1.find? (fun q => q.1.1 == k && q.1.2 == e)).map (fun q => q.2)
def addM (G : EG) (k : Nat) (e v : EX) : EG := (G.1, G.2.1, G.2.2.1, G.2.2.2.1, ((k, e), v) :: G.2.2.2.2.1, G.2.2.2.2.2)
/-- what a place of a table of fields says: class, field, its type (0 int, 1 boolean, 2 long, 3 reference), whether it is final -/
abbrev EF : Type := Nat × Nat × Nat × Bool
def tyOk (t : Nat) (ty : FieldType) : Prop := match t with
  | 0 => ty = .int
  | 1 => ty = .boolean
  | 2 => ty = .long
  | _ => (∃ n, ty = .object n) ∨ ∃ u, ty = .array u
def fldOk (own : String) (index : Nat) (e : EF) : Prop := ∃ (C : String) (T : u_T) (N : Nat) (ty0 : Nat → FieldType) (ty : FieldType), vwCl[e.1]? = some (C, T, N) ∧ (∀ w ∈ u_ws C T N, w ∈ gtbl) ∧ (∀ k, k < N → parseFieldDescriptor (T k).2.2.1 = some (ty0 k)) ∧ (∀ a, a < N → ∀ b, b < N → a ≠ b → (T a).2.1 ≠ (T b).2.1) ∧ e.2.1 < N ∧ Cond.fieldLink own index (T e.2.1).1 (T e.2.1).2.1 (T e.2.1).2.2.1 ∈ gtbl ∧ parseFieldDescriptor (T e.2.1).2.2.1 = some ty ∧ tyOk e.2.2.1 ty ∧ (T e.2.1).2.2.2 = e.2.2.2 ∧ (e.2.2.2 = true → (T e.2.1).1 = own ∨ True)
def pu1 (pc : Nat) (lv : EL) (st : List EV) (v : EV) (G : EG) : Option (List EP) := some [(pc, lv, v :: st, G)]
def addV (G : EG) (q : Nat × Nat × EX) : EG := (G.1, G.2.1, G.2.2.1, G.2.2.2.1, G.2.2.2.2.1, G.2.2.2.2.2.1, q :: G.2.2.2.2.2.2)
def gRC (G : EG) (r j : Nat) : Option EX := (G.2.2.2.2.2.2.find? (fun q => q.1 == r && q.2.1 == 1000 + j)).map (fun q => q.2.2)
def gRM (G : EG) (k j : Nat) : Option Nat := (G.2.2.2.2.2.2.find? (fun q => q.2.1 == 2000 + 100 * k + j)).map (fun q => q.1)
/-- a number in field j of the reference r, of kind k -/
def rdF0 (k j r : Nat) (d : Nat × Int × Int) (pc : Nat) (lv : EL) (st : List EV) (G : EG) : Option (List EP) := match gM G k (xc j) with
  | some e => pu1 pc lv st (0, 0, e) G
  | none => (match gRC G r j with
    | some e => pu1 pc lv st (0, 0, e) G
    | none => if scA lv st G && Nat.blt r G.2.2.2.1.length && Nat.blt j 100 then (if Nat.ble 40 k then pu1 pc lv st (0, 0, xi G.1.length) (addM (frG G d.2.1 d.2.2) k (xc j) (xi G.1.length)) else pu1 pc lv st (0, 0, xi G.1.length) (addV (frG G d.2.1 d.2.2) (r, 1000 + j, xi G.1.length))) else none)
/-- a reference of kind d.2.1 -/
def rdF2 (k j : Nat) (d : Nat × Int × Int) (pc : Nat) (lv : EL) (st : List EV) (G : EG) : Option (List EP) := match gRM G k j with
  | some r => if Nat.blt j 100 then pu1 pc lv st (2, r, xc 0) G else none
  | none => if scA lv st G && Nat.blt j 100 then (if Nat.ble 40 k then pu1 pc lv st (2, G.2.2.2.1.length, xc 0) (addV (frR G d.2.1.toNat) (G.2.2.2.1.length, 2000 + 100 * k + j, xc 0)) else pu1 pc lv st (2, G.2.2.2.1.length, xc 0) (frR G d.2.1.toNat)) else none
/-- a reference or null -/
def rdF3 (k j : Nat) (d : Nat × Int × Int) (pc : Nat) (lv : EL) (st : List EV) (G : EG) : Option (List EP) := match gRM G k j with
  | some r => if Nat.blt j 100 then pu1 pc lv st (2, r, xc 0) G else none
  | none => (match gM G k (xc j) with
    | some e => if e == (0, []) then pu1 pc lv st (3, 0, xc 0) G else if e.2.isEmpty && decide (1 ≤ e.1) && scA lv st G && Nat.blt j 100 && Nat.ble 40 k then pu1 pc lv st (2, G.2.2.2.1.length, xc 0) (addV (frR G e.1.toNat) (G.2.2.2.1.length, 2000 + 100 * k + j, xc 0)) else none
    | none => if decide (d.2.1 = d.2.2) && decide (1 ≤ d.2.1) && scA lv st G && Nat.ble 40 k && Nat.blt j 100 then some [(pc, lv, (3, 0, xc 0) :: st, addM G k (xc j) (xc 0)), (pc, lv, (2, G.2.2.2.1.length, xc 0) :: st, addM (addV (frR G d.2.1.toNat) (G.2.2.2.1.length, 2000 + 100 * k + j, xc 0)) k (xc j) (xc d.2.1))] else none)
/-- a field of an object of kind k -/
def rdF (k j r : Nat) (d : Nat × Int × Int) (pc : Nat) (lv : EL) (st : List EV) (G : EG) : Option (List EP) := match d.1 with
  | 0 => rdF0 k j r d pc lv st G
  | 1 => if scA lv st G then pu1 pc lv st (1, 0, xi G.1.length) (frG G (-9223372036854775808) 9223372036854775807) else none
  | 2 => rdF2 k j d pc lv st G
  | 3 => rdF3 k j d pc lv st G
  | _ => none
def sGet (ft : Nat → Option EF) (idx ln pc : Nat) (lv : EL) (st : List EV) (G : EG) : Option (List EP) := match st with
  | (t, r, _) :: st' => (match G.2.2.2.1[r]?, ft idx with
    | some k, some q => if t == 2 && ln == 3 && (zkd k).1 == 1 && (zkd k).2.1 == q.1 && !(k == 0) && Nat.blt q.2.1 100 then (match (zkd k).2.2[q.2.1]? with
      | some d => rdF k q.2.1 r d (pc + 3) lv st' G
      | none => none) else none
    | _, _ => none)
  | [] => none
section RD
variable {E : zCx} {l0 : Launch} {D0 : va_G} {cy0 : Nat → ClassId} {ax0 : zAx} {own : String} {cc : ByteArray} {nL : Nat} {R0 : Room} {k n : Nat} {mods L0 : List Nat} {f0 : Nat → va_E} {K0 : Nat → Nat} {n0 : Nat} {ν0 : Nat → Int} {r0 : Nat} {μ0 : Nat → Nat} {K : Nat → Nat} {B : Int} {L : List Nat} {f : Nat → va_E} {ν : Nat → Int} {μ : Nat → Nat} {lv : EL} {st : List EV} {G : EG} {lvc : List (Nat × Value)} {stc : List Value} {i : Instr} {ln pc : Nat} {X : EC}
theorem gM_ok (h : Wd X K B L f ν μ lv st G lvc stc) {kk : Nat} {e v : EX} (hg : gM G kk e = some v) (h0 : kk ≠ 0) {b : Nat} (hb : b ∈ L) (hk : K b = kk) : 0 ≤ xv ν e ∧ cval K (f b) (xv ν e).toNat = some (xv ν v) := by
  unfold gM at hg
  cases hf : G.2.2.2.2.1.find? (fun q => q.1.1 == kk && q.1.2 == e) with
  | none => rw [hf] at hg; cases hg
  | some q =>
    rw [hf] at hg
    have h1 := List.find?_some hf
    have h2 := List.mem_of_find?_eq_some hf
    simp only [Bool.and_eq_true, beq_iff_eq] at h1
    simp only [Option.map_some, Option.some.injEq] at hg
    have h3 := h.2.2.2.1.2.2.2.2.1 q h2
    unfold mok at h3
    rw [if_neg (by rw [h1.1]; exact h0), h1.1, h1.2, hg] at h3
    exact h3 b hb hk
theorem Wd.aM (h : Wd X K B L f ν μ lv st G lvc stc) {kk : Nat} {e v : EX} (h0 : kk ≠ 0) (hm : ∀ b ∈ L, K b = kk → 0 ≤ xv ν e ∧ cval K (f b) (xv ν e).toNat = some (xv ν v)) : Wd X K B L f ν μ lv st (addM G kk e v) lvc stc := by
  obtain ⟨hh, hx, hi, ⟨g1, g2, g3, g4, g5, g6, g7⟩, hl, ht⟩ := h
  refine ⟨hh, hx, ?_, ⟨g1, g2, g3, g4, fun q hq => ?_, g6, g7⟩, hl, ht⟩
  · obtain ⟨cy, mods, L0, f0, K0, n0, ν0, r0, μ0⟩ := X
    exact hi
  · rcases List.mem_cons.mp hq with rfl | hq
    · unfold mok
      rw [if_neg h0]
      exact hm
    · exact g5 q hq
theorem Wd.ref (h : Wd X K B L f ν μ lv st G lvc stc) {r kk : Nat} (hr : G.2.2.2.1[r]? = some kk) : μ r ∈ L ∧ K (μ r) = kk := h.2.2.2.1.2.2.2.1 r kk hr
theorem Wd.uni (h : Wd X K B L f ν μ lv st G lvc stc) {b b' : Nat} (hb : b ∈ L) (hb' : b' ∈ L) (he : K b = K b') (h40 : 40 ≤ K b) : b = b' := h.1.2.1 b hb b' hb' he h40
theorem cval_f {b ci : Nat} {fs : List Value} (hf : f b = .inr (ci, fs)) (j : Nat) : cval K (f b) j = (match fs[j]? with
    | some (.int x) => some x.toInt
    | some .null => some 0
    | some (.ref b) => some ((K b : Nat) : Int)
    | _ => none) := by
  rw [hf]
  rfl
theorem pu1_go {v : EV} {rs : List EP} {p : Nat} (hs : pu1 p lv st v G = some rs) (kk : Alls E k n X K B L f rs) (hw : Wd X K B L f ν μ lv st G lvc stc) {w : Value} (hv : cv ν μ v = w) : eW E k n L f p lvc (w :: stc) := by
  unfold pu1 at hs
  cases hs
  rw [← hv]
  exact kk _ (List.mem_singleton.mpr rfl) _ _ _ _ (hw.push v)
theorem Wd.aV (h : Wd X K B L f ν μ lv st G lvc stc) {q : Nat × Nat × EX} (hq : pvok K B L f ν μ q) : Wd X K B L f ν μ lv st (addV G q) lvc stc := by
  obtain ⟨hh, hx, hi, ⟨g1, g2, g3, g4, g5, g6, g7⟩, hl, ht⟩ := h
  refine ⟨hh, hx, ?_, ⟨g1, g2, g3, g4, g5, g6, fun q' hq' => ?_⟩, hl, ht⟩
  · obtain ⟨cy, mods, L0, f0, K0, n0, ν0, r0, μ0⟩ := X
    exact hi
  · rcases List.mem_cons.mp hq' with rfl | hq'
    · exact hq
    · exact g7 q' hq'
theorem gRC_ok (h : Wd X K B L f ν μ lv st G lvc stc) {r j : Nat} {e : EX} (hg : gRC G r j = some e) (hj : j < 1000) : cget (f (μ r)) j = some (.int (Int32.ofInt (xv ν e))) := by
  unfold gRC at hg
  cases hf : G.2.2.2.2.2.2.find? (fun q => q.1 == r && q.2.1 == 1000 + j) with
  | none => rw [hf] at hg; cases hg
  | some q =>
    rw [hf] at hg
    have h1 := List.find?_some hf
    have h2 := List.mem_of_find?_eq_some hf
    simp only [Bool.and_eq_true, beq_iff_eq] at h1
    simp only [Option.map_some, Option.some.injEq] at hg
    have h3 := h.2.2.2.1.2.2.2.2.2.2 q h2
    unfold pvok at h3
    rw [h1.1, h1.2, hg, if_neg (by omega), if_pos (by omega)] at h3
    have : 1000 + j - 1000 = j := by omega
    rw [this] at h3
    exact h3.2
theorem gRM_ok (h : Wd X K B L f ν μ lv st G lvc stc) {k' j r : Nat} (hg : gRM G k' j = some r) (hj : j < 100) {b : Nat} (hb : b ∈ L) (hk : K b = k') : cget (f b) j = some (.ref (μ r)) := by
  unfold gRM at hg
  cases hf : G.2.2.2.2.2.2.find? (fun q => q.2.1 == 2000 + 100 * k' + j) with
  | none => rw [hf] at hg; cases hg
  | some q =>
    rw [hf] at hg
    have h1 := List.find?_some hf
    have h2 := List.mem_of_find?_eq_some hf
    simp only [beq_iff_eq] at h1
    simp only [Option.map_some, Option.some.injEq] at hg
    have h3 := h.2.2.2.1.2.2.2.2.2.2 q h2
    unfold pvok at h3
    rw [h1, hg, if_neg (by omega), if_neg (by omega)] at h3
    have e1 : (2000 + 100 * k' + j - 2000) / 100 = k' := by omega
    have e2 : (2000 + 100 * k' + j - 2000) % 100 = j := by omega
    rw [e1, e2] at h3
    exact h3 b hb hk
theorem cget_f {e : va_E} {ci : Nat} {fs : List Value} (hf : e = .inr (ci, fs)) (j : Nat) : cget e j = fs[j]? := by
  rw [hf]
  rfl
theorem rf_up (b : Nat) (q : Nat) : cv ν (va_up μ q b) (2, q, xc 0) = .ref b := by
  rw [cv2 rfl]
  show Value.ref (va_up μ _ b _) = _
  rw [va_up_self]
theorem rdF0_ok {kd j r ci : Nat} {d : Nat × Int × Int} {fs : List Value} {x : Int32} {rs : List EP} {p : Nat} (hw : Wd X K B L f ν μ lv st G lvc stc) (hb : μ r ∈ L) (hk : K (μ r) = kd) (h0 : kd ≠ 0) (hf : f (μ r) = .inr (ci, fs)) (hv : fs[j]? = some (.int x)) (hx1 : d.2.1 ≤ x.toInt) (hx2 : x.toInt ≤ d.2.2) (hj1 : j < 1000) (hs : rdF0 kd j r d p lv st G = some rs) (kk : Alls E k n X K B L f rs) : eW E k n L f p lvc (.int x :: stc) := by
  have hcv := cval_f (K := K) hf j
  rw [hv] at hcv
  have hj : ∀ ν : Nat → Int, (xv ν (xc j)).toNat = j := fun ν => by rw [xv_c]; omega
  have hj0 : ∀ ν : Nat → Int, 0 ≤ xv ν (xc j) := fun ν => by rw [xv_c]; omega
  unfold rdF0 at hs
  split at hs
  · rename_i e hg
    have h9 := gM_ok hw hg h0 hb hk
    rw [hj, hcv] at h9
    have h8 : x.toInt = xv ν e := Option.some.inj h9.2
    refine pu1_go hs kk hw ?_
    rw [cv0 rfl]
    show Value.int (Int32.ofInt (xv ν e)) = _
    rw [← h8, Int32.ofInt_toInt]
  · split at hs
    · rename_i e hg
      have h9 := gRC_ok hw hg hj1
      rw [cget_f hf, hv] at h9
      refine pu1_go hs kk hw ?_
      rw [cv0 rfl]
      show Value.int (Int32.ofInt (xv ν e)) = _
      exact (Option.some.inj h9).symm
    · split at hs
      · rename_i hsc
        simp only [Bool.and_eq_true, Nat.blt_eq] at hsc
        obtain ⟨⟨hsc, hr⟩, hj2⟩ := hsc
        have hw2 := hw.fr hsc (z := x.toInt) hx1 hx2
        have hcv2 : cv (va_up ν G.1.length x.toInt) μ (0, 0, xi G.1.length) = .int x := by
          rw [cv0 rfl]
          show Value.int (Int32.ofInt (xv _ (xi _))) = _
          rw [xv_i, va_up_self, Int32.ofInt_toInt]
        split at hs
        · rename_i h40
          refine pu1_go hs kk (hw2.aM h0 (fun b' hb' hk' => ?_)) hcv2
          have : b' = μ r := hw.uni hb' hb (hk'.trans hk.symm) (by rw [hk']; exact Nat.le_of_ble_eq_true h40)
          rw [this, hj, hcv, xv_i, va_up_self]
          exact ⟨hj0 _, rfl⟩
        · refine pu1_go hs kk (hw2.aV ?_) hcv2
          unfold pvok
          dsimp only
          rw [if_neg (by omega), if_pos (by omega)]
          have : 1000 + j - 1000 = j := by omega
          refine ⟨hb, ?_⟩
          show cget (f (μ r)) (1000 + j - 1000) = some (.int (Int32.ofInt (xv _ (xi _))))
          rw [this, cget_f hf, hv, xv_i, va_up_self, Int32.ofInt_toInt]
      · cases hs
theorem frM_ok (hw : Wd X K B L f ν μ lv st G lvc stc) (hsc : scA lv st G = true) {b k2 kd j : Nat} (hb2 : b ∈ L) (hk2 : K b = k2) (hj : j < 100) (hm : ∀ m ∈ L, K m = kd → cget (f m) j = some (.ref b)) : Wd X K B L f ν (va_up μ G.2.2.2.1.length b) lv st (addV (frR G k2) (G.2.2.2.1.length, 2000 + 100 * kd + j, xc 0)) lvc stc := by
  refine (hw.frR hsc hb2 hk2).aV ?_
  unfold pvok
  dsimp only
  rw [if_neg (by omega), if_neg (by omega)]
  have e1 : (2000 + 100 * kd + j - 2000) / 100 = kd := by omega
  have e2 : (2000 + 100 * kd + j - 2000) % 100 = j := by omega
  rw [e1, e2, va_up_self]
  exact hm
theorem rdF2_ok {kd j b ci b2 : Nat} {d : Nat × Int × Int} {fs : List Value} {rs : List EP} {p : Nat} (hw : Wd X K B L f ν μ lv st G lvc stc) (hb : b ∈ L) (hk : K b = kd) (hf : f b = .inr (ci, fs)) (hv : fs[j]? = some (.ref b2)) (hb2 : b2 ∈ L) (hk2 : K b2 = d.2.1.toNat) (hs : rdF2 kd j d p lv st G = some rs) (kk : Alls E k n X K B L f rs) : eW E k n L f p lvc (.ref b2 :: stc) := by
  unfold rdF2 at hs
  split at hs
  · rename_i r hg
    split at hs
    · rename_i hj
      have h9 := gRM_ok hw hg (by simpa using hj) hb hk
      rw [cget_f hf, hv] at h9
      refine pu1_go hs kk hw ?_
      rw [cv2 rfl]
      exact (Option.some.inj h9).symm
    · cases hs
  · split at hs
    · rename_i hc
      simp only [Bool.and_eq_true, Nat.blt_eq] at hc
      split at hs
      · rename_i h40
        refine pu1_go hs kk (frM_ok hw hc.1 hb2 hk2 hc.2 (fun m hm hkm => ?_)) (rf_up b2 _)
        have : m = b := hw.uni hm hb (hkm.trans hk.symm) (by rw [hkm]; exact Nat.le_of_ble_eq_true h40)
        rw [this, cget_f hf, hv]
      · exact pu1_go hs kk (hw.frR hc.1 hb2 hk2) (rf_up b2 _)
    · cases hs
theorem rdF3_ok {kd j b ci : Nat} {d : Nat × Int × Int} {fs : List Value} {v : Value} {rs : List EP} {p : Nat} (hw : Wd X K B L f ν μ lv st G lvc stc) (hb : b ∈ L) (hk : K b = kd) (h0 : kd ≠ 0) (hf : f b = .inr (ci, fs)) (hv : fs[j]? = some v) (hfk : v = .null ∨ ∃ b, v = .ref b ∧ b ∈ L ∧ d.2.1 ≤ (K b : Int) ∧ (K b : Int) ≤ d.2.2) (hs : rdF3 kd j d p lv st G = some rs) (kk : Alls E k n X K B L f rs) : eW E k n L f p lvc (v :: stc) := by
  have hcv := cval_f (K := K) hf j
  rw [hv] at hcv
  have hj : ∀ ν : Nat → Int, (xv ν (xc j)).toNat = j := fun ν => by rw [xv_c]; omega
  have hj0 : ∀ ν : Nat → Int, 0 ≤ xv ν (xc j) := fun ν => by rw [xv_c]; omega
  have unq : Nat.ble 40 kd = true → ∀ b' ∈ L, K b' = kd → b' = b := fun h40 b' hb' hk' => hw.uni hb' hb (hk'.trans hk.symm) (by rw [hk']; exact Nat.le_of_ble_eq_true h40)
  unfold rdF3 at hs
  split at hs
  · rename_i r hg
    split at hs
    · rename_i hj
      have h9 := gRM_ok hw hg (by simpa using hj) hb hk
      rw [cget_f hf, hv] at h9
      refine pu1_go hs kk hw ?_
      rw [cv2 rfl]
      exact (Option.some.inj h9).symm
    · cases hs
  · split at hs
    · rename_i e hg
      have h9 := gM_ok hw hg h0 hb hk
      rw [hj] at h9
      have h9 := h9.2
      split at hs
      · rename_i he
        have he' : e = (0, []) := by simpa using he
        subst he'
        rcases hfk with rfl | ⟨b', rfl, hb', -⟩
        · exact pu1_go hs kk hw rfl
        · rw [hcv] at h9
          have h8 : ((K b' : Nat) : Int) = 0 := by
            have := Option.some.inj h9
            simpa [xv, xvT] using this
          have h7 := hw.1.1 b' hb'
          have h6 : K b' = 0 := by omega
          rw [h6] at h7
          exact absurd h7 (by unfold cok; exact id)
      · split at hs
        · rename_i he
          simp only [Bool.and_eq_true, decide_eq_true_eq, Nat.blt_eq] at he
          obtain ⟨⟨⟨⟨he1, he2⟩, he3⟩, hj9⟩, h40⟩ := he
          rw [xv_cst he1, hcv] at h9
          rcases hfk with rfl | ⟨b', rfl, hb', -⟩
          · have := Option.some.inj h9
            omega
          · have h8 : ((K b' : Nat) : Int) = e.1 := Option.some.inj h9
            refine pu1_go hs kk (frM_ok hw (k2 := e.1.toNat) he3 hb' (by omega) hj9 (fun m hm hkm => ?_)) (rf_up b' _)
            rw [unq h40 m hm hkm, cget_f hf, hv]
        · cases hs
    · split at hs
      · rename_i hc
        simp only [Bool.and_eq_true, decide_eq_true_eq, Nat.blt_eq] at hc
        obtain ⟨⟨⟨⟨h1, h2⟩, hsc⟩, h40⟩, hj9⟩ := hc
        cases hs
        rcases hfk with rfl | ⟨b', rfl, hb', hk1, hk2⟩
        · refine kk _ List.mem_cons_self _ _ _ _ ((hw.aM h0 (fun b' hb' hk' => ?_)).push (3, 0, xc 0))
          rw [unq h40 b' hb' hk', hj, hcv]
          exact ⟨hj0 ν, by rw [xv_c]⟩
        · have hk1' : d.2.1 ≤ ((K b' : Nat) : Int) := hk1
          have hk2' : ((K b' : Nat) : Int) ≤ d.2.2 := hk2
          have hw2 := frM_ok hw hsc (b := b') (k2 := d.2.1.toNat) (kd := kd) (j := j) hb' (by omega) hj9 (fun m hm hkm => by rw [unq h40 m hm hkm, cget_f hf, hv])
          have hw3 := (hw2.aM (kk := kd) (e := xc j) (v := xc d.2.1) h0 (fun b2 hb2 hk' => ?_)).push (2, G.2.2.2.1.length, xc 0)
          · rw [rf_up] at hw3
            exact kk _ (List.mem_cons_of_mem _ (List.mem_singleton.mpr rfl)) _ _ _ _ hw3
          · rw [unq h40 b2 hb2 hk', hj, hcv]
            exact ⟨hj0 ν, by rw [xv_c]; show some ((K b' : Nat) : Int) = some d.2.1; congr 1; omega⟩
      · cases hs
theorem rdF_ok {kd j r ci : Nat} {d : Nat × Int × Int} {fs : List Value} {v : Value} {rs : List EP} {p : Nat} (hw : Wd X K B L f ν μ lv st G lvc stc) (hb : μ r ∈ L) (hk : K (μ r) = kd) (h0 : kd ≠ 0) (hf : f (μ r) = .inr (ci, fs)) (hv : fs[j]? = some v) (hj1 : j < 1000) (hfk : fok K L d v) (hs : rdF kd j r d p lv st G = some rs) (kk : Alls E k n X K B L f rs) : eW E k n L f p lvc (v :: stc) := by
  obtain ⟨t, lo, hi⟩ := d
  match t with
  | 0 =>
    obtain ⟨x, rfl, hx1, hx2⟩ := hfk
    exact rdF0_ok hw hb hk h0 hf hv hx1 hx2 hj1 hs kk
  | 1 =>
    obtain ⟨x, rfl⟩ := hfk
    have hs' : (if scA lv st G then pu1 p lv st (1, 0, xi G.1.length) (frG G (-9223372036854775808) 9223372036854775807) else none) = some rs := hs
    split at hs'
    · rename_i hsc
      have h1 := Int64.le_toInt x
      have h2 := Int64.toInt_lt x
      refine pu1_go hs' kk (hw.fr hsc (z := x.toInt) (by omega) (by omega)) ?_
      rw [cv1 rfl]
      show Value.long (Int64.ofInt (xv _ (xi _))) = _
      rw [xv_i, va_up_self, Int64.ofInt_toInt]
    · cases hs'
  | 2 =>
    obtain ⟨b', rfl, hb', hk'⟩ := hfk
    exact rdF2_ok hw hb hk hf hv hb' hk' hs kk
  | 3 => exact rdF3_ok hw hb hk h0 hf hv hfk hs kk
  | t + 4 => cases hs
theorem sGet_ok {ft : Nat → Option EF} {idx : Nat} {rs : List EP} (hE : zOk E (l0, D0, cy0, ax0) own cc nL R0) (hft : ∀ idx e, ft idx = some e → fldOk own idx e) (hd : decode cc pc = .ok (.getfield idx, ln)) (h : Wd X K B L f ν μ lv st G lvc stc) (hs : sGet ft idx ln pc lv st G = some rs) (kk : Alls E k n X K B L f rs) : eW E k n L f pc lvc stc := by
  unfold sGet at hs
  split at hs
  · rename_i t r e0 st'
    split at hs
    · rename_i kd q hr hq
      split at hs
      · rename_i hc
        simp only [Bool.and_eq_true, beq_iff_eq, Bool.not_eq_true', beq_eq_false_iff_ne, Nat.blt_eq] at hc
        obtain ⟨⟨⟨⟨⟨rfl, rfl⟩, hz1⟩, hz2⟩, h0⟩, hj9⟩ := hc
        split at hs
        · rename_i d hdd
          obtain ⟨s1, rfl, hw⟩ := h.pop
          obtain ⟨hb, hk⟩ := h.ref hr
          have hcok := h.1.1 (μ r) hb
          rw [hk] at hcok
          unfold cok at hcok
          rw [hz1] at hcok
          obtain ⟨fs, hf, hlen, hfd⟩ := hcok
          obtain ⟨v, hv, hfk⟩ := hfd _ d hdd
          obtain ⟨C, T, N, ty0, ty, c1, c2, c3, c4, c5, c6, -⟩ := hft idx q hq
          rw [cv2 rfl]
          exact h_get hE hb (by rw [hf, hz2]) c1 c2 q.2.1 c5 c6 hv hd (rdF_ok hw hb hk h0 hf hv (by omega) hfk hs kk)
        · cases hs
      · cases hs
    · cases hs
  · cases hs
end RD
