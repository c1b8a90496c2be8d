/-! Other rows that are read. -/
def sZld (ln pc : Nat) (lv : EL) (st : List EV) (G : EG) : Option (List EP) := match st with
  | (ti, _, ix) :: (t, r, _) :: st' => (match G.2.2.2.1[r]? with
    | some k => if ti == 0 && t == 2 && ln == 1 && (zkd k).1 == 3 && inb G k ix && scA lv st' G then pu1 (pc + 1) lv st' (0, 0, xi G.1.length) (frG G (-2147483648) 2147483647) else none
    | none => none)
  | _ => none
def sJld (ln pc : Nat) (lv : EL) (st : List EV) (G : EG) : Option (List EP) := match st with
  | (ti, _, ix) :: (t, r, _) :: st' => (match G.2.2.2.1[r]? with
    | some k => if ti == 0 && t == 2 && ln == 1 && (zkd k).1 == 4 && inb G k ix && scA lv st' G then pu1 (pc + 1) lv st' (1, 0, xi G.1.length) (frG G (-9223372036854775808) 9223372036854775807) else none
    | none => none)
  | _ => none
def kelx (k : Nat) (ix : EX) : Option Nat := if ix.2.isEmpty then some (kel k ix.1.toNat) else match (zkd k).2.2 with
  | d :: _ => if d.2.2 == 0 then some d.2.1.toNat else none
  | [] => none
def rdT (k : Nat) (ix : EX) (pc : Nat) (lv : EL) (st : List EV) (G : EG) : Option (List EP) := match gM G k ix with
  | some e => if e == (0, []) then pu1 pc lv st (3, 0, xc 0) G else if e == (20, []) && scA lv st G then pu1 pc lv st (2, G.2.2.2.1.length, xc 0) (frR G 20) else none
  | none => if scA lv st G then (if Nat.ble 40 k then some [(pc, lv, (3, 0, xc 0) :: st, addM G k ix (xc 0)), (pc, lv, (2, G.2.2.2.1.length, xc 0) :: st, addM (frR G 20) k ix (xc 20))] else some [(pc, lv, (3, 0, xc 0) :: st, G), (pc, lv, (2, G.2.2.2.1.length, xc 0) :: st, frR G 20)]) else none
def sRld (ln pc : Nat) (lv : EL) (st : List EV) (G : EG) : Option (List EP) := match st with
  | (ti, _, ix) :: (t, r, _) :: st' => (match G.2.2.2.1[r]? with
    | some k => if ti == 0 && t == 2 && ln == 1 && inb G k ix && !(k == 0) then (if (zkd k).1 == 5 then (match kelx k ix with
      | some k' => if scA lv st' G then pu1 (pc + 1) lv st' (2, G.2.2.2.1.length, xc 0) (frR G k') else none
      | none => none) else if (zkd k).1 == 6 then rdT k ix (pc + 1) lv st' G else none) else none
    | none => none)
  | _ => none
def sLen (ln pc : Nat) (lv : EL) (st : List EV) (G : EG) : Option (List EP) := match st with
  | (t, r, _) :: st' => (match G.2.2.2.1[r]? with
    | some k => if t == 2 && ln == 1 && (zkd k).1 == 2 && Nat.ble (zkd k).2.1 2147483647 then pu1 (pc + 1) lv st' (0, 0, xc ((zkd k).2.1 : Nat)) G else none
    | none => none)
  | _ => none
section RJ
variable {E : zCx} {l0 : Launch} {D0 : va_G} {cy0 : Nat → ClassId} {ax0 : zAx} {own : String} {cc : ByteArray} {nL : Nat} {R0 : Room} {k n : Nat} {K : Nat → Nat} {B : Int} {L : List Nat} {f : Nat → va_E} {ν : Nat → Int} {μ : Nat → Nat} {lv : EL} {st : List EV} {G : EG} {lvc : List (Nat × Value)} {stc : List Value} {i : Instr} {ln pc : Nat} {X : EC}
theorem Wd.cok (h : Wd X K B L f ν μ lv st G lvc stc) {r kd : Nat} (hr : G.2.2.2.1[r]? = some kd) : μ r ∈ L ∧ K (μ r) = kd ∧ cok X.1 K B L kd (f (μ r)) := by
  obtain ⟨hb, hk⟩ := h.ref hr
  have := h.1.1 (μ r) hb
  rw [hk] at this
  exact ⟨hb, hk, this⟩
theorem sZld_ok {rs : List EP} (hE : zOk E (l0, D0, cy0, ax0) own cc nL R0) (hX : X.1 = cy0) (hd : decode cc pc = .ok (.baload, ln)) (h : Wd X K B L f ν μ lv st G lvc stc) (hs : sZld ln pc lv st G = some rs) (kk : Alls E k n X K B L f rs) : eW E k n L f pc lvc stc := by
  unfold sZld at hs
  split at hs
  · rename_i ti ri ix t r e0 st'
    split at hs
    · rename_i kd hr
      split at hs
      · rename_i hc
        simp only [Bool.and_eq_true, beq_iff_eq] at hc
        obtain ⟨⟨⟨⟨⟨rfl, rfl⟩, rfl⟩, hz⟩, hin⟩, hsc⟩ := hc
        obtain ⟨s1, rfl, hw1⟩ := h.pop
        obtain ⟨s2, rfl, hw⟩ := hw1.pop
        obtain ⟨hb, hk, hcok⟩ := h.cok hr
        unfold cok at hcok
        rw [hz] at hcok
        obtain ⟨g, hf⟩ := hcok
        rw [hX] at hf
        obtain ⟨i1, i2, i3, i4, i5⟩ := inb_ok hw hin
        rw [cv0 rfl, cv2 rfl]
        refine h_zald hE hb hf i4 hd ?_
        refine pu1_go hs kk (hw.fr hsc (z := (g (Int32.ofInt (xv ν ix)).toNatClampNeg).toInt) (i32r _).1 (i32r _).2) ?_
        rw [cv0 rfl]
        show Value.int (Int32.ofInt (xv _ (xi _))) = _
        rw [xv_i, va_up_self, Int32.ofInt_toInt]
      · cases hs
    · cases hs
  · cases hs
theorem sJld_ok {rs : List EP} (hE : zOk E (l0, D0, cy0, ax0) own cc nL R0) (hX : X.1 = cy0) (hd : decode cc pc = .ok (.laload, ln)) (h : Wd X K B L f ν μ lv st G lvc stc) (hs : sJld ln pc lv st G = some rs) (kk : Alls E k n X K B L f rs) : eW E k n L f pc lvc stc := by
  unfold sJld at hs
  split at hs
  · rename_i ti ri ix t r e0 st'
    split at hs
    · rename_i kd hr
      split at hs
      · rename_i hc
        simp only [Bool.and_eq_true, beq_iff_eq] at hc
        obtain ⟨⟨⟨⟨⟨rfl, rfl⟩, rfl⟩, hz⟩, hin⟩, hsc⟩ := hc
        obtain ⟨s1, rfl, hw1⟩ := h.pop
        obtain ⟨s2, rfl, hw⟩ := hw1.pop
        obtain ⟨hb, hk, hcok⟩ := h.cok hr
        unfold cok at hcok
        rw [hz] at hcok
        obtain ⟨g, hf⟩ := hcok
        rw [hX] at hf
        obtain ⟨i1, i2, i3, i4, i5⟩ := inb_ok hw hin
        rw [cv0 rfl, cv2 rfl]
        refine h_lald hE hb hf i4 hd ?_
        have h1 := Int64.le_toInt (g (Int32.ofInt (xv ν ix)).toNatClampNeg)
        have h2 := Int64.toInt_lt (g (Int32.ofInt (xv ν ix)).toNatClampNeg)
        refine pu1_go hs kk (hw.fr hsc (z := (g (Int32.ofInt (xv ν ix)).toNatClampNeg).toInt) (by omega) (by omega)) ?_
        rw [cv1 rfl]
        show Value.long (Int64.ofInt (xv _ (xi _))) = _
        rw [xv_i, va_up_self, Int64.ofInt_toInt]
      · cases hs
    · cases hs
  · cases hs
theorem kelx_ok {kd k' : Nat} {ix : EX} (h : kelx kd ix = some k') : kel kd (xv ν ix).toNat = k' := by
  unfold kelx at h
  split at h
  · rename_i hc
    rw [xv_cst hc]
    exact Option.some.inj h
  · split at h
    · rename_i d ds hd
      split at h
      · rename_i h0
        have h0' : d.2.2 = 0 := by simpa using h0
        unfold kel
        rw [hd]
        simp only [h0', Int.toNat_zero, Nat.mul_zero, Nat.add_zero]
        exact Option.some.inj h
      · cases h
    · cases h
theorem rfR (b : Nat) (q : Nat) : cv ν (va_up μ q b) (2, q, xc 0) = .ref b := by
  rw [cv2 rfl]
  show Value.ref (va_up μ _ b _) = _
  rw [va_up_self]
theorem rdT_ok {kd b N : Nat} {cA : ClassId} {g : Nat → Option Nat} {ix : EX} {rs : List EP} {p : Nat} (hw : Wd X K B L f ν μ lv st G lvc stc) (hb : b ∈ L) (hk : K b = kd) (h0 : kd ≠ 0) (hf : f b = zRA cA N g) (hg : ∀ i b, g i = some b → b ∈ L ∧ K b = 20) (hi0 : 0 ≤ xv ν ix) (hs : rdT kd ix p lv st G = some rs) (kk : Alls E k n X K B L f rs) : eW E k n L f p lvc (va_rf (g (xv ν ix).toNat) :: stc) := by
  have hcv : cval K (f b) (xv ν ix).toNat = (match g (xv ν ix).toNat with
    | some b => some ((K b : Nat) : Int)
    | none => some 0) := by rw [hf]; rfl
  have unq : Nat.ble 40 kd = true → ∀ b' ∈ L, K b' = kd → b' = b := fun h40 b' hb' hk' => hw.uni hb' hb (hk'.trans hk.symm) (by rw [hk']; exact Nat.le_of_ble_eq_true h40)
  unfold rdT at hs
  cases hgi : g (xv ν ix).toNat with
  | none =>
    rw [hgi] at hcv
    show eW E k n L f p lvc (.null :: stc)
    split at hs
    · rename_i e he
      have h9 := (gM_ok hw he h0 hb hk).2
      rw [hcv] at h9
      split at hs
      · exact pu1_go hs kk hw rfl
      · split at hs
        · rename_i hc
          simp only [Bool.and_eq_true, beq_iff_eq] at hc
          rw [hc.1] at h9
          have h8 : (0 : Int) = 20 := by simpa [xv, xvT] using h9
          omega
        · cases hs
    · split at hs
      · rename_i hsc
        split at hs
        · rename_i h40
          cases hs
          refine kk _ List.mem_cons_self _ _ _ _ ((hw.aM h0 (fun b' hb' hk' => ?_)).push (3, 0, xc 0))
          rw [unq h40 b' hb' hk', hcv]
          exact ⟨hi0, by rw [xv_c]⟩
        · cases hs
          exact kk _ List.mem_cons_self _ _ _ _ (hw.push (3, 0, xc 0))
      · cases hs
  | some b2 =>
    rw [hgi] at hcv
    obtain ⟨hb2, hk2⟩ := hg _ _ hgi
    show eW E k n L f p lvc (.ref b2 :: stc)
    have hcv' : cval K (f b) (xv ν ix).toNat = some 20 := by rw [hcv]; show some ((K b2 : Nat) : Int) = _; rw [hk2]; rfl
    split at hs
    · rename_i e he
      have h9 := (gM_ok hw he h0 hb hk).2
      rw [hcv'] at h9
      split at hs
      · rename_i hc
        have hc' : e = (0, []) := by simpa using hc
        rw [hc'] at h9
        have h8 : (20 : Int) = 0 := by simpa [xv, xvT] using h9
        omega
      · split at hs
        · rename_i hc
          simp only [Bool.and_eq_true, beq_iff_eq] at hc
          exact pu1_go hs kk (hw.frR hc.2 hb2 hk2) (rfR b2 _)
        · cases hs
    · split at hs
      · rename_i hsc
        have hw2 := hw.frR hsc hb2 hk2
        split at hs
        · rename_i h40
          cases hs
          have hw3 := (hw2.aM (kk := kd) (e := ix) (v := xc 20) h0 (fun b' hb' hk' => ?_)).push (2, G.2.2.2.1.length, xc 0)
          · rw [rfR] at hw3
            exact kk _ (List.mem_cons_of_mem _ (List.mem_singleton.mpr rfl)) _ _ _ _ hw3
          · rw [unq h40 b' hb' hk', hcv']
            exact ⟨hi0, by rw [xv_c]⟩
        · cases hs
          have hw3 := hw2.push (2, G.2.2.2.1.length, xc 0)
          rw [rfR] at hw3
          exact kk _ (List.mem_cons_of_mem _ (List.mem_singleton.mpr rfl)) _ _ _ _ hw3
      · cases hs
theorem sRld_ok {rs : List EP} (hE : zOk E (l0, D0, cy0, ax0) own cc nL R0) (hX : X.1 = cy0) (hd : decode cc pc = .ok (.aaload, ln)) (h : Wd X K B L f ν μ lv st G lvc stc) (hs : sRld ln pc lv st G = some rs) (kk : Alls E k n X K B L f rs) : eW E k n L f pc lvc stc := by
  unfold sRld at hs
  split at hs
  · rename_i ti ri ix t r e0 st'
    split at hs
    · rename_i kd hr
      split at hs
      · rename_i hc
        simp only [Bool.and_eq_true, beq_iff_eq, Bool.not_eq_true', beq_eq_false_iff_ne] at hc
        obtain ⟨⟨⟨⟨rfl, rfl⟩, rfl⟩, hin⟩, h0⟩ := hc
        obtain ⟨s1, rfl, hw1⟩ := h.pop
        obtain ⟨s2, rfl, hw⟩ := hw1.pop
        obtain ⟨hb, hk, hcok⟩ := h.cok hr
        obtain ⟨i1, i2, i3, i4, i5⟩ := inb_ok hw hin
        rw [cv0 rfl, cv2 rfl]
        split at hs
        · rename_i hz
          have hz' : (zkd kd).1 = 5 := by simpa using hz
          unfold cok at hcok
          rw [hz'] at hcok
          obtain ⟨g, hf, hg, -⟩ := hcok
          rw [hX] at hf
          split at hs
          · rename_i k' hk'
            split at hs
            · rename_i hsc
              obtain ⟨b2, hg2, hb2, hk2⟩ := hg (xv ν ix).toNat (by omega)
              refine h_aald (C := "OwnRain$World") hE hb (Or.inr ⟨rfl, rfl⟩) hf i4 hd ?_
              rw [i5, hg2]
              exact pu1_go hs kk (hw.frR hsc hb2 (hk2.trans (kelx_ok hk'))) (rfR b2 _)
            · cases hs
          · cases hs
        · split at hs
          · rename_i hz0 hz
            have hz' : (zkd kd).1 = 6 := by simpa using hz
            unfold cok at hcok
            rw [hz'] at hcok
            obtain ⟨g, hf, hg⟩ := hcok
            rw [hX] at hf
            refine h_aald (C := "OwnRain$Text") hE hb (Or.inl ⟨rfl, rfl⟩) hf i4 hd ?_
            rw [i5]
            exact rdT_ok hw hb hk h0 hf hg i1 hs kk
          · cases hs
      · cases hs
    · cases hs
  · cases hs
theorem sLen_ok {rs : List EP} (hE : zOk E (l0, D0, cy0, ax0) own cc nL R0) (hX : X.1 = cy0) (hd : decode cc pc = .ok (.arraylength, ln)) (h : Wd X K B L f ν μ lv st G lvc stc) (hs : sLen ln pc lv st G = some rs) (kk : Alls E k n X K B L f rs) : eW E k n L f pc lvc stc := by
  unfold sLen at hs
  split at hs
  · rename_i t r e0 st'
    split at hs
    · rename_i kd hr
      split at hs
      · rename_i hc
        simp only [Bool.and_eq_true, beq_iff_eq] at hc
        obtain ⟨⟨⟨rfl, rfl⟩, hz⟩, hl⟩ := hc
        obtain ⟨s1, rfl, hw⟩ := h.pop
        obtain ⟨hb, hk, hcok⟩ := h.cok hr
        unfold cok at hcok
        rw [hz] at hcok
        obtain ⟨g, hf, -⟩ := hcok
        rw [hX] at hf
        rw [cv2 rfl]
        refine h_alen (t0 := 0) hE hb hf (fun _ => rfl) rfl hd ?_
        refine pu1_go hs kk hw ?_
        rw [cv0 rfl]
        show Value.int (Int32.ofInt (xv ν (xc _))) = _
        rw [xv_c]
        rfl
      · cases hs
    · cases hs
  · cases hs
end RJ
