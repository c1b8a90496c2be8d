/-! Fields that are written. -/
def AllS (E : zCx) (k n : Nat) (X : EC) (rs : List EP) : Prop := ∀ (K : Nat → Nat) (B : Int) (L : List Nat) (f : Nat → va_E), Alls E k n X K B L f rs
def mIn (mods : List (Nat × Nat)) (k r : Nat) : Bool := mods.any (fun q => q.1 == k && q.2 == r)
theorem mIn_ok {mods : List (Nat × Nat)} {k r : Nat} (h : mIn mods k r = true) : (k, r) ∈ mods := by
  obtain ⟨q, h1, h2⟩ := List.any_eq_true.mp h
  simp only [Bool.and_eq_true, beq_iff_eq] at h2
  obtain ⟨a, b⟩ := q
  rw [← h2.1, ← h2.2]
  exact h1
theorem isA_arr {k : Nat} (h : isA k = true) : (zkd k).1 = 2 := by
  simp only [isA, Bool.or_eq_true, beq_iff_eq] at h
  rcases h with (h | h) | h <;> rw [h] <;> decide
theorem reg_obj {k : Nat} (h : (zkd k).1 = 1) (i : Nat) : reg k i = i := by
  unfold reg
  rw [if_neg (fun h2 => by rw [isA_arr h2] at h; cases h), if_pos (by rw [h]; rfl)]
def kpF (j : Nat) (q : (Nat × EX) × EX) : Bool := q.1.2.2.isEmpty && !(decide (q.1.2.1 = (j : Int)))
def putV0 (k j r ty : Nat) (d : Nat × Int × Int) (v : EV) (G : EG) : Option EG := if v.1 == 0 && ge0 G.1 G.2.1 (xk v.2.2 (-d.2.1)) && ge0 G.1 G.2.1 (xk (xsc (-1) v.2.2) d.2.2) && decide (-2147483648 ≤ d.2.1) && decide (d.2.2 ≤ 2147483647) && (ty == 0 || (ty == 1 && decide (0 ≤ d.2.1) && decide (d.2.2 ≤ 1))) then some (if Nat.ble 40 k then addM (dropM G k (kpF j) (fun _ => false) true j) k (xc j) v.2.2 else addV (dropM G k (kpF j) (fun _ => false) true j) (r, 1000 + j, v.2.2)) else none
def putV1 (k j ty : Nat) (v : EV) (G : EG) : Option EG := if v.1 == 1 && ty == 2 then some (dropM G k (kpF j) (fun _ => false) true j) else none
def putV3 (k j ty : Nat) (d : Nat × Int × Int) (v : EV) (G : EG) : Option EG := if ty == 3 && Nat.ble 40 k then (if v.1 == 3 then some (addM (dropM G k (kpF j) (fun _ => false) true j) k (xc j) (xc 0)) else if v.1 == 2 then (match G.2.2.2.1[v.2.1]? with
    | some k' => if decide (d.2.1 ≤ (k' : Int)) && decide ((k' : Int) ≤ d.2.2) then some (addV (addM (dropM G k (kpF j) (fun _ => false) true j) k (xc j) (xc k')) (v.2.1, 2000 + 100 * k + j, xc 0)) else none
    | none => none) else none) else none
def putV (k j r ty : Nat) (d : Nat × Int × Int) (v : EV) (G : EG) : Option EG := match d.1 with
  | 0 => putV0 k j r ty d v G
  | 1 => putV1 k j ty v G
  | 3 => putV3 k j ty d v G
  | _ => none
def sPut (mods : List (Nat × Nat)) (ft : Nat → Option EF) (idx ln pc : Nat) (lv : EL) (st : List EV) (G : EG) : Option (List EP) := match st with
  | v :: (t, r, _) :: st' => (match G.2.2.2.1[r]?, ft idx with
    | some k, some q => if t == 2 && ln == 3 && (zkd k).1 == 1 && (zkd k).2.1 == q.1 && !(k == 0) && Nat.blt q.2.1 100 && !q.2.2.2 && mIn mods k q.2.1 && !(rel k q.2.1) then (match (zkd k).2.2[q.2.1]? with
      | some d => (match putV k q.2.1 r q.2.2.1 d v G with
        | some G' => some [(pc + 3, lv, st', G')]
        | none => none)
      | none => none) else none
    | _, _ => none)
  | _ => none
section PU2
variable {E : zCx} {l0 : Launch} {D0 : va_G} {cy0 : Nat → ClassId} {ax0 : zAx} {own : String} {cc : ByteArray} {nL : Nat} {R0 : Room} {k n : Nat} {K : Nat → Nat} {B : Int} {L : List Nat} {f : Nat → va_E} {ν : Nat → Int} {μ : Nat → Nat} {lv : EL} {st : List EV} {G : EG} {lvc : List (Nat × Value)} {stc : List Value} {i : Instr} {ln pc : Nat} {X : EC}
theorem put_ok (h : Wd X K B L f ν μ lv st G lvc stc) {b kd j ci : Nat} {fs : List Value} {d : Nat × Int × Int} {w : Value} (hb : b ∈ L) (hk : K b = kd) (h0 : kd ≠ 0) (hz1 : (zkd kd).1 = 1) (hz2 : (zkd kd).2.1 = ci) (hf : f b = .inr (ci, fs)) (hd : (zkd kd).2.2[j]? = some d) (hm : (kd, j) ∈ X.2.1) (hr : rel kd j = false) (hw : fok K L d w) : Wd X K B L (va_up f b (.inr (ci, fs.set j w))) ν μ lv st (dropM G kd (kpF j) (fun _ => false) true j) lvc stc := by
  have hcok := h.1.1 b hb
  rw [hk] at hcok
  unfold cok at hcok
  rw [hz1] at hcok
  obtain ⟨fs', hf', hlen, hfd⟩ := hcok
  have hfs : fs' = fs := by
    rw [hf] at hf'
    cases hf'
    rfl
  subst hfs
  have hjl : j < fs'.length := by rw [hlen]; exact (List.getElem?_eq_some_iff.mp hd).1
  have hne : ∀ i, i ≠ j → cget (Sum.inr (ci, fs'.set j w) : va_E) i = cget (f b) i := fun i hi => by
    rw [hf]
    show (fs'.set j w)[i]? = fs'[i]?
    exact List.getElem?_set_ne (Ne.symm hi)
  refine up_ok h hb hk h0 (fun i hi => hne i (fun e => ?_)) ?_ (XP_up h.1 hb hk (fun i hi => hne i (fun e => ?_))) (fun _ => hne) (fun q hq hqk hkeep => ?_) (fun q hq hqk _ => ?_)
  · rw [reg_obj hz1, e] at hi
    exact hi hm
  · unfold cok
    rw [hz1]
    refine ⟨fs'.set j w, by rw [hz2], by rw [List.length_set, hlen], fun j' d' hd' => ?_⟩
    by_cases hj : j' = j
    · subst hj
      rw [hd] at hd'
      cases hd'
      exact ⟨w, List.getElem?_set_self hjl, hw⟩
    · obtain ⟨v, hv, hfk⟩ := hfd j' d' hd'
      exact ⟨v, by rw [List.getElem?_set_ne (Ne.symm hj)]; exact hv, hfk⟩
  · rw [e, hr] at hi
    cases hi
  · have h9 := h.2.2.2.1.2.2.2.2.1 q hq
    unfold mok at h9 ⊢
    rw [if_neg (by rw [hqk]; exact h0)] at h9 ⊢
    intro b' hb' hkb
    obtain ⟨y1, y2⟩ := h9 b' hb' hkb
    refine ⟨y1, ?_⟩
    by_cases hbb : b' = b
    · subst hbb
      rw [va_up_self, ← y2, hf]
      unfold kpF at hkeep
      simp only [Bool.and_eq_true, Bool.not_eq_true', decide_eq_false_iff_not] at hkeep
      have hx := xv_cst (ν := ν) hkeep.1
      rw [hx] at y1 ⊢
      have : q.1.2.1.toNat ≠ j := fun e => hkeep.2 (by omega)
      unfold cval
      dsimp only
      rw [List.getElem?_set_ne (Ne.symm this)]
    · rw [va_up_ne _ _ hbb]
      exact y2
  · rename_i hfalse
    cases hfalse
theorem nar_b {x : Int32} (h1 : 0 ≤ x.toInt) (h2 : x.toInt ≤ 1) : narrow .boolean (.int x) = .int x ∧ fits .boolean (.int x) = true := by
  have : x = 0 ∨ x = 1 := by
    by_cases h : x.toInt = 0
    · exact Or.inl (Int32.toInt_inj.mp (by rw [h]; rfl))
    · exact Or.inr (Int32.toInt_inj.mp (by have e : (1 : Int32).toInt = 1 := rfl; omega))
  rcases this with rfl | rfl <;> exact ⟨rfl, rfl⟩
theorem sPut_ok {mods : List (Nat × Nat)} {ft : Nat → Option EF} {idx : Nat} {rs : List EP} (hE : zOk E (l0, D0, cy0, ax0) own cc nL R0) (hX : X.2.1 = mods) (hft : ∀ idx e, ft idx = some e → fldOk own idx e) (hd : decode cc pc = .ok (.putfield idx, ln)) (h : Wd X K B L f ν μ lv st G lvc stc) (hs : sPut mods ft idx ln pc lv st G = some rs) (kk : AllS E k n X rs) : eW E k n L f pc lvc stc := by
  unfold sPut at hs
  split at hs
  · rename_i v t r e0 st'
    split at hs
    · rename_i kd q hr hq
      split at hs
      · rename_i hc
        simp only [Bool.and_eq_true, beq_iff_eq, Bool.not_eq_true', beq_eq_false_iff_ne, Nat.blt_eq] at hc
        obtain ⟨⟨⟨⟨⟨⟨⟨⟨rfl, rfl⟩, hz1⟩, hz2⟩, h0⟩, hj9⟩, hfin⟩, hmi⟩, hrl⟩ := hc
        have hmi' : (kd, q.2.1) ∈ X.2.1 := by rw [hX]; exact mIn_ok hmi
        split at hs
        · rename_i d hdd
          split at hs
          · rename_i G' hG'
            cases hs
            obtain ⟨s1, rfl, hw1⟩ := h.pop
            obtain ⟨s2, rfl, hw⟩ := hw1.pop
            obtain ⟨hb, hk⟩ := h.ref hr
            have hcok := h.1.1 (μ r) hb
            rw [hk] at hcok
            unfold cok at hcok
            rw [hz1] at hcok
            obtain ⟨fs, hf, hlen, -⟩ := hcok
            rw [hz2] at hf
            have hjl : q.2.1 < fs.length := by rw [hlen]; exact (List.getElem?_eq_some_iff.mp hdd).1
            obtain ⟨C, T, N, ty0, ty, c1, c2, c3, c4, c5, c6, c7, c8, c9, -⟩ := hft idx q hq
            have unq : Nat.ble 40 kd = true → ∀ b' ∈ L, K b' = kd → b' = μ r := fun h40 b' hb' hk' => hw.uni hb' hb (hk'.trans hk.symm) (by rw [hk']; exact Nat.le_of_ble_eq_true h40)
            have hjx : ∀ ν : Nat → Int, (xv ν (xc q.2.1)).toNat = q.2.1 := fun ν => by rw [xv_c]; omega
            have hjx0 : ∀ ν : Nat → Int, 0 ≤ xv ν (xc q.2.1) := fun ν => by rw [xv_c]; omega
            have go : ∀ w : Value, narrow ty w = w → fits ty w = true → (eW E k n L (va_up f (μ r) (.inr (q.1, fs.set q.2.1 w))) (pc + 3) lvc s2) → eW E k n L f pc lvc (w :: .ref (μ r) :: s2) := fun w hn hfit hgo => h_put (ci := q.1) (fs := fs) hE (Or.inr (by rw [c9]; exact hfin)) hb hf c1 c2 c3 c4 c5 hjl c6 c7 hn hfit hd hgo
            rw [cv2 (v := (2, r, e0)) rfl]
            obtain ⟨td, lo, hi⟩ := d
            obtain ⟨tv, rv, ev⟩ := v
            match td with
            | 0 =>
              replace hG' : putV0 kd q.2.1 r q.2.2.1 (0, lo, hi) (tv, rv, ev) G = some G' := hG'
              unfold putV0 at hG'
              dsimp only at hG'
              split at hG'
              · rename_i hc
                simp only [Bool.and_eq_true, Bool.or_eq_true, beq_iff_eq, decide_eq_true_eq] at hc
                obtain ⟨⟨⟨⟨⟨rfl, b1⟩, b2⟩, b3⟩, b4⟩, b5⟩ := hc
                have a1 := ge0_ok hw.2.2.2.1.1 hw.2.2.2.1.2.1 b1
                have a2 := ge0_ok hw.2.2.2.1.1 hw.2.2.2.1.2.1 b2
                rw [xv_k] at a1
                rw [xv_k, xv_sc] at a2
                have e1 := i32i (z := xv ν ev) (by omega) (by omega)
                have hfok : fok K L (0, lo, hi) (.int (Int32.ofInt (xv ν ev))) := ⟨_, rfl, by rw [e1]; show lo ≤ _; omega, by rw [e1]; show _ ≤ hi; omega⟩
                have hwn := put_ok hw hb hk h0 hz1 hz2 hf hdd hmi' hrl hfok
                have hcv : cget (va_up f (μ r) (.inr (q.1, fs.set q.2.1 (.int (Int32.ofInt (xv ν ev))))) (μ r)) q.2.1 = some (.int (Int32.ofInt (xv ν ev))) := by
                  rw [va_up_self]
                  exact List.getElem?_set_self hjl
                rw [cv0 rfl]
                refine go _ ?_ ?_ ?_
                · rcases b5 with b5 | ⟨⟨b5, b6⟩, b7⟩
                  · rw [b5] at c8
                    rw [show ty = .int from c8]
                    rfl
                  · rw [b5] at c8
                    rw [show ty = .boolean from c8]
                    exact (nar_b (by rw [e1]; show 0 ≤ xv ν ev; omega) (by rw [e1]; show xv ν ev ≤ 1; omega)).1
                · rcases b5 with b5 | ⟨⟨b5, b6⟩, b7⟩
                  · rw [b5] at c8
                    rw [show ty = .int from c8]
                    rfl
                  · rw [b5] at c8
                    rw [show ty = .boolean from c8]
                    exact (nar_b (by rw [e1]; show 0 ≤ xv ν ev; omega) (by rw [e1]; show xv ν ev ≤ 1; omega)).2
                · split at hG'
                  · rename_i h40
                    cases hG'
                    refine kk _ _ _ _ _ (List.mem_singleton.mpr rfl) _ _ _ _ (hwn.aM h0 (fun b' hb' hk' => ?_))
                    rw [unq h40 b' hb' hk', hjx]
                    refine ⟨hjx0 ν, ?_⟩
                    rw [va_up_self]
                    unfold cval
                    dsimp only
                    rw [List.getElem?_set_self hjl]
                    exact congrArg some e1
                  · cases hG'
                    refine kk _ _ _ _ _ (List.mem_singleton.mpr rfl) _ _ _ _ (hwn.aV ?_)
                    unfold pvok
                    dsimp only
                    rw [if_neg (by omega), if_pos (by omega)]
                    have : 1000 + q.2.1 - 1000 = q.2.1 := by omega
                    rw [this]
                    exact ⟨hb, hcv⟩
              · cases hG'
            | 1 =>
              replace hG' : putV1 kd q.2.1 q.2.2.1 (tv, rv, ev) G = some G' := hG'
              unfold putV1 at hG'
              dsimp only at hG'
              split at hG'
              · rename_i hc
                simp only [Bool.and_eq_true, beq_iff_eq] at hc
                obtain ⟨rfl, b5⟩ := hc
                cases hG'
                rw [b5] at c8
                have c8' : ty = .long := c8
                rw [cv1 rfl]
                refine go _ (by rw [c8']; rfl) (by rw [c8']; rfl) ?_
                exact kk _ _ _ _ _ (List.mem_singleton.mpr rfl) _ _ _ _ (put_ok hw hb hk h0 hz1 hz2 hf hdd hmi' hrl ⟨_, rfl⟩)
              · cases hG'
            | 2 => cases hG'
            | 3 =>
              replace hG' : putV3 kd q.2.1 q.2.2.1 (3, lo, hi) (tv, rv, ev) G = some G' := hG'
              unfold putV3 at hG'
              dsimp only at hG'
              split at hG'
              · rename_i hc
                simp only [Bool.and_eq_true, beq_iff_eq] at hc
                obtain ⟨b5, h40⟩ := hc
                rw [b5] at c8
                have hty : (∃ n, ty = .object n) ∨ ∃ u, ty = .array u := c8
                have hnar : ∀ w : Value, (w = .null ∨ ∃ a, w = .ref a) → narrow ty w = w ∧ fits ty w = true := fun w hw => by
                  rcases hty with ⟨n, rfl⟩ | ⟨u, rfl⟩ <;> rcases hw with rfl | ⟨a, rfl⟩ <;> exact ⟨rfl, rfl⟩
                split at hG'
                · rename_i ht3
                  have ht3' : tv = 3 := by simpa using ht3
                  subst ht3'
                  cases hG'
                  rw [cv3 rfl]
                  have hn := hnar .null (Or.inl rfl)
                  refine go _ hn.1 hn.2 ?_
                  refine kk _ _ _ _ _ (List.mem_singleton.mpr rfl) _ _ _ _ ((put_ok hw hb hk h0 hz1 hz2 hf hdd hmi' hrl (Or.inl rfl)).aM h0 (fun b' hb' hk' => ?_))
                  rw [unq h40 b' hb' hk', hjx]
                  refine ⟨hjx0 ν, ?_⟩
                  rw [va_up_self]
                  unfold cval
                  dsimp only
                  rw [List.getElem?_set_self hjl, xv_c]
                · split at hG'
                  · rename_i ht2
                    have ht2' : tv = 2 := by simpa using ht2
                    subst ht2'
                    split at hG'
                    · rename_i k' hk'
                      split at hG'
                      · rename_i hc2
                        simp only [Bool.and_eq_true, decide_eq_true_eq] at hc2
                        cases hG'
                        obtain ⟨m1, m2⟩ := h.ref (r := rv) hk'
                        rw [cv2 rfl]
                        have hn := hnar (.ref (μ rv)) (Or.inr ⟨_, rfl⟩)
                        refine go _ hn.1 hn.2 ?_
                        have hfok : fok K L (3, lo, hi) (.ref (μ rv)) := Or.inr ⟨_, rfl, m1, by rw [m2]; exact hc2.1, by rw [m2]; exact hc2.2⟩
                        have hwn := put_ok hw hb hk h0 hz1 hz2 hf hdd hmi' hrl hfok
                        refine kk _ _ _ _ _ (List.mem_singleton.mpr rfl) _ _ _ _ ((hwn.aM h0 (e := xc q.2.1) (v := xc k') (fun b' hb' hk'' => ?_)).aV ?_)
                        · rw [unq h40 b' hb' hk'', hjx]
                          refine ⟨hjx0 ν, ?_⟩
                          rw [va_up_self]
                          unfold cval
                          dsimp only
                          rw [List.getElem?_set_self hjl, xv_c]
                          show some ((K (μ rv) : Nat) : Int) = _
                          rw [m2]
                        · unfold pvok
                          dsimp only
                          rw [if_neg (by omega), if_neg (by omega)]
                          have e1 : (2000 + 100 * kd + q.2.1 - 2000) / 100 = kd := by omega
                          have e2 : (2000 + 100 * kd + q.2.1 - 2000) % 100 = q.2.1 := by omega
                          rw [e1, e2]
                          intro m hm hkm
                          rw [unq h40 m hm hkm, va_up_self]
                          exact List.getElem?_set_self hjl
                      · cases hG'
                    · cases hG'
                  · cases hG'
              · cases hG'
            | td + 4 => cases hG'
          · cases hs
        · cases hs
      · cases hs
    · cases hs
  · cases hs
end PU2
