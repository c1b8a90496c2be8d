/-! Steps that write rows. -/
/-- B grows by 1 where the place asks for it -/
def preB (mods : List (Nat × Nat)) (G : EG) (fl : Bool) (e : EX) : Option EG := if fl then (match gM G 0 (xc 0) with
  | some bb => if ge0 G.1 G.2.1 (xsub bb e) then some G else if ge0 G.1 G.2.1 (xk (xsub bb e) 1) && mIn mods 0 0 then some (growG G bb) else none
  | none => none) else some G
/-- the state in which the number can be written -/
def preI (mods : List (Nat × Nat)) (k : Nat) (ix e : EX) (G : EG) : Option EG := if (zkd k).2.2.isEmpty && pvin G k ix e then some G else (match meetK k G.1 ix with
  | some b => if ge0 G.1 G.2.1 (xk e (-b.1)) && ge0 G.1 G.2.1 (xk (xsc (-1) e) b.2.1) then preB mods G b.2.2 e else none
  | none => none)
/-- 8 a[0] ≥ a[1] stays -/
def okL (k : Nat) (ix e : EX) (G : EG) : Bool := if k == kMA || k == kMI then decide (1 < lbq G.1 G.2.1 ix) || (ix == (0, []) && (match gM G k (1, []) with
  | some y => ge0 G.1 G.2.1 (xsub (xsc 8 e) y)
  | none => false)) || (ix == (1, []) && (match gM G k (0, []) with
  | some x => ge0 G.1 G.2.1 (xsub (xsc 8 x) e)
  | none => false)) else true
def dropI (k : Nat) (ix e : EX) (G : EG) : EG := dropM G k (fun q => apart G q.1.2 ix) (fun q => decide (q.2.1 ≤ lb G.1 e) && decide (ub G.1 e ≤ q.2.2)) false 0
def sIst (mods : List (Nat × Nat)) (ln pc : Nat) (lv : EL) (st : List EV) (G : EG) : Option (List EP) := match st with
  | (tv, _, e) :: (ti, _, ix) :: (t, r, _) :: st' => (match G.2.2.2.1[r]? with
    | some k => if tv == 0 && ti == 0 && t == 2 && ln == 1 && (zkd k).1 == 2 && !(k == 0) && inb G k ix && rg32 G e && inR (mIn mods k) G k ix && !(k == 23 || k == 24 || k == kMTX) && okL k ix e G then (match preI mods k ix e G with
      | some G1 => some [(pc + 1, lv, st', if Nat.ble 40 k then addM (dropI k ix e G1) k ix e else dropI k ix e G1)]
      | none => none) else none
    | none => none)
  | _ => none
def arr2 (mods : List (Nat × Nat)) (z ty ln pc : Nat) (lv : EL) (st : List EV) (G : EG) : Option (List EP) := match st with
  | (tv, _, _) :: (ti, _, ix) :: (t, r, _) :: st' => (match G.2.2.2.1[r]? with
    | some k => if tv == ty && ti == 0 && t == 2 && ln == 1 && (zkd k).1 == z && !(k == 0) && inb G k ix && mIn mods k 0 then some [(pc + 1, lv, st', dropM G k (fun _ => false) (fun _ => false) false 0)] else none
    | none => none)
  | _ => none
section RW
variable {E : zCx} {l0 : Launch} {D0 : va_G} {cy0 : Nat → ClassId} {ax0 : zAx} {own : String} {cc : ByteArray} {nL : Nat} {R0 : Room} {k n : Nat} {K : Nat → Nat} {B : Int} {L : List Nat} {f : Nat → va_E} {ν : Nat → Int} {μ : Nat → Nat} {lv : EL} {st : List EV} {G : EG} {lvc : List (Nat × Value)} {stc : List Value} {ln pc : Nat} {X : EC}
theorem preB_ok (h : Wd X K B L f ν μ lv st G lvc stc) {mods : List (Nat × Nat)} (hX : X.2.1 = mods) {fl : Bool} {e : EX} {G1 : EG} (hp : preB mods G fl e = some G1) : ∃ B', Wd X K B' L f ν μ lv st G1 lvc stc ∧ (fl = true → xv ν e ≤ B') ∧ G1.1 = G.1 ∧ G1.2.1 = G.2.1 ∧ G1.2.2.2.1 = G.2.2.2.1 := by
  unfold preB at hp
  split at hp
  · split at hp
    · rename_i bb hb
      have hB := gM0_ok h hb
      split at hp
      · rename_i hg
        cases hp
        have := ge0_ok h.2.2.2.1.1 h.2.2.2.1.2.1 hg
        rw [xv_sub] at this
        exact ⟨B, h, fun _ => by omega, rfl, rfl, rfl⟩
      · split at hp
        · rename_i hg
          simp only [Bool.and_eq_true] at hg
          cases hp
          have := ge0_ok h.2.2.2.1.1 h.2.2.2.1.2.1 hg.1
          rw [xv_k, xv_sub] at this
          exact ⟨B + 1, grow_ok h (by rw [hX]; exact mIn_ok hg.2) hb, fun _ => by omega, rfl, rfl, rfl⟩
        · cases hp
    · cases hp
  · rename_i hf
    cases hp
    exact ⟨B, h, fun h2 => absurd h2 hf, rfl, rfl, rfl⟩
theorem preI_ok (h : Wd X K B L f ν μ lv st G lvc stc) {mods : List (Nat × Nat)} (hX : X.2.1 = mods) {kd : Nat} {ix e : EX} {G1 : EG} (hp : preI mods kd ix e G = some G1) : ∃ B', Wd X K B' L f ν μ lv st G1 lvc stc ∧ bok B' (kbd kd (xv ν ix).toNat) (xv ν e) ∧ G1.1 = G.1 ∧ G1.2.1 = G.2.1 ∧ G1.2.2.2.1 = G.2.2.2.1 := by
  unfold preI at hp
  split at hp
  · rename_i hc
    simp only [Bool.and_eq_true] at hc
    cases hp
    exact ⟨B, h, pvin_ok h hc.2, rfl, rfl, rfl⟩
  · split at hp
    · rename_i b hb
      split at hp
      · rename_i hc
        simp only [Bool.and_eq_true] at hc
        have h1 := ge0_ok h.2.2.2.1.1 h.2.2.2.1.2.1 hc.1
        have h2 := ge0_ok h.2.2.2.1.1 h.2.2.2.1.2.1 hc.2
        rw [xv_k] at h1
        rw [xv_k, xv_sc] at h2
        obtain ⟨B', w1, w2, w3⟩ := preB_ok h hX hp
        exact ⟨B', w1, meetK_ok h.2.2.2.1.1 hb (by omega) (by omega) w2, w3⟩
      · cases hp
    · cases hp
theorem sIst_ok {mods : List (Nat × Nat)} {rs : List EP} (hE : zOk E (l0, D0, cy0, ax0) own cc nL R0) (hX1 : X.1 = cy0) (hX : X.2.1 = mods) (hd : decode cc pc = .ok (.iastore, ln)) (h : Wd X K B L f ν μ lv st G lvc stc) (hs : sIst mods ln pc lv st G = some rs) (kk : AllS E k n X rs) : eW E k n L f pc lvc stc := by
  unfold sIst at hs
  split at hs
  · rename_i tv rv e ti ri ix t r e0 st'
    split at hs
    · rename_i kd hr
      split at hs
      · rename_i hc
        simp only [Bool.and_eq_true, beq_iff_eq, Bool.not_eq_true', beq_eq_false_iff_ne] at hc
        obtain ⟨⟨⟨⟨⟨⟨⟨⟨⟨⟨rfl, rfl⟩, rfl⟩, rfl⟩, hz⟩, h0⟩, hin⟩, hrg⟩, hreg⟩, hrl⟩, hokl⟩ := hc
        split at hs
        · rename_i G1 hG1
          cases hs
          obtain ⟨s1, rfl, hw1⟩ := h.pop
          obtain ⟨s2, rfl, hw2⟩ := hw1.pop
          obtain ⟨s3, rfl, hw⟩ := hw2.pop
          obtain ⟨hb, hk, hcok⟩ := h.cok hr
          unfold cok at hcok
          rw [hz] at hcok
          obtain ⟨g, hf, hbd⟩ := hcok
          obtain ⟨i1, i2, i3, i4, i5⟩ := inb_ok hw hin
          have e1 := rg32_ok hw.2.2.2.1.1 hrg
          have hi31 : xv ν ix ≤ 2147483647 := by
            have := i32r (Int32.ofInt (xv ν ix))
            omega
          obtain ⟨B', w1, w2, w3, w4, w5⟩ := preI_ok hw hX hG1
          rw [cv0 rfl, cv0 rfl, cv2 rfl]
          have hf0 := hf
          rw [hX1] at hf
          refine h_iast hE hb hf i4 hd ?_
          show eW E k n L (va_up f (μ r) (zIA cy0 (zkd kd).2.1 (upd g (Int32.ofInt (xv ν ix)).toNatClampNeg (Int32.ofInt (xv ν e))))) (pc + 1) lvc s3
          rw [i5]
          have hne : ∀ i, i ≠ (xv ν ix).toNat → cget (zIA cy0 (zkd kd).2.1 (upd g (xv ν ix).toNat (Int32.ofInt (xv ν e)))) i = cget (f (μ r)) i := fun i hi => by
            rw [hf]
            show some (Value.int (upd g (xv ν ix).toNat _ i)) = some (Value.int (g i))
            rw [up_oth _ _ hi]
          have hxp : XP K L (va_up f (μ r) (zIA cy0 (zkd kd).2.1 (upd g (xv ν ix).toNat (Int32.ofInt (xv ν e))))) := by
            unfold okL at hokl
            split at hokl
            · rename_i hkk
              simp only [Bool.or_eq_true, beq_iff_eq] at hkk
              simp only [Bool.or_eq_true, Bool.and_eq_true, decide_eq_true_eq, beq_iff_eq] at hokl
              refine XL_up hw.1 hb hk hkk ?_
              have x3 := hw.1.2.2.2.2 (μ r) hb (by rw [hk]; exact hkk)
              have o0 : gi (f (μ r)) 0 = (g 0).toInt := by rw [hf]; rfl
              have o1 : gi (f (μ r)) 1 = (g 1).toInt := by rw [hf]; rfl
              rw [o0, o1] at x3
              show (upd g (xv ν ix).toNat (Int32.ofInt (xv ν e)) 1).toInt ≤ 8 * (upd g (xv ν ix).toNat (Int32.ofInt (xv ν e)) 0).toInt
              rcases hokl with (hl | ⟨hl, hl2⟩) | ⟨hl, hl2⟩
              · have := lbq_ok hw.2.2.2.1.1 hw.2.2.2.1.2.1 ix
                rw [up_oth _ _ (by omega), up_oth _ _ (by omega)]
                exact x3
              · split at hl2
                · rename_i y hy
                  have h9 := (gM_ok hw hy h0 hb hk).2
                  have e9 : (xv ν (1, [])).toNat = 1 := rfl
                  rw [e9, hf] at h9
                  have h8 : (g 1).toInt = xv ν y := Option.some.inj h9
                  have h7 := ge0_ok hw.2.2.2.1.1 hw.2.2.2.1.2.1 hl2
                  rw [xv_sub, xv_sc] at h7
                  have hx0 : (xv ν ix).toNat = 0 := by rw [hl]; rfl
                  rw [hx0, up_same, up_oth _ _ (by omega), e1, h8]
                  show xv ν y ≤ 8 * xv ν e
                  omega
                · cases hl2
              · split at hl2
                · rename_i y hy
                  have h9 := (gM_ok hw hy h0 hb hk).2
                  have e9 : (xv ν (0, [])).toNat = 0 := rfl
                  rw [e9, hf] at h9
                  have h8 : (g 0).toInt = xv ν y := Option.some.inj h9
                  have h7 := ge0_ok hw.2.2.2.1.1 hw.2.2.2.1.2.1 hl2
                  rw [xv_sub, xv_sc] at h7
                  have hx0 : (xv ν ix).toNat = 1 := by rw [hl]; rfl
                  rw [hx0, up_same, up_oth _ _ (by omega), e1, h8]
                  show xv ν e ≤ 8 * xv ν y
                  omega
                · cases hl2
            · rename_i hkk
              refine XP_up hw.1 hb hk (fun i hi => ?_)
              exfalso
              simp only [Bool.or_eq_true, beq_iff_eq, not_or] at hkk
              simp only [Bool.or_eq_false_iff, beq_eq_false_iff_ne] at hrl
              have hk20 : kd ≠ 20 := fun e => by rw [e] at hz; exact absurd hz (by decide)
              have hk200 : kd ≠ 200 := fun e => by rw [e] at hz; exact absurd hz (by decide)
              simp [rel, hk20, hk200, hrl.1.1, hrl.1.2, hrl.2, hkk.1, hkk.2] at hi
          have hwn := ist_ok (keep := fun q => apart G1 q.1.2 ix) (keepA := fun q => decide (q.2.1 ≤ lb G1.1 e) && decide (ub G1.1 e ≤ q.2.2)) w1 hX1 hb hk h0 hz rfl hf i1 i2 (by rw [e1]; exact w2) (by rw [hX]; exact mIn_ok (inR_ok hw hreg i1 hi31 (by rw [hz]; decide))) hxp (fun q hq hkp => apart_ok w1 hkp) (fun q hkp => by
            simp only [Bool.and_eq_true, decide_eq_true_eq] at hkp
            have := lb_ok w1.2.2.2.1.1 e
            have := ub_ok w1.2.2.2.1.1 e
            rw [e1]
            show q.2.1 ≤ xv ν e ∧ xv ν e ≤ q.2.2
            omega)
          refine kk K B' L _ _ (List.mem_singleton.mpr rfl) ν μ lvc s3 ?_
          show Wd X K B' L _ ν μ lv st' (if Nat.ble 40 kd then addM (dropI kd ix e G1) kd ix e else dropI kd ix e G1) lvc s3
          split
          · rename_i h40
            refine hwn.aM h0 (fun b' hb' hk' => ⟨i1, ?_⟩)
            have : b' = μ r := hw.uni hb' hb (hk'.trans hk.symm) (by rw [hk']; exact Nat.le_of_ble_eq_true h40)
            rw [this, va_up_self]
            show some (upd g (xv ν ix).toNat (Int32.ofInt (xv ν e)) (xv ν ix).toNat).toInt = _
            rw [up_same, e1]
          · exact hwn
        · cases hs
      · cases hs
    · cases hs
  · cases hs
/-- rows of truths and of longs -/
theorem arr_ok (h : Wd X K B L f ν μ lv st G lvc stc) {b kd z : Nat} {e' : va_E} (hb : b ∈ L) (hk : K b = kd) (h0 : kd ≠ 0) (hz : (zkd kd).1 = z) (hz3 : z = 3 ∨ z = 4) (hm : (kd, 0) ∈ X.2.1) (hc : cok X.1 K B L kd e') : Wd X K B L (va_up f b e') ν μ lv st (dropM G kd (fun _ => false) (fun _ => false) false 0) lvc stc := by
  have hz1 : (zkd kd).1 ≠ 1 ∧ (zkd kd).1 ≠ 2 := by rcases hz3 with h | h <;> rw [hz, h] <;> decide
  refine up_ok (j := 0) h hb hk h0 (fun i hi => ?_) hc (XP_up h.1 hb hk (fun i hi => ?_)) (fun hf => by cases hf) (fun q hq hqk hkeep => by cases hkeep) (fun q hq hqk hkeep => by cases hkeep)
  · exfalso
    unfold reg at hi
    rw [if_neg (fun h2 => hz1.2 (isA_arr h2)), if_neg (by simpa using hz1.1)] at hi
    exact hi hm
  · exfalso
    have k1 : kd ≠ 20 := fun e => by rw [e] at hz1; exact absurd hz1 (by decide)
    have k2 : kd ≠ 23 := fun e => by rw [e] at hz1; exact absurd hz1 (by decide)
    have k3 : kd ≠ 24 := fun e => by rw [e] at hz1; exact absurd hz1 (by decide)
    have k4 : kd ≠ kMTX := fun e => by rw [e] at hz1; exact absurd hz1 (by decide)
    have k5 : kd ≠ 200 := fun e => by rw [e] at hz1; exact absurd hz1 (by decide)
    have k6 : kd ≠ kMA := fun e => by rw [e] at hz1; exact absurd hz1 (by decide)
    have k7 : kd ≠ kMI := fun e => by rw [e] at hz1; exact absurd hz1 (by decide)
    simp [rel, k1, k2, k3, k4, k5, k6, k7] at hi
theorem sZst_ok {mods : List (Nat × Nat)} {rs : List EP} (hE : zOk E (l0, D0, cy0, ax0) own cc nL R0) (hX1 : X.1 = cy0) (hX : X.2.1 = mods) (hd : decode cc pc = .ok (.bastore, ln)) (h : Wd X K B L f ν μ lv st G lvc stc) (hs : arr2 mods 3 0 ln pc lv st G = some rs) (kk : AllS E k n X rs) : eW E k n L f pc lvc stc := by
  unfold arr2 at hs
  split at hs
  · rename_i tv rv e ti ri ix t r e0 st'
    split at hs
    · rename_i kd hr
      split at hs
      · rename_i hc
        simp only [Bool.and_eq_true, beq_iff_eq, Bool.not_eq_true', beq_eq_false_iff_ne] at hc
        obtain ⟨⟨⟨⟨⟨⟨⟨rfl, rfl⟩, rfl⟩, rfl⟩, hz⟩, h0⟩, hin⟩, hmi⟩ := hc
        cases hs
        obtain ⟨s1, rfl, hw1⟩ := h.pop
        obtain ⟨s2, rfl, hw2⟩ := hw1.pop
        obtain ⟨s3, rfl, hw⟩ := hw2.pop
        obtain ⟨hb, hk, hcok⟩ := h.cok hr
        unfold cok at hcok
        rw [hz] at hcok
        obtain ⟨g, hf⟩ := hcok
        obtain ⟨i1, i2, i3, i4, i5⟩ := inb_ok hw hin
        rw [cv0 rfl, cv0 rfl, cv2 rfl]
        rw [hX1] at hf
        refine h_zast hE hb hf i4 hd ?_
        refine kk _ _ _ _ _ (List.mem_singleton.mpr rfl) _ _ _ _ (arr_ok hw hb hk h0 hz (Or.inl rfl) (by rw [hX]; exact mIn_ok hmi) ?_)
        unfold cok
        rw [hz, hX1]
        exact ⟨_, rfl⟩
      · cases hs
    · cases hs
  · cases hs
theorem sJst_ok {mods : List (Nat × Nat)} {rs : List EP} (hE : zOk E (l0, D0, cy0, ax0) own cc nL R0) (hX1 : X.1 = cy0) (hX : X.2.1 = mods) (hd : decode cc pc = .ok (.lastore, ln)) (h : Wd X K B L f ν μ lv st G lvc stc) (hs : arr2 mods 4 1 ln pc lv st G = some rs) (kk : AllS E k n X rs) : eW E k n L f pc lvc stc := by
  unfold arr2 at hs
  split at hs
  · rename_i tv rv e ti ri ix t r e0 st'
    split at hs
    · rename_i kd hr
      split at hs
      · rename_i hc
        simp only [Bool.and_eq_true, beq_iff_eq, Bool.not_eq_true', beq_eq_false_iff_ne] at hc
        obtain ⟨⟨⟨⟨⟨⟨⟨rfl, rfl⟩, rfl⟩, rfl⟩, hz⟩, h0⟩, hin⟩, hmi⟩ := hc
        cases hs
        obtain ⟨s1, rfl, hw1⟩ := h.pop
        obtain ⟨s2, rfl, hw2⟩ := hw1.pop
        obtain ⟨s3, rfl, hw⟩ := hw2.pop
        obtain ⟨hb, hk, hcok⟩ := h.cok hr
        unfold cok at hcok
        rw [hz] at hcok
        obtain ⟨g, hf⟩ := hcok
        obtain ⟨i1, i2, i3, i4, i5⟩ := inb_ok hw hin
        rw [cv1 rfl, cv0 rfl, cv2 rfl]
        rw [hX1] at hf
        refine h_last hE hb hf i4 hd ?_
        refine kk _ _ _ _ _ (List.mem_singleton.mpr rfl) _ _ _ _ (arr_ok hw hb hk h0 hz (Or.inr rfl) (by rw [hX]; exact mIn_ok hmi) ?_)
        unfold cok
        rw [hz, hX1]
        exact ⟨_, rfl⟩
      · cases hs
    · cases hs
  · cases hs
end RW
