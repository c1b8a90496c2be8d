/-! Texts laid into a row, rows copied, new rows. -/
def sRst (mods : List (Nat × Nat)) (ln pc : Nat) (lv : EL) (st : List EV) (G : EG) : Option (List EP) := match st with
  | (tv, rv, _) :: (ti, _, ix) :: (t, r, _) :: st' => (match G.2.2.2.1[r]? with
    | some k => if ti == 0 && t == 2 && ln == 1 && (zkd k).1 == 6 && inb G k ix && mIn mods k 0 && Nat.ble 40 k then (if tv == 3 then some [(pc + 1, lv, st', addM (dropM G k (fun q => apart G q.1.2 ix) (fun _ => false) false 0) k ix (xc 0))] else if tv == 2 && G.2.2.2.1[rv]? == some 20 then some [(pc + 1, lv, st', addM (dropM G k (fun q => apart G q.1.2 ix) (fun _ => false) false 0) k ix (xc 20))] else none) else none
    | none => none)
  | _ => none
def srcB (G : EG) (k : Nat) : Option (Int × Int) := match (zkd k).2.2 with
  | d :: _ => some (max d.2.1 (abB G k).1, min d.2.2 (abB G k).2)
  | [] => none
def addA (G : EG) (q : Nat × Int × Int) : EG := (G.1, G.2.1, G.2.2.1, G.2.2.2.1, G.2.2.2.2.1, q :: G.2.2.2.2.2.1, G.2.2.2.2.2.2)
def sCpy (mods : List (Nat × Nat)) (ln pc : Nat) (lv : EL) (st : List EV) (G : EG) : Option (List EP) := match st with
  | [(tz, _, z), (tp, _, dp), (t, r, _), (tq, _, sp), (t2, r2, _)] => (match G.2.2.2.1[r]?, G.2.2.2.1[r2]? with
    | some k, some k2 => if tz == 0 && tp == 0 && t == 2 && tq == 0 && t2 == 2 && ln == 3 && dp == (0, []) && sp == (0, []) && z.2.isEmpty && decide (0 ≤ z.1) && decide (z.1 ≤ ((zkd k).2.1 : Int)) && decide (z.1 ≤ ((zkd k2).2.1 : Int)) && decide (z.1 ≤ 2147483647) && (zkd k).1 == 2 && (zkd k2).1 == 2 && !(k == 0) && mIn mods k 0 && !(k == 23 || k == 24) then (match srcB G k2, (zkd k).2.2 with
      | some b, d :: _ => if decide (d.2.1 ≤ b.1) && decide (b.2 ≤ d.2.2) then some [(pc + 3, lv, [], if decide (z.1 = ((zkd k).2.1 : Int)) && Nat.ble 40 k && !(decide (b.1 = d.2.1) && decide (b.2 = d.2.2)) then addA (dropM G k (fun _ => false) (fun _ => false) false 0) (k, b.1, b.2) else dropM G k (fun _ => false) (fun _ => false) false 0)] else none
      | _, _ => none) else none
    | _, _ => none)
  | _ => none
section NW
variable {E : zCx} {l0 : Launch} {D0 : va_G} {cy0 : Nat → ClassId} {ax0 : zAx} {own : String} {cc : ByteArray} {nL : Nat} {R0 : Room} {k n : Nat} {K : Nat → Nat} {B : Int} {L : List Nat} {f : Nat → va_E} {ν : Nat → Int} {μ : Nat → Nat} {lv : EL} {st : List EV} {G : EG} {lvc : List (Nat × Value)} {stc : List Value} {ln pc : Nat} {X : EC}
theorem rel_no {kd i : Nat} (h20 : kd ≠ 20) (h200 : kd ≠ 200) (h23 : kd ≠ 23) (h24 : kd ≠ 24) (hm : kd ≠ kMTX) (ha : kd ≠ kMA) (hi : kd ≠ kMI) : rel kd i = false := by
  simp [rel, h20, h200, h23, h24, hm, ha, hi]
theorem tst_ok (h : Wd X K B L f ν μ lv st G lvc stc) {b kd N : Nat} {g : Nat → Option Nat} {w : Option Nat} {ix : EX} (hb : b ∈ L) (hk : K b = kd) (h0 : kd ≠ 0) (h40 : 40 ≤ kd) (hz1 : (zkd kd).1 = 6) (hN : (zkd kd).2.1 = N) (hf : f b = zRA (X.1 3) N g) (hi0 : 0 ≤ xv ν ix) (hw : ∀ b, w = some b → b ∈ L ∧ K b = 20) (hm : (kd, 0) ∈ X.2.1) : Wd X K B L (va_up f b (zRA (X.1 3) N (va_up g (xv ν ix).toNat w))) ν μ lv st (addM (dropM G kd (fun q => apart G q.1.2 ix) (fun _ => false) false 0) kd ix (xc (match w with
    | some _ => 20
    | none => 0))) lvc stc := by
  have hcok := h.1.1 b hb
  rw [hk] at hcok
  unfold cok at hcok
  rw [hz1] at hcok
  obtain ⟨g', hf', hbd⟩ := hcok
  rw [hN] at hf'
  have hg : g' = g := by
    rw [hf] at hf'
    cases hf'
    rfl
  subst hg
  have ne1 : (zkd kd).1 ≠ 1 ∧ (zkd kd).1 ≠ 2 := by rw [hz1]; decide
  refine Wd.aM (up_ok (j := 0) h hb hk h0 (fun i hi => ?_) ?_ (XP_up h.1 hb hk (fun i hi => ?_)) (fun hf => by cases hf) (fun q hq hqk hkeep => ?_) (fun q hq hqk hkeep => by cases hkeep)) h0 (fun b' hb' hk' => ⟨hi0, ?_⟩)
  · exfalso
    unfold reg at hi
    rw [if_neg (fun h2 => ne1.2 (isA_arr h2)), if_neg (by simpa using ne1.1)] at hi
    exact hi hm
  · unfold cok
    rw [hz1]
    refine ⟨_, by rw [hN], fun i b2 hi => ?_⟩
    by_cases hii : i = (xv ν ix).toNat
    · rw [hii, va_up_self] at hi
      exact hw b2 hi
    · rw [va_up_ne _ _ hii] at hi
      exact hbd i b2 hi
  · exfalso
    have hno : ∀ q, (zkd q).1 ≠ 6 → kd ≠ q := fun q hq e => hq (by rw [← e]; exact hz1)
    rw [rel_no (hno 20 (by decide)) (hno 200 (by decide)) (hno 23 (by decide)) (hno 24 (by decide)) (hno kMTX (by decide)) (hno kMA (by decide)) (hno kMI (by decide))] at hi
    cases hi
  · have h9 := h.2.2.2.1.2.2.2.2.1 q hq
    unfold mok at h9 ⊢
    rw [if_neg (by rw [hqk]; exact h0)] at h9 ⊢
    intro b' hb' hkb
    obtain ⟨y1, y2⟩ := h9 b' hb' hkb
    refine ⟨y1, ?_⟩
    by_cases hbb : b' = b
    · subst hbb
      rw [va_up_self, ← y2, hf]
      have := apart_ok h hkeep
      show (match va_up g' (xv ν ix).toNat w (xv ν q.1.2).toNat with
        | some b => some ((K b : Nat) : Int)
        | none => some 0) = (match g' (xv ν q.1.2).toNat with
        | some b => some ((K b : Nat) : Int)
        | none => some 0)
      rw [va_up_ne _ _ (by omega)]
    · rw [va_up_ne _ _ hbb]
      exact y2
  · have : b' = b := h.uni hb' hb (hk'.trans hk.symm) (by rw [hk']; exact h40)
    rw [this, va_up_self]
    show (match va_up g' (xv ν ix).toNat w (xv ν ix).toNat with
      | some b => some ((K b : Nat) : Int)
      | none => some 0) = _
    rw [va_up_self, xv_c]
    cases w with
    | none => rfl
    | some b2 =>
      show some ((K b2 : Nat) : Int) = some 20
      rw [(hw b2 rfl).2]
      rfl
theorem sRst_ok {mods : List (Nat × Nat)} {rs : List EP} (hE : zOk E (l0, D0, cy0, ax0) own cc nL R0) (hX1 : X.1 = cy0) (hX : X.2.1 = mods) (hd : decode cc pc = .ok (.aastore, ln)) (h : Wd X K B L f ν μ lv st G lvc stc) (hs : sRst mods ln pc lv st G = some rs) (kk : AllS E k n X rs) : eW E k n L f pc lvc stc := by
  unfold sRst at hs
  split at hs
  · rename_i tv rv e ti ri ix t r e0 st'
    split at hs
    · rename_i kd hr
      split at hs
      · rename_i hc
        simp only [Bool.and_eq_true, beq_iff_eq, Nat.ble_eq] at hc
        obtain ⟨⟨⟨⟨⟨⟨rfl, rfl⟩, rfl⟩, hz⟩, hin⟩, hmi⟩, h40⟩ := hc
        have h0 : kd ≠ 0 := by omega
        obtain ⟨s1, rfl, hw1⟩ := h.pop
        obtain ⟨s2, rfl, hw2⟩ := hw1.pop
        obtain ⟨s3, rfl, hw⟩ := hw2.pop
        obtain ⟨hb, hk, hcok⟩ := h.cok hr
        unfold cok at hcok
        rw [hz] at hcok
        obtain ⟨g, hf, hg⟩ := hcok
        obtain ⟨i1, i2, i3, i4, i5⟩ := inb_ok hw hin
        have hmi' : (kd, 0) ∈ X.2.1 := by rw [hX]; exact mIn_ok hmi
        have hf2 := hf
        rw [hX1] at hf2
        rw [cv0 (v := (0, ri, ix)) rfl, cv2 (v := (2, r, e0)) rfl]
        split at hs
        · rename_i ht
          have ht' : tv = 3 := by simpa using ht
          subst ht'
          cases hs
          rw [cv3 rfl]
          refine h_aastN (t0 := 3) (C := "OwnRain$Text") hE hb hf2 (fun _ => rfl) i4 hd ?_
          show eW E k n L (va_up f (μ r) (zRA (cy0 3) (zkd kd).2.1 (va_up g (Int32.ofInt (xv ν ix)).toNatClampNeg none))) (pc + 1) lvc s3
          rw [i5]
          have hwn := tst_ok (w := none) hw hb hk h0 h40 hz rfl hf i1 (fun b h => by cases h) hmi'
          rw [hX1] at hwn
          exact kk _ _ _ _ _ (List.mem_singleton.mpr rfl) _ _ _ _ hwn
        · split at hs
          · rename_i ht
            simp only [Bool.and_eq_true, beq_iff_eq] at ht
            obtain ⟨rfl, hr2⟩ := ht
            cases hs
            obtain ⟨m1, m2, mc⟩ := h.cok hr2
            have mc' : ∃ fs, f (μ rv) = .inr (7, fs) ∧ fs.length = (zkd 20).2.2.length ∧ ∀ (j : Nat) (d : Nat × Int × Int), (zkd 20).2.2[j]? = some d → ∃ v, fs[j]? = some v ∧ fok K L d v := mc
            obtain ⟨fs, hfv, -⟩ := mc'
            rw [cv2 rfl]
            refine h_aast (t0 := 3) (C := RX7) (T := TX7) (N := 13) hE hb hf2 m1 hfv rfl (fun _ => rfl) i4 hd ?_
            show eW E k n L (va_up f (μ r) (zRA (cy0 3) (zkd kd).2.1 (va_up g (Int32.ofInt (xv ν ix)).toNatClampNeg (some (μ rv))))) (pc + 1) lvc s3
            rw [i5]
            have hwn := tst_ok (w := some (μ rv)) hw hb hk h0 h40 hz rfl hf i1 (fun b h => by cases h; exact ⟨m1, m2⟩) hmi'
            rw [hX1] at hwn
            exact kk _ _ _ _ _ (List.mem_singleton.mpr rfl) _ _ _ _ hwn
          · cases hs
      · cases hs
    · cases hs
  · cases hs
theorem srcB_ok (h : Wd X K B L f ν μ lv st G lvc stc) {kd b N : Nat} {g : Nat → Int32} {bb : Int × Int} (hb : b ∈ L) (hk : K b = kd) (hz : (zkd kd).1 = 2) (hN : (zkd kd).2.1 = N) (hf : f b = zIA X.1 N g) (hs : srcB G kd = some bb) (i : Nat) (hi : i < N) : bb.1 ≤ (g i).toInt ∧ (g i).toInt ≤ bb.2 := by
  have hcok := h.1.1 b hb
  rw [hk] at hcok
  unfold cok at hcok
  rw [hz] at hcok
  obtain ⟨g', hf', hbd⟩ := hcok
  have hg : g' = g := by
    rw [hf, hN] at hf'
    cases hf'
    rfl
  subst hg
  have h1 := hbd i (by rw [hN]; exact hi)
  have h2 := abB_ok h (j := i) (x := g' i) hb hk (by rw [hN]; exact hi) (by rw [hf]; rfl)
  unfold srcB at hs
  split at hs
  · rename_i d ds hd
    cases hs
    unfold kbd at h1
    rw [hd] at h1
    obtain ⟨a1, a2, -⟩ := h1
    have a1' : d.2.1 ≤ (g' i).toInt := a1
    have a2' : (g' i).toInt ≤ d.2.2 := a2
    dsimp only
    omega
  · cases hs
theorem sCpy_ok {mods : List (Nat × Nat)} {idx : Nat} {rs : List EP} (hE : zOk E (l0, D0, cy0, ax0) own cc nL R0) (hX1 : X.1 = cy0) (hX : X.2.1 = mods) (hq1 : Cond.methodLink own idx arraycopyName ∈ gtbl) (hq2 : Cond.native arraycopyName ∈ gtbl) (hq3 : Cond.static arraycopyName ∈ gtbl) (hq4 : Cond.initialized "java/lang/System" ∈ gtbl) (hf1 : 1 ≤ R0.frames) (hf2 : nativeFrameWords "java/lang/System" "arraycopy" 5 + 11 ≤ R0.locals) (hd : decode cc pc = .ok (.invokestatic idx, ln)) (h : Wd X K B L f ν μ lv st G lvc stc) (hs : sCpy mods ln pc lv st G = some rs) (kk : AllS E k n X rs) : eW E k n L f pc lvc stc := by
  unfold sCpy at hs
  split at hs
  · rename_i tz rz z tp rp dp t r e1 tq rq sp t2 r2 e2
    split at hs
    · rename_i kd k2 hr hr2
      split at hs
      · rename_i hc
        simp only [Bool.and_eq_true, beq_iff_eq, Bool.not_eq_true', beq_eq_false_iff_ne, decide_eq_true_eq, Bool.or_eq_false_iff] at hc
        obtain ⟨⟨⟨⟨⟨⟨⟨⟨⟨⟨⟨⟨⟨⟨⟨⟨⟨rfl, rfl⟩, rfl⟩, rfl⟩, rfl⟩, rfl⟩, rfl⟩, rfl⟩, hz0⟩, hz1⟩, hz2⟩, hz3⟩, hz4⟩, hzk⟩, hzk2⟩, h0⟩, hmi⟩, hrl⟩ := hc
        split at hs
        · rename_i bb d ds hsb hdd
          split at hs
          · rename_i hbb
            simp only [Bool.and_eq_true, decide_eq_true_eq] at hbb
            cases hs
            obtain ⟨s1, rfl, hw1⟩ := h.pop
            obtain ⟨s2, rfl, hw2⟩ := hw1.pop
            obtain ⟨s3, rfl, hw3⟩ := hw2.pop
            obtain ⟨s4, rfl, hw4⟩ := hw3.pop
            obtain ⟨s5, rfl, hw⟩ := hw4.pop
            have hs5 : s5 = [] := hw.2.2.2.2.2
            subst hs5
            obtain ⟨hb, hk, hcok⟩ := h.cok hr
            obtain ⟨hb2, hk2, hcok2⟩ := h.cok hr2
            unfold cok at hcok hcok2
            rw [hzk] at hcok
            rw [hzk2] at hcok2
            obtain ⟨g, hf, hbd⟩ := hcok
            obtain ⟨g2, hf2', hbd2⟩ := hcok2
            have hff := hf
            have hff2 := hf2'
            rw [hX1] at hff hff2
            have ez : xv ν z = z.1 := xv_cst hz0
            have hzi : (Int32.ofInt (xv ν z)).toInt = z.1 := by rw [ez]; exact i32i (by omega) (by omega)
            have hzn : (Int32.ofInt (xv ν z)).toNatClampNeg = z.1.toNat := by
              show (Int32.ofInt (xv ν z)).toInt.toNat = _
              rw [hzi]
            have e00 : Int32.ofInt (xv ν (0, [])) = 0 := rfl
            rw [cv0 (v := (0, rz, z)) rfl, cv0 (v := (0, rp, (0, []))) rfl, cv2 (v := (2, r, e1)) rfl, cv0 (v := (0, rq, (0, []))) rfl, cv2 (v := (2, r2, e2)) rfl]
            show eW E k n L f pc lvc [.int (Int32.ofInt (xv ν z)), .int (Int32.ofInt (xv ν (0, []))), .ref (μ r), .int (Int32.ofInt (xv ν (0, []))), .ref (μ r2)]
            rw [e00]
            have hz00 : (0 : Int32).toNatClampNeg = 0 := rfl
            refine h_copy (N0 := (zkd k2).2.1) (N1 := (zkd kd).2.1) hE hq1 hq2 hq3 hq4 hb2 hff2 hb hff (by decide) (by decide) (fun hlt => by rw [fa_lt, hzi] at hlt; have : (0 : Int32).toInt = 0 := rfl; omega) (by rw [hzn, hz00]; omega) (by rw [hzn, hz00]; omega) hf1 (by simpa using hf2) hd ?_
            rw [hzn, hz00]
            have hcp : ∀ i, i < (zkd kd).2.1 → d.2.1 ≤ (va_cpy g2 g 0 0 z.1.toNat i).toInt ∧ (va_cpy g2 g 0 0 z.1.toNat i).toInt ≤ d.2.2 ∧ (z.1 = ((zkd kd).2.1 : Int) → bb.1 ≤ (va_cpy g2 g 0 0 z.1.toNat i).toInt ∧ (va_cpy g2 g 0 0 z.1.toNat i).toInt ≤ bb.2) := fun i hi => by
              unfold va_cpy
              have a1 := hbd i hi
              unfold kbd at a1
              rw [hdd] at a1
              obtain ⟨a2, a3, -⟩ := a1
              have a2' : d.2.1 ≤ (g i).toInt := a2
              have a3' : (g i).toInt ≤ d.2.2 := a3
              split
              · rename_i hin
                have e9 : 0 + (i - 0) = i := by omega
                rw [e9]
                have a4 := srcB_ok hw hb2 hk2 hzk2 rfl hf2' hsb i (by omega)
                exact ⟨by omega, by omega, fun _ => a4⟩
              · exact ⟨a2', a3', fun h => by omega⟩
            have hwn : Wd X K B L (va_up f (μ r) (zIA cy0 (zkd kd).2.1 (va_cpy g2 g 0 0 z.1.toNat))) ν μ lv [] (dropM G kd (fun _ => false) (fun _ => false) false 0) lvc [] := by
              have nA : isA kd = false := by
                cases hA : isA kd with
                | false => rfl
                | true =>
                  simp only [isA, Bool.or_eq_true, beq_iff_eq] at hA
                  rcases hA with (hA | hA) | hA <;> rw [hA] at hdd <;> cases hdd
              refine up_ok (j := 0) hw hb hk h0 (fun i hi => ?_) ?_ (XP_up hw.1 hb hk (fun i hi => ?_)) (fun hf => by cases hf) (fun q hq hqk hkeep => by cases hkeep) (fun q hq hqk hkeep => by cases hkeep)
              · exfalso
                unfold reg at hi
                rw [nA, if_neg (by decide), if_neg (by rw [hzk]; decide)] at hi
                exact hi (by rw [hX]; exact mIn_ok hmi)
              · unfold cok
                rw [hzk]
                refine ⟨_, by rw [hX1], fun i hi => ?_⟩
                unfold kbd
                rw [hdd]
                exact ⟨(hcp i hi).1, (hcp i hi).2.1, fun h => by cases h⟩
              · exfalso
                have hno : ∀ q, (zkd q).1 ≠ 2 → kd ≠ q := fun q hq e => hq (by rw [← e]; exact hzk)
                have hne : ∀ q, (zkd q).2.2 = [] → kd ≠ q := fun q hq e => by rw [e, hq] at hdd; cases hdd
                rw [rel_no (hno 20 (by decide)) (hno 200 (by decide)) hrl.1 hrl.2 (hne kMTX (by decide)) (hne kMA (by decide)) (hne kMI (by decide))] at hi
                cases hi
            refine kk K B L _ _ (List.mem_singleton.mpr rfl) ν μ lvc [] ?_
            show Wd X K B L _ ν μ lv [] (if decide (z.1 = ((zkd kd).2.1 : Int)) && Nat.ble 40 kd && !(decide (bb.1 = d.2.1) && decide (bb.2 = d.2.2)) then _ else _) lvc []
            split
            · rename_i hfull
              simp only [Bool.and_eq_true, decide_eq_true_eq, Nat.ble_eq] at hfull
              have hfull' : z.1 = ((zkd kd).2.1 : Int) := hfull.1.1
              have h40 : 40 ≤ kd := hfull.1.2
              obtain ⟨y1, y2, y3, ⟨g1, g2', g3, g4, g5, g6, g7⟩, y5, y6⟩ := hwn
              refine ⟨y1, y2, ?_, ⟨g1, g2', g3, g4, g5, fun q hq => ?_, g7⟩, y5, y6⟩
              · obtain ⟨cy, mods, L0, f0, K0, n0, ν0, r0, μ0⟩ := X
                exact y3
              · rcases List.mem_cons.mp hq with rfl | hq
                · intro b' hb' hkb i hi
                  have hkb' : K b' = kd := hkb
                  have hbr : b' = μ r := hw.uni hb' hb (hkb'.trans hk.symm) (by rw [hkb']; exact h40)
                  subst hbr
                  rw [va_up_self]
                  exact ⟨_, rfl, ((hcp i hi).2.2 hfull').1, ((hcp i hi).2.2 hfull').2⟩
                · exact g6 q hq
            · exact hwn
          · cases hs
        · cases hs
      · cases hs
    · cases hs
  · cases hs
end NW
