/-! The check is sound. -/
/-- X is a stretch of a run that began at K0 .. μi -/
def seg (X : EC) (D : DT) (cy : Nat → ClassId) (K0 : Nat → Nat) (B0 : Int) (L0 : List Nat) (f0 : Nat → va_E) (νi : Nat → Int) (μi : Nat → Nat) : Prop := match X with
  | (cy', mods, L1, f1, K1, N, ν0, R, μ0) => cy' = cy ∧ mods = dMods D ∧ L1 = L0 ∧ f1 = f0 ∧ K1 = K0 ∧ dN0 D ≤ N ∧ ν0 N = B0 ∧ (∀ i, i < dN0 D → ν0 i = νi i) ∧ dR0 D ≤ R ∧ ∀ i, i < dR0 D → μ0 i = μi i
section RO
variable {E : zCx} {l0 : Launch} {D0 : va_G} {cy0 : Nat → ClassId} {ax0 : zAx} {own : String} {cc : ByteArray} {mt : Nat → MT} {D : DT} {k n : Nat} {K : Nat → Nat} {B : Int} {L : List Nat} {f : Nat → va_E} {ν : Nat → Int} {μ : Nat → Nat} {lv : EL} {st : List EV} {G : EG} {lvc : List (Nat × Value)} {stc : List Value} {pc : Nat} {X : EC}
variable {K0 : Nat → Nat} {B0 : Int} {L0 : List Nat} {f0 : Nat → va_E} {νi : Nat → Int} {μi : Nat → Nat} {ret : Option FieldType}
theorem seg1 (h : seg X D cy0 K0 B0 L0 f0 νi μi) : X.1 = cy0 ∧ X.2.1 = dMods D := by
  obtain ⟨cy, mods, L1, f1, K1, N, ν0, R, μ0⟩ := X
  exact ⟨h.1, h.2.1⟩
theorem seg_inp (h : seg X D cy0 K0 B0 L0 f0 νi μi) (hw : Wd X K B L f ν μ lv st G lvc stc) : (∀ i, i < dN0 D → ν i = νi i) ∧ ∀ i, i < dR0 D → μ i = μi i := by
  obtain ⟨cy, mods, L1, f1, K1, N, ν0, R, μ0⟩ := X
  obtain ⟨-, -, -, -, -, h1, -, h2, h3, h4⟩ := h
  obtain ⟨-, -, h5, h6⟩ := hw.2.2.1
  exact ⟨fun i hi => (h5 i (by omega)).trans (h2 i hi), fun i hi => (h6 i (by omega)).trans (h4 i hi)⟩
theorem seg_ext (h : seg X D cy0 K0 B0 L0 f0 νi μi) (hw : Wd X K B L f ν μ lv st G lvc stc) : extC (dMods D) K0 B0 L0 f0 K B L f := by
  obtain ⟨cy, mods, L1, f1, K1, N, ν0, R, μ0⟩ := X
  obtain ⟨rfl, rfl, rfl, rfl, rfl, h1, h7, h2, h3, h4⟩ := h
  obtain ⟨x1, x2, x3⟩ := hw.2.1
  exact ⟨x1, fun hn => (x2 hn).trans h7, x3⟩
theorem retC_ok (h : Wd X K B L f ν μ lv st G lvc stc) (hg : seg X D cy0 K0 B0 L0 f0 νi μi) (hr : retC D lv st G = true) {r : Option Value} (hrs : stc = r.toList) : cpost cy0 (dC D) K0 B0 L0 f0 νi μi r (L, f) := by
  unfold retC at hr
  obtain ⟨C, hC, h1⟩ := List.any_eq_true.mp hr
  simp only [Bool.and_eq_true] at h1
  obtain ⟨q, hq⟩ := Option.isSome_iff_exists.mp h1.2
  obtain ⟨a1, -, a3⟩ := mOk_ok h (mT_ok hq)
  obtain ⟨i1, i2⟩ := seg_inp hg h
  refine ⟨C, hC, K, B, _, _, by rw [← (seg1 hg).1]; exact h.1, seg_ext hg h, a1, fun i hi => ?_, fun i hi => ?_, by rw [← a3, hrs]⟩
  · unfold nuw
    have hi' : i < dN0 D := hi
    rw [if_pos hi']
    exact i1 i hi'
  · unfold mur idR
    have hi' : i < dR0 D := hi
    rw [if_pos (by simpa using hi')]
    exact i2 i hi
theorem sRet_ok {i : Instr} {ln : Nat} (hE : zOk E (l0, D0, cy0, ax0) own cc (dNL D) (zrm (dC D).2.2.2.1 (dC D).2.2.2.2.1 (dC D).2.2.2.2.2.1)) (hrb : dRb D = false → ret ≠ some .boolean ∧ (∀ ft, ret = some ft → ∀ v : Int32, ft ≠ .boolean → narrow ft (.int v) = .int v)) (hrb2 : dRb D = true → ret = some .boolean) (hret : eRet E (dC D).2.2.2.2.2.2 cc ret (zrm (dC D).2.2.2.1 (dC D).2.2.2.2.1 (dC D).2.2.2.2.2.1) (cpost cy0 (dC D) K0 B0 L0 f0 νi μi)) (hg : seg X D cy0 K0 B0 L0 f0 νi μi) (hd : decode cc pc = .ok (i, ln)) (h : Wd X K B L f ν μ lv st G lvc stc) (hk : k ≤ (dC D).2.2.2.2.1) (hn : n ≤ (dC D).2.2.2.2.2.1) (hs : sRet D i ln lv st G = true) : eW E k n L f pc lvc stc := by
  unfold sRet at hs
  split at hs
  · rename_i v
    simp only [Bool.and_eq_true, Bool.or_eq_true, beq_iff_eq, Bool.not_eq_true'] at hs
    obtain ⟨⟨⟨⟨rfl, ht⟩, hv⟩, hb⟩, hr⟩ := hs
    rw [ht] at hret
    have hst : stc = [.int (Int32.ofInt (xv ν v.2.2))] := by
      rw [h.2.2.2.2.2, List.map_cons, cv0 hv]
      rfl
    rw [hst]
    refine hret k n L f pc lvc _ hk hn hd (fun ft hft => ?_) (retC_ok h hg hr (by rw [hst]; rfl))
    rcases hb with hb | hb
    · obtain ⟨n1, n2⟩ := hrb hb
      exact n2 ft hft _ (fun e => n1 (by rw [hft, e]))
    · cases hbb : dRb D with
      | false =>
        obtain ⟨n1, n2⟩ := hrb hbb
        exact n2 ft hft _ (fun e => n1 (by rw [hft, e]))
      | true =>
        have hft2 := hrb2 hbb
        rw [hft] at hft2
        cases hft2
        have a1 := ge0_ok h.2.2.2.1.1 h.2.2.2.1.2.1 hb.1.1
        have a2 := ge0_ok h.2.2.2.1.1 h.2.2.2.1.2.1 hb.1.2
        rw [xv_k, xv_sc] at a2
        have e1 := rg32_ok h.2.2.2.1.1 hb.2
        exact (nar_b (by rw [e1]; exact a1) (by rw [e1]; omega)).1
  · rename_i v
    simp only [Bool.and_eq_true, beq_iff_eq] at hs
    obtain ⟨⟨⟨rfl, ht⟩, hv⟩, hr⟩ := hs
    rw [ht] at hret
    have hst : stc = [.long (Int64.ofInt (xv ν v.2.2))] := by
      rw [h.2.2.2.2.2, List.map_cons, cv1 hv]
      rfl
    rw [hst]
    exact hret k n L f pc lvc _ hk hn hd (retC_ok h hg hr (by rw [hst]; rfl))
  · rename_i v
    simp only [Bool.and_eq_true, Bool.or_eq_true, beq_iff_eq] at hs
    obtain ⟨⟨rfl, ht⟩, hr⟩ := hs
    rcases ht with ⟨ht, hv⟩ | ⟨ht, hv⟩
    · rw [ht] at hret
      have hst : stc = [.ref (μ v.2.1)] := by
        rw [h.2.2.2.2.2, List.map_cons, cv2 hv]
        rfl
      rw [hst]
      exact hret k n L f pc lvc _ hk hn hd (retC_ok h hg hr (by rw [hst]; rfl))
    · rw [ht] at hret
      rcases hv with hv | hv
      · have hst : stc = [va_rf (some (μ v.2.1))] := by
          rw [h.2.2.2.2.2, List.map_cons, cv2 hv]
          rfl
        rw [hst]
        exact hret k n L f pc lvc _ hk hn hd (retC_ok h hg hr (by rw [hst]; rfl))
      · have hst : stc = [va_rf none] := by
          rw [h.2.2.2.2.2, List.map_cons, cv3 hv]
          rfl
        rw [hst]
        exact hret k n L f pc lvc _ hk hn hd (retC_ok h hg hr (by rw [hst]; rfl))
  · simp only [Bool.and_eq_true, beq_iff_eq] at hs
    obtain ⟨⟨rfl, ht⟩, hr⟩ := hs
    rw [ht] at hret
    have hst : stc = [] := h.2.2.2.2.2
    rw [hst]
    exact hret k n L f pc lvc hk hn hd (retC_ok h hg hr (by rw [hst]; rfl))
  · cases hs
theorem sLdc_ok {nL : Nat} {R0 : Room} {i : Instr} {ln : Nat} {r : EP} (hE : zOk E (l0, D0, cy0, ax0) own cc nL R0) (hD : dOk (l0, D0, cy0, ax0) own cc mt D) (hd : decode cc pc = .ok (i, ln)) (h : Wd X K B L f ν μ lv st G lvc stc) (hs : sLdc D i ln pc lv st G = some r) : Fwd E k n X K B L f pc lvc stc r := by
  unfold sLdc at hs
  split at hs
  · rename_i idx
    split at hs
    · rename_i v hv
      split at hs
      · rename_i hl
        have hl' : ln = 2 := by simpa using hl
        subst hl'
        cases hs
        refine ⟨ν, μ, lvc, _, h.push (0, 0, xc v), fun kk => ?_⟩
        rw [cv0 rfl] at kk
        refine x_ldc hE (hD.2.2.2.1 idx v hv) hd ?_
        have e : xv ν (xc v) = v := xv_c v
        rw [← e]
        exact kk
      · cases hs
    · cases hs
  · rename_i idx
    split at hs
    · rename_i v hv
      split at hs
      · rename_i hl
        have hl' : ln = 3 := by simpa using hl
        subst hl'
        cases hs
        refine ⟨ν, μ, lvc, _, h.push (0, 0, xc v), fun kk => ?_⟩
        rw [cv0 rfl] at kk
        refine x_ldcw hE (hD.2.2.2.1 idx v hv) hd ?_
        have e : xv ν (xc v) = v := xv_c v
        rw [← e]
        exact kk
      · cases hs
    · cases hs
  · rename_i idx
    split at hs
    · rename_i v hv
      split at hs
      · rename_i hl
        have hl' : ln = 3 := by simpa using hl
        subst hl'
        cases hs
        refine ⟨ν, μ, lvc, _, h.push (1, 0, xc v), fun kk => ?_⟩
        rw [cv1 rfl] at kk
        refine x_ldc2 hE (hD.2.2.2.2.1 idx v hv) hd ?_
        have e : xv ν (xc v) = v := xv_c v
        rw [← e]
        exact kk
      · cases hs
    · cases hs
  · cases hs
theorem pur_ok {R0 : Room} {i : Instr} {ln : Nat} {r : EP} (hE : zOk E (l0, D0, cy0, ax0) own cc (dNL D) R0) (hD : dOk (l0, D0, cy0, ax0) own cc mt D) (hd : decode cc pc = .ok (i, ln)) (h : Wd X K B L f ν μ lv st G lvc stc) (hs : pur D i ln pc lv st G = some r) : Fwd E k n X K B L f pc lvc stc r := by
  unfold pur at hs
  split at hs
  · rename_i r' hr
    cases hs
    exact sC_ok hE hd h hr
  · split at hs
    · rename_i r' hr
      cases hs
      exact sL_ok hE hd h hr
    · split at hs
      · rename_i r' hr
        cases hs
        exact sS_ok hE hd h hr
      · split at hs
        · rename_i r' hr
          cases hs
          exact sA_ok hE hd h hr
        · split at hs
          · rename_i r' hr
            cases hs
            exact sU_ok hE hd h hr
          · split at hs
            · rename_i r' hr
              cases hs
              exact sK_ok hE hd h hr
            · exact sLdc_ok hE hD hd h hs
theorem x_min {R0 : Room} {nL idx : Nat} {x z : Int32} {st : List Value} (hE : zOk E (l0, D0, cy0, ax0) own cc nL R0) (hq1 : Cond.methodLink own idx Lib.Math.min.name ∈ gtbl) (hq2 : Cond.static Lib.Math.min.name ∈ gtbl) (hq3 : Cond.initialized "java/lang/Math" ∈ gtbl) (hq4 : Cond.code Lib.Math.min.name Lib.Math.min.code 2 (some .int) ∈ gtbl) (h1 : 1 ≤ R0.frames) (h2 : (st.map fun v => v.category).sum + 13 ≤ R0.locals) (h3 : k ≤ R0.cells) (h4 : n ≤ R0.slots) (hd : decode cc pc = .ok (.invokestatic idx, 3)) (kk : eW E k n L f (pc + 3) lvc (.int (if z < x then z else x) :: st)) : eW E k n L f pc lvc (.int z :: .int x :: st) := by
  obtain ⟨p, l, e, R, s, m, args, below, meth, c, D, cy, A, Q, ax⟩ := E
  obtain ⟨hx, hb, hml, hown, hts, hK, hA, hX, rfl, hh⟩ := hE
  intro H locs ls hJ hl
  exact va_mmin hx hb hl.1.symm hown (hts _ hq1) (hts _ hq2) (hts _ hq3) (hts _ hq4) h1 h2 h3 h4 hd (kk H locs ls hJ hl)
theorem x_max {R0 : Room} {nL idx : Nat} {x z : Int32} {st : List Value} (hE : zOk E (l0, D0, cy0, ax0) own cc nL R0) (hq1 : Cond.methodLink own idx Lib.Math.max.name ∈ gtbl) (hq2 : Cond.static Lib.Math.max.name ∈ gtbl) (hq3 : Cond.initialized "java/lang/Math" ∈ gtbl) (hq4 : Cond.code Lib.Math.max.name Lib.Math.max.code 2 (some .int) ∈ gtbl) (h1 : 1 ≤ R0.frames) (h2 : (st.map fun v => v.category).sum + 13 ≤ R0.locals) (h3 : k ≤ R0.cells) (h4 : n ≤ R0.slots) (hd : decode cc pc = .ok (.invokestatic idx, 3)) (kk : eW E k n L f (pc + 3) lvc (.int (if x < z then z else x) :: st)) : eW E k n L f pc lvc (.int z :: .int x :: st) := by
  obtain ⟨p, l, e, R, s, m, args, below, meth, c, D, cy, A, Q, ax⟩ := E
  obtain ⟨hx, hb, hml, hown, hts, hK, hA, hX, rfl, hh⟩ := hE
  intro H locs ls hJ hl
  exact va_mmax hx hb hl.1.symm hown (hts _ hq1) (hts _ hq2) (hts _ hq3) (hts _ hq4) h1 h2 h3 h4 hd (kk H locs ls hJ hl)
theorem sMM_ok {mx : Bool} {idx ln : Nat} {rs : List EP} (hE : zOk E (l0, D0, cy0, ax0) own cc (dNL D) (zrm (dC D).2.2.2.1 (dC D).2.2.2.2.1 (dC D).2.2.2.2.2.1)) (hD : dOk (l0, D0, cy0, ax0) own cc mt D) (hd1 : 1 ≤ (dC D).2.2.2.1) (hl1 : mx = true → Cond.methodLink own idx Lib.Math.max.name ∈ gtbl) (hl2 : mx = false → Cond.methodLink own idx Lib.Math.min.name ∈ gtbl) (hd : decode cc pc = .ok (.invokestatic idx, ln)) (h : Wd X K B L f ν μ lv st G lvc stc) (hs : sMM mx ln pc lv st G = some rs) (hk : k ≤ (dC D).2.2.2.2.1) (hn : n ≤ (dC D).2.2.2.2.2.1) (kk : Alls E k n X K B L f rs) : eW E k n L f pc lvc stc := by
  obtain ⟨-, -, -, -, -, -, -, -, -, -, -, -, m1, m2, m3, m4, m5⟩ := hD
  unfold sMM at hs
  split at hs
  · rename_i ty ry y tx rx x st'
    split at hs
    · rename_i hc
      simp only [Bool.and_eq_true, beq_iff_eq, Nat.ble_eq] at hc
      obtain ⟨⟨⟨⟨⟨rfl, rfl⟩, rfl⟩, hrx⟩, hry⟩, hsl⟩ := hc
      cases hs
      obtain ⟨s1, rfl, hw1⟩ := h.pop
      obtain ⟨s2, rfl, hw⟩ := hw1.pop
      have ex := rg32_ok hw.2.2.2.1.1 hrx
      have ey := rg32_ok hw.2.2.2.1.1 hry
      have hloc : (s2.map fun v => v.category).sum + 13 ≤ 60 * (dC D).2.2.2.1 := by
        have := cat_sum ν μ st'
        rw [hw.2.2.2.2.2]
        omega
      rw [cv0 (v := (0, ry, y)) rfl, cv0 (v := (0, rx, x)) rfl]
      cases mx with
      | true =>
        refine x_max hE (hl1 rfl) m1 m3 m4 hd1 hloc hk hn hd ?_
        have ex' : (Int32.ofInt (xv ν x)).toInt = xv ν x := ex
        have ey' : (Int32.ofInt (xv ν y)).toInt = xv ν y := ey
        by_cases hlt : xv ν x < xv ν y
        · rw [if_pos (by rw [fa_lt]; show (Int32.ofInt (xv ν x)).toInt < (Int32.ofInt (xv ν y)).toInt; rw [ex', ey']; exact hlt)]
          obtain ⟨G', g1, g2⟩ := hw.as1 (e := xk (xsub y x) (-1)) (by rw [xv_k, xv_sub]; omega)
          have := g2.push (0, 0, y)
          rw [cv0 rfl] at this
          exact kk _ (List.mem_append_left _ (opm_mem g1)) _ _ _ _ this
        · rw [if_neg (by rw [fa_lt]; show ¬ (Int32.ofInt (xv ν x)).toInt < (Int32.ofInt (xv ν y)).toInt; rw [ex', ey']; exact hlt)]
          obtain ⟨G', g1, g2⟩ := hw.as1 (e := xsub x y) (by rw [xv_sub]; omega)
          have := g2.push (0, 0, x)
          rw [cv0 rfl] at this
          exact kk _ (List.mem_append_right _ (opm_mem g1)) _ _ _ _ this
      | false =>
        refine x_min hE (hl2 rfl) m2 m3 m5 hd1 hloc hk hn hd ?_
        have ex' : (Int32.ofInt (xv ν x)).toInt = xv ν x := ex
        have ey' : (Int32.ofInt (xv ν y)).toInt = xv ν y := ey
        by_cases hlt : xv ν y < xv ν x
        · rw [if_pos (by rw [fa_lt]; show (Int32.ofInt (xv ν y)).toInt < (Int32.ofInt (xv ν x)).toInt; rw [ex', ey']; exact hlt)]
          obtain ⟨G', g1, g2⟩ := hw.as1 (e := xk (xsub x y) (-1)) (by rw [xv_k, xv_sub]; omega)
          have := g2.push (0, 0, y)
          rw [cv0 rfl] at this
          exact kk _ (List.mem_append_left _ (opm_mem g1)) _ _ _ _ this
        · rw [if_neg (by rw [fa_lt]; show ¬ (Int32.ofInt (xv ν y)).toInt < (Int32.ofInt (xv ν x)).toInt; rw [ex', ey']; exact hlt)]
          obtain ⟨G', g1, g2⟩ := hw.as1 (e := xsub y x) (by rw [xv_sub]; omega)
          have := g2.push (0, 0, x)
          rw [cv0 rfl] at this
          exact kk _ (List.mem_append_right _ (opm_mem g1)) _ _ _ _ this
    · cases hs
  · cases hs
theorem sCall_ok {sm : Bool} {idx ln dk dn : Nat} {rs : List EP} {i : Instr} (hE : zOk E (l0, D0, cy0, ax0) own cc (dNL D) (zrm (dC D).2.2.2.1 (dC D).2.2.2.2.1 (dC D).2.2.2.2.2.1)) (hD : dOk (l0, D0, cy0, ax0) own cc mt D) (hd1 : 1 ≤ (dC D).2.2.2.1) (hg : seg X D cy0 K0 B0 L0 f0 νi μi) (hi : i = (if sm = true then .invokestatic idx else .invokevirtual idx)) (hd : decode cc pc = .ok (i, ln)) (h : Wd X K B L f ν μ lv st G lvc stc) (hs : sCall D sm idx ln pc lv st G = some (dk, dn, rs)) (hk : k + dk ≤ (dC D).2.2.2.2.1) (hn : n + dn ≤ (dC D).2.2.2.2.2.1) (kk : AllS E (k + dk) (n + dn) X rs) : eW E k n L f pc lvc stc := by
  obtain ⟨x1, x2⟩ := seg1 hg
  unfold sCall at hs
  split at hs
  · rename_i mode mi ci na hlt
    obtain ⟨t1, t2, t3, t4⟩ := hD.2.2.1 idx mode mi ci na hlt
    split at hs
    · rename_i hc
      simp only [Bool.and_eq_true, beq_iff_eq] at hc
      obtain ⟨rfl, rfl⟩ := hc
      obtain ⟨hs', rfl, rfl⟩ := zro_e hs
      have hi' : i = .invokestatic idx := by rw [hi]; rfl
      rw [hi'] at hd
      obtain ⟨-, -, -, -, -, -, -, -, q2, q3, q4, q5, -⟩ := hD
      refine sCpy_ok hE x1 x2 (t2 rfl) q2 q3 q4 hd1 ?_ hd h hs' kk
      show _ ≤ 60 * (dC D).2.2.2.1
      omega
    · split at hs
      · rename_i hc
        simp only [Bool.and_eq_true, beq_iff_eq] at hc
        obtain ⟨rfl, rfl⟩ := hc
        obtain ⟨hs', rfl, rfl⟩ := zro_e hs
        have hi' : i = .invokestatic idx := by rw [hi]; rfl
        rw [hi'] at hd
        exact sMM_ok (mx := true) hE hD hd1 (fun _ => t3 rfl) (fun h => by cases h) hd h hs' hk hn (kk K B L f)
      split at hs
      · rename_i hc
        simp only [Bool.and_eq_true, beq_iff_eq] at hc
        obtain ⟨rfl, rfl⟩ := hc
        obtain ⟨hs', rfl, rfl⟩ := zro_e hs
        have hi' : i = .invokestatic idx := by rw [hi]; rfl
        rw [hi'] at hd
        exact sMM_ok (mx := false) hE hD hd1 (fun h => by cases h) (fun _ => t4 rfl) hd h hs' hk hn (kk K B L f)
      split at hs
      · rename_i hc
        simp only [Bool.and_eq_true, Bool.or_eq_true, beq_iff_eq, Bool.not_eq_true'] at hc
        obtain ⟨rfl, hc⟩ := hc
        obtain ⟨j, hj, hj2⟩ := fst1_ok _ hs
        split at hj2
        · rename_i q hq
          split at hj2
          · rename_i hmi
            have hmi' : q.1 = mi := by simpa using hmi
            have hM := hD.2.2.2.2.2.1 j q.1 q.2 hq
            rw [hmi'] at hM
            refine callC_ok (i := i) hE x1 x2 hM (t1 (by rcases hc with ⟨h1, -⟩ | ⟨h1 | h1, -⟩ <;> omega)) ?_ hd h hj2 hk hn kk
            rw [hi]
            rcases hc with ⟨h1, h2⟩ | ⟨h1 | h1, h2⟩
            · rw [h2, h1]
              rfl
            · rw [h2, h1]
              rfl
            · rw [h2, h1]
              rfl
          · cases hj2
        · cases hj2
      · cases hs
  · cases hs
end RO
