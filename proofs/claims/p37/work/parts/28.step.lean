/-! One step, a run, the check. -/
section RP
variable {E : zCx} {l0 : Launch} {D0 : va_G} {cy0 : Nat → ClassId} {ax0 : zAx} {own : String} {cc : ByteArray} {mt : Nat → MT} {D : DT} {k n : Nat} {K : Nat → Nat} {B : Int} {L : List Nat} {f : Nat → va_E} {ν : Nat → Int} {μ : Nat → Nat} {lv : EL} {st : List EV} {G : EG} {lvc : List (Nat × Value)} {stc : List Value} {pc : Nat} {X : EC}
variable {K0 : Nat → Nat} {B0 : Int} {L0 : List Nat} {f0 : Nat → va_E} {νi : Nat → Int} {μi : Nat → Nat} {ret : Option FieldType}
theorem one_go {R0 : Room} {i : Instr} {ln dk dn : Nat} {o : Option EP} {rs : List EP} (hs : one o = some (dk, dn, rs)) (hf : ∀ r, o = some r → Fwd E k n X K B L f pc lvc stc r) (kk : AllS E (k + dk) (n + dn) X rs) : eW E k n L f pc lvc stc := by
  obtain ⟨p, h1, rfl, rfl, rfl⟩ := one_e hs
  exact Fwd_go (hf p h1) kk
theorem step_ok0 {dk dn : Nat} {rs : List EP} (hE : zOk E (l0, D0, cy0, ax0) own cc (dNL D) (zrm (dC D).2.2.2.1 (dC D).2.2.2.2.1 (dC D).2.2.2.2.2.1)) (hD : dOk (l0, D0, cy0, ax0) own cc mt D) (hd1 : 1 ≤ (dC D).2.2.2.1) (hrb : dRb D = false → ret ≠ some .boolean ∧ (∀ ft, ret = some ft → ∀ v : Int32, ft ≠ .boolean → narrow ft (.int v) = .int v)) (hrb2 : dRb D = true → ret = some .boolean) (hret : eRet E (dC D).2.2.2.2.2.2 cc ret (zrm (dC D).2.2.2.1 (dC D).2.2.2.2.1 (dC D).2.2.2.2.2.1) (cpost cy0 (dC D) K0 B0 L0 f0 νi μi)) (hg : seg X D cy0 K0 B0 L0 f0 νi μi) (h : Wd X K B L f ν μ lv st G lvc stc) (hs : stepA0 D pc lv st G = some (dk, dn, rs)) (hk : k + dk ≤ (dC D).2.2.2.2.1) (hn : n + dn ≤ (dC D).2.2.2.2.2.1) (kk : AllS E (k + dk) (n + dn) X rs) : eW E k n L f pc lvc stc := by
  obtain ⟨x1, x2⟩ := seg1 hg
  unfold stepA0 at hs
  split at hs
  · cases hs
  · rename_i i ln hins
    have hd := hD.1 pc _ hins
    split at hs
    · obtain ⟨hs1, rfl, rfl⟩ := zro_e hs
      exact sGet_ok (cy0 := cy0) hE hD.2.1 hd h hs1 (kk K B L f)
    · obtain ⟨hs1, rfl, rfl⟩ := zro_e hs
      exact sPut_ok hE x2 hD.2.1 hd h hs1 kk
    · obtain ⟨hs1, rfl, rfl⟩ := zro_e hs
      exact sIld_ok hE x1 hd h hs1 (kk K B L f)
    · obtain ⟨hs1, rfl, rfl⟩ := zro_e hs
      exact sZld_ok hE x1 hd h hs1 (kk K B L f)
    · obtain ⟨hs1, rfl, rfl⟩ := zro_e hs
      exact sJld_ok hE x1 hd h hs1 (kk K B L f)
    · obtain ⟨hs1, rfl, rfl⟩ := zro_e hs
      exact sRld_ok hE x1 hd h hs1 (kk K B L f)
    · obtain ⟨hs1, rfl, rfl⟩ := zro_e hs
      exact sLen_ok hE x1 hd h hs1 (kk K B L f)
    · obtain ⟨hs1, rfl, rfl⟩ := zro_e hs
      exact sIst_ok hE x1 x2 hd h hs1 kk
    · obtain ⟨hs1, rfl, rfl⟩ := zro_e hs
      exact sZst_ok hE x1 x2 hd h hs1 kk
    · obtain ⟨hs1, rfl, rfl⟩ := zro_e hs
      exact sJst_ok hE x1 x2 hd h hs1 kk
    · obtain ⟨hs1, rfl, rfl⟩ := zro_e hs
      exact sRst_ok hE x1 x2 hd h hs1 kk
    · exact sCall_ok (sm := false) hE hD hd1 hg rfl hd h hs hk hn kk
    · exact sCall_ok (sm := true) hE hD hd1 hg rfl hd h hs hk hn kk
    · exact sNew_ok hE x1 hD.2.2.2.2.2.2.1 hD.2.2.2.2.2.2.2.1 hd h hs hk hn kk
    · obtain ⟨hs1, rfl, rfl⟩ := zro_e hs
      exact sB_ok hE hd (fun q hq => by cases hq) h hs1 (kk K B L f)
    · obtain ⟨hs1, rfl, rfl⟩ := zro_e hs
      exact sB_ok hE hd (fun q hq => by cases hq) h hs1 (kk K B L f)
    · obtain ⟨hs1, rfl, rfl⟩ := zro_e hs
      exact sB_ok hE hd (fun q hq => hD.1 _ q hq) h hs1 (kk K B L f)
    · obtain ⟨hs1, rfl, rfl⟩ := zro_e hs
      exact sB_ok hE hd (fun q hq => by cases hq) h hs1 (kk K B L f)
    · obtain ⟨hs1, rfl, rfl⟩ := zro_e hs
      exact sB_ok hE hd (fun q hq => by cases hq) h hs1 (kk K B L f)
    · obtain ⟨hs1, rfl, rfl⟩ := zro_e hs
      exact sB_ok hE hd (fun q hq => by cases hq) h hs1 (kk K B L f)
    · split at hs
      · rename_i r hr
        cases hs
        exact Fwd_go (sMul_ok hE hd h hr) kk
      · exact one_go (R0 := zrm 0 0 0) (i := .lmul) (ln := ln) hs (fun r hr => sLL_ok hE hd h hr) kk
    · exact one_go (R0 := zrm 0 0 0) (i := .lmul) (ln := ln) hs (fun r hr => sLL_ok hE hd h hr) kk
    · exact one_go (R0 := zrm 0 0 0) (i := .lmul) (ln := ln) hs (fun r hr => sLL_ok hE hd h hr) kk
    · exact one_go (R0 := zrm 0 0 0) (i := .lmul) (ln := ln) hs (fun r hr => sLL_ok hE hd h hr) kk
    · exact one_go (R0 := zrm 0 0 0) (i := .lmul) (ln := ln) hs (fun r hr => sLL_ok hE hd h hr) kk
    · exact one_go (R0 := zrm 0 0 0) (i := .lmul) (ln := ln) hs (fun r hr => sLL_ok hE hd h hr) kk
    · exact one_go (R0 := zrm 0 0 0) (i := .lmul) (ln := ln) hs (fun r hr => sLL_ok hE hd h hr) kk
    · exact one_go (R0 := zrm 0 0 0) (i := .lmul) (ln := ln) hs (fun r hr => sLL_ok hE hd h hr) kk
    · exact one_go (R0 := zrm 0 0 0) (i := .lmul) (ln := ln) hs (fun r hr => sLL_ok hE hd h hr) kk
    · split at hs
      · rename_i hr
        cases hs
        exact sRet_ok hE hrb hrb2 hret hg hd h hk hn hr
      · cases hs
    · split at hs
      · rename_i hr
        cases hs
        exact sRet_ok hE hrb hrb2 hret hg hd h hk hn hr
      · cases hs
    · split at hs
      · rename_i hr
        cases hs
        exact sRet_ok hE hrb hrb2 hret hg hd h hk hn hr
      · cases hs
    · split at hs
      · rename_i hr
        cases hs
        exact sRet_ok hE hrb hrb2 hret hg hd h hk hn hr
      · cases hs
    · exact one_go (R0 := zrm 0 0 0) (i := .lmul) (ln := ln) hs (fun r hr => pur_ok hE hD hd h hr) kk
theorem step_ok {dk dn : Nat} {rs : List EP} (hE : zOk E (l0, D0, cy0, ax0) own cc (dNL D) (zrm (dC D).2.2.2.1 (dC D).2.2.2.2.1 (dC D).2.2.2.2.2.1)) (hD : dOk (l0, D0, cy0, ax0) own cc mt D) (hd1 : 1 ≤ (dC D).2.2.2.1) (hrb : dRb D = false → ret ≠ some .boolean ∧ (∀ ft, ret = some ft → ∀ v : Int32, ft ≠ .boolean → narrow ft (.int v) = .int v)) (hrb2 : dRb D = true → ret = some .boolean) (hret : eRet E (dC D).2.2.2.2.2.2 cc ret (zrm (dC D).2.2.2.1 (dC D).2.2.2.2.1 (dC D).2.2.2.2.2.1) (cpost cy0 (dC D) K0 B0 L0 f0 νi μi)) (hg : seg X D cy0 K0 B0 L0 f0 νi μi) (h : Wd X K B L f ν μ lv st G lvc stc) (hs : stepA D pc lv st G = some (dk, dn, rs)) (hk : k + dk ≤ (dC D).2.2.2.2.1) (hn : n + dn ≤ (dC D).2.2.2.2.2.1) (kk : AllS E (k + dk) (n + dn) X rs) (hmac : ∀ pc m, dMac D pc = some m → macOk E X D pc m) : eW E k n L f pc lvc stc := by
  unfold stepA at hs
  split at hs
  · rename_i m hm
    exact hmac pc m hm k n K B L f ν μ lv st G lvc stc dk dn rs h hs hk hn kk
  · exact step_ok0 hE hD hd1 hrb hrb2 hret hg h hs hk hn kk
/-- from every cut whose rank is below -/
def cutH (E : zCx) (D : DT) (cy : Nat → ClassId) (K0 : Nat → Nat) (B0 : Int) (L0 : List Nat) (f0 : Nat → va_E) (νi : Nat → Int) (μi : Nat → Nat) (bd : Option Int) : Prop := ∀ q ∈ dCuts D, ∀ (K : Nat → Nat) (B : Int) (L : List Nat) (f : Nat → va_E) (ν : Nat → Int) (μ : Nat → Nat), hok cy K B L f → extC (dMods D) K0 B0 L0 f0 K B L f → gok K B L f q.2.1.2.2.1 ν μ → (∀ i, i < dN0 D → ν i = νi i) → (∀ i, i < dR0 D → μ i = μi i) → (∀ b, bd = some b → xv ν q.2.2.1 < b) → eW E q.2.2.2.1 q.2.2.2.2 L f q.1 (q.2.1.1.map (cl ν μ)) (q.2.1.2.1.map (cv ν μ))
theorem run_ok {rk : Option EX} {N : Nat} (hE : zOk E (l0, D0, cy0, ax0) own cc (dNL D) (zrm (dC D).2.2.2.1 (dC D).2.2.2.2.1 (dC D).2.2.2.2.2.1)) (hD : dOk (l0, D0, cy0, ax0) own cc mt D) (hd1 : 1 ≤ (dC D).2.2.2.1) (hrb : dRb D = false → ret ≠ some .boolean ∧ (∀ ft, ret = some ft → ∀ v : Int32, ft ≠ .boolean → narrow ft (.int v) = .int v)) (hrb2 : dRb D = true → ret = some .boolean) (hret : eRet E (dC D).2.2.2.2.2.2 cc ret (zrm (dC D).2.2.2.1 (dC D).2.2.2.2.1 (dC D).2.2.2.2.2.1) (cpost cy0 (dC D) K0 B0 L0 f0 νi μi)) (hg : seg X D cy0 K0 B0 L0 f0 νi μi) (hN : X.2.2.2.2.2.1 = N) (hrk : ∀ e, rk = some e → scE N e = true) (hmac : ∀ pc m, dMac D pc = some m → macOk E X D pc m) (hcut : cutH E D cy0 K0 B0 L0 f0 νi μi (rk.map (xv X.2.2.2.2.2.2.1))) : ∀ (F k n : Nat) (p : EP), runS D F k n rk p = true → ∀ (K : Nat → Nat) (B : Int) (L : List Nat) (f : Nat → va_E) (ν : Nat → Int) (μ : Nat → Nat) (lvc : List (Nat × Value)) (stc : List Value), Wd X K B L f ν μ p.2.1 p.2.2.1 p.2.2.2 lvc stc → eW E k n L f p.1 lvc stc := by
  intro F
  induction F with
  | zero => intro k n p h; cases h
  | succ F ih =>
    intro k n p h K B L f ν μ lvc stc hw
    unfold runS at h
    split at h
    · cases h
    · rename_i s hs
      simp only [Bool.and_eq_true, Nat.ble_eq, List.all_eq_true] at h
      obtain ⟨⟨h1, h2⟩, h3⟩ := h
      refine step_ok (dk := s.1) (dn := s.2.1) (rs := s.2.2) hE hD hd1 hrb hrb2 hret hg hw hs h1 h2 (fun K B L f r hr ν μ lvc stc hw => ?_) hmac
      have h4 := h3 r hr
      split at h4
      · rename_i q hq
        have hq1 := List.find?_some hq
        have hq2 := List.mem_of_find?_eq_some hq
        have hq3 : q.1 = r.1 := by simpa using hq1
        unfold cutOk at h4
        split at h4
        · rename_i w hwm
          simp only [Bool.and_eq_true, Nat.ble_eq] at h4
          obtain ⟨⟨a1, a2⟩, a3⟩ := h4
          obtain ⟨m1, m2, m3⟩ := mOk_ok hw (mT_ok hwm)
          obtain ⟨i1, i2⟩ := seg_inp hg hw
          have hgo := hcut q hq2 K B L f _ _ (by rw [← (seg1 hg).1]; exact hw.1) (seg_ext hg hw) m1 (fun i hi => by
            unfold nuw
            rw [if_pos hi]
            exact i1 i hi) (fun i hi => by
            unfold mur idR
            rw [if_pos (by simpa using hi)]
            exact i2 i hi) (fun b hb => by
            cases rk with
            | none => cases hb
            | some e =>
              have hb' : xv X.2.2.2.2.2.2.1 e = b := Option.some.inj hb
              have a4 := ge2_ok hw.2.2.2.1.1 hw.2.2.2.1.2.1 a3
              rw [xv_k, xv_sub, sub_v] at a4
              have hsc := hrk e rfl
              have hsame : xv ν e = xv X.2.2.2.2.2.2.1 e := by
                have hin := hw.2.2.1
                obtain ⟨cy, mods, L1, f1, K1, N', ν0, R, μ0⟩ := X
                have hN' : N' = N := hN
                subst hN'
                obtain ⟨-, -, h5, -⟩ := hin
                show xv ν e = xv ν0 e
                unfold xv
                congr 1
                unfold scE at hsc
                generalize e.2 = ts at hsc
                induction ts with
                | nil => rfl
                | cons t ts ih =>
                  simp only [List.all_cons, Bool.and_eq_true, Nat.blt_eq] at hsc
                  simp only [xvT]
                  rw [ih hsc.2, h5 t.2 hsc.1]
              rw [← hb', ← hsame]
              omega)
          rw [hq3, ← m3] at hgo
          refine x_sub (fun q' hq' => ?_) (x_widen a1 a2 hgo)
          obtain ⟨q0, hq0, rfl⟩ := List.mem_map.mp hq'
          exact m2 q0 hq0
        · cases h4
      · exact ih _ _ r h4 K B L f ν μ lvc stc hw
end RP
