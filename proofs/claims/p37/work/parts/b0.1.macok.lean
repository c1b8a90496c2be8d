/-! Stretches by hand within checked methods: what they do. -/
theorem ofI_add {x c : Int} (h1 : -2147483648 ≤ x ∧ x ≤ 2147483647) (h2 : -2147483648 ≤ c ∧ c ≤ 2147483647) (h3 : -2147483648 ≤ x + c ∧ x + c ≤ 2147483647) : Int32.ofInt x + Int32.ofInt c = Int32.ofInt (x + c) := by
  apply Int32.toInt_inj.mp
  rw [Int32.toInt_add, i32i h1.1 h1.2, i32i h2.1 h2.2, i32i h3.1 h3.2]
  exact Int.bmod_eq_of_le (by omega) (by omega)
theorem zshp_b : ∀ j, j < 81 → -1 ≤ (zshp.getD j 0).toInt ∧ (zshp.getD j 0).toInt ≤ 999 := by decide +kernel
section MK
variable {E : zCx} {X : EC} {D : DT} {l0 : Launch} {D0 : va_G} {cy0 : Nat → ClassId} {ax0 : zAx} {k n : Nat} {K : Nat → Nat} {B : Int} {L : List Nat} {f : Nat → va_E} {ν : Nat → Int} {μ : Nat → Nat} {lv : EL} {st : List EV} {G : EG} {lvc : List (Nat × Value)} {stc : List Value} {dk dn : Nat} {rs : List EP} {pc pc2 loc : Nat} {c lo hi a b : Int}
theorem mRow_ex (hw : Wd X K B L f ν μ lv st G lvc stc) (hm : mRow loc c lo hi a b pc2 lv st G = some (dk, dn, rs)) (hA : AllS E (k + dk) (n + dn) X rs) (ex : ∀ x : Int, (loc, Value.int (Int32.ofInt x)) ∈ lvc → a ≤ x + c → x + c ≤ b → (∀ z : Int32, lo ≤ z.toInt → z.toInt ≤ hi → eW E k n L f pc2 lvc (.int z :: stc)) → eW E k n L f pc lvc stc) : eW E k n L f pc lvc stc := by
  unfold mRow at hm
  split at hm
  · rename_i v hv
    split at hm
    · rename_i hc
      simp only [Bool.and_eq_true, beq_iff_eq] at hc
      obtain ⟨⟨c1, c2⟩, c3⟩ := hc
      split at hm
      · rename_i q hq
        obtain ⟨rfl, rfl, rfl⟩ : dk = 0 ∧ dn = 0 ∧ rs = [(pc2, lv, (0, 0, q.2) :: st, q.1)] := by
          have := Option.some.inj hm
          refine ⟨(Prod.mk.inj this).1.symm, (Prod.mk.inj (Prod.mk.inj this).2).1.symm, (Prod.mk.inj (Prod.mk.inj this).2).2.symm⟩
        have hl := hw.loc hv
        obtain ⟨v1, v2, e⟩ := v
        dsimp only at c1 c2 c3
        subst c1
        have h2 := ge0_ok hw.2.2.2.1.1 hw.2.2.2.1.2.1 c2
        have h3 := ge0_ok hw.2.2.2.1.1 hw.2.2.2.1.2.1 c3
        rw [xv_k, xv_k] at h2
        rw [xv_k, xv_sc, xv_k] at h3
        refine ex (xv ν e) hl (by omega) (by omega) (fun z z1 z2 => ?_)
        obtain ⟨G', e'⟩ := q
        obtain ⟨ν', hw', he'⟩ := frV_ok hw hq z z1 z2
        have h9 := hA K B L f _ (List.mem_singleton.mpr rfl) ν' μ lvc (.int z :: stc) (by
          have := hw'.push (0, 0, e')
          have e9 : cv ν' μ (0, 0, e') = .int z := by
            show Value.int (Int32.ofInt (xv ν' e')) = _
            rw [he']
          rw [e9] at this
          exact this)
        exact h9
      · cases hm
    · cases hm
  · cases hm
theorem mRow_row {nL : Nat} {R0 : Room} (hE : zOk E (l0, D0, cy0, ax0) RX3 cX3_readParts nL R0) (hw : Wd X K B L f ν μ lv st G lvc stc) (hm : mRow 4 0 (-1) 999 0 80 pc2 lv st G = some (dk, dn, rs)) (hA : AllS E (k + dk) (n + dn) X rs) (d1 : decode cX3_readParts pc = .ok (.getstatic 106, 3)) (d2 : decode cX3_readParts (pc + 3) = .ok (.iload 4, 2)) (d3 : decode cX3_readParts (pc + 3 + 2) = .ok (.iaload, 1)) (hp : pc + 3 + 2 + 1 = pc2) : eW E k n L f pc lvc stc := by
  refine mRow_ex hw hm hA (fun x hx h1 h2 kk => ?_)
  have ei : (Int32.ofInt x).toInt = x := i32i (by omega) (by omega)
  refine x_shapes hE d1 ?_
  refine x_iload hE (i := 4) (x := Int32.ofInt x) d2 hx ?_
  refine x_shrow hE (by rw [vp_in_iff, ei]; omega) d3 ?_
  rw [hp]
  have et : (Int32.ofInt x).toNatClampNeg < 81 := by
    show (Int32.ofInt x).toInt.toNat < 81
    omega
  have hb := zshp_b _ et
  exact kk _ hb.1 hb.2
theorem mRow_rowk {nL : Nat} {R0 : Room} {c : Nat} (hc : c < 3) (hE : zOk E (l0, D0, cy0, ax0) RX3 cX3_readParts nL R0) (hw : Wd X K B L f ν μ lv st G lvc stc) (hm : mRow 4 c (-1) 999 0 80 pc2 lv st G = some (dk, dn, rs)) (hA : AllS E (k + dk) (n + dn) X rs) (d1 : decode cX3_readParts pc = .ok (.getstatic 106, 3)) (d2 : decode cX3_readParts (pc + 3) = .ok (.iload 4, 2)) (d3 : decode cX3_readParts (pc + 3 + 2) = .ok (.iconst c, 1)) (d4 : decode cX3_readParts (pc + 3 + 2 + 1) = .ok (.iadd, 1)) (d5 : decode cX3_readParts (pc + 3 + 2 + 1 + 1) = .ok (.iaload, 1)) (hp : pc + 3 + 2 + 1 + 1 + 1 = pc2) : eW E k n L f pc lvc stc := by
  refine mRow_ex hw hm hA (fun x hx h1 h2 kk => ?_)
  have ei : (Int32.ofInt (x + c)).toInt = x + c := i32i (by omega) (by omega)
  refine x_shapes hE d1 ?_
  refine x_iload hE (i := 4) (x := Int32.ofInt x) d2 hx ?_
  refine x_iconst hE (i := c) (v := Int32.ofInt c) d3 rfl ?_
  refine x_iadd hE d4 ?_
  rw [ofI_add (by omega) (by omega) (by omega)]
  refine x_shrow hE (by rw [vp_in_iff, ei]; omega) d5 ?_
  rw [hp]
  have et : (Int32.ofInt (x + c)).toNatClampNeg < 81 := by
    show (Int32.ofInt (x + c)).toInt.toNat < 81
    omega
  have hb := zshp_b _ et
  exact kk _ hb.1 hb.2
theorem mac_X3_readParts_ok {nL : Nat} {R0 : Room} (hE : zOk E (l0, D0, cy0, ax0) RX3 cX3_readParts nL R0) (_ : X.1 = cy0) : ∀ pc m, mac_X3_readParts pc = some m → macOk E X D pc m := by
  intro pc m hpm
  unfold mac_X3_readParts at hpm
  split at hpm
  · rename_i h
    have hpc := Nat.eq_of_beq_eq_true h
    cases hpm
    subst hpc
    intro k n K B L f ν μ lv st G lvc stc dk dn rs hw hm _ _ hA
    exact mRow_row hE hw hm hA (by decide +kernel) (by decide +kernel) (by decide +kernel) rfl
  · split at hpm
    · rename_i h
      have hpc := Nat.eq_of_beq_eq_true h
      cases hpm
      subst hpc
      intro k n K B L f ν μ lv st G lvc stc dk dn rs hw hm _ _ hA
      exact mRow_row hE hw hm hA (by decide +kernel) (by decide +kernel) (by decide +kernel) rfl
    · split at hpm
      · rename_i h
        have hpc := Nat.eq_of_beq_eq_true h
        cases hpm
        subst hpc
        intro k n K B L f ν μ lv st G lvc stc dk dn rs hw hm _ _ hA
        exact mRow_rowk (c := 1) (by decide) hE hw hm hA (by decide +kernel) (by decide +kernel) (by decide +kernel) (by decide +kernel) (by decide +kernel) rfl
      · split at hpm
        · rename_i h
          have hpc := Nat.eq_of_beq_eq_true h
          cases hpm
          subst hpc
          intro k n K B L f ν μ lv st G lvc stc dk dn rs hw hm _ _ hA
          exact mRow_rowk (c := 2) (by decide) hE hw hm hA (by decide +kernel) (by decide +kernel) (by decide +kernel) (by decide +kernel) (by decide +kernel) rfl
        · cases hpm
theorem stc_cat (hw : Wd X K B L f ν μ lv st G lvc stc) (h : Nat.ble (slN st) 4 = true) : (stc.map fun v => v.category).sum ≤ 4 := by
  rw [hw.2.2.2.2.2]
  have h1 := Nat.le_of_ble_eq_true h
  have := cat_sum ν μ st
  omega
theorem mac_X6_wordOf_ok {nL : Nat} (hE : zOk E (l0, D0, cy0, ax0) RX6 cX6_wordOf nL (zrm (dC D).2.2.2.1 (dC D).2.2.2.2.1 (dC D).2.2.2.2.2.1)) (_ : X.1 = cy0) (hd5 : 5 ≤ (dC D).2.2.2.1) : ∀ pc m, mac_X6_wordOf pc = some m → macOk E X D pc m := by
  intro pc m hpm
  unfold mac_X6_wordOf at hpm
  split at hpm
  · rename_i h
    have hpc := Nat.eq_of_beq_eq_true h
    cases hpm
    subst hpc
    intro k n K B L f ν μ lv st G lvc stc dk dn rs hw hm hk hn hA
    unfold mLen at hm
    split at hm
    · rename_i hsl
      have hcat := stc_cat hw hsl
      obtain ⟨rfl, rfl, rfl⟩ : dk = 0 ∧ dn = 0 ∧ rs = [(18, lv, (0, 0, xc 166) :: st, G)] := by
        have := Option.some.inj hm
        exact ⟨(Prod.mk.inj this).1.symm, (Prod.mk.inj (Prod.mk.inj this).2).1.symm, (Prod.mk.inj (Prod.mk.inj this).2).2.symm⟩
      refine x_str1 hE (by decide +kernel) ?_
      refine w_jV (i := 1) (by decide) hE (j_length (by decide)) q720 q721 q722 q126 q723 ⟨by decide +kernel, by decide +kernel, pd_length⟩ ⟨by show 2 + 1 ≤ (dC D).2.2.2.1; omega, by show 8 + (1 + 11) + 60 * 2 ≤ 60 * (dC D).2.2.2.1; omega⟩ ⟨by show k ≤ (dC D).2.2.2.2.1; omega, by show n ≤ (dC D).2.2.2.2.2.1; omega⟩ rfl (by omega) (by decide +kernel) (fun r L' f' _ hp => ?_)
      obtain ⟨rfl, hu⟩ := hp
      cases hu
      have h9 := hA K B L f _ (List.mem_singleton.mpr rfl) ν μ lvc (.int 166 :: stc) (hw.push (0, 0, xc 166))
      exact h9
    · cases hm
  · split at hpm
    · rename_i h
      have hpc := Nat.eq_of_beq_eq_true h
      cases hpm
      subst hpc
      intro k n K B L f ν μ lv st G lvc stc dk dn rs hw hm hk hn hA
      unfold mChr at hm
      split at hm
      · rename_i hsl
        have hcat := stc_cat hw hsl
        refine mRow_ex hw hm hA (fun x hx h1 h2 kk => ?_)
        have ei : (Int32.ofInt x).toInt = x := i32i (by omega) (by omega)
        refine x_str1 hE (by decide +kernel) ?_
        refine x_iload hE (i := 6) (x := Int32.ofInt x) (by decide +kernel) hx ?_
        refine w_jV (i := 1) (by decide) hE (j_charAt (i := 1) (by decide) (x := Int32.ofInt x) (by rw [vp_in_iff, ei]; exact ⟨by omega, by show x < 166; omega⟩)) q730 q731 q732 q126 q733 ⟨by decide +kernel, by decide +kernel, pd_charAt⟩ ⟨by show 4 + 1 ≤ (dC D).2.2.2.1; omega, by show 8 + (2 + 11) + 60 * 4 ≤ 60 * (dC D).2.2.2.1; omega⟩ ⟨by show k ≤ (dC D).2.2.2.2.1; omega, by show n ≤ (dC D).2.2.2.2.2.1; omega⟩ rfl (by omega) (by decide +kernel) (fun r L' f' _ hp => ?_)
        obtain ⟨⟨v, rfl⟩, hu⟩ := hp
        cases hu
        have hz := z_and (x := v) (m := 255) (by decide)
        rw [Int32.le_iff_toInt_le, Int32.le_iff_toInt_le] at hz
        have e255 : (255 : Int32).toInt = 255 := by decide +kernel
        rw [e255] at hz
        have e0 : (0 : Int32).toInt = 0 := rfl
        rw [e0] at hz
        exact kk _ hz.1 (by omega)
      · cases hm
    · cases hpm
theorem f6_21 : (21, (6, 5, 3, true)) ∈ fX6 := List.mem_of_getElem? (i := 3) rfl
theorem mac_X6_addSign_ok {nL : Nat} (hE : zOk E (l0, D0, cy0, ax0) RX6 cX6_addSign nL (zrm (dC D).2.2.2.1 (dC D).2.2.2.2.1 (dC D).2.2.2.2.2.1)) (h1 : X.1 = cy0) (hd5 : 5 ≤ (dC D).2.2.2.1) : ∀ pc m, mac_X6_addSign pc = some m → macOk E X D pc m := by
  intro pc m hpm
  unfold mac_X6_addSign at hpm
  split at hpm
  · rename_i h
    have hpc := Nat.eq_of_beq_eq_true h
    cases hpm
    subst hpc
    intro k n K B L f ν μ lv st G lvc stc dk dn rs hw hm hk hn hA
    unfold mSign at hm
    split at hm
    · rename_i r e hv
      split at hm
      · rename_i hc
        simp only [Bool.and_eq_true, beq_iff_eq] at hc
        have hcat := stc_cat hw hc.2
        have hr := hw.ref hc.1
        have hl0 := hw.loc hv
        refine mRow_ex hw hm hA (fun x hx x1 x2 kk => ?_)
        have ei : (Int32.ofInt x).toInt = x := i32i (by omega) (by omega)
        have c0 := hw.1.1 (μ r) hr.1
        rw [hr.2] at c0
        have c0' : ∃ fs, f (μ r) = .inr (6, fs) ∧ fs.length = (zkd 120).2.2.length ∧ ∀ (j : Nat) (d : Nat × Int × Int), (zkd 120).2.2[j]? = some d → ∃ v, fs[j]? = some v ∧ fok K L d v := c0
        obtain ⟨fs, hf, -, hfd⟩ := c0'
        obtain ⟨v5, hv5, bb, rfl, hb1, hb2⟩ := hfd 5 (2, 124, 0) rfl
        have cb := hw.1.1 bb hb1
        have hb2' : K bb = 124 := hb2
        rw [hb2'] at cb
        have cb' : ∃ g, f bb = zIA X.1 300 g ∧ ∀ i, i < 300 → bok B (kbd 124 i) (g i).toInt := cb
        obtain ⟨g, hg, -⟩ := cb'
        rw [h1] at hg
        refine x_str0 hE (by decide +kernel) ?_
        refine x_aload_n hE (z := 0) (i := 0) (x := μ r) (by decide +kernel) rfl hl0 ?_
        refine r_get hE fX6_ok f6_21 hr.1 hf hv5 (by decide +kernel) ?_
        refine x_iload_n hE (z := 1) (i := 1) (x := Int32.ofInt x) (by decide +kernel) rfl hx ?_
        refine h_iald hE hb1 hg (by rw [vp_in_iff, ei]; omega) (by decide +kernel) ?_
        refine x_i2c hE (by decide +kernel) ?_
        refine w_jV (i := 0) (by decide) hE (j_ix1 (c := _)) q787 q788 q789 q126 q790 ⟨by decide +kernel, by decide +kernel, pd_ix1⟩ ⟨by show 4 + 1 ≤ (dC D).2.2.2.1; omega, by show 8 + (2 + 11) + 60 * 4 ≤ 60 * (dC D).2.2.2.1; omega⟩ ⟨by show k ≤ (dC D).2.2.2.2.1; omega, by show n ≤ (dC D).2.2.2.2.2.1; omega⟩ rfl (by omega) (by decide +kernel) (fun r L' f' _ hp => ?_)
        obtain ⟨⟨v, rfl, hv1, hv2⟩, hu⟩ := hp
        cases hu
        have ev : (Int32.ofInt v).toInt = v := i32i (by omega) (by omega)
        exact kk _ (by rw [ev]; exact hv1) (by rw [ev]; exact hv2)
      · cases hm
    · cases hm
  · cases hpm
theorem f9_176 : (176, (7, 3, 3, true)) ∈ fX9 := List.mem_of_getElem? (i := 33) rfl
theorem f9_179 : (179, (7, 4, 3, true)) ∈ fX9 := List.mem_of_getElem? (i := 34) rfl
theorem mac_X9_run_ok {nL : Nat} {R0 : Room} (hE : zOk E (l0, D0, cy0, ax0) RX9 cX9_run nL R0) (h1 : X.1 = cy0) (h9 : 9 ≤ nL) : ∀ pc m, mac_X9_run pc = some m → macOk E X D pc m := by
  intro pc m hpm
  unfold mac_X9_run at hpm
  split at hpm
  · rename_i h
    have hpc := Nat.eq_of_beq_eq_true h
    cases hpm
    subst hpc
    intro k n K B L f ν μ lv st G lvc stc dk dn rs hw hm hk hn hA
    unfold mRun at hm
    split at hm
    · rename_i r e1 z6 e hv1 hv6
      split at hm
      · rename_i hc
        simp only [Bool.and_eq_true, beq_iff_eq] at hc
        obtain ⟨⟨⟨⟨⟨c1, c2⟩, c3⟩, s1⟩, s2⟩, s3⟩ := hc
        obtain ⟨rfl, rfl, hrs⟩ : dk = 0 ∧ dn = 0 ∧ rs = _ := by
          have := Option.some.inj hm
          exact ⟨(Prod.mk.inj this).1.symm, (Prod.mk.inj (Prod.mk.inj this).2).1.symm, (Prod.mk.inj (Prod.mk.inj this).2).2.symm⟩
        have hr := hw.ref c1
        have l1 := hw.loc hv1
        have l6 := hw.loc hv6
        have i0 := ge0_ok hw.2.2.2.1.1 hw.2.2.2.1.2.1 c2
        have i1 := ge0_ok hw.2.2.2.1.1 hw.2.2.2.1.2.1 c3
        rw [xv_k, xv_sc] at i1
        have ei : (Int32.ofInt (xv ν e)).toInt = xv ν e := i32i (by omega) (by omega)
        have et : (Int32.ofInt (xv ν e)).toNatClampNeg = (xv ν e).toNat := by
          show (Int32.ofInt (xv ν e)).toInt.toNat = _
          rw [ei]
        have c0 := hw.1.1 (μ r) hr.1
        rw [hr.2] at c0
        have c0' : ∃ fs, f (μ r) = .inr (7, fs) ∧ fs.length = (zkd 20).2.2.length ∧ ∀ (j : Nat) (d : Nat × Int × Int), (zkd 20).2.2[j]? = some d → ∃ v, fs[j]? = some v ∧ fok K L d v := c0
        obtain ⟨fs, hf, -, hfd⟩ := c0'
        obtain ⟨v3, hv3, c, rfl, hc1, hc2⟩ := hfd 3 (2, 23, 0) rfl
        obtain ⟨v4, hv4, o, rfl, ho1, ho2⟩ := hfd 4 (2, 24, 0) rfl
        have hc2' : K c = 23 := hc2
        have ho2' : K o = 24 := ho2
        have cc := hw.1.1 c hc1
        rw [hc2'] at cc
        have cc' : ∃ g, f c = zIA X.1 300 g ∧ ∀ i, i < 300 → bok B (kbd 23 i) (g i).toInt := cc
        obtain ⟨gc, hgc, -⟩ := cc'
        have co := hw.1.1 o ho1
        rw [ho2'] at co
        have co' : ∃ g, f o = zIA X.1 300 g ∧ ∀ i, i < 300 → bok B (kbd 24 i) (g i).toInt := co
        obtain ⟨go, hgo, -⟩ := co'
        have hT := hw.1.2.2.1.2.2 (μ r) hr.1 hr.2 c o (by rw [hf]; exact hv3) (by rw [hf]; exact hv4) (xv ν e).toNat (by omega)
        have egc : gi (f c) (xv ν e).toNat = (gc (xv ν e).toNat).toInt := by rw [hgc]; rfl
        have ego : gi (f o) (xv ν e).toNat = (go (xv ν e).toNat).toInt := by rw [hgo]; rfl
        rw [egc, ego] at hT
        rw [h1] at hgc hgo
        refine x_aload_n hE (z := 1) (i := 1) (x := μ r) (by decide +kernel) rfl l1 ?_
        refine r_get hE fX9_ok f9_176 hr.1 hf hv3 (by decide +kernel) ?_
        refine x_iload hE (i := 6) (x := Int32.ofInt (xv ν e)) (by decide +kernel) l6 ?_
        refine h_iald hE hc1 hgc (by rw [vp_in_iff, ei]; omega) (by decide +kernel) ?_
        refine x_istore hE (i := 7) (by decide +kernel) (by omega) rfl ?_
        refine x_aload_n hE (z := 1) (i := 1) (x := μ r) (by decide +kernel) rfl (List.mem_cons_of_mem _ (List.mem_filter.mpr ⟨l1, by simp⟩)) ?_
        refine r_get hE fX9_ok f9_179 hr.1 hf hv4 (by decide +kernel) ?_
        refine x_iload hE (i := 6) (x := Int32.ofInt (xv ν e)) (by decide +kernel) (List.mem_cons_of_mem _ (List.mem_filter.mpr ⟨l6, by simp [Value.category]⟩)) ?_
        refine h_iald hE ho1 hgo (by rw [vp_in_iff, ei]; omega) (by decide +kernel) ?_
        refine x_istore hE (i := 8) (by decide +kernel) (by omega) rfl ?_
        rw [et]
        generalize gc (xv ν e).toNat = x7 at hT ⊢
        generalize go (xv ν e).toNat = x8 at hT ⊢
        have b7a := Int32.le_toInt x7
        have b7b := Int32.toInt_lt x7
        have b8a := Int32.le_toInt x8
        have b8b := Int32.toInt_lt x8
        by_cases h62 : x7.toInt = 62
        · have hT2 := hT h62
          have e7 : x7 = Int32.ofInt 62 := by
            apply Int32.toInt_inj.mp
            rw [h62]
            rfl
          have w1 := hw.fr s1 (lo := 0) (hi := 299) (z := x8.toInt) hT2.1 (by omega)
          have w2 := (w1.pL 7 (0, 0, xc 62)).pL 8 (0, 0, xi G.1.length)
          have v7 : cv (va_up ν G.1.length x8.toInt) μ (0, 0, xc 62) = .int x7 := by
            rw [e7]
            rfl
          have v8 : cv (va_up ν G.1.length x8.toInt) μ (0, 0, xi G.1.length) = .int x8 := by
            show Value.int (Int32.ofInt (xv _ (xi G.1.length))) = _
            rw [xv_i, va_up_self, Int32.ofInt_toInt]
          rw [v7, v8] at w2
          exact hA K B L f _ (by rw [hrs]; exact List.mem_cons_self) _ μ _ _ w2
        · have common : ∀ lo hi : Int, lo ≤ x7.toInt → x7.toInt ≤ hi → scA lv st (frG G lo hi) = true → Wd X K B L f (va_up (va_up ν G.1.length x7.toInt) (frG G lo hi).1.length x8.toInt) μ (pL (pL lv 7 (0, 0, xi G.1.length)) 8 (0, 0, xi (G.1.length + 1))) st (frG (frG G lo hi) (-2147483648) 2147483647) ((8, .int x8) :: ((7, .int x7) :: lvc.filter (fun q => !(q.1 == 7) && !(q.1 + 1 == 7 && q.2.category == 2))).filter (fun q => !(q.1 == 8) && !(q.1 + 1 == 8 && q.2.category == 2))) stc := fun lo hi g1 g2 g3 => by
            have w1 := (hw.fr s1 (lo := lo) (hi := hi) (z := x7.toInt) g1 g2).fr g3 (lo := -2147483648) (hi := 2147483647) (z := x8.toInt) b8a (by omega)
            have w2 := (w1.pL 7 (0, 0, xi G.1.length)).pL 8 (0, 0, xi (G.1.length + 1))
            have hlen : (frG G lo hi).1.length = G.1.length + 1 := by
              show (G.1 ++ [(lo, hi)]).length = _
              simp
            have v7 : cv (va_up (va_up ν G.1.length x7.toInt) (frG G lo hi).1.length x8.toInt) μ (0, 0, xi G.1.length) = .int x7 := by
              show Value.int (Int32.ofInt (xv _ (xi G.1.length))) = _
              rw [xv_i, va_up_ne _ _ (by omega), va_up_self, Int32.ofInt_toInt]
            have v8 : cv (va_up (va_up ν G.1.length x7.toInt) (frG G lo hi).1.length x8.toInt) μ (0, 0, xi (G.1.length + 1)) = .int x8 := by
              show Value.int (Int32.ofInt (xv _ (xi (G.1.length + 1)))) = _
              rw [xv_i, ← hlen, va_up_self, Int32.ofInt_toInt]
            rw [v7, v8] at w2
            exact w2
          rcases Int.lt_or_gt_of_ne h62 with hlt | hgt
          · exact hA K B L f _ (by rw [hrs]; exact List.mem_cons_of_mem _ List.mem_cons_self) _ μ _ _ (common (-2147483648) 61 b7a (by omega) s2)
          · exact hA K B L f _ (by rw [hrs]; exact List.mem_cons_of_mem _ (List.mem_cons_of_mem _ List.mem_cons_self)) _ μ _ _ (common 63 2147483647 (by omega) (by omega) s3)
      · cases hm
    · cases hm
  · cases hpm
end MK
