/-! The whole of a row is copied. -/
theorem bd12 (i : Nat) : kbd 201 i = kbd 202 i := rfl
theorem va_up_up {f : Nat → va_E} {b : Nat} {e1 e2 : va_E} : va_up (va_up f b e1) b e2 = va_up f b e2 := funext (fun j => by
  by_cases h : j = b
  · rw [h, va_up_self, va_up_self]
  · rw [va_up_ne _ _ h, va_up_ne _ _ h, va_up_ne _ _ h])
theorem rowcopy {X0 : zC0} {E : zCx} {R0 : Room} (hE : zOk E X0 RX12 cX12_copy 3 R0) {L : List Nat} {f : Nat → va_E} {r t : Nat} {gf gt : Nat → Int32} (hr : r ∈ L) (ht : t ∈ L) (hrt : r ≠ t) (hfr : f r = zIA X0.2.2.1 17938 gf) (hft : f t = zIA X0.2.2.1 17938 gt) (kk : ∀ g' : Nat → Int32, (∀ j, j < 17938 → g' j = gf j) → ∀ lv, eW E 0 0 L (va_up f t (zIA X0.2.2.1 17938 g')) 21 lv []) : eW E 0 0 L f 0 [(0, .ref r), (1, .ref t)] [] := by
  obtain ⟨l0, D0, cy0, ax0⟩ := X0
  have go : ∀ (N k : Nat) (g : Nat → Int32), k + N = 17938 → (∀ j, j < k → g j = gf j) → eW E 0 0 L (va_up f t (zIA cy0 17938 g)) 2 [(2, .int (Int32.ofInt (k : Int))), (0, .ref r), (1, .ref t)] [] := by
    intro N
    induction N with
    | zero =>
      intro k g hk hg
      have ek : (Int32.ofInt (k : Int)).toInt = k := i32i (by omega) (by omega)
      refine x_iload_n hE (z := 2) (i := 2) (x := Int32.ofInt (k : Int)) (by decide +kernel) rfl (by simp) ?_
      refine x_sipush hE (i := 17938) (v := Int32.ofInt 17938) (by decide +kernel) (by decide +kernel) ?_
      refine x_icc (c := .ge) (off := 15) (tgt := 21) hE (by decide +kernel) rfl (fun _ => kk g (fun j hj => hg j (by omega)) _) (fun hq => ?_)
      exfalso
      refine hq ?_
      show 0 ≤ (Int32.ofInt (k : Int)).toInt - (Int32.ofInt 17938).toInt
      have : (Int32.ofInt 17938).toInt = 17938 := by decide +kernel
      omega
    | succ N ih =>
      intro k g hk hg
      have ek : (Int32.ofInt (k : Int)).toInt = k := i32i (by omega) (by omega)
      have et : (Int32.ofInt (k : Int)).toNatClampNeg = k := by
        show (Int32.ofInt (k : Int)).toInt.toNat = k
        rw [ek]
        omega
      refine x_iload_n hE (z := 2) (i := 2) (x := Int32.ofInt (k : Int)) (by decide +kernel) rfl (by simp) ?_
      refine x_sipush hE (i := 17938) (v := Int32.ofInt 17938) (by decide +kernel) (by decide +kernel) ?_
      refine x_icc (c := .ge) (off := 15) (tgt := 21) hE (by decide +kernel) rfl (fun hq => ?_) (fun _ => ?_)
      · exfalso
        have h9 : (Int32.ofInt 17938).toInt = 17938 := by decide +kernel
        have hq' : 0 ≤ (Int32.ofInt (k : Int)).toInt - (Int32.ofInt 17938).toInt := hq
        omega
      · refine x_aload_n hE (z := 1) (i := 1) (x := t) (by decide +kernel) rfl (by simp) ?_
        refine x_iload_n hE (z := 2) (i := 2) (x := Int32.ofInt (k : Int)) (by decide +kernel) rfl (by simp) ?_
        refine x_aload_n hE (z := 0) (i := 0) (x := r) (by decide +kernel) rfl (by simp) ?_
        refine x_iload_n hE (z := 2) (i := 2) (x := Int32.ofInt (k : Int)) (by decide +kernel) rfl (by simp) ?_
        refine h_iald (N0 := 17938) (g := gf) hE hr (by rw [va_up_ne _ _ hrt]; exact hfr) (by rw [vp_in_iff]; omega) (by decide +kernel) ?_
        refine h_iast (N0 := 17938) (g := g) hE ht (va_up_self _ _ _) (by rw [vp_in_iff]; omega) (by decide +kernel) ?_
        rw [et, va_up_up]
        refine x_iinc hE (i := 2) (z := 1) (x := Int32.ofInt (k : Int)) (v := Int32.ofInt ((k + 1 : Nat) : Int)) (by decide +kernel) 0 rfl ?_ (by decide) rfl ?_
        · apply Int32.toInt_inj.mp
          rw [Int32.toInt_add, ek, i32i (z := ((k + 1 : Nat) : Int)) (by omega) (by omega)]
          have : (Int32.ofInt 1).toInt = 1 := by decide +kernel
          rw [this]
          exact Int.bmod_eq_of_le (by omega) (by omega)
        · refine x_goto hE (off := -16) (tgt := 2) (by decide +kernel) rfl ?_
          refine ih (k + 1) (upd g k (gf k)) (by omega) (fun j hj => ?_)
          by_cases h : j = k
          · rw [h, up_same]
          · rw [up_oth _ _ h]
            exact hg j (by omega)
  refine x_iconst hE (i := 0) (v := Int32.ofInt ((0 : Nat) : Int)) (by decide +kernel) rfl ?_
  refine x_istore_n hE (z := 2) (i := 2) (by decide +kernel) rfl (by decide) rfl ?_
  have e0 : va_up f t (zIA cy0 17938 gt) = f := funext (fun j => by
    by_cases h : j = t
    · rw [h, va_up_self]
      exact hft.symm
    · rw [va_up_ne _ _ h])
  have := go 17938 0 gt rfl (fun j hj => absurd hj (by omega))
  rw [e0] at this
  exact this
/-- the state behind it -/
theorem hok_cp {cy : Nat → ClassId} {K : Nat → Nat} {B : Int} {L : List Nat} {f : Nat → va_E} (hh : hok cy K B L f) {r t kr kt : Nat} (hr : r ∈ L ∧ K r = kr) (ht : t ∈ L ∧ K t = kt) (hk : (kr = 201 ∧ kt = 202) ∨ (kr = 202 ∧ kt = 201)) {gf g' : Nat → Int32} (hfr : f r = zIA cy 17938 gf) (hg : ∀ j, j < 17938 → g' j = gf j) : hok cy K B L (va_up f t (zIA cy 17938 g')) := by
  have hne : ∀ b ∈ L, K b ≠ kt → va_up f t (zIA cy 17938 g') b = f b := fun b _ hkb => va_up_ne _ _ (fun e => hkb (by rw [e]; exact ht.2))
  refine hok_up hh ht.2 ?_ ?_
  · have cr := hh.1 r hr.1
    rw [hr.2] at cr
    have cr2 : ∃ g, f r = zIA cy 17938 g ∧ ∀ i, i < 17938 → bok B (kbd 201 i) (g i).toInt := by
      rcases hk with ⟨h1, h2⟩ | ⟨h1, h2⟩ <;> rw [h1] at cr <;> exact cr
    obtain ⟨g, e1, e2⟩ := cr2
    have eg : g = gf := by rw [hfr] at e1; cases e1; rfl
    subst eg
    have : ∃ g2, (zIA cy 17938 g' : va_E) = zIA cy 17938 g2 ∧ ∀ i, i < 17938 → bok B (kbd 201 i) (g2 i).toInt := ⟨g', rfl, fun i hi => by rw [hg i hi]; exact e2 i hi⟩
    rcases hk with ⟨h1, h2⟩ | ⟨h1, h2⟩ <;> rw [h2] <;> exact this
  · obtain ⟨x1, x2, x3⟩ := hh.2.2
    refine ⟨⟨x1.1, fun b1 hb1 b2 hb2 hk1 hk2 he => x1.2.1 b1 hb1 b2 hb2 hk1 hk2 (by rw [hne b1 hb1 (by rw [hk1]; omega), hne b2 hb2 (by rw [hk2]; omega)] at he; exact he), fun b1 hb1 hk1 c o e1 e2 i hi e3 => ?_⟩, fun b1 hb1 hk1 m' hm' hkm => ?_, fun b1 hb1 hk1 => ?_⟩
    · rw [hne b1 hb1 (by rw [hk1]; omega)] at e1 e2
      obtain ⟨c', c1, c2, c3⟩ := cok20 hh hb1 hk1 (j := 3) (k' := 23) rfl
      obtain ⟨o', o1, o2, o3⟩ := cok20 hh hb1 hk1 (j := 4) (k' := 24) rfl
      have ec : c' = c := by rw [c1] at e1; cases e1; rfl
      have eo : o' = o := by rw [o1] at e2; cases e2; rfl
      subst ec
      subst eo
      rw [hne c' c2 (by rw [c3]; omega)] at e3
      rw [hne o' o2 (by rw [o3]; omega)]
      exact x1.2.2 b1 hb1 hk1 c' o' c1 o1 i hi e3
    · have hk203 : K b1 = 203 := hk1
      rw [hne b1 hb1 (by rw [hk203]; omega), hne m' hm' (by rw [hkm]; omega)]
      exact x2 b1 hb1 hk1 m' hm' hkm
    · by_cases hbt : b1 = t
      · subst hbt
        have hx := x3 r hr.1 (by rcases hk with ⟨h1, h2⟩ | ⟨h1, h2⟩ <;> rw [hr.2, h1] <;> decide)
        rw [hfr] at hx
        rw [va_up_self]
        show (g' 1).toInt ≤ 8 * (g' 0).toInt
        rw [hg 0 (by decide), hg 1 (by decide)]
        exact hx
      · rw [va_up_ne _ _ hbt]
        exact x3 b1 hb1 hk1
