/-! The common measure. -/
theorem i64rem {x y : Int64} : (x - x / y * y).toInt = x.toInt.tmod y.toInt := by
  rw [Int64.toInt_sub, Int64.toInt_mul, Int64.toInt_div, Int.bmod_mul_bmod, Int.sub_bmod_bmod]
  have e : x.toInt - x.toInt.tdiv y.toInt * y.toInt = x.toInt.tmod y.toInt := by
    rw [Int.tmod_def, Int.mul_comm]
  rw [e]
  have h1 := Int64.le_toInt x
  have h2 := Int64.toInt_lt x
  have h3 : (x.toInt.tmod y.toInt).natAbs ≤ x.toInt.natAbs := by
    rw [Int.natAbs_tmod]
    exact Nat.mod_le _ _
  by_cases h0 : y.toInt = 0
  · rw [h0, Int.tmod_zero]
    exact Int.bmod_eq_of_le (by omega) (by omega)
  · have h4 : (x.toInt.tmod y.toInt).natAbs < y.toInt.natAbs := by
      rw [Int.natAbs_tmod]
      exact Nat.mod_lt _ (by omega)
    have h5 := Int64.le_toInt y
    have h6 := Int64.toInt_lt y
    exact Int.bmod_eq_of_le (by omega) (by omega)
theorem hm338 {X0 : zC0} (H : ∀ j, j < 338 → CMj X0 j) : CMj X0 338 := by
  intro mi c hc
  have e : conAt 338 = some (91, c338) := rfl
  rw [e] at hc
  obtain ⟨rfl, rfl⟩ := Prod.mk.inj (Option.some.inj hc)
  rw [mt_common]
  intro K B L f ν μ hh hg
  have hb1 : 1 ≤ ν 1 ∧ ν 1 ≤ 1000000000000000 := hg.1 1
  have hb0 : -9223372036854775808 ≤ ν 0 ∧ ν 0 ≤ 9223372036854775807 := hg.1 0
  show eM X0 1 yX12_common cX12_common 10 (some .long) (zrm 2 0 0) [.long (Int64.ofInt (xv ν (0, [(1, 0)]))), .long (Int64.ofInt (xv ν (0, [(1, 1)])))] L f (cpost X0.2.2.1 c338 K B L f ν μ)
  have x0 : xv ν (0, [(1, 0)]) = ν 0 := by simp [xv, xvT]
  have x1 : xv ν (0, [(1, 1)]) = ν 1 := by simp [xv, xvT]
  rw [x0, x1]
  refine eM.mk rfl pnX12 (Nat.le_of_ble_eq_true rfl) (fun E hE _ hret => ?_)
  have go : ∀ (N : Nat) (x y : Int64) (lv : List (Nat × Value)), y.toInt.natAbs ≤ N → (y.toInt ≠ 0 ∨ x.toInt ≠ 0) → (4, Value.long x) ∈ lv → (6, Value.long y) ∈ lv → eW E 0 0 L f 6 lv [] := by
    intro N
    induction N with
    | zero =>
      intro x y lv hN hxy h4 h6
      have hy : y.toInt = 0 := by omega
      refine x_lload hE (i := 6) (x := y) (by decide +kernel) h6 ?_
      refine x_lconst hE (i := 0) (v := 0) (by decide +kernel) rfl ?_
      refine x_lcmp hE (by decide +kernel) ?_
      refine x_ifc (c := .eq) (off := 21) (tgt := 31) hE (by decide +kernel) rfl (fun _ => ?_) (fun hq => ?_)
      · refine x_lload hE (i := 4) (x := x) (by decide +kernel) h4 ?_
        refine hret 0 0 L f 33 _ _ (Nat.le_refl _) (Nat.le_refl _) (by decide +kernel) ⟨_, List.mem_singleton.mpr rfl, K, B, (fun i => [ν 0, ν 1, x.toInt].getD i 0), μ, hh, extC_rf, ⟨(eok_of (fun i q hq => ?_) (fun i hi => ?_)), fa0, fa_cons ?_ fa0, (fun i k hk => by cases hk), fa0, fa0, fa0⟩, (fun i hi => ?_), fun i _ => rfl, ?_⟩
        · match i, hq with
          | 0, hq => cases hq; exact hb0
          | 1, hq => cases hq; exact hb1
          | 2, hq =>
            cases hq
            have h1 := Int64.le_toInt x
            have h2 := Int64.toInt_lt x
            show (-9223372036854775808 : Int) ≤ x.toInt ∧ x.toInt ≤ 9223372036854775807
            omega
          | i + 3, hq => cases hq
        · match i, hi with
          | 0, hi => exact absurd hi (by decide)
          | 1, hi => exact absurd hi (by decide)
          | 2, hi => exact absurd hi (by decide)
          | i + 3, _ => rfl
        · simp [xv, xvT]
          omega
        · match i, hi with
          | 0, _ => rfl
          | 1, _ => rfl
          | i + 2, hi => exact absurd hi (by show ¬ i + 2 < 2; omega)
        · show [Value.long (Int64.ofInt (xv (fun i => [ν 0, ν 1, x.toInt].getD i 0) (0, [(1, 2)])))] = [Value.long x]
          have : xv (fun i => [ν 0, ν 1, x.toInt].getD i 0) (0, [(1, 2)]) = x.toInt := by simp [xv, xvT]
          rw [this, Int64.ofInt_toInt]
      · exfalso
        have := (not_congr (cm_cmp (c := .eq) (x := y) (y := 0))).mp hq
        exact this (by show y.toInt - (0 : Int64).toInt = 0; rw [hy]; rfl)
    | succ N ih =>
      intro x y lv hN hxy h4 h6
      by_cases hy : y.toInt = 0
      · exact ih x y lv (by omega) hxy h4 h6
      · refine x_lload hE (i := 6) (x := y) (by decide +kernel) h6 ?_
        refine x_lconst hE (i := 0) (v := 0) (by decide +kernel) rfl ?_
        refine x_lcmp hE (by decide +kernel) ?_
        refine x_ifc (c := .eq) (off := 21) (tgt := 31) hE (by decide +kernel) rfl (fun hq => ?_) (fun _ => ?_)
        · exfalso
          have h0 : y.toInt - (0 : Int64).toInt = 0 := cm_cmp.mp hq
          have h00 : (0 : Int64).toInt = 0 := rfl
          omega
        · refine x_lload hE (i := 4) (x := x) (by decide +kernel) h4 ?_
          refine x_lload hE (i := 6) (x := y) (by decide +kernel) h6 ?_
          refine x_lrem hE (by decide +kernel) (fun h => hy (by rw [h]; rfl)) ?_
          refine x_lstore hE (i := 8) (by decide +kernel) (by decide) rfl ?_
          refine x_lload hE (i := 6) (x := y) (by decide +kernel) (by simp [h6]) ?_
          refine x_lstore hE (i := 4) (by decide +kernel) (by decide) rfl ?_
          refine x_lload hE (i := 8) (x := x - x / y * y) (by decide +kernel) (by simp) ?_
          refine x_lstore hE (i := 6) (by decide +kernel) (by decide) rfl ?_
          refine x_goto hE (off := -22) (tgt := 6) (by decide +kernel) rfl ?_
          refine ih y (x - x / y * y) _ ?_ (Or.inr hy) (by simp) (by simp)
          rw [i64rem, Int.natAbs_tmod]
          have := Nat.mod_lt x.toInt.natAbs (show 0 < y.toInt.natAbs by omega)
          omega
  refine x_lload_n hE (z := 0) (i := 0) (x := Int64.ofInt (ν 0)) (by decide +kernel) rfl (by simp [lv_args, Value.category]) ?_
  refine x_lstore hE (i := 4) (by decide +kernel) (by decide) rfl ?_
  refine x_lload_n hE (z := 2) (i := 2) (x := Int64.ofInt (ν 1)) (by decide +kernel) rfl (by simp [lv_args, Value.category]) ?_
  refine x_lstore hE (i := 6) (by decide +kernel) (by decide) rfl ?_
  have hy : (Int64.ofInt (ν 1)).toInt = ν 1 := Int64.toInt_ofInt_of_le (by omega) (by omega)
  exact go _ (Int64.ofInt (ν 0)) (Int64.ofInt (ν 1)) _ (Nat.le_refl _) (Or.inl (by omega)) (by simp) (by simp)
