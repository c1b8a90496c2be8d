theorem fa_lt (a b : Int32) : a < b ↔ a.toInt < b.toInt := Int32.lt_iff_toInt_lt
theorem fa_le (a b : Int32) : a ≤ b ↔ a.toInt ≤ b.toInt := Int32.le_iff_toInt_le
theorem fa_eq (a b : Int32) : a = b ↔ a.toInt = b.toInt := Int32.toInt_inj.symm
/-! Numbers: places within a row, rests, loops that count. -/
theorem z_vin {i N : Int32} {n : Nat} (hN : N.toInt = n) (h : 0 ≤ i ∧ i < N) : vp_in i n := by
  obtain ⟨h1, h2⟩ := h
  rw [fa_le] at h1
  rw [Int32.lt_iff_toInt_lt] at h2
  have e0 : (0 : Int32).toInt = 0 := by decide
  rw [vp_in_iff]
  omega
theorem z_rem {x m : Int32} (hm : 0 < m) : (x - x / m * m).toInt = x.toInt.tmod m.toInt := by
  rw [Int32.lt_iff_toInt_lt] at hm
  have e0 : (0 : Int32).toInt = 0 := by decide
  have hx1 := Int32.le_toInt x
  have hx2 := Int32.toInt_lt x
  have hm2 := Int32.toInt_lt m
  have hd := Int.mul_tdiv_add_tmod x.toInt m.toInt
  have hq : (x / m).toInt = x.toInt.tdiv m.toInt := by
    rw [Int32.toInt_div]
    have h1 : (x.toInt.tdiv m.toInt).natAbs ≤ x.toInt.natAbs := by
      rw [Int.natAbs_tdiv]
      exact Nat.div_le_self _ _
    by_cases hm1 : m.toInt = 1
    · rw [hm1, Int.tdiv_one]
      exact Int.bmod_eq_of_le (by omega) (by omega)
    · have h2 : (x.toInt.tdiv m.toInt).natAbs ≤ 1073741824 := by
        rw [Int.natAbs_tdiv]
        show x.toInt.natAbs / m.toInt.natAbs ≤ _
        have h3 : x.toInt.natAbs / m.toInt.natAbs ≤ x.toInt.natAbs / 2 := Nat.div_le_div_left (by omega) (by omega)
        omega
      exact Int.bmod_eq_of_le (by omega) (by omega)
  have hr := Int.natAbs_tmod x.toInt m.toInt
  have hr2 : (x.toInt.tmod m.toInt).natAbs < m.toInt.natAbs := by rw [hr]; exact Nat.mod_lt _ (by omega)
  have hpa : (m.toInt * x.toInt.tdiv m.toInt).natAbs ≤ x.toInt.natAbs := by
    rw [Int.natAbs_mul, Int.natAbs_tdiv]
    exact Nat.mul_div_le _ _
  have hp : (x / m * m).toInt = m.toInt * x.toInt.tdiv m.toInt := by
    rw [Int32.toInt_mul, hq, Int.mul_comm]
    by_cases h0 : 0 ≤ x.toInt
    · exact Int.bmod_eq_of_le (by omega) (by omega)
    · exact Int.bmod_eq_of_le (by omega) (by
        have h5 : x.toInt.tdiv m.toInt ≤ 0 := by
          have h6 := Int.tdiv_nonneg (a := -x.toInt) (b := m.toInt) (by omega) (by omega)
          rw [Int.neg_tdiv] at h6
          omega
        have h7 : m.toInt * x.toInt.tdiv m.toInt ≤ 0 := Int.mul_nonpos_of_nonneg_of_nonpos (by omega) h5
        omega)
  rw [Int32.toInt_sub, hp]
  have : x.toInt - m.toInt * x.toInt.tdiv m.toInt = x.toInt.tmod m.toInt := by omega
  rw [this]
  exact Int.bmod_eq_of_le (by omega) (by omega)
theorem z_remB {x m : Int32} (hm : 0 < m) : (x - x / m * m < m ∧ (0 ≤ x → 0 ≤ x - x / m * m)) ∧ (0 ≤ x → x - x / m * m ≤ x) := by
  have h := z_rem (x := x) hm
  rw [Int32.lt_iff_toInt_lt] at hm
  have e0 : (0 : Int32).toInt = 0 := by decide
  have hr := Int.natAbs_tmod x.toInt m.toInt
  have hr2 : (x.toInt.tmod m.toInt).natAbs < m.toInt.natAbs := by rw [hr]; exact Nat.mod_lt _ (by omega)
  have hr3 : (x.toInt.tmod m.toInt).natAbs ≤ x.toInt.natAbs := by rw [hr]; exact Nat.mod_le _ _
  refine ⟨⟨?_, fun h0 => ?_⟩, fun h0 => ?_⟩
  · rw [Int32.lt_iff_toInt_lt, h]; omega
  · rw [fa_le] at h0 ⊢
    rw [h, e0]
    exact Int.tmod_nonneg _ (by omega)
  · rw [fa_le] at h0 ⊢
    have := Int.tmod_nonneg (a := x.toInt) m.toInt (by omega)
    rw [h]; omega
theorem z_up {Pr : Int32 → Prop} (hi : Int32) (h : ∀ i, (∀ i', i < i' → i' ≤ hi → Pr i') → Pr i) : ∀ i, Pr i := by
  have key : ∀ (f : Nat) (i : Int32), (hi.toInt - i.toInt).toNat ≤ f → Pr i := by
    intro f
    induction f with
    | zero =>
      intro i hf
      refine h i (fun i' h1 h2 => ?_)
      rw [Int32.lt_iff_toInt_lt] at h1
      rw [fa_le] at h2
      omega
    | succ f ih =>
      intro i hf
      refine h i (fun i' h1 h2 => ih i' ?_)
      rw [Int32.lt_iff_toInt_lt] at h1
      rw [fa_le] at h2
      omega
  exact fun i => key _ i (Nat.le_refl _)
theorem z_dn {Pr : Int32 → Prop} (lo : Int32) (h : ∀ i, (∀ i', i' < i → lo ≤ i' → Pr i') → Pr i) : ∀ i, Pr i := by
  have key : ∀ (f : Nat) (i : Int32), (i.toInt - lo.toInt).toNat ≤ f → Pr i := by
    intro f
    induction f with
    | zero =>
      intro i hf
      refine h i (fun i' h1 h2 => ?_)
      rw [Int32.lt_iff_toInt_lt] at h1
      rw [fa_le] at h2
      omega
    | succ f ih =>
      intro i hf
      refine h i (fun i' h1 h2 => ih i' ?_)
      rw [Int32.lt_iff_toInt_lt] at h1
      rw [fa_le] at h2
      omega
  exact fun i => key _ i (Nat.le_refl _)
theorem z_and {x m : Int32} (hm : 0 ≤ m) : 0 ≤ x &&& m ∧ x &&& m ≤ m := by
  have e : (x &&& m).toUInt32.toNat ≤ m.toUInt32.toNat := by
    rw [Int32.toUInt32_and, UInt32.toNat_and]
    exact Nat.and_le_right
  rw [fa_le] at hm
  rw [fa_le, fa_le]
  have e0 : (0 : Int32).toInt = 0 := by decide
  rw [e0] at hm ⊢
  have h1 : ∀ y : Int32, y.toInt = (y.toUInt32.toNat : Int).bmod (2 ^ 32) := fun y => by
    show y.toBitVec.toInt = _
    rw [BitVec.toInt_eq_toNat_bmod]
    rfl
  have hml : m.toUInt32.toNat < 2 ^ 31 := by
    have h2 := h1 m
    have h3 : m.toUInt32.toNat < 2 ^ 32 := m.toUInt32.toNat_lt
    rw [h2] at hm
    by_cases h4 : m.toUInt32.toNat < 2 ^ 31
    · exact h4
    · have : ((m.toUInt32.toNat : Int)).bmod (2 ^ 32) = (m.toUInt32.toNat : Int) - 2 ^ 32 := by
        rw [Int.bmod_def]
        have : ((m.toUInt32.toNat : Int)) % ((2 ^ 32 : Nat) : Int) = m.toUInt32.toNat := Int.emod_eq_of_lt (by omega) (by omega)
        rw [this]
        rw [if_neg (by omega)]
        omega
      omega
  rw [h1 (x &&& m), h1 m, Int.bmod_eq_of_le (by omega) (by omega), Int.bmod_eq_of_le (by omega) (by omega)]
  omega
