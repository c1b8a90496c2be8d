section ZF
variable {E : zCx} {k n : Nat} {L : List Nat} {σ : Nat → va_E} {φ : Nat → Nat → Nat → Int32} {ρ : Nat → Nat → Int32} {pc : Nat} {lv : List (Nat × Value)} {st : List Value}
theorem x_rho (kk : ∀ ρ1 : Nat → Nat → Int32, ρ1 = ρ → zW E k n L σ φ ρ1 pc lv st) : zW E k n L σ φ ρ pc lv st := kk ρ rfl
theorem x_phi (kk : ∀ φ1 : Nat → Nat → Nat → Int32, φ1 = φ → zW E k n L σ φ1 ρ pc lv st) : zW E k n L σ φ ρ pc lv st := kk φ rfl
end ZF
theorem z_sw (x : Int32) (n : Nat) (hn : n < 2 ^ 31) : (x.toInt < 0 ∨ (n : Int) - 1 < x.toInt) ∨ ∃ j, j < n ∧ x = nI j := by
  by_cases h : x.toInt < 0
  · exact Or.inl (Or.inl h)
  · by_cases h2 : (n : Int) - 1 < x.toInt
    · exact Or.inl (Or.inr h2)
    · refine Or.inr (vp_in_of (vp_in_iff.mpr ⟨by omega, by omega⟩) hn)
theorem z_nI {x : Int32} {a b : Nat} (h : nI a ≤ x ∧ x ≤ nI b) (ha : a < 2 ^ 31) (hb : b + 1 < 2 ^ 31) : ∃ j : Nat, a ≤ j ∧ j ≤ b ∧ x = nI j := by
  obtain ⟨h1, h2⟩ := h
  rw [fa_le, nI_toInt ha] at h1
  rw [fa_le, nI_toInt (by omega)] at h2
  obtain ⟨j, hj, rfl⟩ := vp_in_of (x := x) (n := b + 1) (vp_in_iff.mpr ⟨by omega, by omega⟩) (by omega)
  rw [nI_toInt (by omega)] at h1
  exact ⟨j, by omega, by omega, rfl⟩
def zabout (w : Int32) : Int32 := if w = 6 then 37 else if w = 8 then -1 else if 0 ≤ w ∧ w ≤ 13 then 0 else -2
theorem zabout_out {w : Int32} (h : w.toInt < 0 ∨ 13 < w.toInt) : zabout w = -2 := by
  have e0 : (0 : Int32).toInt = 0 := by decide
  have e13 : (13 : Int32).toInt = 13 := by decide
  unfold zabout
  rw [if_neg, if_neg, if_neg]
  · rw [fa_le, fa_le, e0, e13]; omega
  · intro e; subst e; revert h; decide
  · intro e; subst e; revert h; decide
