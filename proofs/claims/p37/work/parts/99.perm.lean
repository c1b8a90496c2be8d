/-! Bits of a set; orders, each greater than the one ahead. -/
def hv (x k : Int) : Int := ((Int32.ofInt x >>> (Int32.ofInt k &&& 31)) &&& 1).toInt
theorem hv_b (x k : Int) : 0 ≤ hv x k ∧ hv x k ≤ 1 := by
  have h := z_and (x := Int32.ofInt x >>> (Int32.ofInt k &&& 31)) (m := 1) (by decide)
  rw [Int32.le_iff_toInt_le, Int32.le_iff_toInt_le] at h
  have h0 : (0 : Int32).toInt = 0 := rfl
  have h1 : (1 : Int32).toInt = 1 := by decide +kernel
  rw [h0, h1] at h
  exact h
theorem hs_hv (x k : Int) : hs x k = true ↔ hv x k = 1 := by
  unfold hs hv
  rw [beq_iff_eq]
  have h1 : (1 : Int32).toInt = 1 := by decide +kernel
  constructor
  · intro h
    rw [h, h1]
  · intro h
    apply Int32.toInt_inj.mp
    rw [h1]
    exact h
def bt (x : Int) : Nat → Int
  | 0 => 0
  | k + 1 => bt x k + hv x k
theorem bt_b (x : Int) : ∀ n : Nat, 0 ≤ bt x n ∧ bt x n ≤ n := by
  intro n
  induction n with
  | zero => exact ⟨Int.le_refl _, Int.le_refl _⟩
  | succ n ih =>
    have := hv_b x n
    show 0 ≤ bt x n + hv x n ∧ bt x n + hv x n ≤ ((n + 1 : Nat) : Int)
    omega
theorem bt_mono (x : Int) {m : Nat} : ∀ n : Nat, m ≤ n → bt x m ≤ bt x n := by
  intro n
  induction n with
  | zero =>
    intro h
    have : m = 0 := by omega
    rw [this]
    exact Int.le_refl _
  | succ n ih =>
    intro h
    by_cases hm : m = n + 1
    · rw [hm]
      exact Int.le_refl _
    · have h1 := ih (by omega)
      have := hv_b x n
      show bt x m ≤ bt x n + hv x n
      omega
theorem bt_F : ∀ F : Nat, F < 7 → ∀ x : Nat, x < 64 → x < 2 ^ F → bt (x : Int) F = bt (x : Int) 12 := by decide +kernel
theorem bt_6 : ∀ x : Nat, x < 64 → 1 ≤ x → 1 ≤ bt (x : Int) 12 ∧ bt (x : Int) 12 ≤ 6 := by decide +kernel
theorem pw_1 : ∀ v : Nat, v < 9 → (((1 : Int32) <<< (Int32.ofInt (v : Int) &&& 31)) - 1) = Int32.ofInt (((2 ^ v - 1 : Nat) : Int)) := by decide +kernel
theorem pw_b : ∀ v : Nat, v < 9 → 2 ^ v - 1 ≤ 255 ∧ 1 ≤ 2 ^ v ∧ (v < 7 → 2 ^ v - 1 ≤ 63) := by decide +kernel
def inj6 (n : Nat) (g : Nat → Int) : Prop := ∀ i, i < n → ∀ j, j < n → g i = g j → i = j
def val6 (g : Nat → Int) : Nat → Int
  | 0 => 0
  | k + 1 => 6 * val6 g k + g k
theorem val6_b {g : Nat → Int} (h : ∀ j, j < 6 → 0 ≤ g j ∧ g j ≤ 5) : ∀ n : Nat, n ≤ 6 → 0 ≤ val6 g n ∧ val6 g n ≤ 46655 := by
  intro n hn
  have a0 := h 0 (by decide)
  have a1 := h 1 (by decide)
  have a2 := h 2 (by decide)
  have a3 := h 3 (by decide)
  have a4 := h 4 (by decide)
  have a5 := h 5 (by decide)
  match n, hn with
  | 0, _ => simp only [val6]; omega
  | 1, _ => simp only [val6]; omega
  | 2, _ => simp only [val6]; omega
  | 3, _ => simp only [val6]; omega
  | 4, _ => simp only [val6]; omega
  | 5, _ => simp only [val6]; omega
  | 6, _ => simp only [val6]; omega
  | n + 7, hn => omega
theorem val6_lt {g g' : Nat → Int} {n i : Nat} (hn : n ≤ 6) (hi : i < n) (hs : ∀ j, j < i → g' j = g j) (hlt : g i < g' i) (hb : ∀ j, j < 6 → 0 ≤ g j ∧ g j ≤ 5) (hb' : ∀ j, j < 6 → 0 ≤ g' j ∧ g' j ≤ 5) : val6 g n < val6 g' n := by
  have e : ∀ k, k ≤ i → val6 g' k = val6 g k := by
    intro k
    induction k with
    | zero => intro _; rfl
    | succ k ih =>
      intro hk
      show 6 * val6 g' k + g' k = 6 * val6 g k + g k
      rw [ih (by omega), hs k (by omega)]
  have f : ∀ k, i < k → k ≤ n → val6 g k < val6 g' k := by
    intro k
    induction k with
    | zero => intro h _; omega
    | succ k ih =>
      intro h1 h2
      show 6 * val6 g k + g k < 6 * val6 g' k + g' k
      by_cases hk : k = i
      · subst hk
        rw [e k (Nat.le_refl _)]
        omega
      · have := ih (by omega) (by omega)
        have := hb k (by omega)
        have := hb' k (by omega)
        omega
  exact f n hi (Nat.le_refl _)
theorem inj6_sw {n i k : Nat} {g h : Nat → Int} (hg : inj6 n g) (hi : i < n) (hk : k < n) (e : ∀ j, h j = if j = i then g k else if j = k then g i else g j) : inj6 n h := by
  have key : ∀ a, a < n → ∃ a', a' < n ∧ h a = g a' ∧ (a' = if a = i then k else if a = k then i else a) := fun a ha => by
    rw [e]
    by_cases h1 : a = i
    · exact ⟨k, hk, by rw [if_pos h1], by rw [if_pos h1]⟩
    · by_cases h2 : a = k
      · exact ⟨i, hi, by rw [if_neg h1, if_pos h2], by rw [if_neg h1, if_pos h2]⟩
      · exact ⟨a, ha, by rw [if_neg h1, if_neg h2], by rw [if_neg h1, if_neg h2]⟩
  intro a ha b hb hab
  obtain ⟨a', a1, a2, a3⟩ := key a ha
  obtain ⟨b', b1, b2, b3⟩ := key b hb
  have h3 := hg a' a1 b' b1 (by rw [← a2, ← b2]; exact hab)
  rw [a3, b3] at h3
  split at h3 <;> split at h3 <;> (try split at h3) <;> (try split at h3) <;> omega
