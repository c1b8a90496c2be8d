/-! The class's reading of sums, over TOKENS. -/
/-! The reader's cells. A: 0 the reader, 1 the tape, 2 .. 4 its rows of TOKENS, 5 the draft, 6 .. 9 its rows of code and groups. -/
def HD (A : Nat → Nat) : Prop := ∀ i j, i < 10 → j < 10 → A i = A j → i = j
def WR (A : Nat → Nat) (c j : Nat) : Prop := (c = A 0 ∧ j ≠ 2 ∧ j ≠ 3 ∧ j ≠ 4) ∨ (c = A 5 ∧ (j = 5 ∨ j = 8)) ∨ ∃ k, 6 ≤ k ∧ k ≤ 9 ∧ c = A k
def fP (A : Nat → Nat) (g g' : Nat → Nat → Int) : Prop := ∀ c j, ¬ WR A c j → g' c j = g c j
theorem fP_rf {A : Nat → Nat} {g : Nat → Nat → Int} : fP A g g := fun _ _ _ => rfl
theorem fP_tr {A : Nat → Nat} {g g1 g2 : Nat → Nat → Int} (h1 : fP A g g1) (h2 : fP A g1 g2) : fP A g g2 := fun c j h => (h2 c j h).trans (h1 c j h)
theorem fP_up {A : Nat → Nat} {a i : Nat} {v : Int} {g g1 : Nat → Nat → Int} (h : fP A g g1) (hw : WR A a i) : fP A g (g_up g1 a i v) := fun c j hc => by
  unfold g_up
  rw [if_neg (fun e => hc (by rw [e.2, e.1]; exact hw))]
  exact h c j hc
def PI (A : Nat → Nat) (m : Nat) (lw : Int) (tk vl : Nat → Int) (ps : Nat → Nat) (g : Nat → Nat → Int) : Prop := (g (A 0) 2 = (A 1 : Int) ∧ g (A 0) 3 = (A 5 : Int) ∧ g (A 0) 4 = lw) ∧ (g (A 1) 1 = (m : Int) + 1 ∧ g (A 1) 2 = (A 2 : Int) ∧ g (A 1) 3 = (A 3 : Int) ∧ g (A 1) 4 = (A 4 : Int)) ∧ (g (A 5) 3 = (A 6 : Int) ∧ g (A 5) 4 = (A 7 : Int) ∧ g (A 5) 6 = (A 8 : Int) ∧ g (A 5) 7 = (A 9 : Int)) ∧ ∀ j, j ≤ m → g (A 2) j = tk j ∧ g (A 3) j = vl j ∧ g (A 4) j = (ps j : Int)
section CP
variable {A : Nat → Nat} {m : Nat} {lw : Int} {tk vl : Nat → Int} {ps : Nat → Nat}
theorem nW0 (hA : HD A) {j : Nat} (h : j = 2 ∨ j = 3 ∨ j = 4) : ¬ WR A (A 0) j := by
  rintro (⟨-, h1, h2, h3⟩ | ⟨h1, -⟩ | ⟨k, h1, h2, h3⟩)
  · omega
  · exact absurd (hA 0 5 (by decide) (by decide) h1) (by decide)
  · have := hA 0 k (by decide) (by omega) h3
    omega
theorem nW1 (hA : HD A) {i j : Nat} (h : 1 ≤ i ∧ i ≤ 4) : ¬ WR A (A i) j := by
  rintro (⟨h1, -⟩ | ⟨h1, -⟩ | ⟨k, h1, h2, h3⟩)
  · have := hA i 0 (by omega) (by decide) h1
    omega
  · have := hA i 5 (by omega) (by decide) h1
    omega
  · have := hA i k (by omega) (by omega) h3
    omega
theorem nW5 (hA : HD A) {j : Nat} (h : j ≠ 5 ∧ j ≠ 8) : ¬ WR A (A 5) j := by
  rintro (⟨h1, -⟩ | ⟨-, h1⟩ | ⟨k, h1, h2, h3⟩)
  · exact absurd (hA 5 0 (by decide) (by decide) h1) (by decide)
  · omega
  · have := hA 5 k (by decide) (by omega) h3
    omega
theorem PI_mo (hA : HD A) {g g' : Nat → Nat → Int} (h : PI A m lw tk vl ps g) (hf : fP A g g') : PI A m lw tk vl ps g' := by
  obtain ⟨⟨a1, a2, a3⟩, ⟨b1, b2, b3, b4⟩, ⟨c1, c2, c3, c4⟩, d⟩ := h
  refine ⟨⟨(hf _ _ (nW0 hA (by decide))).trans a1, (hf _ _ (nW0 hA (by decide))).trans a2, (hf _ _ (nW0 hA (by decide))).trans a3⟩, ⟨(hf _ _ (nW1 hA (by decide))).trans b1, (hf _ _ (nW1 hA (by decide))).trans b2, (hf _ _ (nW1 hA (by decide))).trans b3, (hf _ _ (nW1 hA (by decide))).trans b4⟩, ⟨(hf _ _ (nW5 hA (by decide))).trans c1, (hf _ _ (nW5 hA (by decide))).trans c2, (hf _ _ (nW5 hA (by decide))).trans c3, (hf _ _ (nW5 hA (by decide))).trans c4⟩, fun j hj => ⟨(hf _ _ (nW1 hA (by decide))).trans (d j hj).1, (hf _ _ (nW1 hA (by decide))).trans (d j hj).2.1, (hf _ _ (nW1 hA (by decide))).trans (d j hj).2.2⟩⟩
/-- at a TOKEN, without a FAULT; c0, k0: how much code, how many groups -/
def ST (A : Nat → Nat) (m : Nat) (tk : Nat → Int) (g : Nat → Nat → Int) (i c0 k0 : Nat) : Prop := g (A 0) 0 = 0 ∧ g (A 0) 5 = (i : Int) ∧ g (A 0) 6 = tk i ∧ i ≤ m ∧ g (A 5) 5 = (c0 : Int) ∧ g (A 5) 8 = (k0 : Int) ∧ g (A 0) 1 = -1
/-- a FAULT is there -/
def FA (A : Nat → Nat) (ps : Nat → Nat) (g : Nat → Nat → Int) (c : Int) (j : Nat) : Prop := g (A 0) 0 = c ∧ g (A 0) 1 = (ps j : Int)
def RES (A : Nat → Nat) (m : Nat) (tk vl : Nat → Int) (ps : Nat → Nat) (sh : Bool) (t d : Nat) (own : Bool) (i c0 k0 s : Nat) (g g' : Nat → Nat → Int) : Prop := fP A g g' ∧ ∃ c j, UP tk vl sh t d own i (c, j) ∧ (c = 0 → i + s ≤ j ∧ ∃ c1 k1, ST A m tk g' j c1 k1 ∧ c0 + s ≤ c1 ∧ c1 + i ≤ c0 + j ∧ k1 + i ≤ k0 + j) ∧ (c ≠ 0 → FA A ps g' c j)
/-- with a FAULT nothing is told any more -/
def KEP (A : Nat → Nat) (g g' : Nat → Nat → Int) : Prop := fP A g g' ∧ g' (A 0) 0 = g (A 0) 0 ∧ g' (A 0) 1 = g (A 0) 1
theorem KEP_rf {g : Nat → Nat → Int} : KEP A g g := ⟨fP_rf, rfl, rfl⟩
theorem KEP_tr {g g1 g2 : Nat → Nat → Int} (h1 : KEP A g g1) (h2 : KEP A g1 g2) : KEP A g g2 := ⟨fP_tr h1.1 h2.1, h2.2.1.trans h1.2.1, h2.2.2.trans h1.2.2⟩
theorem FA_kep {g g' : Nat → Nat → Int} {c : Int} {j : Nat} (h : FA A ps g c j) (hk : KEP A g g') : FA A ps g' c j := ⟨hk.2.1.trans h.1, hk.2.2.trans h.2⟩
theorem fail_0 (hA : HD A) {g : Nat → Nat → Int} (hP : PI A m lw tk vl ps g) {i c0 k0 : Nat} (hS : ST A m tk g i c0 k0) (why : Int) : F_X3_fail (A 0 : Int) why g = g_up (g_up g (A 0) 0 why) (A 0) 1 (ps i : Int) := by
  obtain ⟨⟨a1, a2, a3⟩, ⟨b1, b2, b3, b4⟩, -, d⟩ := hP
  obtain ⟨s0, s5, s6, si, -⟩ := hS
  have n40 : A 4 ≠ A 0 := fun e => absurd (hA 4 0 (by decide) (by decide) e) (by decide)
  unfold F_X3_fail
  simp only [Int.toNat_natCast, s0, a1, b4, s5, if_true, g_up_a (b := A 4) (a := A 0) n40, (d i si).2.2]
theorem fail_n {g : Nat → Nat → Int} (h : g (A 0) 0 ≠ 0) (why : Int) : F_X3_fail (A 0 : Int) why g = g := by
  unfold F_X3_fail
  rw [Int.toNat_natCast, if_neg h]
theorem fail_FA (hA : HD A) {g : Nat → Nat → Int} (hP : PI A m lw tk vl ps g) {i c0 k0 : Nat} (hS : ST A m tk g i c0 k0) {why : Int} : fP A g (F_X3_fail (A 0 : Int) why g) ∧ FA A ps (F_X3_fail (A 0 : Int) why g) why i := by
  rw [fail_0 hA hP hS]
  refine ⟨fP_up (fP_up fP_rf (Or.inl ⟨rfl, by decide⟩)) (Or.inl ⟨rfl, by decide⟩), ?_, g_up_s ..⟩
  rw [g_up_j (by decide), g_up_s]
theorem adv_0 (hA : HD A) (hm : m ≤ 300) {g : Nat → Nat → Int} (hP : PI A m lw tk vl ps g) {i : Nat} (h5 : g (A 0) 5 = (i : Int)) (hi : i < m) : F_X3_advance (A 0 : Int) g = g_up (g_up g (A 0) 5 ((i : Int) + 1)) (A 0) 6 (tk (i + 1)) := by
  obtain ⟨⟨a1, a2, a3⟩, ⟨b1, b2, b3, b4⟩, -, d⟩ := hP
  have n20 : A 2 ≠ A 0 := fun e => absurd (hA 2 0 (by decide) (by decide) e) (by decide)
  have eg : g_i ((i : Int) + 1) = (i : Int) + 1 := gi_of (by omega) (by omega)
  replace eg : EqG (g_i ((i : Int) + 1)) ((i : Int) + 1) := eg
  have et : ((i : Int) + 1).toNat = i + 1 := by omega
  unfold F_X3_advance
  simp only [Int.toNat_natCast, a1, b1, b2, h5, eg.e, g_up_s, g_up_a (b := A 2) (a := A 0) n20, et, (d (i + 1) (by omega)).1]
  rw [if_neg (by omega)]
theorem adv_ST (hA : HD A) (hm : m ≤ 300) {g : Nat → Nat → Int} (hP : PI A m lw tk vl ps g) {i c0 k0 : Nat} (hS : ST A m tk g i c0 k0) (hi : i < m) : fP A g (F_X3_advance (A 0 : Int) g) ∧ ST A m tk (F_X3_advance (A 0 : Int) g) (i + 1) c0 k0 := by
  obtain ⟨s0, s5, s6, si, s7, s8, s9⟩ := hS
  have n50 : A 5 ≠ A 0 := fun e => absurd (hA 5 0 (by decide) (by decide) e) (by decide)
  rw [adv_0 hA hm hP s5 hi]
  refine ⟨fP_up (fP_up fP_rf (Or.inl ⟨rfl, by decide⟩)) (Or.inl ⟨rfl, by decide⟩), ?_, ?_, g_up_s .., by omega, ?_, ?_, ?_⟩
  · rw [g_up_j (by decide), g_up_j (by decide), s0]
  · rw [g_up_j (by decide), g_up_s]; omega
  · rw [g_up_a n50, g_up_a n50, s7]
  · rw [g_up_a n50, g_up_a n50, s8]
  · rw [g_up_j (by decide), g_up_j (by decide), s9]
theorem wr_any (hA : HD A) {g : Nat → Nat → Int} (hP : PI A m lw tk vl ps g) (x y : Int) : KEP A g (F_X7_write (A 5 : Int) x y g) ∧ (∀ j, F_X7_write (A 5 : Int) x y g (A 0) j = g (A 0) j) ∧ F_X7_write (A 5 : Int) x y g (A 5) 8 = g (A 5) 8 := by
  obtain ⟨-, -, ⟨c1, c2, c3, c4⟩, -⟩ := hP
  have n06 : A 0 ≠ A 6 := fun e => absurd (hA 0 6 (by decide) (by decide) e) (by decide)
  have n07 : A 0 ≠ A 7 := fun e => absurd (hA 0 7 (by decide) (by decide) e) (by decide)
  have n05 : A 0 ≠ A 5 := fun e => absurd (hA 0 5 (by decide) (by decide) e) (by decide)
  have n56 : A 5 ≠ A 6 := fun e => absurd (hA 5 6 (by decide) (by decide) e) (by decide)
  have n57 : A 5 ≠ A 7 := fun e => absurd (hA 5 7 (by decide) (by decide) e) (by decide)
  unfold F_X7_write
  by_cases h : 300 ≤ g (A 5 : Int).toNat 5
  · rw [if_pos h]
    exact ⟨KEP_rf, fun _ => rfl, rfl⟩
  · rw [if_neg h]
    simp only [Int.toNat_natCast, c1, c2, g_up_a (b := A 5) (a := A 6) n56]
    have k : ∀ (j : Nat) (a b : Nat) (v w z : Int), (g_up (g_up (g_up g (A 6) a v) (A 7) b w) (A 5) 5 z) (A 0) j = g (A 0) j := fun j a b v w z => by rw [g_up_a n05, g_up_a n07, g_up_a n06]
    refine ⟨⟨fP_up (fP_up (fP_up fP_rf (Or.inr (Or.inr ⟨6, by decide, by decide, rfl⟩))) (Or.inr (Or.inr ⟨7, by decide, by decide, rfl⟩))) (Or.inr (Or.inl ⟨rfl, Or.inl rfl⟩)), k _ _ _ _ _ _, k _ _ _ _ _ _⟩, fun j => k _ _ _ _ _ _, ?_⟩
    rw [g_up_j (by decide), g_up_a n57, g_up_a n56]
theorem wr_ST (hA : HD A) {g : Nat → Nat → Int} (hP : PI A m lw tk vl ps g) {i c0 k0 : Nat} (hS : ST A m tk g i c0 k0) (hc : c0 < 300) (x y : Int) : ST A m tk (F_X7_write (A 5 : Int) x y g) i (c0 + 1) k0 := by
  obtain ⟨-, k1, k2⟩ := wr_any hA hP x y
  obtain ⟨s0, s5, s6, si, s7, s8, s9⟩ := hS
  refine ⟨(k1 0).trans s0, (k1 5).trans s5, (k1 6).trans s6, si, ?_, k2.trans s8, (k1 1).trans s9⟩
  obtain ⟨-, -, ⟨c1, c2, c3, c4⟩, -⟩ := hP
  have n56 : A 5 ≠ A 6 := fun e => absurd (hA 5 6 (by decide) (by decide) e) (by decide)
  have n57 : A 5 ≠ A 7 := fun e => absurd (hA 5 7 (by decide) (by decide) e) (by decide)
  have eg : g_i ((c0 : Int) + 1) = (c0 : Int) + 1 := gi_of (by omega) (by omega)
  replace eg : EqG (g_i ((c0 : Int) + 1)) ((c0 : Int) + 1) := eg
  unfold F_X7_write
  rw [if_neg (by rw [Int.toNat_natCast, s7]; omega)]
  simp only [Int.toNat_natCast, c1, c2, s7, g_up_a (b := A 5) (a := A 6) n56, g_up_a (b := A 5) (a := A 7) n57, eg.e, g_up_s]
  omega
theorem exp_y (hA : HD A) (hm : m ≤ 300) {g : Nat → Nat → Int} (hP : PI A m lw tk vl ps g) {i c0 k0 : Nat} (hS : ST A m tk g i c0 k0) {what : Int} (hw : tk i = what) (hi : i < m) : fP A g (F_X3_expect (A 0 : Int) what g) ∧ ST A m tk (F_X3_expect (A 0 : Int) what g) (i + 1) c0 k0 := by
  have e : F_X3_expect (A 0 : Int) what g = F_X3_advance (A 0 : Int) g := by
    unfold F_X3_expect
    rw [Int.toNat_natCast, if_pos (hS.2.2.1.trans hw), if_pos hS.1]
  rw [e]
  exact adv_ST hA hm hP hS hi
theorem exp_n (hA : HD A) {g : Nat → Nat → Int} (hP : PI A m lw tk vl ps g) {i c0 k0 : Nat} (hS : ST A m tk g i c0 k0) {what : Int} (hw : tk i ≠ what) : fP A g (F_X3_expect (A 0 : Int) what g) ∧ FA A ps (F_X3_expect (A 0 : Int) what g) 1 i := by
  have e : F_X3_expect (A 0 : Int) what g = F_X3_fail (A 0 : Int) 1 g := by
    unfold F_X3_expect
    rw [Int.toNat_natCast, if_neg (fun h => hw (hS.2.2.1.symm.trans h))]
  rw [e]
  exact fail_FA hA hP hS
theorem exp_k {g : Nat → Nat → Int} (h : g (A 0) 0 ≠ 0) (what : Int) : F_X3_expect (A 0 : Int) what g = g := by
  unfold F_X3_expect
  rw [Int.toNat_natCast]
  split
  · first | rfl | rw [if_neg h]
  · exact fail_n h 1
theorem op_y {g : Nat → Nat → Int} {i c0 k0 : Nat} (hS : ST A m tk g i c0 k0) {d : Nat} (hd : d < 8) : F_X3_opens (A 0 : Int) (d : Int) g = (1, F_X3_advance (A 0 : Int) g) := by
  unfold F_X3_opens
  rw [if_pos (by omega), Int.toNat_natCast, if_pos hS.1]
theorem op_n (hA : HD A) {g : Nat → Nat → Int} (hP : PI A m lw tk vl ps g) {i c0 k0 : Nat} (hS : ST A m tk g i c0 k0) {d : Nat} (hd : 8 ≤ d) : F_X3_opens (A 0 : Int) (d : Int) g = (0, F_X3_fail (A 0 : Int) 3 g) := by
  have hf := (fail_FA hA hP hS (why := 3)).2.1
  unfold F_X3_opens
  rw [if_neg (by omega), Int.toNat_natCast, if_neg (by rw [hf]; decide)]
theorem op_k {g : Nat → Nat → Int} (h : g (A 0) 0 ≠ 0) (d : Int) : F_X3_opens (A 0 : Int) d g = (0, g) := by
  unfold F_X3_opens
  rw [Int.toNat_natCast, fail_n h]
  split
  · first | rfl | rw [if_neg h]
  · first | rfl | rw [if_neg h]
theorem own_eq (x : Int) (g : Nat → Nat → Int) : F_X3_isOwnName x g = if u_own x = true then 1 else 0 := by
  unfold F_X3_isOwnName F_X11_isWithin u_own
  simp only [Bool.or_eq_true, Bool.and_eq_true, decide_eq_true_eq]
  (repeat' split) <;> omega
theorem nam_eq (x : Int) (g : Nat → Nat → Int) : F_X3_isName x g = if u_nam x = true then 1 else 0 := by
  unfold F_X3_isName
  rw [own_eq]
  unfold F_X11_isWithin u_nam
  simp only [Bool.or_eq_true, Bool.and_eq_true, decide_eq_true_eq]
  (repeat' split) <;> simp_all <;> omega
end CP
