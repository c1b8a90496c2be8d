/-! The class's CLAUSES but laws. -/
def shp : List Int := [-1, 0, 9, 14, 0, 999, 15, 1, 999, -1, 0, 5, 18, 0, 5, -1, 0, 0, -1, 1, 99, 26, 0, 99, 16, 0, 5, -1, 0, 7, 17, 0, 9, -1, 0, 0, -1, 0, 7, 18, 0, 5, -1, 0, 0, -1, 0, 7, 18, 0, 7, -1, 0, 0, -1, 0, 7, 19, 0, 7, 17, 1, 99, -1, 1, 999, 16, 0, 5, -1, 0, 0, -1, 1, 30, -1, 0, 0, -1, 0, 0]
def shW (s k : Nat) : Int := shp.getD (3 * (3 * s + k)) 0
def shL (s k : Nat) : Int := shp.getD (3 * (3 * s + k) + 1) 0
def shH (s k : Nat) : Int := shp.getD (3 * (3 * s + k) + 2) 0
theorem shW_54 : ∀ (s : Fin 9) (k : Fin 3), shW s k ≠ 54 := by decide +kernel
theorem u_sq_as {a : Int × Nat} {f k : Nat → Int × Nat} : u_sq (u_sq a f) k = u_sq a (fun j => u_sq (f j) k) := by
  by_cases h : a.1 = 0
  · rw [u_sq_0 h, u_sq_0 h]
  · rw [u_sq_n h, u_sq_n h, u_sq_n h]
theorem u_sq_id {a : Int × Nat} : u_sq a (fun j => (0, j)) = a := by
  by_cases h : a.1 = 0
  · rw [u_sq_0 h, ← h]
  · rw [u_sq_n h]
section UC
variable (tk vl : Nat → Int)
def u_c2 (s : Nat) (j : Nat) : Int × Nat := if shW s 2 = -1 then (0, j) else u_wd tk vl (shW s 2) (shL s 2) (shH s 2) j
def u_c1 (s : Nat) (j : Nat) : Int × Nat := if shW s 1 = -1 then (0, j) else u_sq (u_wd tk vl (shW s 1) (shL s 1) (shH s 1) j) (u_c2 tk vl s)
def u_c (s : Nat) (i : Nat) : Int × Nat := u_sq (u_fg tk vl (shL s 0) (shH s 0) i) (u_c1 tk vl s)
end UC
theorem u_c_pt {tk vl : Nat → Int} {i : Nat} : ∀ s : Nat, s ≤ 8 → u_c tk vl s i = u_pt tk vl ((s : Int) + 5) i := by
  intro s hs
  have two : ∀ (lo hi w lo2 hi2 : Int), w ≠ -1 → u_sq (u_fg tk vl lo hi i) (fun j => if w = -1 then (0, j) else u_sq (u_wd tk vl w lo2 hi2 j) (fun j => (0, j))) = u_sq (u_fg tk vl lo hi i) (u_wd tk vl w lo2 hi2) := by
    intro lo hi w lo2 hi2 hw
    congr 1
    funext j
    rw [if_neg hw, u_sq_id]
  have thr : ∀ (lo hi w lo2 hi2 w3 lo3 hi3 : Int), w ≠ -1 → w3 ≠ -1 → u_sq (u_fg tk vl lo hi i) (fun j => if w = -1 then (0, j) else u_sq (u_wd tk vl w lo2 hi2 j) (fun j => if w3 = -1 then (0, j) else u_wd tk vl w3 lo3 hi3 j)) = u_sq (u_sq (u_fg tk vl lo hi i) (u_wd tk vl w lo2 hi2)) (u_wd tk vl w3 lo3 hi3) := by
    intro lo hi w lo2 hi2 w3 lo3 hi3 hw hw3
    rw [u_sq_as]
    congr 1
    funext j
    rw [if_neg hw]
    congr 1
    funext j
    rw [if_neg hw3]
  match s, hs with
  | 0, _ => exact thr 0 9 14 0 999 15 1 999 (by decide) (by decide)
  | 1, _ => exact two 0 5 18 0 5 (by decide)
  | 2, _ => exact thr 1 99 26 0 99 16 0 5 (by decide) (by decide)
  | 3, _ => exact two 0 7 17 0 9 (by decide)
  | 4, _ => exact two 0 7 18 0 5 (by decide)
  | 5, _ => exact two 0 7 18 0 7 (by decide)
  | 6, _ => exact thr 0 7 19 0 7 17 1 99 (by decide) (by decide)
  | 7, _ => exact two 1 999 16 0 5 (by decide)
  | 8, _ => exact u_sq_id (a := u_fg tk vl 1 30 i)
  | s + 9, h => omega
theorem fg_ge {tk vl : Nat → Int} {lo hi : Int} {i : Nat} (h : (u_fg tk vl lo hi i).1 = 0) : i ≤ (u_fg tk vl lo hi i).2 := by
  unfold u_fg
  (repeat' split) <;> simp
theorem wd_ge {tk vl : Nat → Int} {w lo hi : Int} {i : Nat} (h : (u_wd tk vl w lo hi i).1 = 0) : i ≤ (u_wd tk vl w lo hi i).2 := by
  unfold u_wd at h ⊢
  by_cases hc : tk i = w
  · rw [if_pos hc] at h ⊢
    exact Nat.le_trans (Nat.le_succ i) (fg_ge h)
  · rw [if_neg hc]
    exact Nat.le_refl i
theorem sq_ge {a : Int × Nat} {f : Nat → Int × Nat} {i : Nat} (h1 : a.1 = 0 → i ≤ a.2) (h2 : ∀ j, (f j).1 = 0 → j ≤ (f j).2) (h : (u_sq a f).1 = 0) : i ≤ (u_sq a f).2 := by
  by_cases hc : a.1 = 0
  · rw [u_sq_0 hc] at h ⊢
    exact Nat.le_trans (h1 hc) (h2 _ h)
  · rw [u_sq_n hc] at h
    exact absurd h hc
theorem ucge {tk vl : Nat → Int} (s i : Nat) (h : (u_c tk vl s i).1 = 0) : i ≤ (u_c tk vl s i).2 := by
  refine sq_ge fg_ge (fun j hj => ?_) h
  unfold u_c1 at hj ⊢
  by_cases h1 : shW s 1 = -1
  · rw [if_pos h1]
    exact Nat.le_refl j
  · rw [if_neg h1] at hj ⊢
    refine sq_ge wd_ge (fun j hj => ?_) hj
    unfold u_c2 at hj ⊢
    by_cases h2 : shW s 2 = -1
    · rw [if_pos h2]
      exact Nat.le_refl j
    · rw [if_neg h2] at hj ⊢
      exact wd_ge hj
def HE (A : Nat → Nat) : Prop := ∀ i j, i < 17 → j < 17 → A i = A j → i = j
theorem HE_D {A : Nat → Nat} (h : HE A) : HD A := fun i j hi hj he => h i j (by omega) (by omega) he
def PX (A : Nat → Nat) (g : Nat → Nat → Int) : Prop := (g (A 5) 1 = (A 10 : Int) ∧ g (A 5) 2 = (A 11 : Int) ∧ g (A 5) 9 = (A 12 : Int) ∧ g (A 5) 10 = (A 13 : Int) ∧ g (A 5) 11 = (A 14 : Int) ∧ g (A 5) 12 = (A 15 : Int)) ∧ ∀ j, j < 81 → g (A 16) j = shp.getD j 0
/-- what numbers told are laid into -/
def fQ (A : Nat → Nat) (g g' : Nat → Nat → Int) : Prop := ∀ c j, ¬ (WR A c j ∨ c = A 11) → g' c j = g c j
section QP
variable {ax : zAx} {L : List Nat} {A : Nat → Nat} {m : Nat} {lw : Int} {tk vl : Nat → Int} {ps : Nat → Nat} {r : Option g_V} {h : g_H}
theorem fQ_rf {g : Nat → Nat → Int} : fQ A g g := fun _ _ _ => rfl
theorem fQ_tr {g g1 g2 : Nat → Nat → Int} (h1 : fQ A g g1) (h2 : fQ A g1 g2) : fQ A g g2 := fun c j h => (h2 c j h).trans (h1 c j h)
theorem fQ_P {g g' : Nat → Nat → Int} (h : fP A g g') : fQ A g g' := fun c j hc => h c j (fun hh => hc (Or.inl hh))
theorem fQ_up {g g1 : Nat → Nat → Int} {i : Nat} {v : Int} (h : fQ A g g1) : fQ A g (g_up g1 (A 11) i v) := fun c j hc => by
  rw [g_up_a (fun e => hc (Or.inr e))]
  exact h c j hc
theorem nQ (hA : HE A) {i j : Nat} (hi : i < 17) (h11 : i ≠ 11) (hw : ¬ WR A (A i) j) : ¬ (WR A (A i) j ∨ A i = A 11) := by
  rintro (h | h)
  · exact hw h
  · exact h11 (hA i 11 hi (by decide) h)
theorem nWx (hA : HE A) {i j : Nat} (hi : i < 17) (h10 : 10 ≤ i) : ¬ WR A (A i) j := by
  rintro (⟨h1, -⟩ | ⟨h1, -⟩ | ⟨k, h1, h2, h3⟩)
  · have := hA i 0 hi (by decide) h1
    omega
  · have := hA i 5 hi (by decide) h1
    omega
  · have := hA i k hi (by omega) h3
    omega
theorem PI_Q (hA : HE A) {g g' : Nat → Nat → Int} (h : PI A m lw tk vl ps g) (hf : fQ A g g') : PI A m lw tk vl ps g' := by
  have hD := HE_D hA
  obtain ⟨⟨a1, a2, a3⟩, ⟨b1, b2, b3, b4⟩, ⟨c1, c2, c3, c4⟩, d⟩ := h
  have k0 : ∀ j, (j = 2 ∨ j = 3 ∨ j = 4) → g' (A 0) j = g (A 0) j := fun j hj => hf _ _ (nQ hA (by decide) (by decide) (nW0 hD hj))
  have k1 : ∀ i j, (1 ≤ i ∧ i ≤ 4) → g' (A i) j = g (A i) j := fun i j hi => hf _ _ (nQ hA (by omega) (by omega) (nW1 hD hi))
  have k5 : ∀ j, (j ≠ 5 ∧ j ≠ 8) → g' (A 5) j = g (A 5) j := fun j hj => hf _ _ (nQ hA (by decide) (by decide) (nW5 hD hj))
  exact ⟨⟨(k0 _ (by decide)).trans a1, (k0 _ (by decide)).trans a2, (k0 _ (by decide)).trans a3⟩, ⟨(k1 _ _ (by decide)).trans b1, (k1 _ _ (by decide)).trans b2, (k1 _ _ (by decide)).trans b3, (k1 _ _ (by decide)).trans b4⟩, ⟨(k5 _ (by decide)).trans c1, (k5 _ (by decide)).trans c2, (k5 _ (by decide)).trans c3, (k5 _ (by decide)).trans c4⟩, fun j hj => ⟨(k1 _ _ (by decide)).trans (d j hj).1, (k1 _ _ (by decide)).trans (d j hj).2.1, (k1 _ _ (by decide)).trans (d j hj).2.2⟩⟩
theorem PX_Q (hA : HE A) {g g' : Nat → Nat → Int} (h : PX A g) (hf : fQ A g g') : PX A g' := by
  have hD := HE_D hA
  obtain ⟨⟨a1, a2, a3, a4, a5, a6⟩, b⟩ := h
  have k5 : ∀ j, (j ≠ 5 ∧ j ≠ 8) → g' (A 5) j = g (A 5) j := fun j hj => hf _ _ (nQ hA (by decide) (by decide) (nW5 hD hj))
  exact ⟨⟨(k5 _ (by decide)).trans a1, (k5 _ (by decide)).trans a2, (k5 _ (by decide)).trans a3, (k5 _ (by decide)).trans a4, (k5 _ (by decide)).trans a5, (k5 _ (by decide)).trans a6⟩, fun j hj => (hf _ _ (nQ hA (by decide) (by decide) (nWx hA (by decide) (by decide)))).trans (b j hj)⟩
theorem ST_Q (hA : HE A) {g : Nat → Nat → Int} {i c0 k0 x : Nat} {v : Int} (h : ST A m tk g i c0 k0) : ST A m tk (g_up g (A 11) x v) i c0 k0 := by
  have n0 : A 0 ≠ A 11 := fun e => absurd (hA 0 11 (by decide) (by decide) e) (by decide)
  have n5 : A 5 ≠ A 11 := fun e => absurd (hA 5 11 (by decide) (by decide) e) (by decide)
  obtain ⟨a, b, c, d, e, f, e1⟩ := h
  exact ⟨by rw [g_up_a n0]; exact a, by rw [g_up_a n0]; exact b, by rw [g_up_a n0]; exact c, d, by rw [g_up_a n5]; exact e, by rw [g_up_a n5]; exact f, by rw [g_up_a n0]; exact e1⟩
theorem FA_Q (hA : HE A) {g : Nat → Nat → Int} {c : Int} {j x : Nat} {v : Int} (h : FA A ps g c j) : FA A ps (g_up g (A 11) x v) c j := by
  have n0 : A 0 ≠ A 11 := fun e => absurd (hA 0 11 (by decide) (by decide) e) (by decide)
  exact ⟨by rw [g_up_a n0]; exact h.1, by rw [g_up_a n0]; exact h.2⟩
/-- what is expected as a NUMBER -/
theorem en_x (hA : HE A) (hm : m ≤ 300) (hE : tk m = 54) {g : Nat → Nat → Int} (hP : PI A m lw tk vl ps g) {i c0 k0 : Nat} (hS : ST A m tk g i c0 k0) (lo hi : Int) : fP A g (F_X3_expectNumber (A 0 : Int) lo hi g) ∧ ((u_fg tk vl lo hi i).1 = 0 → ST A m tk (F_X3_expectNumber (A 0 : Int) lo hi g) (u_fg tk vl lo hi i).2 c0 k0) ∧ ((u_fg tk vl lo hi i).1 ≠ 0 → FA A ps (F_X3_expectNumber (A 0 : Int) lo hi g) (u_fg tk vl lo hi i).1 (u_fg tk vl lo hi i).2) := by
  have hD := HE_D hA
  have s0 := hS.1
  have s5 := hS.2.1
  have s6 := hS.2.2.1
  have si := hS.2.2.2.1
  have en : g (g (g (A 0) 2).toNat 3).toNat (g (A 0) 5).toNat = vl i := by
    rw [hP.1.1, Int.toNat_natCast, hP.2.1.2.2.1, Int.toNat_natCast, s5, Int.toNat_natCast]
    exact (hP.2.2.2 i si).2.1
  unfold F_X3_expectNumber u_fg
  rw [Int.toNat_natCast, en, s6]
  by_cases h53 : tk i = 53
  · rw [if_pos h53, if_pos h53]
    have him : i < m := by
      by_cases hq : i = m
      · rw [hq, hE] at h53
        cases h53
      · omega
    have hin : F_X11_isWithin (vl i) lo hi g = if lo ≤ vl i ∧ vl i ≤ hi then 1 else 0 := by
      unfold F_X11_isWithin
      (repeat' split) <;> omega
    rw [hin]
    by_cases hv : lo ≤ vl i ∧ vl i ≤ hi
    · rw [if_pos hv, if_pos hv, if_neg (by decide), if_pos s0]
      obtain ⟨f1, f2⟩ := adv_ST hD hm hP hS him
      exact ⟨f1, fun _ => f2, fun hc => absurd rfl hc⟩
    · rw [if_neg hv, if_neg hv, if_pos rfl]
      obtain ⟨f1, f2⟩ := fail_FA hD hP hS (why := 2)
      exact ⟨f1, fun hc => absurd hc (f1_ne (by decide)), fun _ => f2⟩
  · rw [if_neg h53, if_neg h53]
    obtain ⟨f1, f2⟩ := fail_FA hD hP hS (why := 1)
    exact ⟨f1, fun hc => absurd hc (f1_ne (by decide)), fun _ => f2⟩
theorem en_k {g : Nat → Nat → Int} (h : g (A 0) 0 ≠ 0) (lo hi : Int) : F_X3_expectNumber (A 0 : Int) lo hi g = g := by
  unfold F_X3_expectNumber
  rw [Int.toNat_natCast, if_neg (c := g (A 0) 0 = 0) h, fail_n h, fail_n h]
  (repeat' split) <;> rfl
/-- a word, then a NUMBER -/
theorem ew_x (hA : HE A) (hm : m ≤ 300) (hE : tk m = 54) {g : Nat → Nat → Int} (hP : PI A m lw tk vl ps g) {i c0 k0 : Nat} (hS : ST A m tk g i c0 k0) {W : Int} (hW : W ≠ 54) (lo hi : Int) (x : Nat) (v : Int) : fQ A g (F_X3_expectNumber (A 0 : Int) lo hi (g_up (F_X3_expect (A 0 : Int) W g) (A 11) x v)) ∧ ((u_wd tk vl W lo hi i).1 = 0 → ST A m tk (F_X3_expectNumber (A 0 : Int) lo hi (g_up (F_X3_expect (A 0 : Int) W g) (A 11) x v)) (u_wd tk vl W lo hi i).2 c0 k0) ∧ ((u_wd tk vl W lo hi i).1 ≠ 0 → FA A ps (F_X3_expectNumber (A 0 : Int) lo hi (g_up (F_X3_expect (A 0 : Int) W g) (A 11) x v)) (u_wd tk vl W lo hi i).1 (u_wd tk vl W lo hi i).2) := by
  have hD := HE_D hA
  unfold u_wd
  by_cases hw : tk i = W
  · rw [if_pos hw]
    have him : i < m := by
      have := hS.2.2.2.1
      by_cases hq : i = m
      · rw [hq, hE] at hw
        exact absurd hw.symm hW
      · omega
    obtain ⟨f1, hS1⟩ := exp_y hD hm hP hS hw him
    have f2 : fQ A g (g_up (F_X3_expect (A 0 : Int) W g) (A 11) x v) := fQ_up (fQ_P f1)
    obtain ⟨a1, a2, a3⟩ := en_x hA hm hE (PI_Q hA hP f2) (ST_Q hA hS1) lo hi
    exact ⟨fQ_tr f2 (fQ_P a1), a2, a3⟩
  · rw [if_neg hw]
    obtain ⟨f1, hF1⟩ := exp_n hD hP hS hw
    have hF2 := FA_Q hA hF1 (x := x) (v := v)
    rw [en_k (by rw [hF2.1]; decide)]
    exact ⟨fQ_up (fQ_P f1), fun hc => absurd hc (f1_ne (by decide)), fun _ => hF2⟩
/-- what is left of a CLAUSE's parts -/
def RPq (A : Nat → Nat) (m : Nat) (tk : Nat → Int) (ps : Nat → Nat) (L : List Nat) (g : Nat → Nat → Int) (q : Int × Nat) (c0 k0 : Nat) (r : Option g_V) (h : g_H) : Prop := r = none ∧ ∃ g', h = (L, g') ∧ fQ A g g' ∧ (q.1 = 0 → ST A m tk g' q.2 c0 k0) ∧ (q.1 ≠ 0 → FA A ps g' q.1 q.2)
theorem RPq_tr {g g1 : Nat → Nat → Int} {q : Int × Nat} {c0 k0 : Nat} (h1 : fQ A g g1) (h2 : RPq A m tk ps L g1 q c0 k0 r h) : RPq A m tk ps L g q c0 k0 r h := by
  obtain ⟨e1, g', e2, e3, e4, e5⟩ := h2
  exact ⟨e1, g', e2, fQ_tr h1 e3, e4, e5⟩
theorem rp_end {CE : g_E} (hCE : ∀ y cc as h r h', CE y cc as h r h' → g_ex ax y cc as h r h') {N : Nat} {ρ : Nat → Int} {g : Nat → Nat → Int} (h0 : ρ 0 = (A 0 : Int)) (hf : g (A 0) 0 ≠ 0) (hr : g_run RX3 ax CE cX3_readParts N (2, ρ, [], L, g) r h) : r = none ∧ h = (L, g) := by
  have hx := pt_X3_readParts_2 hCE hr
  rw [h0, Int.toNat_natCast] at hx
  rcases hx with ⟨-, e⟩ | ⟨-, hx⟩
  · exact e
  rcases hx with ⟨c, -⟩ | ⟨-, e⟩
  · exact absurd c hf
  · exact e
theorem rp_s (hA : HE A) (h16 : A 16 = ax.2.2) (hm : m ≤ 300) (hE : tk m = 54) {CE : g_E} (hCE : ∀ y cc as h r h', CE y cc as h r h' → g_ex ax y cc as h r h') {N s c k : Nat} {ρ : Nat → Int} {g : Nat → Nat → Int} (hs : s ≤ 8) (hc : c ≤ 30) (hk : 1 ≤ k ∧ k ≤ 2) (hP : PI A m lw tk vl ps g) (hX : PX A g) {i c0 k0 : Nat} (hS : ST A m tk g i c0 k0) (h0 : ρ 0 = (A 0 : Int)) (h1 : ρ 1 = (c : Int)) (h2 : ρ 2 = (s : Int)) (h3 : ρ 3 = (k : Int)) (hr : g_run RX3 ax CE cX3_readParts N (2, ρ, [], L, g) r h) : (shW s k = -1 → r = none ∧ h = (L, g)) ∧ (shW s k ≠ -1 → ∃ (n' : Nat) (ρ' : Nat → Int) (x : Nat) (v : Int), ρ' 0 = (A 0 : Int) ∧ ρ' 1 = (c : Int) ∧ ρ' 2 = (s : Int) ∧ ρ' 3 = ((k + 1 : Nat) : Int) ∧ g_run RX3 ax CE cX3_readParts n' (2, ρ', [], L, F_X3_expectNumber (A 0 : Int) (shL s k) (shH s k) (g_up (F_X3_expect (A 0 : Int) (shW s k) g) (A 11) x v)) r h) := by
  have hx := pt_X3_readParts_2 hCE hr
  have eA : g_i (g_i (g_i ((s : Int) * 3) + (k : Int)) * 3) = ((3 * (3 * s + k) : Nat) : Int) := by
    rw [gi_of (z := (s : Int) * 3) (by omega) (by omega), gi_of (z := (s : Int) * 3 + (k : Int)) (by omega) (by omega), gi_of (by omega) (by omega)]
    omega
  replace eA : EqG (g_i (g_i (g_i ((s : Int) * 3) + (k : Int)) * 3)) (((3 * (3 * s + k) : Nat) : Int)) := eA
  have eA1 : g_i (((3 * (3 * s + k) : Nat) : Int) + 1) = ((3 * (3 * s + k) + 1 : Nat) : Int) := by
    rw [gi_of (by omega) (by omega)]
    omega
  replace eA1 : EqG (g_i (((3 * (3 * s + k) : Nat) : Int) + 1)) (((3 * (3 * s + k) + 1 : Nat) : Int)) := eA1
  have eA2 : g_i (((3 * (3 * s + k) : Nat) : Int) + 2) = ((3 * (3 * s + k) + 2 : Nat) : Int) := by
    rw [gi_of (by omega) (by omega)]
    omega
  replace eA2 : EqG (g_i (((3 * (3 * s + k) : Nat) : Int) + 2)) (((3 * (3 * s + k) + 2 : Nat) : Int)) := eA2
  have eP : g_i (g_i ((c : Int) * 3) + (k : Int)) = ((c * 3 + k : Nat) : Int) := by
    rw [gi_of (z := (c : Int) * 3) (by omega) (by omega), gi_of (by omega) (by omega)]
    omega
  replace eP : EqG (g_i (g_i ((c : Int) * 3) + (k : Int))) (((c * 3 + k : Nat) : Int)) := eP
  have eK : g_i ((k : Int) + 1) = ((k + 1 : Nat) : Int) := by
    rw [gi_of (by omega) (by omega)]
    omega
  replace eK : EqG (g_i ((k : Int) + 1)) (((k + 1 : Nat) : Int)) := eK
  have w0 : g (A 16) (3 * (3 * s + k)) = shW s k := hX.2 _ (by omega)
  simp only [h0, h1, h2, h3, Int.toNat_natCast, eA.e, eA1.e, eA2.e, eP.e, eK.e, ← h16, w0] at hx
  have hfe : fP A g (F_X3_expect (A 0 : Int) (shW s k) g) := by
    have hD := HE_D hA
    by_cases hw : tk i = shW s k
    · have him : i < m := by
        have := hS.2.2.2.1
        by_cases hq : i = m
        · rw [hq, hE] at hw
          exact absurd hw.symm (shW_54 ⟨s, by omega⟩ ⟨k, by omega⟩)
        · omega
      exact (exp_y hD hm hP hS hw him).1
    · exact (exp_n hD hP hS hw).1
  have hPE := PI_Q hA hP (fQ_P hfe)
  have hXE := PX_Q hA hX (fQ_P hfe)
  generalize F_X3_expect (A 0 : Int) (shW s k) g = E at hx hfe hPE hXE ⊢
  have n16 : A 16 ≠ A 11 := fun e => absurd (hA 16 11 (by decide) (by decide) e) (by decide)
  have w1 : E (A 16) (3 * (3 * s + k) + 1) = shL s k := hXE.2 _ (by omega)
  have w2 : E (A 16) (3 * (3 * s + k) + 2) = shH s k := hXE.2 _ (by omega)
  simp only [hPE.1.2.1, hXE.1.2.1, Int.toNat_natCast, g_up_a n16, w1, w2] at hx
  rcases hx with ⟨c1, -⟩ | ⟨-, hx⟩
  · omega
  rcases hx with ⟨-, hx⟩ | ⟨c1, -⟩
  rotate_left
  · exact absurd hS.1 c1
  rcases hx with ⟨c1, -⟩ | ⟨-, hx⟩
  · omega
  rcases hx with ⟨c1, e⟩ | ⟨c1, n', -, hr'⟩
  · exact ⟨fun _ => e, fun hh => absurd c1 hh⟩
  · exact ⟨fun hh => absurd hh c1, fun _ => ⟨n', _, _, _, by rw [vu, if_neg (by decide), vu, if_neg (by decide)]; exact h0, by rw [vu, if_neg (by decide), vu, if_neg (by decide)]; exact h1, by rw [vu, if_neg (by decide), vu, if_neg (by decide)]; exact h2, by rw [vu, if_pos rfl], hr'⟩⟩
theorem rp_0 (hA : HE A) (h16 : A 16 = ax.2.2) {CE : g_E} (hCE : ∀ y cc as h r h', CE y cc as h r h' → g_ex ax y cc as h r h') {N s c : Nat} {ρ : Nat → Int} {g : Nat → Nat → Int} (hs : s ≤ 8) (hc : c ≤ 30) (hP : PI A m lw tk vl ps g) (hX : PX A g) {i c0 k0 : Nat} (hS : ST A m tk g i c0 k0) (h0 : ρ 0 = (A 0 : Int)) (h1 : ρ 1 = (c : Int)) (h2 : ρ 2 = (s : Int)) (h3 : ρ 3 = 0) (hr : g_run RX3 ax CE cX3_readParts N (2, ρ, [], L, g) r h) : ∃ (n' : Nat) (ρ' : Nat → Int) (x : Nat) (v : Int), ρ' 0 = (A 0 : Int) ∧ ρ' 1 = (c : Int) ∧ ρ' 2 = (s : Int) ∧ ρ' 3 = ((1 : Nat) : Int) ∧ g_run RX3 ax CE cX3_readParts n' (2, ρ', [], L, F_X3_expectNumber (A 0 : Int) (shL s 0) (shH s 0) (g_up g (A 11) x v)) r h := by
  have hx := pt_X3_readParts_2 hCE hr
  have eA : g_i (g_i (g_i ((s : Int) * 3) + 0) * 3) = ((3 * (3 * s + 0) : Nat) : Int) := by
    rw [gi_of (z := (s : Int) * 3) (by omega) (by omega), gi_of (z := (s : Int) * 3 + 0) (by omega) (by omega), gi_of (by omega) (by omega)]
    omega
  replace eA : EqG (g_i (g_i (g_i ((s : Int) * 3) + 0) * 3)) (((3 * (3 * s + 0) : Nat) : Int)) := eA
  have eA1 : g_i (((3 * (3 * s + 0) : Nat) : Int) + 1) = ((3 * (3 * s + 0) + 1 : Nat) : Int) := by
    rw [gi_of (by omega) (by omega)]
    omega
  replace eA1 : EqG (g_i (((3 * (3 * s + 0) : Nat) : Int) + 1)) (((3 * (3 * s + 0) + 1 : Nat) : Int)) := eA1
  have eA2 : g_i (((3 * (3 * s + 0) : Nat) : Int) + 2) = ((3 * (3 * s + 0) + 2 : Nat) : Int) := by
    rw [gi_of (by omega) (by omega)]
    omega
  replace eA2 : EqG (g_i (((3 * (3 * s + 0) : Nat) : Int) + 2)) (((3 * (3 * s + 0) + 2 : Nat) : Int)) := eA2
  have eP : g_i (g_i ((c : Int) * 3) + 0) = ((c * 3 : Nat) : Int) := by
    rw [gi_of (z := (c : Int) * 3) (by omega) (by omega), gi_of (by omega) (by omega)]
    omega
  replace eP : EqG (g_i (g_i ((c : Int) * 3) + 0)) (((c * 3 : Nat) : Int)) := eP
  have eK : g_i (0 + 1) = ((1 : Nat) : Int) := by decide
  replace eK : EqG (g_i (0 + 1)) (((1 : Nat) : Int)) := eK
  have n16 : A 16 ≠ A 11 := fun e => absurd (hA 16 11 (by decide) (by decide) e) (by decide)
  have w1 : g (A 16) (3 * (3 * s + 0) + 1) = shL s 0 := hX.2 _ (by omega)
  have w2 : g (A 16) (3 * (3 * s + 0) + 2) = shH s 0 := hX.2 _ (by omega)
  simp only [h0, h1, h2, h3, Int.toNat_natCast, eA.e, eA1.e, eA2.e, eP.e, eK.e, ← h16, hP.1.2.1, hX.1.2.1, g_up_a n16, w1, w2] at hx
  rcases hx with ⟨c1, -⟩ | ⟨-, hx⟩
  · exact absurd c1 (by decide)
  rcases hx with ⟨-, hx⟩ | ⟨c1, -⟩
  rotate_left
  · exact absurd hS.1 c1
  rcases hx with ⟨-, n', -, hr'⟩ | ⟨c1, -⟩
  · exact ⟨n', _, _, _, by rw [vu, if_neg (by decide), vu, if_neg (by decide)]; exact h0, by rw [vu, if_neg (by decide), vu, if_neg (by decide)]; exact h1, by rw [vu, if_neg (by decide), vu, if_neg (by decide)]; exact h2, by rw [vu, if_pos rfl], hr'⟩
  · exact absurd (Int.le_refl 0) c1
theorem rp_x (hA : HE A) (h16 : A 16 = ax.2.2) (hm : m ≤ 300) (hE : tk m = 54) {s c : Nat} {g : Nat → Nat → Int} (hs : s ≤ 8) (hc : c ≤ 30) (hP : PI A m lw tk vl ps g) (hX : PX A g) {i c0 k0 : Nat} (hS : ST A m tk g i c0 k0) (hx : g_ex ax yX3_readParts cX3_readParts [(0, (A 0 : Int)), (1, (c : Int)), (2, (s : Int))] (L, g) r h) : RPq A m tk ps L g (u_c tk vl s i) c0 k0 r h := by
  obtain ⟨ρ, N, hρ, hr⟩ := g_run_of hx
  have h0 : ρ 0 = (A 0 : Int) := hρ (0, _) (by simp)
  have h1 : ρ 1 = (c : Int) := hρ (1, _) (by simp)
  have h2 : ρ 2 = (s : Int) := hρ (2, _) (by simp)
  have hCE : ∀ y cc as h r h', g_ex ax y cc as h r h' → g_ex ax y cc as h r h' := fun _ _ _ _ _ _ h => h
  obtain ⟨n1, -, hr1⟩ := pt_X3_readParts_0 hCE hr
  obtain ⟨n2, ρ2, x2, v2, a0, a1, a2, a3, hr2⟩ := rp_0 hA h16 hCE hs hc hP hX hS (by rw [vu, if_neg (by decide)]; exact h0) (by rw [vu, if_neg (by decide)]; exact h1) (by rw [vu, if_neg (by decide)]; exact h2) (by rw [vu, if_pos rfl]) hr1
  have f0 : fQ A g (g_up g (A 11) x2 v2) := fQ_up fQ_rf
  obtain ⟨b1, b2, b3⟩ := en_x hA hm hE (PI_Q hA hP f0) (ST_Q hA hS) (shL s 0) (shH s 0)
  have f1 := fQ_tr f0 (fQ_P b1)
  generalize F_X3_expectNumber (A 0 : Int) (shL s 0) (shH s 0) (g_up g (A 11) x2 v2) = g1 at hr2 b1 b2 b3 f1
  unfold u_c
  by_cases q0 : (u_fg tk vl (shL s 0) (shH s 0) i).1 = 0
  rotate_left
  · rw [u_sq_n q0]
    have hF := b3 q0
    obtain ⟨e1, e2⟩ := rp_end hCE a0 (by rw [hF.1]; exact q0) hr2
    exact ⟨e1, g1, e2, f1, fun hh => absurd hh q0, fun _ => hF⟩
  rw [u_sq_0 q0]
  have hS1 := b2 q0
  generalize (u_fg tk vl (shL s 0) (shH s 0) i).2 = j1 at hS1 ⊢
  refine RPq_tr f1 ?_
  have hP1 := PI_Q hA hP f1
  have hX1 := PX_Q hA hX f1
  obtain ⟨p1, p2⟩ := rp_s hA h16 hm hE hCE (k := 1) hs hc (by decide) hP1 hX1 hS1 a0 a1 a2 a3 hr2
  unfold u_c1
  by_cases w1 : shW s 1 = -1
  · rw [if_pos w1]
    obtain ⟨e1, e2⟩ := p1 w1
    exact ⟨e1, g1, e2, fQ_rf, fun _ => hS1, fun hh => absurd rfl hh⟩
  rw [if_neg w1]
  obtain ⟨n3, ρ3, x3, v3, c0', c1', c2', c3', hr3⟩ := p2 w1
  obtain ⟨d1, d2, d3⟩ := ew_x hA hm hE hP1 hS1 (W := shW s 1) (shW_54 ⟨s, by omega⟩ ⟨1, by decide⟩) (shL s 1) (shH s 1) x3 v3
  generalize F_X3_expectNumber (A 0 : Int) (shL s 1) (shH s 1) (g_up (F_X3_expect (A 0 : Int) (shW s 1) g1) (A 11) x3 v3) = g2 at hr3 d1 d2 d3
  by_cases q1 : (u_wd tk vl (shW s 1) (shL s 1) (shH s 1) j1).1 = 0
  rotate_left
  · rw [u_sq_n q1]
    have hF := d3 q1
    obtain ⟨e1, e2⟩ := rp_end hCE c0' (by rw [hF.1]; exact q1) hr3
    exact ⟨e1, g2, e2, d1, fun hh => absurd hh q1, fun _ => hF⟩
  rw [u_sq_0 q1]
  have hS2 := d2 q1
  generalize (u_wd tk vl (shW s 1) (shL s 1) (shH s 1) j1).2 = j2 at hS2 ⊢
  refine RPq_tr d1 ?_
  have hP2 := PI_Q hA hP1 d1
  have hX2 := PX_Q hA hX1 d1
  obtain ⟨p1, p2⟩ := rp_s hA h16 hm hE hCE (k := 2) hs hc (by decide) hP2 hX2 hS2 c0' c1' c2' c3' hr3
  unfold u_c2
  by_cases w2 : shW s 2 = -1
  · rw [if_pos w2]
    obtain ⟨e1, e2⟩ := p1 w2
    exact ⟨e1, g2, e2, fQ_rf, fun _ => hS2, fun hh => absurd rfl hh⟩
  rw [if_neg w2]
  obtain ⟨n4, ρ4, x4, v4, k0', k1', k2', k3', hr4⟩ := p2 w2
  obtain ⟨d4, d5, d6⟩ := ew_x hA hm hE hP2 hS2 (W := shW s 2) (shW_54 ⟨s, by omega⟩ ⟨2, by decide⟩) (shL s 2) (shH s 2) x4 v4
  generalize F_X3_expectNumber (A 0 : Int) (shL s 2) (shH s 2) (g_up (F_X3_expect (A 0 : Int) (shW s 2) g2) (A 11) x4 v4) = g3 at hr4 d4 d5 d6
  have fin : r = none ∧ h = (L, g3) := by
    have hx := pt_X3_readParts_2 hCE hr4
    rw [k3'] at hx
    rcases hx with ⟨-, e⟩ | ⟨cc, -⟩
    · exact e
    · exact absurd (by decide) cc
  exact ⟨fin.1, g3, fin.2, d4, d5, d6⟩
end QP
