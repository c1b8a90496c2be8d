/-! The class's laws and CLAUSES. -/
def WC (A : Nat → Nat) (c j : Nat) : Prop := WR A c j ∨ (c = A 0 ∧ j = 4) ∨ (c = A 5 ∧ j = 0) ∨ ∃ k, 10 ≤ k ∧ k ≤ 15 ∧ c = A k
def fC (A : Nat → Nat) (g g' : Nat → Nat → Int) : Prop := ∀ c j, ¬ WC A c j → g' c j = g c j
theorem uT_mo1 {tk vl : Nat → Int} : ∀ (n i k on : Nat) (q : Int × Nat), uT tk vl n i k on = some q → uT tk vl (n + 1) i k on = some q := by
  intro n
  induction n with
  | zero => intro i k on q h; cases h
  | succ n ih =>
    intro i k on q h
    unfold uT at h ⊢
    by_cases c1 : tk i = 54
    · rw [if_pos c1] at h ⊢; exact h
    rw [if_neg c1] at h ⊢
    by_cases c2 : 13 < tk i
    · rw [if_pos c2] at h ⊢; exact h
    rw [if_neg c2] at h ⊢
    by_cases c3 : tk i < 5 ∧ on.testBit (tk i).toNat = true
    · rw [if_pos c3] at h ⊢; exact h
    rw [if_neg c3] at h ⊢
    by_cases c4 : 24 ≤ k
    · rw [if_pos c4] at h ⊢; exact h
    rw [if_neg c4] at h ⊢
    have hb : ∀ q, u_bd tk vl n (tk i) (i + 1) = some q → u_bd tk vl (n + 1) (tk i) (i + 1) = some q := fun q hq => by
      unfold u_bd at hq ⊢
      split at hq
      · rename_i hc
        rw [if_pos hc]
        exact uP_mo1 _ _ _ _ _ _ hq
      · rename_i hc
        rw [if_neg hc]
        exact hq
    cases hq : u_bd tk vl n (tk i) (i + 1) with
    | none => rw [hq] at h; cases h
    | some q' =>
      rw [hq] at h
      rw [hb _ hq]
      have h' : (if q'.1 = 0 then (if tk q'.2 = 50 then uT tk vl n (q'.2 + 1) (k + 1) (if tk i < 5 then on ||| 2 ^ (tk i).toNat else on) else some (1, q'.2)) else some q') = some q := h
      show (if q'.1 = 0 then (if tk q'.2 = 50 then uT tk vl (n + 1) (q'.2 + 1) (k + 1) (if tk i < 5 then on ||| 2 ^ (tk i).toNat else on) else some (1, q'.2)) else some q') = some q
      by_cases c5 : q'.1 = 0
      · rw [if_pos c5] at h' ⊢
        by_cases c6 : tk q'.2 = 50
        · rw [if_pos c6] at h' ⊢
          exact ih _ _ _ _ h'
        · rw [if_neg c6] at h' ⊢
          exact h'
      · rw [if_neg c5] at h' ⊢
        exact h'
theorem uT_mo {tk vl : Nat → Int} {n n' i k on : Nat} {q : Int × Nat} (h : uT tk vl n i k on = some q) (hm : n ≤ n') : uT tk vl n' i k on = some q := by
  induction n' with
  | zero => rw [Nat.le_zero.mp hm] at h; exact h
  | succ n' ih =>
    by_cases hn : n = n' + 1
    · rw [← hn]; exact h
    · exact uT_mo1 _ _ _ _ _ (ih (by omega))
def UT (tk vl : Nat → Int) (i k on : Nat) (q : Int × Nat) : Prop := ∃ n, uT tk vl n i k on = some q
def UB (tk vl : Nat → Int) (s : Int) (i : Nat) (q : Int × Nat) : Prop := ∃ n, u_bd tk vl n s i = some q
section UTs
variable {tk vl : Nat → Int} {i k on : Nat}
theorem UT_end (h : tk i = 54) : UT tk vl i k on (0, i) := ⟨1, by unfold uT; rw [if_pos h]⟩
theorem UT_1 (h : 13 < tk i) (h54 : tk i ≠ 54) : UT tk vl i k on (1, i) := ⟨1, by unfold uT; rw [if_neg h54, if_pos h]⟩
theorem UT_4 (h : tk i < 5) (hb : on.testBit (tk i).toNat = true) : UT tk vl i k on (4, i) := ⟨1, by unfold uT; rw [if_neg (by omega), if_neg (by omega), if_pos ⟨h, hb⟩]⟩
theorem UT_6 (h : tk i ≤ 13) (hb : ¬ (tk i < 5 ∧ on.testBit (tk i).toNat = true)) (hk : 24 ≤ k) : UT tk vl i k on (6, i) := ⟨1, by unfold uT; rw [if_neg (by omega), if_neg (by omega), if_neg hb, if_pos hk]⟩
theorem UT_b (h : tk i ≤ 13) (hb : ¬ (tk i < 5 ∧ on.testBit (tk i).toNat = true)) (hk : k < 24) {q Q : Int × Nat} (hq : UB tk vl (tk i) (i + 1) q) (h1 : q.1 ≠ 0 → Q = q) (h2 : q.1 = 0 → tk q.2 ≠ 50 → Q = (1, q.2)) (h3 : q.1 = 0 → tk q.2 = 50 → UT tk vl (q.2 + 1) (k + 1) (if tk i < 5 then on ||| 2 ^ (tk i).toNat else on) Q) : UT tk vl i k on Q := by
  obtain ⟨n1, e1⟩ := hq
  have mo : ∀ n2, n1 ≤ n2 → u_bd tk vl n2 (tk i) (i + 1) = some q := fun n2 hn => by
    unfold u_bd at e1 ⊢
    split at e1
    · rename_i hc
      rw [if_pos hc]
      exact uP_mo e1 hn
    · rename_i hc
      rw [if_neg hc]
      exact e1
  have st : ∀ n2, n1 ≤ n2 → (if q.1 = 0 then (if tk q.2 = 50 then uT tk vl n2 (q.2 + 1) (k + 1) (if tk i < 5 then on ||| 2 ^ (tk i).toNat else on) else some (1, q.2)) else some q) = some Q → UT tk vl i k on Q := fun n2 hn hh => ⟨n2 + 1, by
    unfold uT
    rw [if_neg (by omega), if_neg (by omega), if_neg hb, if_neg (by omega), mo n2 hn]
    exact hh⟩
  by_cases c1 : q.1 = 0
  · by_cases c2 : tk q.2 = 50
    · obtain ⟨n3, e3⟩ := h3 c1 c2
      exact st (n1 + n3) (by omega) (by rw [if_pos c1, if_pos c2]; exact uT_mo e3 (by omega))
    · exact st n1 (Nat.le_refl _) (by rw [if_pos c1, if_neg c2, h2 c1 c2])
  · exact st n1 (Nat.le_refl _) (by rw [if_neg c1, h1 c1])
theorem UT_un {q q' : Int × Nat} (h1 : UT tk vl i k on q) (h2 : UT tk vl i k on q') : q = q' := by
  obtain ⟨f1, e1⟩ := h1
  obtain ⟨f2, e2⟩ := h2
  exact Option.some.inj ((uT_mo e1 (Nat.le_add_right f1 f2)).symm.trans (uT_mo e2 (Nat.le_add_left f2 f1)))
end UTs
section CL
variable {ax : zAx} {L : List Nat} {A : Nat → Nat} {m : Nat} {lw : Int} {tk vl : Nat → Int} {ps : Nat → Nat} {r : Option g_V} {h : g_H}
theorem fC_rf {g : Nat → Nat → Int} : fC A g g := fun _ _ _ => rfl
theorem fC_tr {g g1 g2 : Nat → Nat → Int} (h1 : fC A g g1) (h2 : fC A g1 g2) : fC A g g2 := fun c j h => (h2 c j h).trans (h1 c j h)
theorem fC_P {g g' : Nat → Nat → Int} (h : fP A g g') : fC A g g' := fun c j hc => h c j (fun hh => hc (Or.inl hh))
theorem fC_Q {g g' : Nat → Nat → Int} (h : fQ A g g') : fC A g g' := fun c j hc => h c j (fun hh => hc (by
  rcases hh with hh | hh
  · exact Or.inl hh
  · exact Or.inr (Or.inr (Or.inr ⟨11, by decide, by decide, hh⟩))))
theorem fC_up {a i : Nat} {v : Int} {g g1 : Nat → Nat → Int} (h : fC A g g1) (hw : WC A a i) : fC A g (g_up g1 a i v) := fun c j hc => by
  unfold g_up
  rw [if_neg (fun e => hc (by rw [e.2, e.1]; exact hw))]
  exact h c j hc
theorem nC0 (hA : HE A) {j : Nat} (hj : j = 2 ∨ j = 3) : ¬ WC A (A 0) j := by
  rintro (h | ⟨-, h⟩ | ⟨h, -⟩ | ⟨k, h1, h2, h3⟩)
  · exact nW0 (HE_D hA) (by omega) h
  · omega
  · exact absurd (hA 0 5 (by decide) (by decide) h) (by decide)
  · have := hA 0 k (by decide) (by omega) h3
    omega
theorem nC1 (hA : HE A) {i j : Nat} (hi : 1 ≤ i ∧ i ≤ 4) : ¬ WC A (A i) j := by
  rintro (h | ⟨h, -⟩ | ⟨h, -⟩ | ⟨k, h1, h2, h3⟩)
  · exact nW1 (HE_D hA) hi h
  · have := hA i 0 (by omega) (by decide) h
    omega
  · have := hA i 5 (by omega) (by decide) h
    omega
  · have := hA i k (by omega) (by omega) h3
    omega
theorem nC5 (hA : HE A) {j : Nat} (hj : j ≠ 0 ∧ j ≠ 5 ∧ j ≠ 8) : ¬ WC A (A 5) j := by
  rintro (h | ⟨h, -⟩ | ⟨-, h⟩ | ⟨k, h1, h2, h3⟩)
  · exact nW5 (HE_D hA) ⟨hj.2.1, hj.2.2⟩ h
  · exact absurd (hA 5 0 (by decide) (by decide) h) (by decide)
  · omega
  · have := hA 5 k (by decide) (by omega) h3
    omega
theorem nC16 (hA : HE A) {j : Nat} : ¬ WC A (A 16) j := by
  rintro (h | ⟨h, -⟩ | ⟨h, -⟩ | ⟨k, h1, h2, h3⟩)
  · exact nWx hA (by decide) (by decide) h
  · exact absurd (hA 16 0 (by decide) (by decide) h) (by decide)
  · exact absurd (hA 16 5 (by decide) (by decide) h) (by decide)
  · have := hA 16 k (by decide) (by omega) h3
    omega
theorem PI_C (hA : HE A) {g g' : Nat → Nat → Int} {lw' : Int} (h : PI A m lw tk vl ps g) (hf : fC A g g') (h4 : g' (A 0) 4 = lw') : PI A m lw' tk vl ps g' := by
  obtain ⟨⟨a1, a2, a3⟩, ⟨b1, b2, b3, b4⟩, ⟨c1, c2, c3, c4⟩, d⟩ := h
  have k1 : ∀ i j, (1 ≤ i ∧ i ≤ 4) → g' (A i) j = g (A i) j := fun i j hi => hf _ _ (nC1 hA hi)
  have k5 : ∀ j, (j ≠ 0 ∧ j ≠ 5 ∧ j ≠ 8) → g' (A 5) j = g (A 5) j := fun j hj => hf _ _ (nC5 hA hj)
  exact ⟨⟨(hf _ _ (nC0 hA (by decide))).trans a1, (hf _ _ (nC0 hA (by decide))).trans a2, h4⟩, ⟨(k1 _ _ (by decide)).trans b1, (k1 _ _ (by decide)).trans b2, (k1 _ _ (by decide)).trans b3, (k1 _ _ (by decide)).trans b4⟩, ⟨(k5 _ (by decide)).trans c1, (k5 _ (by decide)).trans c2, (k5 _ (by decide)).trans c3, (k5 _ (by decide)).trans c4⟩, fun j hj => ⟨(k1 _ _ (by decide)).trans (d j hj).1, (k1 _ _ (by decide)).trans (d j hj).2.1, (k1 _ _ (by decide)).trans (d j hj).2.2⟩⟩
theorem PX_C (hA : HE A) {g g' : Nat → Nat → Int} (h : PX A g) (hf : fC A g g') : PX A g' := by
  obtain ⟨⟨a1, a2, a3, a4, a5, a6⟩, b⟩ := h
  have k5 : ∀ j, (j ≠ 0 ∧ j ≠ 5 ∧ j ≠ 8) → g' (A 5) j = g (A 5) j := fun j hj => hf _ _ (nC5 hA hj)
  exact ⟨⟨(k5 _ (by decide)).trans a1, (k5 _ (by decide)).trans a2, (k5 _ (by decide)).trans a3, (k5 _ (by decide)).trans a4, (k5 _ (by decide)).trans a5, (k5 _ (by decide)).trans a6⟩, fun j hj => (hf _ _ (nC16 hA)).trans (b j hj)⟩
/-- which laws are told -/
def LW (A : Nat → Nat) (on : Nat) (g : Nat → Nat → Int) : Prop := ∀ s, s < 5 → (on.testBit s = true ↔ g (A 12) s < g (A 13) s)
/-- a law -/
theorem rl_x (hA : HE A) (hm : m ≤ 300) (hE : tk m = 54) (hv : ∀ j, tk j = 53 → 0 ≤ vl j) {s : Nat} (hs : s < 5) {g : Nat → Nat → Int} (hP : PI A m lw tk vl ps g) (hX : PX A g) {i c0 k0 : Nat} (hS : ST A m tk g i c0 k0) (hc : c0 ≤ i) (hk : k0 ≤ i) (hx : g_ex ax yX3_readLaw cX3_readLaw [(0, (A 0 : Int)), (1, (s : Int))] (L, g) r h) : r = none ∧ ∃ g', h = (L, g') ∧ fC A g g' ∧ ∃ q, UP tk vl (decide ((s : Int) = 4)) 3 0 (!decide ((s : Int) = 3)) i q ∧ (q.1 = 0 → ∃ c1 k1, ST A m tk g' q.2 c1 k1 ∧ c1 ≤ q.2 ∧ k1 ≤ q.2 ∧ i < q.2 ∧ g' (A 12) s < g' (A 13) s ∧ ∀ s', s' ≠ s → g' (A 12) s' = g (A 12) s' ∧ g' (A 13) s' = g (A 13) s') ∧ (q.1 ≠ 0 → FA A ps g' q.1 q.2) := by
  obtain ⟨ρ, N, hρ, hr⟩ := g_run_of hx
  have h0 : ρ 0 = (A 0 : Int) := hρ (0, _) (by simp)
  have h1 : ρ 1 = (s : Int) := hρ (1, _) (by simp)
  have hD := HE_D hA
  have ne : ∀ i j, i < 17 → j < 17 → i ≠ j → A i ≠ A j := fun i j hi hj hn he => hn (hA i j hi hj he)
  have hx := pt_X3_readLaw_0 (fun _ _ _ _ _ _ h => h) hr
  have k03 : ∀ (g : Nat → Nat → Int) (i : Nat) (v : Int) (j : Nat), g_up g (A 12) i v (A 0) j = g (A 0) j := fun _ _ _ _ => g_up_a (ne 0 12 (by decide) (by decide) (by decide))
  have k53 : ∀ (g : Nat → Nat → Int) (i : Nat) (v : Int) (j : Nat), g_up g (A 12) i v (A 5) j = g (A 5) j := fun _ _ _ _ => g_up_a (ne 5 12 (by decide) (by decide) (by decide))
  have k50 : ∀ (g : Nat → Nat → Int) (i : Nat) (v : Int) (j : Nat), g_up g (A 0) i v (A 5) j = g (A 5) j := fun _ _ _ _ => g_up_a (ne 5 0 (by decide) (by decide) (by decide))
  have kk : ∀ (g : Nat → Nat → Int) (j : Nat) (v : Int) (k : Nat), g_up g (A 0) j v (A 0) k = if k = j then v else g (A 0) k := fun _ _ _ _ => up_q ..
  simp (decide := true) only [h0, h1, Int.toNat_natCast, hP.1.2.1, hX.1.2.2.1, hX.1.2.2.2.2.1, k03, k53, k50, kk, hS.2.2.2.2.1, hS.2.2.2.2.2.1, if_false] at hx
  generalize hG : g_up (g_up (g_up g (A 0) 4 (s : Int)) (A 12) s (c0 : Int)) (A 14) s (k0 : Int) = G at hx
  have fG : fC A g G := by
    rw [← hG]
    exact fC_up (fC_up (fC_up fC_rf (Or.inr (Or.inl ⟨rfl, rfl⟩))) (Or.inr (Or.inr (Or.inr ⟨12, by decide, by decide, rfl⟩)))) (Or.inr (Or.inr (Or.inr ⟨14, by decide, by decide, rfl⟩)))
  have G0 : ∀ j, j ≠ 4 → G (A 0) j = g (A 0) j := fun j hj => by rw [← hG, g_up_a (ne 0 14 (by decide) (by decide) (by decide)), k03, g_up_j hj]
  have G04 : G (A 0) 4 = (s : Int) := by rw [← hG, g_up_a (ne 0 14 (by decide) (by decide) (by decide)), k03, g_up_s]
  have G5 : ∀ j, G (A 5) j = g (A 5) j := fun j => by rw [← hG, g_up_a (ne 5 14 (by decide) (by decide) (by decide)), k53, k50]
  have G12 : G (A 12) s = (c0 : Int) := by rw [← hG, g_up_a (ne 12 14 (by decide) (by decide) (by decide)), g_up_s]
  have G12n : ∀ s', s' ≠ s → G (A 12) s' = g (A 12) s' := fun s' hn => by rw [← hG, g_up_a (ne 12 14 (by decide) (by decide) (by decide)), g_up_j hn, g_up_a (ne 12 0 (by decide) (by decide) (by decide))]
  have G13 : ∀ s', G (A 13) s' = g (A 13) s' := fun s' => by rw [← hG, g_up_a (ne 13 14 (by decide) (by decide) (by decide)), g_up_a (ne 13 12 (by decide) (by decide) (by decide)), g_up_a (ne 13 0 (by decide) (by decide) (by decide))]
  have hPG := PI_C hA hP fG G04
  have hXG := PX_C hA hX fG
  have hSG : ST A m tk G i c0 k0 := ⟨(G0 0 (by decide)).trans hS.1, (G0 5 (by decide)).trans hS.2.1, (G0 6 (by decide)).trans hS.2.2.1, hS.2.2.2.1, (G5 5).trans hS.2.2.2.2.1, (G5 8).trans hS.2.2.2.2.2.1, (G0 1 (by decide)).trans hS.2.2.2.2.2.2⟩
  have fin : ∀ (n' : Nat) (own : Bool) (r1 : Option g_V) (h1' : g_H), own = (!decide ((s : Int) = 3)) → g_ex ax yX3_readSum cX3_readSum [(0, (A 0 : Int)), (1, ((0 : Nat) : Int)), (2, if own = true then 1 else 0)] (L, G) r1 h1' → g_run RX3 ax (g_ex ax) cX3_readLaw n' (52, ρ, g_push r1 [], h1') r h → r = none ∧ ∃ g', h = (L, g') ∧ fC A g g' ∧ ∃ q, UP tk vl (decide ((s : Int) = 4)) 3 0 (!decide ((s : Int) = 3)) i q ∧ (q.1 = 0 → ∃ c1 k1, ST A m tk g' q.2 c1 k1 ∧ c1 ≤ q.2 ∧ k1 ≤ q.2 ∧ i < q.2 ∧ g' (A 12) s < g' (A 13) s ∧ ∀ s', s' ≠ s → g' (A 12) s' = g (A 12) s' ∧ g' (A 13) s' = g (A 13) s') ∧ (q.1 ≠ 0 → FA A ps g' q.1 q.2) := by
    intro n' own r1 h1' ho hx1 hr1
    obtain ⟨e1, g1, e2, f1, c, j, hu, hy, hn⟩ := (ps_all hD hm hE hv (sh := decide ((s : Int) = 4)) rfl hx1 L G 3 0 own rfl hPG ⟨rfl, rfl, rfl⟩ (by decide)).2 i c0 k0 hSG hc hk (fun hh => absurd hh (by decide))
    subst e1
    subst e2
    obtain ⟨b1, b2⟩ := pt_X3_readLaw_52 (fun _ _ _ _ _ _ h => h) hr1
    have hf1 := fC_P f1
    have hP1 := PI_mo hD hPG f1
    have hX1 := PX_C hA hXG hf1
    have kx03 : ∀ (g : Nat → Nat → Int) (i : Nat) (v : Int) (j : Nat), g_up g (A 13) i v (A 0) j = g (A 0) j := fun _ _ _ _ => g_up_a (ne 0 13 (by decide) (by decide) (by decide))
    have kx53 : ∀ (g : Nat → Nat → Int) (i : Nat) (v : Int) (j : Nat), g_up g (A 13) i v (A 5) j = g (A 5) j := fun _ _ _ _ => g_up_a (ne 5 13 (by decide) (by decide) (by decide))
    simp only [h0, h1, Int.toNat_natCast, hP1.1.2.1, hX1.1.2.2.2.1, hX1.1.2.2.2.2.2, kx03, kx53] at b2
    have fH : ∀ v w, fC A g1 (g_up (g_up g1 (A 13) s v) (A 15) s w) := fun v w => fC_up (fC_up fC_rf (Or.inr (Or.inr (Or.inr ⟨13, by decide, by decide, rfl⟩)))) (Or.inr (Or.inr (Or.inr ⟨15, by decide, by decide, rfl⟩)))
    have H0 : ∀ v w j, g_up (g_up g1 (A 13) s v) (A 15) s w (A 0) j = g1 (A 0) j := fun v w j => by rw [g_up_a (ne 0 15 (by decide) (by decide) (by decide)), kx03]
    have H5 : ∀ v w j, g_up (g_up g1 (A 13) s v) (A 15) s w (A 5) j = g1 (A 5) j := fun v w j => by rw [g_up_a (ne 5 15 (by decide) (by decide) (by decide)), kx53]
    have P12 : ∀ j, g1 (A 12) j = G (A 12) j := fun j => f1 _ _ (nWx hA (by decide) (by decide))
    have P13 : ∀ j, g1 (A 13) j = G (A 13) j := fun j => f1 _ _ (nWx hA (by decide) (by decide))
    refine ⟨b1, _, b2, fC_tr fG (fC_tr hf1 (fH _ _)), (c, j), by rw [← ho]; exact hu, fun hh => ?_, fun hh => ?_⟩
    · obtain ⟨a1, c1, k1, a2, a3, a4, a5⟩ := hy hh
      refine ⟨c1, k1, ⟨(H0 _ _ _).trans a2.1, (H0 _ _ _).trans a2.2.1, (H0 _ _ _).trans a2.2.2.1, a2.2.2.2.1, (H5 _ _ _).trans a2.2.2.2.2.1, (H5 _ _ _).trans a2.2.2.2.2.2.1, (H0 _ _ _).trans a2.2.2.2.2.2.2⟩, ?_, ?_, ?_, ?_, fun s' hn => ⟨?_, ?_⟩⟩
      · show c1 ≤ j
        omega
      · show k1 ≤ j
        omega
      · show i < j
        omega
      · rw [g_up_a (ne 12 15 (by decide) (by decide) (by decide)), g_up_a (ne 12 13 (by decide) (by decide) (by decide)), P12, G12, g_up_a (ne 13 15 (by decide) (by decide) (by decide)), g_up_s, a2.2.2.2.2.1]
        omega
      · rw [g_up_a (ne 12 15 (by decide) (by decide) (by decide)), g_up_a (ne 12 13 (by decide) (by decide) (by decide)), P12, G12n s' hn]
      · rw [g_up_a (ne 13 15 (by decide) (by decide) (by decide)), g_up_j hn, P13, G13]
    · have := hn hh
      exact ⟨(H0 _ _ _).trans this.1, (H0 _ _ _).trans this.2⟩
  rcases hx with ⟨c, n', r1, h1', -, hx1, hr1⟩ | ⟨c, n', r1, h1', -, hx1, hr1⟩
  · exact fin n' false r1 h1' (by rw [decide_eq_true c]; rfl) hx1 hr1
  · exact fin n' true r1 h1' (by rw [decide_eq_false c]; rfl) hx1 hr1
/-- at a CLAUSE -/
def CS (A : Nat → Nat) (m : Nat) (tk : Nat → Int) (on : Nat) (g : Nat → Nat → Int) (i : Nat) : Prop := (∃ c0 k0, ST A m tk g i c0 k0 ∧ c0 ≤ i ∧ k0 ≤ i) ∧ LW A on g
theorem on_bit : ∀ (o : Fin 32) (s s' : Fin 5), ((o : Nat) ||| 2 ^ (s : Nat)).testBit (s' : Nat) = ((o : Nat).testBit (s' : Nat) || decide ((s' : Nat) = (s : Nat))) := by decide +kernel
/-- a CLAUSE -/
theorem rc_x (hA : HE A) (h16 : A 16 = ax.2.2) (hm : m ≤ 300) (hE : tk m = 54) (hv : ∀ j, tk j = 53 → 0 ≤ vl j) (h0k : ∀ j, 0 ≤ tk j) {k on i : Nat} {g : Nat → Nat → Int} (hk24 : k ≤ 24) (hon : on < 32) (hP : PI A m lw tk vl ps g) (hX : PX A g) (hC : CS A m tk on g i) (h54 : tk i ≠ 54) (hx : g_ex ax yX3_readClause cX3_readClause [(0, (A 0 : Int)), (1, (k : Int))] (L, g) r h) : r = none ∧ ∃ g', h = (L, g') ∧ fC A g g' ∧ ((∃ q, q.1 ≠ 0 ∧ UT tk vl i k on q ∧ FA A ps g' q.1 q.2) ∨ (∃ j on', k < 24 ∧ on' < 32 ∧ CS A m tk on' g' j ∧ ∀ Q, UT tk vl j (k + 1) on' Q → UT tk vl i k on Q)) := by
  obtain ⟨ρ, N, hρ, hr⟩ := g_run_of hx
  have h0 : ρ 0 = (A 0 : Int) := hρ (0, _) (by simp)
  have h1 : ρ 1 = (k : Int) := hρ (1, _) (by simp)
  have hD := HE_D hA
  have ne : ∀ i j, i < 17 → j < 17 → i ≠ j → A i ≠ A j := fun i j hi hj hn he => hn (hA i j hi hj he)
  obtain ⟨⟨c0, k0, hS, hc, hk⟩, hL⟩ := hC
  have him : i < m := by
    have := hS.2.2.2.1
    by_cases hq : i = m
    · rw [hq] at h54
      exact absurd hE h54
    · omega
  have hti := h0k i
  have hx := pt_X3_readClause_0 (fun _ _ _ _ _ _ h => h) hr
  have eK : g_i ((k : Int) + 1) = ((k + 1 : Nat) : Int) := by
    rw [gi_of (by omega) (by omega)]
    omega
  replace eK : EqG (g_i ((k : Int) + 1)) (((k + 1 : Nat) : Int)) := eK
  have k03 : ∀ (g : Nat → Nat → Int) (i : Nat) (v : Int) (j : Nat), g_up g (A 10) i v (A 0) j = g (A 0) j := fun _ _ _ _ => g_up_a (ne 0 10 (by decide) (by decide) (by decide))
  simp only [h0, h1, Int.toNat_natCast, hP.1.2.1, hX.1.1, hS.2.2.1, eK.e, k03] at hx
  generalize hG : g_up (g_up g (A 10) k (tk i)) (A 5) 0 ((k + 1 : Nat) : Int) = G at hx
  have fG : fC A g G := by
    rw [← hG]
    exact fC_up (fC_up fC_rf (Or.inr (Or.inr (Or.inr ⟨10, by decide, by decide, rfl⟩)))) (Or.inr (Or.inr (Or.inl ⟨rfl, rfl⟩)))
  have G0 : ∀ j, G (A 0) j = g (A 0) j := fun j => by rw [← hG, g_up_a (ne 0 5 (by decide) (by decide) (by decide)), k03]
  have G5 : ∀ j, j ≠ 0 → G (A 5) j = g (A 5) j := fun j hj => by rw [← hG, g_up_j hj, g_up_a (ne 5 10 (by decide) (by decide) (by decide))]
  have Gx : ∀ k' j, 12 ≤ k' → k' ≤ 13 → G (A k') j = g (A k') j := fun k' j h1 h2 => by rw [← hG, g_up_a (ne k' 5 (by omega) (by decide) (by omega)), g_up_a (ne k' 10 (by omega) (by decide) (by omega))]
  have hPG := PI_C hA hP fG ((G0 4).trans hP.1.2.2)
  have hXG := PX_C hA hX fG
  have hSG : ST A m tk G i c0 k0 := ⟨(G0 0).trans hS.1, (G0 5).trans hS.2.1, (G0 6).trans hS.2.2.1, hS.2.2.2.1, (G5 5 (by decide)).trans hS.2.2.2.2.1, (G5 8 (by decide)).trans hS.2.2.2.2.2.1, (G0 1).trans hS.2.2.2.2.2.2⟩
  obtain ⟨fa, hSA⟩ := adv_ST hD hm hPG hSG him
  have hPA := PI_mo hD hPG fa
  have fGA := fC_tr fG (fC_P fa)
  have hXA := PX_C hA hX fGA
  have LA : ∀ k' j, 12 ≤ k' → k' ≤ 13 → F_X3_advance (A 0 : Int) G (A k') j = g (A k') j := fun k' j h1 h2 => (fa _ _ (nWx hA (by omega) (by omega))).trans (Gx k' j h1 h2)
  generalize F_X3_advance (A 0 : Int) G = G1 at hx hSA hPA fGA hXA LA
  -- a FAULT at the first TOKEN
  have bad : ∀ why : Int, why ≠ 0 → UT tk vl i k on (why, i) → r = none → h = (L, F_X3_fail (A 0 : Int) why g) → r = none ∧ ∃ g', h = (L, g') ∧ fC A g g' ∧ ((∃ q, q.1 ≠ 0 ∧ UT tk vl i k on q ∧ FA A ps g' q.1 q.2) ∨ (∃ j on', k < 24 ∧ on' < 32 ∧ CS A m tk on' g' j ∧ ∀ Q, UT tk vl j (k + 1) on' Q → UT tk vl i k on Q)) := fun why hw hu e1 e2 => by
    obtain ⟨f1, f2⟩ := fail_FA hD hP hS (why := why)
    exact ⟨e1, _, e2, fC_P f1, Or.inl ⟨(why, i), hw, hu, f2⟩⟩
  -- the STOP behind
  have stop : ∀ (g2 : Nat → Nat → Int) (q : Int × Nat) (on' : Nat), k < 24 → on' < 32 → tk i ≤ 13 → ¬ (tk i < 5 ∧ on.testBit (tk i).toNat = true) → on' = (if tk i < 5 then on ||| 2 ^ (tk i).toNat else on) → fC A g g2 → UB tk vl (tk i) (i + 1) q → (q.1 = 0 → ∃ c1 k1, ST A m tk g2 q.2 c1 k1 ∧ c1 ≤ q.2 ∧ k1 ≤ q.2 ∧ LW A on' g2) → (q.1 ≠ 0 → FA A ps g2 q.1 q.2) → PI A m (g2 (A 0) 4) tk vl ps g2 → r = none → h = (L, F_X3_expect (A 0 : Int) 50 g2) → r = none ∧ ∃ g', h = (L, g') ∧ fC A g g' ∧ ((∃ q, q.1 ≠ 0 ∧ UT tk vl i k on q ∧ FA A ps g' q.1 q.2) ∨ (∃ j on', k < 24 ∧ on' < 32 ∧ CS A m tk on' g' j ∧ ∀ Q, UT tk vl j (k + 1) on' Q → UT tk vl i k on Q)) := by
    intro g2 q on' hk' hon' h13 hb ho f2 hU hy hn hP2 e1 e2
    by_cases hq : q.1 = 0
    · obtain ⟨c1, k1, s1, s2, s3, s4⟩ := hy hq
      by_cases h50 : tk q.2 = 50
      · have hqm : q.2 < m := by
          have := s1.2.2.2.1
          by_cases hh : q.2 = m
          · rw [hh, hE] at h50
            cases h50
          · omega
        obtain ⟨f3, s5⟩ := exp_y hD hm hP2 s1 h50 hqm
        refine ⟨e1, _, e2, fC_tr f2 (fC_P f3), Or.inr ⟨q.2 + 1, on', hk', hon', ⟨⟨c1, k1, s5, by omega, by omega⟩, fun s hs => ?_⟩, fun Q hQ => UT_b h13 hb hk' hU (fun hh => absurd hq hh) (fun _ hh => absurd h50 hh) (fun _ _ => by rw [← ho]; exact hQ)⟩⟩
        rw [f3 _ _ (nWx hA (by decide) (by decide)), f3 _ _ (nWx hA (by decide) (by decide))]
        exact s4 s hs
      · obtain ⟨f3, s5⟩ := exp_n hD hP2 s1 h50
        exact ⟨e1, _, e2, fC_tr f2 (fC_P f3), Or.inl ⟨(1, q.2), f1_ne (by decide), UT_b h13 hb hk' hU (fun hh => absurd hq hh) (fun _ _ => rfl) (fun _ hh => absurd hh h50), s5⟩⟩
    · have hF := hn hq
      rw [exp_k (by rw [hF.1]; exact hq)] at e2
      exact ⟨e1, g2, e2, f2, Or.inl ⟨q, hq, UT_b h13 hb hk' hU (fun _ => rfl) (fun hh => absurd hh hq) (fun hh => absurd hh hq), hF⟩⟩
  rcases hx with ⟨h13, hx⟩ | ⟨h13, e1, e2⟩
  rotate_left
  · exact bad 1 (by decide) (UT_1 (by omega) h54) e1 e2
  rcases hx with ⟨h5, hx⟩ | ⟨h5, hx⟩
  · have hb : ¬ (tk i < 5 ∧ on.testBit (tk i).toNat = true) := fun hh => by omega
    rcases hx with ⟨c, n', r1, h1', -, hx1, hr1⟩ | ⟨c, e1, e2⟩
    · obtain ⟨s, hs⟩ := Int.eq_ofNat_of_zero_le (show 0 ≤ tk i - 5 by omega)
      have hs8 : s ≤ 8 := by omega
      have es : g_i (tk i - 5) = (s : Int) := by
        rw [gi_of (by omega) (by omega)]
        exact hs
      replace es : EqG (g_i (tk i - 5)) ((s : Int)) := es
      rw [es.e] at hx1
      obtain ⟨a1, g2, a2, a3, a4, a5⟩ := rp_x hA h16 hm hE hs8 (by omega) hPA hXA hSA hx1
      subst a1
      subst a2
      obtain ⟨b1, b2⟩ := pt_X3_readClause_103 (fun _ _ _ _ _ _ h => h) hr1
      rw [vu, if_neg (by decide), h0] at b2
      have hP2 := PI_Q hA hPA a3
      have euc := u_c_pt (tk := tk) (vl := vl) (i := i + 1) s hs8
      refine stop g2 _ on (by omega) hon h13 hb (by rw [if_neg (by omega)]) (fC_tr fGA (fC_Q a3)) ⟨0, by unfold u_bd; rw [if_neg (by omega), show tk i = (s : Int) + 5 by omega, ← euc]⟩ (fun hh => ?_) a5 (by rw [hP2.1.2.2]; exact hP2) b1 b2
      have hS2 := a4 hh
      have ge := ucge (tk := tk) (vl := vl) s (i + 1) hh
      refine ⟨c0, k0, hS2, by omega, by omega, fun s' hs' => ?_⟩
      rw [a3 _ _ (nQ hA (by decide) (by decide) (nWx hA (by decide) (by decide))), a3 _ _ (nQ hA (by decide) (by decide) (nWx hA (by decide) (by decide))), LA 12 _ (by decide) (by decide), LA 13 _ (by decide) (by decide)]
      exact hL s' hs'
    · exact bad 6 (by decide) (UT_6 h13 hb (by omega)) e1 e2
  · obtain ⟨s, hs⟩ := Int.eq_ofNat_of_zero_le hti
    have hs5 : s < 5 := by omega
    have hHL : F_X7_hasLaw (A 5 : Int) (tk i) g = if on.testBit s = true then 1 else 0 := by
      unfold F_X7_hasLaw
      rw [Int.toNat_natCast, hs, Int.toNat_natCast, hX.1.2.2.2.1, hX.1.2.2.1, Int.toNat_natCast, Int.toNat_natCast]
      have := hL s hs5
      by_cases hb : on.testBit s = true
      · rw [if_pos hb, if_neg (by have := this.mp hb; omega)]
      · rw [if_neg hb, if_pos (by have h7 : ¬ g (A 12) s < g (A 13) s := fun hh => hb (this.mpr hh); omega)]
    rw [hHL] at hx
    have hts : (tk i).toNat = s := by omega
    by_cases hb : on.testBit s = true
    · rw [if_pos hb] at hx
      rcases hx with ⟨c, -⟩ | ⟨-, e1, e2⟩
      · cases c
      · exact bad 4 (by decide) (UT_4 (by omega) (by rw [hts]; exact hb)) e1 e2
    rw [if_neg hb] at hx
    have hb' : ¬ (tk i < 5 ∧ on.testBit (tk i).toNat = true) := fun hh => by
      rw [hts] at hh
      exact hb hh.2
    rcases hx with ⟨-, hx⟩ | ⟨c, -⟩
    rotate_left
    · exact absurd rfl c
    rcases hx with ⟨c, n', r1, h1', -, hx1, hr1⟩ | ⟨c, e1, e2⟩
    · rw [hs] at hx1
      obtain ⟨a1, g2, a2, a3, q, a4, a5, a6⟩ := rl_x hA hm hE hv hs5 hPA hXA hSA (by omega) (by omega) hx1
      subst a1
      subst a2
      obtain ⟨b1, b2⟩ := pt_X3_readClause_92 (fun _ _ _ _ _ _ h => h) hr1
      rw [vu, if_neg (by decide), h0] at b2
      have hP2 := PI_C hA hPA a3 rfl
      obtain ⟨f, ef⟩ := a4
      have ho5 : (on ||| 2 ^ s) < 32 := (on_or ⟨on, hon⟩ ⟨s, hs5⟩).2
      refine stop g2 q (on ||| 2 ^ s) (by omega) ho5 h13 hb' (by rw [if_pos (by omega), hts]) (fC_tr fGA a3) ⟨f, by unfold u_bd; rw [if_pos (by omega), hs]; exact ef⟩ (fun hh => ?_) a6 hP2 b1 b2
      obtain ⟨c1, k1, s1, s2, s3, s4, s5, s6⟩ := a5 hh
      refine ⟨c1, k1, s1, s2, s3, fun s' hs' => ?_⟩
      have hbit : (on ||| 2 ^ s).testBit s' = (on.testBit s' || decide (s' = s)) := on_bit ⟨on, hon⟩ ⟨s, hs5⟩ ⟨s', hs'⟩
      rw [hbit]
      by_cases he : s' = s
      · subst he
        simp only [decide_true, Bool.or_true, true_iff]
        exact s5
      · obtain ⟨t1, t2⟩ := s6 s' he
        rw [t1, t2, LA 12 _ (by decide) (by decide), LA 13 _ (by decide) (by decide), decide_eq_false he, Bool.or_false]
        exact hL s' hs'
    · exact bad 6 (by decide) (UT_6 h13 hb' (by omega)) e1 e2
end CL
