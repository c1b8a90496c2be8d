/-! The reference's pile. -/
def u_cnt : List Int → Nat
  | [] => 0
  | x :: xs => (if 41 ≤ x then 1 else 0) + u_cnt xs
def u_oc : List Int → Nat
  | [] => 0
  | x :: xs => (if x = 2 ∨ x = 20 ∨ 40 ≤ x then 1 else 0) + u_oc xs
theorem oc_le : ∀ p : List Int, u_oc p ≤ p.length := by
  intro p
  induction p with
  | nil => exact Nat.le_refl 0
  | cons x p ih =>
    show (if x = 2 ∨ x = 20 ∨ 40 ≤ x then 1 else 0) + u_oc p ≤ p.length + 1
    split <;> omega
theorem cnt_oc : ∀ p : List Int, u_cnt p ≤ u_oc p := by
  intro p
  induction p with
  | nil => exact Nat.le_refl 0
  | cons x p ih =>
    show (if 41 ≤ x then 1 else 0) + u_cnt p ≤ (if x = 2 ∨ x = 20 ∨ 40 ≤ x then 1 else 0) + u_oc p
    (repeat' split) <;> omega
theorem rk_eq (x : Int) (g : Nat → Nat → Int) : F_X12_rank x g = u_rank x := by
  unfold F_X12_rank u_rank
  (repeat' split) <;> omega
/-- settled: as many are open as the pile says -/
theorem set_oc {l : Int} (hl : 1 ≤ l) : ∀ p : List Int, (u_set l p (u_oc p : Int)).2 = (u_oc (u_set l p (u_oc p : Int)).1 : Int) ∧ u_cnt (u_set l p (u_oc p : Int)).1 = u_cnt p := by
  intro p
  induction p with
  | nil => exact ⟨rfl, rfl⟩
  | cons x p ih =>
    by_cases h : l ≤ u_rank x
    · have h40 : ¬ 40 ≤ x := fun h4 => by
        have : u_rank x = 0 := if_pos h4
        omega
      have h41 : u_cnt (x :: p) = u_cnt p := by
        show (if 41 ≤ x then 1 else 0) + u_cnt p = u_cnt p
        rw [if_neg (by omega), Nat.zero_add]
      by_cases h2 : x = 2 ∨ x = 20
      · have e : u_oc (x :: p) = 1 + u_oc p := by
          show (if x = 2 ∨ x = 20 ∨ 40 ≤ x then 1 else 0) + u_oc p = 1 + u_oc p
          rw [if_pos (by omega)]
        rw [u_set_pop1 h h2, e, show ((1 + u_oc p : Nat) : Int) - 1 = (u_oc p : Int) by omega, h41]
        exact ih
      · have e : u_oc (x :: p) = u_oc p := by
          show (if x = 2 ∨ x = 20 ∨ 40 ≤ x then 1 else 0) + u_oc p = u_oc p
          rw [if_neg (by omega), Nat.zero_add]
        rw [u_set_pop h (by omega) (by omega), e, h41]
        exact ih
    · have e : u_set l (x :: p) (u_oc (x :: p) : Int) = (x :: p, (u_oc (x :: p) : Int)) := u_set_stop (fun y hy => by cases hy; omega)
      rw [e]
      exact ⟨rfl, rfl⟩
theorem set_le {l : Int} : ∀ (p : List Int) (o : Int), (u_set l p o).1.length ≤ p.length := by
  intro p
  induction p with
  | nil => intro o; exact Nat.le_refl 0
  | cons x p ih =>
    intro o
    show (if l ≤ u_rank x then u_set l p (if x = 2 ∨ x = 20 then o - 1 else o) else (x :: p, o)).1.length ≤ p.length + 1
    split
    · exact Nat.le_succ_of_le (ih _)
    · exact Nat.le_refl _
/-- where what lies: M the reference, tx its TEXTS, tb its tape, pl its pile, bg where sums began -/
def RD (M tx tb pl bg : Nat) : Prop := M ≠ tx ∧ M ≠ tb ∧ M ≠ pl ∧ M ≠ bg ∧ tx ≠ tb ∧ tx ≠ pl ∧ tx ≠ bg ∧ tb ≠ pl ∧ tb ≠ bg ∧ pl ≠ bg
def RC (b : Nat → Int) (n M tx tb pl bg t0 : Nat) (so : Int) (g : Nat → Nat → Int) : Prop := g M 2 = (tx : Int) ∧ g M 15 = (pl : Int) ∧ g M 16 = (bg : Int) ∧ g M 12 = (t0 : Int) ∧ g M 14 = so ∧ t0 ≤ 3000 ∧ RB b n M tb g
def wR (M tx pl bg t0 c j : Nat) : Prop := (c = M ∧ 7 ≤ j ∧ j ≤ 20 ∧ j ≠ 12 ∧ j ≠ 14 ∧ j ≠ 15 ∧ j ≠ 16) ∨ (c = tx ∧ t0 + 1 ≤ j) ∨ c = pl ∨ c = bg
def fR (M tx pl bg t0 : Nat) (g g' : Nat → Nat → Int) : Prop := ∀ c j, ¬ wR M tx pl bg t0 c j → g' c j = g c j
theorem fR_rf {M tx pl bg t0 : Nat} {g : Nat → Nat → Int} : fR M tx pl bg t0 g g := fun _ _ _ => rfl
theorem fR_tr {M tx pl bg t0 : Nat} {g g1 g2 : Nat → Nat → Int} (h1 : fR M tx pl bg t0 g g1) (h2 : fR M tx pl bg t0 g1 g2) : fR M tx pl bg t0 g g2 := fun c j h => (h2 c j h).trans (h1 c j h)
theorem fR_up {M tx pl bg t0 : Nat} {a i : Nat} {v : Int} {g g1 : Nat → Nat → Int} (h : fR M tx pl bg t0 g g1) (hw : wR M tx pl bg t0 a i) : fR M tx pl bg t0 g (g_up g1 a i v) := fun c j hc => by
  unfold g_up
  rw [if_neg (fun e => hc (by rw [e.2, e.1]; exact hw))]
  exact h c j hc
theorem fR_fM {M tx pl bg t0 : Nat} {g g' : Nat → Nat → Int} (h : fM M g g') : fR M tx pl bg t0 g g' := fun c j hc => h c j (by
  by_cases hcM : c = M
  · refine Or.inr ?_
    by_cases h7 : j < 7
    · exact Or.inl h7
    · refine Or.inr ?_
      by_cases h11 : 11 < j
      · exact h11
      · exact absurd (Or.inl ⟨hcM, by omega, by omega, by omega, by omega, by omega, by omega⟩) hc
  · exact Or.inl hcM)
def PL (pl : Nat) (g : Nat → Nat → Int) : List Int → Prop
  | [] => True
  | x :: xs => g pl xs.length = x ∧ x ≤ 42 ∧ PL pl g xs
theorem PL_mo {pl : Nat} {g g' : Nat → Nat → Int} : ∀ {p : List Int}, PL pl g p → (∀ j, j < p.length → g' pl j = g pl j) → PL pl g' p := by
  intro p
  induction p with
  | nil => intro _ _; trivial
  | cons x p ih =>
    intro h hj
    exact ⟨(hj p.length (Nat.lt_succ_self _)).trans h.1, h.2.1, ih h.2.2 (fun j hh => hj j (Nat.lt_succ_of_lt hh))⟩
theorem PL_42 {pl : Nat} {g : Nat → Nat → Int} : ∀ {p : List Int}, PL pl g p → u_open p ≤ 42 := by
  intro p
  induction p with
  | nil => intro _; exact (by decide : (-1 : Int) ≤ 42)
  | cons x p ih =>
    intro h
    show (if 40 ≤ x then x else u_open p) ≤ 42
    split
    · exact h.2.1
    · exact ih h.2.2
theorem vu (ρ : Nat → Int) (i : Nat) (v : Int) (j : Nat) : va_up ρ i v j = if j = i then v else ρ j := by
  by_cases h : j = i
  · rw [if_pos h, h, va_up_self]
  · rw [if_neg h, va_up_ne _ _ h]
/-- the pile is p, w is written -/
def PS (M pl bg : Nat) (g : Nat → Nat → Int) (p : List Int) (w : Nat) : Prop := g M 17 = (p.length : Int) ∧ PL pl g p ∧ g M 18 = (u_oc p : Int) ∧ g M 19 = (u_cnt p : Int) ∧ g M 13 = (w : Int) ∧ ∀ j, j < u_cnt p → ∃ v : Nat, g bg j = (v : Int) ∧ v ≤ 1000
/-- at TOKEN i -/
def TS (b : Nat → Int) (n M : Nat) (g : Nat → Nat → Int) (i : Nat) : Prop := g M 7 = (x_nx b n (x_ps b n i) : Int) ∧ g M 8 = (x_ps b n i : Int) ∧ TR b n (x_ps b n i) (g M 9) (g M 10) (g M 11)
section RP
variable {ax : zAx} {CE : g_E} {L : List Nat} {b : Nat → Int} {n M tx tb pl bg t0 : Nat} {so : Int} {r : Option g_V} {h : g_H}
theorem nwM {j : Nat} (hD : RD M tx tb pl bg) (hj : j < 7 ∨ 20 < j ∨ j = 12 ∨ j = 14 ∨ j = 15 ∨ j = 16) : ¬ wR M tx pl bg t0 M j := by
  obtain ⟨d1, d2, d3, d4, -⟩ := hD
  rintro (⟨-, h1⟩ | ⟨h1, -⟩ | h1 | h1)
  · omega
  · exact d1 h1
  · exact d3 h1
  · exact d4 h1
theorem nwT {j : Nat} (hD : RD M tx tb pl bg) : ¬ wR M tx pl bg t0 tb j := by
  obtain ⟨d1, d2, d3, d4, d5, d6, d7, d8, d9, d10⟩ := hD
  rintro (⟨h1, -⟩ | ⟨h1, -⟩ | h1 | h1)
  · exact d2 h1.symm
  · exact d5 h1.symm
  · exact d8 h1
  · exact d9 h1
theorem RC_mo (hD : RD M tx tb pl bg) {g g' : Nat → Nat → Int} (h : RC b n M tx tb pl bg t0 so g) (hf : fR M tx pl bg t0 g g') : RC b n M tx tb pl bg t0 so g' := by
  obtain ⟨c2, c15, c16, c12, c14, ct, h1, h2, h3, h4, h5⟩ := h
  exact ⟨(hf M 2 (nwM hD (by omega))).trans c2, (hf M 15 (nwM hD (by omega))).trans c15, (hf M 16 (nwM hD (by omega))).trans c16, (hf M 12 (nwM hD (by omega))).trans c12, (hf M 14 (nwM hD (by omega))).trans c14, ct, (hf M 3 (nwM hD (by omega))).trans h1, (hf M 4 (nwM hD (by omega))).trans h2, h3, h4, fun k hk => ⟨(hf tb k (nwT hD)).trans (h5 k hk).1, (h5 k hk).2⟩⟩
/-- what is written -/
theorem em_eq (hD : RD M tx tb pl bg) {g : Nat → Nat → Int} (hC : RC b n M tx tb pl bg t0 so g) {w : Nat} (hw : g M 13 = (w : Int)) (hl : w ≤ 1000) (o v : Int) : F_X12_emit (M : Int) o v g = g_up (g_up (g_up g tx (t0 + 97 + 2 * w) o) tx (t0 + 97 + 2 * w + 1) v) M 13 ((w : Int) + 1) := by
  obtain ⟨c2, c15, c16, c12, c14, ct, hB⟩ := hC
  have nx : M ≠ tx := hD.1
  have k : ∀ (g : Nat → Nat → Int) (i : Nat) (v : Int) (j : Nat), g_up g tx i v M j = g M j := fun _ _ _ _ => g_up_a nx
  have e1 : g_i (g_i ((t0 : Int) + 97) + g_i (2 * (w : Int))) = ((t0 + 97 + 2 * w : Nat) : Int) := by
    rw [gi_of (z := (t0 : Int) + 97) (by omega) (by omega), gi_of (z := 2 * (w : Int)) (by omega) (by omega), gi_of (by omega) (by omega)]
    omega
  replace e1 : EqG (g_i (g_i ((t0 : Int) + 97) + g_i (2 * (w : Int)))) (((t0 + 97 + 2 * w : Nat) : Int)) := e1
  have e2 : g_i (((t0 + 97 + 2 * w : Nat) : Int) + 1) = ((t0 + 97 + 2 * w + 1 : Nat) : Int) := by
    rw [gi_of (by omega) (by omega)]
    omega
  replace e2 : EqG (g_i (((t0 + 97 + 2 * w : Nat) : Int) + 1)) (((t0 + 97 + 2 * w + 1 : Nat) : Int)) := e2
  have e3 : g_i ((w : Int) + 1) = (w : Int) + 1 := gi_of (by omega) (by omega)
  replace e3 : EqG (g_i ((w : Int) + 1)) ((w : Int) + 1) := e3
  unfold F_X12_emit
  simp only [Int.toNat_natCast, k, c2, c12, hw, e1.e, e2.e, e3.e]
theorem em_ok (hD : RD M tx tb pl bg) {g : Nat → Nat → Int} (hC : RC b n M tx tb pl bg t0 so g) {w : Nat} (hw : g M 13 = (w : Int)) (hl : w ≤ 1000) (o v : Int) : fR M tx pl bg t0 g (F_X12_emit (M : Int) o v g) ∧ F_X12_emit (M : Int) o v g M 13 = ((w + 1 : Nat) : Int) ∧ (∀ j, j ≠ 13 → F_X12_emit (M : Int) o v g M j = g M j) ∧ (∀ j, F_X12_emit (M : Int) o v g pl j = g pl j) ∧ ∀ j, F_X12_emit (M : Int) o v g bg j = g bg j := by
  obtain ⟨d1, d2, d3, d4, d5, d6, d7, d8, d9, d10⟩ := hD
  rw [em_eq ⟨d1, d2, d3, d4, d5, d6, d7, d8, d9, d10⟩ hC hw hl]
  refine ⟨fR_up (fR_up (fR_up fR_rf (Or.inr (Or.inl ⟨rfl, by omega⟩))) (Or.inr (Or.inl ⟨rfl, by omega⟩))) (Or.inl ⟨rfl, by decide⟩), ?_, fun j hj => ?_, fun j => ?_, fun j => ?_⟩
  · rw [g_up_s]
    omega
  · rw [g_up_j hj, g_up_a d1, g_up_a d1]
  · rw [g_up_a (Ne.symm d3), g_up_a (Ne.symm d6), g_up_a (Ne.symm d6)]
  · rw [g_up_a (Ne.symm d4), g_up_a (Ne.symm d7), g_up_a (Ne.symm d7)]
/-- what settling changes -/
def SE (M tx pl bg t0 : Nat) (g g' : Nat → Nat → Int) : Prop := fR M tx pl bg t0 g g' ∧ ∀ j, (7 ≤ j ∧ j ≤ 11 ∨ j = 20) → g' M j = g M j
theorem SE_tr {g g1 g2 : Nat → Nat → Int} (h1 : SE M tx pl bg t0 g g1) (h2 : SE M tx pl bg t0 g1 g2) : SE M tx pl bg t0 g g2 := ⟨fR_tr h1.1 h2.1, fun j hj => (h2.2 j hj).trans (h1.2 j hj)⟩
theorem se_ok (hCE : ∀ y cc as h r h', CE y cc as h r h' → g_ex ax y cc as h r h') (hD : RD M tx tb pl bg) {l : Int} (hl : 1 ≤ l) : ∀ (p : List Int) (N : Nat) {ρ : Nat → Int} {g : Nat → Nat → Int} {w : Nat}, p.length + w ≤ 1000 → RC b n M tx tb pl bg t0 so g → PS M pl bg g p w → ρ 0 = (M : Int) → ρ 1 = l → g_run RX12 ax CE cX12_settle N (0, ρ, [], L, g) r h → r = none ∧ ∃ g' w', h = (L, g') ∧ SE M tx pl bg t0 g g' ∧ PS M pl bg g' (u_set l p (u_oc p : Int)).1 w' ∧ w' + (u_set l p (u_oc p : Int)).1.length = w + p.length := by
  intro p
  induction p with
  | nil =>
    intro N ρ g w hw hC hP h0 h1 hr
    have hx := pt_X12_settle_0 hCE hr
    obtain ⟨p17, pL, p18, p19, p13, pb⟩ := hP
    rw [h0, Int.toNat_natCast, p17] at hx
    rcases hx with ⟨-, e1, e2⟩ | ⟨c, -⟩
    · exact ⟨e1, g, w, e2, ⟨fR_rf, fun _ _ => rfl⟩, ⟨p17, pL, p18, p19, p13, pb⟩, rfl⟩
    · exact absurd (by decide : ((([] : List Int).length : Nat) : Int) ≤ 0) c
  | cons x p ih =>
    intro N ρ g w hw hC hP h0 h1 hr
    have hx := pt_X12_settle_0 hCE hr
    have hP0 := hP
    obtain ⟨p17, pL, p18, p19, p13, pb⟩ := hP
    have hlen : (x :: p).length = p.length + 1 := rfl
    rw [hlen] at p17 hw
    obtain ⟨px, -, pL⟩ := pL
    obtain ⟨d1, d2, d3, d4, d5, d6, d7, d8, d9, d10⟩ := hD
    have hD : RD M tx tb pl bg := ⟨d1, d2, d3, d4, d5, d6, d7, d8, d9, d10⟩
    have e17 : g_i (g M 17 - 1) = (p.length : Int) := by
      rw [p17, gi_of (by omega) (by omega)]
      omega
    replace e17 : EqG (g_i (g M 17 - 1)) ((p.length : Int)) := e17
    have c15 := hC.2.1
    simp only [h0, h1, Int.toNat_natCast, e17.e, rk_eq, c15, px] at hx
    rcases hx with ⟨c, -⟩ | ⟨c, hx⟩
    · exact absurd c (by rw [p17]; omega)
    rcases hx with ⟨c2, e1, e2⟩ | ⟨c2, hx⟩
    · have es : u_set l (x :: p) (u_oc (x :: p) : Int) = (x :: p, (u_oc (x :: p) : Int)) := u_set_stop (fun y hy => by cases hy; omega)
      rw [es]
      exact ⟨e1, g, w, e2, ⟨fR_rf, fun _ _ => rfl⟩, hP0, rfl⟩
    have hrk : l ≤ u_rank x := by omega
    have h40 : ¬ 40 ≤ x := fun h4 => by
      have : u_rank x = 0 := if_pos h4
      omega
    have h41 : u_cnt (x :: p) = u_cnt p := by
      show (if 41 ≤ x then 1 else 0) + u_cnt p = u_cnt p
      rw [if_neg (by omega), Nat.zero_add]
    generalize hg1 : g_up g M 17 (p.length : Int) = g1 at hx
    have a17 : g1 M 17 = (p.length : Int) := by rw [← hg1, g_up_s]
    have aM : ∀ j, j ≠ 17 → g1 M j = g M j := fun j hj => by rw [← hg1, g_up_j hj]
    have ap : ∀ j, g1 pl j = g pl j := fun j => by rw [← hg1, g_up_a (Ne.symm d3)]
    have ab : ∀ j, g1 bg j = g bg j := fun j => by rw [← hg1, g_up_a (Ne.symm d4)]
    have f1 : fR M tx pl bg t0 g g1 := by
      rw [← hg1]
      exact fR_up fR_rf (Or.inl ⟨rfl, by decide⟩)
    simp only [a17, Int.toNat_natCast, ap, px] at hx
    have hC1 := RC_mo hD hC f1
    obtain ⟨f2, b13, bM, bp, bb⟩ := em_ok hD hC1 (w := w) ((aM 13 (by decide)).trans p13) (by omega) x 0
    generalize hg2 : F_X12_emit (M : Int) x 0 g1 = g2 at hx f2 b13 bM bp bb
    have c17 : g2 M 17 = (p.length : Int) := (bM 17 (by decide)).trans a17
    have cc15 : g2 M 15 = (pl : Int) := ((bM 15 (by decide)).trans (aM 15 (by decide))).trans c15
    have c18 : g2 M 18 = (u_oc (x :: p) : Int) := ((bM 18 (by decide)).trans (aM 18 (by decide))).trans p18
    have c19 : g2 M 19 = (u_cnt p : Int) := by rw [bM 19 (by decide), aM 19 (by decide), p19, h41]
    have cpx : g2 pl p.length = x := ((bp _).trans (ap _)).trans px
    have cL : PL pl g2 p := PL_mo pL (fun j _ => (bp j).trans (ap j))
    have cb : ∀ j, j < u_cnt p → ∃ v : Nat, g2 bg j = (v : Int) ∧ v ≤ 1000 := fun j hj => by
      rw [bb, ab]
      exact pb j (by rw [h41]; exact hj)
    have f12 := fR_tr f1 f2
    have hS : SE M tx pl bg t0 g g2 := ⟨f12, fun j hj => (bM j (by omega)).trans (aM j (by omega))⟩
    simp only [c17, cc15, c18, Int.toNat_natCast, cpx] at hx
    have hC2 := RC_mo hD hC f12
    by_cases hq : x = 2 ∨ x = 20
    · have eo : u_oc (x :: p) = 1 + u_oc p := by
        show (if x = 2 ∨ x = 20 ∨ 40 ≤ x then 1 else 0) + u_oc p = 1 + u_oc p
        rw [if_pos (by omega)]
      have ole := oc_le p
      have eg : g_i ((u_oc (x :: p) : Int) - 1) = (u_oc p : Int) := by
        rw [eo, gi_of (by omega) (by omega)]
        omega
      replace eg : EqG (g_i ((u_oc (x :: p) : Int) - 1)) ((u_oc p : Int)) := eg
      have es : u_set l (x :: p) (u_oc (x :: p) : Int) = u_set l p (u_oc p : Int) := by
        rw [u_set_pop1 hrk hq, eo]
        congr 1
        omega
      rw [eg.e] at hx
      rw [es]
      have fin : ∀ n', g_run RX12 ax CE cX12_settle n' (0, ρ, [], L, g_up g2 M 18 (u_oc p : Int)) r h → r = none ∧ ∃ g' w', h = (L, g') ∧ SE M tx pl bg t0 g g' ∧ PS M pl bg g' (u_set l p (u_oc p : Int)).1 w' ∧ w' + (u_set l p (u_oc p : Int)).1.length = w + (p.length + 1) := fun n' hr' => by
        have f3 : SE M tx pl bg t0 g2 (g_up g2 M 18 (u_oc p : Int)) := ⟨fR_up fR_rf (Or.inl ⟨rfl, by decide⟩), fun j hj => by rw [g_up_j (by omega)]⟩
        obtain ⟨e1, g', w', e2, e3, e4, e5⟩ := ih n' (w := w + 1) (by omega) (RC_mo hD hC2 f3.1) ⟨by rw [g_up_j (by decide)]; exact c17, PL_mo cL (fun j _ => by rw [g_up_a (Ne.symm d3)]), by rw [g_up_s], by rw [g_up_j (by decide)]; exact c19, by rw [g_up_j (by decide)]; exact b13, fun j hj => by rw [g_up_a (Ne.symm d4)]; exact cb j hj⟩ h0 h1 hr'
        exact ⟨e1, g', w', e2, SE_tr (SE_tr hS f3) e3, e4, by omega⟩
      rcases hx with ⟨-, n', -, hr'⟩ | ⟨k1, hx⟩
      · exact fin n' hr'
      · rcases hx with ⟨-, n', -, hr'⟩ | ⟨k2, -⟩
        · exact fin n' hr'
        · omega
    · have eo : u_oc (x :: p) = u_oc p := by
        show (if x = 2 ∨ x = 20 ∨ 40 ≤ x then 1 else 0) + u_oc p = u_oc p
        rw [if_neg (by omega), Nat.zero_add]
      have es : u_set l (x :: p) (u_oc (x :: p) : Int) = u_set l p (u_oc p : Int) := by
        rw [u_set_pop hrk (by omega) (by omega), eo]
      rw [es]
      rcases hx with ⟨k1, -⟩ | ⟨k1, hx⟩
      · omega
      rcases hx with ⟨k2, -⟩ | ⟨k2, n', -, hr'⟩
      · omega
      obtain ⟨e1, g', w', e2, e3, e4, e5⟩ := ih n' (w := w + 1) (by omega) hC2 ⟨c17, cL, by rw [c18, eo], c19, b13, cb⟩ h0 h1 hr'
      exact ⟨e1, g', w', e2, SE_tr hS e3, e4, by omega⟩
theorem se_x (hD : RD M tx tb pl bg) {l : Int} (hl : 1 ≤ l) {p : List Int} {g : Nat → Nat → Int} {w : Nat} (hw : p.length + w ≤ 1000) (hC : RC b n M tx tb pl bg t0 so g) (hP : PS M pl bg g p w) (hx : g_ex ax yX12_settle cX12_settle [(0, (M : Int)), (1, l)] (L, g) r h) : r = none ∧ ∃ g' w', h = (L, g') ∧ SE M tx pl bg t0 g g' ∧ PS M pl bg g' (u_set l p (u_oc p : Int)).1 w' ∧ w' + (u_set l p (u_oc p : Int)).1.length = w + p.length := by
  obtain ⟨ρ, N, hρ, hr⟩ := g_run_of hx
  exact se_ok (fun _ _ _ _ _ _ h => h) hD hl p N hw hC hP (hρ (0, (M : Int)) (by simp)) (hρ (1, l) (by simp)) hr
/-- what is open -/
theorem on_7 (hCE : ∀ y cc as h r h', CE y cc as h r h' → g_ex ax y cc as h r h') {g : Nat → Nat → Int} (c15 : g M 15 = (pl : Int)) : ∀ (q : List Int) (N : Nat) {ρ : Nat → Int}, q.length ≤ 1000 → PL pl g q → ρ 0 = (M : Int) → ρ 1 = (q.length : Int) - 1 → g_run RX12 ax CE cX12_openNow N (7, ρ, [], L, g) r h → r = some (1, u_open q) ∧ h = (L, g) := by
  intro q
  induction q with
  | nil =>
    intro N ρ _ _ h0 h1 hr
    have hx := pt_X12_openNow_7 hCE hr
    have h1' : ρ 1 = -1 := h1
    rw [h1'] at hx
    rcases hx with ⟨-, hx⟩ | ⟨c, -⟩
    · rcases hx with ⟨c, -⟩ | ⟨-, hx⟩
      · exact absurd c (by decide)
      · exact hx
    · exact absurd (by decide) c
  | cons x q ih =>
    intro N ρ hl hq h0 h1 hr
    have hx := pt_X12_openNow_7 hCE hr
    have h1' : ρ 1 = (q.length : Int) := by
      rw [h1]
      show ((q.length + 1 : Nat) : Int) - 1 = q.length
      omega
    have hlq : q.length + 1 ≤ 1000 := hl
    simp only [h0, h1', Int.toNat_natCast, c15, hq.1] at hx
    show r = some (1, if 40 ≤ x then x else u_open q) ∧ h = (L, g)
    rcases hx with ⟨c, -⟩ | ⟨-, hx⟩
    · omega
    rcases hx with ⟨c, hx⟩ | ⟨c, n', -, hr'⟩
    · rw [if_pos c]
      rcases hx with ⟨-, hx⟩ | ⟨k, -⟩
      · exact hx
      · omega
    · rw [if_neg c]
      exact ih n' (by omega) hq.2.2 (by rw [va_up_ne _ _ (by decide)]; exact h0) (by rw [va_up_self, gi_of (by omega) (by omega)]; omega) hr'
theorem on_x {g : Nat → Nat → Int} (hC : RC b n M tx tb pl bg t0 so g) {p : List Int} {w : Nat} (hP : PS M pl bg g p w) (hl : p.length ≤ 1000) (hx : g_ex ax yX12_openNow cX12_openNow [(0, (M : Int))] (L, g) r h) : r = some (1, u_open p) ∧ h = (L, g) := by
  obtain ⟨ρ, N, hρ, hr⟩ := g_run_of hx
  have h0 : ρ 0 = (M : Int) := hρ (0, (M : Int)) (by simp)
  obtain ⟨n', -, h1⟩ := pt_X12_openNow_0 (fun _ _ _ _ _ _ h => h) hr
  refine on_7 (fun _ _ _ _ _ _ h => h) hC.2.1 p n' hl hP.2.1 (by rw [va_up_ne _ _ (by decide)]; exact h0) ?_ h1
  rw [va_up_self, h0, Int.toNat_natCast, hP.1, gi_of (by omega) (by omega)]
/-- whether it is compared -/
theorem ic_7 (hCE : ∀ y cc as h r h', CE y cc as h r h' → g_ex ax y cc as h r h') {g : Nat → Nat → Int} (c15 : g M 15 = (pl : Int)) : ∀ (q : List Int) (N : Nat) {ρ : Nat → Int}, q.length ≤ 1000 → PL pl g q → ρ 0 = (M : Int) → ρ 1 = (q.length : Int) - 1 → g_run RX12 ax CE cX12_isCompared N (7, ρ, [], L, g) r h → r = some (1, if u_isc q = true then 1 else 0) ∧ h = (L, g) := by
  intro q
  induction q with
  | nil =>
    intro N ρ _ _ h0 h1 hr
    have hx := pt_X12_isCompared_7 hCE hr
    have h1' : ρ 1 = -1 := h1
    rw [h1'] at hx
    rcases hx with ⟨-, hx⟩ | ⟨c, -⟩
    · exact hx
    · exact absurd (by decide) c
  | cons x q ih =>
    intro N ρ hl hq h0 h1 hr
    have hx := pt_X12_isCompared_7 hCE hr
    have h1' : ρ 1 = (q.length : Int) := by
      rw [h1]
      show ((q.length + 1 : Nat) : Int) - 1 = q.length
      omega
    have hlq : q.length + 1 ≤ 1000 := hl
    simp only [h0, h1', Int.toNat_natCast, c15, hq.1, rk_eq] at hx
    have eu : u_isc (x :: q) = if 4 < u_rank x then u_isc q else decide (u_rank x = 4) := rfl
    rw [eu]
    rcases hx with ⟨c, -⟩ | ⟨-, hx⟩
    · omega
    rcases hx with ⟨c, hx⟩ | ⟨c, n', -, hr'⟩
    · rw [if_neg (by omega : ¬ 4 < u_rank x)]
      rcases hx with ⟨k, hx⟩ | ⟨k, hx⟩
      · rw [if_pos (decide_eq_true k)]
        exact hx
      · rw [if_neg (fun hh => k (of_decide_eq_true hh))]
        exact hx
    · rw [if_pos (by omega : 4 < u_rank x)]
      exact ih n' (by omega) hq.2.2 (by rw [va_up_ne _ _ (by decide)]; exact h0) (by rw [va_up_self, gi_of (by omega) (by omega)]; omega) hr'
theorem ic_x {g : Nat → Nat → Int} (hC : RC b n M tx tb pl bg t0 so g) {p : List Int} {w : Nat} (hP : PS M pl bg g p w) (hl : p.length ≤ 1000) (hx : g_ex ax yX12_isCompared cX12_isCompared [(0, (M : Int))] (L, g) r h) : r = some (1, if u_isc p = true then 1 else 0) ∧ h = (L, g) := by
  obtain ⟨ρ, N, hρ, hr⟩ := g_run_of hx
  have h0 : ρ 0 = (M : Int) := hρ (0, (M : Int)) (by simp)
  obtain ⟨n', -, h1⟩ := pt_X12_isCompared_0 (fun _ _ _ _ _ _ h => h) hr
  refine ic_7 (fun _ _ _ _ _ _ h => h) hC.2.1 p n' hl hP.2.1 (by rw [va_up_ne _ _ (by decide)]; exact h0) ?_ h1
  rw [va_up_self, h0, Int.toNat_natCast, hP.1, gi_of (by omega) (by omega)]
theorem aa_x {g : Nat → Nat → Int} (hC : RC b n M tx tb pl bg t0 so g) {p : List Int} {w : Nat} (hP : PS M pl bg g p w) (hl : p.length ≤ 1000) (hx : g_ex ax yX12_isAskAhead cX12_isAskAhead [(0, (M : Int))] (L, g) r h) : r = some (1, if u_ask p = true then 1 else 0) ∧ h = (L, g) := by
  obtain ⟨ρ, N, hρ, hr⟩ := g_run_of hx
  have h0 : ρ 0 = (M : Int) := hρ (0, (M : Int)) (by simp)
  obtain ⟨n', r1, h1', -, hx1, h1⟩ := pt_X12_isAskAhead_0 (fun _ _ _ _ _ _ h => h) hr
  rw [h0] at hx1
  obtain ⟨e1, e2⟩ := on_x hC hP hl hx1
  subst e1
  subst e2
  have hx := pt_X12_isAskAhead_4 (fun _ _ _ _ _ _ h => h) h1
  unfold u_ask
  rcases hx with ⟨c, hx⟩ | ⟨c, hx⟩
  · cases p with
    | nil => cases c
    | cons x p =>
      have e17 : g_i (g M 17 - 1) = (p.length : Int) := by
        have hl' : p.length + 1 ≤ 1000 := hl
        rw [hP.1, gi_of (by show _ ≤ ((p.length + 1 : Nat) : Int) - 1; omega) (by show ((p.length + 1 : Nat) : Int) - 1 ≤ _; omega)]
        show ((p.length + 1 : Nat) : Int) - 1 = _
        omega
      replace e17 : EqG (g_i (g M 17 - 1)) ((p.length : Int)) := e17
      simp only [h0, Int.toNat_natCast, e17.e, hC.2.1, hP.2.1.1, rk_eq] at hx
      simp only [c, decide_true, Bool.true_and]
      rcases hx with ⟨k, hx⟩ | ⟨k, hx⟩
      · simpa only [k, decide_true, Bool.true_or, if_true] using hx
      · unfold F_X12_isIn at hx
        have e : (decide (x = 42) || (decide (1 ≤ u_rank x) && decide (u_rank x ≤ 3))) = (decide (1 ≤ u_rank x) && decide (u_rank x ≤ 3)) := by
          rw [decide_eq_false k, Bool.false_or]
        show r = some (1, if (decide (x = 42) || (decide (1 ≤ u_rank x) && decide (u_rank x ≤ 3))) = true then 1 else 0) ∧ h = (L, g)
        rw [e]
        by_cases a1 : u_rank x < 1
        · rw [if_pos a1] at hx
          rcases hx with ⟨-, hx⟩ | ⟨k2, -⟩
          · rw [if_neg (by rw [decide_eq_false (by omega : ¬ 1 ≤ u_rank x), Bool.false_and]; decide)]
            exact hx
          · exact absurd rfl k2
        · rw [if_neg a1] at hx
          by_cases a2 : 3 < u_rank x
          · rw [if_pos a2] at hx
            rcases hx with ⟨-, hx⟩ | ⟨k2, -⟩
            · rw [if_neg (by rw [decide_eq_false (by omega : ¬ u_rank x ≤ 3), Bool.and_false]; decide)]
              exact hx
            · exact absurd rfl k2
          · rw [if_neg a2] at hx
            rcases hx with ⟨k2, -⟩ | ⟨-, hx⟩
            · exact absurd k2 (by decide)
            · rw [if_pos (by rw [decide_eq_true (by omega : 1 ≤ u_rank x), decide_eq_true (by omega : u_rank x ≤ 3)]; decide)]
              exact hx
  · rw [decide_eq_false c, Bool.false_and, if_neg (by decide)]
    exact hx
end RP
