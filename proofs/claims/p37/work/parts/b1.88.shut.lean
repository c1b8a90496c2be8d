/-! The reference's sums: what is shut, and the whole of it. -/
theorem set1_open : ∀ (p : List Int) (o : Int), 40 ≤ u_open p → ∃ q, (u_set 1 p o).1 = u_open p :: q := by
  intro p
  induction p with
  | nil => intro o h; exact absurd h (by decide)
  | cons x p ih =>
    intro o h
    by_cases hx : 40 ≤ x
    · have e : u_open (x :: p) = x := if_pos hx
      have hr : u_rank x = 0 := if_pos hx
      rw [e, u_set_stop (fun y hy => by cases hy; omega)]
      exact ⟨p, rfl⟩
    · have e : u_open (x :: p) = u_open p := if_neg hx
      have hr : 1 ≤ u_rank x := by
        unfold u_rank
        rw [if_neg hx]
        (repeat' split) <;> omega
      rw [e] at h ⊢
      show ∃ q, (if 1 ≤ u_rank x then u_set 1 p (if x = 2 ∨ x = 20 then o - 1 else o) else (x :: p, o)).1 = u_open p :: q
      rw [if_pos hr]
      exact ih _ h
section RT
variable {ax : zAx} {L : List Nat} {b : Nat → Int} {n M tx tb pl bg t0 m : Nat} {so : Int} {r : Option g_V} {h : g_H} {dr sh : Bool}
/-- behind what is shut: the next TOKEN, and what waits -/
theorem sh_101 (hD : RD M tx tb pl bg) (hm : m ≤ 300) {g : Nat → Nat → Int} {i : Nat} {q : List Int} {w N : Nat} {ρ : Nat → Int} (hC : RC b n M tx tb pl bg t0 so g) (hP : PS M pl bg g q w) (hT : TS b n M g i) (hle : q.length + w ≤ 2 * i) (hi : i ≤ m) (h0 : ρ 0 = (M : Int)) (hr : g_run RX12 ax (g_ex ax) cX12_shut N (101, ρ, [], L, g) r h) : r = none ∧ ∃ g' w', h = (L, g') ∧ fR M tx pl bg t0 g g' ∧ RS b n M pl bg m g' i (u_set 7 q (u_oc q : Int)).1 w' ∧ g' M 20 = g M 20 := by
  obtain ⟨n1, r1, k1, -, hx1, hr1⟩ := pt_X12_shut_101 (fun _ _ _ _ _ _ h => h) hr
  rw [h0] at hx1
  obtain ⟨e1, g', w', e2, e3, e4, e5⟩ := se_x hD (by decide) (by omega) hC hP hx1
  subst e1
  subst e2
  obtain ⟨e6, e7⟩ := pt_X12_shut_107 (fun _ _ _ _ _ _ h => h) hr1
  refine ⟨e6, g', w', e7, e3.1, ⟨e4, ⟨?_, ?_, ?_⟩, by omega, hi⟩, e3.2 20 (by decide)⟩
  · rw [e3.2 7 (by decide)]; exact hT.1
  · rw [e3.2 8 (by decide)]; exact hT.2.1
  · rw [e3.2 9 (by decide), e3.2 10 (by decide), e3.2 11 (by decide)]; exact hT.2.2
theorem sh_5 (hD : RD M tx tb pl bg) (hm : m ≤ 300) {g : Nat → Nat → Int} {i : Nat} {o : Int} {q : List Int} {w N : Nat} {ρ : Nat → Int} (ho : 40 ≤ o) (hC : RC b n M tx tb pl bg t0 so g) (hP : PS M pl bg g (o :: q) w) (hT : TS b n M g i) (hle : (o :: q).length + w ≤ 2 * i) (hi : i < m) (h0 : ρ 0 = (M : Int)) (h1 : ρ 1 = o) (hr : g_run RX12 ax (g_ex ax) cX12_shut N (5, ρ, [], L, g) r h) : r = none ∧ ∃ g' w', h = (L, g') ∧ fR M tx pl bg t0 g g' ∧ RS b n M pl bg m g' (i + 1) (u_set 7 q (u_oc q : Int)).1 w' ∧ g' M 20 = g M 20 := by
  have hx := pt_X12_shut_5 (fun _ _ _ _ _ _ h => h) hr
  obtain ⟨p17, pL, p18, p19, p13, pb⟩ := hP
  obtain ⟨d1, d2, d3, d4, d5, d6, d7, d8, d9, d10⟩ := hD
  have hD : RD M tx tb pl bg := ⟨d1, d2, d3, d4, d5, d6, d7, d8, d9, d10⟩
  obtain ⟨c2, c15, c16, c12, c14, ct, hB⟩ := hC
  have hC : RC b n M tx tb pl bg t0 so g := ⟨c2, c15, c16, c12, c14, ct, hB⟩
  have hlq : (o :: q).length = q.length + 1 := rfl
  have eo : u_oc (o :: q) = u_oc q + 1 := by
    show (if o = 2 ∨ o = 20 ∨ 40 ≤ o then 1 else 0) + u_oc q = _
    rw [if_pos (Or.inr (Or.inr ho)), Nat.add_comm]
  have ole := oc_le q
  have cle := cnt_oc q
  rw [hlq] at p17 hle
  rw [eo] at p18
  have e17 : g_i (((q.length + 1 : Nat) : Int) - 1) = (q.length : Int) := by
    rw [gi_of (by omega) (by omega)]
    omega
  replace e17 : EqG (g_i (((q.length + 1 : Nat) : Int) - 1)) ((q.length : Int)) := e17
  have e18 : g_i (((u_oc q + 1 : Nat) : Int) - 1) = (u_oc q : Int) := by
    rw [gi_of (by omega) (by omega)]
    omega
  replace e18 : EqG (g_i (((u_oc q + 1 : Nat) : Int) - 1)) ((u_oc q : Int)) := e18
  have kM : ∀ (g : Nat → Nat → Int) (j : Nat) (v : Int) (k : Nat), g_up g M j v M k = if k = j then v else g M k := fun _ _ _ _ => up_q ..
  have kx : ∀ (g : Nat → Nat → Int) (i : Nat) (v : Int) (j : Nat), g_up g tx i v M j = g M j := fun _ _ _ _ => g_up_a d1
  have kbM : ∀ (g : Nat → Nat → Int) (i : Nat) (v : Int) (j : Nat), g_up g M i v bg j = g bg j := fun _ _ _ _ => g_up_a (Ne.symm d4)
  have kbx : ∀ (g : Nat → Nat → Int) (i : Nat) (v : Int) (j : Nat), g_up g tx i v bg j = g bg j := fun _ _ _ _ => g_up_a (Ne.symm d7)
  have kpM : ∀ (g : Nat → Nat → Int) (i : Nat) (v : Int) (j : Nat), g_up g M i v pl j = g pl j := fun _ _ _ _ => g_up_a (Ne.symm d3)
  have kpx : ∀ (g : Nat → Nat → Int) (i : Nat) (v : Int) (j : Nat), g_up g tx i v pl j = g pl j := fun _ _ _ _ => g_up_a (Ne.symm d6)
  have f0 : fR M tx pl bg t0 g (g_up (g_up g M 17 (q.length : Int)) M 18 (u_oc q : Int)) := fR_up (fR_up fR_rf (Or.inl ⟨rfl, by decide⟩)) (Or.inl ⟨rfl, by decide⟩)
  rw [h0, Int.toNat_natCast, h1, p17, p18, e17.e, e18.e, p13] at hx
  rcases hx with ⟨c, n1, r1, k1, -, hx1, hr1⟩ | ⟨c, hx⟩
  · obtain ⟨e1, g', e2, e3, e4⟩ := nt_i (i := i) (RC_mo hD hC f0) (by rw [kM, if_neg (by decide), kM, if_neg (by decide)]; exact hT.1) hx1
    subst e1
    subst e2
    have ec : u_cnt (o :: q) = u_cnt q := by
      show (if 41 ≤ o then 1 else 0) + u_cnt q = _
      rw [if_neg (by omega), Nat.zero_add]
    obtain ⟨a1, g2, w2, a2, a3, a4, a5⟩ := sh_101 hD hm (i := i + 1) (RC_mo hD hC (fR_tr f0 (fR_fM e3))) (PS_fM hD (w := w) (p := q) ⟨by rw [kM, if_neg (by decide), kM, if_pos rfl], PL_mo pL.2.2 (fun j _ => by rw [kpM, kpM]), by rw [kM, if_pos rfl], by rw [kM, if_neg (by decide), kM, if_neg (by decide), p19, ec], by rw [kM, if_neg (by decide), kM, if_neg (by decide), p13], fun j hj => by rw [kbM, kbM]; exact pb j (by rw [ec]; exact hj)⟩ e3) e4 (by omega) (by omega) h0 hr1
    refine ⟨a1, g2, w2, a2, fR_tr (fR_tr f0 (fR_fM e3)) a3, a4, ?_⟩
    rw [a5, e3 M 20 (by omega), kM, if_neg (by decide), kM, if_neg (by decide)]
  have ec : u_cnt (o :: q) = u_cnt q + 1 := by
    show (if 41 ≤ o then 1 else 0) + u_cnt q = _
    rw [if_pos (by omega), Nat.add_comm]
  rw [ec] at p19
  have e19 : g_i (((u_cnt q + 1 : Nat) : Int) - 1) = (u_cnt q : Int) := by
    rw [gi_of (by omega) (by omega)]
    omega
  replace e19 : EqG (g_i (((u_cnt q + 1 : Nat) : Int) - 1)) ((u_cnt q : Int)) := e19
  obtain ⟨v, hv, hv2⟩ := pb (u_cnt q) (by rw [ec]; omega)
  have ea : g_i (g_i (g_i ((t0 : Int) + 97) + g_i (2 * (v : Int))) + 1) = ((t0 + 97 + 2 * v + 1 : Nat) : Int) := by
    rw [gi_of (z := (t0 : Int) + 97) (by omega) (by omega), gi_of (z := 2 * (v : Int)) (by omega) (by omega), gi_of (z := (t0 : Int) + 97 + 2 * (v : Int)) (by omega) (by omega), gi_of (by omega) (by omega)]
    omega
  replace ea : EqG (g_i (g_i (g_i ((t0 : Int) + 97) + g_i (2 * (v : Int))) + 1)) (((t0 + 97 + 2 * v + 1 : Nat) : Int)) := ea
  simp (decide := true) only [p19, e19.e, c2, c12, c16, Int.toNat_natCast, kM, kx, kbM, kbx, hv, ea.e, if_true, if_false] at hx
  generalize hG : g_up (g_up (g_up (g_up g M 17 (q.length : Int)) M 18 (u_oc q : Int)) M 19 (u_cnt q : Int)) tx (t0 + 97 + 2 * v + 1) (w : Int) = G at hx
  have fG : fR M tx pl bg t0 g G := by
    rw [← hG]
    exact fR_up (fR_up f0 (Or.inl ⟨rfl, by decide⟩)) (Or.inr (Or.inl ⟨rfl, by omega⟩))
  have G17 : G M 17 = (q.length : Int) := by rw [← hG, kx, kM, if_neg (by decide), kM, if_neg (by decide), kM, if_pos rfl]
  have G18 : G M 18 = (u_oc q : Int) := by rw [← hG, kx, kM, if_neg (by decide), kM, if_pos rfl]
  have G19 : G M 19 = (u_cnt q : Int) := by rw [← hG, kx, kM, if_pos rfl]
  have Gj : ∀ j, j ≠ 17 → j ≠ 18 → j ≠ 19 → G M j = g M j := fun j a1 a2 a3 => by rw [← hG, kx, kM, if_neg a3, kM, if_neg a2, kM, if_neg a1]
  have Gp : ∀ j, G pl j = g pl j := fun j => by rw [← hG, kpx, kpM, kpM, kpM]
  have Gb : ∀ j, G bg j = g bg j := fun j => by rw [← hG, kbx, kbM, kbM, kbM]
  have hCG := RC_mo hD hC fG
  have fin : ∀ (N : Nat) (k1 : Int) (r1 : Option g_V) (h1' : g_H), g_ex ax yX12_nextToken cX12_nextToken [(0, (M : Int))] (L, F_X12_emit (M : Int) k1 (v : Int) G) r1 h1' → g_run RX12 ax (g_ex ax) cX12_shut N (101, ρ, g_push r1 [], h1') r h → r = none ∧ ∃ g' w', h = (L, g') ∧ fR M tx pl bg t0 g g' ∧ RS b n M pl bg m g' (i + 1) (u_set 7 q (u_oc q : Int)).1 w' ∧ g' M 20 = g M 20 := by
    intro N k1 r1 h1' hx1 hr1
    obtain ⟨f2, b13, bM, bp, bb⟩ := em_ok hD hCG (w := w) ((Gj 13 (by decide) (by decide) (by decide)).trans p13) (by omega) k1 (v : Int)
    generalize F_X12_emit (M : Int) k1 (v : Int) G = g2 at hx1 f2 b13 bM bp bb
    obtain ⟨e1, g', e2, e3, e4⟩ := nt_i (i := i) (RC_mo hD hCG f2) (by rw [bM 7 (by decide), Gj 7 (by decide) (by decide) (by decide)]; exact hT.1) hx1
    subst e1
    subst e2
    have f3 := fR_tr (fR_tr fG f2) (fR_fM (tx := tx) (pl := pl) (bg := bg) (t0 := t0) e3)
    obtain ⟨a1, g4, w4, a2, a3, a4, a5⟩ := sh_101 hD hm (i := i + 1) (RC_mo hD hC f3) (PS_fM hD (w := w + 1) (p := q) ⟨(bM 17 (by decide)).trans G17, PL_mo pL.2.2 (fun j _ => (bp j).trans (Gp j)), (bM 18 (by decide)).trans G18, (bM 19 (by decide)).trans G19, b13, fun j hj => by rw [bb, Gb]; exact pb j (by rw [ec]; omega)⟩ e3) e4 (by omega) (by omega) h0 hr1
    refine ⟨a1, g4, w4, a2, fR_tr f3 a3, a4, ?_⟩
    rw [a5, e3 M 20 (by omega), bM 20 (by decide), Gj 20 (by decide) (by decide) (by decide)]
  rcases hx with ⟨-, n1, r1, k1, -, hx1, hr1⟩ | ⟨-, n1, r1, k1, -, hx1, hr1⟩
  · exact fin n1 31 r1 k1 hx1 hr1
  · exact fin n1 32 r1 k1 hx1 hr1
theorem sh_x (hD : RD M tx tb pl bg) (hm : m ≤ 300) {g : Nat → Nat → Int} {i : Nat} {o : Int} {p : List Int} {w : Nat} (ho : 40 ≤ o) (hop : u_open p = o) (hC : RC b n M tx tb pl bg t0 so g) (hS : RS b n M pl bg m g i p w) (hi : i < m) (hx : g_ex ax yX12_shut cX12_shut [(0, (M : Int)), (1, o)] (L, g) r h) : r = none ∧ ∃ g' w', h = (L, g') ∧ fR M tx pl bg t0 g g' ∧ RS b n M pl bg m g' (i + 1) (u_set 7 (u_set 1 p (u_oc p : Int)).1.tail (u_oc (u_set 1 p (u_oc p : Int)).1.tail : Int)).1 w' ∧ g' M 20 = g M 20 := by
  obtain ⟨ρ, N, hρ, hr⟩ := g_run_of hx
  have h0 : ρ 0 = (M : Int) := hρ (0, _) (by simp)
  have h1 : ρ 1 = o := hρ (1, _) (by simp)
  obtain ⟨hP, hT, hle, him⟩ := hS
  obtain ⟨n1, r1, k1, -, hx1, hr1⟩ := pt_X12_shut_0 (fun _ _ _ _ _ _ h => h) hr
  rw [h0] at hx1
  obtain ⟨e1, g', w', e2, e3, e4, e5⟩ := se_x hD (Int.le_refl 1) (by omega) hC hP hx1
  subst e1
  subst e2
  obtain ⟨q, hq⟩ := set1_open p (u_oc p : Int) (by omega)
  rw [hop] at hq
  rw [hq] at e4 e5 ⊢
  have hT' : TS b n M g' i := by
    refine ⟨?_, ?_, ?_⟩
    · rw [e3.2 7 (by decide)]; exact hT.1
    · rw [e3.2 8 (by decide)]; exact hT.2.1
    · rw [e3.2 9 (by decide), e3.2 10 (by decide), e3.2 11 (by decide)]; exact hT.2.2
  obtain ⟨a1, g2, w2, a2, a3, a4, a5⟩ := sh_5 hD hm ho (RC_mo hD hC e3.1) e4 hT' (by omega) hi h0 h1 hr1
  exact ⟨a1, g2, w2, a2, fR_tr e3.1 a3, a4, a5.trans (e3.2 20 (by decide))⟩
/-- what stands behind one -/
def BH (b : Nat → Int) (n M tx pl bg t0 m : Nat) (dr sh : Bool) (g : Nat → Nat → Int) (i : Nat) (p : List Int) (c : Int) (g' : Nat → Nat → Int) : Prop := fR M tx pl bg t0 g g' ∧ (c = 0 → g' = g ∧ RR (tkS b n) (vlS b n) dr sh i p (u_oc p : Int) (u_cnt p : Int) true (if 0 ≤ u_open p then (1, i) else (0, i))) ∧ (c ≠ 0 → ∃ p' w' W, RS b n M pl bg m g' (i + 1) p' w' ∧ g' M 20 = (if W = true then 1 else 0) ∧ ∀ res, RR (tkS b n) (vlS b n) dr sh (i + 1) p' (u_oc p' : Int) (u_cnt p' : Int) W res → RR (tkS b n) (vlS b n) dr sh i p (u_oc p : Int) (u_cnt p : Int) true res)
theorem btw_54 (p : List Int) : u_btw 54 p = -1 := by
  unfold u_btw
  rw [if_neg (by decide), if_neg (by decide), if_neg (by decide), if_neg (by decide)]
  by_cases h : u_open p ≠ 42
  · rw [if_pos h]
  · rw [if_neg h]
    cases u_isc p <;> rfl
theorem end_54 (p : List Int) : u_end 54 p = false := by
  unfold u_end
  simp
theorem open_r : ∀ p : List Int, u_open p = -1 ∨ 40 ≤ u_open p := by
  intro p
  induction p with
  | nil => exact Or.inl rfl
  | cons x p ih =>
    show (if 40 ≤ x then x else u_open p) = -1 ∨ 40 ≤ (if 40 ≤ x then x else u_open p)
    by_cases h : 40 ≤ x
    · rw [if_pos h]
      exact Or.inr h
    · rw [if_neg h]
      exact ih
theorem cnt_tail {p q : List Int} {o x : Int} (h : (u_set 1 p (u_oc p : Int)).1 = x :: q) (h40 : 40 ≤ x) : (u_set 1 p (u_oc p : Int)).2 - 1 = (u_oc q : Int) ∧ (if 41 ≤ x then (u_cnt p : Int) - 1 else (u_cnt p : Int)) = (u_cnt q : Int) := by
  obtain ⟨h1, h2⟩ := set_oc (l := 1) (Int.le_refl 1) p
  rw [h] at h1 h2
  have e1 : u_oc (x :: q) = u_oc q + 1 := by
    show (if x = 2 ∨ x = 20 ∨ 40 ≤ x then 1 else 0) + u_oc q = _
    rw [if_pos (Or.inr (Or.inr h40)), Nat.add_comm]
  have e2 : u_cnt (x :: q) = (if 41 ≤ x then 1 else 0) + u_cnt q := rfl
  rw [e1] at h1
  rw [e2] at h2
  refine ⟨by omega, ?_⟩
  split <;> rename_i hc
  · rw [if_pos hc] at h2; omega
  · rw [if_neg hc] at h2; omega
theorem btw_vals (t : Int) (p : List Int) : u_btw t p = -1 ∨ (3 ≤ u_btw t p ∧ u_btw t p ≤ 6) ∨ (10 ≤ u_btw t p ∧ u_btw t p ≤ 15) ∨ (21 ≤ u_btw t p ∧ u_btw t p ≤ 22) := by
  unfold u_btw u_cod
  (repeat' split) <;> omega
theorem btw_rk (t : Int) (p : List Int) (h : 0 ≤ u_btw t p) : 1 ≤ u_rank (u_btw t p) := by
  have := btw_vals t p
  unfold u_rank
  rw [if_neg (by omega)]
  (repeat' split) <;> omega
theorem btw_cnt {t : Int} {p q : List Int} (h : 0 ≤ u_btw t p) : u_oc (u_btw t p :: q) = u_oc q ∧ u_cnt (u_btw t p :: q) = u_cnt q ∧ u_btw t p ≤ 42 := by
  have := btw_vals t p
  refine ⟨?_, ?_, by omega⟩
  · show (if u_btw t p = 2 ∨ u_btw t p = 20 ∨ 40 ≤ u_btw t p then 1 else 0) + u_oc q = _
    rw [if_neg (by omega), Nat.zero_add]
  · show (if 41 ≤ u_btw t p then 1 else 0) + u_cnt q = _
    rw [if_neg (by omega), Nat.zero_add]
theorem bh_x (hD : RD M tx tb pl bg) (hm : m ≤ 300) (hE : tkS b n m = 54) {g : Nat → Nat → Int} {i : Nat} {p : List Int} {w : Nat} (hC : RC b n M tx tb pl bg t0 so g) (hS : RS b n M pl bg m g i p w) (h20 : g M 20 = 1) (hx : g_ex ax yX12_behindOne cX12_behindOne [(0, (M : Int))] (L, g) r h) : ∃ c g', r = some (1, c) ∧ h = (L, g') ∧ BH b n M tx pl bg t0 m dr sh g i p c g' := by
  obtain ⟨ρ, N, hρ, hr⟩ := g_run_of hx
  have h0 : ρ 0 = (M : Int) := hρ (0, _) (by simp)
  have hk := TK_i hC hS.2.1
  have hk0 := hk
  obtain ⟨-, -, -, -, -, -, -, -, -, -, -, -, -, k49, -⟩ := hk
  have hl : p.length ≤ 1000 := by
    have := hS.2.2
    omega
  obtain ⟨n1, r1, k1, -, hx1, hr1⟩ := pt_X12_behindOne_0 (fun _ _ _ _ _ _ h => h) hr
  rw [h0] at hx1
  obtain ⟨e1, e2⟩ := bt_x hm hC hS hx1
  subst e1
  subst e2
  have hx := pt_X12_behindOne_4 (fun _ _ _ _ _ _ h => h) hr1
  rw [h0] at hx
  rcases hx with ⟨c, n2, r2, k2, -, hx2, hr2⟩ | ⟨c, n2, r2, k2, -, hx2, hr2⟩
  · -- nothing between
    obtain ⟨e1, e2⟩ := on_x hC hS.1 hl hx2
    subst e1
    subst e2
    have hx := pt_X12_behindOne_52 (fun _ _ _ _ _ _ h => h) hr2
    simp (decide := true) only [vu, if_false, h0, Int.toNat_natCast] at hx
    rw [isW (i := 22) hk0 (by decide) (show F_X12_w3 101 110 100 g = x_wk 22 from cw_end)] at hx
    have no : u_end (tkS b n i) p = false → r = some (1, 0) ∧ h = (L, g) → ∃ c g', r = some (1, c) ∧ h = (L, g') ∧ BH b n M tx pl bg t0 m dr sh g i p c g' := fun he e => ⟨0, g, e.1, e.2, fR_rf, fun _ => ⟨rfl, r_no (by omega) he⟩, fun hh => absurd rfl hh⟩
    have yes : ∀ (N : Nat) (ρ : Nat → Int) (r1 : Option g_V) (h1' : g_H), 40 ≤ u_open p → u_end (tkS b n i) p = true → ρ 3 = 1 → g_ex ax yX12_shut cX12_shut [(0, (M : Int)), (1, u_open p)] (L, g) r1 h1' → g_run RX12 ax (g_ex ax) cX12_behindOne N (124, ρ, g_push r1 [], h1') r h → ∃ c g', r = some (1, c) ∧ h = (L, g') ∧ BH b n M tx pl bg t0 m dr sh g i p c g' := by
      intro N ρ r1 h1' ho he h3 hx hr
      have hi : i < m := by
        have := hS.2.2.2
        by_cases hh : i = m
        · rw [hh, hE, end_54] at he
          cases he
        · omega
      obtain ⟨e1, g', w', e2, e3, e4, e5⟩ := sh_x hD hm ho rfl hC hS hi hx
      subst e1
      subst e2
      obtain ⟨e6, e7⟩ := pt_X12_behindOne_124 (fun _ _ _ _ _ _ h => h) hr
      obtain ⟨q, hq⟩ := set1_open p (u_oc p : Int) ho
      obtain ⟨t1, t2⟩ := cnt_tail (o := 0) hq ho
      refine ⟨1, g', by rw [e6, h3], e7, e3, fun hh => absurd hh (by decide), fun _ => ⟨_, w', true, e4, e5.trans h20, fun res hR => r_sh (by omega) he ?_⟩⟩
      rw [hq] at hR ⊢
      have hs7 := set_oc (l := 7) (by decide) q
      rw [t1, t2]
      have hR' : RR (tkS b n) (vlS b n) dr sh (i + 1) (u_set 7 q (u_oc q : Int)).1 (u_oc (u_set 7 q (u_oc q : Int)).1 : Int) (u_cnt (u_set 7 q (u_oc q : Int)).1 : Int) true res := hR
      rw [hs7.2, ← hs7.1] at hR'
      exact hR'
    have ho := open_r p
    rcases hx with ⟨c2, hx⟩ | ⟨c2, hx⟩
    · have hee : u_end (tkS b n i) p = decide (tkS b n i = 49) := by
        unfold u_end
        rw [c2]
        simp
      rcases hx with ⟨c3, n3, r3, k3, -, hx3, hr3⟩ | ⟨c3, e⟩
      · exact yes n3 _ r3 k3 (by omega) (by rw [hee]; exact decide_eq_true (k49.mpr c3)) (va_up_self ..) hx3 hr3
      · exact no (by rw [hee]; exact decide_eq_false (fun hh => c3 (k49.mp hh))) e
    rcases hx with ⟨c3, e⟩ | ⟨c3, hx⟩
    · refine no ?_ e
      unfold u_end
      rw [decide_eq_false c2, decide_eq_false (by omega : ¬ u_open p = 41), decide_eq_false (by omega : ¬ u_open p = 42)]
      rfl
    rcases hx with ⟨c4, e⟩ | ⟨c4, hx⟩
    · refine no ?_ e
      have h22 : ¬ tkS b n i = 22 := fun hh => by
        rw [if_pos (show tkS b n i = ((22 : Nat) : Int) from hh)] at c4
        cases c4
      unfold u_end
      rw [decide_eq_false c2, decide_eq_false h22]
      simp
    have h22 : tkS b n i = 22 := by
      by_cases hh : tkS b n i = ((22 : Nat) : Int)
      · exact hh
      · rw [if_neg hh] at c4
        exact absurd rfl c4
    rcases hx with ⟨c5, n3, r3, k3, -, hx3, hr3⟩ | ⟨c5, n3, r3, k3, -, hx3, hr3⟩
    · refine yes n3 _ r3 k3 (by omega) ?_ (va_up_self ..) hx3 hr3
      unfold u_end
      rw [c5, h22]
      rfl
    · obtain ⟨e1, e2⟩ := ic_x hC hS.1 hl hx3
      subst e1
      subst e2
      have hx := pt_X12_behindOne_106 (fun _ _ _ _ _ _ h => h) hr3
      simp (decide := true) only [vu, if_true, if_false, h0] at hx
      have hee : u_end (tkS b n i) p = (decide (u_open p = 42) && u_isc p) := by
        unfold u_end
        rw [decide_eq_false c2, decide_eq_false c5, h22]
        simp
      rcases hx with ⟨c6, e⟩ | ⟨c6, n4, r4, k4, -, hx4, hr4⟩
      · refine no ?_ e
        rw [hee]
        cases hc : u_isc p with
        | false => rw [Bool.and_false]
        | true =>
          rw [hc, if_pos rfl] at c6
          cases c6
      · by_cases h42 : u_open p = 42
        · refine yes n4 _ r4 k4 (by omega) ?_ (va_up_self ..) hx4 hr4
          rw [hee, decide_eq_true h42]
          cases hc : u_isc p with
          | true => rfl
          | false =>
            rw [hc, if_neg (by decide)] at c6
            exact absurd rfl c6
        · have := PL_42 hS.1.2.1
          omega
  · -- a sign or a word between
    have hi : i < m := by
      have := hS.2.2.2
      by_cases hh : i = m
      · rw [hh, hE, btw_54] at c
        exact absurd (by decide) c
      · omega
    obtain ⟨hP, hT, hle, him⟩ := hS
    rw [rk_eq] at hx2
    have hrk := btw_rk (tkS b n i) p (by omega)
    obtain ⟨e1, g2, w2, e2, e3, e4, e5⟩ := se_x hD hrk (by omega) hC hP hx2
    subst e1
    subst e2
    obtain ⟨n3, r3, k3, -, hx3, hr3⟩ := pt_X12_behindOne_17 (fun _ _ _ _ _ _ h => h) hr2
    generalize hpp : (u_set (u_rank (u_btw (tkS b n i) p)) p (u_oc p : Int)).1 = q at e4 e5
    have hso := set_oc hrk p
    rw [hpp] at hso
    have hsl := set_le (l := u_rank (u_btw (tkS b n i) p)) p (u_oc p : Int)
    rw [hpp] at hsl
    obtain ⟨hb1, hb2, hb3⟩ := btw_cnt (t := tkS b n i) (p := p) (by omega) (q := q)
    obtain ⟨p17, pL, p18, p19, p13, pb⟩ := e4
    obtain ⟨d1, d2, d3, d4, d5, d6, d7, d8, d9, d10⟩ := hD
    have hD : RD M tx tb pl bg := ⟨d1, d2, d3, d4, d5, d6, d7, d8, d9, d10⟩
    have e17 : g_i ((q.length : Int) + 1) = ((q.length + 1 : Nat) : Int) := by
      rw [gi_of (by omega) (by omega)]
      omega
    replace e17 : EqG (g_i ((q.length : Int) + 1)) (((q.length + 1 : Nat) : Int)) := e17
    have c15 := (RC_mo hD hC e3.1).2.1
    have kp : ∀ (g : Nat → Nat → Int) (i : Nat) (v : Int) (j : Nat), g_up g pl i v M j = g M j := fun _ _ _ _ => g_up_a d3
    simp (decide := true) only [vu, if_true, if_false, h0, Int.toNat_natCast, c15, kp, p17, e17.e] at hx3
    generalize hG : g_up (g_up (g_up g2 pl q.length (u_btw (tkS b n i) p)) M 17 ((q.length + 1 : Nat) : Int)) M 20 0 = G at hx3
    have G17 : G M 17 = ((u_btw (tkS b n i) p :: q).length : Int) := by rw [← hG, g_up_j (by decide), g_up_s]; rfl
    have Gj : ∀ j, j ≠ 17 → j ≠ 20 → G M j = g2 M j := fun j a1 a2 => by rw [← hG, g_up_j a2, g_up_j a1, kp]
    have G20 : G M 20 = 0 := by rw [← hG, g_up_s]
    have Gp : PL pl G (u_btw (tkS b n i) p :: q) := by
      refine ⟨?_, hb3, PL_mo pL (fun j hj => ?_)⟩
      · rw [← hG, g_up_a (Ne.symm d3), g_up_a (Ne.symm d3), g_up_s]
      · rw [← hG, g_up_a (Ne.symm d3), g_up_a (Ne.symm d3), g_up_j (by omega)]
    have Gb : ∀ j, G bg j = g2 bg j := fun j => by rw [← hG, g_up_a (Ne.symm d4), g_up_a (Ne.symm d4), g_up_a (Ne.symm d10)]
    have fG : fR M tx pl bg t0 g G := by
      rw [← hG]
      exact fR_up (fR_up (fR_up e3.1 (Or.inr (Or.inr (Or.inl rfl)))) (Or.inl ⟨rfl, by decide⟩)) (Or.inl ⟨rfl, by decide⟩)
    obtain ⟨a1, g3, a2, a3, a4⟩ := nt_i (i := i) (RC_mo hD hC fG) (by rw [Gj 7 (by decide) (by decide), e3.2 7 (by decide)]; exact hT.1) hx3
    subst a1
    subst a2
    obtain ⟨a5, a6⟩ := pt_X12_behindOne_46 (fun _ _ _ _ _ _ h => h) hr3
    have hlx : (u_btw (tkS b n i) p :: q).length = q.length + 1 := rfl
    refine ⟨1, g3, a5, a6, fR_tr fG (fR_fM a3), fun hh => absurd hh (by decide), fun _ => ⟨u_btw (tkS b n i) p :: q, w2, false, ⟨PS_fM hD ⟨G17, Gp, by rw [Gj 18 (by decide) (by decide), p18, hb1], by rw [Gj 19 (by decide) (by decide), p19, hb2], (Gj 13 (by decide) (by decide)).trans p13, fun j hj => by rw [Gb]; exact pb j (by rw [hb2] at hj; exact hj)⟩ a3, a4, by omega, by omega⟩, (a3 M 20 (by omega)).trans G20, fun res hR => r_bt (by omega) ?_⟩⟩
    rw [hso.1, hpp]
    rw [hb1, hb2, hso.2] at hR
    exact hR
end RT
