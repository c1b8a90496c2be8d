/-! The reference's sums: what the pile says. -/
theorem up_q (g : Nat → Nat → Int) (a j : Nat) (v : Int) (k : Nat) : g_up g a j v a k = if k = j then v else g a k := by
  by_cases hk : k = j
  · rw [if_pos hk, hk, g_up_s]
  · rw [if_neg hk, g_up_j hk]
def tkS (b : Nat → Int) (n i : Nat) : Int := x_tk b n (x_ps b n i)
def vlS (b : Nat → Int) (n i : Nat) : Int := x_vl b n (x_ps b n i)
def u_nmo (k : Int) : Int := if k = 31 then 0 else if k = 32 then 1 else if k = 33 then 2 else if k = 13 then 3 else if k = 27 then 4 else if k = 26 then 5 else if k = 28 then 6 else if k = 29 then 7 else if k = 8 then 8 else if k = 30 then 9 else if k = 34 then 10 else -1
theorem nmo_nam (k : Int) : (u_nmo k < 0 ↔ u_nam k = false) ∧ -1 ≤ u_nmo k := by
  have e : u_nam k = decide (k = 8 ∨ (26 ≤ k ∧ k ≤ 30) ∨ k = 13 ∨ (31 ≤ k ∧ k ≤ 34)) := by
    unfold u_nam u_own
    rw [Bool.eq_iff_iff]
    simp only [Bool.or_eq_true, Bool.and_eq_true, decide_eq_true_eq]
    omega
  rw [e]
  unfold u_nmo
  (repeat' split) <;> (simp only [decide_eq_false_iff_not]; omega)
section RW
variable {t nu w k v : Int} {M : Nat} {g : Nat → Nat → Int}
theorem cmp_0 (x y : Int) : ((if x < y then (1 : Int) else if y = x then 0 else -1) = 0) ↔ y = x := by
  by_cases h : x < y
  · rw [if_pos h]
    omega
  · rw [if_neg h]
    by_cases h2 : y = x
    · rw [if_pos h2]
      exact ⟨fun _ => h2, fun _ => rfl⟩
    · rw [if_neg h2]
      exact ⟨fun h => absurd h (by decide), fun h => absurd h h2⟩
theorem isW (hk : TK (g M 9) nu (g M 11) k v) {i : Nat} (hi : i < 35) {W : Int} (hW : W = x_wk i) : F_X12_isWord (M : Int) W g = if k = (i : Int) then 1 else 0 := by
  have h := hk.2.2.2.1 i hi
  unfold F_X12_isWord
  simp only [Int.toNat_natCast, cmp_0]
  by_cases hc : k = (i : Int)
  · obtain ⟨h1, h2⟩ := h.mp hc
    rw [if_pos hc, if_pos h1, if_pos (h2.trans hW.symm)]
  · rw [if_neg hc]
    by_cases h1 : g M 9 = 2
    · rw [if_pos h1, if_neg (fun h2 => hc (h.mpr ⟨h1, h2.trans hW⟩))]
    · rw [if_neg h1]
def gz : Nat → Nat → Int := fun _ _ => 0
theorem cw_here : F_X12_w4 104 101 114 101 gz = x_wk 31 := by decide +kernel
theorem cw_heat : F_X12_w4 104 101 97 116 gz = x_wk 32 := by decide +kernel
theorem cw_wet : F_X12_w3 119 101 116 gz = x_wk 33 := by decide +kernel
theorem cw_hour : F_X12_w4 104 111 117 114 gz = x_wk 13 := by decide +kernel
theorem cw_who : F_X12_w3 119 104 111 gz = x_wk 27 := by decide +kernel
theorem cw_age : F_X12_w3 97 103 101 gz = x_wk 26 := by decide +kernel
theorem cw_full : F_X12_w4 102 117 108 108 gz = x_wk 28 := by decide +kernel
theorem cw_cloud : F_X12_w5 99 108 111 117 100 gz = x_wk 29 := by decide +kernel
theorem cw_work : F_X12_w4 119 111 114 107 gz = x_wk 8 := by decide +kernel
theorem cw_old : F_X12_w3 111 108 100 gz = x_wk 30 := by decide +kernel
theorem cw_both : F_X12_w4 98 111 116 104 gz = x_wk 34 := by decide +kernel
theorem cw_sum : F_X12_w3 115 117 109 gz = x_wk 20 := by decide +kernel
theorem cw_count : F_X12_w5 99 111 117 110 116 gz = x_wk 21 := by decide +kernel
theorem cw_not : F_X12_w3 110 111 116 gz = x_wk 25 := by decide +kernel
theorem cw_and : F_X12_w3 97 110 100 gz = x_wk 24 := by decide +kernel
theorem cw_or : F_X12_w2 111 114 gz = x_wk 23 := by decide +kernel
theorem cw_end : F_X12_w3 101 110 100 gz = x_wk 22 := by decide +kernel
theorem nm_eq (hk : TK (g M 9) nu (g M 11) k v) : F_X12_nameOf (M : Int) g = u_nmo k := by
  have h := hk.2.2.2.1
  have a0 := h 31 (by decide)
  have a1 := h 32 (by decide)
  have a2 := h 33 (by decide)
  have a3 := h 13 (by decide)
  have a4 := h 27 (by decide)
  have a5 := h 26 (by decide)
  have a6 := h 28 (by decide)
  have a7 := h 29 (by decide)
  have a8 := h 8 (by decide)
  have a9 := h 30 (by decide)
  have a10 := h 34 (by decide)
  unfold F_X12_nameOf u_nmo
  simp only [Int.toNat_natCast, cmp_0]
  rw [show F_X12_w4 104 101 114 101 g = x_wk 31 from cw_here, show F_X12_w4 104 101 97 116 g = x_wk 32 from cw_heat, show F_X12_w3 119 101 116 g = x_wk 33 from cw_wet, show F_X12_w4 104 111 117 114 g = x_wk 13 from cw_hour, show F_X12_w3 119 104 111 g = x_wk 27 from cw_who, show F_X12_w3 97 103 101 g = x_wk 26 from cw_age, show F_X12_w4 102 117 108 108 g = x_wk 28 from cw_full, show F_X12_w5 99 108 111 117 100 g = x_wk 29 from cw_cloud, show F_X12_w4 119 111 114 107 g = x_wk 8 from cw_work, show F_X12_w3 111 108 100 g = x_wk 30 from cw_old, show F_X12_w4 98 111 116 104 g = x_wk 34 from cw_both]
  by_cases h2 : g M 9 = 2
  · rw [if_pos h2]
    have e0 : (g M 11 = x_wk 31) = (k = 31) := propext ⟨fun hh => a0.mpr ⟨h2, hh⟩, fun hh => (a0.mp hh).2⟩
    have e1 : (g M 11 = x_wk 32) = (k = 32) := propext ⟨fun hh => a1.mpr ⟨h2, hh⟩, fun hh => (a1.mp hh).2⟩
    have e2 : (g M 11 = x_wk 33) = (k = 33) := propext ⟨fun hh => a2.mpr ⟨h2, hh⟩, fun hh => (a2.mp hh).2⟩
    have e3 : (g M 11 = x_wk 13) = (k = 13) := propext ⟨fun hh => a3.mpr ⟨h2, hh⟩, fun hh => (a3.mp hh).2⟩
    have e4 : (g M 11 = x_wk 27) = (k = 27) := propext ⟨fun hh => a4.mpr ⟨h2, hh⟩, fun hh => (a4.mp hh).2⟩
    have e5 : (g M 11 = x_wk 26) = (k = 26) := propext ⟨fun hh => a5.mpr ⟨h2, hh⟩, fun hh => (a5.mp hh).2⟩
    have e6 : (g M 11 = x_wk 28) = (k = 28) := propext ⟨fun hh => a6.mpr ⟨h2, hh⟩, fun hh => (a6.mp hh).2⟩
    have e7 : (g M 11 = x_wk 29) = (k = 29) := propext ⟨fun hh => a7.mpr ⟨h2, hh⟩, fun hh => (a7.mp hh).2⟩
    have e8 : (g M 11 = x_wk 8) = (k = 8) := propext ⟨fun hh => a8.mpr ⟨h2, hh⟩, fun hh => (a8.mp hh).2⟩
    have e9 : (g M 11 = x_wk 30) = (k = 30) := propext ⟨fun hh => a9.mpr ⟨h2, hh⟩, fun hh => (a9.mp hh).2⟩
    have e10 : (g M 11 = x_wk 34) = (k = 34) := propext ⟨fun hh => a10.mpr ⟨h2, hh⟩, fun hh => (a10.mp hh).2⟩
    simp only [e0, e1, e2, e3, e4, e5, e6, e7, e8, e9, e10]
  · rw [if_neg h2]
    have n0 : ¬ k = 31 := fun hh => h2 (a0.mp hh).1
    have n1 : ¬ k = 32 := fun hh => h2 (a1.mp hh).1
    have n2 : ¬ k = 33 := fun hh => h2 (a2.mp hh).1
    have n3 : ¬ k = 13 := fun hh => h2 (a3.mp hh).1
    have n4 : ¬ k = 27 := fun hh => h2 (a4.mp hh).1
    have n5 : ¬ k = 26 := fun hh => h2 (a5.mp hh).1
    have n6 : ¬ k = 28 := fun hh => h2 (a6.mp hh).1
    have n7 : ¬ k = 29 := fun hh => h2 (a7.mp hh).1
    have n8 : ¬ k = 8 := fun hh => h2 (a8.mp hh).1
    have n9 : ¬ k = 30 := fun hh => h2 (a9.mp hh).1
    have n10 : ¬ k = 34 := fun hh => h2 (a10.mp hh).1
    rw [if_neg n0, if_neg n1, if_neg n2, if_neg n3, if_neg n4, if_neg n5, if_neg n6, if_neg n7, if_neg n8, if_neg n9, if_neg n10]
theorem cod_eq (hk : TK (g M 9) nu (g M 11) k v) : F_X12_compareOf (M : Int) g = u_cod k := by
  obtain ⟨-, -, -, -, -, -, -, -, h60, h62, h61, h35, -, -, -, h4, h5, -⟩ := hk
  unfold F_X12_compareOf u_cod
  rw [Int.toNat_natCast]
  generalize g M 9 = t at *
  (repeat' split) <;> omega
theorem isOf_eq {dr sh : Bool} {so : Int} {c : Nat} (h14 : g M 14 = so) (h19 : g M 19 = (c : Int)) (hdr : dr = decide (so = 3)) (hsh : sh = decide (so = 4)) (hn : u_nam k = true) : F_X12_isOf (M : Int) (u_nmo k) g = if u_isOf dr sh (c : Int) k = true then 1 else 0 := by
  have e : u_nam k = decide (k = 8 ∨ (26 ≤ k ∧ k ≤ 30) ∨ k = 13 ∨ (31 ≤ k ∧ k ≤ 34)) := by
    unfold u_nam u_own
    rw [Bool.eq_iff_iff]
    simp only [Bool.or_eq_true, Bool.and_eq_true, decide_eq_true_eq]
    omega
  rw [e, decide_eq_true_eq] at hn
  have eo : u_own k = decide (k = 8 ∨ (26 ≤ k ∧ k ≤ 30)) := by
    unfold u_own
    rw [Bool.eq_iff_iff]
    simp only [Bool.or_eq_true, Bool.and_eq_true, decide_eq_true_eq]
  have hm : (k = 8 ∨ (26 ≤ k ∧ k ≤ 30)) ∧ 4 ≤ u_nmo k ∧ u_nmo k ≠ 10 ∨ k = 34 ∧ u_nmo k = 10 ∨ (k = 13 ∨ (31 ≤ k ∧ k ≤ 33)) ∧ u_nmo k < 4 := by
    unfold u_nmo
    (repeat' split) <;> omega
  unfold F_X12_isOf u_isOf
  rw [Int.toNat_natCast, h14, h19]
  rcases hm with ⟨h1, h2, h3⟩ | ⟨h1, h2⟩ | ⟨h1, h2⟩
  · have ho : u_own k = true := by rw [eo]; exact decide_eq_true h1
    rw [if_neg (by omega : ¬ u_nmo k < 4), if_neg h3, if_pos ho, hdr]
    by_cases h4 : so = 3
    · rw [if_pos h4, decide_eq_true h4]
      by_cases h5 : (c : Int) ≤ 0
      · rw [if_pos h5, decide_eq_false (by omega : ¬ 0 < (c : Int))]
        rfl
      · rw [if_neg h5, decide_eq_true (by omega : 0 < (c : Int))]
        rfl
    · rw [if_neg h4, decide_eq_false h4]
      rfl
  · have ho : ¬ u_own k = true := by
      rw [eo, decide_eq_true_eq]
      omega
    rw [if_neg (by omega : ¬ u_nmo k < 4), if_pos h2, if_neg ho, hsh, decide_eq_true h1]
    by_cases h4 : so = 4
    · rw [if_pos h4, decide_eq_true h4]
      rfl
    · rw [if_neg h4, decide_eq_false h4]
      rfl
  · have ho : ¬ u_own k = true := by
      rw [eo, decide_eq_true_eq]
      omega
    rw [if_pos h2, if_neg ho, decide_eq_false (by omega : ¬ k = 34)]
    rfl
end RW
def RS (b : Nat → Int) (n M pl bg m : Nat) (g : Nat → Nat → Int) (i : Nat) (p : List Int) (w : Nat) : Prop := PS M pl bg g p w ∧ TS b n M g i ∧ p.length + w ≤ 2 * i ∧ i ≤ m
section RT
variable {ax : zAx} {L : List Nat} {b : Nat → Int} {n M tx tb pl bg t0 m : Nat} {so : Int} {r : Option g_V} {h : g_H} {dr sh : Bool}
theorem nx_le (i : Nat) : x_nx b n (x_ps b n i) ≤ n := by
  by_cases h : x_ps b n i < n
  · exact (x_nx_gt h).2
  · have e : x_nx b n (x_ps b n i) = x_ps b n i := if_pos (by omega)
    rw [e]
    exact x_ps_le i
theorem nt_i {g : Nat → Nat → Int} (hC : RC b n M tx tb pl bg t0 so g) {i : Nat} (h7 : g M 7 = (x_nx b n (x_ps b n i) : Int)) (hx : g_ex ax yX12_nextToken cX12_nextToken [(0, (M : Int))] (L, g) r h) : r = none ∧ ∃ g', h = (L, g') ∧ fM M g g' ∧ TS b n M g' (i + 1) := by
  obtain ⟨e1, g', e2, e3, e4, e5, e6⟩ := nt_ok hC.2.2.2.2.2.2 (nx_le i) h7 hx
  exact ⟨e1, g', e2, e3, e4, e5, e6⟩
theorem TK_i {g : Nat → Nat → Int} (hC : RC b n M tx tb pl bg t0 so g) {i : Nat} (hT : TS b n M g i) : TK (g M 9) (g M 10) (g M 11) (tkS b n i) (vlS b n i) := TK_of (fun k hk => (hC.2.2.2.2.2.2.2.2.2.2 k hk).2) hT.2.2
theorem PS_fM (hD : RD M tx tb pl bg) {g g' : Nat → Nat → Int} {p : List Int} {w : Nat} (h : PS M pl bg g p w) (hf : fM M g g') : PS M pl bg g' p w := by
  obtain ⟨p17, pL, p18, p19, p13, pb⟩ := h
  obtain ⟨d1, d2, d3, d4, -⟩ := hD
  exact ⟨(hf M 17 (by omega)).trans p17, PL_mo pL (fun j _ => hf pl j (Or.inl (Ne.symm d3))), (hf M 18 (by omega)).trans p18, (hf M 19 (by omega)).trans p19, (hf M 13 (by omega)).trans p13, fun j hj => by rw [hf bg j (Or.inl (Ne.symm d4))]; exact pb j hj⟩
/-- something opens -/
theorem op_x (hD : RD M tx tb pl bg) (hm : m ≤ 300) {x : Int} (hxo : x = 2 ∨ x = 20 ∨ 40 ≤ x) (hx42 : x ≤ 42) {g : Nat → Nat → Int} {i : Nat} {p : List Int} {w : Nat} (hC : RC b n M tx tb pl bg t0 so g) (hS : RS b n M pl bg m g i p w) (hi : i < m) (hx : g_ex ax yX12_opened cX12_opened [(0, (M : Int)), (1, x)] (L, g) r h) : (u_oc p = 8 ∧ r = some (1, 3) ∧ h = (L, g)) ∨ (u_oc p ≠ 8 ∧ r = some (1, 0) ∧ ∃ g' w', h = (L, g') ∧ fR M tx pl bg t0 g g' ∧ RS b n M pl bg m g' (i + 1) (x :: p) w' ∧ g' M 20 = g M 20) := by
  obtain ⟨ρ, N, hρ, hr⟩ := g_run_of hx
  have h0 : ρ 0 = (M : Int) := hρ (0, _) (by simp)
  have h1 : ρ 1 = x := hρ (1, _) (by simp)
  have hx := pt_X12_opened_0 (fun _ _ _ _ _ _ h => h) hr
  obtain ⟨⟨p17, pL, p18, p19, p13, pb⟩, hT, hle, him⟩ := hS
  obtain ⟨d1, d2, d3, d4, d5, d6, d7, d8, d9, d10⟩ := hD
  have hD : RD M tx tb pl bg := ⟨d1, d2, d3, d4, d5, d6, d7, d8, d9, d10⟩
  have c15 := hC.2.1
  have c16 := hC.2.2.1
  have ole := oc_le p
  have cle := cnt_oc p
  have e18 : g_i ((u_oc p : Int) + 1) = ((u_oc p + 1 : Nat) : Int) := by
    rw [gi_of (by omega) (by omega)]
    omega
  replace e18 : EqG (g_i ((u_oc p : Int) + 1)) (((u_oc p + 1 : Nat) : Int)) := e18
  have e17 : g_i ((p.length : Int) + 1) = ((p.length + 1 : Nat) : Int) := by
    rw [gi_of (by omega) (by omega)]
    omega
  replace e17 : EqG (g_i ((p.length : Int) + 1)) (((p.length + 1 : Nat) : Int)) := e17
  have e19 : g_i ((u_cnt p : Int) + 1) = ((u_cnt p + 1 : Nat) : Int) := by
    rw [gi_of (by omega) (by omega)]
    omega
  replace e19 : EqG (g_i ((u_cnt p : Int) + 1)) (((u_cnt p + 1 : Nat) : Int)) := e19
  have kp : ∀ (g : Nat → Nat → Int) (i : Nat) (v : Int) (j : Nat), g_up g pl i v M j = g M j := fun _ _ _ _ => g_up_a d3
  have kb : ∀ (g : Nat → Nat → Int) (i : Nat) (v : Int) (j : Nat), g_up g bg i v M j = g M j := fun _ _ _ _ => g_up_a d4
  have kM : ∀ (g : Nat → Nat → Int) (j : Nat) (v : Int) (k : Nat), g_up g M j v M k = if k = j then v else g M k := fun _ _ _ _ => up_q ..
  simp (decide := true) only [h0, h1, Int.toNat_natCast, kM, kp, kb, c15, c16, p17, p18, p19, p13, e17.e, e18.e, e19.e, if_true, if_false] at hx
  rcases hx with ⟨c, e1, e2⟩ | ⟨c, hx⟩
  · exact Or.inl ⟨by omega, e1, e2⟩
  refine Or.inr ⟨by omega, ?_⟩
  have eo : u_oc (x :: p) = u_oc p + 1 := by
    show (if x = 2 ∨ x = 20 ∨ 40 ≤ x then 1 else 0) + u_oc p = _
    rw [if_pos hxo, Nat.add_comm]
  generalize hG : g_up (g_up (g_up g M 18 ((u_oc p + 1 : Nat) : Int)) pl p.length x) M 17 ((p.length + 1 : Nat) : Int) = G at hx
  have G17 : G M 17 = ((x :: p).length : Int) := by rw [← hG, g_up_s]; rfl
  have G18 : G M 18 = (u_oc (x :: p) : Int) := by rw [← hG, kM, if_neg (by decide), kp, kM, if_pos rfl, eo]
  have Gj : ∀ j, j ≠ 17 → j ≠ 18 → G M j = g M j := fun j h1 h2 => by rw [← hG, kM, if_neg h1, kp, kM, if_neg h2]
  have Gp : PL pl G (x :: p) := by
    refine ⟨?_, hx42, PL_mo pL (fun j hj => ?_)⟩
    · rw [← hG, g_up_a (Ne.symm d3), g_up_s]
    · rw [← hG, g_up_a (Ne.symm d3), g_up_j (by omega), g_up_a (Ne.symm d3)]
  have Gb : ∀ j, G bg j = g bg j := fun j => by rw [← hG, g_up_a (Ne.symm d4), g_up_a (Ne.symm d10), g_up_a (Ne.symm d4)]
  have fG : fR M tx pl bg t0 g G := by
    rw [← hG]
    exact fR_up (fR_up (fR_up fR_rf (Or.inl ⟨rfl, by decide⟩)) (Or.inr (Or.inr (Or.inl rfl)))) (Or.inl ⟨rfl, by decide⟩)
  have hlx : (x :: p).length = p.length + 1 := rfl
  rcases hx with ⟨c2, n', r1, h1', -, hx1, hr1⟩ | ⟨c2, n', r1, h1', -, hx1, hr1⟩
  · obtain ⟨e1, g', e2, e3, e4⟩ := nt_i (i := i) (RC_mo hD hC fG) ((Gj 7 (by decide) (by decide)).trans hT.1) hx1
    subst e1
    subst e2
    obtain ⟨e5, e6⟩ := pt_X12_opened_81 (fun _ _ _ _ _ _ h => h) hr1
    have ec : u_cnt (x :: p) = u_cnt p := by
      show (if 41 ≤ x then 1 else 0) + u_cnt p = u_cnt p
      rw [if_neg (by omega), Nat.zero_add]
    exact ⟨e5, g', w, e6, fR_tr fG (fR_fM e3), ⟨PS_fM hD ⟨G17, Gp, G18, by rw [Gj 19 (by decide) (by decide), p19, ec], (Gj 13 (by decide) (by decide)).trans p13, fun j hj => by rw [Gb]; exact pb j (by rw [← ec]; exact hj)⟩ e3, e4, by omega, by omega⟩, (e3 M 20 (by omega)).trans (Gj 20 (by decide) (by decide))⟩
  · have ec : u_cnt (x :: p) = u_cnt p + 1 := by
      show (if 41 ≤ x then 1 else 0) + u_cnt p = u_cnt p + 1
      rw [if_pos (by omega), Nat.add_comm]
    generalize hH : g_up (g_up G bg (u_cnt p) (w : Int)) M 19 ((u_cnt p + 1 : Nat) : Int) = H at hx1
    have H19 : H M 19 = (u_cnt (x :: p) : Int) := by rw [← hH, g_up_s, ec]
    have Hj : ∀ j, j ≠ 19 → H M j = G M j := fun j h1 => by rw [← hH, kM, if_neg h1, kb]
    have Hp : ∀ j, H pl j = G pl j := fun j => by rw [← hH, g_up_a (Ne.symm d3), g_up_a d10]
    have fH : fR M tx pl bg t0 g H := by
      rw [← hH]
      exact fR_up (fR_up fG (Or.inr (Or.inr (Or.inr rfl)))) (Or.inl ⟨rfl, by decide⟩)
    have Hb : ∀ j, j < u_cnt (x :: p) → ∃ v : Nat, H bg j = (v : Int) ∧ v ≤ 1000 := fun j hj => by
      by_cases hj2 : j = u_cnt p
      · refine ⟨w, ?_, by omega⟩
        rw [← hH, g_up_a (Ne.symm d4), hj2, g_up_s]
      · rw [← hH, g_up_a (Ne.symm d4), g_up_j hj2, Gb]
        exact pb j (by omega)
    have hCH := RC_mo hD hC fH
    obtain ⟨f2, b13, bM, bp, bb⟩ := em_ok hD hCH (w := w) (by rw [Hj 13 (by decide), Gj 13 (by decide) (by decide), p13]) (by omega) 30 0
    generalize F_X12_emit (M : Int) 30 0 H = g2 at hx1 f2 b13 bM bp bb
    obtain ⟨e1, g', e2, e3, e4⟩ := nt_i (i := i) (RC_mo hD hCH f2) (by rw [bM 7 (by decide), Hj 7 (by decide), Gj 7 (by decide) (by decide)]; exact hT.1) hx1
    subst e1
    subst e2
    obtain ⟨e5, e6⟩ := pt_X12_opened_81 (fun _ _ _ _ _ _ h => h) hr1
    refine ⟨e5, g', w + 1, e6, fR_tr (fR_tr fH f2) (fR_fM e3), ⟨PS_fM hD ⟨?_, PL_mo Gp (fun j _ => (bp j).trans (Hp j)), ?_, ?_, b13, fun j hj => by rw [bb]; exact Hb j hj⟩ e3, e4, by omega, by omega⟩, ?_⟩
    · rw [bM 17 (by decide), Hj 17 (by decide), G17]
    · rw [bM 18 (by decide), Hj 18 (by decide), G18]
    · rw [bM 19 (by decide), H19]
    · rw [e3 M 20 (by omega), bM 20 (by decide), Hj 20 (by decide), Gj 20 (by decide) (by decide)]
/-- what a step of the sums says -/
def BO (b : Nat → Int) (n M tx pl bg t0 m : Nat) (dr sh : Bool) (g : Nat → Nat → Int) (i : Nat) (p : List Int) (c : Int) (g' : Nat → Nat → Int) : Prop := fR M tx pl bg t0 g g' ∧ (c ≠ 0 → g' = g ∧ RR (tkS b n) (vlS b n) dr sh i p (u_oc p : Int) (u_cnt p : Int) false (c, i)) ∧ (c = 0 → ∃ p' w' W, RS b n M pl bg m g' (i + 1) p' w' ∧ g' M 20 = (if W = true then 1 else 0) ∧ ∀ res, RR (tkS b n) (vlS b n) dr sh (i + 1) p' (u_oc p' : Int) (u_cnt p' : Int) W res → RR (tkS b n) (vlS b n) dr sh i p (u_oc p : Int) (u_cnt p : Int) false res)
theorem op_BO (hD : RD M tx tb pl bg) (hm : m ≤ 300) {x : Int} {g : Nat → Nat → Int} {i : Nat} {p : List Int} {w : Nat} (hC : RC b n M tx tb pl bg t0 so g) (hS : RS b n M pl bg m g i p w) (hE : tkS b n m = 54) (h20 : g M 20 = 0) (hk : (tkS b n i = 48 ∧ x = 40) ∨ (tkS b n i = 41 ∧ x = 2) ∨ (tkS b n i = 20 ∧ x = 41) ∨ (tkS b n i = 21 ∧ x = 42) ∨ (tkS b n i = 25 ∧ x = 20 ∧ u_ask p = true)) (hx : g_ex ax yX12_opened cX12_opened [(0, (M : Int)), (1, x)] (L, g) r h) : ∃ c g', r = some (1, c) ∧ h = (L, g') ∧ BO b n M tx pl bg t0 m dr sh g i p c g' := by
  have hi : i < m := by
    have := hS.2.2.2
    by_cases h : i = m
    · rw [h, hE] at hk
      omega
    · omega
  have hxo : x = 2 ∨ x = 20 ∨ 40 ≤ x := by omega
  have eo : u_oc (x :: p) = u_oc p + 1 := by
    show (if x = 2 ∨ x = 20 ∨ 40 ≤ x then 1 else 0) + u_oc p = _
    rw [if_pos hxo, Nat.add_comm]
  rcases op_x hD hm hxo (by omega) hC hS hi hx with ⟨c, e1, e2⟩ | ⟨c, e1, g', w', e2, e3, e4, e5⟩
  · exact ⟨3, g, e1, e2, fR_rf, fun _ => ⟨rfl, r_opn hk (by rw [if_pos (by omega)])⟩, fun h => absurd h (by decide)⟩
  · refine ⟨0, g', e1, e2, e3, fun h => absurd rfl h, fun _ => ⟨x :: p, w', false, e4, e5.trans h20, fun res hR => r_opn hk ?_⟩⟩
    rw [if_neg (by omega)]
    have ec : (if 41 ≤ x then (u_cnt p : Int) + 1 else (u_cnt p : Int)) = (u_cnt (x :: p) : Int) := by
      have e : u_cnt (x :: p) = (if 41 ≤ x then 1 else 0) + u_cnt p := rfl
      rw [e]
      split <;> omega
    rw [ec, show (u_oc p : Int) + 1 = (u_oc (x :: p) : Int) by omega]
    exact hR
/-- a value -/
theorem va_51 (hD : RD M tx tb pl bg) (hm : m ≤ 300) {g : Nat → Nat → Int} {i : Nat} {p : List Int} {w N : Nat} {ρ : Nat → Int} (hC : RC b n M tx tb pl bg t0 so g) (hS : RS b n M pl bg m g i p w) (hi : i < m) (h0 : ρ 0 = (M : Int)) (hr : g_run RX12 ax (g_ex ax) cX12_beginOne N (51, ρ, [], L, g) r h) : r = some (1, 0) ∧ ∃ g' w', h = (L, g') ∧ fR M tx pl bg t0 g g' ∧ RS b n M pl bg m g' (i + 1) (u_set 7 p (u_oc p : Int)).1 w' ∧ g' M 20 = 1 := by
  obtain ⟨hP, hT, hle, him⟩ := hS
  have fin : ∀ (N : Nat) (s0 s1 : Int), g_run RX12 ax (g_ex ax) cX12_beginOne N (81, ρ, [(1, s0), (1, s1), (1, (M : Int))], L, g) r h → r = some (1, 0) ∧ ∃ g' w', h = (L, g') ∧ fR M tx pl bg t0 g g' ∧ RS b n M pl bg m g' (i + 1) (u_set 7 p (u_oc p : Int)).1 w' ∧ g' M 20 = 1 := by
    intro N s0 s1 hr
    obtain ⟨n1, r1, k1, -, hx1, hr1⟩ := pt_X12_beginOne_81 (fun _ _ _ _ _ _ h => h) hr
    rw [h0] at hx1
    obtain ⟨p17, pL, p18, p19, p13, pb⟩ := hP
    obtain ⟨f2, b13, bM, bp, bb⟩ := em_ok hD hC (w := w) p13 (by omega) s1 s0
    generalize F_X12_emit (M : Int) s1 s0 g = g2 at hx1 f2 b13 bM bp bb
    obtain ⟨e1, g3, e2, e3, e4⟩ := nt_i (i := i) (RC_mo hD hC f2) ((bM 7 (by decide)).trans hT.1) hx1
    subst e1
    subst e2
    obtain ⟨n2, r2, k2, -, hx2, hr2⟩ := pt_X12_beginOne_88 (fun _ _ _ _ _ _ h => h) hr1
    rw [h0, Int.toNat_natCast] at hx2
    have hP3 : PS M pl bg g3 p (w + 1) := PS_fM hD ⟨(bM 17 (by decide)).trans p17, PL_mo pL (fun j _ => bp j), (bM 18 (by decide)).trans p18, (bM 19 (by decide)).trans p19, b13, fun j hj => by rw [bb]; exact pb j hj⟩ e3
    have f3 : fR M tx pl bg t0 g (g_up g3 M 20 1) := fR_up (fR_tr f2 (fR_fM e3)) (Or.inl ⟨rfl, by decide⟩)
    obtain ⟨q17, qL, q18, q19, q13, qb⟩ := hP3
    obtain ⟨d1, d2, d3, d4, d5, d6, d7, d8, d9, d10⟩ := hD
    have hD : RD M tx tb pl bg := ⟨d1, d2, d3, d4, d5, d6, d7, d8, d9, d10⟩
    have hP4 : PS M pl bg (g_up g3 M 20 1) p (w + 1) := ⟨by rw [g_up_j (by decide)]; exact q17, PL_mo qL (fun j _ => by rw [g_up_a (Ne.symm d3)]), by rw [g_up_j (by decide)]; exact q18, by rw [g_up_j (by decide)]; exact q19, by rw [g_up_j (by decide)]; exact q13, fun j hj => by rw [g_up_a (Ne.symm d4)]; exact qb j hj⟩
    obtain ⟨e5, g5, w5, e6, e7, e8, e9⟩ := se_x hD (by decide) (w := w + 1) (by omega) (RC_mo hD hC f3) hP4 hx2
    subst e5
    subst e6
    obtain ⟨e10, e11⟩ := pt_X12_beginOne_99 (fun _ _ _ _ _ _ h => h) hr2
    refine ⟨e10, g5, w5, e11, fR_tr f3 e7.1, ⟨e8, ⟨?_, ?_, ?_⟩, by omega, by omega⟩, ?_⟩
    · rw [e7.2 7 (by decide), g_up_j (by decide)]; exact e4.1
    · rw [e7.2 8 (by decide), g_up_j (by decide)]; exact e4.2.1
    · rw [e7.2 9 (by decide), e7.2 10 (by decide), e7.2 11 (by decide), g_up_j (by decide), g_up_j (by decide), g_up_j (by decide)]; exact e4.2.2
    · rw [e7.2 20 (by decide), g_up_s]
  have fin2 : ∀ (N : Nat) (s0 : Int), g_run RX12 ax (g_ex ax) cX12_beginOne N (65, ρ, [(1, s0), (1, (M : Int))], L, g) r h → r = some (1, 0) ∧ ∃ g' w', h = (L, g') ∧ fR M tx pl bg t0 g g' ∧ RS b n M pl bg m g' (i + 1) (u_set 7 p (u_oc p : Int)).1 w' ∧ g' M 20 = 1 := by
    intro N s0 hr
    rcases pt_X12_beginOne_65 (fun _ _ _ _ _ _ h => h) hr with ⟨-, n1, -, h1⟩ | ⟨-, n1, -, h1⟩
    · exact fin n1 _ _ h1
    · exact fin n1 _ _ h1
  have hx := pt_X12_beginOne_51 (fun _ _ _ _ _ _ h => h) hr
  rw [h0] at hx
  rcases hx with ⟨-, n1, -, h1⟩ | ⟨-, n1, -, h1⟩
  · exact fin2 n1 _ h1
  · exact fin2 n1 _ h1
theorem be_x (hD : RD M tx tb pl bg) (hm : m ≤ 300) (hE : tkS b n m = 54) (hdr : dr = decide (so = 3)) (hsh : sh = decide (so = 4)) {g : Nat → Nat → Int} {i : Nat} {p : List Int} {w : Nat} (hC : RC b n M tx tb pl bg t0 so g) (hS : RS b n M pl bg m g i p w) (h20 : g M 20 = 0) (hx : g_ex ax yX12_beginOne cX12_beginOne [(0, (M : Int))] (L, g) r h) : ∃ c g', r = some (1, c) ∧ h = (L, g') ∧ BO b n M tx pl bg t0 m dr sh g i p c g' := by
  obtain ⟨ρ, N, hρ, hr⟩ := g_run_of hx
  have h0 : ρ 0 = (M : Int) := hρ (0, _) (by simp)
  have hk := TK_i hC hS.2.1
  have hk0 := hk
  obtain ⟨k54, k53, kv, -, -, k41, -, -, -, -, -, -, k48, -, -, -, -, kr⟩ := hk
  have hnm := nmo_nam (tkS b n i)
  have c14 := hC.2.2.2.2.1
  -- a value
  have val : ∀ (N : Nat) (ρ : Nat → Int), ρ 0 = (M : Int) → ((tkS b n i = 53 ∧ vlS b n i ≤ 9999 ∧ u_nam (tkS b n i) = false) ∨ (tkS b n i ≠ 53 ∧ u_nam (tkS b n i) = true ∧ u_isOf dr sh (u_cnt p : Int) (tkS b n i) = true)) → g_run RX12 ax (g_ex ax) cX12_beginOne N (51, ρ, [], L, g) r h → ∃ c g', r = some (1, c) ∧ h = (L, g') ∧ BO b n M tx pl bg t0 m dr sh g i p c g' := by
    intro N ρ h0 hv hr
    have hi : i < m := by
      have := hS.2.2.2
      by_cases h : i = m
      · rw [h, hE] at hv
        rcases hv with ⟨hv, -⟩ | ⟨-, hv, -⟩
        · omega
        · exact absurd hv (by decide)
      · omega
    obtain ⟨e1, g', w', e2, e3, e4, e5⟩ := va_51 hD hm hC hS hi h0 hr
    have so7 := set_oc (l := 7) (by decide) p
    refine ⟨0, g', e1, e2, e3, fun h => absurd rfl h, fun _ => ⟨_, w', true, e4, e5, fun res hR => r_val hv ?_⟩⟩
    rw [so7.1]
    rw [so7.2] at hR
    exact hR
  -- behind the name
  have rest : ∀ (N : Nat) (ρ : Nat → Int), ρ 0 = (M : Int) → ρ 1 = u_nmo (tkS b n i) → (tkS b n i = 53 → vlS b n i ≤ 9999) → (u_nam (tkS b n i) = true → u_isOf dr sh (u_cnt p : Int) (tkS b n i) = true) → g_run RX12 ax (g_ex ax) cX12_beginOne N (39, ρ, [], L, g) r h → ∃ c g', r = some (1, c) ∧ h = (L, g') ∧ BO b n M tx pl bg t0 m dr sh g i p c g' := by
    intro N ρ h0 h1 hv hn hr
    have hx := pt_X12_beginOne_39 (fun _ _ _ _ _ _ h => h) hr
    rw [h0, Int.toNat_natCast, h1, isW (i := 20) hk0 (by decide) (show F_X12_w3 115 117 109 g = x_wk 20 from cw_sum), isW (i := 21) hk0 (by decide) (show F_X12_w5 99 111 117 110 116 g = x_wk 21 from cw_count), isW (i := 25) hk0 (by decide) (show F_X12_w3 110 111 116 g = x_wk 25 from cw_not)] at hx
    rcases hx with ⟨c, n1, -, h51⟩ | ⟨c, hx⟩
    · have h53 : tkS b n i = 53 := k53.mpr c
      exact val n1 ρ h0 (Or.inl ⟨h53, hv h53, by rw [h53]; decide⟩) h51
    have h53 : tkS b n i ≠ 53 := fun hh => c (k53.mp hh)
    rcases hx with ⟨c2, hx⟩ | ⟨c2, n1, -, h51⟩
    · have hnn : u_nam (tkS b n i) = false := hnm.1.mp c2
      have els : (∀ N : Nat, ¬ (tkS b n i = 48) → ¬ (tkS b n i = 41) → ¬ (tkS b n i = 20) → ¬ (tkS b n i = 21) → ¬ (tkS b n i = 25 ∧ u_ask p = true) → g_run RX12 ax (g_ex ax) cX12_beginOne N (214, ρ, [], L, g) r h → ∃ c g', r = some (1, c) ∧ h = (L, g') ∧ BO b n M tx pl bg t0 m dr sh g i p c g') := by
        intro N a1 a2 a3 a4 a5 hr
        obtain ⟨n1, -, h1⟩ := pt_X12_beginOne_214 (fun _ _ _ _ _ _ h => h) hr
        obtain ⟨e1, e2⟩ := pt_X12_beginOne_215 (fun _ _ _ _ _ _ h => h) h1
        exact ⟨1, g, e1, e2, fR_rf, fun _ => ⟨rfl, r_els ⟨h53, hnn⟩ a1 a2 a3 a4 a5⟩, fun h => absurd h (by decide)⟩
      rcases hx with ⟨c3, n1, r1, k1, -, hx1, hr1⟩ | ⟨c3, hx⟩
      · obtain ⟨cc, g', e1, e2, e3⟩ := op_BO hD hm hC hS hE h20 (Or.inl ⟨k48.mpr c3, rfl⟩) hx1
        subst e1
        subst e2
        obtain ⟨e4, e5⟩ := pt_X12_beginOne_116 (fun _ _ _ _ _ _ h => h) hr1
        exact ⟨cc, g', e4, e5, e3⟩
      rcases hx with ⟨c4, n1, r1, k1, -, hx1, hr1⟩ | ⟨c4, hx⟩
      · obtain ⟨cc, g', e1, e2, e3⟩ := op_BO hD hm hC hS hE h20 (Or.inr (Or.inl ⟨k41.mpr c4, rfl⟩)) hx1
        subst e1
        subst e2
        obtain ⟨e4, e5⟩ := pt_X12_beginOne_131 (fun _ _ _ _ _ _ h => h) hr1
        exact ⟨cc, g', e4, e5, e3⟩
      have n48 : ¬ tkS b n i = 48 := fun hh => c3 (k48.mp hh)
      have n41 : ¬ tkS b n i = 41 := fun hh => c4 (k41.mp hh)
      rcases hx with ⟨c5, hx⟩ | ⟨c5, n1, r1, k1, -, hx1, hr1⟩
      · have n20 : ¬ tkS b n i = 20 := fun hh => by
          rw [if_pos (show tkS b n i = ((20 : Nat) : Int) from hh)] at c5
          cases c5
        rcases hx with ⟨c6, hx⟩ | ⟨c6, n1, r1, k1, -, hx1, hr1⟩
        · have n21 : ¬ tkS b n i = 21 := fun hh => by
            rw [if_pos (show tkS b n i = ((21 : Nat) : Int) from hh)] at c6
            cases c6
          rcases hx with ⟨c7, n1, -, h1⟩ | ⟨c7, n1, r1, k1, -, hx1, hr1⟩
          · have n25 : ¬ tkS b n i = 25 := fun hh => by
              rw [if_pos (show tkS b n i = ((25 : Nat) : Int) from hh)] at c7
              cases c7
            exact els n1 n48 n41 n20 n21 (fun hh => n25 hh.1) h1
          · have h25 : tkS b n i = 25 := by
              by_cases hh : tkS b n i = ((25 : Nat) : Int)
              · exact hh
              · rw [if_neg hh] at c7
                exact absurd rfl c7
            obtain ⟨e1, e2⟩ := aa_x hC hS.1 (by have := hS.2.2; omega) hx1
            subst e1
            subst e2
            rcases pt_X12_beginOne_202 (fun _ _ _ _ _ _ h => h) hr1 with ⟨c8, n2, -, h2⟩ | ⟨c8, n2, r2, k2, -, hx2, hr2⟩
            · refine els n2 n48 n41 n20 n21 (fun hh => ?_) h2
              rw [if_pos hh.2] at c8
              cases c8
            · have ha : u_ask p = true := by
                by_cases hh : u_ask p = true
                · exact hh
                · rw [if_neg hh] at c8
                  exact absurd rfl c8
              rw [h0] at hx2
              obtain ⟨cc, g', e1, e2, e3⟩ := op_BO hD hm hC hS hE h20 (Or.inr (Or.inr (Or.inr (Or.inr ⟨h25, rfl, ha⟩)))) hx2
              subst e1
              subst e2
              obtain ⟨n3, -, h3⟩ := pt_X12_beginOne_211 (fun _ _ _ _ _ _ h => h) hr2
              obtain ⟨e4, e5⟩ := pt_X12_beginOne_215 (fun _ _ _ _ _ _ h => h) h3
              exact ⟨cc, g', e4, e5, e3⟩
        · have h21 : tkS b n i = 21 := by
            by_cases hh : tkS b n i = ((21 : Nat) : Int)
            · exact hh
            · rw [if_neg hh] at c6
              exact absurd rfl c6
          obtain ⟨cc, g', e1, e2, e3⟩ := op_BO hD hm hC hS hE h20 (Or.inr (Or.inr (Or.inr (Or.inl ⟨h21, rfl⟩)))) hx1
          subst e1
          subst e2
          obtain ⟨e4, e5⟩ := pt_X12_beginOne_181 (fun _ _ _ _ _ _ h => h) hr1
          exact ⟨cc, g', e4, e5, e3⟩
      · have h20' : tkS b n i = 20 := by
          by_cases hh : tkS b n i = ((20 : Nat) : Int)
          · exact hh
          · rw [if_neg hh] at c5
            exact absurd rfl c5
        obtain ⟨cc, g', e1, e2, e3⟩ := op_BO hD hm hC hS hE h20 (Or.inr (Or.inr (Or.inl ⟨h20', rfl⟩))) hx1
        subst e1
        subst e2
        obtain ⟨e4, e5⟩ := pt_X12_beginOne_154 (fun _ _ _ _ _ _ h => h) hr1
        exact ⟨cc, g', e4, e5, e3⟩
    · have hy : u_nam (tkS b n i) = true := by
        cases hh : u_nam (tkS b n i) with
        | true => rfl
        | false => exact absurd (hnm.1.mpr hh) c2
      exact val n1 ρ h0 (Or.inr ⟨h53, hy, hn hy⟩) h51
  -- a name that is none there
  have at20 : ∀ (N : Nat) (ρ : Nat → Int), ρ 0 = (M : Int) → (tkS b n i = 53 → vlS b n i ≤ 9999) → g_run RX12 ax (g_ex ax) cX12_beginOne N (20, ρ, [], L, g) r h → ∃ c g', r = some (1, c) ∧ h = (L, g') ∧ BO b n M tx pl bg t0 m dr sh g i p c g' := by
    intro N ρ h0 hv hr
    have hx := pt_X12_beginOne_20 (fun _ _ _ _ _ _ h => h) hr
    rw [h0, nm_eq hk0] at hx
    rcases hx with ⟨c, n1, -, h1⟩ | ⟨c, hx⟩
    · have hnn : u_nam (tkS b n i) = false := hnm.1.mp c
      exact rest n1 _ (by rw [va_up_ne _ _ (by decide)]; exact h0) (va_up_self ..) hv (fun hh => by rw [hnn] at hh; cases hh) h1
    · have hy : u_nam (tkS b n i) = true := by
        cases hh : u_nam (tkS b n i) with
        | true => rfl
        | false => exact absurd (hnm.1.mpr hh) c
      rw [isOf_eq c14 hS.1.2.2.2.1 hdr hsh hy] at hx
      rcases hx with ⟨c2, e1, e2⟩ | ⟨c2, n1, -, h1⟩
      · have hf : u_isOf dr sh (u_cnt p : Int) (tkS b n i) = false := by
          cases hh : u_isOf dr sh (u_cnt p : Int) (tkS b n i) with
          | false => rfl
          | true =>
            rw [hh, if_pos rfl] at c2
            cases c2
        have h53 : tkS b n i ≠ 53 := fun hh => by
          rw [hh] at hy
          exact absurd hy (by decide)
        exact ⟨5, g, e1, e2, fR_rf, fun _ => ⟨rfl, r_nam hy h53 hf⟩, fun h => absurd h (by decide)⟩
      · have ht : u_isOf dr sh (u_cnt p : Int) (tkS b n i) = true := by
          cases hh : u_isOf dr sh (u_cnt p : Int) (tkS b n i) with
          | true => rfl
          | false =>
            rw [hh, if_neg (by decide)] at c2
            exact absurd rfl c2
        exact rest n1 _ (by rw [va_up_ne _ _ (by decide)]; exact h0) (va_up_self ..) hv (fun _ => ht) h1
  have hx := pt_X12_beginOne_0 (fun _ _ _ _ _ _ h => h) hr
  rw [h0, Int.toNat_natCast] at hx
  rcases hx with ⟨c, hx⟩ | ⟨c, n1, -, h1⟩
  · have h53 : tkS b n i = 53 := k53.mpr c
    obtain ⟨v0, v1, v2, v3⟩ := kv h53
    rcases hx with ⟨c2, n1, -, h1⟩ | ⟨c2, e1, e2⟩
    · exact at20 n1 ρ h0 (fun _ => by omega) h1
    · exact ⟨2, g, e1, e2, fR_rf, fun _ => ⟨rfl, r_big h53 (by omega)⟩, fun h => absurd h (by decide)⟩
  · exact at20 n1 ρ h0 (fun hh => absurd (k53.mp hh) c) h1
/-- what can stand between -/
theorem bt_x {g : Nat → Nat → Int} {i : Nat} {p : List Int} {w : Nat} (hm : m ≤ 300) (hC : RC b n M tx tb pl bg t0 so g) (hS : RS b n M pl bg m g i p w) (hx : g_ex ax yX12_betweenOf cX12_betweenOf [(0, (M : Int))] (L, g) r h) : r = some (1, u_btw (tkS b n i) p) ∧ h = (L, g) := by
  obtain ⟨ρ, N, hρ, hr⟩ := g_run_of hx
  have h0 : ρ 0 = (M : Int) := hρ (0, _) (by simp)
  have hk := TK_i hC hS.2.1
  have hk0 := hk
  obtain ⟨-, -, -, -, k40, k41, k42, k43, -⟩ := hk
  have hl : p.length ≤ 1000 := by
    have := hS.2.2
    omega
  have hx := pt_X12_betweenOf_0 (fun _ _ _ _ _ _ h => h) hr
  rw [h0, Int.toNat_natCast] at hx
  unfold u_btw
  rcases hx with ⟨c, e⟩ | ⟨c, hx⟩
  · rw [if_pos (k40.mpr c)]; exact e
  rw [if_neg (fun hh => c (k40.mp hh))]
  rcases hx with ⟨c2, e⟩ | ⟨c2, hx⟩
  · rw [if_pos (k41.mpr c2)]; exact e
  rw [if_neg (fun hh => c2 (k41.mp hh))]
  rcases hx with ⟨c3, e⟩ | ⟨c3, hx⟩
  · rw [if_pos (k42.mpr c3)]; exact e
  rw [if_neg (fun hh => c3 (k42.mp hh))]
  rcases hx with ⟨c4, e⟩ | ⟨c4, n1, r1, k1, -, hx1, hr1⟩
  · rw [if_pos (k43.mpr c4)]; exact e
  rw [if_neg (fun hh => c4 (k43.mp hh))]
  obtain ⟨e1, e2⟩ := on_x hC hS.1 hl hx1
  subst e1
  subst e2
  have hx := pt_X12_betweenOf_49 (fun _ _ _ _ _ _ h => h) hr1
  rw [h0] at hx
  rcases hx with ⟨c5, n2, r2, k2, -, hx2, hr2⟩ | ⟨c5, e⟩
  · rw [if_neg (fun hh => hh c5)]
    obtain ⟨e1, e2⟩ := ic_x hC hS.1 hl hx2
    subst e1
    subst e2
    have hx := pt_X12_betweenOf_60 (fun _ _ _ _ _ _ h => h) hr2
    rw [h0, cod_eq hk0, isW (i := 24) hk0 (by decide) (show F_X12_w3 97 110 100 g = x_wk 24 from cw_and), isW (i := 23) hk0 (by decide) (show F_X12_w2 111 114 g = x_wk 23 from cw_or)] at hx
    cases hc : u_isc p with
    | false =>
      rw [hc, if_neg (by decide)] at hx
      rcases hx with ⟨-, e⟩ | ⟨c6, -⟩
      · rw [if_pos rfl]; exact e
      · exact absurd rfl c6
    | true =>
      rw [hc, if_pos rfl] at hx
      rw [if_neg (by decide)]
      rcases hx with ⟨c6, -⟩ | ⟨-, hx⟩
      · cases c6
      · by_cases q1 : tkS b n i = 24
        · rw [if_pos (show tkS b n i = ((24 : Nat) : Int) from q1)] at hx
          rw [if_pos q1]
          rcases hx with ⟨c6, -⟩ | ⟨-, e⟩
          · cases c6
          · exact e
        · rw [if_neg (show ¬ tkS b n i = ((24 : Nat) : Int) from q1)] at hx
          rw [if_neg q1]
          rcases hx with ⟨-, hx⟩ | ⟨c6, -⟩
          · by_cases q2 : tkS b n i = 23
            · rw [if_pos (show tkS b n i = ((23 : Nat) : Int) from q2)] at hx
              rw [if_pos q2]
              rcases hx with ⟨c6, -⟩ | ⟨-, e⟩
              · cases c6
              · exact e
            · rw [if_neg (show ¬ tkS b n i = ((23 : Nat) : Int) from q2)] at hx
              rw [if_neg q2]
              rcases hx with ⟨-, e⟩ | ⟨c6, -⟩
              · exact e
              · exact absurd rfl c6
          · exact absurd rfl c6
  · rw [if_pos c5]
    exact e
end RT
