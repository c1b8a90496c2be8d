/-! The tape: feed, end, fault, by. -/
def byt (v s : Int) : Int := (Int32.ofInt ((Int32.ofInt v >>> (Int32.ofInt s &&& 31)).toInt) &&& Int32.ofInt 255).toInt
theorem byt_b (v s : Int) : 0 ≤ byt v s ∧ byt v s ≤ 255 := by
  have h := z_and (x := Int32.ofInt ((Int32.ofInt v >>> (Int32.ofInt s &&& 31)).toInt)) (m := Int32.ofInt 255) (by decide)
  have h1 := Int32.le_iff_toInt_le.mp h.1
  have h2 := Int32.le_iff_toInt_le.mp h.2
  exact ⟨h1, h2⟩
def BB (A : Nat → Int) (t : Nat) : Int := byt (A (t / 4)) (24 - 8 * ((t % 4 : Nat) : Int))
/-- four bytes behind n + k of them -/
def P4 (T c0 br n : Nat) (v : Int) (k : Nat) (g g' : Nat → Nat → Int) : Prop := g' T c0 = ((n + 4 : Nat) : Int) ∧ (∀ j, k ≤ j → j < 4 → g' br (n + j) = byt v (24 - 8 * (j : Int))) ∧ ∀ c j, ¬ (c = T ∧ j = c0) → ¬ (c = br ∧ n + k ≤ j ∧ j < n + 4) → g' c j = g c j
theorem P4_step {T c0 br n k : Nat} {v : Int} {g g' : Nat → Nat → Int} (hn : T ≠ br) (hk : k < 4) (h : P4 T c0 br n v (k + 1) (g_up (g_up g br (n + k) (byt v (24 - 8 * (k : Int)))) T c0 ((n + k + 1 : Nat) : Int)) g') : P4 T c0 br n v k g g' := by
  obtain ⟨h1, h2, h3⟩ := h
  refine ⟨h1, fun j hj hj4 => ?_, fun c j hc hb => ?_⟩
  · by_cases hjk : j = k
    · subst hjk
      rw [h3 br (n + j) (fun e => hn e.1.symm) (fun e => by omega), g_up_a (Ne.symm hn), g_up_s]
    · exact h2 j (by omega) hj4
  · rw [h3 c j hc (fun e => hb ⟨e.1, by omega, e.2.2⟩)]
    unfold g_up
    rw [if_neg (fun e => hc ⟨e.2, e.1⟩), if_neg (fun e => hb ⟨e.2, by omega, by omega⟩)]
section FD
variable {ax : zAx} {L : List Nat} {r : Option g_V} {h : g_H}
theorem ap_3 {T br n : Nat} {v : Int} (hn : T ≠ br) (h300 : n + 4 ≤ 300) : ∀ (rem k : Nat), k + rem = 4 → ∀ (N : Nat) {ρ : Nat → Int} {g : Nat → Nat → Int}, ρ 0 = (T : Int) → ρ 1 = v → ρ 2 = 24 - 8 * (k : Int) → g T 5 = (br : Int) → g T 0 = ((n + k : Nat) : Int) → g_run RX6 ax (g_ex ax) cX6_append N (3, ρ, [], L, g) r h → r = none ∧ ∃ g', h = (L, g') ∧ P4 T 0 br n v k g g' := by
  intro rem
  induction rem with
  | zero =>
    intro k hk N ρ g h0 h1 h2 hb hc hr
    have k4 : k = 4 := by omega
    subst k4
    have hx := pt_X6_append_3 (fun _ _ _ _ _ _ h => h) hr
    rw [h2] at hx
    rcases hx with ⟨-, e1, e2⟩ | ⟨c, -⟩
    · exact ⟨e1, g, e2, hc, fun j h1 h2 => by omega, fun _ _ _ _ => rfl⟩
    · exact absurd (by decide) c
  | succ rem ih =>
    intro k hk N ρ g h0 h1 h2 hb hc hr
    have hx := pt_X6_append_3 (fun _ _ _ _ _ _ h => h) hr
    have e1 : g_i (((n + k : Nat) : Int) + 1) = ((n + k + 1 : Nat) : Int) := gi_a (by omega)
    have e8 : g_i (24 - 8 * (k : Int) + -8) = 24 - 8 * ((k + 1 : Nat) : Int) := by
      rw [gi_of (by omega) (by omega)]
      omega
    simp only [h0, h1, h2, Int.toNat_natCast, hb, hc, g_up_a (b := T) (a := br) hn, e1, e8] at hx
    clear e1 e8
    rcases hx with ⟨c, -⟩ | ⟨-, hx⟩
    · omega
    rcases hx with ⟨c, -⟩ | ⟨-, hx⟩
    · omega
    obtain ⟨n1, -, hr1⟩ := hx
    obtain ⟨e1, g', e2, e3⟩ := ih (k + 1) (by omega) n1 (by rw [vu, if_neg (by decide)]; exact h0) (by rw [vu, if_neg (by decide)]; exact h1) (by rw [vu, if_pos rfl]) (by rw [g_up_j (by decide), g_up_a hn]; exact hb) (by rw [g_up_s]; rfl) hr1
    exact ⟨e1, g', e2, P4_step hn (by omega) e3⟩
theorem ap_x {T br n : Nat} {v : Int} (hn : T ≠ br) (h300 : n + 4 ≤ 300) {g : Nat → Nat → Int} (hb : g T 5 = (br : Int)) (hc : g T 0 = (n : Int)) (hx : g_ex ax yX6_append cX6_append [(0, (T : Int)), (1, v)] (L, g) r h) : r = none ∧ ∃ g', h = (L, g') ∧ P4 T 0 br n v 0 g g' := by
  obtain ⟨ρ, N, hρ, hr⟩ := g_run_of hx
  obtain ⟨n1, -, hr1⟩ := pt_X6_append_0 (fun _ _ _ _ _ _ h => h) hr
  exact ap_3 hn h300 4 0 rfl n1 (by rw [vu, if_neg (by decide)]; exact hρ (0, _) (by simp)) (by rw [vu, if_neg (by decide)]; exact hρ (1, _) (by simp)) (by rw [vu, if_pos rfl]; rfl) hb hc hr1
theorem fo_3 {T br n : Nat} {v : Int} (hn : T ≠ br) (h300 : n + 4 ≤ 300) : ∀ (rem k : Nat), k + rem = 4 → ∀ (N : Nat) {ρ : Nat → Int} {g : Nat → Nat → Int}, ρ 0 = (T : Int) → ρ 1 = v → ρ 2 = 24 - 8 * (k : Int) → g T 3 = (br : Int) → g T 4 = ((n + k : Nat) : Int) → g_run RX12 ax (g_ex ax) cX12_four N (3, ρ, [], L, g) r h → r = none ∧ ∃ g', h = (L, g') ∧ P4 T 4 br n v k g g' := by
  intro rem
  induction rem with
  | zero =>
    intro k hk N ρ g h0 h1 h2 hb hc hr
    have k4 : k = 4 := by omega
    subst k4
    have hx := pt_X12_four_3 (fun _ _ _ _ _ _ h => h) hr
    rw [h2] at hx
    rcases hx with ⟨-, e1, e2⟩ | ⟨c, -⟩
    · exact ⟨e1, g, e2, hc, fun j h1 h2 => by omega, fun _ _ _ _ => rfl⟩
    · exact absurd (by decide) c
  | succ rem ih =>
    intro k hk N ρ g h0 h1 h2 hb hc hr
    have hx := pt_X12_four_3 (fun _ _ _ _ _ _ h => h) hr
    have e1 : g_i (((n + k : Nat) : Int) + 1) = ((n + k + 1 : Nat) : Int) := gi_a (by omega)
    have e8 : g_i (24 - 8 * (k : Int) + -8) = 24 - 8 * ((k + 1 : Nat) : Int) := by
      rw [gi_of (by omega) (by omega)]
      omega
    simp only [h0, h1, h2, Int.toNat_natCast, hb, hc, g_up_a (b := T) (a := br) hn, e1, e8] at hx
    clear e1 e8
    rcases hx with ⟨c, -⟩ | ⟨-, hx⟩
    · omega
    obtain ⟨n1, -, hr1⟩ := hx
    obtain ⟨e1, g', e2, e3⟩ := ih (k + 1) (by omega) n1 (by rw [vu, if_neg (by decide)]; exact h0) (by rw [vu, if_neg (by decide)]; exact h1) (by rw [vu, if_pos rfl]) (by rw [g_up_j (by decide), g_up_a hn]; exact hb) (by rw [g_up_s]; rfl) hr1
    exact ⟨e1, g', e2, P4_step hn (by omega) e3⟩
theorem fo_x {T br n : Nat} {v : Int} (hn : T ≠ br) (h300 : n + 4 ≤ 300) {g : Nat → Nat → Int} (hb : g T 3 = (br : Int)) (hc : g T 4 = (n : Int)) (hx : g_ex ax yX12_four cX12_four [(0, (T : Int)), (1, v)] (L, g) r h) : r = none ∧ ∃ g', h = (L, g') ∧ P4 T 4 br n v 0 g g' := by
  obtain ⟨ρ, N, hρ, hr⟩ := g_run_of hx
  obtain ⟨n1, -, hr1⟩ := pt_X12_four_0 (fun _ _ _ _ _ _ h => h) hr
  exact fo_3 hn h300 4 0 rfl n1 (by rw [vu, if_neg (by decide)]; exact hρ (0, _) (by simp)) (by rw [vu, if_neg (by decide)]; exact hρ (1, _) (by simp)) (by rw [vu, if_pos rfl]; rfl) hb hc hr1
/-- so many fours -/
def P20 (T c0 br n : Nat) (A : Nat → Int) (i : Nat) (g g' : Nat → Nat → Int) : Prop := g' T c0 = ((n + 4 * i : Nat) : Int) ∧ (∀ t, t < 4 * i → g' br (n + t) = BB A t) ∧ ∀ c j, ¬ (c = T ∧ j = c0) → ¬ (c = br ∧ n ≤ j ∧ j < n + 4 * i) → g' c j = g c j
theorem P20_step {T c0 br n i : Nat} {A : Nat → Int} {g g1 g2 : Nat → Nat → Int} (hn : T ≠ br) (h : P20 T c0 br n A i g g1) (h4 : P4 T c0 br (n + 4 * i) (A i) 0 g1 g2) : P20 T c0 br n A (i + 1) g g2 := by
  obtain ⟨a1, a2, a3⟩ := h
  obtain ⟨b1, b2, b3⟩ := h4
  refine ⟨by rw [b1]; congr 1, fun t ht => ?_, fun c j hc hb => ?_⟩
  · by_cases h1 : t < 4 * i
    · rw [b3 br (n + t) (fun e => hn e.1.symm) (fun e => by omega), a2 t h1]
    · have := b2 (t - 4 * i) (Nat.zero_le _) (by omega)
      rw [show n + 4 * i + (t - 4 * i) = n + t by omega] at this
      rw [this]
      unfold BB
      rw [show t / 4 = i by omega, show t % 4 = t - 4 * i by omega]
  · rw [b3 c j hc (fun e => hb ⟨e.1, by omega, by omega⟩), a3 c j hc (fun e => hb ⟨e.1, by omega, by omega⟩)]
theorem fdc_x {O T br n : Nat} {A : Nat → Int} (hn : T ≠ br) (hO : O ≠ T) (hOb : O ≠ br) (h300 : n ≤ 300) {g : Nat → Nat → Int} (hOT : g O 2 = (T : Int)) (hb : g T 5 = (br : Int)) (hc : g T 0 = (n : Int)) (hx : g_ex ax yX11_feed cX11_feed [(0, (O : Int)), (1, A 0), (2, A 1), (3, A 2), (4, A 3), (5, A 4)] (L, g) r h) : (n + 20 ≤ 300 ∧ r = some (1, ((n + 20 : Nat) : Int)) ∧ ∃ g', h = (L, g') ∧ P20 T 0 br n A 5 g g') ∨ (¬ n + 20 ≤ 300 ∧ r = some (1, -1) ∧ h = (L, g)) := by
  obtain ⟨ρ, N, hρ, hr⟩ := g_run_of hx
  have h0 : ρ 0 = (O : Int) := hρ (0, _) (by simp)
  have v0 : ρ 1 = A 0 := hρ (1, _) (by simp)
  have v1 : ρ 2 = A 1 := hρ (2, _) (by simp)
  have v2 : ρ 3 = A 2 := hρ (3, _) (by simp)
  have v3 : ρ 4 = A 3 := hρ (4, _) (by simp)
  have v4 : ρ 5 = A 4 := hρ (5, _) (by simp)
  have hCE : ∀ y cc as h r h', g_ex ax y cc as h r h' → g_ex ax y cc as h r h' := fun _ _ _ _ _ _ h => h
  have hx := pt_X11_feed_0 hCE hr
  have e20 : g_i ((n : Int) + 20) = ((n + 20 : Nat) : Int) := by
    rw [gi_of (by omega) (by omega)]
    omega
  rw [h0, Int.toNat_natCast, hOT, Int.toNat_natCast, hc, e20] at hx
  clear e20
  rcases hx with ⟨c, n1, r1, k1, -, hx1, hr1⟩ | ⟨c, e1, e2⟩
  rotate_left
  · exact Or.inr ⟨by omega, e1, e2⟩
  have hle : n + 20 ≤ 300 := by omega
  refine Or.inl ⟨hle, ?_⟩
  have z0 : P20 T 0 br n A 0 g g := ⟨hc, fun t ht => absurd ht (by omega), fun _ _ _ _ => rfl⟩
  rw [v0] at hx1
  obtain ⟨a1, g1, b1, w1⟩ := ap_x hn (n := n + 4 * 0) (by omega) (z0.2.2 T 5 (by omega) (fun e => hn e.1) |>.trans hb) z0.1 hx1
  subst a1
  subst b1
  have z1 := P20_step hn z0 w1
  have o1 : g1 O 2 = (T : Int) := (z1.2.2 O 2 (fun e => hO e.1) (fun e => hOb e.1)).trans hOT
  obtain ⟨n2, r2, k2, -, hx2, hr2⟩ := pt_X11_feed_26 hCE hr1
  rw [h0, Int.toNat_natCast, o1] at hx2
  rw [v1] at hx2
  obtain ⟨a2, g2, b2, w2⟩ := ap_x hn (n := n + 4 * 1) (by omega) (z1.2.2 T 5 (by omega) (fun e => hn e.1) |>.trans hb) z1.1 hx2
  subst a2
  subst b2
  have z2 := P20_step hn z1 w2
  have o2 : g2 O 2 = (T : Int) := (z2.2.2 O 2 (fun e => hO e.1) (fun e => hOb e.1)).trans hOT
  obtain ⟨n3, r3, k3, -, hx3, hr3⟩ := pt_X11_feed_34 hCE hr2
  rw [h0, Int.toNat_natCast, o2] at hx3
  rw [v2] at hx3
  obtain ⟨a3, g3, b3, w3⟩ := ap_x hn (n := n + 4 * 2) (by omega) (z2.2.2 T 5 (by omega) (fun e => hn e.1) |>.trans hb) z2.1 hx3
  subst a3
  subst b3
  have z3 := P20_step hn z2 w3
  have o3 : g3 O 2 = (T : Int) := (z3.2.2 O 2 (fun e => hO e.1) (fun e => hOb e.1)).trans hOT
  obtain ⟨n4, r4, k4, -, hx4, hr4⟩ := pt_X11_feed_42 hCE hr3
  rw [h0, Int.toNat_natCast, o3] at hx4
  rw [v3] at hx4
  obtain ⟨a4, g4, b4, w4⟩ := ap_x hn (n := n + 4 * 3) (by omega) (z3.2.2 T 5 (by omega) (fun e => hn e.1) |>.trans hb) z3.1 hx4
  subst a4
  subst b4
  have z4 := P20_step hn z3 w4
  have o4 : g4 O 2 = (T : Int) := (z4.2.2 O 2 (fun e => hO e.1) (fun e => hOb e.1)).trans hOT
  obtain ⟨n5, r5, k5, -, hx5, hr5⟩ := pt_X11_feed_51 hCE hr4
  rw [h0, Int.toNat_natCast, o4] at hx5
  rw [v4] at hx5
  obtain ⟨a5, g5, b5, w5⟩ := ap_x hn (n := n + 4 * 4) (by omega) (z4.2.2 T 5 (by omega) (fun e => hn e.1) |>.trans hb) z4.1 hx5
  subst a5
  subst b5
  have z5 := P20_step hn z4 w5
  obtain ⟨e1, e2⟩ := pt_X11_feed_60 hCE hr5
  have o5 : g5 O 2 = (T : Int) := (z5.2.2 O 2 (fun e => hO e.1) (fun e => hOb e.1)).trans hOT
  rw [h0, Int.toNat_natCast, o5, Int.toNat_natCast, z5.1] at e1
  exact ⟨e1, g5, e2, z5⟩
theorem fdm_x {T br n : Nat} {A : Nat → Int} (hn : T ≠ br) (h300 : n ≤ 300) {g : Nat → Nat → Int} (hb : g T 3 = (br : Int)) (hc : g T 4 = (n : Int)) (hx : g_ex ax yX12_feed cX12_feed [(0, (T : Int)), (1, A 0), (2, A 1), (3, A 2), (4, A 3), (5, A 4)] (L, g) r h) : (n + 20 ≤ 300 ∧ r = some (1, ((n + 20 : Nat) : Int)) ∧ ∃ g', h = (L, g') ∧ P20 T 4 br n A 5 g g') ∨ (¬ n + 20 ≤ 300 ∧ r = some (1, -1) ∧ h = (L, g)) := by
  obtain ⟨ρ, N, hρ, hr⟩ := g_run_of hx
  have h0 : ρ 0 = (T : Int) := hρ (0, _) (by simp)
  have v0 : ρ 1 = A 0 := hρ (1, _) (by simp)
  have v1 : ρ 2 = A 1 := hρ (2, _) (by simp)
  have v2 : ρ 3 = A 2 := hρ (3, _) (by simp)
  have v3 : ρ 4 = A 3 := hρ (4, _) (by simp)
  have v4 : ρ 5 = A 4 := hρ (5, _) (by simp)
  have hCE : ∀ y cc as h r h', g_ex ax y cc as h r h' → g_ex ax y cc as h r h' := fun _ _ _ _ _ _ h => h
  have hx := pt_X12_feed_0 hCE hr
  have e20 : g_i ((n : Int) + 20) = ((n + 20 : Nat) : Int) := by
    rw [gi_of (by omega) (by omega)]
    omega
  rw [h0, Int.toNat_natCast, hc, e20] at hx
  clear e20
  rcases hx with ⟨c, n1, r1, k1, -, hx1, hr1⟩ | ⟨c, e1, e2⟩
  rotate_left
  · exact Or.inr ⟨by omega, e1, e2⟩
  have hle : n + 20 ≤ 300 := by omega
  refine Or.inl ⟨hle, ?_⟩
  have z0 : P20 T 4 br n A 0 g g := ⟨hc, fun t ht => absurd ht (by omega), fun _ _ _ _ => rfl⟩
  rw [v0] at hx1
  obtain ⟨a1, g1, b1, w1⟩ := fo_x hn (n := n + 4 * 0) (by omega) (z0.2.2 T 3 (by omega) (fun e => hn e.1) |>.trans hb) z0.1 hx1
  subst a1
  subst b1
  have z1 := P20_step hn z0 w1
  obtain ⟨n2, r2, k2, -, hx2, hr2⟩ := pt_X12_feed_20 hCE hr1
  rw [h0] at hx2
  rw [v1] at hx2
  obtain ⟨a2, g2, b2, w2⟩ := fo_x hn (n := n + 4 * 1) (by omega) (z1.2.2 T 3 (by omega) (fun e => hn e.1) |>.trans hb) z1.1 hx2
  subst a2
  subst b2
  have z2 := P20_step hn z1 w2
  obtain ⟨n3, r3, k3, -, hx3, hr3⟩ := pt_X12_feed_25 hCE hr2
  rw [h0] at hx3
  rw [v2] at hx3
  obtain ⟨a3, g3, b3, w3⟩ := fo_x hn (n := n + 4 * 2) (by omega) (z2.2.2 T 3 (by omega) (fun e => hn e.1) |>.trans hb) z2.1 hx3
  subst a3
  subst b3
  have z3 := P20_step hn z2 w3
  obtain ⟨n4, r4, k4, -, hx4, hr4⟩ := pt_X12_feed_30 hCE hr3
  rw [h0] at hx4
  rw [v3] at hx4
  obtain ⟨a4, g4, b4, w4⟩ := fo_x hn (n := n + 4 * 3) (by omega) (z3.2.2 T 3 (by omega) (fun e => hn e.1) |>.trans hb) z3.1 hx4
  subst a4
  subst b4
  have z4 := P20_step hn z3 w4
  obtain ⟨n5, r5, k5, -, hx5, hr5⟩ := pt_X12_feed_36 hCE hr4
  rw [h0] at hx5
  rw [v4] at hx5
  obtain ⟨a5, g5, b5, w5⟩ := fo_x hn (n := n + 4 * 4) (by omega) (z4.2.2 T 3 (by omega) (fun e => hn e.1) |>.trans hb) z4.1 hx5
  subst a5
  subst b5
  have z5 := P20_step hn z4 w5
  obtain ⟨e1, e2⟩ := pt_X12_feed_42 hCE hr5
  rw [h0, Int.toNat_natCast, z5.1] at e1
  exact ⟨e1, g5, e2, z5⟩
end FD
