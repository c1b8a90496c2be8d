/-! State and OwnRain: their constructors. -/
theorem pdi_X0 : (parseMethodDescriptor yX0_init.desc).map (fun d => d.parameters.length) = some 0 := by decide +kernel
theorem pdi_X10 : (parseMethodDescriptor yX10_init.desc).map (fun d => d.parameters.length) = some 0 := by decide +kernel
theorem pdi_X5 : (parseMethodDescriptor yX5_init.desc).map (fun d => d.parameters.length) = some 0 := by decide +kernel
theorem pdi_X1 : (parseMethodDescriptor yX1_init.desc).map (fun d => d.parameters.length) = some 0 := by decide +kernel
theorem pdi_X4 : (parseMethodDescriptor yX4_init.desc).map (fun d => d.parameters.length) = some 0 := by decide +kernel
theorem pdi_X6 : (parseMethodDescriptor yX6_init.desc).map (fun d => d.parameters.length) = some 0 := by decide +kernel
theorem pdi_X3 : (parseMethodDescriptor yX3_init.desc).map (fun d => d.parameters.length) = some 1 := by decide +kernel
theorem pdi_X9 : (parseMethodDescriptor yX9_init.desc).map (fun d => d.parameters.length) = some 1 := by decide +kernel
theorem pdi_X2 : (parseMethodDescriptor yX2_init.desc).map (fun d => d.parameters.length) = some 2 := by decide +kernel
theorem pdi_X8 : (parseMethodDescriptor yX8_init.desc).map (fun d => d.parameters.length) = some 1 := by decide +kernel
def sS40 : List Nat := (((([] ++ (41 :: ([42, 43, 44, 45, 46, 47, 48, 49]))) ++ (50 :: ([50 + 1, 50 + 2, 50 + 3, 50 + 4, 50 + 5, 50 + 6, 50 + 7, 50 + 8]))) ++ (59 :: ([] ++ (60 :: ([61] ++ wS (fun _ => 1) 30))))) ++ (62 :: ([63, 64, 65, 66, 67, 68, 69, 70]))) ++ [71]
theorem n_S40 {X0 : zC0} {B : Int} {K : Nat → Nat} {L : List Nat} {f : Nat → va_E} {w : Nat} (hw : w ∈ L) (hf : f w = .inr (4, [.null, .null, .null, .null, .null, .int 0, .int 0])) : eM X0 3 yX4_init cX4_init 1 none (zrm 3 301 3844) [.ref w] L f (fun _ u => ∃ (A : List Nat) (K1 : Nat → Nat), GR X0.2.2.1 B L K f w u.1 A sS40 K1 u.2 ∧ cok X0.2.2.1 K1 B u.1 40 (u.2 w) ∧ ∃ li : Nat, li ∈ u.1 ∧ K1 li = 62 ∧ gi (u.2 li) 1 = 0 ∧ gi (u.2 li) 2 = 0) := by
  obtain ⟨l0, D0, cy0, ax0⟩ := X0
  refine eM.mk rfl pnX4 (Nat.le_of_ble_eq_true rfl) (fun E hE hin hret => ?_)
  have hI := hin rfl
  have g0 : GR cy0 B L K f w L [] [] K f := GR.rf
  have h0 := hf
  refine x_aload_n hE (z := 0) (i := 0) (x := w) (by decide +kernel) rfl (by simp [lv_args, Value.category]) ?_
  refine x_objinit hE q147 q140 q141 (by decide +kernel) (by decide) (by decide) ?_
  refine x_aload_n hE (z := 0) (i := 0) (x := w) (by decide +kernel) rfl (by simp [lv_args, Value.category]) ?_
  refine h_new (ci := 0) (fs := [.int 0, .int 0, .null, .null, .null, .null, .null, .null, .null, .null]) (ty0 := tyX0) hE rfl inZX0 tyX0_ok q148 q149 q115 (by decide +kernel) (Nat.le_of_ble_eq_true rfl) (Nat.le_of_ble_eq_true rfl) (by decide +kernel) (fun w1 nq1 => ?_)
  refine x_dup hE (by decide +kernel) rfl ?_
  have nw1 : w ≠ w1 := fun e => nq1 (by rw [← e]; exact g0.sub hw)
  have M1 := n_X0 (X0 := (l0, D0, cy0, ax0)) (B := B) (K := va_up K w1 41) (L := L ++ [w1]) (f := va_up f w1 (.inr (0, [.int 0, .int 0, .null, .null, .null, .null, .null, .null, .null, .null]))) (w := w1) (kw := 41) (k1 := 42) (k2 := 43) (k3 := 44) (k4 := 45) (k5 := 46) (k6 := 47) (k7 := 48) (k8 := 49) (List.mem_append_right _ (List.mem_singleton.mpr rfl)) (va_up_self _ _ _) rfl (okI_of rfl rfl (fun _ => rfl) (by decide) (by decide)) (okI_of rfl rfl (fun _ => rfl) (by decide) (by decide)) (okI_of rfl rfl (fun _ => rfl) (by decide) (by decide)) (okI_of rfl rfl (fun _ => rfl) (by decide) (by decide)) (okI_of rfl rfl (fun _ => rfl) (by decide) (by decide)) (okI_of rfl rfl (fun _ => rfl) (by decide) (by decide)) (okI_of rfl rfl (fun _ => rfl) (by decide) (by decide)) (okI_of rfl rfl (fun _ => rfl) (by decide) (by decide)) (by decide) (by decide)
  refine c_all hE (r_IN (st := [.ref w1, .ref w]) hE M1 (List.mem_of_getElem? (i := 1) rfl) q151 q115 q152 rfl ⟨by decide +kernel, by decide +kernel, pdi_X0⟩ ⟨by decide, by decide⟩ ⟨Nat.le_of_ble_eq_true rfl, Nat.le_of_ble_eq_true rfl⟩ rfl (by simp [Value.category]) (by decide +kernel)) (fun r1 L1 f1 ht1 hp1 => ?_)
  obtain rfl : r1 = none := ht1
  obtain ⟨A1, K1, c1, k1⟩ := hp1
  obtain ⟨g1, o1, i1, e1⟩ := GR.obj g0 nq1 c1 k1
  dsimp only at g1 o1 i1
  have h1 : f1 w = .inr (4, [.null, .null, .null, .null, .null, .int 0, .int 0]) := (o1 w (g0.sub hw)).2.2.trans h0
  clear c1 k1
  have m1_w1 : w1 ∈ L1 ∧ K1 w1 = 41 := ⟨i1, e1⟩
  refine n_put (ci := 4) (j := 0) hE hI g1 hw h1 rfl inZX4 tyX4_ok nmX4 (by decide) (by show 0 < 7; decide) rfl q361 rfl rfl (by decide +kernel) (fun f2 g2 h2 u2 => ?_)
  replace h2 : f2 w = .inr (4, [.ref w1, .null, .null, .null, .null, .int 0, .int 0]) := h2
  refine x_aload_n hE (z := 0) (i := 0) (x := w) (by decide +kernel) rfl (by simp [lv_args, Value.category]) ?_
  refine h_new (ci := 10) (fs := [.null, .null, .null, .null, .null, .null, .int 0, .int 0, .int 0, .int 0, .int 0, .int 0, .int 0, .null, .null]) (ty0 := tyX10) hE rfl inZX10 tyX10_ok q208 q209 q116 (by decide +kernel) (Nat.le_of_ble_eq_true rfl) (Nat.le_of_ble_eq_true rfl) (by decide +kernel) (fun w3 nq3 => ?_)
  refine x_dup hE (by decide +kernel) rfl ?_
  have nw3 : w ≠ w3 := fun e => nq3 (by rw [← e]; exact g2.sub hw)
  have M3 := n_W (X0 := (l0, D0, cy0, ax0)) (B := B) (K := va_up K1 w3 50) (L := L1 ++ [w3]) (f := va_up f2 w3 (.inr (10, [.null, .null, .null, .null, .null, .null, .int 0, .int 0, .int 0, .int 0, .int 0, .int 0, .int 0, .null, .null]))) (w := w3) (b := 50) WK50 (List.mem_append_right _ (List.mem_singleton.mpr rfl)) (va_up_self _ _ _)
  refine c_all hE (r_IN (st := [.ref w3, .ref w]) hE M3 (List.mem_of_getElem? (i := 2) rfl) q211 q116 q212 rfl ⟨by decide +kernel, by decide +kernel, pdi_X10⟩ ⟨by decide, by decide⟩ ⟨Nat.le_of_ble_eq_true rfl, Nat.le_of_ble_eq_true rfl⟩ rfl (by simp [Value.category]) (by decide +kernel)) (fun r3 L3 f3 ht3 hp3 => ?_)
  obtain rfl : r3 = none := ht3
  obtain ⟨A3, K3, c3, k3⟩ := hp3
  obtain ⟨g3, o3, i3, e3⟩ := GR.obj g2 nq3 c3 k3
  dsimp only at g3 o3 i3
  have h3 : f3 w = .inr (4, [.ref w1, .null, .null, .null, .null, .int 0, .int 0]) := (o3 w (g2.sub hw)).2.2.trans h2
  clear c3 k3
  have m3_w1 : w1 ∈ L3 ∧ K3 w1 = 41 := ⟨(o3 w1 m1_w1.1).1, (o3 w1 m1_w1.1).2.1.trans m1_w1.2⟩
  have m3_w3 : w3 ∈ L3 ∧ K3 w3 = 50 := ⟨i3, e3⟩
  refine n_put (ci := 4) (j := 1) hE hI g3 hw h3 rfl inZX4 tyX4_ok nmX4 (by decide) (by show 1 < 7; decide) rfl q366 rfl rfl (by decide +kernel) (fun f4 g4 h4 u4 => ?_)
  replace h4 : f4 w = .inr (4, [.ref w1, .ref w3, .null, .null, .null, .int 0, .int 0]) := h4
  refine x_aload_n hE (z := 0) (i := 0) (x := w) (by decide +kernel) rfl (by simp [lv_args, Value.category]) ?_
  refine h_new (ci := 5) (fs := [.int 0, .int 0, .null, .null]) (ty0 := tyX5) hE rfl inZX5 tyX5_ok q288 q289 q117 (by decide +kernel) (Nat.le_of_ble_eq_true rfl) (Nat.le_of_ble_eq_true rfl) (by decide +kernel) (fun w5 nq5 => ?_)
  refine x_dup hE (by decide +kernel) rfl ?_
  have nw5 : w ≠ w5 := fun e => nq5 (by rw [← e]; exact g4.sub hw)
  have M5 := n_X5 (X0 := (l0, D0, cy0, ax0)) (B := B) (K := va_up K3 w5 59) (L := L3 ++ [w5]) (f := va_up f4 w5 (.inr (5, [.int 0, .int 0, .null, .null]))) (w := w5) (kw := 59) (kW := 60) (k1 := 61) (kb := fun _ => 1) (List.mem_append_right _ (List.mem_singleton.mpr rfl)) (va_up_self _ _ _) rfl ⟨rfl, rfl⟩ (fun _ _ => ⟨WK1, rfl⟩) (okI_of rfl rfl (fun _ => rfl) (by decide) (by decide)) (by decide) (by decide)
  refine c_all hE (r_I (st := [.ref w5, .ref w]) hE M5 q290 q291 q117 q292 rfl ⟨by decide +kernel, by decide +kernel, pdi_X5⟩ ⟨by decide, by decide⟩ ⟨Nat.le_of_ble_eq_true rfl, Nat.le_of_ble_eq_true rfl⟩ rfl (by simp [Value.category]) (by decide +kernel)) (fun r5 L5 f5 ht5 hp5 => ?_)
  obtain rfl : r5 = none := ht5
  obtain ⟨A5, K5, c5, k5⟩ := hp5
  obtain ⟨g5, o5, i5, e5⟩ := GR.obj g4 nq5 c5 k5
  dsimp only at g5 o5 i5
  have h5 : f5 w = .inr (4, [.ref w1, .ref w3, .null, .null, .null, .int 0, .int 0]) := (o5 w (g4.sub hw)).2.2.trans h4
  clear c5 k5
  have m5_w1 : w1 ∈ L5 ∧ K5 w1 = 41 := ⟨(o5 w1 m3_w1.1).1, (o5 w1 m3_w1.1).2.1.trans m3_w1.2⟩
  have m5_w3 : w3 ∈ L5 ∧ K5 w3 = 50 := ⟨(o5 w3 m3_w3.1).1, (o5 w3 m3_w3.1).2.1.trans m3_w3.2⟩
  have m5_w5 : w5 ∈ L5 ∧ K5 w5 = 59 := ⟨i5, e5⟩
  refine n_put (ci := 4) (j := 2) hE hI g5 hw h5 rfl inZX4 tyX4_ok nmX4 (by decide) (by show 2 < 7; decide) rfl q370 rfl rfl (by decide +kernel) (fun f6 g6 h6 u6 => ?_)
  replace h6 : f6 w = .inr (4, [.ref w1, .ref w3, .ref w5, .null, .null, .int 0, .int 0]) := h6
  refine x_aload_n hE (z := 0) (i := 0) (x := w) (by decide +kernel) rfl (by simp [lv_args, Value.category]) ?_
  refine h_new (ci := 1) (fs := [.int 0, .int 0, .int 0, .null, .null, .null, .null, .null, .null, .null, .null]) (ty0 := tyX1) hE rfl inZX1 tyX1_ok q312 q313 q118 (by decide +kernel) (Nat.le_of_ble_eq_true rfl) (Nat.le_of_ble_eq_true rfl) (by decide +kernel) (fun w7 nq7 => ?_)
  refine x_dup hE (by decide +kernel) rfl ?_
  have nw7 : w ≠ w7 := fun e => nq7 (by rw [← e]; exact g6.sub hw)
  have M7 := n_X1 (X0 := (l0, D0, cy0, ax0)) (B := B) (K := va_up K5 w7 62) (L := L5 ++ [w7]) (f := va_up f6 w7 (.inr (1, [.int 0, .int 0, .int 0, .null, .null, .null, .null, .null, .null, .null, .null]))) (w := w7) (kw := 62) (k1 := 63) (k2 := 64) (k3 := 65) (k4 := 66) (k5 := 67) (k6 := 68) (k7 := 69) (k8 := 70) (List.mem_append_right _ (List.mem_singleton.mpr rfl)) (va_up_self _ _ _) rfl (okI_of rfl rfl (fun _ => rfl) (by decide) (by decide)) (okI_of rfl rfl (fun _ => rfl) (by decide) (by decide)) (okI_of rfl rfl (fun _ => rfl) (by decide) (by decide)) (okI_of rfl rfl (fun _ => rfl) (by decide) (by decide)) ⟨rfl, rfl⟩ ⟨rfl, rfl⟩ (okI_of rfl rfl (fun _ => rfl) (by decide) (by decide)) (okI_of rfl rfl (fun _ => rfl) (by decide) (by decide)) (by decide) (by decide) (by decide)
  refine c_all hE (r_IN (st := [.ref w7, .ref w]) hE M7 (List.mem_of_getElem? (i := 4) rfl) q315 q118 q316 rfl ⟨by decide +kernel, by decide +kernel, pdi_X1⟩ ⟨by decide, by decide⟩ ⟨Nat.le_of_ble_eq_true rfl, Nat.le_of_ble_eq_true rfl⟩ rfl (by simp [Value.category]) (by decide +kernel)) (fun r7 L7 f7 ht7 hp7 => ?_)
  obtain rfl : r7 = none := ht7
  obtain ⟨A7, K7, c7, k7, x7⟩ := hp7
  obtain ⟨g7, o7, i7, e7⟩ := GR.obj g6 nq7 c7 k7
  dsimp only at g7 o7 i7 x7
  have h7 : f7 w = .inr (4, [.ref w1, .ref w3, .ref w5, .null, .null, .int 0, .int 0]) := (o7 w (g6.sub hw)).2.2.trans h6
  clear c7 k7
  have m7_w1 : w1 ∈ L7 ∧ K7 w1 = 41 := ⟨(o7 w1 m5_w1.1).1, (o7 w1 m5_w1.1).2.1.trans m5_w1.2⟩
  have m7_w3 : w3 ∈ L7 ∧ K7 w3 = 50 := ⟨(o7 w3 m5_w3.1).1, (o7 w3 m5_w3.1).2.1.trans m5_w3.2⟩
  have m7_w5 : w5 ∈ L7 ∧ K7 w5 = 59 := ⟨(o7 w5 m5_w5.1).1, (o7 w5 m5_w5.1).2.1.trans m5_w5.2⟩
  have m7_w7 : w7 ∈ L7 ∧ K7 w7 = 62 := ⟨i7, e7⟩
  have lw7 : w7 ≠ w := Ne.symm nw7
  refine n_put (ci := 4) (j := 3) hE hI g7 hw h7 rfl inZX4 tyX4_ok nmX4 (by decide) (by show 3 < 7; decide) rfl q372 rfl rfl (by decide +kernel) (fun f8 g8 h8 u8 => ?_)
  replace h8 : f8 w = .inr (4, [.ref w1, .ref w3, .ref w5, .ref w7, .null, .int 0, .int 0]) := h8
  have li8 : gi (f8 w7) 1 = 0 ∧ gi (f8 w7) 2 = 0 := by rw [u8 w7 lw7]; exact x7
  refine x_aload_n hE (z := 0) (i := 0) (x := w) (by decide +kernel) rfl (by simp [lv_args, Value.category]) ?_
  refine x_iconst hE (i := 4) (v := 4) (by decide +kernel) rfl ?_
  refine h_newq hE q359 (t0 := 3) (N0 := 4) (fun _ => rfl) (Or.inl rfl) (by decide) rfl (by decide) (Nat.le_of_ble_eq_true rfl) (Nat.le_of_ble_eq_true rfl) (by decide +kernel) (fun q9 nq9 => ?_)
  have nw9 : w ≠ q9 := fun e => nq9 (by rw [← e]; exact g8.sub hw)
  have g9 := g8.row (kq := 71) (e := zRA (cy0 3) 4 (fun _ => none)) nq9 ⟨fun _ => none, rfl, fun i b hb => (by cases hb)⟩
  have h9 : va_up f8 q9 (zRA (cy0 3) 4 (fun _ => none)) w = .inr (4, [.ref w1, .ref w3, .ref w5, .ref w7, .null, .int 0, .int 0]) := (va_up_ne _ _ nw9).trans h8
  have nn9_w1 : w1 ≠ q9 := fun e => nq9 (by rw [← e]; exact m7_w1.1)
  have m9_w1 : w1 ∈ L7 ++ [q9] ∧ va_up K7 q9 71 w1 = 41 := ⟨List.mem_append_left _ m7_w1.1, (va_up_ne _ _ nn9_w1).trans m7_w1.2⟩
  have nn9_w3 : w3 ≠ q9 := fun e => nq9 (by rw [← e]; exact m7_w3.1)
  have m9_w3 : w3 ∈ L7 ++ [q9] ∧ va_up K7 q9 71 w3 = 50 := ⟨List.mem_append_left _ m7_w3.1, (va_up_ne _ _ nn9_w3).trans m7_w3.2⟩
  have nn9_w5 : w5 ≠ q9 := fun e => nq9 (by rw [← e]; exact m7_w5.1)
  have m9_w5 : w5 ∈ L7 ++ [q9] ∧ va_up K7 q9 71 w5 = 59 := ⟨List.mem_append_left _ m7_w5.1, (va_up_ne _ _ nn9_w5).trans m7_w5.2⟩
  have nn9_w7 : w7 ≠ q9 := fun e => nq9 (by rw [← e]; exact m7_w7.1)
  have m9_w7 : w7 ∈ L7 ++ [q9] ∧ va_up K7 q9 71 w7 = 62 := ⟨List.mem_append_left _ m7_w7.1, (va_up_ne _ _ nn9_w7).trans m7_w7.2⟩
  have m9_q9 : q9 ∈ L7 ++ [q9] ∧ va_up K7 q9 71 q9 = 71 := ⟨List.mem_append_right _ (List.mem_singleton.mpr rfl), va_up_self _ _ _⟩
  have li9 : gi (va_up f8 q9 (zRA (cy0 3) 4 (fun _ => none)) w7) 1 = 0 ∧ gi (va_up f8 q9 (zRA (cy0 3) 4 (fun _ => none)) w7) 2 = 0 := by rw [va_up_ne _ _ nn9_w7]; exact li8
  refine n_put (ci := 4) (j := 4) hE hI g9 hw h9 rfl inZX4 tyX4_ok nmX4 (by decide) (by show 4 < 7; decide) rfl q374 rfl rfl (by decide +kernel) (fun f10 g10 h10 u10 => ?_)
  replace h10 : f10 w = .inr (4, [.ref w1, .ref w3, .ref w5, .ref w7, .ref q9, .int 0, .int 0]) := h10
  have li10 : gi (f10 w7) 1 = 0 ∧ gi (f10 w7) 2 = 0 := by rw [u10 w7 lw7]; exact li9
  refine x_aload_n hE (z := 0) (i := 0) (x := w) (by decide +kernel) rfl (by simp [lv_args, Value.category]) ?_
  refine x_iconst hE (i := (-1)) (v := (-1)) (by decide +kernel) rfl ?_
  refine n_put (ci := 4) (j := 6) hE hI g10 hw h10 rfl inZX4 tyX4_ok nmX4 (by decide) (by show 6 < 7; decide) rfl q378 rfl rfl (by decide +kernel) (fun f11 g11 h11 u11 => ?_)
  replace h11 : f11 w = .inr (4, [.ref w1, .ref w3, .ref w5, .ref w7, .ref q9, .int 0, .int (-1)]) := h11
  have li11 : gi (f11 w7) 1 = 0 ∧ gi (f11 w7) 2 = 0 := by rw [u11 w7 lw7]; exact li10
  have hck : cok cy0 (va_up K7 q9 71) B (L7 ++ [q9]) 40 (f11 w) := by
    rw [h11]
    exact cok_O rfl ⟨fk2 (k := 41) m9_w1, fk2 (k := 50) m9_w3, fk2 (k := 59) m9_w5, fk2 (k := 62) m9_w7, fk2 (k := 71) m9_q9, fk0 (by decide), fk0 (by decide), trivial⟩
  exact hret _ _ (L7 ++ [q9]) f11 61 _ (Nat.le_of_ble_eq_true rfl) (Nat.le_of_ble_eq_true rfl) (by decide +kernel) ⟨_, (va_up K7 q9 71), g11, hck, w7, m9_w7.1, m9_w7.2, li11⟩
def sS80 : List Nat := (((([] ++ (81 :: ([82, 83, 84, 85, 86, 87, 88, 89]))) ++ (90 :: ([90 + 1, 90 + 2, 90 + 3, 90 + 4, 90 + 5, 90 + 6, 90 + 7, 90 + 8]))) ++ (99 :: ([] ++ (100 :: ([101] ++ wS (fun _ => 10) 30))))) ++ (102 :: ([103, 104, 105, 106, 107, 108, 109, 110]))) ++ [111]
theorem n_S80 {X0 : zC0} {B : Int} {K : Nat → Nat} {L : List Nat} {f : Nat → va_E} {w : Nat} (hw : w ∈ L) (hf : f w = .inr (4, [.null, .null, .null, .null, .null, .int 0, .int 0])) : eM X0 3 yX4_init cX4_init 1 none (zrm 3 301 3844) [.ref w] L f (fun _ u => ∃ (A : List Nat) (K1 : Nat → Nat), GR X0.2.2.1 B L K f w u.1 A sS80 K1 u.2 ∧ cok X0.2.2.1 K1 B u.1 80 (u.2 w) ∧ ∃ li : Nat, li ∈ u.1 ∧ K1 li = 102 ∧ gi (u.2 li) 1 = 0 ∧ gi (u.2 li) 2 = 0) := by
  obtain ⟨l0, D0, cy0, ax0⟩ := X0
  refine eM.mk rfl pnX4 (Nat.le_of_ble_eq_true rfl) (fun E hE hin hret => ?_)
  have hI := hin rfl
  have g0 : GR cy0 B L K f w L [] [] K f := GR.rf
  have h0 := hf
  refine x_aload_n hE (z := 0) (i := 0) (x := w) (by decide +kernel) rfl (by simp [lv_args, Value.category]) ?_
  refine x_objinit hE q147 q140 q141 (by decide +kernel) (by decide) (by decide) ?_
  refine x_aload_n hE (z := 0) (i := 0) (x := w) (by decide +kernel) rfl (by simp [lv_args, Value.category]) ?_
  refine h_new (ci := 0) (fs := [.int 0, .int 0, .null, .null, .null, .null, .null, .null, .null, .null]) (ty0 := tyX0) hE rfl inZX0 tyX0_ok q148 q149 q115 (by decide +kernel) (Nat.le_of_ble_eq_true rfl) (Nat.le_of_ble_eq_true rfl) (by decide +kernel) (fun w1 nq1 => ?_)
  refine x_dup hE (by decide +kernel) rfl ?_
  have nw1 : w ≠ w1 := fun e => nq1 (by rw [← e]; exact g0.sub hw)
  have M1 := n_X0 (X0 := (l0, D0, cy0, ax0)) (B := B) (K := va_up K w1 81) (L := L ++ [w1]) (f := va_up f w1 (.inr (0, [.int 0, .int 0, .null, .null, .null, .null, .null, .null, .null, .null]))) (w := w1) (kw := 81) (k1 := 82) (k2 := 83) (k3 := 84) (k4 := 85) (k5 := 86) (k6 := 87) (k7 := 88) (k8 := 89) (List.mem_append_right _ (List.mem_singleton.mpr rfl)) (va_up_self _ _ _) rfl (okI_of rfl rfl (fun _ => rfl) (by decide) (by decide)) (okI_of rfl rfl (fun _ => rfl) (by decide) (by decide)) (okI_of rfl rfl (fun _ => rfl) (by decide) (by decide)) (okI_of rfl rfl (fun _ => rfl) (by decide) (by decide)) (okI_of rfl rfl (fun _ => rfl) (by decide) (by decide)) (okI_of rfl rfl (fun _ => rfl) (by decide) (by decide)) (okI_of rfl rfl (fun _ => rfl) (by decide) (by decide)) (okI_of rfl rfl (fun _ => rfl) (by decide) (by decide)) (by decide) (by decide)
  refine c_all hE (r_IN (st := [.ref w1, .ref w]) hE M1 (List.mem_of_getElem? (i := 1) rfl) q151 q115 q152 rfl ⟨by decide +kernel, by decide +kernel, pdi_X0⟩ ⟨by decide, by decide⟩ ⟨Nat.le_of_ble_eq_true rfl, Nat.le_of_ble_eq_true rfl⟩ rfl (by simp [Value.category]) (by decide +kernel)) (fun r1 L1 f1 ht1 hp1 => ?_)
  obtain rfl : r1 = none := ht1
  obtain ⟨A1, K1, c1, k1⟩ := hp1
  obtain ⟨g1, o1, i1, e1⟩ := GR.obj g0 nq1 c1 k1
  dsimp only at g1 o1 i1
  have h1 : f1 w = .inr (4, [.null, .null, .null, .null, .null, .int 0, .int 0]) := (o1 w (g0.sub hw)).2.2.trans h0
  clear c1 k1
  have m1_w1 : w1 ∈ L1 ∧ K1 w1 = 81 := ⟨i1, e1⟩
  refine n_put (ci := 4) (j := 0) hE hI g1 hw h1 rfl inZX4 tyX4_ok nmX4 (by decide) (by show 0 < 7; decide) rfl q361 rfl rfl (by decide +kernel) (fun f2 g2 h2 u2 => ?_)
  replace h2 : f2 w = .inr (4, [.ref w1, .null, .null, .null, .null, .int 0, .int 0]) := h2
  refine x_aload_n hE (z := 0) (i := 0) (x := w) (by decide +kernel) rfl (by simp [lv_args, Value.category]) ?_
  refine h_new (ci := 10) (fs := [.null, .null, .null, .null, .null, .null, .int 0, .int 0, .int 0, .int 0, .int 0, .int 0, .int 0, .null, .null]) (ty0 := tyX10) hE rfl inZX10 tyX10_ok q208 q209 q116 (by decide +kernel) (Nat.le_of_ble_eq_true rfl) (Nat.le_of_ble_eq_true rfl) (by decide +kernel) (fun w3 nq3 => ?_)
  refine x_dup hE (by decide +kernel) rfl ?_
  have nw3 : w ≠ w3 := fun e => nq3 (by rw [← e]; exact g2.sub hw)
  have M3 := n_W (X0 := (l0, D0, cy0, ax0)) (B := B) (K := va_up K1 w3 90) (L := L1 ++ [w3]) (f := va_up f2 w3 (.inr (10, [.null, .null, .null, .null, .null, .null, .int 0, .int 0, .int 0, .int 0, .int 0, .int 0, .int 0, .null, .null]))) (w := w3) (b := 90) WK90 (List.mem_append_right _ (List.mem_singleton.mpr rfl)) (va_up_self _ _ _)
  refine c_all hE (r_IN (st := [.ref w3, .ref w]) hE M3 (List.mem_of_getElem? (i := 2) rfl) q211 q116 q212 rfl ⟨by decide +kernel, by decide +kernel, pdi_X10⟩ ⟨by decide, by decide⟩ ⟨Nat.le_of_ble_eq_true rfl, Nat.le_of_ble_eq_true rfl⟩ rfl (by simp [Value.category]) (by decide +kernel)) (fun r3 L3 f3 ht3 hp3 => ?_)
  obtain rfl : r3 = none := ht3
  obtain ⟨A3, K3, c3, k3⟩ := hp3
  obtain ⟨g3, o3, i3, e3⟩ := GR.obj g2 nq3 c3 k3
  dsimp only at g3 o3 i3
  have h3 : f3 w = .inr (4, [.ref w1, .null, .null, .null, .null, .int 0, .int 0]) := (o3 w (g2.sub hw)).2.2.trans h2
  clear c3 k3
  have m3_w1 : w1 ∈ L3 ∧ K3 w1 = 81 := ⟨(o3 w1 m1_w1.1).1, (o3 w1 m1_w1.1).2.1.trans m1_w1.2⟩
  have m3_w3 : w3 ∈ L3 ∧ K3 w3 = 90 := ⟨i3, e3⟩
  refine n_put (ci := 4) (j := 1) hE hI g3 hw h3 rfl inZX4 tyX4_ok nmX4 (by decide) (by show 1 < 7; decide) rfl q366 rfl rfl (by decide +kernel) (fun f4 g4 h4 u4 => ?_)
  replace h4 : f4 w = .inr (4, [.ref w1, .ref w3, .null, .null, .null, .int 0, .int 0]) := h4
  refine x_aload_n hE (z := 0) (i := 0) (x := w) (by decide +kernel) rfl (by simp [lv_args, Value.category]) ?_
  refine h_new (ci := 5) (fs := [.int 0, .int 0, .null, .null]) (ty0 := tyX5) hE rfl inZX5 tyX5_ok q288 q289 q117 (by decide +kernel) (Nat.le_of_ble_eq_true rfl) (Nat.le_of_ble_eq_true rfl) (by decide +kernel) (fun w5 nq5 => ?_)
  refine x_dup hE (by decide +kernel) rfl ?_
  have nw5 : w ≠ w5 := fun e => nq5 (by rw [← e]; exact g4.sub hw)
  have M5 := n_X5 (X0 := (l0, D0, cy0, ax0)) (B := B) (K := va_up K3 w5 99) (L := L3 ++ [w5]) (f := va_up f4 w5 (.inr (5, [.int 0, .int 0, .null, .null]))) (w := w5) (kw := 99) (kW := 100) (k1 := 101) (kb := fun _ => 10) (List.mem_append_right _ (List.mem_singleton.mpr rfl)) (va_up_self _ _ _) rfl ⟨rfl, rfl⟩ (fun _ _ => ⟨WK10, rfl⟩) (okI_of rfl rfl (fun _ => rfl) (by decide) (by decide)) (by decide) (by decide)
  refine c_all hE (r_I (st := [.ref w5, .ref w]) hE M5 q290 q291 q117 q292 rfl ⟨by decide +kernel, by decide +kernel, pdi_X5⟩ ⟨by decide, by decide⟩ ⟨Nat.le_of_ble_eq_true rfl, Nat.le_of_ble_eq_true rfl⟩ rfl (by simp [Value.category]) (by decide +kernel)) (fun r5 L5 f5 ht5 hp5 => ?_)
  obtain rfl : r5 = none := ht5
  obtain ⟨A5, K5, c5, k5⟩ := hp5
  obtain ⟨g5, o5, i5, e5⟩ := GR.obj g4 nq5 c5 k5
  dsimp only at g5 o5 i5
  have h5 : f5 w = .inr (4, [.ref w1, .ref w3, .null, .null, .null, .int 0, .int 0]) := (o5 w (g4.sub hw)).2.2.trans h4
  clear c5 k5
  have m5_w1 : w1 ∈ L5 ∧ K5 w1 = 81 := ⟨(o5 w1 m3_w1.1).1, (o5 w1 m3_w1.1).2.1.trans m3_w1.2⟩
  have m5_w3 : w3 ∈ L5 ∧ K5 w3 = 90 := ⟨(o5 w3 m3_w3.1).1, (o5 w3 m3_w3.1).2.1.trans m3_w3.2⟩
  have m5_w5 : w5 ∈ L5 ∧ K5 w5 = 99 := ⟨i5, e5⟩
  refine n_put (ci := 4) (j := 2) hE hI g5 hw h5 rfl inZX4 tyX4_ok nmX4 (by decide) (by show 2 < 7; decide) rfl q370 rfl rfl (by decide +kernel) (fun f6 g6 h6 u6 => ?_)
  replace h6 : f6 w = .inr (4, [.ref w1, .ref w3, .ref w5, .null, .null, .int 0, .int 0]) := h6
  refine x_aload_n hE (z := 0) (i := 0) (x := w) (by decide +kernel) rfl (by simp [lv_args, Value.category]) ?_
  refine h_new (ci := 1) (fs := [.int 0, .int 0, .int 0, .null, .null, .null, .null, .null, .null, .null, .null]) (ty0 := tyX1) hE rfl inZX1 tyX1_ok q312 q313 q118 (by decide +kernel) (Nat.le_of_ble_eq_true rfl) (Nat.le_of_ble_eq_true rfl) (by decide +kernel) (fun w7 nq7 => ?_)
  refine x_dup hE (by decide +kernel) rfl ?_
  have nw7 : w ≠ w7 := fun e => nq7 (by rw [← e]; exact g6.sub hw)
  have M7 := n_X1 (X0 := (l0, D0, cy0, ax0)) (B := B) (K := va_up K5 w7 102) (L := L5 ++ [w7]) (f := va_up f6 w7 (.inr (1, [.int 0, .int 0, .int 0, .null, .null, .null, .null, .null, .null, .null, .null]))) (w := w7) (kw := 102) (k1 := 103) (k2 := 104) (k3 := 105) (k4 := 106) (k5 := 107) (k6 := 108) (k7 := 109) (k8 := 110) (List.mem_append_right _ (List.mem_singleton.mpr rfl)) (va_up_self _ _ _) rfl (okI_of rfl rfl (fun _ => rfl) (by decide) (by decide)) (okI_of rfl rfl (fun _ => rfl) (by decide) (by decide)) (okI_of rfl rfl (fun _ => rfl) (by decide) (by decide)) (okI_of rfl rfl (fun _ => rfl) (by decide) (by decide)) ⟨rfl, rfl⟩ ⟨rfl, rfl⟩ (okI_of rfl rfl (fun _ => rfl) (by decide) (by decide)) (okI_of rfl rfl (fun _ => rfl) (by decide) (by decide)) (by decide) (by decide) (by decide)
  refine c_all hE (r_IN (st := [.ref w7, .ref w]) hE M7 (List.mem_of_getElem? (i := 4) rfl) q315 q118 q316 rfl ⟨by decide +kernel, by decide +kernel, pdi_X1⟩ ⟨by decide, by decide⟩ ⟨Nat.le_of_ble_eq_true rfl, Nat.le_of_ble_eq_true rfl⟩ rfl (by simp [Value.category]) (by decide +kernel)) (fun r7 L7 f7 ht7 hp7 => ?_)
  obtain rfl : r7 = none := ht7
  obtain ⟨A7, K7, c7, k7, x7⟩ := hp7
  obtain ⟨g7, o7, i7, e7⟩ := GR.obj g6 nq7 c7 k7
  dsimp only at g7 o7 i7 x7
  have h7 : f7 w = .inr (4, [.ref w1, .ref w3, .ref w5, .null, .null, .int 0, .int 0]) := (o7 w (g6.sub hw)).2.2.trans h6
  clear c7 k7
  have m7_w1 : w1 ∈ L7 ∧ K7 w1 = 81 := ⟨(o7 w1 m5_w1.1).1, (o7 w1 m5_w1.1).2.1.trans m5_w1.2⟩
  have m7_w3 : w3 ∈ L7 ∧ K7 w3 = 90 := ⟨(o7 w3 m5_w3.1).1, (o7 w3 m5_w3.1).2.1.trans m5_w3.2⟩
  have m7_w5 : w5 ∈ L7 ∧ K7 w5 = 99 := ⟨(o7 w5 m5_w5.1).1, (o7 w5 m5_w5.1).2.1.trans m5_w5.2⟩
  have m7_w7 : w7 ∈ L7 ∧ K7 w7 = 102 := ⟨i7, e7⟩
  have lw7 : w7 ≠ w := Ne.symm nw7
  refine n_put (ci := 4) (j := 3) hE hI g7 hw h7 rfl inZX4 tyX4_ok nmX4 (by decide) (by show 3 < 7; decide) rfl q372 rfl rfl (by decide +kernel) (fun f8 g8 h8 u8 => ?_)
  replace h8 : f8 w = .inr (4, [.ref w1, .ref w3, .ref w5, .ref w7, .null, .int 0, .int 0]) := h8
  have li8 : gi (f8 w7) 1 = 0 ∧ gi (f8 w7) 2 = 0 := by rw [u8 w7 lw7]; exact x7
  refine x_aload_n hE (z := 0) (i := 0) (x := w) (by decide +kernel) rfl (by simp [lv_args, Value.category]) ?_
  refine x_iconst hE (i := 4) (v := 4) (by decide +kernel) rfl ?_
  refine h_newq hE q359 (t0 := 3) (N0 := 4) (fun _ => rfl) (Or.inl rfl) (by decide) rfl (by decide) (Nat.le_of_ble_eq_true rfl) (Nat.le_of_ble_eq_true rfl) (by decide +kernel) (fun q9 nq9 => ?_)
  have nw9 : w ≠ q9 := fun e => nq9 (by rw [← e]; exact g8.sub hw)
  have g9 := g8.row (kq := 111) (e := zRA (cy0 3) 4 (fun _ => none)) nq9 ⟨fun _ => none, rfl, fun i b hb => (by cases hb)⟩
  have h9 : va_up f8 q9 (zRA (cy0 3) 4 (fun _ => none)) w = .inr (4, [.ref w1, .ref w3, .ref w5, .ref w7, .null, .int 0, .int 0]) := (va_up_ne _ _ nw9).trans h8
  have nn9_w1 : w1 ≠ q9 := fun e => nq9 (by rw [← e]; exact m7_w1.1)
  have m9_w1 : w1 ∈ L7 ++ [q9] ∧ va_up K7 q9 111 w1 = 81 := ⟨List.mem_append_left _ m7_w1.1, (va_up_ne _ _ nn9_w1).trans m7_w1.2⟩
  have nn9_w3 : w3 ≠ q9 := fun e => nq9 (by rw [← e]; exact m7_w3.1)
  have m9_w3 : w3 ∈ L7 ++ [q9] ∧ va_up K7 q9 111 w3 = 90 := ⟨List.mem_append_left _ m7_w3.1, (va_up_ne _ _ nn9_w3).trans m7_w3.2⟩
  have nn9_w5 : w5 ≠ q9 := fun e => nq9 (by rw [← e]; exact m7_w5.1)
  have m9_w5 : w5 ∈ L7 ++ [q9] ∧ va_up K7 q9 111 w5 = 99 := ⟨List.mem_append_left _ m7_w5.1, (va_up_ne _ _ nn9_w5).trans m7_w5.2⟩
  have nn9_w7 : w7 ≠ q9 := fun e => nq9 (by rw [← e]; exact m7_w7.1)
  have m9_w7 : w7 ∈ L7 ++ [q9] ∧ va_up K7 q9 111 w7 = 102 := ⟨List.mem_append_left _ m7_w7.1, (va_up_ne _ _ nn9_w7).trans m7_w7.2⟩
  have m9_q9 : q9 ∈ L7 ++ [q9] ∧ va_up K7 q9 111 q9 = 111 := ⟨List.mem_append_right _ (List.mem_singleton.mpr rfl), va_up_self _ _ _⟩
  have li9 : gi (va_up f8 q9 (zRA (cy0 3) 4 (fun _ => none)) w7) 1 = 0 ∧ gi (va_up f8 q9 (zRA (cy0 3) 4 (fun _ => none)) w7) 2 = 0 := by rw [va_up_ne _ _ nn9_w7]; exact li8
  refine n_put (ci := 4) (j := 4) hE hI g9 hw h9 rfl inZX4 tyX4_ok nmX4 (by decide) (by show 4 < 7; decide) rfl q374 rfl rfl (by decide +kernel) (fun f10 g10 h10 u10 => ?_)
  replace h10 : f10 w = .inr (4, [.ref w1, .ref w3, .ref w5, .ref w7, .ref q9, .int 0, .int 0]) := h10
  have li10 : gi (f10 w7) 1 = 0 ∧ gi (f10 w7) 2 = 0 := by rw [u10 w7 lw7]; exact li9
  refine x_aload_n hE (z := 0) (i := 0) (x := w) (by decide +kernel) rfl (by simp [lv_args, Value.category]) ?_
  refine x_iconst hE (i := (-1)) (v := (-1)) (by decide +kernel) rfl ?_
  refine n_put (ci := 4) (j := 6) hE hI g10 hw h10 rfl inZX4 tyX4_ok nmX4 (by decide) (by show 6 < 7; decide) rfl q378 rfl rfl (by decide +kernel) (fun f11 g11 h11 u11 => ?_)
  replace h11 : f11 w = .inr (4, [.ref w1, .ref w3, .ref w5, .ref w7, .ref q9, .int 0, .int (-1)]) := h11
  have li11 : gi (f11 w7) 1 = 0 ∧ gi (f11 w7) 2 = 0 := by rw [u11 w7 lw7]; exact li10
  have hck : cok cy0 (va_up K7 q9 111) B (L7 ++ [q9]) 80 (f11 w) := by
    rw [h11]
    exact cok_O rfl ⟨fk2 (k := 81) m9_w1, fk2 (k := 90) m9_w3, fk2 (k := 99) m9_w5, fk2 (k := 102) m9_w7, fk2 (k := 111) m9_q9, fk0 (by decide), fk0 (by decide), trivial⟩
  exact hret _ _ (L7 ++ [q9]) f11 61 _ (Nat.le_of_ble_eq_true rfl) (Nat.le_of_ble_eq_true rfl) (by decide +kernel) ⟨_, (va_up K7 q9 111), g11, hck, w7, m9_w7.1, m9_w7.2, li11⟩
def sOwn : List Nat := (((((([] ++ (40 :: (sS40))) ++ (80 :: (sS80))) ++ (120 :: ([121, 122, 123, 124]))) ++ (125 :: ([]))) ++ (126 :: ([127, 128, 129, 130]))) ++ (131 :: ([132] ++ (139 :: ([133, 134, 135, 136, 137] ++ wS (fun i => 140 + i * 9) 6))))) ++ (194 :: ([195, 196]))
theorem n_Own {X0 : zC0} {B : Int} {K : Nat → Nat} {L : List Nat} {f : Nat → va_E} {w : Nat} (hw : w ∈ L) (hf : f w = .inr (11, [.null, .null, .null, .null, .null, .null, .null])) (hkw : K w = 197) : eM X0 3 yX11_init cX11_init 1 none (zrm 4 680 10207) [.ref w] L f (fun _ u => ∃ (A : List Nat) (K1 : Nat → Nat), GR X0.2.2.1 B L K f w u.1 A sOwn K1 u.2 ∧ cok X0.2.2.1 K1 B u.1 197 (u.2 w) ∧ (∃ li : Nat, li ∈ u.1 ∧ K1 li = 62 ∧ gi (u.2 li) 1 = 0 ∧ gi (u.2 li) 2 = 0) ∧ ∃ li : Nat, li ∈ u.1 ∧ K1 li = 102 ∧ gi (u.2 li) 1 = 0 ∧ gi (u.2 li) 2 = 0) := by
  obtain ⟨l0, D0, cy0, ax0⟩ := X0
  refine eM.mk rfl pnX11 (Nat.le_of_ble_eq_true rfl) (fun E hE hin hret => ?_)
  have hI := hin rfl
  have g0 : GR cy0 B L K f w L [] [] K f := GR.rf
  have h0 := hf
  refine x_aload_n hE (z := 0) (i := 0) (x := w) (by decide +kernel) rfl (by simp [lv_args, Value.category]) ?_
  refine x_objinit hE q139 q140 q141 (by decide +kernel) (by decide) (by decide) ?_
  refine x_aload_n hE (z := 0) (i := 0) (x := w) (by decide +kernel) rfl (by simp [lv_args, Value.category]) ?_
  refine h_new (ci := 4) (fs := [.null, .null, .null, .null, .null, .int 0, .int 0]) (ty0 := tyX4) hE rfl inZX4 tyX4_ok q142 q143 q114 (by decide +kernel) (Nat.le_of_ble_eq_true rfl) (Nat.le_of_ble_eq_true rfl) (by decide +kernel) (fun w1 nq1 => ?_)
  refine x_dup hE (by decide +kernel) rfl ?_
  have nw1 : w ≠ w1 := fun e => nq1 (by rw [← e]; exact g0.sub hw)
  have M1 := n_S40 (X0 := (l0, D0, cy0, ax0)) (B := B) (K := va_up K w1 40) (L := L ++ [w1]) (f := va_up f w1 (.inr (4, [.null, .null, .null, .null, .null, .int 0, .int 0]))) (w := w1) (List.mem_append_right _ (List.mem_singleton.mpr rfl)) (va_up_self _ _ _)
  refine c_all hE (r_IN (st := [.ref w1, .ref w]) hE M1 (List.mem_of_getElem? (i := 0) rfl) q145 q114 q146 rfl ⟨by decide +kernel, by decide +kernel, pdi_X4⟩ ⟨by decide, by decide⟩ ⟨Nat.le_of_ble_eq_true rfl, Nat.le_of_ble_eq_true rfl⟩ rfl (by simp [Value.category]) (by decide +kernel)) (fun r1 L1 f1 ht1 hp1 => ?_)
  obtain rfl : r1 = none := ht1
  obtain ⟨A1, K1, c1, k1, y1, y1a, y1b, x1⟩ := hp1
  obtain ⟨g1, o1, i1, e1⟩ := GR.obj g0 nq1 c1 k1
  dsimp only at g1 o1 i1 x1 y1a
  have h1 : f1 w = .inr (11, [.null, .null, .null, .null, .null, .null, .null]) := (o1 w (g0.sub hw)).2.2.trans h0
  clear c1 k1
  have m1_w1 : w1 ∈ L1 ∧ K1 w1 = 40 := ⟨i1, e1⟩
  refine n_put (ci := 11) (j := 0) hE hI g1 hw h1 rfl inZX11 tyX11_ok nmX11 (by decide) (by show 0 < 7; decide) rfl q556 rfl rfl (by decide +kernel) (fun f2 g2 h2 u2 => ?_)
  replace h2 : f2 w = .inr (11, [.ref w1, .null, .null, .null, .null, .null, .null]) := h2
  have nv2_y1 : y1 ≠ w := fun e => by have h9 := y1b; rw [e, g2.2.2.1 w hw, hkw] at h9; exact absurd h9 (by decide)
  have x1_p2 : gi (f2 y1) 1 = 0 ∧ gi (f2 y1) 2 = 0 := by rw [u2 y1 nv2_y1]; exact x1
  refine x_aload_n hE (z := 0) (i := 0) (x := w) (by decide +kernel) rfl (by simp [lv_args, Value.category]) ?_
  refine h_new (ci := 4) (fs := [.null, .null, .null, .null, .null, .int 0, .int 0]) (ty0 := tyX4) hE rfl inZX4 tyX4_ok q142 q143 q114 (by decide +kernel) (Nat.le_of_ble_eq_true rfl) (Nat.le_of_ble_eq_true rfl) (by decide +kernel) (fun w3 nq3 => ?_)
  refine x_dup hE (by decide +kernel) rfl ?_
  have nw3 : w ≠ w3 := fun e => nq3 (by rw [← e]; exact g2.sub hw)
  have M3 := n_S80 (X0 := (l0, D0, cy0, ax0)) (B := B) (K := va_up K1 w3 80) (L := L1 ++ [w3]) (f := va_up f2 w3 (.inr (4, [.null, .null, .null, .null, .null, .int 0, .int 0]))) (w := w3) (List.mem_append_right _ (List.mem_singleton.mpr rfl)) (va_up_self _ _ _)
  refine c_all hE (r_IN (st := [.ref w3, .ref w]) hE M3 (List.mem_of_getElem? (i := 0) rfl) q145 q114 q146 rfl ⟨by decide +kernel, by decide +kernel, pdi_X4⟩ ⟨by decide, by decide⟩ ⟨Nat.le_of_ble_eq_true rfl, Nat.le_of_ble_eq_true rfl⟩ rfl (by simp [Value.category]) (by decide +kernel)) (fun r3 L3 f3 ht3 hp3 => ?_)
  obtain rfl : r3 = none := ht3
  obtain ⟨A3, K3, c3, k3, y3, y3a, y3b, x3⟩ := hp3
  obtain ⟨g3, o3, i3, e3⟩ := GR.obj g2 nq3 c3 k3
  dsimp only at g3 o3 i3 x3 y3a
  have h3 : f3 w = .inr (11, [.ref w1, .null, .null, .null, .null, .null, .null]) := (o3 w (g2.sub hw)).2.2.trans h2
  clear c3 k3
  have m3_w1 : w1 ∈ L3 ∧ K3 w1 = 40 := ⟨(o3 w1 m1_w1.1).1, (o3 w1 m1_w1.1).2.1.trans m1_w1.2⟩
  have m3_w3 : w3 ∈ L3 ∧ K3 w3 = 80 := ⟨i3, e3⟩
  have y1a_3 : y1 ∈ L3 := (o3 y1 y1a).1
  have y1b_3 : K3 y1 = 62 := (o3 y1 y1a).2.1.trans y1b
  have x1_p2_3 : gi (f3 y1) 1 = 0 ∧ gi (f3 y1) 2 = 0 := by rw [(o3 y1 y1a).2.2]; exact x1_p2
  refine n_put (ci := 11) (j := 1) hE hI g3 hw h3 rfl inZX11 tyX11_ok nmX11 (by decide) (by show 1 < 7; decide) rfl q557 rfl rfl (by decide +kernel) (fun f4 g4 h4 u4 => ?_)
  replace h4 : f4 w = .inr (11, [.ref w1, .ref w3, .null, .null, .null, .null, .null]) := h4
  have nv4_y1 : y1 ≠ w := fun e => by have h9 := y1b_3; rw [e, g4.2.2.1 w hw, hkw] at h9; exact absurd h9 (by decide)
  have x1_p2_3_p4 : gi (f4 y1) 1 = 0 ∧ gi (f4 y1) 2 = 0 := by rw [u4 y1 nv4_y1]; exact x1_p2_3
  have nv4_y3 : y3 ≠ w := fun e => by have h9 := y3b; rw [e, g4.2.2.1 w hw, hkw] at h9; exact absurd h9 (by decide)
  have x3_p4 : gi (f4 y3) 1 = 0 ∧ gi (f4 y3) 2 = 0 := by rw [u4 y3 nv4_y3]; exact x3
  refine x_aload_n hE (z := 0) (i := 0) (x := w) (by decide +kernel) rfl (by simp [lv_args, Value.category]) ?_
  refine h_new (ci := 6) (fs := [.int 0, .int 0, .null, .null, .null, .null]) (ty0 := tyX6) hE rfl inZX6 tyX6_ok q395 q396 q119 (by decide +kernel) (Nat.le_of_ble_eq_true rfl) (Nat.le_of_ble_eq_true rfl) (by decide +kernel) (fun w5 nq5 => ?_)
  refine x_dup hE (by decide +kernel) rfl ?_
  have nw5 : w ≠ w5 := fun e => nq5 (by rw [← e]; exact g4.sub hw)
  have M5 := n_X6 (X0 := (l0, D0, cy0, ax0)) (B := B) (K := va_up K3 w5 120) (L := L3 ++ [w5]) (f := va_up f4 w5 (.inr (6, [.int 0, .int 0, .null, .null, .null, .null]))) (w := w5) (kw := 120) (k1 := 121) (k2 := 122) (k3 := 123) (k4 := 124) (List.mem_append_right _ (List.mem_singleton.mpr rfl)) (va_up_self _ _ _) rfl (okI_of rfl rfl (fun _ => rfl) (by decide) (by decide)) (okI_of rfl rfl (fun _ => rfl) (by decide) (by decide)) (okI_of rfl rfl (fun _ => rfl) (by decide) (by decide)) (okI_of rfl rfl (fun _ => rfl) (by decide) (by decide)) (by decide) (by decide)
  refine c_all hE (r_IN (st := [.ref w5, .ref w]) hE M5 (List.mem_of_getElem? (i := 5) rfl) q398 q119 q399 rfl ⟨by decide +kernel, by decide +kernel, pdi_X6⟩ ⟨by decide, by decide⟩ ⟨Nat.le_of_ble_eq_true rfl, Nat.le_of_ble_eq_true rfl⟩ rfl (by simp [Value.category]) (by decide +kernel)) (fun r5 L5 f5 ht5 hp5 => ?_)
  obtain rfl : r5 = none := ht5
  obtain ⟨A5, K5, c5, k5⟩ := hp5
  obtain ⟨g5, o5, i5, e5⟩ := GR.obj g4 nq5 c5 k5
  dsimp only at g5 o5 i5
  have h5 : f5 w = .inr (11, [.ref w1, .ref w3, .null, .null, .null, .null, .null]) := (o5 w (g4.sub hw)).2.2.trans h4
  clear c5 k5
  have m5_w1 : w1 ∈ L5 ∧ K5 w1 = 40 := ⟨(o5 w1 m3_w1.1).1, (o5 w1 m3_w1.1).2.1.trans m3_w1.2⟩
  have m5_w3 : w3 ∈ L5 ∧ K5 w3 = 80 := ⟨(o5 w3 m3_w3.1).1, (o5 w3 m3_w3.1).2.1.trans m3_w3.2⟩
  have m5_w5 : w5 ∈ L5 ∧ K5 w5 = 120 := ⟨i5, e5⟩
  have y1a_3_5 : y1 ∈ L5 := (o5 y1 y1a_3).1
  have y1b_3_5 : K5 y1 = 62 := (o5 y1 y1a_3).2.1.trans y1b_3
  have x1_p2_3_p4_5 : gi (f5 y1) 1 = 0 ∧ gi (f5 y1) 2 = 0 := by rw [(o5 y1 y1a_3).2.2]; exact x1_p2_3_p4
  have y3a_5 : y3 ∈ L5 := (o5 y3 y3a).1
  have y3b_5 : K5 y3 = 102 := (o5 y3 y3a).2.1.trans y3b
  have x3_p4_5 : gi (f5 y3) 1 = 0 ∧ gi (f5 y3) 2 = 0 := by rw [(o5 y3 y3a).2.2]; exact x3_p4
  refine n_put (ci := 11) (j := 2) hE hI g5 hw h5 rfl inZX11 tyX11_ok nmX11 (by decide) (by show 2 < 7; decide) rfl q558 rfl rfl (by decide +kernel) (fun f6 g6 h6 u6 => ?_)
  replace h6 : f6 w = .inr (11, [.ref w1, .ref w3, .ref w5, .null, .null, .null, .null]) := h6
  have nv6_y1 : y1 ≠ w := fun e => by have h9 := y1b_3_5; rw [e, g6.2.2.1 w hw, hkw] at h9; exact absurd h9 (by decide)
  have x1_p2_3_p4_5_p6 : gi (f6 y1) 1 = 0 ∧ gi (f6 y1) 2 = 0 := by rw [u6 y1 nv6_y1]; exact x1_p2_3_p4_5
  have nv6_y3 : y3 ≠ w := fun e => by have h9 := y3b_5; rw [e, g6.2.2.1 w hw, hkw] at h9; exact absurd h9 (by decide)
  have x3_p4_5_p6 : gi (f6 y3) 1 = 0 ∧ gi (f6 y3) 2 = 0 := by rw [u6 y3 nv6_y3]; exact x3_p4_5
  refine x_aload_n hE (z := 0) (i := 0) (x := w) (by decide +kernel) rfl (by simp [lv_args, Value.category]) ?_
  refine h_new (ci := 3) (fs := [.int 0, .int 0, .null, .null, .int 0, .int 0, .int 0]) (ty0 := tyX3) hE rfl inZX3 tyX3_ok q426 q427 q120 (by decide +kernel) (Nat.le_of_ble_eq_true rfl) (Nat.le_of_ble_eq_true rfl) (by decide +kernel) (fun w7 nq7 => ?_)
  refine x_dup hE (by decide +kernel) rfl ?_
  have nw7 : w ≠ w7 := fun e => nq7 (by rw [← e]; exact g6.sub hw)
  refine x_aload_n hE (z := 0) (i := 0) (x := w) (by decide +kernel) rfl (by simp [lv_args, Value.category]) ?_
  refine r_get (v := .ref w5) hE fX11_ok (List.mem_of_getElem? (i := 2) rfl) (List.mem_append_left _ (g6.sub hw)) ((va_up_ne _ _ nw7).trans h6) rfl (by decide +kernel) ?_
  have np7_0 : w5 ≠ w7 := fun e => nq7 (by rw [← e]; exact m5_w5.1)
  have M7 := n_X3 (X0 := (l0, D0, cy0, ax0)) (B := B) (K := va_up K5 w7 125) (L := L5 ++ [w7]) (f := va_up f6 w7 (.inr (3, [.int 0, .int 0, .null, .null, .int 0, .int 0, .int 0]))) (w := w7) (kw := 125) (p1 := w5) (kp1 := 120) (List.mem_append_right _ (List.mem_singleton.mpr rfl)) (va_up_self _ _ _) rfl  ⟨List.mem_append_left _ m5_w5.1, (va_up_ne _ _ np7_0).trans m5_w5.2⟩ np7_0 (by decide) (by decide) (by decide) (by decide) (by decide)
  refine c_all hE (r_I (st := [.ref w7, .ref w]) hE M7 q428 q429 q120 q430 rfl ⟨by decide +kernel, by decide +kernel, pdi_X3⟩ ⟨by decide, by decide⟩ ⟨Nat.le_of_ble_eq_true rfl, Nat.le_of_ble_eq_true rfl⟩ rfl (by simp [Value.category]) (by decide +kernel)) (fun r7 L7 f7 ht7 hp7 => ?_)
  obtain rfl : r7 = none := ht7
  obtain ⟨A7, K7, c7, k7⟩ := hp7
  obtain ⟨g7, o7, i7, e7⟩ := GR.obj g6 nq7 c7 k7
  dsimp only at g7 o7 i7
  have h7 : f7 w = .inr (11, [.ref w1, .ref w3, .ref w5, .null, .null, .null, .null]) := (o7 w (g6.sub hw)).2.2.trans h6
  clear c7 k7
  have m7_w1 : w1 ∈ L7 ∧ K7 w1 = 40 := ⟨(o7 w1 m5_w1.1).1, (o7 w1 m5_w1.1).2.1.trans m5_w1.2⟩
  have m7_w3 : w3 ∈ L7 ∧ K7 w3 = 80 := ⟨(o7 w3 m5_w3.1).1, (o7 w3 m5_w3.1).2.1.trans m5_w3.2⟩
  have m7_w5 : w5 ∈ L7 ∧ K7 w5 = 120 := ⟨(o7 w5 m5_w5.1).1, (o7 w5 m5_w5.1).2.1.trans m5_w5.2⟩
  have m7_w7 : w7 ∈ L7 ∧ K7 w7 = 125 := ⟨i7, e7⟩
  have y1a_3_5_7 : y1 ∈ L7 := (o7 y1 y1a_3_5).1
  have y1b_3_5_7 : K7 y1 = 62 := (o7 y1 y1a_3_5).2.1.trans y1b_3_5
  have x1_p2_3_p4_5_p6_7 : gi (f7 y1) 1 = 0 ∧ gi (f7 y1) 2 = 0 := by rw [(o7 y1 y1a_3_5).2.2]; exact x1_p2_3_p4_5_p6
  have y3a_5_7 : y3 ∈ L7 := (o7 y3 y3a_5).1
  have y3b_5_7 : K7 y3 = 102 := (o7 y3 y3a_5).2.1.trans y3b_5
  have x3_p4_5_p6_7 : gi (f7 y3) 1 = 0 ∧ gi (f7 y3) 2 = 0 := by rw [(o7 y3 y3a_5).2.2]; exact x3_p4_5_p6
  refine n_put (ci := 11) (j := 3) hE hI g7 hw h7 rfl inZX11 tyX11_ok nmX11 (by decide) (by show 3 < 7; decide) rfl q559 rfl rfl (by decide +kernel) (fun f8 g8 h8 u8 => ?_)
  replace h8 : f8 w = .inr (11, [.ref w1, .ref w3, .ref w5, .ref w7, .null, .null, .null]) := h8
  have nv8_y1 : y1 ≠ w := fun e => by have h9 := y1b_3_5_7; rw [e, g8.2.2.1 w hw, hkw] at h9; exact absurd h9 (by decide)
  have x1_p2_3_p4_5_p6_7_p8 : gi (f8 y1) 1 = 0 ∧ gi (f8 y1) 2 = 0 := by rw [u8 y1 nv8_y1]; exact x1_p2_3_p4_5_p6_7
  have nv8_y3 : y3 ≠ w := fun e => by have h9 := y3b_5_7; rw [e, g8.2.2.1 w hw, hkw] at h9; exact absurd h9 (by decide)
  have x3_p4_5_p6_7_p8 : gi (f8 y3) 1 = 0 ∧ gi (f8 y3) 2 = 0 := by rw [u8 y3 nv8_y3]; exact x3_p4_5_p6_7
  refine x_aload_n hE (z := 0) (i := 0) (x := w) (by decide +kernel) rfl (by simp [lv_args, Value.category]) ?_
  refine h_new (ci := 9) (fs := [.int 0, .null, .null, .int 0, .null, .null, .null, .null, .int 0, .int 0]) (ty0 := tyX9) hE rfl inZX9 tyX9_ok q456 q457 q121 (by decide +kernel) (Nat.le_of_ble_eq_true rfl) (Nat.le_of_ble_eq_true rfl) (by decide +kernel) (fun w9 nq9 => ?_)
  refine x_dup hE (by decide +kernel) rfl ?_
  have nw9 : w ≠ w9 := fun e => nq9 (by rw [← e]; exact g8.sub hw)
  refine x_aload_n hE (z := 0) (i := 0) (x := w) (by decide +kernel) rfl (by simp [lv_args, Value.category]) ?_
  refine r_get (v := .ref w1) hE fX11_ok (List.mem_of_getElem? (i := 0) rfl) (List.mem_append_left _ (g8.sub hw)) ((va_up_ne _ _ nw9).trans h8) rfl (by decide +kernel) ?_
  have np9_0 : w1 ≠ w9 := fun e => nq9 (by rw [← e]; exact m7_w1.1)
  have M9 := n_X9 (X0 := (l0, D0, cy0, ax0)) (B := B) (K := va_up K7 w9 126) (L := L7 ++ [w9]) (f := va_up f8 w9 (.inr (9, [.int 0, .null, .null, .int 0, .null, .null, .null, .null, .int 0, .int 0]))) (w := w9) (kw := 126) (k1 := 127) (k2 := 128) (k3 := 129) (k4 := 130) (p1 := w1) (kp1 := 40) (List.mem_append_right _ (List.mem_singleton.mpr rfl)) (va_up_self _ _ _) rfl (okI_of rfl rfl (fun _ => rfl) (by decide) (by decide)) (okI_of rfl rfl (fun _ => rfl) (by decide) (by decide)) (okI_of rfl rfl (fun _ => rfl) (by decide) (by decide)) (okI_of rfl rfl (fun _ => rfl) (by decide) (by decide)) ⟨List.mem_append_left _ m7_w1.1, (va_up_ne _ _ np9_0).trans m7_w1.2⟩ np9_0 (by decide) (by decide) (by decide) (by decide)
  refine c_all hE (r_I (st := [.ref w9, .ref w]) hE M9 q458 q459 q121 q460 rfl ⟨by decide +kernel, by decide +kernel, pdi_X9⟩ ⟨by decide, by decide⟩ ⟨Nat.le_of_ble_eq_true rfl, Nat.le_of_ble_eq_true rfl⟩ rfl (by simp [Value.category]) (by decide +kernel)) (fun r9 L9 f9 ht9 hp9 => ?_)
  obtain rfl : r9 = none := ht9
  obtain ⟨A9, K9, c9, k9⟩ := hp9
  obtain ⟨g9, o9, i9, e9⟩ := GR.obj g8 nq9 c9 k9
  dsimp only at g9 o9 i9
  have h9 : f9 w = .inr (11, [.ref w1, .ref w3, .ref w5, .ref w7, .null, .null, .null]) := (o9 w (g8.sub hw)).2.2.trans h8
  clear c9 k9
  have m9_w1 : w1 ∈ L9 ∧ K9 w1 = 40 := ⟨(o9 w1 m7_w1.1).1, (o9 w1 m7_w1.1).2.1.trans m7_w1.2⟩
  have m9_w3 : w3 ∈ L9 ∧ K9 w3 = 80 := ⟨(o9 w3 m7_w3.1).1, (o9 w3 m7_w3.1).2.1.trans m7_w3.2⟩
  have m9_w5 : w5 ∈ L9 ∧ K9 w5 = 120 := ⟨(o9 w5 m7_w5.1).1, (o9 w5 m7_w5.1).2.1.trans m7_w5.2⟩
  have m9_w7 : w7 ∈ L9 ∧ K9 w7 = 125 := ⟨(o9 w7 m7_w7.1).1, (o9 w7 m7_w7.1).2.1.trans m7_w7.2⟩
  have m9_w9 : w9 ∈ L9 ∧ K9 w9 = 126 := ⟨i9, e9⟩
  have y1a_3_5_7_9 : y1 ∈ L9 := (o9 y1 y1a_3_5_7).1
  have y1b_3_5_7_9 : K9 y1 = 62 := (o9 y1 y1a_3_5_7).2.1.trans y1b_3_5_7
  have x1_p2_3_p4_5_p6_7_p8_9 : gi (f9 y1) 1 = 0 ∧ gi (f9 y1) 2 = 0 := by rw [(o9 y1 y1a_3_5_7).2.2]; exact x1_p2_3_p4_5_p6_7_p8
  have y3a_5_7_9 : y3 ∈ L9 := (o9 y3 y3a_5_7).1
  have y3b_5_7_9 : K9 y3 = 102 := (o9 y3 y3a_5_7).2.1.trans y3b_5_7
  have x3_p4_5_p6_7_p8_9 : gi (f9 y3) 1 = 0 ∧ gi (f9 y3) 2 = 0 := by rw [(o9 y3 y3a_5_7).2.2]; exact x3_p4_5_p6_7_p8
  refine n_put (ci := 11) (j := 4) hE hI g9 hw h9 rfl inZX11 tyX11_ok nmX11 (by decide) (by show 4 < 7; decide) rfl q560 rfl rfl (by decide +kernel) (fun f10 g10 h10 u10 => ?_)
  replace h10 : f10 w = .inr (11, [.ref w1, .ref w3, .ref w5, .ref w7, .ref w9, .null, .null]) := h10
  have nv10_y1 : y1 ≠ w := fun e => by have h9 := y1b_3_5_7_9; rw [e, g10.2.2.1 w hw, hkw] at h9; exact absurd h9 (by decide)
  have x1_p2_3_p4_5_p6_7_p8_9_p10 : gi (f10 y1) 1 = 0 ∧ gi (f10 y1) 2 = 0 := by rw [u10 y1 nv10_y1]; exact x1_p2_3_p4_5_p6_7_p8_9
  have nv10_y3 : y3 ≠ w := fun e => by have h9 := y3b_5_7_9; rw [e, g10.2.2.1 w hw, hkw] at h9; exact absurd h9 (by decide)
  have x3_p4_5_p6_7_p8_9_p10 : gi (f10 y3) 1 = 0 ∧ gi (f10 y3) 2 = 0 := by rw [u10 y3 nv10_y3]; exact x3_p4_5_p6_7_p8_9
  refine x_aload_n hE (z := 0) (i := 0) (x := w) (by decide +kernel) rfl (by simp [lv_args, Value.category]) ?_
  refine h_new (ci := 2) (fs := [.int 0, .null, .null, .null, .null, .null, .null, .null, .null, .null]) (ty0 := tyX2) hE rfl inZX2 tyX2_ok q497 q498 q122 (by decide +kernel) (Nat.le_of_ble_eq_true rfl) (Nat.le_of_ble_eq_true rfl) (by decide +kernel) (fun w11 nq11 => ?_)
  refine x_dup hE (by decide +kernel) rfl ?_
  have nw11 : w ≠ w11 := fun e => nq11 (by rw [← e]; exact g10.sub hw)
  refine x_aload_n hE (z := 0) (i := 0) (x := w) (by decide +kernel) rfl (by simp [lv_args, Value.category]) ?_
  refine r_get (v := .ref w1) hE fX11_ok (List.mem_of_getElem? (i := 0) rfl) (List.mem_append_left _ (g10.sub hw)) ((va_up_ne _ _ nw11).trans h10) rfl (by decide +kernel) ?_
  refine x_aload_n hE (z := 0) (i := 0) (x := w) (by decide +kernel) rfl (by simp [lv_args, Value.category]) ?_
  refine r_get (v := .ref w9) hE fX11_ok (List.mem_of_getElem? (i := 4) rfl) (List.mem_append_left _ (g10.sub hw)) ((va_up_ne _ _ nw11).trans h10) rfl (by decide +kernel) ?_
  have np11_0 : w1 ≠ w11 := fun e => nq11 (by rw [← e]; exact m9_w1.1)
  have np11_1 : w9 ≠ w11 := fun e => nq11 (by rw [← e]; exact m9_w9.1)
  have M11 := n_X2 (X0 := (l0, D0, cy0, ax0)) (B := B) (K := va_up K9 w11 131) (L := L9 ++ [w11]) (f := va_up f10 w11 (.inr (2, [.int 0, .null, .null, .null, .null, .null, .null, .null, .null, .null]))) (w := w11) (kw := 131) (kW := 139) (k1 := 132) (k2 := 133) (k3 := 134) (k4 := 135) (k5 := 136) (k6 := 137) (kb := fun i => 140 + i * 9) (p1 := w1) (kp1 := 40) (p2 := w9) (kp2 := 126) (List.mem_append_right _ (List.mem_singleton.mpr rfl)) (va_up_self _ _ _) rfl ⟨rfl, rfl⟩ (fun i hi => by
    match i, hi with
    | 0, _ => exact ⟨WK140, rfl⟩
    | 1, _ => exact ⟨WK149, rfl⟩
    | 2, _ => exact ⟨WK158, rfl⟩
    | 3, _ => exact ⟨WK167, rfl⟩
    | 4, _ => exact ⟨WK176, rfl⟩
    | 5, _ => exact ⟨WK185, rfl⟩
    | i + 6, h => exact absurd h (by omega)) (okI_of rfl rfl (fun _ => rfl) (by decide) (by decide)) (okI_of rfl rfl (fun _ => rfl) (by decide) (by decide)) (okI_of rfl rfl (fun _ => rfl) (by decide) (by decide)) (okI_of rfl rfl (fun _ => rfl) (by decide) (by decide)) (okI_of rfl rfl (fun _ => rfl) (by decide) (by decide)) (okI_of rfl rfl (fun _ => rfl) (by decide) (by decide)) ⟨List.mem_append_left _ m9_w1.1, (va_up_ne _ _ np11_0).trans m9_w1.2⟩ ⟨List.mem_append_left _ m9_w9.1, (va_up_ne _ _ np11_1).trans m9_w9.2⟩ (by decide)
  refine c_all hE (r_I (st := [.ref w11, .ref w]) hE M11 q499 q500 q122 q501 rfl ⟨by decide +kernel, by decide +kernel, pdi_X2⟩ ⟨by decide, by decide⟩ ⟨Nat.le_of_ble_eq_true rfl, Nat.le_of_ble_eq_true rfl⟩ rfl (by simp [Value.category]) (by decide +kernel)) (fun r11 L11 f11 ht11 hp11 => ?_)
  obtain rfl : r11 = none := ht11
  obtain ⟨A11, K11, c11, k11⟩ := hp11
  obtain ⟨g11, o11, i11, e11⟩ := GR.obj g10 nq11 c11 k11
  dsimp only at g11 o11 i11
  have h11 : f11 w = .inr (11, [.ref w1, .ref w3, .ref w5, .ref w7, .ref w9, .null, .null]) := (o11 w (g10.sub hw)).2.2.trans h10
  clear c11 k11
  have m11_w1 : w1 ∈ L11 ∧ K11 w1 = 40 := ⟨(o11 w1 m9_w1.1).1, (o11 w1 m9_w1.1).2.1.trans m9_w1.2⟩
  have m11_w3 : w3 ∈ L11 ∧ K11 w3 = 80 := ⟨(o11 w3 m9_w3.1).1, (o11 w3 m9_w3.1).2.1.trans m9_w3.2⟩
  have m11_w5 : w5 ∈ L11 ∧ K11 w5 = 120 := ⟨(o11 w5 m9_w5.1).1, (o11 w5 m9_w5.1).2.1.trans m9_w5.2⟩
  have m11_w7 : w7 ∈ L11 ∧ K11 w7 = 125 := ⟨(o11 w7 m9_w7.1).1, (o11 w7 m9_w7.1).2.1.trans m9_w7.2⟩
  have m11_w9 : w9 ∈ L11 ∧ K11 w9 = 126 := ⟨(o11 w9 m9_w9.1).1, (o11 w9 m9_w9.1).2.1.trans m9_w9.2⟩
  have m11_w11 : w11 ∈ L11 ∧ K11 w11 = 131 := ⟨i11, e11⟩
  have y1a_3_5_7_9_11 : y1 ∈ L11 := (o11 y1 y1a_3_5_7_9).1
  have y1b_3_5_7_9_11 : K11 y1 = 62 := (o11 y1 y1a_3_5_7_9).2.1.trans y1b_3_5_7_9
  have x1_p2_3_p4_5_p6_7_p8_9_p10_11 : gi (f11 y1) 1 = 0 ∧ gi (f11 y1) 2 = 0 := by rw [(o11 y1 y1a_3_5_7_9).2.2]; exact x1_p2_3_p4_5_p6_7_p8_9_p10
  have y3a_5_7_9_11 : y3 ∈ L11 := (o11 y3 y3a_5_7_9).1
  have y3b_5_7_9_11 : K11 y3 = 102 := (o11 y3 y3a_5_7_9).2.1.trans y3b_5_7_9
  have x3_p4_5_p6_7_p8_9_p10_11 : gi (f11 y3) 1 = 0 ∧ gi (f11 y3) 2 = 0 := by rw [(o11 y3 y3a_5_7_9).2.2]; exact x3_p4_5_p6_7_p8_9_p10
  refine n_put (ci := 11) (j := 5) hE hI g11 hw h11 rfl inZX11 tyX11_ok nmX11 (by decide) (by show 5 < 7; decide) rfl q561 rfl rfl (by decide +kernel) (fun f12 g12 h12 u12 => ?_)
  replace h12 : f12 w = .inr (11, [.ref w1, .ref w3, .ref w5, .ref w7, .ref w9, .ref w11, .null]) := h12
  have nv12_y1 : y1 ≠ w := fun e => by have h9 := y1b_3_5_7_9_11; rw [e, g12.2.2.1 w hw, hkw] at h9; exact absurd h9 (by decide)
  have x1_p2_3_p4_5_p6_7_p8_9_p10_11_p12 : gi (f12 y1) 1 = 0 ∧ gi (f12 y1) 2 = 0 := by rw [u12 y1 nv12_y1]; exact x1_p2_3_p4_5_p6_7_p8_9_p10_11
  have nv12_y3 : y3 ≠ w := fun e => by have h9 := y3b_5_7_9_11; rw [e, g12.2.2.1 w hw, hkw] at h9; exact absurd h9 (by decide)
  have x3_p4_5_p6_7_p8_9_p10_11_p12 : gi (f12 y3) 1 = 0 ∧ gi (f12 y3) 2 = 0 := by rw [u12 y3 nv12_y3]; exact x3_p4_5_p6_7_p8_9_p10_11
  refine x_aload_n hE (z := 0) (i := 0) (x := w) (by decide +kernel) rfl (by simp [lv_args, Value.category]) ?_
  refine h_new (ci := 8) (fs := [.null, .null, .null]) (ty0 := tyX8) hE rfl inZX8 tyX8_ok q539 q540 q123 (by decide +kernel) (Nat.le_of_ble_eq_true rfl) (Nat.le_of_ble_eq_true rfl) (by decide +kernel) (fun w13 nq13 => ?_)
  refine x_dup hE (by decide +kernel) rfl ?_
  have nw13 : w ≠ w13 := fun e => nq13 (by rw [← e]; exact g12.sub hw)
  refine x_aload_n hE (z := 0) (i := 0) (x := w) (by decide +kernel) rfl (by simp [lv_args, Value.category]) ?_
  refine r_get (v := .ref w1) hE fX11_ok (List.mem_of_getElem? (i := 0) rfl) (List.mem_append_left _ (g12.sub hw)) ((va_up_ne _ _ nw13).trans h12) rfl (by decide +kernel) ?_
  have np13_0 : w1 ≠ w13 := fun e => nq13 (by rw [← e]; exact m11_w1.1)
  have M13 := n_X8 (X0 := (l0, D0, cy0, ax0)) (B := B) (K := va_up K11 w13 194) (L := L11 ++ [w13]) (f := va_up f12 w13 (.inr (8, [.null, .null, .null]))) (w := w13) (kw := 194) (k1 := 195) (k2 := 196) (p1 := w1) (kp1 := 40) (List.mem_append_right _ (List.mem_singleton.mpr rfl)) (va_up_self _ _ _) rfl (okI_of rfl rfl (fun _ => rfl) (by decide) (by decide)) (okI_of rfl rfl (fun _ => rfl) (by decide) (by decide)) ⟨List.mem_append_left _ m11_w1.1, (va_up_ne _ _ np13_0).trans m11_w1.2⟩ np13_0
  refine c_all hE (r_I (st := [.ref w13, .ref w]) hE M13 q541 q542 q123 q543 rfl ⟨by decide +kernel, by decide +kernel, pdi_X8⟩ ⟨by decide, by decide⟩ ⟨Nat.le_of_ble_eq_true rfl, Nat.le_of_ble_eq_true rfl⟩ rfl (by simp [Value.category]) (by decide +kernel)) (fun r13 L13 f13 ht13 hp13 => ?_)
  obtain rfl : r13 = none := ht13
  obtain ⟨A13, K13, c13, k13⟩ := hp13
  obtain ⟨g13, o13, i13, e13⟩ := GR.obj g12 nq13 c13 k13
  dsimp only at g13 o13 i13
  have h13 : f13 w = .inr (11, [.ref w1, .ref w3, .ref w5, .ref w7, .ref w9, .ref w11, .null]) := (o13 w (g12.sub hw)).2.2.trans h12
  clear c13 k13
  have m13_w1 : w1 ∈ L13 ∧ K13 w1 = 40 := ⟨(o13 w1 m11_w1.1).1, (o13 w1 m11_w1.1).2.1.trans m11_w1.2⟩
  have m13_w3 : w3 ∈ L13 ∧ K13 w3 = 80 := ⟨(o13 w3 m11_w3.1).1, (o13 w3 m11_w3.1).2.1.trans m11_w3.2⟩
  have m13_w5 : w5 ∈ L13 ∧ K13 w5 = 120 := ⟨(o13 w5 m11_w5.1).1, (o13 w5 m11_w5.1).2.1.trans m11_w5.2⟩
  have m13_w7 : w7 ∈ L13 ∧ K13 w7 = 125 := ⟨(o13 w7 m11_w7.1).1, (o13 w7 m11_w7.1).2.1.trans m11_w7.2⟩
  have m13_w9 : w9 ∈ L13 ∧ K13 w9 = 126 := ⟨(o13 w9 m11_w9.1).1, (o13 w9 m11_w9.1).2.1.trans m11_w9.2⟩
  have m13_w11 : w11 ∈ L13 ∧ K13 w11 = 131 := ⟨(o13 w11 m11_w11.1).1, (o13 w11 m11_w11.1).2.1.trans m11_w11.2⟩
  have m13_w13 : w13 ∈ L13 ∧ K13 w13 = 194 := ⟨i13, e13⟩
  have y1a_3_5_7_9_11_13 : y1 ∈ L13 := (o13 y1 y1a_3_5_7_9_11).1
  have y1b_3_5_7_9_11_13 : K13 y1 = 62 := (o13 y1 y1a_3_5_7_9_11).2.1.trans y1b_3_5_7_9_11
  have x1_p2_3_p4_5_p6_7_p8_9_p10_11_p12_13 : gi (f13 y1) 1 = 0 ∧ gi (f13 y1) 2 = 0 := by rw [(o13 y1 y1a_3_5_7_9_11).2.2]; exact x1_p2_3_p4_5_p6_7_p8_9_p10_11_p12
  have y3a_5_7_9_11_13 : y3 ∈ L13 := (o13 y3 y3a_5_7_9_11).1
  have y3b_5_7_9_11_13 : K13 y3 = 102 := (o13 y3 y3a_5_7_9_11).2.1.trans y3b_5_7_9_11
  have x3_p4_5_p6_7_p8_9_p10_11_p12_13 : gi (f13 y3) 1 = 0 ∧ gi (f13 y3) 2 = 0 := by rw [(o13 y3 y3a_5_7_9_11).2.2]; exact x3_p4_5_p6_7_p8_9_p10_11_p12
  refine n_put (ci := 11) (j := 6) hE hI g13 hw h13 rfl inZX11 tyX11_ok nmX11 (by decide) (by show 6 < 7; decide) rfl q562 rfl rfl (by decide +kernel) (fun f14 g14 h14 u14 => ?_)
  replace h14 : f14 w = .inr (11, [.ref w1, .ref w3, .ref w5, .ref w7, .ref w9, .ref w11, .ref w13]) := h14
  have nv14_y1 : y1 ≠ w := fun e => by have h9 := y1b_3_5_7_9_11_13; rw [e, g14.2.2.1 w hw, hkw] at h9; exact absurd h9 (by decide)
  have x1_p2_3_p4_5_p6_7_p8_9_p10_11_p12_13_p14 : gi (f14 y1) 1 = 0 ∧ gi (f14 y1) 2 = 0 := by rw [u14 y1 nv14_y1]; exact x1_p2_3_p4_5_p6_7_p8_9_p10_11_p12_13
  have nv14_y3 : y3 ≠ w := fun e => by have h9 := y3b_5_7_9_11_13; rw [e, g14.2.2.1 w hw, hkw] at h9; exact absurd h9 (by decide)
  have x3_p4_5_p6_7_p8_9_p10_11_p12_13_p14 : gi (f14 y3) 1 = 0 ∧ gi (f14 y3) 2 = 0 := by rw [u14 y3 nv14_y3]; exact x3_p4_5_p6_7_p8_9_p10_11_p12_13
  have hck : cok cy0 K13 B L13 197 (f14 w) := by
    rw [h14]
    exact cok_O rfl ⟨fk2 (k := 40) m13_w1, fk2 (k := 80) m13_w3, fk2 (k := 120) m13_w5, fk2 (k := 125) m13_w7, fk2 (k := 126) m13_w9, fk2 (k := 131) m13_w11, fk2 (k := 194) m13_w13, trivial⟩
  exact hret _ _ L13 f14 101 _ (Nat.le_of_ble_eq_true rfl) (Nat.le_of_ble_eq_true rfl) (by decide +kernel) ⟨_, K13, g14, hck, ⟨y1, y1a_3_5_7_9_11_13, y1b_3_5_7_9_11_13, x1_p2_3_p4_5_p6_7_p8_9_p10_11_p12_13_p14⟩, ⟨y3, y3a_5_7_9_11_13, y3b_5_7_9_11_13, x3_p4_5_p6_7_p8_9_p10_11_p12_13_p14⟩⟩
