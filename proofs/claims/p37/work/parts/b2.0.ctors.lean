/-! Constructors of rows. -/
theorem n_X0 {X0 : zC0} {B : Int} {K : Nat → Nat} {L : List Nat} {f : Nat → va_E} {w kw k1 k2 k3 k4 k5 k6 k7 k8 : Nat} {lo0 hi0 lo1 hi1 : Int} (hw : w ∈ L) (hf : f w = .inr (0, [.int 0, .int 0, .null, .null, .null, .null, .null, .null, .null, .null])) (hz : zkd kw = (1, 0, [(0, lo0, hi0), (0, lo1, hi1), (2, (k1 : Int), 0), (2, (k2 : Int), 0), (2, (k3 : Int), 0), (2, (k4 : Int), 0), (2, (k5 : Int), 0), (2, (k6 : Int), 0), (2, (k7 : Int), 0), (2, (k8 : Int), 0)])) (o1 : okI k1 6) (o2 : okI k2 6) (o3 : okI k3 6) (o4 : okI k4 6) (o5 : okI k5 8) (o6 : okI k6 8) (o7 : okI k7 8) (o8 : okI k8 8) (b0 : lo0 ≤ (0 : Int32).toInt ∧ (0 : Int32).toInt ≤ hi0) (b1 : lo1 ≤ (0 : Int32).toInt ∧ (0 : Int32).toInt ≤ hi1) : eM X0 3 yX0_init cX0_init 1 none (zrm 1 8 56) [.ref w] L f (fun _ u => ∃ (A : List Nat) (K1 : Nat → Nat), GR X0.2.2.1 B L K f w u.1 A [k1, k2, k3, k4, k5, k6, k7, k8] K1 u.2 ∧ cok X0.2.2.1 K1 B u.1 kw (u.2 w)) := by
  obtain ⟨l0, D0, cy0, ax0⟩ := X0
  refine eM.mk rfl pnX0 (Nat.le_of_ble_eq_true rfl) (fun E hE hin hret => ?_)
  have hI := hin rfl
  have g0 : GR cy0 B L K f w L [] [] K f := GR.rf
  have h0 := hf
  refine x_aload_n hE (z := 0) (i := 0) (x := w) (by decide +kernel) rfl (by simp [lv_args, Value.category]) ?_
  refine x_objinit hE q153 q140 q141 (by decide +kernel) (by decide) (by decide) ?_
  refine x_aload_n hE (z := 0) (i := 0) (x := w) (by decide +kernel) rfl (by simp [lv_args, Value.category]) ?_
  refine x_bipush hE (i := 6) (v := 6) (by decide +kernel) (by decide +kernel) ?_
  refine n_row (atype := .int) (ty := .int) (t0 := 0) (x := (6, .inl (fun _ => 0))) (v := 6) (ci := 0) (j := 2) (kq := k1) (n0 := 6) hE hI g0 hw h0 rfl inZX0 tyX0_ok nmX0 (by decide) (by show 2 < 10; decide) rfl q163 rfl rfl (fun C h => by cases h) q207 (fun _ => rfl) (fun _ => rfl) (by decide) rfl (by decide) (Nat.le_of_ble_eq_true rfl) (Nat.le_of_ble_eq_true rfl) (by decide +kernel) (by decide +kernel) (fun K L => cok_I o1) (fun q1 L3 K3 f3 g3 h3 r3 c3 => ?_)
  replace h3 : f3 w = .inr (0, [.int 0, .int 0, .ref q1, .null, .null, .null, .null, .null, .null, .null]) := h3
  refine x_aload_n hE (z := 0) (i := 0) (x := w) (by decide +kernel) rfl (by simp [lv_args, Value.category]) ?_
  refine x_bipush hE (i := 6) (v := 6) (by decide +kernel) (by decide +kernel) ?_
  refine n_row (atype := .int) (ty := .int) (t0 := 0) (x := (6, .inl (fun _ => 0))) (v := 6) (ci := 0) (j := 3) (kq := k2) (n0 := 6) hE hI g3 hw h3 rfl inZX0 tyX0_ok nmX0 (by decide) (by show 3 < 10; decide) rfl q166 rfl rfl (fun C h => by cases h) q207 (fun _ => rfl) (fun _ => rfl) (by decide) rfl (by decide) (Nat.le_of_ble_eq_true rfl) (Nat.le_of_ble_eq_true rfl) (by decide +kernel) (by decide +kernel) (fun K L => cok_I o2) (fun q2 L7 K7 f7 g7 h7 r7 c7 => ?_)
  replace h7 : f7 w = .inr (0, [.int 0, .int 0, .ref q1, .ref q2, .null, .null, .null, .null, .null, .null]) := h7
  refine x_aload_n hE (z := 0) (i := 0) (x := w) (by decide +kernel) rfl (by simp [lv_args, Value.category]) ?_
  refine x_bipush hE (i := 6) (v := 6) (by decide +kernel) (by decide +kernel) ?_
  refine n_row (atype := .int) (ty := .int) (t0 := 0) (x := (6, .inl (fun _ => 0))) (v := 6) (ci := 0) (j := 4) (kq := k3) (n0 := 6) hE hI g7 hw h7 rfl inZX0 tyX0_ok nmX0 (by decide) (by show 4 < 10; decide) rfl q170 rfl rfl (fun C h => by cases h) q207 (fun _ => rfl) (fun _ => rfl) (by decide) rfl (by decide) (Nat.le_of_ble_eq_true rfl) (Nat.le_of_ble_eq_true rfl) (by decide +kernel) (by decide +kernel) (fun K L => cok_I o3) (fun q3 L11 K11 f11 g11 h11 r11 c11 => ?_)
  replace h11 : f11 w = .inr (0, [.int 0, .int 0, .ref q1, .ref q2, .ref q3, .null, .null, .null, .null, .null]) := h11
  refine x_aload_n hE (z := 0) (i := 0) (x := w) (by decide +kernel) rfl (by simp [lv_args, Value.category]) ?_
  refine x_bipush hE (i := 6) (v := 6) (by decide +kernel) (by decide +kernel) ?_
  refine n_row (atype := .int) (ty := .int) (t0 := 0) (x := (6, .inl (fun _ => 0))) (v := 6) (ci := 0) (j := 5) (kq := k4) (n0 := 6) hE hI g11 hw h11 rfl inZX0 tyX0_ok nmX0 (by decide) (by show 5 < 10; decide) rfl q174 rfl rfl (fun C h => by cases h) q207 (fun _ => rfl) (fun _ => rfl) (by decide) rfl (by decide) (Nat.le_of_ble_eq_true rfl) (Nat.le_of_ble_eq_true rfl) (by decide +kernel) (by decide +kernel) (fun K L => cok_I o4) (fun q4 L15 K15 f15 g15 h15 r15 c15 => ?_)
  replace h15 : f15 w = .inr (0, [.int 0, .int 0, .ref q1, .ref q2, .ref q3, .ref q4, .null, .null, .null, .null]) := h15
  refine x_aload_n hE (z := 0) (i := 0) (x := w) (by decide +kernel) rfl (by simp [lv_args, Value.category]) ?_
  refine x_bipush hE (i := 8) (v := 8) (by decide +kernel) (by decide +kernel) ?_
  refine n_row (atype := .int) (ty := .int) (t0 := 0) (x := (8, .inl (fun _ => 0))) (v := 8) (ci := 0) (j := 6) (kq := k5) (n0 := 8) hE hI g15 hw h15 rfl inZX0 tyX0_ok nmX0 (by decide) (by show 6 < 10; decide) rfl q176 rfl rfl (fun C h => by cases h) q207 (fun _ => rfl) (fun _ => rfl) (by decide) rfl (by decide) (Nat.le_of_ble_eq_true rfl) (Nat.le_of_ble_eq_true rfl) (by decide +kernel) (by decide +kernel) (fun K L => cok_I o5) (fun q5 L19 K19 f19 g19 h19 r19 c19 => ?_)
  replace h19 : f19 w = .inr (0, [.int 0, .int 0, .ref q1, .ref q2, .ref q3, .ref q4, .ref q5, .null, .null, .null]) := h19
  refine x_aload_n hE (z := 0) (i := 0) (x := w) (by decide +kernel) rfl (by simp [lv_args, Value.category]) ?_
  refine x_bipush hE (i := 8) (v := 8) (by decide +kernel) (by decide +kernel) ?_
  refine n_row (atype := .int) (ty := .int) (t0 := 0) (x := (8, .inl (fun _ => 0))) (v := 8) (ci := 0) (j := 7) (kq := k6) (n0 := 8) hE hI g19 hw h19 rfl inZX0 tyX0_ok nmX0 (by decide) (by show 7 < 10; decide) rfl q179 rfl rfl (fun C h => by cases h) q207 (fun _ => rfl) (fun _ => rfl) (by decide) rfl (by decide) (Nat.le_of_ble_eq_true rfl) (Nat.le_of_ble_eq_true rfl) (by decide +kernel) (by decide +kernel) (fun K L => cok_I o6) (fun q6 L23 K23 f23 g23 h23 r23 c23 => ?_)
  replace h23 : f23 w = .inr (0, [.int 0, .int 0, .ref q1, .ref q2, .ref q3, .ref q4, .ref q5, .ref q6, .null, .null]) := h23
  refine x_aload_n hE (z := 0) (i := 0) (x := w) (by decide +kernel) rfl (by simp [lv_args, Value.category]) ?_
  refine x_bipush hE (i := 8) (v := 8) (by decide +kernel) (by decide +kernel) ?_
  refine n_row (atype := .int) (ty := .int) (t0 := 0) (x := (8, .inl (fun _ => 0))) (v := 8) (ci := 0) (j := 8) (kq := k7) (n0 := 8) hE hI g23 hw h23 rfl inZX0 tyX0_ok nmX0 (by decide) (by show 8 < 10; decide) rfl q182 rfl rfl (fun C h => by cases h) q207 (fun _ => rfl) (fun _ => rfl) (by decide) rfl (by decide) (Nat.le_of_ble_eq_true rfl) (Nat.le_of_ble_eq_true rfl) (by decide +kernel) (by decide +kernel) (fun K L => cok_I o7) (fun q7 L27 K27 f27 g27 h27 r27 c27 => ?_)
  replace h27 : f27 w = .inr (0, [.int 0, .int 0, .ref q1, .ref q2, .ref q3, .ref q4, .ref q5, .ref q6, .ref q7, .null]) := h27
  refine x_aload_n hE (z := 0) (i := 0) (x := w) (by decide +kernel) rfl (by simp [lv_args, Value.category]) ?_
  refine x_bipush hE (i := 8) (v := 8) (by decide +kernel) (by decide +kernel) ?_
  refine n_row (atype := .int) (ty := .int) (t0 := 0) (x := (8, .inl (fun _ => 0))) (v := 8) (ci := 0) (j := 9) (kq := k8) (n0 := 8) hE hI g27 hw h27 rfl inZX0 tyX0_ok nmX0 (by decide) (by show 9 < 10; decide) rfl q184 rfl rfl (fun C h => by cases h) q207 (fun _ => rfl) (fun _ => rfl) (by decide) rfl (by decide) (Nat.le_of_ble_eq_true rfl) (Nat.le_of_ble_eq_true rfl) (by decide +kernel) (by decide +kernel) (fun K L => cok_I o8) (fun q8 L31 K31 f31 g31 h31 r31 c31 => ?_)
  replace h31 : f31 w = .inr (0, [.int 0, .int 0, .ref q1, .ref q2, .ref q3, .ref q4, .ref q5, .ref q6, .ref q7, .ref q8]) := h31
  have hS := g31.2.1
  simp only [List.nil_append, List.cons_append, List.map_cons, List.map_nil, List.cons.injEq, and_true] at hS
  obtain ⟨e1, e2, e3, e4, e5, e6, e7, e8⟩ := hS
  have mem : ∀ q, q ∈ [q1, q2, q3, q4, q5, q6, q7, q8] → q ∈ L31 := fun q hq => by
    rw [g31.1]
    exact List.mem_append_right _ hq
  have hck : cok cy0 K31 B L31 kw (f31 w) := by
    rw [h31]
    exact cok_O hz ⟨fk0 b0, fk0 b1, fk2 ⟨mem q1 (by simp), e1⟩, fk2 ⟨mem q2 (by simp), e2⟩, fk2 ⟨mem q3 (by simp), e3⟩, fk2 ⟨mem q4 (by simp), e4⟩, fk2 ⟨mem q5 (by simp), e5⟩, fk2 ⟨mem q6 (by simp), e6⟩, fk2 ⟨mem q7 (by simp), e7⟩, fk2 ⟨mem q8 (by simp), e8⟩, trivial⟩
  exact hret _ _ L31 f31 68 _ (Nat.le_of_ble_eq_true rfl) (Nat.le_of_ble_eq_true rfl) (by decide +kernel) ⟨_, K31, g31, hck⟩
theorem n_X10 {X0 : zC0} {B : Int} {K : Nat → Nat} {L : List Nat} {f : Nat → va_E} {w kw k1 k2 k3 k4 k5 k6 k7 k8 : Nat} {lo6 hi6 lo7 hi7 lo8 hi8 lo9 hi9 lo10 hi10 lo11 hi11 lo12 hi12 : Int} (hw : w ∈ L) (hf : f w = .inr (10, [.null, .null, .null, .null, .null, .null, .int 0, .int 0, .int 0, .int 0, .int 0, .int 0, .int 0, .null, .null])) (hz : zkd kw = (1, 10, [(2, (k1 : Int), 0), (2, (k2 : Int), 0), (2, (k3 : Int), 0), (2, (k4 : Int), 0), (2, (k5 : Int), 0), (2, (k6 : Int), 0), (0, lo6, hi6), (0, lo7, hi7), (0, lo8, hi8), (0, lo9, hi9), (0, lo10, hi10), (0, lo11, hi11), (0, lo12, hi12), (2, (k7 : Int), 0), (2, (k8 : Int), 0)])) (o1 : okI k1 6) (o2 : okI k2 6) (o3 : okI k3 6) (o4 : okI k4 8) (o5 : okI k5 8) (o6 : okI k6 8) (o7 : okI k7 40) (o8 : okI k8 20) (b6 : lo6 ≤ (0 : Int32).toInt ∧ (0 : Int32).toInt ≤ hi6) (b7 : lo7 ≤ (0 : Int32).toInt ∧ (0 : Int32).toInt ≤ hi7) (b8 : lo8 ≤ (0 : Int32).toInt ∧ (0 : Int32).toInt ≤ hi8) (b9 : lo9 ≤ (0 : Int32).toInt ∧ (0 : Int32).toInt ≤ hi9) (b10 : lo10 ≤ (37 : Int32).toInt ∧ (37 : Int32).toInt ≤ hi10) (b11 : lo11 ≤ (0 : Int32).toInt ∧ (0 : Int32).toInt ≤ hi11) (b12 : lo12 ≤ (0 : Int32).toInt ∧ (0 : Int32).toInt ≤ hi12) : eM X0 3 yX10_init cX10_init 1 none (zrm 1 8 102) [.ref w] L f (fun _ u => ∃ (A : List Nat) (K1 : Nat → Nat), GR X0.2.2.1 B L K f w u.1 A [k1, k2, k3, k4, k5, k6, k7, k8] K1 u.2 ∧ cok X0.2.2.1 K1 B u.1 kw (u.2 w)) := by
  obtain ⟨l0, D0, cy0, ax0⟩ := X0
  refine eM.mk rfl pnX10 (Nat.le_of_ble_eq_true rfl) (fun E hE hin hret => ?_)
  have hI := hin rfl
  have g0 : GR cy0 B L K f w L [] [] K f := GR.rf
  have h0 := hf
  refine x_aload_n hE (z := 0) (i := 0) (x := w) (by decide +kernel) rfl (by simp [lv_args, Value.category]) ?_
  refine x_objinit hE q213 q140 q141 (by decide +kernel) (by decide) (by decide) ?_
  refine x_aload_n hE (z := 0) (i := 0) (x := w) (by decide +kernel) rfl (by simp [lv_args, Value.category]) ?_
  refine x_bipush hE (i := 6) (v := 6) (by decide +kernel) (by decide +kernel) ?_
  refine n_row (atype := .int) (ty := .int) (t0 := 0) (x := (6, .inl (fun _ => 0))) (v := 6) (ci := 10) (j := 0) (kq := k1) (n0 := 6) hE hI g0 hw h0 rfl inZX10 tyX10_ok nmX10 (by decide) (by show 0 < 15; decide) rfl q214 rfl rfl (fun C h => by cases h) q207 (fun _ => rfl) (fun _ => rfl) (by decide) rfl (by decide) (Nat.le_of_ble_eq_true rfl) (Nat.le_of_ble_eq_true rfl) (by decide +kernel) (by decide +kernel) (fun K L => cok_I o1) (fun q1 L3 K3 f3 g3 h3 r3 c3 => ?_)
  replace h3 : f3 w = .inr (10, [.ref q1, .null, .null, .null, .null, .null, .int 0, .int 0, .int 0, .int 0, .int 0, .int 0, .int 0, .null, .null]) := h3
  refine x_aload_n hE (z := 0) (i := 0) (x := w) (by decide +kernel) rfl (by simp [lv_args, Value.category]) ?_
  refine x_bipush hE (i := 6) (v := 6) (by decide +kernel) (by decide +kernel) ?_
  refine n_row (atype := .int) (ty := .int) (t0 := 0) (x := (6, .inl (fun _ => 0))) (v := 6) (ci := 10) (j := 1) (kq := k2) (n0 := 6) hE hI g3 hw h3 rfl inZX10 tyX10_ok nmX10 (by decide) (by show 1 < 15; decide) rfl q218 rfl rfl (fun C h => by cases h) q207 (fun _ => rfl) (fun _ => rfl) (by decide) rfl (by decide) (Nat.le_of_ble_eq_true rfl) (Nat.le_of_ble_eq_true rfl) (by decide +kernel) (by decide +kernel) (fun K L => cok_I o2) (fun q2 L7 K7 f7 g7 h7 r7 c7 => ?_)
  replace h7 : f7 w = .inr (10, [.ref q1, .ref q2, .null, .null, .null, .null, .int 0, .int 0, .int 0, .int 0, .int 0, .int 0, .int 0, .null, .null]) := h7
  refine x_aload_n hE (z := 0) (i := 0) (x := w) (by decide +kernel) rfl (by simp [lv_args, Value.category]) ?_
  refine x_bipush hE (i := 6) (v := 6) (by decide +kernel) (by decide +kernel) ?_
  refine n_row (atype := .int) (ty := .int) (t0 := 0) (x := (6, .inl (fun _ => 0))) (v := 6) (ci := 10) (j := 2) (kq := k3) (n0 := 6) hE hI g7 hw h7 rfl inZX10 tyX10_ok nmX10 (by decide) (by show 2 < 15; decide) rfl q222 rfl rfl (fun C h => by cases h) q207 (fun _ => rfl) (fun _ => rfl) (by decide) rfl (by decide) (Nat.le_of_ble_eq_true rfl) (Nat.le_of_ble_eq_true rfl) (by decide +kernel) (by decide +kernel) (fun K L => cok_I o3) (fun q3 L11 K11 f11 g11 h11 r11 c11 => ?_)
  replace h11 : f11 w = .inr (10, [.ref q1, .ref q2, .ref q3, .null, .null, .null, .int 0, .int 0, .int 0, .int 0, .int 0, .int 0, .int 0, .null, .null]) := h11
  refine x_aload_n hE (z := 0) (i := 0) (x := w) (by decide +kernel) rfl (by simp [lv_args, Value.category]) ?_
  refine x_bipush hE (i := 8) (v := 8) (by decide +kernel) (by decide +kernel) ?_
  refine n_row (atype := .int) (ty := .int) (t0 := 0) (x := (8, .inl (fun _ => 0))) (v := 8) (ci := 10) (j := 3) (kq := k4) (n0 := 8) hE hI g11 hw h11 rfl inZX10 tyX10_ok nmX10 (by decide) (by show 3 < 15; decide) rfl q225 rfl rfl (fun C h => by cases h) q207 (fun _ => rfl) (fun _ => rfl) (by decide) rfl (by decide) (Nat.le_of_ble_eq_true rfl) (Nat.le_of_ble_eq_true rfl) (by decide +kernel) (by decide +kernel) (fun K L => cok_I o4) (fun q4 L15 K15 f15 g15 h15 r15 c15 => ?_)
  replace h15 : f15 w = .inr (10, [.ref q1, .ref q2, .ref q3, .ref q4, .null, .null, .int 0, .int 0, .int 0, .int 0, .int 0, .int 0, .int 0, .null, .null]) := h15
  refine x_aload_n hE (z := 0) (i := 0) (x := w) (by decide +kernel) rfl (by simp [lv_args, Value.category]) ?_
  refine x_bipush hE (i := 8) (v := 8) (by decide +kernel) (by decide +kernel) ?_
  refine n_row (atype := .int) (ty := .int) (t0 := 0) (x := (8, .inl (fun _ => 0))) (v := 8) (ci := 10) (j := 4) (kq := k5) (n0 := 8) hE hI g15 hw h15 rfl inZX10 tyX10_ok nmX10 (by decide) (by show 4 < 15; decide) rfl q229 rfl rfl (fun C h => by cases h) q207 (fun _ => rfl) (fun _ => rfl) (by decide) rfl (by decide) (Nat.le_of_ble_eq_true rfl) (Nat.le_of_ble_eq_true rfl) (by decide +kernel) (by decide +kernel) (fun K L => cok_I o5) (fun q5 L19 K19 f19 g19 h19 r19 c19 => ?_)
  replace h19 : f19 w = .inr (10, [.ref q1, .ref q2, .ref q3, .ref q4, .ref q5, .null, .int 0, .int 0, .int 0, .int 0, .int 0, .int 0, .int 0, .null, .null]) := h19
  refine x_aload_n hE (z := 0) (i := 0) (x := w) (by decide +kernel) rfl (by simp [lv_args, Value.category]) ?_
  refine x_bipush hE (i := 8) (v := 8) (by decide +kernel) (by decide +kernel) ?_
  refine n_row (atype := .int) (ty := .int) (t0 := 0) (x := (8, .inl (fun _ => 0))) (v := 8) (ci := 10) (j := 5) (kq := k6) (n0 := 8) hE hI g19 hw h19 rfl inZX10 tyX10_ok nmX10 (by decide) (by show 5 < 15; decide) rfl q233 rfl rfl (fun C h => by cases h) q207 (fun _ => rfl) (fun _ => rfl) (by decide) rfl (by decide) (Nat.le_of_ble_eq_true rfl) (Nat.le_of_ble_eq_true rfl) (by decide +kernel) (by decide +kernel) (fun K L => cok_I o6) (fun q6 L23 K23 f23 g23 h23 r23 c23 => ?_)
  replace h23 : f23 w = .inr (10, [.ref q1, .ref q2, .ref q3, .ref q4, .ref q5, .ref q6, .int 0, .int 0, .int 0, .int 0, .int 0, .int 0, .int 0, .null, .null]) := h23
  refine x_aload_n hE (z := 0) (i := 0) (x := w) (by decide +kernel) rfl (by simp [lv_args, Value.category]) ?_
  refine x_bipush hE (i := 37) (v := 37) (by decide +kernel) (by decide +kernel) ?_
  refine n_put (ci := 10) (j := 10) hE hI g23 hw h23 rfl inZX10 tyX10_ok nmX10 (by decide) (by show 10 < 15; decide) rfl q250 rfl rfl (by decide +kernel) (fun f27 g27 h27 _ => ?_)
  replace h27 : f27 w = .inr (10, [.ref q1, .ref q2, .ref q3, .ref q4, .ref q5, .ref q6, .int 0, .int 0, .int 0, .int 0, .int 37, .int 0, .int 0, .null, .null]) := h27
  refine x_aload_n hE (z := 0) (i := 0) (x := w) (by decide +kernel) rfl (by simp [lv_args, Value.category]) ?_
  refine x_bipush hE (i := 40) (v := 40) (by decide +kernel) (by decide +kernel) ?_
  refine n_row (atype := .int) (ty := .int) (t0 := 0) (x := (40, .inl (fun _ => 0))) (v := 40) (ci := 10) (j := 13) (kq := k7) (n0 := 40) hE hI g27 hw h27 rfl inZX10 tyX10_ok nmX10 (by decide) (by show 13 < 15; decide) rfl q255 rfl rfl (fun C h => by cases h) q207 (fun _ => rfl) (fun _ => rfl) (by decide) rfl (by decide) (Nat.le_of_ble_eq_true rfl) (Nat.le_of_ble_eq_true rfl) (by decide +kernel) (by decide +kernel) (fun K L => cok_I o7) (fun q7 L31 K31 f31 g31 h31 r31 c31 => ?_)
  replace h31 : f31 w = .inr (10, [.ref q1, .ref q2, .ref q3, .ref q4, .ref q5, .ref q6, .int 0, .int 0, .int 0, .int 0, .int 37, .int 0, .int 0, .ref q7, .null]) := h31
  refine x_aload_n hE (z := 0) (i := 0) (x := w) (by decide +kernel) rfl (by simp [lv_args, Value.category]) ?_
  refine x_bipush hE (i := 20) (v := 20) (by decide +kernel) (by decide +kernel) ?_
  refine n_row (atype := .int) (ty := .int) (t0 := 0) (x := (20, .inl (fun _ => 0))) (v := 20) (ci := 10) (j := 14) (kq := k8) (n0 := 20) hE hI g31 hw h31 rfl inZX10 tyX10_ok nmX10 (by decide) (by show 14 < 15; decide) rfl q256 rfl rfl (fun C h => by cases h) q207 (fun _ => rfl) (fun _ => rfl) (by decide) rfl (by decide) (Nat.le_of_ble_eq_true rfl) (Nat.le_of_ble_eq_true rfl) (by decide +kernel) (by decide +kernel) (fun K L => cok_I o8) (fun q8 L35 K35 f35 g35 h35 r35 c35 => ?_)
  replace h35 : f35 w = .inr (10, [.ref q1, .ref q2, .ref q3, .ref q4, .ref q5, .ref q6, .int 0, .int 0, .int 0, .int 0, .int 37, .int 0, .int 0, .ref q7, .ref q8]) := h35
  have hS := g35.2.1
  simp only [List.nil_append, List.cons_append, List.map_cons, List.map_nil, List.cons.injEq, and_true] at hS
  obtain ⟨e1, e2, e3, e4, e5, e6, e7, e8⟩ := hS
  have mem : ∀ q, q ∈ [q1, q2, q3, q4, q5, q6, q7, q8] → q ∈ L35 := fun q hq => by
    rw [g35.1]
    exact List.mem_append_right _ hq
  have hck : cok cy0 K35 B L35 kw (f35 w) := by
    rw [h35]
    exact cok_O hz ⟨fk2 ⟨mem q1 (by simp), e1⟩, fk2 ⟨mem q2 (by simp), e2⟩, fk2 ⟨mem q3 (by simp), e3⟩, fk2 ⟨mem q4 (by simp), e4⟩, fk2 ⟨mem q5 (by simp), e5⟩, fk2 ⟨mem q6 (by simp), e6⟩, fk0 b6, fk0 b7, fk0 b8, fk0 b9, fk0 b10, fk0 b11, fk0 b12, fk2 ⟨mem q7 (by simp), e7⟩, fk2 ⟨mem q8 (by simp), e8⟩, trivial⟩
  exact hret _ _ L35 f35 74 _ (Nat.le_of_ble_eq_true rfl) (Nat.le_of_ble_eq_true rfl) (by decide +kernel) ⟨_, K35, g35, hck⟩
theorem n_X1 {X0 : zC0} {B : Int} {K : Nat → Nat} {L : List Nat} {f : Nat → va_E} {w kw k1 k2 k3 k4 k5 k6 k7 k8 : Nat} {lo0 hi0 lo1 hi1 lo2 hi2 : Int} (hw : w ∈ L) (hf : f w = .inr (1, [.int 0, .int 0, .int 0, .null, .null, .null, .null, .null, .null, .null, .null])) (hz : zkd kw = (1, 1, [(0, lo0, hi0), (0, lo1, hi1), (0, lo2, hi2), (2, (k1 : Int), 0), (2, (k2 : Int), 0), (2, (k3 : Int), 0), (2, (k4 : Int), 0), (2, (k5 : Int), 0), (2, (k6 : Int), 0), (2, (k7 : Int), 0), (2, (k8 : Int), 0)])) (o1 : okI k1 6) (o2 : okI k2 6) (o3 : okI k3 6) (o4 : okI k4 12) (o5 : (zkd k5).1 = 3 ∧ (zkd k5).2.1 = 12) (o6 : (zkd k6).1 = 3 ∧ (zkd k6).2.1 = 10) (o7 : okI k7 10) (o8 : okI k8 10) (b0 : lo0 ≤ (0 : Int32).toInt ∧ (0 : Int32).toInt ≤ hi0) (b1 : lo1 ≤ (0 : Int32).toInt ∧ (0 : Int32).toInt ≤ hi1) (b2 : lo2 ≤ (0 : Int32).toInt ∧ (0 : Int32).toInt ≤ hi2) : eM X0 3 yX1_init cX1_init 1 none (zrm 1 8 72) [.ref w] L f (fun _ u => ∃ (A : List Nat) (K1 : Nat → Nat), GR X0.2.2.1 B L K f w u.1 A [k1, k2, k3, k4, k5, k6, k7, k8] K1 u.2 ∧ cok X0.2.2.1 K1 B u.1 kw (u.2 w) ∧ gi (u.2 w) 1 = 0 ∧ gi (u.2 w) 2 = 0) := by
  obtain ⟨l0, D0, cy0, ax0⟩ := X0
  refine eM.mk rfl pnX1 (Nat.le_of_ble_eq_true rfl) (fun E hE hin hret => ?_)
  have hI := hin rfl
  have g0 : GR cy0 B L K f w L [] [] K f := GR.rf
  have h0 := hf
  refine x_aload_n hE (z := 0) (i := 0) (x := w) (by decide +kernel) rfl (by simp [lv_args, Value.category]) ?_
  refine x_objinit hE q317 q140 q141 (by decide +kernel) (by decide) (by decide) ?_
  refine x_aload_n hE (z := 0) (i := 0) (x := w) (by decide +kernel) rfl (by simp [lv_args, Value.category]) ?_
  refine x_bipush hE (i := 6) (v := 6) (by decide +kernel) (by decide +kernel) ?_
  refine n_row (atype := .int) (ty := .int) (t0 := 0) (x := (6, .inl (fun _ => 0))) (v := 6) (ci := 1) (j := 3) (kq := k1) (n0 := 6) hE hI g0 hw h0 rfl inZX1 tyX1_ok nmX1 (by decide) (by show 3 < 11; decide) rfl q324 rfl rfl (fun C h => by cases h) q207 (fun _ => rfl) (fun _ => rfl) (by decide) rfl (by decide) (Nat.le_of_ble_eq_true rfl) (Nat.le_of_ble_eq_true rfl) (by decide +kernel) (by decide +kernel) (fun K L => cok_I o1) (fun q1 L3 K3 f3 g3 h3 r3 c3 => ?_)
  replace h3 : f3 w = .inr (1, [.int 0, .int 0, .int 0, .ref q1, .null, .null, .null, .null, .null, .null, .null]) := h3
  refine x_aload_n hE (z := 0) (i := 0) (x := w) (by decide +kernel) rfl (by simp [lv_args, Value.category]) ?_
  refine x_bipush hE (i := 6) (v := 6) (by decide +kernel) (by decide +kernel) ?_
  refine n_row (atype := .int) (ty := .int) (t0 := 0) (x := (6, .inl (fun _ => 0))) (v := 6) (ci := 1) (j := 4) (kq := k2) (n0 := 6) hE hI g3 hw h3 rfl inZX1 tyX1_ok nmX1 (by decide) (by show 4 < 11; decide) rfl q326 rfl rfl (fun C h => by cases h) q207 (fun _ => rfl) (fun _ => rfl) (by decide) rfl (by decide) (Nat.le_of_ble_eq_true rfl) (Nat.le_of_ble_eq_true rfl) (by decide +kernel) (by decide +kernel) (fun K L => cok_I o2) (fun q2 L7 K7 f7 g7 h7 r7 c7 => ?_)
  replace h7 : f7 w = .inr (1, [.int 0, .int 0, .int 0, .ref q1, .ref q2, .null, .null, .null, .null, .null, .null]) := h7
  refine x_aload_n hE (z := 0) (i := 0) (x := w) (by decide +kernel) rfl (by simp [lv_args, Value.category]) ?_
  refine x_bipush hE (i := 6) (v := 6) (by decide +kernel) (by decide +kernel) ?_
  refine n_row (atype := .int) (ty := .int) (t0 := 0) (x := (6, .inl (fun _ => 0))) (v := 6) (ci := 1) (j := 5) (kq := k3) (n0 := 6) hE hI g7 hw h7 rfl inZX1 tyX1_ok nmX1 (by decide) (by show 5 < 11; decide) rfl q328 rfl rfl (fun C h => by cases h) q207 (fun _ => rfl) (fun _ => rfl) (by decide) rfl (by decide) (Nat.le_of_ble_eq_true rfl) (Nat.le_of_ble_eq_true rfl) (by decide +kernel) (by decide +kernel) (fun K L => cok_I o3) (fun q3 L11 K11 f11 g11 h11 r11 c11 => ?_)
  replace h11 : f11 w = .inr (1, [.int 0, .int 0, .int 0, .ref q1, .ref q2, .ref q3, .null, .null, .null, .null, .null]) := h11
  refine x_aload_n hE (z := 0) (i := 0) (x := w) (by decide +kernel) rfl (by simp [lv_args, Value.category]) ?_
  refine x_bipush hE (i := 12) (v := 12) (by decide +kernel) (by decide +kernel) ?_
  refine n_row (atype := .int) (ty := .int) (t0 := 0) (x := (12, .inl (fun _ => 0))) (v := 12) (ci := 1) (j := 6) (kq := k4) (n0 := 12) hE hI g11 hw h11 rfl inZX1 tyX1_ok nmX1 (by decide) (by show 6 < 11; decide) rfl q330 rfl rfl (fun C h => by cases h) q207 (fun _ => rfl) (fun _ => rfl) (by decide) rfl (by decide) (Nat.le_of_ble_eq_true rfl) (Nat.le_of_ble_eq_true rfl) (by decide +kernel) (by decide +kernel) (fun K L => cok_I o4) (fun q4 L15 K15 f15 g15 h15 r15 c15 => ?_)
  replace h15 : f15 w = .inr (1, [.int 0, .int 0, .int 0, .ref q1, .ref q2, .ref q3, .ref q4, .null, .null, .null, .null]) := h15
  refine x_aload_n hE (z := 0) (i := 0) (x := w) (by decide +kernel) rfl (by simp [lv_args, Value.category]) ?_
  refine x_bipush hE (i := 12) (v := 12) (by decide +kernel) (by decide +kernel) ?_
  refine n_row (atype := .boolean) (ty := .boolean) (t0 := 2) (x := (12, .inl (fun _ => 0))) (v := 12) (ci := 1) (j := 7) (kq := k5) (n0 := 12) hE hI g15 hw h15 rfl inZX1 tyX1_ok nmX1 (by decide) (by show 7 < 11; decide) rfl q331 rfl rfl (fun C h => by cases h) q358 (fun _ => rfl) (fun _ => rfl) (by decide) rfl (by decide) (Nat.le_of_ble_eq_true rfl) (Nat.le_of_ble_eq_true rfl) (by decide +kernel) (by decide +kernel) (fun K L => cok_Z o5.1 o5.2) (fun q5 L19 K19 f19 g19 h19 r19 c19 => ?_)
  replace h19 : f19 w = .inr (1, [.int 0, .int 0, .int 0, .ref q1, .ref q2, .ref q3, .ref q4, .ref q5, .null, .null, .null]) := h19
  refine x_aload_n hE (z := 0) (i := 0) (x := w) (by decide +kernel) rfl (by simp [lv_args, Value.category]) ?_
  refine x_bipush hE (i := 10) (v := 10) (by decide +kernel) (by decide +kernel) ?_
  refine n_row (atype := .boolean) (ty := .boolean) (t0 := 2) (x := (10, .inl (fun _ => 0))) (v := 10) (ci := 1) (j := 8) (kq := k6) (n0 := 10) hE hI g19 hw h19 rfl inZX1 tyX1_ok nmX1 (by decide) (by show 8 < 11; decide) rfl q332 rfl rfl (fun C h => by cases h) q358 (fun _ => rfl) (fun _ => rfl) (by decide) rfl (by decide) (Nat.le_of_ble_eq_true rfl) (Nat.le_of_ble_eq_true rfl) (by decide +kernel) (by decide +kernel) (fun K L => cok_Z o6.1 o6.2) (fun q6 L23 K23 f23 g23 h23 r23 c23 => ?_)
  replace h23 : f23 w = .inr (1, [.int 0, .int 0, .int 0, .ref q1, .ref q2, .ref q3, .ref q4, .ref q5, .ref q6, .null, .null]) := h23
  refine x_aload_n hE (z := 0) (i := 0) (x := w) (by decide +kernel) rfl (by simp [lv_args, Value.category]) ?_
  refine x_bipush hE (i := 10) (v := 10) (by decide +kernel) (by decide +kernel) ?_
  refine n_row (atype := .int) (ty := .int) (t0 := 0) (x := (10, .inl (fun _ => 0))) (v := 10) (ci := 1) (j := 9) (kq := k7) (n0 := 10) hE hI g23 hw h23 rfl inZX1 tyX1_ok nmX1 (by decide) (by show 9 < 11; decide) rfl q333 rfl rfl (fun C h => by cases h) q207 (fun _ => rfl) (fun _ => rfl) (by decide) rfl (by decide) (Nat.le_of_ble_eq_true rfl) (Nat.le_of_ble_eq_true rfl) (by decide +kernel) (by decide +kernel) (fun K L => cok_I o7) (fun q7 L27 K27 f27 g27 h27 r27 c27 => ?_)
  replace h27 : f27 w = .inr (1, [.int 0, .int 0, .int 0, .ref q1, .ref q2, .ref q3, .ref q4, .ref q5, .ref q6, .ref q7, .null]) := h27
  refine x_aload_n hE (z := 0) (i := 0) (x := w) (by decide +kernel) rfl (by simp [lv_args, Value.category]) ?_
  refine x_bipush hE (i := 10) (v := 10) (by decide +kernel) (by decide +kernel) ?_
  refine n_row (atype := .int) (ty := .int) (t0 := 0) (x := (10, .inl (fun _ => 0))) (v := 10) (ci := 1) (j := 10) (kq := k8) (n0 := 10) hE hI g27 hw h27 rfl inZX1 tyX1_ok nmX1 (by decide) (by show 10 < 11; decide) rfl q334 rfl rfl (fun C h => by cases h) q207 (fun _ => rfl) (fun _ => rfl) (by decide) rfl (by decide) (Nat.le_of_ble_eq_true rfl) (Nat.le_of_ble_eq_true rfl) (by decide +kernel) (by decide +kernel) (fun K L => cok_I o8) (fun q8 L31 K31 f31 g31 h31 r31 c31 => ?_)
  replace h31 : f31 w = .inr (1, [.int 0, .int 0, .int 0, .ref q1, .ref q2, .ref q3, .ref q4, .ref q5, .ref q6, .ref q7, .ref q8]) := h31
  have hS := g31.2.1
  simp only [List.nil_append, List.cons_append, List.map_cons, List.map_nil, List.cons.injEq, and_true] at hS
  obtain ⟨e1, e2, e3, e4, e5, e6, e7, e8⟩ := hS
  have mem : ∀ q, q ∈ [q1, q2, q3, q4, q5, q6, q7, q8] → q ∈ L31 := fun q hq => by
    rw [g31.1]
    exact List.mem_append_right _ hq
  have hck : cok cy0 K31 B L31 kw (f31 w) := by
    rw [h31]
    exact cok_O hz ⟨fk0 b0, fk0 b1, fk0 b2, fk2 ⟨mem q1 (by simp), e1⟩, fk2 ⟨mem q2 (by simp), e2⟩, fk2 ⟨mem q3 (by simp), e3⟩, fk2 ⟨mem q4 (by simp), e4⟩, fk2 ⟨mem q5 (by simp), e5⟩, fk2 ⟨mem q6 (by simp), e6⟩, fk2 ⟨mem q7 (by simp), e7⟩, fk2 ⟨mem q8 (by simp), e8⟩, trivial⟩
  have y1 : gi (f31 w) 1 = 0 ∧ gi (f31 w) 2 = 0 := by rw [h31]; exact ⟨rfl, rfl⟩
  exact hret _ _ L31 f31 68 _ (Nat.le_of_ble_eq_true rfl) (Nat.le_of_ble_eq_true rfl) (by decide +kernel) ⟨_, K31, g31, hck, y1⟩
theorem n_X6 {X0 : zC0} {B : Int} {K : Nat → Nat} {L : List Nat} {f : Nat → va_E} {w kw k1 k2 k3 k4 : Nat} {lo0 hi0 lo1 hi1 : Int} (hw : w ∈ L) (hf : f w = .inr (6, [.int 0, .int 0, .null, .null, .null, .null])) (hz : zkd kw = (1, 6, [(0, lo0, hi0), (0, lo1, hi1), (2, (k1 : Int), 0), (2, (k2 : Int), 0), (2, (k3 : Int), 0), (2, (k4 : Int), 0)])) (o1 : okI k1 301) (o2 : okI k2 301) (o3 : okI k3 301) (o4 : okI k4 300) (b0 : lo0 ≤ (0 : Int32).toInt ∧ (0 : Int32).toInt ≤ hi0) (b1 : lo1 ≤ (0 : Int32).toInt ∧ (0 : Int32).toInt ≤ hi1) : eM X0 3 yX6_init cX6_init 1 none (zrm 1 4 1203) [.ref w] L f (fun _ u => ∃ (A : List Nat) (K1 : Nat → Nat), GR X0.2.2.1 B L K f w u.1 A [k1, k2, k3, k4] K1 u.2 ∧ cok X0.2.2.1 K1 B u.1 kw (u.2 w)) := by
  obtain ⟨l0, D0, cy0, ax0⟩ := X0
  refine eM.mk rfl pnX6 (Nat.le_of_ble_eq_true rfl) (fun E hE hin hret => ?_)
  have hI := hin rfl
  have g0 : GR cy0 B L K f w L [] [] K f := GR.rf
  have h0 := hf
  refine x_aload_n hE (z := 0) (i := 0) (x := w) (by decide +kernel) rfl (by simp [lv_args, Value.category]) ?_
  refine x_objinit hE q400 q140 q141 (by decide +kernel) (by decide) (by decide) ?_
  refine x_aload_n hE (z := 0) (i := 0) (x := w) (by decide +kernel) rfl (by simp [lv_args, Value.category]) ?_
  refine x_sipush hE (i := 301) (v := 301) (by decide +kernel) (by decide +kernel) ?_
  refine n_row (atype := .int) (ty := .int) (t0 := 0) (x := (301, .inl (fun _ => 0))) (v := 301) (ci := 6) (j := 2) (kq := k1) (n0 := 301) hE hI g0 hw h0 rfl inZX6 tyX6_ok nmX6 (by decide) (by show 2 < 6; decide) rfl q406 rfl rfl (fun C h => by cases h) q207 (fun _ => rfl) (fun _ => rfl) (by decide) rfl (by decide) (Nat.le_of_ble_eq_true rfl) (Nat.le_of_ble_eq_true rfl) (by decide +kernel) (by decide +kernel) (fun K L => cok_I o1) (fun q1 L3 K3 f3 g3 h3 r3 c3 => ?_)
  replace h3 : f3 w = .inr (6, [.int 0, .int 0, .ref q1, .null, .null, .null]) := h3
  refine x_aload_n hE (z := 0) (i := 0) (x := w) (by decide +kernel) rfl (by simp [lv_args, Value.category]) ?_
  refine x_sipush hE (i := 301) (v := 301) (by decide +kernel) (by decide +kernel) ?_
  refine n_row (atype := .int) (ty := .int) (t0 := 0) (x := (301, .inl (fun _ => 0))) (v := 301) (ci := 6) (j := 3) (kq := k2) (n0 := 301) hE hI g3 hw h3 rfl inZX6 tyX6_ok nmX6 (by decide) (by show 3 < 6; decide) rfl q408 rfl rfl (fun C h => by cases h) q207 (fun _ => rfl) (fun _ => rfl) (by decide) rfl (by decide) (Nat.le_of_ble_eq_true rfl) (Nat.le_of_ble_eq_true rfl) (by decide +kernel) (by decide +kernel) (fun K L => cok_I o2) (fun q2 L7 K7 f7 g7 h7 r7 c7 => ?_)
  replace h7 : f7 w = .inr (6, [.int 0, .int 0, .ref q1, .ref q2, .null, .null]) := h7
  refine x_aload_n hE (z := 0) (i := 0) (x := w) (by decide +kernel) rfl (by simp [lv_args, Value.category]) ?_
  refine x_sipush hE (i := 301) (v := 301) (by decide +kernel) (by decide +kernel) ?_
  refine n_row (atype := .int) (ty := .int) (t0 := 0) (x := (301, .inl (fun _ => 0))) (v := 301) (ci := 6) (j := 4) (kq := k3) (n0 := 301) hE hI g7 hw h7 rfl inZX6 tyX6_ok nmX6 (by decide) (by show 4 < 6; decide) rfl q410 rfl rfl (fun C h => by cases h) q207 (fun _ => rfl) (fun _ => rfl) (by decide) rfl (by decide) (Nat.le_of_ble_eq_true rfl) (Nat.le_of_ble_eq_true rfl) (by decide +kernel) (by decide +kernel) (fun K L => cok_I o3) (fun q3 L11 K11 f11 g11 h11 r11 c11 => ?_)
  replace h11 : f11 w = .inr (6, [.int 0, .int 0, .ref q1, .ref q2, .ref q3, .null]) := h11
  refine x_aload_n hE (z := 0) (i := 0) (x := w) (by decide +kernel) rfl (by simp [lv_args, Value.category]) ?_
  refine x_sipush hE (i := 300) (v := 300) (by decide +kernel) (by decide +kernel) ?_
  refine n_row (atype := .int) (ty := .int) (t0 := 0) (x := (300, .inl (fun _ => 0))) (v := 300) (ci := 6) (j := 5) (kq := k4) (n0 := 300) hE hI g11 hw h11 rfl inZX6 tyX6_ok nmX6 (by decide) (by show 5 < 6; decide) rfl q412 rfl rfl (fun C h => by cases h) q207 (fun _ => rfl) (fun _ => rfl) (by decide) rfl (by decide) (Nat.le_of_ble_eq_true rfl) (Nat.le_of_ble_eq_true rfl) (by decide +kernel) (by decide +kernel) (fun K L => cok_I o4) (fun q4 L15 K15 f15 g15 h15 r15 c15 => ?_)
  replace h15 : f15 w = .inr (6, [.int 0, .int 0, .ref q1, .ref q2, .ref q3, .ref q4]) := h15
  have hS := g15.2.1
  simp only [List.nil_append, List.cons_append, List.map_cons, List.map_nil, List.cons.injEq, and_true] at hS
  obtain ⟨e1, e2, e3, e4⟩ := hS
  have mem : ∀ q, q ∈ [q1, q2, q3, q4] → q ∈ L15 := fun q hq => by
    rw [g15.1]
    exact List.mem_append_right _ hq
  have hck : cok cy0 K15 B L15 kw (f15 w) := by
    rw [h15]
    exact cok_O hz ⟨fk0 b0, fk0 b1, fk2 ⟨mem q1 (by simp), e1⟩, fk2 ⟨mem q2 (by simp), e2⟩, fk2 ⟨mem q3 (by simp), e3⟩, fk2 ⟨mem q4 (by simp), e4⟩, trivial⟩
  exact hret _ _ L15 f15 40 _ (Nat.le_of_ble_eq_true rfl) (Nat.le_of_ble_eq_true rfl) (by decide +kernel) ⟨_, K15, g15, hck⟩
theorem n_X3 {X0 : zC0} {B : Int} {K : Nat → Nat} {L : List Nat} {f : Nat → va_E} {w kw p1 kp1 : Nat} {lo0 hi0 lo1 hi1 lo3 hi3 lo4 hi4 lo5 hi5 lo6 hi6 : Int} (hw : w ∈ L) (hf : f w = .inr (3, [.int 0, .int 0, .null, .null, .int 0, .int 0, .int 0])) (hz : zkd kw = (1, 3, [(0, lo0, hi0), (0, lo1, hi1), (2, (kp1 : Int), 0), (3, lo3, hi3), (0, lo4, hi4), (0, lo5, hi5), (0, lo6, hi6)])) (hp1 : p1 ∈ L ∧ K p1 = kp1) (hne1 : p1 ≠ w) (b0 : lo0 ≤ ((-1) : Int32).toInt ∧ ((-1) : Int32).toInt ≤ hi0) (b1 : lo1 ≤ ((-1) : Int32).toInt ∧ ((-1) : Int32).toInt ≤ hi1) (b4 : lo4 ≤ (0 : Int32).toInt ∧ (0 : Int32).toInt ≤ hi4) (b5 : lo5 ≤ (0 : Int32).toInt ∧ (0 : Int32).toInt ≤ hi5) (b6 : lo6 ≤ (0 : Int32).toInt ∧ (0 : Int32).toInt ≤ hi6) : eM X0 3 yX3_init cX3_init 2 none (zrm 1 0 0) [.ref w, .ref p1] L f (fun _ u => ∃ (A : List Nat) (K1 : Nat → Nat), GR X0.2.2.1 B L K f w u.1 A [] K1 u.2 ∧ cok X0.2.2.1 K1 B u.1 kw (u.2 w)) := by
  obtain ⟨l0, D0, cy0, ax0⟩ := X0
  refine eM.mk rfl pnX3 (Nat.le_of_ble_eq_true rfl) (fun E hE hin hret => ?_)
  have hI := hin rfl
  have g0 : GR cy0 B L K f w L [] [] K f := GR.rf
  have h0 := hf
  refine x_aload_n hE (z := 0) (i := 0) (x := w) (by decide +kernel) rfl (by simp [lv_args, Value.category]) ?_
  refine x_objinit hE q431 q140 q141 (by decide +kernel) (by decide) (by decide) ?_
  refine x_aload_n hE (z := 0) (i := 0) (x := w) (by decide +kernel) rfl (by simp [lv_args, Value.category]) ?_
  refine x_iconst hE (i := (-1)) (v := (-1)) (by decide +kernel) (by decide +kernel) ?_
  refine n_put (ci := 3) (j := 0) hE hI g0 hw h0 rfl inZX3 tyX3_ok nmX3 (by decide) (by show 0 < 7; decide) rfl q432 rfl rfl (by decide +kernel) (fun f3 g3 h3 _ => ?_)
  replace h3 : f3 w = .inr (3, [.int (-1), .int 0, .null, .null, .int 0, .int 0, .int 0]) := h3
  refine x_aload_n hE (z := 0) (i := 0) (x := w) (by decide +kernel) rfl (by simp [lv_args, Value.category]) ?_
  refine x_iconst hE (i := (-1)) (v := (-1)) (by decide +kernel) (by decide +kernel) ?_
  refine n_put (ci := 3) (j := 1) hE hI g3 hw h3 rfl inZX3 tyX3_ok nmX3 (by decide) (by show 1 < 7; decide) rfl q434 rfl rfl (by decide +kernel) (fun f7 g7 h7 _ => ?_)
  replace h7 : f7 w = .inr (3, [.int (-1), .int (-1), .null, .null, .int 0, .int 0, .int 0]) := h7
  refine x_aload_n hE (z := 0) (i := 0) (x := w) (by decide +kernel) rfl (by simp [lv_args, Value.category]) ?_
  refine x_aload_n hE (z := 1) (i := 1) (x := p1) (by decide +kernel) rfl (by simp [lv_args, Value.category]) ?_
  refine n_put (ci := 3) (j := 2) hE hI g7 hw h7 rfl inZX3 tyX3_ok nmX3 (by decide) (by show 2 < 7; decide) rfl q436 rfl rfl (by decide +kernel) (fun f12 g12 h12 _ => ?_)
  replace h12 : f12 w = .inr (3, [.int (-1), .int (-1), .ref p1, .null, .int 0, .int 0, .int 0]) := h12
  have keep : ∀ p {kp : Nat}, (p ∈ L ∧ K p = kp) → p ∈ L ∧ K p = kp := fun p kp hp => ⟨g12.sub hp.1, (g12.2.2.1 p hp.1).trans hp.2⟩
  have hck : cok cy0 K B L kw (f12 w) := by
    rw [h12]
    exact cok_O hz ⟨fk0 b0, fk0 b1, fk2 (keep p1 hp1), fk3, fk0 b4, fk0 b5, fk0 b6, trivial⟩
  exact hret _ _ L f12 19 _ (Nat.le_of_ble_eq_true rfl) (Nat.le_of_ble_eq_true rfl) (by decide +kernel) ⟨_, K, g12, hck⟩
theorem n_X9 {X0 : zC0} {B : Int} {K : Nat → Nat} {L : List Nat} {f : Nat → va_E} {w kw k1 k2 k3 k4 p1 kp1 : Nat} {lo0 hi0 lo3 hi3 lo7 hi7 lo8 hi8 lo9 hi9 : Int} (hw : w ∈ L) (hf : f w = .inr (9, [.int 0, .null, .null, .int 0, .null, .null, .null, .null, .int 0, .int 0])) (hz : zkd kw = (1, 9, [(0, lo0, hi0), (2, (k1 : Int), 0), (2, (k2 : Int), 0), (0, lo3, hi3), (2, (kp1 : Int), 0), (2, (k3 : Int), 0), (2, (k4 : Int), 0), (3, lo7, hi7), (0, lo8, hi8), (0, lo9, hi9)])) (o1 : okI k1 8) (o2 : okI k2 6) (o3 : okI k3 96) (o4 : okI k4 300) (hp1 : p1 ∈ L ∧ K p1 = kp1) (hne1 : p1 ≠ w) (b0 : lo0 ≤ ((-1) : Int32).toInt ∧ ((-1) : Int32).toInt ≤ hi0) (b3 : lo3 ≤ (0 : Int32).toInt ∧ (0 : Int32).toInt ≤ hi3) (b8 : lo8 ≤ (0 : Int32).toInt ∧ (0 : Int32).toInt ≤ hi8) (b9 : lo9 ≤ (0 : Int32).toInt ∧ (0 : Int32).toInt ≤ hi9) : eM X0 3 yX9_init cX9_init 2 none (zrm 1 4 410) [.ref w, .ref p1] L f (fun _ u => ∃ (A : List Nat) (K1 : Nat → Nat), GR X0.2.2.1 B L K f w u.1 A [k1, k2, k3, k4] K1 u.2 ∧ cok X0.2.2.1 K1 B u.1 kw (u.2 w)) := by
  obtain ⟨l0, D0, cy0, ax0⟩ := X0
  refine eM.mk rfl pnX9 (Nat.le_of_ble_eq_true rfl) (fun E hE hin hret => ?_)
  have hI := hin rfl
  have g0 : GR cy0 B L K f w L [] [] K f := GR.rf
  have h0 := hf
  refine x_aload_n hE (z := 0) (i := 0) (x := w) (by decide +kernel) rfl (by simp [lv_args, Value.category]) ?_
  refine x_objinit hE q461 q140 q141 (by decide +kernel) (by decide) (by decide) ?_
  refine x_aload_n hE (z := 0) (i := 0) (x := w) (by decide +kernel) rfl (by simp [lv_args, Value.category]) ?_
  refine x_iconst hE (i := (-1)) (v := (-1)) (by decide +kernel) (by decide +kernel) ?_
  refine n_put (ci := 9) (j := 0) hE hI g0 hw h0 rfl inZX9 tyX9_ok nmX9 (by decide) (by show 0 < 10; decide) rfl q462 rfl rfl (by decide +kernel) (fun f3 g3 h3 _ => ?_)
  replace h3 : f3 w = .inr (9, [.int (-1), .null, .null, .int 0, .null, .null, .null, .null, .int 0, .int 0]) := h3
  refine x_aload_n hE (z := 0) (i := 0) (x := w) (by decide +kernel) rfl (by simp [lv_args, Value.category]) ?_
  refine x_bipush hE (i := 8) (v := 8) (by decide +kernel) (by decide +kernel) ?_
  refine n_row (atype := .int) (ty := .int) (t0 := 0) (x := (8, .inl (fun _ => 0))) (v := 8) (ci := 9) (j := 1) (kq := k1) (n0 := 8) hE hI g3 hw h3 rfl inZX9 tyX9_ok nmX9 (by decide) (by show 1 < 10; decide) rfl q464 rfl rfl (fun C h => by cases h) q207 (fun _ => rfl) (fun _ => rfl) (by decide) rfl (by decide) (Nat.le_of_ble_eq_true rfl) (Nat.le_of_ble_eq_true rfl) (by decide +kernel) (by decide +kernel) (fun K L => cok_I o1) (fun q1 L7 K7 f7 g7 h7 r7 c7 => ?_)
  replace h7 : f7 w = .inr (9, [.int (-1), .ref q1, .null, .int 0, .null, .null, .null, .null, .int 0, .int 0]) := h7
  refine x_aload_n hE (z := 0) (i := 0) (x := w) (by decide +kernel) rfl (by simp [lv_args, Value.category]) ?_
  refine x_bipush hE (i := 6) (v := 6) (by decide +kernel) (by decide +kernel) ?_
  refine n_row (atype := .int) (ty := .int) (t0 := 0) (x := (6, .inl (fun _ => 0))) (v := 6) (ci := 9) (j := 2) (kq := k2) (n0 := 6) hE hI g7 hw h7 rfl inZX9 tyX9_ok nmX9 (by decide) (by show 2 < 10; decide) rfl q466 rfl rfl (fun C h => by cases h) q207 (fun _ => rfl) (fun _ => rfl) (by decide) rfl (by decide) (Nat.le_of_ble_eq_true rfl) (Nat.le_of_ble_eq_true rfl) (by decide +kernel) (by decide +kernel) (fun K L => cok_I o2) (fun q2 L11 K11 f11 g11 h11 r11 c11 => ?_)
  replace h11 : f11 w = .inr (9, [.int (-1), .ref q1, .ref q2, .int 0, .null, .null, .null, .null, .int 0, .int 0]) := h11
  refine x_aload_n hE (z := 0) (i := 0) (x := w) (by decide +kernel) rfl (by simp [lv_args, Value.category]) ?_
  refine x_bipush hE (i := 96) (v := 96) (by decide +kernel) (by decide +kernel) ?_
  refine n_row (atype := .int) (ty := .int) (t0 := 0) (x := (96, .inl (fun _ => 0))) (v := 96) (ci := 9) (j := 5) (kq := k3) (n0 := 96) hE hI g11 hw h11 rfl inZX9 tyX9_ok nmX9 (by decide) (by show 5 < 10; decide) rfl q471 rfl rfl (fun C h => by cases h) q207 (fun _ => rfl) (fun _ => rfl) (by decide) rfl (by decide) (Nat.le_of_ble_eq_true rfl) (Nat.le_of_ble_eq_true rfl) (by decide +kernel) (by decide +kernel) (fun K L => cok_I o3) (fun q3 L15 K15 f15 g15 h15 r15 c15 => ?_)
  replace h15 : f15 w = .inr (9, [.int (-1), .ref q1, .ref q2, .int 0, .null, .ref q3, .null, .null, .int 0, .int 0]) := h15
  refine x_aload_n hE (z := 0) (i := 0) (x := w) (by decide +kernel) rfl (by simp [lv_args, Value.category]) ?_
  refine x_sipush hE (i := 300) (v := 300) (by decide +kernel) (by decide +kernel) ?_
  refine n_row (atype := .int) (ty := .int) (t0 := 0) (x := (300, .inl (fun _ => 0))) (v := 300) (ci := 9) (j := 6) (kq := k4) (n0 := 300) hE hI g15 hw h15 rfl inZX9 tyX9_ok nmX9 (by decide) (by show 6 < 10; decide) rfl q472 rfl rfl (fun C h => by cases h) q207 (fun _ => rfl) (fun _ => rfl) (by decide) rfl (by decide) (Nat.le_of_ble_eq_true rfl) (Nat.le_of_ble_eq_true rfl) (by decide +kernel) (by decide +kernel) (fun K L => cok_I o4) (fun q4 L19 K19 f19 g19 h19 r19 c19 => ?_)
  replace h19 : f19 w = .inr (9, [.int (-1), .ref q1, .ref q2, .int 0, .null, .ref q3, .ref q4, .null, .int 0, .int 0]) := h19
  refine x_aload_n hE (z := 0) (i := 0) (x := w) (by decide +kernel) rfl (by simp [lv_args, Value.category]) ?_
  refine x_aload_n hE (z := 1) (i := 1) (x := p1) (by decide +kernel) rfl (by simp [lv_args, Value.category]) ?_
  refine n_put (ci := 9) (j := 4) hE hI g19 hw h19 rfl inZX9 tyX9_ok nmX9 (by decide) (by show 4 < 10; decide) rfl q470 rfl rfl (by decide +kernel) (fun f24 g24 h24 _ => ?_)
  replace h24 : f24 w = .inr (9, [.int (-1), .ref q1, .ref q2, .int 0, .ref p1, .ref q3, .ref q4, .null, .int 0, .int 0]) := h24
  have hS := g24.2.1
  simp only [List.nil_append, List.cons_append, List.map_cons, List.map_nil, List.cons.injEq, and_true] at hS
  obtain ⟨e1, e2, e3, e4⟩ := hS
  have mem : ∀ q, q ∈ [q1, q2, q3, q4] → q ∈ L19 := fun q hq => by
    rw [g24.1]
    exact List.mem_append_right _ hq
  have keep : ∀ p {kp : Nat}, (p ∈ L ∧ K p = kp) → p ∈ L19 ∧ K19 p = kp := fun p kp hp => ⟨g24.sub hp.1, (g24.2.2.1 p hp.1).trans hp.2⟩
  have hck : cok cy0 K19 B L19 kw (f24 w) := by
    rw [h24]
    exact cok_O hz ⟨fk0 b0, fk2 ⟨mem q1 (by simp), e1⟩, fk2 ⟨mem q2 (by simp), e2⟩, fk0 b3, fk2 (keep p1 hp1), fk2 ⟨mem q3 (by simp), e3⟩, fk2 ⟨mem q4 (by simp), e4⟩, fk3, fk0 b8, fk0 b9, trivial⟩
  exact hret _ _ L19 f24 47 _ (Nat.le_of_ble_eq_true rfl) (Nat.le_of_ble_eq_true rfl) (by decide +kernel) ⟨_, K19, g24, hck⟩
theorem n_X8 {X0 : zC0} {B : Int} {K : Nat → Nat} {L : List Nat} {f : Nat → va_E} {w kw k1 k2 p1 kp1 : Nat} (hw : w ∈ L) (hf : f w = .inr (8, [.null, .null, .null])) (hz : zkd kw = (1, 8, [(2, (k1 : Int), 0), (2, (k2 : Int), 0), (2, (kp1 : Int), 0)])) (o1 : okI k1 6) (o2 : okI k2 6) (hp1 : p1 ∈ L ∧ K p1 = kp1) (hne1 : p1 ≠ w) : eM X0 3 yX8_init cX8_init 2 none (zrm 1 2 12) [.ref w, .ref p1] L f (fun _ u => ∃ (A : List Nat) (K1 : Nat → Nat), GR X0.2.2.1 B L K f w u.1 A [k1, k2] K1 u.2 ∧ cok X0.2.2.1 K1 B u.1 kw (u.2 w)) := by
  obtain ⟨l0, D0, cy0, ax0⟩ := X0
  refine eM.mk rfl pnX8 (Nat.le_of_ble_eq_true rfl) (fun E hE hin hret => ?_)
  have hI := hin rfl
  have g0 : GR cy0 B L K f w L [] [] K f := GR.rf
  have h0 := hf
  refine x_aload_n hE (z := 0) (i := 0) (x := w) (by decide +kernel) rfl (by simp [lv_args, Value.category]) ?_
  refine x_objinit hE q544 q140 q141 (by decide +kernel) (by decide) (by decide) ?_
  refine x_aload_n hE (z := 0) (i := 0) (x := w) (by decide +kernel) rfl (by simp [lv_args, Value.category]) ?_
  refine x_bipush hE (i := 6) (v := 6) (by decide +kernel) (by decide +kernel) ?_
  refine n_row (atype := .int) (ty := .int) (t0 := 0) (x := (6, .inl (fun _ => 0))) (v := 6) (ci := 8) (j := 0) (kq := k1) (n0 := 6) hE hI g0 hw h0 rfl inZX8 tyX8_ok nmX8 (by decide) (by show 0 < 3; decide) rfl q545 rfl rfl (fun C h => by cases h) q207 (fun _ => rfl) (fun _ => rfl) (by decide) rfl (by decide) (Nat.le_of_ble_eq_true rfl) (Nat.le_of_ble_eq_true rfl) (by decide +kernel) (by decide +kernel) (fun K L => cok_I o1) (fun q1 L3 K3 f3 g3 h3 r3 c3 => ?_)
  replace h3 : f3 w = .inr (8, [.ref q1, .null, .null]) := h3
  refine x_aload_n hE (z := 0) (i := 0) (x := w) (by decide +kernel) rfl (by simp [lv_args, Value.category]) ?_
  refine x_bipush hE (i := 6) (v := 6) (by decide +kernel) (by decide +kernel) ?_
  refine n_row (atype := .int) (ty := .int) (t0 := 0) (x := (6, .inl (fun _ => 0))) (v := 6) (ci := 8) (j := 1) (kq := k2) (n0 := 6) hE hI g3 hw h3 rfl inZX8 tyX8_ok nmX8 (by decide) (by show 1 < 3; decide) rfl q547 rfl rfl (fun C h => by cases h) q207 (fun _ => rfl) (fun _ => rfl) (by decide) rfl (by decide) (Nat.le_of_ble_eq_true rfl) (Nat.le_of_ble_eq_true rfl) (by decide +kernel) (by decide +kernel) (fun K L => cok_I o2) (fun q2 L7 K7 f7 g7 h7 r7 c7 => ?_)
  replace h7 : f7 w = .inr (8, [.ref q1, .ref q2, .null]) := h7
  refine x_aload_n hE (z := 0) (i := 0) (x := w) (by decide +kernel) rfl (by simp [lv_args, Value.category]) ?_
  refine x_aload_n hE (z := 1) (i := 1) (x := p1) (by decide +kernel) rfl (by simp [lv_args, Value.category]) ?_
  refine n_put (ci := 8) (j := 2) hE hI g7 hw h7 rfl inZX8 tyX8_ok nmX8 (by decide) (by show 2 < 3; decide) rfl q548 rfl rfl (by decide +kernel) (fun f12 g12 h12 _ => ?_)
  replace h12 : f12 w = .inr (8, [.ref q1, .ref q2, .ref p1]) := h12
  have hS := g12.2.1
  simp only [List.nil_append, List.cons_append, List.map_cons, List.map_nil, List.cons.injEq, and_true] at hS
  obtain ⟨e1, e2⟩ := hS
  have mem : ∀ q, q ∈ [q1, q2] → q ∈ L7 := fun q hq => by
    rw [g12.1]
    exact List.mem_append_right _ hq
  have keep : ∀ p {kp : Nat}, (p ∈ L ∧ K p = kp) → p ∈ L7 ∧ K7 p = kp := fun p kp hp => ⟨g12.sub hp.1, (g12.2.2.1 p hp.1).trans hp.2⟩
  have hck : cok cy0 K7 B L7 kw (f12 w) := by
    rw [h12]
    exact cok_O hz ⟨fk2 ⟨mem q1 (by simp), e1⟩, fk2 ⟨mem q2 (by simp), e2⟩, fk2 (keep p1 hp1), trivial⟩
  exact hret _ _ L7 f12 25 _ (Nat.le_of_ble_eq_true rfl) (Nat.le_of_ble_eq_true rfl) (by decide +kernel) ⟨_, K7, g12, hck⟩
