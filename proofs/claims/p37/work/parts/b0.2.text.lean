/-! A TEXT is made. -/
theorem n_X7 {X0 : zC0} {B : Int} {K : Nat → Nat} {L : List Nat} {f : Nat → va_E} {w kw k1 k2 k3 k4 k5 k6 k7 k8 k9 k10 : Nat} {lo0 hi0 lo5 hi5 lo8 hi8 : Int} (hw : w ∈ L) (hf : f w = .inr (7, [.int 0, .null, .null, .null, .null, .int 0, .null, .null, .int 0, .null, .null, .null, .null])) (hz : zkd kw = (1, 7, [(0, lo0, hi0), (2, (k1 : Int), 0), (2, (k2 : Int), 0), (2, (k3 : Int), 0), (2, (k4 : Int), 0), (0, lo5, hi5), (2, (k5 : Int), 0), (2, (k6 : Int), 0), (0, lo8, hi8), (2, (k7 : Int), 0), (2, (k8 : Int), 0), (2, (k9 : Int), 0), (2, (k10 : Int), 0)])) (o1 : okI k1 24) (o2 : okI k2 72) (o3 : okI k3 300) (o4 : okI k4 300) (o5 : okI k5 300) (o6 : okI k6 300) (o7 : okI k7 5) (o8 : okI k8 5) (o9 : okI k9 5) (o10 : okI k10 5) (b0 : lo0 ≤ (0 : Int32).toInt ∧ (0 : Int32).toInt ≤ hi0) (b5 : lo5 ≤ (0 : Int32).toInt ∧ (0 : Int32).toInt ≤ hi5) (b8 : lo8 ≤ (0 : Int32).toInt ∧ (0 : Int32).toInt ≤ hi8) : eM X0 3 yX7_init cX7_init 1 none (zrm 1 10 1316) [.ref w] L f (fun _ u => ∃ (A : List Nat) (K1 : Nat → Nat), GR X0.2.2.1 B L K f w u.1 A [k1, k2, k3, k4, k5, k6, k7, k8, k9, k10] K1 u.2 ∧ cok X0.2.2.1 K1 B u.1 kw (u.2 w) ∧ ∃ c o : Nat, cget (u.2 w) 3 = some (.ref c) ∧ cget (u.2 w) 4 = some (.ref o) ∧ c ∉ L ∧ o ∉ L ∧ ∀ i, gi (u.2 c) i = 0) := by
  obtain ⟨l0, D0, cy0, ax0⟩ := X0
  refine eM.mk rfl pnX7 (Nat.le_of_ble_eq_true rfl) (fun E hE hin hret => ?_)
  have hI := hin rfl
  have g0 : GR cy0 B L K f w L [] [] K f := GR.rf
  have h0 := hf
  refine x_aload_n hE (z := 0) (i := 0) (x := w) (by decide +kernel) rfl (by simp [lv_args, Value.category]) ?_
  refine x_objinit hE q642 q140 q141 (by decide +kernel) (by decide) (by decide) ?_
  refine x_aload_n hE (z := 0) (i := 0) (x := w) (by decide +kernel) rfl (by simp [lv_args, Value.category]) ?_
  refine x_bipush hE (i := 24) (v := 24) (by decide +kernel) (by decide +kernel) ?_
  refine n_row (atype := .int) (ty := .int) (t0 := 0) (x := (24, .inl (fun _ => 0))) (v := 24) (ci := 7) (j := 1) (kq := k1) (n0 := 24) hE hI g0 hw h0 rfl inZX7 tyX7_ok nmX7 (by decide) (by show 1 < 13; decide) rfl q645 rfl rfl (fun C h => by cases h) q207 (fun _ => rfl) (fun _ => rfl) (by decide) rfl (by decide) (Nat.le_of_ble_eq_true rfl) (Nat.le_of_ble_eq_true rfl) (by decide +kernel) (by decide +kernel) (fun K L => cok_I o1) (fun q1 L3 K3 f3 g3 h3 r3 c3 => ?_)
  replace h3 : f3 w = .inr (7, [.int 0, .ref q1, .null, .null, .null, .int 0, .null, .null, .int 0, .null, .null, .null, .null]) := h3
  refine x_aload_n hE (z := 0) (i := 0) (x := w) (by decide +kernel) rfl (by simp [lv_args, Value.category]) ?_
  refine x_bipush hE (i := 72) (v := 72) (by decide +kernel) (by decide +kernel) ?_
  refine n_row (atype := .int) (ty := .int) (t0 := 0) (x := (72, .inl (fun _ => 0))) (v := 72) (ci := 7) (j := 2) (kq := k2) (n0 := 72) hE hI g3 hw h3 rfl inZX7 tyX7_ok nmX7 (by decide) (by show 2 < 13; decide) rfl q648 rfl rfl (fun C h => by cases h) q207 (fun _ => rfl) (fun _ => rfl) (by decide) rfl (by decide) (Nat.le_of_ble_eq_true rfl) (Nat.le_of_ble_eq_true rfl) (by decide +kernel) (by decide +kernel) (fun K L => cok_I o2) (fun q2 L7 K7 f7 g7 h7 r7 c7 => ?_)
  replace h7 : f7 w = .inr (7, [.int 0, .ref q1, .ref q2, .null, .null, .int 0, .null, .null, .int 0, .null, .null, .null, .null]) := h7
  refine x_aload_n hE (z := 0) (i := 0) (x := w) (by decide +kernel) rfl (by simp [lv_args, Value.category]) ?_
  refine x_sipush hE (i := 300) (v := 300) (by decide +kernel) (by decide +kernel) ?_
  refine n_row (atype := .int) (ty := .int) (t0 := 0) (x := (300, .inl (fun _ => 0))) (v := 300) (ci := 7) (j := 3) (kq := k3) (n0 := 300) hE hI g7 hw h7 rfl inZX7 tyX7_ok nmX7 (by decide) (by show 3 < 13; decide) rfl q651 rfl rfl (fun C h => by cases h) q207 (fun _ => rfl) (fun _ => rfl) (by decide) rfl (by decide) (Nat.le_of_ble_eq_true rfl) (Nat.le_of_ble_eq_true rfl) (by decide +kernel) (by decide +kernel) (fun K L => cok_I o3) (fun q3 L11 K11 f11 g11 h11 r11 c11 => ?_)
  replace h11 : f11 w = .inr (7, [.int 0, .ref q1, .ref q2, .ref q3, .null, .int 0, .null, .null, .int 0, .null, .null, .null, .null]) := h11
  refine x_aload_n hE (z := 0) (i := 0) (x := w) (by decide +kernel) rfl (by simp [lv_args, Value.category]) ?_
  refine x_sipush hE (i := 300) (v := 300) (by decide +kernel) (by decide +kernel) ?_
  refine n_row (atype := .int) (ty := .int) (t0 := 0) (x := (300, .inl (fun _ => 0))) (v := 300) (ci := 7) (j := 4) (kq := k4) (n0 := 300) hE hI g11 hw h11 rfl inZX7 tyX7_ok nmX7 (by decide) (by show 4 < 13; decide) rfl q653 rfl rfl (fun C h => by cases h) q207 (fun _ => rfl) (fun _ => rfl) (by decide) rfl (by decide) (Nat.le_of_ble_eq_true rfl) (Nat.le_of_ble_eq_true rfl) (by decide +kernel) (by decide +kernel) (fun K L => cok_I o4) (fun q4 L15 K15 f15 g15 h15 r15 c15 => ?_)
  replace h15 : f15 w = .inr (7, [.int 0, .ref q1, .ref q2, .ref q3, .ref q4, .int 0, .null, .null, .int 0, .null, .null, .null, .null]) := h15
  refine x_aload_n hE (z := 0) (i := 0) (x := w) (by decide +kernel) rfl (by simp [lv_args, Value.category]) ?_
  refine x_sipush hE (i := 300) (v := 300) (by decide +kernel) (by decide +kernel) ?_
  refine n_row (atype := .int) (ty := .int) (t0 := 0) (x := (300, .inl (fun _ => 0))) (v := 300) (ci := 7) (j := 6) (kq := k5) (n0 := 300) hE hI g15 hw h15 rfl inZX7 tyX7_ok nmX7 (by decide) (by show 6 < 13; decide) rfl q657 rfl rfl (fun C h => by cases h) q207 (fun _ => rfl) (fun _ => rfl) (by decide) rfl (by decide) (Nat.le_of_ble_eq_true rfl) (Nat.le_of_ble_eq_true rfl) (by decide +kernel) (by decide +kernel) (fun K L => cok_I o5) (fun q5 L19 K19 f19 g19 h19 r19 c19 => ?_)
  replace h19 : f19 w = .inr (7, [.int 0, .ref q1, .ref q2, .ref q3, .ref q4, .int 0, .ref q5, .null, .int 0, .null, .null, .null, .null]) := h19
  refine x_aload_n hE (z := 0) (i := 0) (x := w) (by decide +kernel) rfl (by simp [lv_args, Value.category]) ?_
  refine x_sipush hE (i := 300) (v := 300) (by decide +kernel) (by decide +kernel) ?_
  refine n_row (atype := .int) (ty := .int) (t0 := 0) (x := (300, .inl (fun _ => 0))) (v := 300) (ci := 7) (j := 7) (kq := k6) (n0 := 300) hE hI g19 hw h19 rfl inZX7 tyX7_ok nmX7 (by decide) (by show 7 < 13; decide) rfl q660 rfl rfl (fun C h => by cases h) q207 (fun _ => rfl) (fun _ => rfl) (by decide) rfl (by decide) (Nat.le_of_ble_eq_true rfl) (Nat.le_of_ble_eq_true rfl) (by decide +kernel) (by decide +kernel) (fun K L => cok_I o6) (fun q6 L23 K23 f23 g23 h23 r23 c23 => ?_)
  replace h23 : f23 w = .inr (7, [.int 0, .ref q1, .ref q2, .ref q3, .ref q4, .int 0, .ref q5, .ref q6, .int 0, .null, .null, .null, .null]) := h23
  refine x_aload_n hE (z := 0) (i := 0) (x := w) (by decide +kernel) rfl (by simp [lv_args, Value.category]) ?_
  refine x_iconst hE (i := 5) (v := 5) (by decide +kernel) (by decide +kernel) ?_
  refine n_row (atype := .int) (ty := .int) (t0 := 0) (x := (5, .inl (fun _ => 0))) (v := 5) (ci := 7) (j := 9) (kq := k7) (n0 := 5) hE hI g23 hw h23 rfl inZX7 tyX7_ok nmX7 (by decide) (by show 9 < 13; decide) rfl q664 rfl rfl (fun C h => by cases h) q207 (fun _ => rfl) (fun _ => rfl) (by decide) rfl (by decide) (Nat.le_of_ble_eq_true rfl) (Nat.le_of_ble_eq_true rfl) (by decide +kernel) (by decide +kernel) (fun K L => cok_I o7) (fun q7 L27 K27 f27 g27 h27 r27 c27 => ?_)
  replace h27 : f27 w = .inr (7, [.int 0, .ref q1, .ref q2, .ref q3, .ref q4, .int 0, .ref q5, .ref q6, .int 0, .ref q7, .null, .null, .null]) := h27
  refine x_aload_n hE (z := 0) (i := 0) (x := w) (by decide +kernel) rfl (by simp [lv_args, Value.category]) ?_
  refine x_iconst hE (i := 5) (v := 5) (by decide +kernel) (by decide +kernel) ?_
  refine n_row (atype := .int) (ty := .int) (t0 := 0) (x := (5, .inl (fun _ => 0))) (v := 5) (ci := 7) (j := 10) (kq := k8) (n0 := 5) hE hI g27 hw h27 rfl inZX7 tyX7_ok nmX7 (by decide) (by show 10 < 13; decide) rfl q667 rfl rfl (fun C h => by cases h) q207 (fun _ => rfl) (fun _ => rfl) (by decide) rfl (by decide) (Nat.le_of_ble_eq_true rfl) (Nat.le_of_ble_eq_true rfl) (by decide +kernel) (by decide +kernel) (fun K L => cok_I o8) (fun q8 L31 K31 f31 g31 h31 r31 c31 => ?_)
  replace h31 : f31 w = .inr (7, [.int 0, .ref q1, .ref q2, .ref q3, .ref q4, .int 0, .ref q5, .ref q6, .int 0, .ref q7, .ref q8, .null, .null]) := h31
  refine x_aload_n hE (z := 0) (i := 0) (x := w) (by decide +kernel) rfl (by simp [lv_args, Value.category]) ?_
  refine x_iconst hE (i := 5) (v := 5) (by decide +kernel) (by decide +kernel) ?_
  refine n_row (atype := .int) (ty := .int) (t0 := 0) (x := (5, .inl (fun _ => 0))) (v := 5) (ci := 7) (j := 11) (kq := k9) (n0 := 5) hE hI g31 hw h31 rfl inZX7 tyX7_ok nmX7 (by decide) (by show 11 < 13; decide) rfl q670 rfl rfl (fun C h => by cases h) q207 (fun _ => rfl) (fun _ => rfl) (by decide) rfl (by decide) (Nat.le_of_ble_eq_true rfl) (Nat.le_of_ble_eq_true rfl) (by decide +kernel) (by decide +kernel) (fun K L => cok_I o9) (fun q9 L35 K35 f35 g35 h35 r35 c35 => ?_)
  replace h35 : f35 w = .inr (7, [.int 0, .ref q1, .ref q2, .ref q3, .ref q4, .int 0, .ref q5, .ref q6, .int 0, .ref q7, .ref q8, .ref q9, .null]) := h35
  refine x_aload_n hE (z := 0) (i := 0) (x := w) (by decide +kernel) rfl (by simp [lv_args, Value.category]) ?_
  refine x_iconst hE (i := 5) (v := 5) (by decide +kernel) (by decide +kernel) ?_
  refine n_row (atype := .int) (ty := .int) (t0 := 0) (x := (5, .inl (fun _ => 0))) (v := 5) (ci := 7) (j := 12) (kq := k10) (n0 := 5) hE hI g35 hw h35 rfl inZX7 tyX7_ok nmX7 (by decide) (by show 12 < 13; decide) rfl q673 rfl rfl (fun C h => by cases h) q207 (fun _ => rfl) (fun _ => rfl) (by decide) rfl (by decide) (Nat.le_of_ble_eq_true rfl) (Nat.le_of_ble_eq_true rfl) (by decide +kernel) (by decide +kernel) (fun K L => cok_I o10) (fun q10 L39 K39 f39 g39 h39 r39 c39 => ?_)
  replace h39 : f39 w = .inr (7, [.int 0, .ref q1, .ref q2, .ref q3, .ref q4, .int 0, .ref q5, .ref q6, .int 0, .ref q7, .ref q8, .ref q9, .ref q10]) := h39
  have hS := g39.2.1
  simp only [List.nil_append, List.cons_append, List.map_cons, List.map_nil, List.cons.injEq, and_true] at hS
  obtain ⟨e1, e2, e3, e4, e5, e6, e7, e8, e9, e10⟩ := hS
  have mem : ∀ q, q ∈ [q1, q2, q3, q4, q5, q6, q7, q8, q9, q10] → q ∈ L39 := fun q hq => by
    rw [g39.1]
    exact List.mem_append_right _ hq
  have hck : cok cy0 K39 B L39 kw (f39 w) := by
    rw [h39]
    exact cok_O hz ⟨fk0 b0, fk2 ⟨mem q1 (by simp), e1⟩, fk2 ⟨mem q2 (by simp), e2⟩, fk2 ⟨mem q3 (by simp), e3⟩, fk2 ⟨mem q4 (by simp), e4⟩, fk0 b5, fk2 ⟨mem q5 (by simp), e5⟩, fk2 ⟨mem q6 (by simp), e6⟩, fk0 b8, fk2 ⟨mem q7 (by simp), e7⟩, fk2 ⟨mem q8 (by simp), e8⟩, fk2 ⟨mem q9 (by simp), e9⟩, fk2 ⟨mem q10 (by simp), e10⟩, trivial⟩
  have nq3 : q3 ∉ L := g39.2.2.2.2.1 q3 (by simp)
  have nq4 : q4 ∉ L := g39.2.2.2.2.1 q4 (by simp)
  have ne3 : q3 ≠ w := fun e => nq3 (by rw [e]; exact hw)
  have z3 : f39 q3 = .inl (cy0 0, 300, .inl (fun _ => 0)) := by
    rw [r39 q3 (by rw [g35.1]; simp) ne3, r35 q3 (by rw [g31.1]; simp) ne3, r31 q3 (by rw [g27.1]; simp) ne3, r27 q3 (by rw [g23.1]; simp) ne3, r23 q3 (by rw [g19.1]; simp) ne3, r19 q3 (by rw [g15.1]; simp) ne3, r15 q3 (by rw [g11.1]; simp) ne3]
    exact c11
  have y3 : cget (f39 w) 3 = some (.ref q3) := by rw [h39]; rfl
  have y4 : cget (f39 w) 4 = some (.ref q4) := by rw [h39]; rfl
  have yz : ∀ i, gi (f39 q3) i = 0 := fun i => by rw [z3]; rfl
  exact hret _ _ L39 f39 84 _ (Nat.le_of_ble_eq_true rfl) (Nat.le_of_ble_eq_true rfl) (by decide +kernel) ⟨_, K39, g39, hck, q3, q4, y3, y4, nq3, nq4, yz⟩

