/-! The reference: its constructor. -/
def okA (k n : Nat) : Prop := (zkd k).1 = 2 ∧ (zkd k).2.1 = n ∧ ∀ i, (kbd k i).1 ≤ 0 ∧ 0 ≤ (kbd k i).2.1
theorem mbd_0 (i : Nat) : (mbd i).1 ≤ 0 ∧ 0 ≤ (mbd i).2.1 := by
  unfold mbd
  split
  · rename_i h
    match i, h with
    | 0, _ => decide
    | 1, _ => decide
    | 2, _ => decide
    | 3, _ => decide
    | 4, _ => decide
    | 5, _ => decide
    | 6, _ => decide
    | 7, _ => decide
    | 8, _ => decide
    | 9, _ => decide
    | 10, _ => decide
    | 11, _ => decide
    | 12, _ => decide
    | 13, _ => decide
    | i + 14, h => omega
  · repeat' split
    all_goals decide
theorem okA_m {k n : Nat} (h1 : (zkd k).1 = 2) (h2 : (zkd k).2.1 = n) (h3 : ∀ i, kbd k i = mbd i) : okA k n := ⟨h1, h2, fun i => by rw [h3]; exact mbd_0 i⟩
theorem okA_t : okA 203 2820 := ⟨rfl, rfl, fun i => by
  by_cases h : i % 705 = 0
  · rw [kbd203' h]
    decide
  · rw [kbd203 h]
    decide⟩
theorem cok_A {cy : Nat → ClassId} {K : Nat → Nat} {B : Int} {L : List Nat} {k n : Nat} (h : okA k n) (hB : 0 ≤ B) : cok cy K B L k (zIA cy n (fun _ => 0)) := by
  obtain ⟨h1, h2, h3⟩ := h
  unfold cok
  rw [h1]
  refine ⟨fun _ => 0, by rw [h2], fun i _ => ?_⟩
  have e0 : (0 : Int32).toInt = 0 := rfl
  rw [e0]
  exact ⟨(h3 i).1, (h3 i).2, fun _ => hB⟩
theorem GR.upd2 {cy : Nat → ClassId} {B : Int} {L0 : List Nat} {K0 : Nat → Nat} {f0 : Nat → va_E} {w : Nat} {L A S : List Nat} {K : Nat → Nat} {f f' : Nat → va_E} (h : GR cy B L0 K0 f0 w L A S K f) {q : Nat} (hq : q ∈ A) (ho : ∀ b, b ≠ q → f' b = f b) (hc : cok cy K B L (K q) (f' q)) : GR cy B L0 K0 f0 w L A S K f' := by
  obtain ⟨h1, h2, h3, h4, h5, h6, h7⟩ := h
  have neq : ∀ b ∈ L0, b ≠ q := fun b hb e => h5 q hq (by rw [← e]; exact hb)
  refine ⟨h1, h2, h3, h4, h5, fun b hb hne => by rw [ho b (neq b hb)]; exact h6 b hb hne, fun b hb => ?_⟩
  by_cases hbq : b = q
  · rw [hbq]
    exact hc
  · rw [ho b hbq]
    exact h7 b hb
theorem i32inc {k : Nat} (h : k < 1000000) : Int32.ofInt (k : Int) + Int32.ofInt 1 = Int32.ofInt ((k + 1 : Nat) : Int) := by
  apply Int32.toInt_inj.mp
  rw [Int32.toInt_add, i32i (z := (k : Int)) (by omega) (by omega), i32i (z := ((k + 1 : Nat) : Int)) (by omega) (by omega), i32i (z := 1) (by omega) (by omega)]
  exact Int.bmod_eq_of_le (by omega) (by omega)
theorem n_copy {X0 : zC0} {L : List Nat} {f : Nat → va_E} {a b : Nat} {ga gb : Nat → Int32} (ha : a ∈ L) (hb : b ∈ L) (hab : a ≠ b) (hfa : f a = zIA X0.2.2.1 17938 ga) (hfb : f b = zIA X0.2.2.1 17938 gb) : eM X0 3 yX12_copy cX12_copy 3 none (zrm 1 0 0) [.ref a, .ref b] L f (fun _ u => u.1 = L ∧ (∀ c, c ≠ b → u.2 c = f c) ∧ ∃ g, u.2 b = zIA X0.2.2.1 17938 g ∧ ∀ i, i < 17938 → g i = ga i) := by
  obtain ⟨l0, D0, cy0, ax0⟩ := X0
  refine eM.mk rfl pnX12 (Nat.le_of_ble_eq_true rfl) (fun E hE _ hret => ?_)
  have go : ∀ (N k : Nat), k + N = 17938 → ∀ (f1 : Nat → va_E) (g : Nat → Int32), (∀ c, c ≠ b → f1 c = f c) → f1 b = zIA cy0 17938 g → (∀ i, i < k → g i = ga i) → eW E 0 0 L f1 2 [(0, .ref a), (1, .ref b), (2, .int (Int32.ofInt (k : Int)))] [] := by
    intro N
    induction N with
    | zero =>
      intro k hk f1 g h1 h2 h3
      have hk9 : k = 17938 := by omega
      subst hk9
      refine x_iload_n hE (z := 2) (i := 2) (x := Int32.ofInt ((17938 : Nat) : Int)) (by decide +kernel) rfl (by simp) ?_
      refine x_sipush hE (i := 17938) (v := 17938) (by decide +kernel) (by decide +kernel) ?_
      refine x_icmp_ge hE (off := 15) (tgt := 21) (by decide +kernel) rfl (fun _ => ?_) (fun hn => absurd (by decide) hn)
      exact hret _ _ L f1 21 _ (Nat.le_refl _) (Nat.le_refl _) (by decide +kernel) ⟨rfl, h1, g, h2, h3⟩
    | succ N ih =>
      intro k hk f1 g h1 h2 h3
      have ei : (Int32.ofInt (k : Int)).toInt = k := i32i (by omega) (by omega)
      have et : (Int32.ofInt (k : Int)).toNatClampNeg = k := by
        show (Int32.ofInt (k : Int)).toInt.toNat = k
        rw [ei, Int.toNat_natCast]
      refine x_iload_n hE (z := 2) (i := 2) (x := Int32.ofInt (k : Int)) (by decide +kernel) rfl (by simp) ?_
      refine x_sipush hE (i := 17938) (v := 17938) (by decide +kernel) (by decide +kernel) ?_
      refine x_icmp_ge hE (off := 15) (tgt := 21) (by decide +kernel) rfl (fun hq => ?_) (fun _ => ?_)
      · exfalso
        have ec : (17938 : Int32).toInt = 17938 := by decide +kernel
        rw [Int32.le_iff_toInt_le, ei, ec] at hq
        omega
      · refine x_aload_n hE (z := 1) (i := 1) (x := b) (by decide +kernel) rfl (by simp) ?_
        refine x_iload_n hE (z := 2) (i := 2) (x := Int32.ofInt (k : Int)) (by decide +kernel) rfl (by simp) ?_
        refine x_aload_n hE (z := 0) (i := 0) (x := a) (by decide +kernel) rfl (by simp) ?_
        refine x_iload_n hE (z := 2) (i := 2) (x := Int32.ofInt (k : Int)) (by decide +kernel) rfl (by simp) ?_
        refine h_iald hE ha ((h1 a hab).trans hfa) (by rw [vp_in_iff, ei]; omega) (by decide +kernel) ?_
        refine h_iast hE hb h2 (by rw [vp_in_iff, ei]; omega) (by decide +kernel) ?_
        rw [et]
        refine x_sub (lv' := [(2, .int (Int32.ofInt (k : Int))), (0, .ref a), (1, .ref b)]) (fun q hq => by
          simp only [List.mem_cons, List.not_mem_nil, or_false] at hq
          rcases hq with h | h | h <;> simp [h]) ?_
        refine x_iinc hE (i := 2) (z := 1) (x := Int32.ofInt (k : Int)) (v := Int32.ofInt ((k + 1 : Nat) : Int)) (by decide +kernel) 0 rfl (i32inc (by omega)) (by decide) rfl ?_
        refine x_goto hE (off := -16) (tgt := 2) (by decide +kernel) rfl ?_
        refine x_sub (lv' := [(0, .ref a), (1, .ref b), (2, .int (Int32.ofInt ((k + 1 : Nat) : Int)))]) (fun q hq => by
          simp only [List.mem_cons, List.not_mem_nil, or_false] at hq
          rcases hq with h | h | h <;> simp [h, Value.category]) ?_
        refine ih (k + 1) (by omega) _ (upd g k (ga k)) (fun c hc => by rw [va_up_ne _ _ hc]; exact h1 c hc) (va_up_self _ _ _) (fun i hi => ?_)
        by_cases hik : i = k
        · rw [hik, up_same]
        · rw [up_oth _ _ hik]
          exact h3 i (by omega)
  refine x_iconst hE (i := 0) (v := Int32.ofInt ((0 : Nat) : Int)) (by decide +kernel) rfl ?_
  refine x_istore_n hE (z := 2) (i := 2) (by decide +kernel) rfl (by decide) rfl ?_
  refine x_sub (lv' := [(0, .ref a), (1, .ref b), (2, .int (Int32.ofInt ((0 : Nat) : Int)))]) (fun q hq => by
    simp only [List.mem_cons, List.not_mem_nil, or_false] at hq
    rcases hq with h | h | h <;> simp [h, Value.category, lv_args]) ?_
  exact go 17938 0 rfl f gb (fun _ _ => rfl) hfb (fun i hi => absurd hi (by omega))
theorem pd_copy : (parseMethodDescriptor yX12_copy.desc).map (fun d => d.parameters.length) = some 2 := by decide +kernel
set_option maxHeartbeats 4000000 in
theorem n_Mod {X0 : zC0} {B : Int} {K : Nat → Nat} {L : List Nat} {f : Nat → va_E} {w : Nat} (hB : 0 ≤ B) (hw : w ∈ L) (hf : f w = .inr (12, [.null, .null, .null, .null, .int 0, .int 0, .int 0, .int 0, .int 0, .int 0, .int 0, .long 0, .int 0, .int 0, .int 0, .null, .null, .int 0, .int 0, .int 0, .int 0, .int 0, .null, .int 0, .int 0, .null, .null, .null, .null, .null, .int 0, .int 0, .null, .null, .null, .int 0, .int 0, .int 0, .int 0, .null, .int 0, .null, .null, .null, .null, .null, .null, .null, .null, .null, .null, .null, .null])) : eM X0 3 yX12_init cX12_init 2 none (zrm 2 28 40911) [.ref w] L f (fun _ u => ∃ (A : List Nat) (K1 : Nat → Nat), GR X0.2.2.1 B L K f w u.1 A [201, 202, 203, 204, 205, 206, 207, 208, 209, 210, 211, 212, 213, 214, 215, 216, 217, 218, 219, 220, 221, 222, 223, 224, 225, 226, 227, 228] K1 u.2 ∧ cok X0.2.2.1 K1 B u.1 200 (u.2 w) ∧ ∃ a im tx : Nat, a ∈ u.1 ∧ K1 a = 201 ∧ im ∈ u.1 ∧ K1 im = 202 ∧ tx ∈ u.1 ∧ K1 tx = 203 ∧ (∀ i, (i ≤ 5 ∨ i = 7 ∨ (9 ≤ i ∧ i < 9938)) → gi (u.2 a) i = 0) ∧ (∀ i, (i ≤ 5 ∨ i = 7 ∨ (9 ≤ i ∧ i < 9938)) → gi (u.2 im) i = 0) ∧ ∀ i, gi (u.2 tx) i = 0) := by
  obtain ⟨l0, D0, cy0, ax0⟩ := X0
  refine eM.mk rfl pnX12 (Nat.le_of_ble_eq_true rfl) (fun E hE hin hret => ?_)
  have hI := hin rfl
  have g0 : GR cy0 B L K f w L [] [] K f := GR.rf
  have h0 := hf
  refine x_aload_n hE (z := 0) (i := 0) (x := w) (by decide +kernel) rfl (by simp [lv_args, Value.category]) ?_
  refine x_objinit hE q1390 q140 q141 (by decide +kernel) (by decide) (by decide) ?_
  refine x_aload_n hE (z := 0) (i := 0) (x := w) (by decide +kernel) rfl (by simp [lv_args, Value.category]) ?_
  refine x_sipush hE (i := 17938) (v := 17938) (by decide +kernel) (by decide +kernel) ?_
  refine n_row (atype := .int) (ty := .int) (t0 := 0) (x := (17938, .inl (fun _ => 0))) (v := 17938) (ci := 12) (j := 0) (kq := 201) (n0 := 17938) hE hI g0 hw h0 rfl inZX12 tyX12_ok nmX12 (by decide) (by show 0 < 53; decide) rfl q1394 rfl rfl (fun C h => by cases h) q207 (fun _ => rfl) (fun _ => rfl) (by decide) rfl (Nat.le_of_ble_eq_true rfl) (Nat.le_of_ble_eq_true rfl) (Nat.le_of_ble_eq_true rfl) (by decide +kernel) (by decide +kernel) (fun K L => cok_A (okA_m rfl rfl (fun _ => rfl)) hB) (fun q1 L3 K3 f3 g3 h3 r3 c3 => ?_)
  replace h3 : f3 w = .inr (12, [.ref q1, .null, .null, .null, .int 0, .int 0, .int 0, .int 0, .int 0, .int 0, .int 0, .long 0, .int 0, .int 0, .int 0, .null, .null, .int 0, .int 0, .int 0, .int 0, .int 0, .null, .int 0, .int 0, .null, .null, .null, .null, .null, .int 0, .int 0, .null, .null, .null, .int 0, .int 0, .int 0, .int 0, .null, .int 0, .null, .null, .null, .null, .null, .null, .null, .null, .null, .null, .null, .null]) := h3
  replace g3 : GR cy0 B L K f w L3 [q1] [201] K3 f3 := g3
  have neq1 : q1 ≠ w := fun e => g3.2.2.2.2.1 q1 (by simp) (by rw [e]; exact hw)
  refine x_aload_n hE (z := 0) (i := 0) (x := w) (by decide +kernel) rfl (by simp [lv_args, Value.category]) ?_
  refine x_sipush hE (i := 17938) (v := 17938) (by decide +kernel) (by decide +kernel) ?_
  refine n_row (atype := .int) (ty := .int) (t0 := 0) (x := (17938, .inl (fun _ => 0))) (v := 17938) (ci := 12) (j := 1) (kq := 202) (n0 := 17938) hE hI g3 hw h3 rfl inZX12 tyX12_ok nmX12 (by decide) (by show 1 < 53; decide) rfl q1395 rfl rfl (fun C h => by cases h) q207 (fun _ => rfl) (fun _ => rfl) (by decide) rfl (Nat.le_of_ble_eq_true rfl) (Nat.le_of_ble_eq_true rfl) (Nat.le_of_ble_eq_true rfl) (by decide +kernel) (by decide +kernel) (fun K L => cok_A (okA_m rfl rfl (fun _ => rfl)) hB) (fun q2 L9 K9 f9 g9 h9 r9 c9 => ?_)
  replace h9 : f9 w = .inr (12, [.ref q1, .ref q2, .null, .null, .int 0, .int 0, .int 0, .int 0, .int 0, .int 0, .int 0, .long 0, .int 0, .int 0, .int 0, .null, .null, .int 0, .int 0, .int 0, .int 0, .int 0, .null, .int 0, .int 0, .null, .null, .null, .null, .null, .int 0, .int 0, .null, .null, .null, .int 0, .int 0, .int 0, .int 0, .null, .int 0, .null, .null, .null, .null, .null, .null, .null, .null, .null, .null, .null, .null]) := h9
  replace g9 : GR cy0 B L K f w L9 [q1, q2] [201, 202] K9 f9 := g9
  have t9_q1 : f9 q1 = zIA cy0 17938 (fun _ => 0) := (r9 q1 (by rw [g3.1]; simp) neq1).trans c3
  have neq2 : q2 ≠ w := fun e => g9.2.2.2.2.1 q2 (by simp) (by rw [e]; exact hw)
  refine x_aload_n hE (z := 0) (i := 0) (x := w) (by decide +kernel) rfl (by simp [lv_args, Value.category]) ?_
  refine x_sipush hE (i := 2820) (v := 2820) (by decide +kernel) (by decide +kernel) ?_
  refine n_row (atype := .int) (ty := .int) (t0 := 0) (x := (2820, .inl (fun _ => 0))) (v := 2820) (ci := 12) (j := 2) (kq := 203) (n0 := 2820) hE hI g9 hw h9 rfl inZX12 tyX12_ok nmX12 (by decide) (by show 2 < 53; decide) rfl q1396 rfl rfl (fun C h => by cases h) q207 (fun _ => rfl) (fun _ => rfl) (by decide) rfl (Nat.le_of_ble_eq_true rfl) (Nat.le_of_ble_eq_true rfl) (Nat.le_of_ble_eq_true rfl) (by decide +kernel) (by decide +kernel) (fun K L => cok_A okA_t hB) (fun q3 L16 K16 f16 g16 h16 r16 c16 => ?_)
  replace h16 : f16 w = .inr (12, [.ref q1, .ref q2, .ref q3, .null, .int 0, .int 0, .int 0, .int 0, .int 0, .int 0, .int 0, .long 0, .int 0, .int 0, .int 0, .null, .null, .int 0, .int 0, .int 0, .int 0, .int 0, .null, .int 0, .int 0, .null, .null, .null, .null, .null, .int 0, .int 0, .null, .null, .null, .int 0, .int 0, .int 0, .int 0, .null, .int 0, .null, .null, .null, .null, .null, .null, .null, .null, .null, .null, .null, .null]) := h16
  replace g16 : GR cy0 B L K f w L16 [q1, q2, q3] [201, 202, 203] K16 f16 := g16
  have t16_q1 : f16 q1 = zIA cy0 17938 (fun _ => 0) := (r16 q1 (by rw [g9.1]; simp) neq1).trans t9_q1
  have t16_q2 : f16 q2 = zIA cy0 17938 (fun _ => 0) := (r16 q2 (by rw [g9.1]; simp) neq2).trans c9
  have neq3 : q3 ≠ w := fun e => g16.2.2.2.2.1 q3 (by simp) (by rw [e]; exact hw)
  refine x_aload_n hE (z := 0) (i := 0) (x := w) (by decide +kernel) rfl (by simp [lv_args, Value.category]) ?_
  refine x_sipush hE (i := 300) (v := 300) (by decide +kernel) (by decide +kernel) ?_
  refine n_row (atype := .int) (ty := .int) (t0 := 0) (x := (300, .inl (fun _ => 0))) (v := 300) (ci := 12) (j := 3) (kq := 204) (n0 := 300) hE hI g16 hw h16 rfl inZX12 tyX12_ok nmX12 (by decide) (by show 3 < 53; decide) rfl q1397 rfl rfl (fun C h => by cases h) q207 (fun _ => rfl) (fun _ => rfl) (by decide) rfl (Nat.le_of_ble_eq_true rfl) (Nat.le_of_ble_eq_true rfl) (Nat.le_of_ble_eq_true rfl) (by decide +kernel) (by decide +kernel) (fun K L => cok_I (okI_of rfl rfl (fun _ => rfl) (by decide) (by decide))) (fun q4 L24 K24 f24 g24 h24 r24 c24 => ?_)
  replace h24 : f24 w = .inr (12, [.ref q1, .ref q2, .ref q3, .ref q4, .int 0, .int 0, .int 0, .int 0, .int 0, .int 0, .int 0, .long 0, .int 0, .int 0, .int 0, .null, .null, .int 0, .int 0, .int 0, .int 0, .int 0, .null, .int 0, .int 0, .null, .null, .null, .null, .null, .int 0, .int 0, .null, .null, .null, .int 0, .int 0, .int 0, .int 0, .null, .int 0, .null, .null, .null, .null, .null, .null, .null, .null, .null, .null, .null, .null]) := h24
  replace g24 : GR cy0 B L K f w L24 [q1, q2, q3, q4] [201, 202, 203, 204] K24 f24 := g24
  have t24_q1 : f24 q1 = zIA cy0 17938 (fun _ => 0) := (r24 q1 (by rw [g16.1]; simp) neq1).trans t16_q1
  have t24_q2 : f24 q2 = zIA cy0 17938 (fun _ => 0) := (r24 q2 (by rw [g16.1]; simp) neq2).trans t16_q2
  have t24_q3 : f24 q3 = zIA cy0 2820 (fun _ => 0) := (r24 q3 (by rw [g16.1]; simp) neq3).trans c16
  refine x_aload_n hE (z := 0) (i := 0) (x := w) (by decide +kernel) rfl (by simp [lv_args, Value.category]) ?_
  refine x_iconst hE (i := (-1)) (v := (-1)) (by decide +kernel) (by decide +kernel) ?_
  refine n_put (ci := 12) (j := 5) hE hI g24 hw h24 rfl inZX12 tyX12_ok nmX12 (by decide) (by show 5 < 53; decide) rfl q1399 rfl rfl (by decide +kernel) (fun f32 g32 h32 u32 => ?_)
  replace h32 : f32 w = .inr (12, [.ref q1, .ref q2, .ref q3, .ref q4, .int 0, .int (-1), .int 0, .int 0, .int 0, .int 0, .int 0, .long 0, .int 0, .int 0, .int 0, .null, .null, .int 0, .int 0, .int 0, .int 0, .int 0, .null, .int 0, .int 0, .null, .null, .null, .null, .null, .int 0, .int 0, .null, .null, .null, .int 0, .int 0, .int 0, .int 0, .null, .int 0, .null, .null, .null, .null, .null, .null, .null, .null, .null, .null, .null, .null]) := h32
  have t32_q1 : f32 q1 = zIA cy0 17938 (fun _ => 0) := (u32 q1 neq1).trans t24_q1
  have t32_q2 : f32 q2 = zIA cy0 17938 (fun _ => 0) := (u32 q2 neq2).trans t24_q2
  have t32_q3 : f32 q3 = zIA cy0 2820 (fun _ => 0) := (u32 q3 neq3).trans t24_q3
  refine x_aload_n hE (z := 0) (i := 0) (x := w) (by decide +kernel) rfl (by simp [lv_args, Value.category]) ?_
  refine x_iconst hE (i := (-1)) (v := (-1)) (by decide +kernel) (by decide +kernel) ?_
  refine n_put (ci := 12) (j := 6) hE hI g32 hw h32 rfl inZX12 tyX12_ok nmX12 (by decide) (by show 6 < 53; decide) rfl q1400 rfl rfl (by decide +kernel) (fun f39 g39 h39 u39 => ?_)
  replace h39 : f39 w = .inr (12, [.ref q1, .ref q2, .ref q3, .ref q4, .int 0, .int (-1), .int (-1), .int 0, .int 0, .int 0, .int 0, .long 0, .int 0, .int 0, .int 0, .null, .null, .int 0, .int 0, .int 0, .int 0, .int 0, .null, .int 0, .int 0, .null, .null, .null, .null, .null, .int 0, .int 0, .null, .null, .null, .int 0, .int 0, .int 0, .int 0, .null, .int 0, .null, .null, .null, .null, .null, .null, .null, .null, .null, .null, .null, .null]) := h39
  have t39_q1 : f39 q1 = zIA cy0 17938 (fun _ => 0) := (u39 q1 neq1).trans t32_q1
  have t39_q2 : f39 q2 = zIA cy0 17938 (fun _ => 0) := (u39 q2 neq2).trans t32_q2
  have t39_q3 : f39 q3 = zIA cy0 2820 (fun _ => 0) := (u39 q3 neq3).trans t32_q3
  refine x_aload_n hE (z := 0) (i := 0) (x := w) (by decide +kernel) rfl (by simp [lv_args, Value.category]) ?_
  refine x_sipush hE (i := 160) (v := 160) (by decide +kernel) (by decide +kernel) ?_
  refine n_row (atype := .int) (ty := .int) (t0 := 0) (x := (160, .inl (fun _ => 0))) (v := 160) (ci := 12) (j := 15) (kq := 205) (n0 := 160) hE hI g39 hw h39 rfl inZX12 tyX12_ok nmX12 (by decide) (by show 15 < 53; decide) rfl q1409 rfl rfl (fun C h => by cases h) q207 (fun _ => rfl) (fun _ => rfl) (by decide) rfl (Nat.le_of_ble_eq_true rfl) (Nat.le_of_ble_eq_true rfl) (Nat.le_of_ble_eq_true rfl) (by decide +kernel) (by decide +kernel) (fun K L => cok_I (okI_of rfl rfl (fun _ => rfl) (by decide) (by decide))) (fun q5 L46 K46 f46 g46 h46 r46 c46 => ?_)
  replace h46 : f46 w = .inr (12, [.ref q1, .ref q2, .ref q3, .ref q4, .int 0, .int (-1), .int (-1), .int 0, .int 0, .int 0, .int 0, .long 0, .int 0, .int 0, .int 0, .ref q5, .null, .int 0, .int 0, .int 0, .int 0, .int 0, .null, .int 0, .int 0, .null, .null, .null, .null, .null, .int 0, .int 0, .null, .null, .null, .int 0, .int 0, .int 0, .int 0, .null, .int 0, .null, .null, .null, .null, .null, .null, .null, .null, .null, .null, .null, .null]) := h46
  replace g46 : GR cy0 B L K f w L46 [q1, q2, q3, q4, q5] [201, 202, 203, 204, 205] K46 f46 := g46
  have t46_q1 : f46 q1 = zIA cy0 17938 (fun _ => 0) := (r46 q1 (by rw [g39.1]; simp) neq1).trans t39_q1
  have t46_q2 : f46 q2 = zIA cy0 17938 (fun _ => 0) := (r46 q2 (by rw [g39.1]; simp) neq2).trans t39_q2
  have t46_q3 : f46 q3 = zIA cy0 2820 (fun _ => 0) := (r46 q3 (by rw [g39.1]; simp) neq3).trans t39_q3
  refine x_aload_n hE (z := 0) (i := 0) (x := w) (by decide +kernel) rfl (by simp [lv_args, Value.category]) ?_
  refine x_bipush hE (i := 10) (v := 10) (by decide +kernel) (by decide +kernel) ?_
  refine n_row (atype := .int) (ty := .int) (t0 := 0) (x := (10, .inl (fun _ => 0))) (v := 10) (ci := 12) (j := 16) (kq := 206) (n0 := 10) hE hI g46 hw h46 rfl inZX12 tyX12_ok nmX12 (by decide) (by show 16 < 53; decide) rfl q1410 rfl rfl (fun C h => by cases h) q207 (fun _ => rfl) (fun _ => rfl) (by decide) rfl (Nat.le_of_ble_eq_true rfl) (Nat.le_of_ble_eq_true rfl) (Nat.le_of_ble_eq_true rfl) (by decide +kernel) (by decide +kernel) (fun K L => cok_I (okI_of rfl rfl (fun _ => rfl) (by decide) (by decide))) (fun q6 L54 K54 f54 g54 h54 r54 c54 => ?_)
  replace h54 : f54 w = .inr (12, [.ref q1, .ref q2, .ref q3, .ref q4, .int 0, .int (-1), .int (-1), .int 0, .int 0, .int 0, .int 0, .long 0, .int 0, .int 0, .int 0, .ref q5, .ref q6, .int 0, .int 0, .int 0, .int 0, .int 0, .null, .int 0, .int 0, .null, .null, .null, .null, .null, .int 0, .int 0, .null, .null, .null, .int 0, .int 0, .int 0, .int 0, .null, .int 0, .null, .null, .null, .null, .null, .null, .null, .null, .null, .null, .null, .null]) := h54
  replace g54 : GR cy0 B L K f w L54 [q1, q2, q3, q4, q5, q6] [201, 202, 203, 204, 205, 206] K54 f54 := g54
  have t54_q1 : f54 q1 = zIA cy0 17938 (fun _ => 0) := (r54 q1 (by rw [g46.1]; simp) neq1).trans t46_q1
  have t54_q2 : f54 q2 = zIA cy0 17938 (fun _ => 0) := (r54 q2 (by rw [g46.1]; simp) neq2).trans t46_q2
  have t54_q3 : f54 q3 = zIA cy0 2820 (fun _ => 0) := (r54 q3 (by rw [g46.1]; simp) neq3).trans t46_q3
  refine x_aload_n hE (z := 0) (i := 0) (x := w) (by decide +kernel) rfl (by simp [lv_args, Value.category]) ?_
  refine x_bipush hE (i := 11) (v := 11) (by decide +kernel) (by decide +kernel) ?_
  refine n_row (atype := .int) (ty := .int) (t0 := 0) (x := (11, .inl (fun _ => 0))) (v := 11) (ci := 12) (j := 22) (kq := 207) (n0 := 11) hE hI g54 hw h54 rfl inZX12 tyX12_ok nmX12 (by decide) (by show 22 < 53; decide) rfl q1416 rfl rfl (fun C h => by cases h) q207 (fun _ => rfl) (fun _ => rfl) (by decide) rfl (Nat.le_of_ble_eq_true rfl) (Nat.le_of_ble_eq_true rfl) (Nat.le_of_ble_eq_true rfl) (by decide +kernel) (by decide +kernel) (fun K L => cok_I (okI_of rfl rfl (fun _ => rfl) (by decide) (by decide))) (fun q7 L62 K62 f62 g62 h62 r62 c62 => ?_)
  replace h62 : f62 w = .inr (12, [.ref q1, .ref q2, .ref q3, .ref q4, .int 0, .int (-1), .int (-1), .int 0, .int 0, .int 0, .int 0, .long 0, .int 0, .int 0, .int 0, .ref q5, .ref q6, .int 0, .int 0, .int 0, .int 0, .int 0, .ref q7, .int 0, .int 0, .null, .null, .null, .null, .null, .int 0, .int 0, .null, .null, .null, .int 0, .int 0, .int 0, .int 0, .null, .int 0, .null, .null, .null, .null, .null, .null, .null, .null, .null, .null, .null, .null]) := h62
  replace g62 : GR cy0 B L K f w L62 [q1, q2, q3, q4, q5, q6, q7] [201, 202, 203, 204, 205, 206, 207] K62 f62 := g62
  have t62_q1 : f62 q1 = zIA cy0 17938 (fun _ => 0) := (r62 q1 (by rw [g54.1]; simp) neq1).trans t54_q1
  have t62_q2 : f62 q2 = zIA cy0 17938 (fun _ => 0) := (r62 q2 (by rw [g54.1]; simp) neq2).trans t54_q2
  have t62_q3 : f62 q3 = zIA cy0 2820 (fun _ => 0) := (r62 q3 (by rw [g54.1]; simp) neq3).trans t54_q3
  refine x_aload_n hE (z := 0) (i := 0) (x := w) (by decide +kernel) rfl (by simp [lv_args, Value.category]) ?_
  refine x_iconst hE (i := (-1)) (v := (-1)) (by decide +kernel) (by decide +kernel) ?_
  refine n_put (ci := 12) (j := 24) hE hI g62 hw h62 rfl inZX12 tyX12_ok nmX12 (by decide) (by show 24 < 53; decide) rfl q1418 rfl rfl (by decide +kernel) (fun f70 g70 h70 u70 => ?_)
  replace h70 : f70 w = .inr (12, [.ref q1, .ref q2, .ref q3, .ref q4, .int 0, .int (-1), .int (-1), .int 0, .int 0, .int 0, .int 0, .long 0, .int 0, .int 0, .int 0, .ref q5, .ref q6, .int 0, .int 0, .int 0, .int 0, .int 0, .ref q7, .int 0, .int (-1), .null, .null, .null, .null, .null, .int 0, .int 0, .null, .null, .null, .int 0, .int 0, .int 0, .int 0, .null, .int 0, .null, .null, .null, .null, .null, .null, .null, .null, .null, .null, .null, .null]) := h70
  have t70_q1 : f70 q1 = zIA cy0 17938 (fun _ => 0) := (u70 q1 neq1).trans t62_q1
  have t70_q2 : f70 q2 = zIA cy0 17938 (fun _ => 0) := (u70 q2 neq2).trans t62_q2
  have t70_q3 : f70 q3 = zIA cy0 2820 (fun _ => 0) := (u70 q3 neq3).trans t62_q3
  refine x_aload_n hE (z := 0) (i := 0) (x := w) (by decide +kernel) rfl (by simp [lv_args, Value.category]) ?_
  refine x_sipush hE (i := 330) (v := 330) (by decide +kernel) (by decide +kernel) ?_
  refine n_row (atype := .long) (ty := .long) (t0 := 1) (x := (330, .inr (.inl (fun _ => 0)))) (v := 330) (ci := 12) (j := 25) (kq := 208) (n0 := 330) hE hI g70 hw h70 rfl inZX12 tyX12_ok nmX12 (by decide) (by show 25 < 53; decide) rfl q1419 rfl rfl (fun C h => by cases h) q1295 (fun _ => rfl) (fun _ => rfl) (by decide) rfl (Nat.le_of_ble_eq_true rfl) (Nat.le_of_ble_eq_true rfl) (Nat.le_of_ble_eq_true rfl) (by decide +kernel) (by decide +kernel) (fun K L => cok_J rfl rfl) (fun q8 L77 K77 f77 g77 h77 r77 c77 => ?_)
  replace h77 : f77 w = .inr (12, [.ref q1, .ref q2, .ref q3, .ref q4, .int 0, .int (-1), .int (-1), .int 0, .int 0, .int 0, .int 0, .long 0, .int 0, .int 0, .int 0, .ref q5, .ref q6, .int 0, .int 0, .int 0, .int 0, .int 0, .ref q7, .int 0, .int (-1), .ref q8, .null, .null, .null, .null, .int 0, .int 0, .null, .null, .null, .int 0, .int 0, .int 0, .int 0, .null, .int 0, .null, .null, .null, .null, .null, .null, .null, .null, .null, .null, .null, .null]) := h77
  replace g77 : GR cy0 B L K f w L77 [q1, q2, q3, q4, q5, q6, q7, q8] [201, 202, 203, 204, 205, 206, 207, 208] K77 f77 := g77
  have t77_q1 : f77 q1 = zIA cy0 17938 (fun _ => 0) := (r77 q1 (by rw [g70.1]; simp) neq1).trans t70_q1
  have t77_q2 : f77 q2 = zIA cy0 17938 (fun _ => 0) := (r77 q2 (by rw [g70.1]; simp) neq2).trans t70_q2
  have t77_q3 : f77 q3 = zIA cy0 2820 (fun _ => 0) := (r77 q3 (by rw [g70.1]; simp) neq3).trans t70_q3
  refine x_aload_n hE (z := 0) (i := 0) (x := w) (by decide +kernel) rfl (by simp [lv_args, Value.category]) ?_
  refine x_sipush hE (i := 330) (v := 330) (by decide +kernel) (by decide +kernel) ?_
  refine n_row (atype := .boolean) (ty := .boolean) (t0 := 2) (x := (330, .inl (fun _ => 0))) (v := 330) (ci := 12) (j := 26) (kq := 209) (n0 := 330) hE hI g77 hw h77 rfl inZX12 tyX12_ok nmX12 (by decide) (by show 26 < 53; decide) rfl q1420 rfl rfl (fun C h => by cases h) q358 (fun _ => rfl) (fun _ => rfl) (by decide) rfl (Nat.le_of_ble_eq_true rfl) (Nat.le_of_ble_eq_true rfl) (Nat.le_of_ble_eq_true rfl) (by decide +kernel) (by decide +kernel) (fun K L => cok_Z rfl rfl) (fun q9 L85 K85 f85 g85 h85 r85 c85 => ?_)
  replace h85 : f85 w = .inr (12, [.ref q1, .ref q2, .ref q3, .ref q4, .int 0, .int (-1), .int (-1), .int 0, .int 0, .int 0, .int 0, .long 0, .int 0, .int 0, .int 0, .ref q5, .ref q6, .int 0, .int 0, .int 0, .int 0, .int 0, .ref q7, .int 0, .int (-1), .ref q8, .ref q9, .null, .null, .null, .int 0, .int 0, .null, .null, .null, .int 0, .int 0, .int 0, .int 0, .null, .int 0, .null, .null, .null, .null, .null, .null, .null, .null, .null, .null, .null, .null]) := h85
  replace g85 : GR cy0 B L K f w L85 [q1, q2, q3, q4, q5, q6, q7, q8, q9] [201, 202, 203, 204, 205, 206, 207, 208, 209] K85 f85 := g85
  have t85_q1 : f85 q1 = zIA cy0 17938 (fun _ => 0) := (r85 q1 (by rw [g77.1]; simp) neq1).trans t77_q1
  have t85_q2 : f85 q2 = zIA cy0 17938 (fun _ => 0) := (r85 q2 (by rw [g77.1]; simp) neq2).trans t77_q2
  have t85_q3 : f85 q3 = zIA cy0 2820 (fun _ => 0) := (r85 q3 (by rw [g77.1]; simp) neq3).trans t77_q3
  refine x_aload_n hE (z := 0) (i := 0) (x := w) (by decide +kernel) rfl (by simp [lv_args, Value.category]) ?_
  refine x_bipush hE (i := 10) (v := 10) (by decide +kernel) (by decide +kernel) ?_
  refine n_row (atype := .long) (ty := .long) (t0 := 1) (x := (10, .inr (.inl (fun _ => 0)))) (v := 10) (ci := 12) (j := 27) (kq := 210) (n0 := 10) hE hI g85 hw h85 rfl inZX12 tyX12_ok nmX12 (by decide) (by show 27 < 53; decide) rfl q1421 rfl rfl (fun C h => by cases h) q1295 (fun _ => rfl) (fun _ => rfl) (by decide) rfl (Nat.le_of_ble_eq_true rfl) (Nat.le_of_ble_eq_true rfl) (Nat.le_of_ble_eq_true rfl) (by decide +kernel) (by decide +kernel) (fun K L => cok_J rfl rfl) (fun q10 L93 K93 f93 g93 h93 r93 c93 => ?_)
  replace h93 : f93 w = .inr (12, [.ref q1, .ref q2, .ref q3, .ref q4, .int 0, .int (-1), .int (-1), .int 0, .int 0, .int 0, .int 0, .long 0, .int 0, .int 0, .int 0, .ref q5, .ref q6, .int 0, .int 0, .int 0, .int 0, .int 0, .ref q7, .int 0, .int (-1), .ref q8, .ref q9, .ref q10, .null, .null, .int 0, .int 0, .null, .null, .null, .int 0, .int 0, .int 0, .int 0, .null, .int 0, .null, .null, .null, .null, .null, .null, .null, .null, .null, .null, .null, .null]) := h93
  replace g93 : GR cy0 B L K f w L93 [q1, q2, q3, q4, q5, q6, q7, q8, q9, q10] [201, 202, 203, 204, 205, 206, 207, 208, 209, 210] K93 f93 := g93
  have t93_q1 : f93 q1 = zIA cy0 17938 (fun _ => 0) := (r93 q1 (by rw [g85.1]; simp) neq1).trans t85_q1
  have t93_q2 : f93 q2 = zIA cy0 17938 (fun _ => 0) := (r93 q2 (by rw [g85.1]; simp) neq2).trans t85_q2
  have t93_q3 : f93 q3 = zIA cy0 2820 (fun _ => 0) := (r93 q3 (by rw [g85.1]; simp) neq3).trans t85_q3
  refine x_aload_n hE (z := 0) (i := 0) (x := w) (by decide +kernel) rfl (by simp [lv_args, Value.category]) ?_
  refine x_bipush hE (i := 10) (v := 10) (by decide +kernel) (by decide +kernel) ?_
  refine n_row (atype := .int) (ty := .int) (t0 := 0) (x := (10, .inl (fun _ => 0))) (v := 10) (ci := 12) (j := 28) (kq := 211) (n0 := 10) hE hI g93 hw h93 rfl inZX12 tyX12_ok nmX12 (by decide) (by show 28 < 53; decide) rfl q1422 rfl rfl (fun C h => by cases h) q207 (fun _ => rfl) (fun _ => rfl) (by decide) rfl (Nat.le_of_ble_eq_true rfl) (Nat.le_of_ble_eq_true rfl) (Nat.le_of_ble_eq_true rfl) (by decide +kernel) (by decide +kernel) (fun K L => cok_I (okI_of rfl rfl (fun _ => rfl) (by decide) (by decide))) (fun q11 L101 K101 f101 g101 h101 r101 c101 => ?_)
  replace h101 : f101 w = .inr (12, [.ref q1, .ref q2, .ref q3, .ref q4, .int 0, .int (-1), .int (-1), .int 0, .int 0, .int 0, .int 0, .long 0, .int 0, .int 0, .int 0, .ref q5, .ref q6, .int 0, .int 0, .int 0, .int 0, .int 0, .ref q7, .int 0, .int (-1), .ref q8, .ref q9, .ref q10, .ref q11, .null, .int 0, .int 0, .null, .null, .null, .int 0, .int 0, .int 0, .int 0, .null, .int 0, .null, .null, .null, .null, .null, .null, .null, .null, .null, .null, .null, .null]) := h101
  replace g101 : GR cy0 B L K f w L101 [q1, q2, q3, q4, q5, q6, q7, q8, q9, q10, q11] [201, 202, 203, 204, 205, 206, 207, 208, 209, 210, 211] K101 f101 := g101
  have t101_q1 : f101 q1 = zIA cy0 17938 (fun _ => 0) := (r101 q1 (by rw [g93.1]; simp) neq1).trans t93_q1
  have t101_q2 : f101 q2 = zIA cy0 17938 (fun _ => 0) := (r101 q2 (by rw [g93.1]; simp) neq2).trans t93_q2
  have t101_q3 : f101 q3 = zIA cy0 2820 (fun _ => 0) := (r101 q3 (by rw [g93.1]; simp) neq3).trans t93_q3
  refine x_aload_n hE (z := 0) (i := 0) (x := w) (by decide +kernel) rfl (by simp [lv_args, Value.category]) ?_
  refine x_bipush hE (i := 10) (v := 10) (by decide +kernel) (by decide +kernel) ?_
  refine n_row (atype := .int) (ty := .int) (t0 := 0) (x := (10, .inl (fun _ => 0))) (v := 10) (ci := 12) (j := 29) (kq := 212) (n0 := 10) hE hI g101 hw h101 rfl inZX12 tyX12_ok nmX12 (by decide) (by show 29 < 53; decide) rfl q1423 rfl rfl (fun C h => by cases h) q207 (fun _ => rfl) (fun _ => rfl) (by decide) rfl (Nat.le_of_ble_eq_true rfl) (Nat.le_of_ble_eq_true rfl) (Nat.le_of_ble_eq_true rfl) (by decide +kernel) (by decide +kernel) (fun K L => cok_I (okI_of rfl rfl (fun _ => rfl) (by decide) (by decide))) (fun q12 L109 K109 f109 g109 h109 r109 c109 => ?_)
  replace h109 : f109 w = .inr (12, [.ref q1, .ref q2, .ref q3, .ref q4, .int 0, .int (-1), .int (-1), .int 0, .int 0, .int 0, .int 0, .long 0, .int 0, .int 0, .int 0, .ref q5, .ref q6, .int 0, .int 0, .int 0, .int 0, .int 0, .ref q7, .int 0, .int (-1), .ref q8, .ref q9, .ref q10, .ref q11, .ref q12, .int 0, .int 0, .null, .null, .null, .int 0, .int 0, .int 0, .int 0, .null, .int 0, .null, .null, .null, .null, .null, .null, .null, .null, .null, .null, .null, .null]) := h109
  replace g109 : GR cy0 B L K f w L109 [q1, q2, q3, q4, q5, q6, q7, q8, q9, q10, q11, q12] [201, 202, 203, 204, 205, 206, 207, 208, 209, 210, 211, 212] K109 f109 := g109
  have t109_q1 : f109 q1 = zIA cy0 17938 (fun _ => 0) := (r109 q1 (by rw [g101.1]; simp) neq1).trans t101_q1
  have t109_q2 : f109 q2 = zIA cy0 17938 (fun _ => 0) := (r109 q2 (by rw [g101.1]; simp) neq2).trans t101_q2
  have t109_q3 : f109 q3 = zIA cy0 2820 (fun _ => 0) := (r109 q3 (by rw [g101.1]; simp) neq3).trans t101_q3
  refine x_aload_n hE (z := 0) (i := 0) (x := w) (by decide +kernel) rfl (by simp [lv_args, Value.category]) ?_
  refine x_bipush hE (i := 10) (v := 10) (by decide +kernel) (by decide +kernel) ?_
  refine n_row (atype := .int) (ty := .int) (t0 := 0) (x := (10, .inl (fun _ => 0))) (v := 10) (ci := 12) (j := 32) (kq := 213) (n0 := 10) hE hI g109 hw h109 rfl inZX12 tyX12_ok nmX12 (by decide) (by show 32 < 53; decide) rfl q1426 rfl rfl (fun C h => by cases h) q207 (fun _ => rfl) (fun _ => rfl) (by decide) rfl (Nat.le_of_ble_eq_true rfl) (Nat.le_of_ble_eq_true rfl) (Nat.le_of_ble_eq_true rfl) (by decide +kernel) (by decide +kernel) (fun K L => cok_I (okI_of rfl rfl (fun _ => rfl) (by decide) (by decide))) (fun q13 L117 K117 f117 g117 h117 r117 c117 => ?_)
  replace h117 : f117 w = .inr (12, [.ref q1, .ref q2, .ref q3, .ref q4, .int 0, .int (-1), .int (-1), .int 0, .int 0, .int 0, .int 0, .long 0, .int 0, .int 0, .int 0, .ref q5, .ref q6, .int 0, .int 0, .int 0, .int 0, .int 0, .ref q7, .int 0, .int (-1), .ref q8, .ref q9, .ref q10, .ref q11, .ref q12, .int 0, .int 0, .ref q13, .null, .null, .int 0, .int 0, .int 0, .int 0, .null, .int 0, .null, .null, .null, .null, .null, .null, .null, .null, .null, .null, .null, .null]) := h117
  replace g117 : GR cy0 B L K f w L117 [q1, q2, q3, q4, q5, q6, q7, q8, q9, q10, q11, q12, q13] [201, 202, 203, 204, 205, 206, 207, 208, 209, 210, 211, 212, 213] K117 f117 := g117
  have t117_q1 : f117 q1 = zIA cy0 17938 (fun _ => 0) := (r117 q1 (by rw [g109.1]; simp) neq1).trans t109_q1
  have t117_q2 : f117 q2 = zIA cy0 17938 (fun _ => 0) := (r117 q2 (by rw [g109.1]; simp) neq2).trans t109_q2
  have t117_q3 : f117 q3 = zIA cy0 2820 (fun _ => 0) := (r117 q3 (by rw [g109.1]; simp) neq3).trans t109_q3
  refine x_aload_n hE (z := 0) (i := 0) (x := w) (by decide +kernel) rfl (by simp [lv_args, Value.category]) ?_
  refine x_sipush hE (i := 400) (v := 400) (by decide +kernel) (by decide +kernel) ?_
  refine n_row (atype := .long) (ty := .long) (t0 := 1) (x := (400, .inr (.inl (fun _ => 0)))) (v := 400) (ci := 12) (j := 33) (kq := 214) (n0 := 400) hE hI g117 hw h117 rfl inZX12 tyX12_ok nmX12 (by decide) (by show 33 < 53; decide) rfl q1427 rfl rfl (fun C h => by cases h) q1295 (fun _ => rfl) (fun _ => rfl) (by decide) rfl (Nat.le_of_ble_eq_true rfl) (Nat.le_of_ble_eq_true rfl) (Nat.le_of_ble_eq_true rfl) (by decide +kernel) (by decide +kernel) (fun K L => cok_J rfl rfl) (fun q14 L125 K125 f125 g125 h125 r125 c125 => ?_)
  replace h125 : f125 w = .inr (12, [.ref q1, .ref q2, .ref q3, .ref q4, .int 0, .int (-1), .int (-1), .int 0, .int 0, .int 0, .int 0, .long 0, .int 0, .int 0, .int 0, .ref q5, .ref q6, .int 0, .int 0, .int 0, .int 0, .int 0, .ref q7, .int 0, .int (-1), .ref q8, .ref q9, .ref q10, .ref q11, .ref q12, .int 0, .int 0, .ref q13, .ref q14, .null, .int 0, .int 0, .int 0, .int 0, .null, .int 0, .null, .null, .null, .null, .null, .null, .null, .null, .null, .null, .null, .null]) := h125
  replace g125 : GR cy0 B L K f w L125 [q1, q2, q3, q4, q5, q6, q7, q8, q9, q10, q11, q12, q13, q14] [201, 202, 203, 204, 205, 206, 207, 208, 209, 210, 211, 212, 213, 214] K125 f125 := g125
  have t125_q1 : f125 q1 = zIA cy0 17938 (fun _ => 0) := (r125 q1 (by rw [g117.1]; simp) neq1).trans t117_q1
  have t125_q2 : f125 q2 = zIA cy0 17938 (fun _ => 0) := (r125 q2 (by rw [g117.1]; simp) neq2).trans t117_q2
  have t125_q3 : f125 q3 = zIA cy0 2820 (fun _ => 0) := (r125 q3 (by rw [g117.1]; simp) neq3).trans t117_q3
  refine x_aload_n hE (z := 0) (i := 0) (x := w) (by decide +kernel) rfl (by simp [lv_args, Value.category]) ?_
  refine x_sipush hE (i := 400) (v := 400) (by decide +kernel) (by decide +kernel) ?_
  refine n_row (atype := .int) (ty := .int) (t0 := 0) (x := (400, .inl (fun _ => 0))) (v := 400) (ci := 12) (j := 34) (kq := 215) (n0 := 400) hE hI g125 hw h125 rfl inZX12 tyX12_ok nmX12 (by decide) (by show 34 < 53; decide) rfl q1428 rfl rfl (fun C h => by cases h) q207 (fun _ => rfl) (fun _ => rfl) (by decide) rfl (Nat.le_of_ble_eq_true rfl) (Nat.le_of_ble_eq_true rfl) (Nat.le_of_ble_eq_true rfl) (by decide +kernel) (by decide +kernel) (fun K L => cok_I (okI_of rfl rfl (fun _ => rfl) (by decide) (by decide))) (fun q15 L133 K133 f133 g133 h133 r133 c133 => ?_)
  replace h133 : f133 w = .inr (12, [.ref q1, .ref q2, .ref q3, .ref q4, .int 0, .int (-1), .int (-1), .int 0, .int 0, .int 0, .int 0, .long 0, .int 0, .int 0, .int 0, .ref q5, .ref q6, .int 0, .int 0, .int 0, .int 0, .int 0, .ref q7, .int 0, .int (-1), .ref q8, .ref q9, .ref q10, .ref q11, .ref q12, .int 0, .int 0, .ref q13, .ref q14, .ref q15, .int 0, .int 0, .int 0, .int 0, .null, .int 0, .null, .null, .null, .null, .null, .null, .null, .null, .null, .null, .null, .null]) := h133
  replace g133 : GR cy0 B L K f w L133 [q1, q2, q3, q4, q5, q6, q7, q8, q9, q10, q11, q12, q13, q14, q15] [201, 202, 203, 204, 205, 206, 207, 208, 209, 210, 211, 212, 213, 214, 215] K133 f133 := g133
  have t133_q1 : f133 q1 = zIA cy0 17938 (fun _ => 0) := (r133 q1 (by rw [g125.1]; simp) neq1).trans t125_q1
  have t133_q2 : f133 q2 = zIA cy0 17938 (fun _ => 0) := (r133 q2 (by rw [g125.1]; simp) neq2).trans t125_q2
  have t133_q3 : f133 q3 = zIA cy0 2820 (fun _ => 0) := (r133 q3 (by rw [g125.1]; simp) neq3).trans t125_q3
  refine x_aload_n hE (z := 0) (i := 0) (x := w) (by decide +kernel) rfl (by simp [lv_args, Value.category]) ?_
  refine x_iconst hE (i := (-1)) (v := (-1)) (by decide +kernel) (by decide +kernel) ?_
  refine n_put (ci := 12) (j := 37) hE hI g133 hw h133 rfl inZX12 tyX12_ok nmX12 (by decide) (by show 37 < 53; decide) rfl q1431 rfl rfl (by decide +kernel) (fun f141 g141 h141 u141 => ?_)
  replace h141 : f141 w = .inr (12, [.ref q1, .ref q2, .ref q3, .ref q4, .int 0, .int (-1), .int (-1), .int 0, .int 0, .int 0, .int 0, .long 0, .int 0, .int 0, .int 0, .ref q5, .ref q6, .int 0, .int 0, .int 0, .int 0, .int 0, .ref q7, .int 0, .int (-1), .ref q8, .ref q9, .ref q10, .ref q11, .ref q12, .int 0, .int 0, .ref q13, .ref q14, .ref q15, .int 0, .int 0, .int (-1), .int 0, .null, .int 0, .null, .null, .null, .null, .null, .null, .null, .null, .null, .null, .null, .null]) := h141
  have t141_q1 : f141 q1 = zIA cy0 17938 (fun _ => 0) := (u141 q1 neq1).trans t133_q1
  have t141_q2 : f141 q2 = zIA cy0 17938 (fun _ => 0) := (u141 q2 neq2).trans t133_q2
  have t141_q3 : f141 q3 = zIA cy0 2820 (fun _ => 0) := (u141 q3 neq3).trans t133_q3
  refine x_aload_n hE (z := 0) (i := 0) (x := w) (by decide +kernel) rfl (by simp [lv_args, Value.category]) ?_
  refine x_bipush hE (i := 8) (v := 8) (by decide +kernel) (by decide +kernel) ?_
  refine n_row (atype := .int) (ty := .int) (t0 := 0) (x := (8, .inl (fun _ => 0))) (v := 8) (ci := 12) (j := 39) (kq := 216) (n0 := 8) hE hI g141 hw h141 rfl inZX12 tyX12_ok nmX12 (by decide) (by show 39 < 53; decide) rfl q1433 rfl rfl (fun C h => by cases h) q207 (fun _ => rfl) (fun _ => rfl) (by decide) rfl (Nat.le_of_ble_eq_true rfl) (Nat.le_of_ble_eq_true rfl) (Nat.le_of_ble_eq_true rfl) (by decide +kernel) (by decide +kernel) (fun K L => cok_I (okI_of rfl rfl (fun _ => rfl) (by decide) (by decide))) (fun q16 L148 K148 f148 g148 h148 r148 c148 => ?_)
  replace h148 : f148 w = .inr (12, [.ref q1, .ref q2, .ref q3, .ref q4, .int 0, .int (-1), .int (-1), .int 0, .int 0, .int 0, .int 0, .long 0, .int 0, .int 0, .int 0, .ref q5, .ref q6, .int 0, .int 0, .int 0, .int 0, .int 0, .ref q7, .int 0, .int (-1), .ref q8, .ref q9, .ref q10, .ref q11, .ref q12, .int 0, .int 0, .ref q13, .ref q14, .ref q15, .int 0, .int 0, .int (-1), .int 0, .ref q16, .int 0, .null, .null, .null, .null, .null, .null, .null, .null, .null, .null, .null, .null]) := h148
  replace g148 : GR cy0 B L K f w L148 [q1, q2, q3, q4, q5, q6, q7, q8, q9, q10, q11, q12, q13, q14, q15, q16] [201, 202, 203, 204, 205, 206, 207, 208, 209, 210, 211, 212, 213, 214, 215, 216] K148 f148 := g148
  have t148_q1 : f148 q1 = zIA cy0 17938 (fun _ => 0) := (r148 q1 (by rw [g141.1]; simp) neq1).trans t141_q1
  have t148_q2 : f148 q2 = zIA cy0 17938 (fun _ => 0) := (r148 q2 (by rw [g141.1]; simp) neq2).trans t141_q2
  have t148_q3 : f148 q3 = zIA cy0 2820 (fun _ => 0) := (r148 q3 (by rw [g141.1]; simp) neq3).trans t141_q3
  refine x_aload_n hE (z := 0) (i := 0) (x := w) (by decide +kernel) rfl (by simp [lv_args, Value.category]) ?_
  refine x_bipush hE (i := 114) (v := 114) (by decide +kernel) (by decide +kernel) ?_
  refine n_row (atype := .int) (ty := .int) (t0 := 0) (x := (114, .inl (fun _ => 0))) (v := 114) (ci := 12) (j := 41) (kq := 217) (n0 := 114) hE hI g148 hw h148 rfl inZX12 tyX12_ok nmX12 (by decide) (by show 41 < 53; decide) rfl q1435 rfl rfl (fun C h => by cases h) q207 (fun _ => rfl) (fun _ => rfl) (by decide) rfl (Nat.le_of_ble_eq_true rfl) (Nat.le_of_ble_eq_true rfl) (Nat.le_of_ble_eq_true rfl) (by decide +kernel) (by decide +kernel) (fun K L => cok_A (okA_m rfl rfl (fun _ => rfl)) hB) (fun q17 L156 K156 f156 g156 h156 r156 c156 => ?_)
  replace h156 : f156 w = .inr (12, [.ref q1, .ref q2, .ref q3, .ref q4, .int 0, .int (-1), .int (-1), .int 0, .int 0, .int 0, .int 0, .long 0, .int 0, .int 0, .int 0, .ref q5, .ref q6, .int 0, .int 0, .int 0, .int 0, .int 0, .ref q7, .int 0, .int (-1), .ref q8, .ref q9, .ref q10, .ref q11, .ref q12, .int 0, .int 0, .ref q13, .ref q14, .ref q15, .int 0, .int 0, .int (-1), .int 0, .ref q16, .int 0, .ref q17, .null, .null, .null, .null, .null, .null, .null, .null, .null, .null, .null]) := h156
  replace g156 : GR cy0 B L K f w L156 [q1, q2, q3, q4, q5, q6, q7, q8, q9, q10, q11, q12, q13, q14, q15, q16, q17] [201, 202, 203, 204, 205, 206, 207, 208, 209, 210, 211, 212, 213, 214, 215, 216, 217] K156 f156 := g156
  have t156_q1 : f156 q1 = zIA cy0 17938 (fun _ => 0) := (r156 q1 (by rw [g148.1]; simp) neq1).trans t148_q1
  have t156_q2 : f156 q2 = zIA cy0 17938 (fun _ => 0) := (r156 q2 (by rw [g148.1]; simp) neq2).trans t148_q2
  have t156_q3 : f156 q3 = zIA cy0 2820 (fun _ => 0) := (r156 q3 (by rw [g148.1]; simp) neq3).trans t148_q3
  refine x_aload_n hE (z := 0) (i := 0) (x := w) (by decide +kernel) rfl (by simp [lv_args, Value.category]) ?_
  refine x_iconst hE (i := 5) (v := 5) (by decide +kernel) (by decide +kernel) ?_
  refine n_row (atype := .int) (ty := .int) (t0 := 0) (x := (5, .inl (fun _ => 0))) (v := 5) (ci := 12) (j := 42) (kq := 218) (n0 := 5) hE hI g156 hw h156 rfl inZX12 tyX12_ok nmX12 (by decide) (by show 42 < 53; decide) rfl q1436 rfl rfl (fun C h => by cases h) q207 (fun _ => rfl) (fun _ => rfl) (by decide) rfl (Nat.le_of_ble_eq_true rfl) (Nat.le_of_ble_eq_true rfl) (Nat.le_of_ble_eq_true rfl) (by decide +kernel) (by decide +kernel) (fun K L => cok_I (okI_of rfl rfl (fun _ => rfl) (by decide) (by decide))) (fun q18 L164 K164 f164 g164 h164 r164 c164 => ?_)
  replace h164 : f164 w = .inr (12, [.ref q1, .ref q2, .ref q3, .ref q4, .int 0, .int (-1), .int (-1), .int 0, .int 0, .int 0, .int 0, .long 0, .int 0, .int 0, .int 0, .ref q5, .ref q6, .int 0, .int 0, .int 0, .int 0, .int 0, .ref q7, .int 0, .int (-1), .ref q8, .ref q9, .ref q10, .ref q11, .ref q12, .int 0, .int 0, .ref q13, .ref q14, .ref q15, .int 0, .int 0, .int (-1), .int 0, .ref q16, .int 0, .ref q17, .ref q18, .null, .null, .null, .null, .null, .null, .null, .null, .null, .null]) := h164
  replace g164 : GR cy0 B L K f w L164 [q1, q2, q3, q4, q5, q6, q7, q8, q9, q10, q11, q12, q13, q14, q15, q16, q17, q18] [201, 202, 203, 204, 205, 206, 207, 208, 209, 210, 211, 212, 213, 214, 215, 216, 217, 218] K164 f164 := g164
  have t164_q1 : f164 q1 = zIA cy0 17938 (fun _ => 0) := (r164 q1 (by rw [g156.1]; simp) neq1).trans t156_q1
  have t164_q2 : f164 q2 = zIA cy0 17938 (fun _ => 0) := (r164 q2 (by rw [g156.1]; simp) neq2).trans t156_q2
  have t164_q3 : f164 q3 = zIA cy0 2820 (fun _ => 0) := (r164 q3 (by rw [g156.1]; simp) neq3).trans t156_q3
  refine x_aload_n hE (z := 0) (i := 0) (x := w) (by decide +kernel) rfl (by simp [lv_args, Value.category]) ?_
  refine x_bipush hE (i := 8) (v := 8) (by decide +kernel) (by decide +kernel) ?_
  refine n_row (atype := .int) (ty := .int) (t0 := 0) (x := (8, .inl (fun _ => 0))) (v := 8) (ci := 12) (j := 43) (kq := 219) (n0 := 8) hE hI g164 hw h164 rfl inZX12 tyX12_ok nmX12 (by decide) (by show 43 < 53; decide) rfl q1437 rfl rfl (fun C h => by cases h) q207 (fun _ => rfl) (fun _ => rfl) (by decide) rfl (Nat.le_of_ble_eq_true rfl) (Nat.le_of_ble_eq_true rfl) (Nat.le_of_ble_eq_true rfl) (by decide +kernel) (by decide +kernel) (fun K L => cok_I (okI_of rfl rfl (fun _ => rfl) (by decide) (by decide))) (fun q19 L172 K172 f172 g172 h172 r172 c172 => ?_)
  replace h172 : f172 w = .inr (12, [.ref q1, .ref q2, .ref q3, .ref q4, .int 0, .int (-1), .int (-1), .int 0, .int 0, .int 0, .int 0, .long 0, .int 0, .int 0, .int 0, .ref q5, .ref q6, .int 0, .int 0, .int 0, .int 0, .int 0, .ref q7, .int 0, .int (-1), .ref q8, .ref q9, .ref q10, .ref q11, .ref q12, .int 0, .int 0, .ref q13, .ref q14, .ref q15, .int 0, .int 0, .int (-1), .int 0, .ref q16, .int 0, .ref q17, .ref q18, .ref q19, .null, .null, .null, .null, .null, .null, .null, .null, .null]) := h172
  replace g172 : GR cy0 B L K f w L172 [q1, q2, q3, q4, q5, q6, q7, q8, q9, q10, q11, q12, q13, q14, q15, q16, q17, q18, q19] [201, 202, 203, 204, 205, 206, 207, 208, 209, 210, 211, 212, 213, 214, 215, 216, 217, 218, 219] K172 f172 := g172
  have t172_q1 : f172 q1 = zIA cy0 17938 (fun _ => 0) := (r172 q1 (by rw [g164.1]; simp) neq1).trans t164_q1
  have t172_q2 : f172 q2 = zIA cy0 17938 (fun _ => 0) := (r172 q2 (by rw [g164.1]; simp) neq2).trans t164_q2
  have t172_q3 : f172 q3 = zIA cy0 2820 (fun _ => 0) := (r172 q3 (by rw [g164.1]; simp) neq3).trans t164_q3
  refine x_aload_n hE (z := 0) (i := 0) (x := w) (by decide +kernel) rfl (by simp [lv_args, Value.category]) ?_
  refine x_bipush hE (i := 6) (v := 6) (by decide +kernel) (by decide +kernel) ?_
  refine n_row (atype := .int) (ty := .int) (t0 := 0) (x := (6, .inl (fun _ => 0))) (v := 6) (ci := 12) (j := 44) (kq := 220) (n0 := 6) hE hI g172 hw h172 rfl inZX12 tyX12_ok nmX12 (by decide) (by show 44 < 53; decide) rfl q1438 rfl rfl (fun C h => by cases h) q207 (fun _ => rfl) (fun _ => rfl) (by decide) rfl (Nat.le_of_ble_eq_true rfl) (Nat.le_of_ble_eq_true rfl) (Nat.le_of_ble_eq_true rfl) (by decide +kernel) (by decide +kernel) (fun K L => cok_I (okI_of rfl rfl (fun _ => rfl) (by decide) (by decide))) (fun q20 L180 K180 f180 g180 h180 r180 c180 => ?_)
  replace h180 : f180 w = .inr (12, [.ref q1, .ref q2, .ref q3, .ref q4, .int 0, .int (-1), .int (-1), .int 0, .int 0, .int 0, .int 0, .long 0, .int 0, .int 0, .int 0, .ref q5, .ref q6, .int 0, .int 0, .int 0, .int 0, .int 0, .ref q7, .int 0, .int (-1), .ref q8, .ref q9, .ref q10, .ref q11, .ref q12, .int 0, .int 0, .ref q13, .ref q14, .ref q15, .int 0, .int 0, .int (-1), .int 0, .ref q16, .int 0, .ref q17, .ref q18, .ref q19, .ref q20, .null, .null, .null, .null, .null, .null, .null, .null]) := h180
  replace g180 : GR cy0 B L K f w L180 [q1, q2, q3, q4, q5, q6, q7, q8, q9, q10, q11, q12, q13, q14, q15, q16, q17, q18, q19, q20] [201, 202, 203, 204, 205, 206, 207, 208, 209, 210, 211, 212, 213, 214, 215, 216, 217, 218, 219, 220] K180 f180 := g180
  have t180_q1 : f180 q1 = zIA cy0 17938 (fun _ => 0) := (r180 q1 (by rw [g172.1]; simp) neq1).trans t172_q1
  have t180_q2 : f180 q2 = zIA cy0 17938 (fun _ => 0) := (r180 q2 (by rw [g172.1]; simp) neq2).trans t172_q2
  have t180_q3 : f180 q3 = zIA cy0 2820 (fun _ => 0) := (r180 q3 (by rw [g172.1]; simp) neq3).trans t172_q3
  refine x_aload_n hE (z := 0) (i := 0) (x := w) (by decide +kernel) rfl (by simp [lv_args, Value.category]) ?_
  refine x_bipush hE (i := 36) (v := 36) (by decide +kernel) (by decide +kernel) ?_
  refine n_row (atype := .int) (ty := .int) (t0 := 0) (x := (36, .inl (fun _ => 0))) (v := 36) (ci := 12) (j := 45) (kq := 221) (n0 := 36) hE hI g180 hw h180 rfl inZX12 tyX12_ok nmX12 (by decide) (by show 45 < 53; decide) rfl q1439 rfl rfl (fun C h => by cases h) q207 (fun _ => rfl) (fun _ => rfl) (by decide) rfl (Nat.le_of_ble_eq_true rfl) (Nat.le_of_ble_eq_true rfl) (Nat.le_of_ble_eq_true rfl) (by decide +kernel) (by decide +kernel) (fun K L => cok_I (okI_of rfl rfl (fun _ => rfl) (by decide) (by decide))) (fun q21 L188 K188 f188 g188 h188 r188 c188 => ?_)
  replace h188 : f188 w = .inr (12, [.ref q1, .ref q2, .ref q3, .ref q4, .int 0, .int (-1), .int (-1), .int 0, .int 0, .int 0, .int 0, .long 0, .int 0, .int 0, .int 0, .ref q5, .ref q6, .int 0, .int 0, .int 0, .int 0, .int 0, .ref q7, .int 0, .int (-1), .ref q8, .ref q9, .ref q10, .ref q11, .ref q12, .int 0, .int 0, .ref q13, .ref q14, .ref q15, .int 0, .int 0, .int (-1), .int 0, .ref q16, .int 0, .ref q17, .ref q18, .ref q19, .ref q20, .ref q21, .null, .null, .null, .null, .null, .null, .null]) := h188
  replace g188 : GR cy0 B L K f w L188 [q1, q2, q3, q4, q5, q6, q7, q8, q9, q10, q11, q12, q13, q14, q15, q16, q17, q18, q19, q20, q21] [201, 202, 203, 204, 205, 206, 207, 208, 209, 210, 211, 212, 213, 214, 215, 216, 217, 218, 219, 220, 221] K188 f188 := g188
  have t188_q1 : f188 q1 = zIA cy0 17938 (fun _ => 0) := (r188 q1 (by rw [g180.1]; simp) neq1).trans t180_q1
  have t188_q2 : f188 q2 = zIA cy0 17938 (fun _ => 0) := (r188 q2 (by rw [g180.1]; simp) neq2).trans t180_q2
  have t188_q3 : f188 q3 = zIA cy0 2820 (fun _ => 0) := (r188 q3 (by rw [g180.1]; simp) neq3).trans t180_q3
  refine x_aload_n hE (z := 0) (i := 0) (x := w) (by decide +kernel) rfl (by simp [lv_args, Value.category]) ?_
  refine x_bipush hE (i := 6) (v := 6) (by decide +kernel) (by decide +kernel) ?_
  refine n_row (atype := .int) (ty := .int) (t0 := 0) (x := (6, .inl (fun _ => 0))) (v := 6) (ci := 12) (j := 46) (kq := 222) (n0 := 6) hE hI g188 hw h188 rfl inZX12 tyX12_ok nmX12 (by decide) (by show 46 < 53; decide) rfl q1440 rfl rfl (fun C h => by cases h) q207 (fun _ => rfl) (fun _ => rfl) (by decide) rfl (Nat.le_of_ble_eq_true rfl) (Nat.le_of_ble_eq_true rfl) (Nat.le_of_ble_eq_true rfl) (by decide +kernel) (by decide +kernel) (fun K L => cok_I (okI_of rfl rfl (fun _ => rfl) (by decide) (by decide))) (fun q22 L196 K196 f196 g196 h196 r196 c196 => ?_)
  replace h196 : f196 w = .inr (12, [.ref q1, .ref q2, .ref q3, .ref q4, .int 0, .int (-1), .int (-1), .int 0, .int 0, .int 0, .int 0, .long 0, .int 0, .int 0, .int 0, .ref q5, .ref q6, .int 0, .int 0, .int 0, .int 0, .int 0, .ref q7, .int 0, .int (-1), .ref q8, .ref q9, .ref q10, .ref q11, .ref q12, .int 0, .int 0, .ref q13, .ref q14, .ref q15, .int 0, .int 0, .int (-1), .int 0, .ref q16, .int 0, .ref q17, .ref q18, .ref q19, .ref q20, .ref q21, .ref q22, .null, .null, .null, .null, .null, .null]) := h196
  replace g196 : GR cy0 B L K f w L196 [q1, q2, q3, q4, q5, q6, q7, q8, q9, q10, q11, q12, q13, q14, q15, q16, q17, q18, q19, q20, q21, q22] [201, 202, 203, 204, 205, 206, 207, 208, 209, 210, 211, 212, 213, 214, 215, 216, 217, 218, 219, 220, 221, 222] K196 f196 := g196
  have t196_q1 : f196 q1 = zIA cy0 17938 (fun _ => 0) := (r196 q1 (by rw [g188.1]; simp) neq1).trans t188_q1
  have t196_q2 : f196 q2 = zIA cy0 17938 (fun _ => 0) := (r196 q2 (by rw [g188.1]; simp) neq2).trans t188_q2
  have t196_q3 : f196 q3 = zIA cy0 2820 (fun _ => 0) := (r196 q3 (by rw [g188.1]; simp) neq3).trans t188_q3
  refine x_aload_n hE (z := 0) (i := 0) (x := w) (by decide +kernel) rfl (by simp [lv_args, Value.category]) ?_
  refine x_bipush hE (i := 6) (v := 6) (by decide +kernel) (by decide +kernel) ?_
  refine n_row (atype := .int) (ty := .int) (t0 := 0) (x := (6, .inl (fun _ => 0))) (v := 6) (ci := 12) (j := 47) (kq := 223) (n0 := 6) hE hI g196 hw h196 rfl inZX12 tyX12_ok nmX12 (by decide) (by show 47 < 53; decide) rfl q1441 rfl rfl (fun C h => by cases h) q207 (fun _ => rfl) (fun _ => rfl) (by decide) rfl (Nat.le_of_ble_eq_true rfl) (Nat.le_of_ble_eq_true rfl) (Nat.le_of_ble_eq_true rfl) (by decide +kernel) (by decide +kernel) (fun K L => cok_I (okI_of rfl rfl (fun _ => rfl) (by decide) (by decide))) (fun q23 L204 K204 f204 g204 h204 r204 c204 => ?_)
  replace h204 : f204 w = .inr (12, [.ref q1, .ref q2, .ref q3, .ref q4, .int 0, .int (-1), .int (-1), .int 0, .int 0, .int 0, .int 0, .long 0, .int 0, .int 0, .int 0, .ref q5, .ref q6, .int 0, .int 0, .int 0, .int 0, .int 0, .ref q7, .int 0, .int (-1), .ref q8, .ref q9, .ref q10, .ref q11, .ref q12, .int 0, .int 0, .ref q13, .ref q14, .ref q15, .int 0, .int 0, .int (-1), .int 0, .ref q16, .int 0, .ref q17, .ref q18, .ref q19, .ref q20, .ref q21, .ref q22, .ref q23, .null, .null, .null, .null, .null]) := h204
  replace g204 : GR cy0 B L K f w L204 [q1, q2, q3, q4, q5, q6, q7, q8, q9, q10, q11, q12, q13, q14, q15, q16, q17, q18, q19, q20, q21, q22, q23] [201, 202, 203, 204, 205, 206, 207, 208, 209, 210, 211, 212, 213, 214, 215, 216, 217, 218, 219, 220, 221, 222, 223] K204 f204 := g204
  have t204_q1 : f204 q1 = zIA cy0 17938 (fun _ => 0) := (r204 q1 (by rw [g196.1]; simp) neq1).trans t196_q1
  have t204_q2 : f204 q2 = zIA cy0 17938 (fun _ => 0) := (r204 q2 (by rw [g196.1]; simp) neq2).trans t196_q2
  have t204_q3 : f204 q3 = zIA cy0 2820 (fun _ => 0) := (r204 q3 (by rw [g196.1]; simp) neq3).trans t196_q3
  refine x_aload_n hE (z := 0) (i := 0) (x := w) (by decide +kernel) rfl (by simp [lv_args, Value.category]) ?_
  refine x_bipush hE (i := 8) (v := 8) (by decide +kernel) (by decide +kernel) ?_
  refine n_row (atype := .int) (ty := .int) (t0 := 0) (x := (8, .inl (fun _ => 0))) (v := 8) (ci := 12) (j := 48) (kq := 224) (n0 := 8) hE hI g204 hw h204 rfl inZX12 tyX12_ok nmX12 (by decide) (by show 48 < 53; decide) rfl q1442 rfl rfl (fun C h => by cases h) q207 (fun _ => rfl) (fun _ => rfl) (by decide) rfl (Nat.le_of_ble_eq_true rfl) (Nat.le_of_ble_eq_true rfl) (Nat.le_of_ble_eq_true rfl) (by decide +kernel) (by decide +kernel) (fun K L => cok_I (okI_of rfl rfl (fun _ => rfl) (by decide) (by decide))) (fun q24 L212 K212 f212 g212 h212 r212 c212 => ?_)
  replace h212 : f212 w = .inr (12, [.ref q1, .ref q2, .ref q3, .ref q4, .int 0, .int (-1), .int (-1), .int 0, .int 0, .int 0, .int 0, .long 0, .int 0, .int 0, .int 0, .ref q5, .ref q6, .int 0, .int 0, .int 0, .int 0, .int 0, .ref q7, .int 0, .int (-1), .ref q8, .ref q9, .ref q10, .ref q11, .ref q12, .int 0, .int 0, .ref q13, .ref q14, .ref q15, .int 0, .int 0, .int (-1), .int 0, .ref q16, .int 0, .ref q17, .ref q18, .ref q19, .ref q20, .ref q21, .ref q22, .ref q23, .ref q24, .null, .null, .null, .null]) := h212
  replace g212 : GR cy0 B L K f w L212 [q1, q2, q3, q4, q5, q6, q7, q8, q9, q10, q11, q12, q13, q14, q15, q16, q17, q18, q19, q20, q21, q22, q23, q24] [201, 202, 203, 204, 205, 206, 207, 208, 209, 210, 211, 212, 213, 214, 215, 216, 217, 218, 219, 220, 221, 222, 223, 224] K212 f212 := g212
  have t212_q1 : f212 q1 = zIA cy0 17938 (fun _ => 0) := (r212 q1 (by rw [g204.1]; simp) neq1).trans t204_q1
  have t212_q2 : f212 q2 = zIA cy0 17938 (fun _ => 0) := (r212 q2 (by rw [g204.1]; simp) neq2).trans t204_q2
  have t212_q3 : f212 q3 = zIA cy0 2820 (fun _ => 0) := (r212 q3 (by rw [g204.1]; simp) neq3).trans t204_q3
  refine x_aload_n hE (z := 0) (i := 0) (x := w) (by decide +kernel) rfl (by simp [lv_args, Value.category]) ?_
  refine x_bipush hE (i := 8) (v := 8) (by decide +kernel) (by decide +kernel) ?_
  refine n_row (atype := .int) (ty := .int) (t0 := 0) (x := (8, .inl (fun _ => 0))) (v := 8) (ci := 12) (j := 49) (kq := 225) (n0 := 8) hE hI g212 hw h212 rfl inZX12 tyX12_ok nmX12 (by decide) (by show 49 < 53; decide) rfl q1443 rfl rfl (fun C h => by cases h) q207 (fun _ => rfl) (fun _ => rfl) (by decide) rfl (Nat.le_of_ble_eq_true rfl) (Nat.le_of_ble_eq_true rfl) (Nat.le_of_ble_eq_true rfl) (by decide +kernel) (by decide +kernel) (fun K L => cok_I (okI_of rfl rfl (fun _ => rfl) (by decide) (by decide))) (fun q25 L220 K220 f220 g220 h220 r220 c220 => ?_)
  replace h220 : f220 w = .inr (12, [.ref q1, .ref q2, .ref q3, .ref q4, .int 0, .int (-1), .int (-1), .int 0, .int 0, .int 0, .int 0, .long 0, .int 0, .int 0, .int 0, .ref q5, .ref q6, .int 0, .int 0, .int 0, .int 0, .int 0, .ref q7, .int 0, .int (-1), .ref q8, .ref q9, .ref q10, .ref q11, .ref q12, .int 0, .int 0, .ref q13, .ref q14, .ref q15, .int 0, .int 0, .int (-1), .int 0, .ref q16, .int 0, .ref q17, .ref q18, .ref q19, .ref q20, .ref q21, .ref q22, .ref q23, .ref q24, .ref q25, .null, .null, .null]) := h220
  replace g220 : GR cy0 B L K f w L220 [q1, q2, q3, q4, q5, q6, q7, q8, q9, q10, q11, q12, q13, q14, q15, q16, q17, q18, q19, q20, q21, q22, q23, q24, q25] [201, 202, 203, 204, 205, 206, 207, 208, 209, 210, 211, 212, 213, 214, 215, 216, 217, 218, 219, 220, 221, 222, 223, 224, 225] K220 f220 := g220
  have t220_q1 : f220 q1 = zIA cy0 17938 (fun _ => 0) := (r220 q1 (by rw [g212.1]; simp) neq1).trans t212_q1
  have t220_q2 : f220 q2 = zIA cy0 17938 (fun _ => 0) := (r220 q2 (by rw [g212.1]; simp) neq2).trans t212_q2
  have t220_q3 : f220 q3 = zIA cy0 2820 (fun _ => 0) := (r220 q3 (by rw [g212.1]; simp) neq3).trans t212_q3
  refine x_aload_n hE (z := 0) (i := 0) (x := w) (by decide +kernel) rfl (by simp [lv_args, Value.category]) ?_
  refine x_bipush hE (i := 6) (v := 6) (by decide +kernel) (by decide +kernel) ?_
  refine n_row (atype := .int) (ty := .int) (t0 := 0) (x := (6, .inl (fun _ => 0))) (v := 6) (ci := 12) (j := 50) (kq := 226) (n0 := 6) hE hI g220 hw h220 rfl inZX12 tyX12_ok nmX12 (by decide) (by show 50 < 53; decide) rfl q1444 rfl rfl (fun C h => by cases h) q207 (fun _ => rfl) (fun _ => rfl) (by decide) rfl (Nat.le_of_ble_eq_true rfl) (Nat.le_of_ble_eq_true rfl) (Nat.le_of_ble_eq_true rfl) (by decide +kernel) (by decide +kernel) (fun K L => cok_I (okI_of rfl rfl (fun _ => rfl) (by decide) (by decide))) (fun q26 L228 K228 f228 g228 h228 r228 c228 => ?_)
  replace h228 : f228 w = .inr (12, [.ref q1, .ref q2, .ref q3, .ref q4, .int 0, .int (-1), .int (-1), .int 0, .int 0, .int 0, .int 0, .long 0, .int 0, .int 0, .int 0, .ref q5, .ref q6, .int 0, .int 0, .int 0, .int 0, .int 0, .ref q7, .int 0, .int (-1), .ref q8, .ref q9, .ref q10, .ref q11, .ref q12, .int 0, .int 0, .ref q13, .ref q14, .ref q15, .int 0, .int 0, .int (-1), .int 0, .ref q16, .int 0, .ref q17, .ref q18, .ref q19, .ref q20, .ref q21, .ref q22, .ref q23, .ref q24, .ref q25, .ref q26, .null, .null]) := h228
  replace g228 : GR cy0 B L K f w L228 [q1, q2, q3, q4, q5, q6, q7, q8, q9, q10, q11, q12, q13, q14, q15, q16, q17, q18, q19, q20, q21, q22, q23, q24, q25, q26] [201, 202, 203, 204, 205, 206, 207, 208, 209, 210, 211, 212, 213, 214, 215, 216, 217, 218, 219, 220, 221, 222, 223, 224, 225, 226] K228 f228 := g228
  have t228_q1 : f228 q1 = zIA cy0 17938 (fun _ => 0) := (r228 q1 (by rw [g220.1]; simp) neq1).trans t220_q1
  have t228_q2 : f228 q2 = zIA cy0 17938 (fun _ => 0) := (r228 q2 (by rw [g220.1]; simp) neq2).trans t220_q2
  have t228_q3 : f228 q3 = zIA cy0 2820 (fun _ => 0) := (r228 q3 (by rw [g220.1]; simp) neq3).trans t220_q3
  refine x_aload_n hE (z := 0) (i := 0) (x := w) (by decide +kernel) rfl (by simp [lv_args, Value.category]) ?_
  refine x_bipush hE (i := 17) (v := 17) (by decide +kernel) (by decide +kernel) ?_
  refine n_row (atype := .long) (ty := .long) (t0 := 1) (x := (17, .inr (.inl (fun _ => 0)))) (v := 17) (ci := 12) (j := 51) (kq := 227) (n0 := 17) hE hI g228 hw h228 rfl inZX12 tyX12_ok nmX12 (by decide) (by show 51 < 53; decide) rfl q1445 rfl rfl (fun C h => by cases h) q1295 (fun _ => rfl) (fun _ => rfl) (by decide) rfl (Nat.le_of_ble_eq_true rfl) (Nat.le_of_ble_eq_true rfl) (Nat.le_of_ble_eq_true rfl) (by decide +kernel) (by decide +kernel) (fun K L => cok_J rfl rfl) (fun q27 L236 K236 f236 g236 h236 r236 c236 => ?_)
  replace h236 : f236 w = .inr (12, [.ref q1, .ref q2, .ref q3, .ref q4, .int 0, .int (-1), .int (-1), .int 0, .int 0, .int 0, .int 0, .long 0, .int 0, .int 0, .int 0, .ref q5, .ref q6, .int 0, .int 0, .int 0, .int 0, .int 0, .ref q7, .int 0, .int (-1), .ref q8, .ref q9, .ref q10, .ref q11, .ref q12, .int 0, .int 0, .ref q13, .ref q14, .ref q15, .int 0, .int 0, .int (-1), .int 0, .ref q16, .int 0, .ref q17, .ref q18, .ref q19, .ref q20, .ref q21, .ref q22, .ref q23, .ref q24, .ref q25, .ref q26, .ref q27, .null]) := h236
  replace g236 : GR cy0 B L K f w L236 [q1, q2, q3, q4, q5, q6, q7, q8, q9, q10, q11, q12, q13, q14, q15, q16, q17, q18, q19, q20, q21, q22, q23, q24, q25, q26, q27] [201, 202, 203, 204, 205, 206, 207, 208, 209, 210, 211, 212, 213, 214, 215, 216, 217, 218, 219, 220, 221, 222, 223, 224, 225, 226, 227] K236 f236 := g236
  have t236_q1 : f236 q1 = zIA cy0 17938 (fun _ => 0) := (r236 q1 (by rw [g228.1]; simp) neq1).trans t228_q1
  have t236_q2 : f236 q2 = zIA cy0 17938 (fun _ => 0) := (r236 q2 (by rw [g228.1]; simp) neq2).trans t228_q2
  have t236_q3 : f236 q3 = zIA cy0 2820 (fun _ => 0) := (r236 q3 (by rw [g228.1]; simp) neq3).trans t228_q3
  refine x_aload_n hE (z := 0) (i := 0) (x := w) (by decide +kernel) rfl (by simp [lv_args, Value.category]) ?_
  refine x_bipush hE (i := 6) (v := 6) (by decide +kernel) (by decide +kernel) ?_
  refine n_row (atype := .int) (ty := .int) (t0 := 0) (x := (6, .inl (fun _ => 0))) (v := 6) (ci := 12) (j := 52) (kq := 228) (n0 := 6) hE hI g236 hw h236 rfl inZX12 tyX12_ok nmX12 (by decide) (by show 52 < 53; decide) rfl q1446 rfl rfl (fun C h => by cases h) q207 (fun _ => rfl) (fun _ => rfl) (by decide) rfl (Nat.le_of_ble_eq_true rfl) (Nat.le_of_ble_eq_true rfl) (Nat.le_of_ble_eq_true rfl) (by decide +kernel) (by decide +kernel) (fun K L => cok_I (okI_of rfl rfl (fun _ => rfl) (by decide) (by decide))) (fun q28 L244 K244 f244 g244 h244 r244 c244 => ?_)
  replace h244 : f244 w = .inr (12, [.ref q1, .ref q2, .ref q3, .ref q4, .int 0, .int (-1), .int (-1), .int 0, .int 0, .int 0, .int 0, .long 0, .int 0, .int 0, .int 0, .ref q5, .ref q6, .int 0, .int 0, .int 0, .int 0, .int 0, .ref q7, .int 0, .int (-1), .ref q8, .ref q9, .ref q10, .ref q11, .ref q12, .int 0, .int 0, .ref q13, .ref q14, .ref q15, .int 0, .int 0, .int (-1), .int 0, .ref q16, .int 0, .ref q17, .ref q18, .ref q19, .ref q20, .ref q21, .ref q22, .ref q23, .ref q24, .ref q25, .ref q26, .ref q27, .ref q28]) := h244
  replace g244 : GR cy0 B L K f w L244 [q1, q2, q3, q4, q5, q6, q7, q8, q9, q10, q11, q12, q13, q14, q15, q16, q17, q18, q19, q20, q21, q22, q23, q24, q25, q26, q27, q28] [201, 202, 203, 204, 205, 206, 207, 208, 209, 210, 211, 212, 213, 214, 215, 216, 217, 218, 219, 220, 221, 222, 223, 224, 225, 226, 227, 228] K244 f244 := g244
  have t244_q1 : f244 q1 = zIA cy0 17938 (fun _ => 0) := (r244 q1 (by rw [g236.1]; simp) neq1).trans t236_q1
  have t244_q2 : f244 q2 = zIA cy0 17938 (fun _ => 0) := (r244 q2 (by rw [g236.1]; simp) neq2).trans t236_q2
  have t244_q3 : f244 q3 = zIA cy0 2820 (fun _ => 0) := (r244 q3 (by rw [g236.1]; simp) neq3).trans t236_q3
  have hS := g244.2.1
  simp only [List.map_cons, List.map_nil, List.cons.injEq, and_true] at hS
  obtain ⟨e1, e2, e3, e4, e5, e6, e7, e8, e9, e10, e11, e12, e13, e14, e15, e16, e17, e18, e19, e20, e21, e22, e23, e24, e25, e26, e27, e28⟩ := hS
  have mem : ∀ q, q ∈ [q1, q2, q3, q4, q5, q6, q7, q8, q9, q10, q11, q12, q13, q14, q15, q16, q17, q18, q19, q20, q21, q22, q23, q24, q25, q26, q27, q28] → q ∈ L244 := fun q hq => by
    rw [g244.1]
    exact List.mem_append_right _ hq
  have hwL : w ∈ L244 := g244.sub hw
  have m1 := mem q1 (by simp)
  have m2 := mem q2 (by simp)
  have m3 := mem q3 (by simp)
  have n12 : q1 ≠ q2 := fun e => by rw [e, e2] at e1; exact absurd e1 (by decide)
  have n13 : q1 ≠ q3 := fun e => by rw [e, e3] at e1; exact absurd e1 (by decide)
  have n23 : q2 ≠ q3 := fun e => by rw [e, e3] at e2; exact absurd e2 (by decide)
  have qA : ∀ (b k : Nat) (ga : Nat → Int32), (k = 201 ∨ k = 202) → (∀ i, i < 17938 → bok B (kbd 201 i) (ga i).toInt) → cok cy0 K244 B L244 k (zIA cy0 17938 ga) := fun b k ga hk hb => by
    rcases hk with rfl | rfl
    · exact ⟨ga, rfl, hb⟩
    · exact ⟨ga, rfl, hb⟩
  have kf : ∀ i, 14 ≤ i → (i < 58 ∨ 1746 ≤ i) → ∀ x : Int32, bok B (kbd 201 i) x.toInt := fun i h1 h2 x => by
    have e : kbd 201 i = (-2147483648, 2147483647, false) := by
      show mbd i = _
      unfold mbd
      rw [if_neg (by omega)]
      rcases h2 with h2 | h2
      · rw [if_pos h2]
      · rw [if_neg (by omega), if_neg (by omega), if_neg (by omega), if_pos (by simp; omega)]
    rw [e]
    have h3 := Int32.le_toInt x
    have h4 := Int32.toInt_lt x
    exact ⟨h3, (by show x.toInt ≤ (2147483647 : Int); omega), fun h => by cases h⟩
  -- what lies in the row
  have PA0 : ∀ i, i < 17938 → bok B (kbd 201 i) ((fun _ => (0 : Int32)) i).toInt := fun i _ => ⟨(mbd_0 i).1, (mbd_0 i).2, fun _ => hB⟩
  have PAu : ∀ (ga : Nat → Int32) (k : Nat) (x : Int32), (∀ i, i < 17938 → bok B (kbd 201 i) (ga i).toInt) → bok B (kbd 201 k) x.toInt → ∀ i, i < 17938 → bok B (kbd 201 i) (upd ga k x i).toInt := fun ga k x h1 h2 i hi => by
    by_cases hik : i = k
    · rw [hik, up_same]
      exact h2
    · rw [up_oth _ _ hik]
      exact h1 i hi
  refine x_aload_n hE (z := 0) (i := 0) (x := w) (by decide +kernel) rfl (by simp [lv_args, Value.category]) ?_
  refine r_get (v := .ref q1) hE fX12_ok (List.mem_of_getElem? (i := 0) rfl) hwL h244 rfl (by decide +kernel) ?_
  refine x_bipush hE (i := 6) (v := Int32.ofInt ((6 : Nat) : Int)) (by decide +kernel) (by decide +kernel) ?_
  refine x_bipush hE (i := 37) (v := 37) (by decide +kernel) (by decide +kernel) ?_
  refine h_iast hE m1 t244_q1 (by rw [vp_in_iff]; decide) (by decide +kernel) ?_
  have et6 : (Int32.ofInt ((6 : Nat) : Int)).toNatClampNeg = 6 := by decide +kernel
  rw [et6]
  have b6 : bok B (kbd 201 6) (37 : Int32).toInt := ⟨by decide, by decide, fun h => by cases h⟩
  have gA := g244.upd2 (f' := va_up f244 q1 (zIA cy0 17938 (upd (fun _ => 0) 6 37))) (q := q1) (by simp) (fun b hb => va_up_ne _ _ hb) (by rw [va_up_self, e1]; exact qA q1 201 _ (Or.inl rfl) (PAu _ 6 37 PA0 b6))
  refine x_aload_n hE (z := 0) (i := 0) (x := w) (by decide +kernel) rfl (by simp [lv_args, Value.category]) ?_
  refine r_get (v := .ref q1) hE fX12_ok (List.mem_of_getElem? (i := 0) rfl) hwL ((va_up_ne _ _ (Ne.symm neq1)).trans h244) rfl (by decide +kernel) ?_
  refine x_bipush hE (i := 8) (v := Int32.ofInt ((8 : Nat) : Int)) (by decide +kernel) (by decide +kernel) ?_
  refine x_iconst hE (i := (-1)) (v := (-1)) (by decide +kernel) rfl ?_
  refine h_iast hE m1 (va_up_self _ _ _) (by rw [vp_in_iff]; decide) (by decide +kernel) ?_
  have et8 : (Int32.ofInt ((8 : Nat) : Int)).toNatClampNeg = 8 := by decide +kernel
  rw [et8]
  have b8 : bok B (kbd 201 8) (-1 : Int32).toInt := ⟨by decide, by decide, fun h => by cases h⟩
  have P8 := PAu _ 8 (-1) (PAu _ 6 37 PA0 b6) b8
  have gB := gA.upd2 (f' := va_up (va_up f244 q1 (zIA cy0 17938 (upd (fun _ => 0) 6 37))) q1 (zIA cy0 17938 (upd (upd (fun _ => 0) 6 37) 8 (-1)))) (q := q1) (by simp) (fun b hb => va_up_ne _ _ hb) (by rw [va_up_self, e1]; exact qA q1 201 _ (Or.inl rfl) P8)
  have hB1 : ∀ b, b ≠ q1 → va_up (va_up f244 q1 (zIA cy0 17938 (upd (fun _ => 0) 6 37))) q1 (zIA cy0 17938 (upd (upd (fun _ => 0) 6 37) 8 (-1))) b = f244 b := fun b hb => by rw [va_up_ne _ _ hb, va_up_ne _ _ hb]
  have hB2 : va_up (va_up f244 q1 (zIA cy0 17938 (upd (fun _ => 0) 6 37))) q1 (zIA cy0 17938 (upd (upd (fun _ => 0) 6 37) 8 (-1))) q1 = zIA cy0 17938 (upd (upd (fun _ => 0) 6 37) 8 (-1)) := va_up_self _ _ _
  have hB3 : ∀ i, (i ≤ 5 ∨ i = 7 ∨ (9 ≤ i ∧ i < 9938)) → upd (upd (fun _ => (0 : Int32)) 6 37) 8 (-1) i = 0 := fun i hi => by rw [up_oth _ _ (by omega), up_oth _ _ (by omega)]
  generalize va_up (va_up f244 q1 (zIA cy0 17938 (upd (fun _ => 0) 6 37))) q1 (zIA cy0 17938 (upd (upd (fun _ => 0) 6 37) 8 (-1))) = fB at gB hB1 hB2 ⊢
  generalize upd (upd (fun _ => (0 : Int32)) 6 37) 8 (-1) = gb at P8 hB2 hB3
  have go : ∀ (N k : Nat), k + N = 17938 → 9938 ≤ k → ∀ (f1 : Nat → va_E) (ga : Nat → Int32), GR cy0 B L K f w L244 [q1, q2, q3, q4, q5, q6, q7, q8, q9, q10, q11, q12, q13, q14, q15, q16, q17, q18, q19, q20, q21, q22, q23, q24, q25, q26, q27, q28] [201, 202, 203, 204, 205, 206, 207, 208, 209, 210, 211, 212, 213, 214, 215, 216, 217, 218, 219, 220, 221, 222, 223, 224, 225, 226, 227, 228] K244 f1 → (∀ b, b ≠ q1 → f1 b = f244 b) → f1 q1 = zIA cy0 17938 ga → (∀ i, i < 17938 → bok B (kbd 201 i) (ga i).toInt) → (∀ i, (i ≤ 5 ∨ i = 7 ∨ (9 ≤ i ∧ i < 9938)) → ga i = 0) → eW E 28 40911 L244 f1 277 [(0, .ref w), (1, .int (Int32.ofInt (k : Int)))] [] := by
    intro N
    induction N with
    | zero =>
      intro k hk hk9 f1 ga y1 y2 y3 y4 y5
      have hk0 : k = 17938 := by omega
      subst hk0
      refine x_iload_n hE (z := 1) (i := 1) (x := Int32.ofInt ((17938 : Nat) : Int)) (by decide +kernel) rfl (by simp) ?_
      refine x_sipush hE (i := 17938) (v := 17938) (by decide +kernel) (by decide +kernel) ?_
      refine x_icmp_ge hE (off := 16) (tgt := 297) (by decide +kernel) rfl (fun _ => ?_) (fun hn => absurd (by decide) hn)
      have hw1 : f1 w = .inr (12, [.ref q1, .ref q2, .ref q3, .ref q4, .int 0, .int (-1), .int (-1), .int 0, .int 0, .int 0, .int 0, .long 0, .int 0, .int 0, .int 0, .ref q5, .ref q6, .int 0, .int 0, .int 0, .int 0, .int 0, .ref q7, .int 0, .int (-1), .ref q8, .ref q9, .ref q10, .ref q11, .ref q12, .int 0, .int 0, .ref q13, .ref q14, .ref q15, .int 0, .int 0, .int (-1), .int 0, .ref q16, .int 0, .ref q17, .ref q18, .ref q19, .ref q20, .ref q21, .ref q22, .ref q23, .ref q24, .ref q25, .ref q26, .ref q27, .ref q28]) := (y2 w (Ne.symm neq1)).trans h244
      refine x_aload_n hE (z := 0) (i := 0) (x := w) (by decide +kernel) rfl (by simp) ?_
      refine r_get (v := .ref q1) hE fX12_ok (List.mem_of_getElem? (i := 0) rfl) hwL hw1 rfl (by decide +kernel) ?_
      refine x_aload_n hE (z := 0) (i := 0) (x := w) (by decide +kernel) rfl (by simp) ?_
      refine r_get (v := .ref q2) hE fX12_ok (List.mem_of_getElem? (i := 1) rfl) hwL hw1 rfl (by decide +kernel) ?_
      have hC := n_copy (X0 := (l0, D0, cy0, ax0)) m1 m2 n12 y3 ((y2 q2 (Ne.symm n12)).trans t244_q2)
      refine c_all hE (r_S (st := []) hE hC q1391 q1392 q124 q1393 ⟨by decide +kernel, by decide +kernel, pd_copy⟩ ⟨by decide, by decide⟩ ⟨Nat.le_of_ble_eq_true rfl, Nat.le_of_ble_eq_true rfl⟩ rfl (by decide) (by decide +kernel)) (fun r L9 f9 ht hp => ?_)
      obtain rfl : r = none := ht
      obtain ⟨z1, z2, gc, z3, z4⟩ := hp
      dsimp only at z1 z2 z3
      replace z1 := z1.symm
      subst z1
      have y9 := y1.upd2 (f' := f9) (q := q2) (by simp) (fun b hb => z2 b hb) (by rw [z3, e2]; exact qA q2 202 _ (Or.inr rfl) (fun i hi => by rw [z4 i hi]; exact y4 i hi))
      have hw9 : f9 w = .inr (12, [.ref q1, .ref q2, .ref q3, .ref q4, .int 0, .int (-1), .int (-1), .int 0, .int 0, .int 0, .int 0, .long 0, .int 0, .int 0, .int 0, .ref q5, .ref q6, .int 0, .int 0, .int 0, .int 0, .int 0, .ref q7, .int 0, .int (-1), .ref q8, .ref q9, .ref q10, .ref q11, .ref q12, .int 0, .int 0, .ref q13, .ref q14, .ref q15, .int 0, .int 0, .int (-1), .int 0, .ref q16, .int 0, .ref q17, .ref q18, .ref q19, .ref q20, .ref q21, .ref q22, .ref q23, .ref q24, .ref q25, .ref q26, .ref q27, .ref q28]) := (z2 w (Ne.symm neq2)).trans hw1
      have hck : cok cy0 K244 B L244 200 (f9 w) := by
        rw [hw9]
        exact cok_O rfl ⟨fk2 (k := 201) ⟨mem q1 (by simp), e1⟩, fk2 (k := 202) ⟨mem q2 (by simp), e2⟩, fk2 (k := 203) ⟨mem q3 (by simp), e3⟩, fk2 (k := 204) ⟨mem q4 (by simp), e4⟩, fk0 (by decide), fk0 (by decide), fk0 (by decide), fk0 (by decide), fk0 (by decide), fk0 (by decide), fk0 (by decide), fk1, fk0 (by decide), fk0 (by decide), fk0 (by decide), fk2 (k := 205) ⟨mem q5 (by simp), e5⟩, fk2 (k := 206) ⟨mem q6 (by simp), e6⟩, fk0 (by decide), fk0 (by decide), fk0 (by decide), fk0 (by decide), fk0 (by decide), fk2 (k := 207) ⟨mem q7 (by simp), e7⟩, fk0 (by decide), fk0 (by decide), fk2 (k := 208) ⟨mem q8 (by simp), e8⟩, fk2 (k := 209) ⟨mem q9 (by simp), e9⟩, fk2 (k := 210) ⟨mem q10 (by simp), e10⟩, fk2 (k := 211) ⟨mem q11 (by simp), e11⟩, fk2 (k := 212) ⟨mem q12 (by simp), e12⟩, fk0 (by decide), fk0 (by decide), fk2 (k := 213) ⟨mem q13 (by simp), e13⟩, fk2 (k := 214) ⟨mem q14 (by simp), e14⟩, fk2 (k := 215) ⟨mem q15 (by simp), e15⟩, fk0 (by decide), fk0 (by decide), fk0 (by decide), fk0 (by decide), fk2 (k := 216) ⟨mem q16 (by simp), e16⟩, fk0 (by decide), fk2 (k := 217) ⟨mem q17 (by simp), e17⟩, fk2 (k := 218) ⟨mem q18 (by simp), e18⟩, fk2 (k := 219) ⟨mem q19 (by simp), e19⟩, fk2 (k := 220) ⟨mem q20 (by simp), e20⟩, fk2 (k := 221) ⟨mem q21 (by simp), e21⟩, fk2 (k := 222) ⟨mem q22 (by simp), e22⟩, fk2 (k := 223) ⟨mem q23 (by simp), e23⟩, fk2 (k := 224) ⟨mem q24 (by simp), e24⟩, fk2 (k := 225) ⟨mem q25 (by simp), e25⟩, fk2 (k := 226) ⟨mem q26 (by simp), e26⟩, fk2 (k := 227) ⟨mem q27 (by simp), e27⟩, fk2 (k := 228) ⟨mem q28 (by simp), e28⟩, trivial⟩
      have a9 : f9 q1 = zIA cy0 17938 ga := (z2 q1 n12).trans y3
      have t9 : f9 q3 = zIA cy0 2820 (fun _ => 0) := (z2 q3 (Ne.symm n23)).trans ((y2 q3 (Ne.symm n13)).trans t244_q3)
      have za : ∀ i, (i ≤ 5 ∨ i = 7 ∨ (9 ≤ i ∧ i < 9938)) → gi (f9 q1) i = 0 := fun i hi => by
        rw [a9]
        show (ga i).toInt = 0
        rw [y5 i hi]
        rfl
      have zi : ∀ i, (i ≤ 5 ∨ i = 7 ∨ (9 ≤ i ∧ i < 9938)) → gi (f9 q2) i = 0 := fun i hi => by
        rw [z3]
        show (gc i).toInt = 0
        rw [z4 i (by omega), y5 i hi]
        rfl
      have zt : ∀ i, gi (f9 q3) i = 0 := fun i => by rw [t9]; rfl
      exact hret _ _ L244 f9 308 _ (Nat.le_of_ble_eq_true rfl) (Nat.le_of_ble_eq_true rfl) (by decide +kernel) ⟨_, K244, y9, hck, q1, q2, q3, m1, e1, m2, e2, m3, e3, za, zi, zt⟩
    | succ N ih =>
      intro k hk hk9 f1 ga y1 y2 y3 y4 y5
      have ei : (Int32.ofInt (k : Int)).toInt = k := i32i (by omega) (by omega)
      have et : (Int32.ofInt (k : Int)).toNatClampNeg = k := by
        show (Int32.ofInt (k : Int)).toInt.toNat = k
        rw [ei, Int.toNat_natCast]
      refine x_iload_n hE (z := 1) (i := 1) (x := Int32.ofInt (k : Int)) (by decide +kernel) rfl (by simp) ?_
      refine x_sipush hE (i := 17938) (v := 17938) (by decide +kernel) (by decide +kernel) ?_
      refine x_icmp_ge hE (off := 16) (tgt := 297) (by decide +kernel) rfl (fun hq => ?_) (fun _ => ?_)
      · exfalso
        have ec : (17938 : Int32).toInt = 17938 := by decide +kernel
        rw [Int32.le_iff_toInt_le, ei, ec] at hq
        omega
      · have hw1 : f1 w = .inr (12, [.ref q1, .ref q2, .ref q3, .ref q4, .int 0, .int (-1), .int (-1), .int 0, .int 0, .int 0, .int 0, .long 0, .int 0, .int 0, .int 0, .ref q5, .ref q6, .int 0, .int 0, .int 0, .int 0, .int 0, .ref q7, .int 0, .int (-1), .ref q8, .ref q9, .ref q10, .ref q11, .ref q12, .int 0, .int 0, .ref q13, .ref q14, .ref q15, .int 0, .int 0, .int (-1), .int 0, .ref q16, .int 0, .ref q17, .ref q18, .ref q19, .ref q20, .ref q21, .ref q22, .ref q23, .ref q24, .ref q25, .ref q26, .ref q27, .ref q28]) := (y2 w (Ne.symm neq1)).trans h244
        refine x_aload_n hE (z := 0) (i := 0) (x := w) (by decide +kernel) rfl (by simp) ?_
        refine r_get (v := .ref q1) hE fX12_ok (List.mem_of_getElem? (i := 0) rfl) hwL hw1 rfl (by decide +kernel) ?_
        refine x_iload_n hE (z := 1) (i := 1) (x := Int32.ofInt (k : Int)) (by decide +kernel) rfl (by simp) ?_
        refine x_iconst hE (i := (-1)) (v := (-1)) (by decide +kernel) rfl ?_
        refine h_iast hE m1 y3 (by rw [vp_in_iff, ei]; omega) (by decide +kernel) ?_
        rw [et]
        have P9 := PAu ga k (-1) y4 (kf k (by omega) (by omega) (-1))
        have y9 := y1.upd2 (f' := va_up f1 q1 (zIA cy0 17938 (upd ga k (-1)))) (q := q1) (by simp) (fun b hb => va_up_ne _ _ hb) (by rw [va_up_self, e1]; exact qA q1 201 _ (Or.inl rfl) P9)
        refine x_sub (lv' := [(1, .int (Int32.ofInt (k : Int))), (0, .ref w)]) (fun q hq => by
          simp only [List.mem_cons, List.not_mem_nil, or_false] at hq
          rcases hq with h | h <;> simp [h]) ?_
        refine x_iinc hE (i := 1) (z := 1) (x := Int32.ofInt (k : Int)) (v := Int32.ofInt ((k + 1 : Nat) : Int)) (by decide +kernel) 0 rfl (i32inc (by omega)) (by decide) rfl ?_
        refine x_goto hE (off := -17) (tgt := 277) (by decide +kernel) rfl ?_
        refine x_sub (lv' := [(0, .ref w), (1, .int (Int32.ofInt ((k + 1 : Nat) : Int)))]) (fun q hq => by
          simp only [List.mem_cons, List.not_mem_nil, or_false] at hq
          rcases hq with h | h <;> simp [h, Value.category]) ?_
        refine ih (k + 1) (by omega) (by omega) _ (upd ga k (-1)) y9 (fun b hb => by rw [va_up_ne _ _ hb]; exact y2 b hb) (va_up_self _ _ _) P9 (fun i hi => ?_)
        rw [up_oth _ _ (by omega)]
        exact y5 i hi
  refine x_sipush hE (i := 9938) (v := Int32.ofInt ((9938 : Nat) : Int)) (by decide +kernel) (by decide +kernel) ?_
  refine x_istore_n hE (z := 1) (i := 1) (by decide +kernel) rfl (by decide) rfl ?_
  refine x_sub (lv' := [(0, .ref w), (1, .int (Int32.ofInt ((9938 : Nat) : Int)))]) (fun q hq => by
    simp only [List.mem_cons, List.not_mem_nil, or_false] at hq
    rcases hq with h | h <;> simp [h, Value.category, lv_args]) ?_
  exact go 8000 9938 rfl (Nat.le_refl _) fB gb gB hB1 hB2 P8 hB3
