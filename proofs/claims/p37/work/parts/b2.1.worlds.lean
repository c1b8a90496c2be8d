/-! Rows of WORLDS. -/
def WK (b : Nat) : Prop := ∃ lo6 hi6 lo7 hi7 lo8 hi8 lo9 hi9 lo10 hi10 lo11 hi11 lo12 hi12 : Int, zkd b = (1, 10, [(2, ((b + 1 : Nat) : Int), 0), (2, ((b + 2 : Nat) : Int), 0), (2, ((b + 3 : Nat) : Int), 0), (2, ((b + 4 : Nat) : Int), 0), (2, ((b + 5 : Nat) : Int), 0), (2, ((b + 6 : Nat) : Int), 0), (0, lo6, hi6), (0, lo7, hi7), (0, lo8, hi8), (0, lo9, hi9), (0, lo10, hi10), (0, lo11, hi11), (0, lo12, hi12), (2, ((b + 7 : Nat) : Int), 0), (2, ((b + 8 : Nat) : Int), 0)]) ∧ okI (b + 1) 6 ∧ okI (b + 2) 6 ∧ okI (b + 3) 6 ∧ okI (b + 4) 8 ∧ okI (b + 5) 8 ∧ okI (b + 6) 8 ∧ okI (b + 7) 40 ∧ okI (b + 8) 20 ∧ (lo6 ≤ (0 : Int32).toInt ∧ (0 : Int32).toInt ≤ hi6) ∧ (lo7 ≤ (0 : Int32).toInt ∧ (0 : Int32).toInt ≤ hi7) ∧ (lo8 ≤ (0 : Int32).toInt ∧ (0 : Int32).toInt ≤ hi8) ∧ (lo9 ≤ (0 : Int32).toInt ∧ (0 : Int32).toInt ≤ hi9) ∧ (lo10 ≤ (37 : Int32).toInt ∧ (37 : Int32).toInt ≤ hi10) ∧ (lo11 ≤ (0 : Int32).toInt ∧ (0 : Int32).toInt ≤ hi11) ∧ (lo12 ≤ (0 : Int32).toInt ∧ (0 : Int32).toInt ≤ hi12)
theorem n_W {X0 : zC0} {B : Int} {K : Nat → Nat} {L : List Nat} {f : Nat → va_E} {w b : Nat} (h : WK b) (hw : w ∈ L) (hf : f w = .inr (10, [.null, .null, .null, .null, .null, .null, .int 0, .int 0, .int 0, .int 0, .int 0, .int 0, .int 0, .null, .null])) : eM X0 3 yX10_init cX10_init 1 none (zrm 1 8 102) [.ref w] L f (fun _ u => ∃ (A : List Nat) (K1 : Nat → Nat), GR X0.2.2.1 B L K f w u.1 A [b + 1, b + 2, b + 3, b + 4, b + 5, b + 6, b + 7, b + 8] K1 u.2 ∧ cok X0.2.2.1 K1 B u.1 b (u.2 w)) := by
  obtain ⟨lo6, hi6, lo7, hi7, lo8, hi8, lo9, hi9, lo10, hi10, lo11, hi11, lo12, hi12, hz, o1, o2, o3, o4, o5, o6, o7, o8, b6, b7, b8, b9, b10, b11, b12⟩ := h
  exact n_X10 hw hf hz o1 o2 o3 o4 o5 o6 o7 o8 b6 b7 b8 b9 b10 b11 b12
theorem WK1 : WK 1 := ⟨_, _, _, _, _, _, _, _, _, _, _, _, _, _, rfl, okI_of rfl rfl (fun _ => rfl) (by decide) (by decide), okI_of rfl rfl (fun _ => rfl) (by decide) (by decide), okI_of rfl rfl (fun _ => rfl) (by decide) (by decide), okI_of rfl rfl (fun _ => rfl) (by decide) (by decide), okI_of rfl rfl (fun _ => rfl) (by decide) (by decide), okI_of rfl rfl (fun _ => rfl) (by decide) (by decide), okI_of rfl rfl (fun _ => rfl) (by decide) (by decide), okI_of rfl rfl (fun _ => rfl) (by decide) (by decide), by decide, by decide, by decide, by decide, by decide, by decide, by decide⟩
theorem WK10 : WK 10 := ⟨_, _, _, _, _, _, _, _, _, _, _, _, _, _, rfl, okI_of rfl rfl (fun _ => rfl) (by decide) (by decide), okI_of rfl rfl (fun _ => rfl) (by decide) (by decide), okI_of rfl rfl (fun _ => rfl) (by decide) (by decide), okI_of rfl rfl (fun _ => rfl) (by decide) (by decide), okI_of rfl rfl (fun _ => rfl) (by decide) (by decide), okI_of rfl rfl (fun _ => rfl) (by decide) (by decide), okI_of rfl rfl (fun _ => rfl) (by decide) (by decide), okI_of rfl rfl (fun _ => rfl) (by decide) (by decide), by decide, by decide, by decide, by decide, by decide, by decide, by decide⟩
theorem WK50 : WK 50 := ⟨_, _, _, _, _, _, _, _, _, _, _, _, _, _, rfl, okI_of rfl rfl (fun _ => rfl) (by decide) (by decide), okI_of rfl rfl (fun _ => rfl) (by decide) (by decide), okI_of rfl rfl (fun _ => rfl) (by decide) (by decide), okI_of rfl rfl (fun _ => rfl) (by decide) (by decide), okI_of rfl rfl (fun _ => rfl) (by decide) (by decide), okI_of rfl rfl (fun _ => rfl) (by decide) (by decide), okI_of rfl rfl (fun _ => rfl) (by decide) (by decide), okI_of rfl rfl (fun _ => rfl) (by decide) (by decide), by decide, by decide, by decide, by decide, by decide, by decide, by decide⟩
theorem WK90 : WK 90 := ⟨_, _, _, _, _, _, _, _, _, _, _, _, _, _, rfl, okI_of rfl rfl (fun _ => rfl) (by decide) (by decide), okI_of rfl rfl (fun _ => rfl) (by decide) (by decide), okI_of rfl rfl (fun _ => rfl) (by decide) (by decide), okI_of rfl rfl (fun _ => rfl) (by decide) (by decide), okI_of rfl rfl (fun _ => rfl) (by decide) (by decide), okI_of rfl rfl (fun _ => rfl) (by decide) (by decide), okI_of rfl rfl (fun _ => rfl) (by decide) (by decide), okI_of rfl rfl (fun _ => rfl) (by decide) (by decide), by decide, by decide, by decide, by decide, by decide, by decide, by decide⟩
theorem WK140 : WK 140 := ⟨_, _, _, _, _, _, _, _, _, _, _, _, _, _, rfl, okI_of rfl rfl (fun _ => rfl) (by decide) (by decide), okI_of rfl rfl (fun _ => rfl) (by decide) (by decide), okI_of rfl rfl (fun _ => rfl) (by decide) (by decide), okI_of rfl rfl (fun _ => rfl) (by decide) (by decide), okI_of rfl rfl (fun _ => rfl) (by decide) (by decide), okI_of rfl rfl (fun _ => rfl) (by decide) (by decide), okI_of rfl rfl (fun _ => rfl) (by decide) (by decide), okI_of rfl rfl (fun _ => rfl) (by decide) (by decide), by decide, by decide, by decide, by decide, by decide, by decide, by decide⟩
theorem WK149 : WK 149 := ⟨_, _, _, _, _, _, _, _, _, _, _, _, _, _, rfl, okI_of rfl rfl (fun _ => rfl) (by decide) (by decide), okI_of rfl rfl (fun _ => rfl) (by decide) (by decide), okI_of rfl rfl (fun _ => rfl) (by decide) (by decide), okI_of rfl rfl (fun _ => rfl) (by decide) (by decide), okI_of rfl rfl (fun _ => rfl) (by decide) (by decide), okI_of rfl rfl (fun _ => rfl) (by decide) (by decide), okI_of rfl rfl (fun _ => rfl) (by decide) (by decide), okI_of rfl rfl (fun _ => rfl) (by decide) (by decide), by decide, by decide, by decide, by decide, by decide, by decide, by decide⟩
theorem WK158 : WK 158 := ⟨_, _, _, _, _, _, _, _, _, _, _, _, _, _, rfl, okI_of rfl rfl (fun _ => rfl) (by decide) (by decide), okI_of rfl rfl (fun _ => rfl) (by decide) (by decide), okI_of rfl rfl (fun _ => rfl) (by decide) (by decide), okI_of rfl rfl (fun _ => rfl) (by decide) (by decide), okI_of rfl rfl (fun _ => rfl) (by decide) (by decide), okI_of rfl rfl (fun _ => rfl) (by decide) (by decide), okI_of rfl rfl (fun _ => rfl) (by decide) (by decide), okI_of rfl rfl (fun _ => rfl) (by decide) (by decide), by decide, by decide, by decide, by decide, by decide, by decide, by decide⟩
theorem WK167 : WK 167 := ⟨_, _, _, _, _, _, _, _, _, _, _, _, _, _, rfl, okI_of rfl rfl (fun _ => rfl) (by decide) (by decide), okI_of rfl rfl (fun _ => rfl) (by decide) (by decide), okI_of rfl rfl (fun _ => rfl) (by decide) (by decide), okI_of rfl rfl (fun _ => rfl) (by decide) (by decide), okI_of rfl rfl (fun _ => rfl) (by decide) (by decide), okI_of rfl rfl (fun _ => rfl) (by decide) (by decide), okI_of rfl rfl (fun _ => rfl) (by decide) (by decide), okI_of rfl rfl (fun _ => rfl) (by decide) (by decide), by decide, by decide, by decide, by decide, by decide, by decide, by decide⟩
theorem WK176 : WK 176 := ⟨_, _, _, _, _, _, _, _, _, _, _, _, _, _, rfl, okI_of rfl rfl (fun _ => rfl) (by decide) (by decide), okI_of rfl rfl (fun _ => rfl) (by decide) (by decide), okI_of rfl rfl (fun _ => rfl) (by decide) (by decide), okI_of rfl rfl (fun _ => rfl) (by decide) (by decide), okI_of rfl rfl (fun _ => rfl) (by decide) (by decide), okI_of rfl rfl (fun _ => rfl) (by decide) (by decide), okI_of rfl rfl (fun _ => rfl) (by decide) (by decide), okI_of rfl rfl (fun _ => rfl) (by decide) (by decide), by decide, by decide, by decide, by decide, by decide, by decide, by decide⟩
theorem WK185 : WK 185 := ⟨_, _, _, _, _, _, _, _, _, _, _, _, _, _, rfl, okI_of rfl rfl (fun _ => rfl) (by decide) (by decide), okI_of rfl rfl (fun _ => rfl) (by decide) (by decide), okI_of rfl rfl (fun _ => rfl) (by decide) (by decide), okI_of rfl rfl (fun _ => rfl) (by decide) (by decide), okI_of rfl rfl (fun _ => rfl) (by decide) (by decide), okI_of rfl rfl (fun _ => rfl) (by decide) (by decide), okI_of rfl rfl (fun _ => rfl) (by decide) (by decide), okI_of rfl rfl (fun _ => rfl) (by decide) (by decide), by decide, by decide, by decide, by decide, by decide, by decide, by decide⟩
def wS (kb : Nat → Nat) : Nat → List Nat
  | 0 => []
  | i + 1 => wS kb i ++ (kb i :: [kb i + 1, kb i + 2, kb i + 3, kb i + 4, kb i + 5, kb i + 6, kb i + 7, kb i + 8])
def WA (cy : Nat → ClassId) (K : Nat → Nat) (L : List Nat) (N i : Nat) (kb : Nat → Nat) (e : va_E) : Prop := ∃ g : Nat → Option Nat, e = zRA (cy 4) N g ∧ (∀ j, j < i → ∃ b, g j = some b ∧ b ∈ L ∧ K b = kb j) ∧ ∀ j, i ≤ j → g j = none
theorem WA_cok {cy : Nat → ClassId} {K : Nat → Nat} {L : List Nat} {B : Int} {N k : Nat} {kb : Nat → Nat} {e : va_E} (h1 : (zkd k).1 = 5) (h2 : (zkd k).2.1 = N) (h3 : ∀ i, i < N → kel k i = kb i) (h : WA cy K L N N kb e) : cok cy K B L k e := by
  obtain ⟨g, rfl, g1, g2⟩ := h
  unfold cok
  rw [h1]
  refine ⟨g, by rw [h2], fun i hi => ?_, fun i b hb => ?_⟩
  · rw [h2] at hi
    obtain ⟨b, b1, b2, b3⟩ := g1 i hi
    exact ⟨b, b1, b2, by rw [h3 i hi]; exact b3⟩
  · by_cases hi : i < N
    · obtain ⟨b', b1, b2, -⟩ := g1 i hi
      rw [hb] at b1
      have : b = b' := by cases b1; rfl
      rw [this]
      exact b2
    · rw [g2 i (by omega)] at hb
      cases hb
/-- a row that is filled later: all is one making -/
theorem GR.arr {cy : Nat → ClassId} {B : Int} {L : List Nat} {K : Nat → Nat} {f : Nat → va_E} {w q1 k1 : Nat} {e1 : va_E} {L2 A2 S2 : List Nat} {K2 : Nat → Nat} {f2 : Nat → va_E} {L3 A3 S3 : List Nat} {K3 : Nat → Nat} {f3 : Nat → va_E} (hw : w ∈ L) (hq : q1 ∉ L) (g : GR cy B (L ++ [q1]) (va_up K q1 k1) (va_up f q1 e1) w L2 A2 S2 K2 f2) (gi : GR cy B L2 K2 f2 q1 L3 A3 S3 K3 f3) (hc : cok cy K3 B L3 k1 (f3 q1)) : GR cy B L K f w L3 (q1 :: (A2 ++ A3)) (k1 :: (S2 ++ S3)) K3 f3 ∧ f3 w = f2 w ∧ (∀ b ∈ L2, b ∈ L3 ∧ K3 b = K2 b) := by
  obtain ⟨g1, g2, g3, g4, g5, g6, g7⟩ := g
  obtain ⟨h1, h2, h3, h4, h5, h6, h7⟩ := gi
  have hqw : w ≠ q1 := fun e => hq (e ▸ hw)
  have old : ∀ b ∈ L2, b ∈ L3 ∧ K3 b = K2 b := fun b hb => ⟨by rw [h1]; exact List.mem_append_left _ hb, h3 b hb⟩
  have in2 : ∀ b ∈ L ++ [q1], b ∈ L2 := fun b hb => by rw [g1]; exact List.mem_append_left _ hb
  have inA2 : ∀ b ∈ A2, b ∈ L2 := fun b hb => by rw [g1]; exact List.mem_append_right _ hb
  have hq2 : q1 ∈ L2 := in2 q1 (List.mem_append_right _ (List.mem_singleton.mpr rfl))
  have kq : K3 q1 = k1 := by rw [h3 q1 hq2, g3 q1 (List.mem_append_right _ (List.mem_singleton.mpr rfl)), va_up_self]
  have inL : ∀ b ∈ L, b ∈ L ++ [q1] := fun b hb => List.mem_append_left _ hb
  have neL : ∀ b ∈ L, b ≠ q1 := fun b hb e => hq (e ▸ hb)
  refine ⟨⟨by rw [h1, g1]; simp, ?_, fun b hb => by rw [h3 b (in2 b (inL b hb)), g3 b (inL b hb), va_up_ne _ _ (neL b hb)], fun hn => h4 (g4 ?_), fun b hb => ?_, fun b hb hne => by rw [h6 b (in2 b (inL b hb)) (neL b hb), g6 b (inL b hb) hne, va_up_ne _ _ (neL b hb)], fun b hb => ?_⟩, h6 w (in2 w (inL w hw)) hqw, old⟩
  · rw [List.map_cons, List.map_append, h2, kq, ← g2]
    congr 2
    exact List.map_congr_left (fun b hb => h3 b (inA2 b hb))
  · rw [List.nodup_append]
    refine ⟨hn, by simp, fun a ha b hb => ?_⟩
    rw [List.mem_singleton.mp hb]
    exact neL a ha
  · rcases List.mem_cons.mp hb with h | h
    · rw [h]
      exact hq
    · rcases List.mem_append.mp h with h | h
      · exact fun hm => g5 b h (inL b hm)
      · exact fun hm => h5 b h (in2 b (inL b hm))
  · rcases List.mem_cons.mp hb with h | h
    · rw [h, kq]
      exact hc
    · rcases List.mem_append.mp h with h | h
      · have hbq : b ≠ q1 := fun e => g5 b h (by rw [e]; exact List.mem_append_right _ (List.mem_singleton.mpr rfl))
        rw [h3 b (inA2 b h), h6 b (inA2 b h) hbq]
        exact cok_mono (fun b' hb' => old b' hb') (g7 b h)
      · exact h7 b h
theorem GR.tr {cy : Nat → ClassId} {B : Int} {L : List Nat} {K : Nat → Nat} {f : Nat → va_E} {w : Nat} {L1 A1 S1 : List Nat} {K1 : Nat → Nat} {f1 : Nat → va_E} {L2 A2 S2 : List Nat} {K2 : Nat → Nat} {f2 : Nat → va_E} (hw : w ∈ L) (g : GR cy B L K f w L1 A1 S1 K1 f1) (h : GR cy B L1 K1 f1 w L2 A2 S2 K2 f2) : GR cy B L K f w L2 (A1 ++ A2) (S1 ++ S2) K2 f2 := by
  obtain ⟨g1, g2, g3, g4, g5, g6, g7⟩ := g
  obtain ⟨h1, h2, h3, h4, h5, h6, h7⟩ := h
  have in1 : ∀ b ∈ L, b ∈ L1 := fun b hb => by rw [g1]; exact List.mem_append_left _ hb
  have inA : ∀ b ∈ A1, b ∈ L1 := fun b hb => by rw [g1]; exact List.mem_append_right _ hb
  have old : ∀ b ∈ L1, b ∈ L2 ∧ K2 b = K1 b := fun b hb => ⟨by rw [h1]; exact List.mem_append_left _ hb, h3 b hb⟩
  refine ⟨by rw [h1, g1, List.append_assoc], ?_, fun b hb => by rw [h3 b (in1 b hb), g3 b hb], fun hn => h4 (g4 hn), fun b hb => ?_, fun b hb hne => by rw [h6 b (in1 b hb) hne, g6 b hb hne], fun b hb => ?_⟩
  · rw [List.map_append, h2, ← g2]
    congr 1
    exact List.map_congr_left (fun b hb => h3 b (inA b hb))
  · rcases List.mem_append.mp hb with h | h
    · exact g5 b h
    · exact fun hm => h5 b h (in1 b hm)
  · rcases List.mem_append.mp hb with h | h
    · have hbw : b ≠ w := fun e => g5 b h (by rw [e]; exact hw)
      rw [h3 b (inA b h), h6 b (inA b h) hbw]
      exact cok_mono (fun b' hb' => old b' hb') (g7 b h)
    · exact h7 b h
theorem X10_fs {cy : Nat → ClassId} {K : Nat → Nat} {B : Int} {L : List Nat} {b : Nat} {e : va_E} (h : WK b) (hc : cok cy K B L b e) : ∃ fs, e = .inr (10, fs) := by
  obtain ⟨lo6, hi6, lo7, hi7, lo8, hi8, lo9, hi9, lo10, hi10, lo11, hi11, lo12, hi12, hz, -⟩ := h
  unfold cok at hc
  rw [hz] at hc
  obtain ⟨fs, h1, -⟩ := hc
  exact ⟨fs, h1⟩
theorem pd_world : (parseMethodDescriptor yX10_init.desc).map (fun d => d.parameters.length) = some 0 := by decide +kernel
theorem n_X5 {X0 : zC0} {B : Int} {K : Nat → Nat} {L : List Nat} {f : Nat → va_E} {w kw kW k1 : Nat} {kb : Nat → Nat} {lo0 hi0 lo1 hi1 : Int} (hw : w ∈ L) (hf : f w = .inr (5, [.int 0, .int 0, .null, .null])) (hz : zkd kw = (1, 5, [(0, lo0, hi0), (0, lo1, hi1), (2, (kW : Int), 0), (2, (k1 : Int), 0)])) (hzW : (zkd kW).1 = 5 ∧ (zkd kW).2.1 = 30) (hkb : ∀ i, i < 30 → WK (kb i) ∧ kel kW i = kb i) (o1 : okI k1 30) (b0 : lo0 ≤ (0 : Int32).toInt ∧ (0 : Int32).toInt ≤ hi0) (b1 : lo1 ≤ (0 : Int32).toInt ∧ (0 : Int32).toInt ≤ hi1) : eM X0 3 yX5_init cX5_init 2 none (zrm 2 272 3570) [.ref w] L f (fun _ u => ∃ (A : List Nat) (K1 : Nat → Nat), GR X0.2.2.1 B L K f w u.1 A ([] ++ (kW :: ([k1] ++ wS kb 30))) K1 u.2 ∧ cok X0.2.2.1 K1 B u.1 kw (u.2 w)) := by
  obtain ⟨l0, D0, cy0, ax0⟩ := X0
  refine eM.mk rfl pnX5 (Nat.le_of_ble_eq_true rfl) (fun E hE hin hret => ?_)
  have hI := hin rfl
  have g0 : GR cy0 B L K f w L [] [] K f := GR.rf
  have h0 := hf
  refine x_aload_n hE (z := 0) (i := 0) (x := w) (by decide +kernel) rfl (by simp [lv_args, Value.category]) ?_
  refine x_objinit hE q293 q140 q141 (by decide +kernel) (by decide) (by decide) ?_
  refine x_aload_n hE (z := 0) (i := 0) (x := w) (by decide +kernel) rfl (by simp [lv_args, Value.category]) ?_
  refine x_bipush hE (i := 30) (v := 30) (by decide +kernel) (by decide +kernel) ?_
  refine h_newq hE q294 (t0 := 4) (N0 := 30) (fun _ => rfl) (Or.inr rfl) (by decide) rfl (by decide) (Nat.le_of_ble_eq_true rfl) (Nat.le_of_ble_eq_true rfl) (by decide +kernel) (fun qW hqW => ?_)
  have hwp : w ∈ L := g0.sub hw
  have nqw : qW ≠ w := fun e => hqW (e ▸ hwp)
  have hqm : qW ∈ L ++ [qW] := List.mem_append_right _ (List.mem_singleton.mpr rfl)
  have hwm : w ∈ L ++ [qW] := List.mem_append_left _ hwp
  have gW : GR cy0 B (L ++ [qW]) (va_up K qW kW) (va_up f qW (zRA (cy0 4) 30 (fun _ => none))) w (L ++ [qW]) [] [] (va_up K qW kW) (va_up f qW (zRA (cy0 4) 30 (fun _ => none))) := GR.rf
  have hW0 : va_up f qW (zRA (cy0 4) 30 (fun _ => none)) w = .inr (5, [.int 0, .int 0, .null, .null]) := by rw [va_up_ne _ _ (Ne.symm nqw)]; exact h0
  refine n_put (ci := 5) (j := 2) hE hI gW hwm hW0 rfl inZX5 tyX5_ok nmX5 (by decide) (by show 2 < 4; decide) rfl q301 rfl rfl (by decide +kernel) (fun f2 g2 h2 u2 => ?_)
  replace h2 : f2 w = .inr (5, [.int 0, .int 0, .ref qW, .null]) := h2
  have a2 : f2 qW = zRA (cy0 4) 30 (fun _ => none) := by rw [u2 qW nqw, va_up_self]
  refine x_aload_n hE (z := 0) (i := 0) (x := w) (by decide +kernel) rfl (by simp [lv_args, Value.category]) ?_
  refine x_bipush hE (i := 30) (v := 30) (by decide +kernel) (by decide +kernel) ?_
  refine n_row (atype := .int) (ty := .int) (t0 := 0) (x := (30, .inl (fun _ => 0))) (v := 30) (ci := 5) (j := 3) (kq := k1) (n0 := 30) hE hI g2 hwm h2 rfl inZX5 tyX5_ok nmX5 (by decide) (by show 3 < 4; decide) rfl q302 rfl rfl (fun C h => by cases h) q207 (fun _ => rfl) (fun _ => rfl) (by decide) rfl (by decide) (Nat.le_of_ble_eq_true rfl) (Nat.le_of_ble_eq_true rfl) (by decide +kernel) (by decide +kernel) (fun K L => cok_I o1) (fun q1 L14 K14 f14 g14 h14 r14 _ => ?_)
  replace h14 : f14 w = .inr (5, [.int 0, .int 0, .ref qW, .ref q1]) := h14
  have a14 : f14 qW = zRA (cy0 4) 30 (fun _ => none) := by
    rw [r14 qW (g2.sub hqm) nqw]
    exact a2
  have go : ∀ (N i : Nat), i + N = 30 → ∀ (Li Ai : List Nat) (Ki : Nat → Nat) (fi : Nat → va_E), GR cy0 B L14 K14 f14 qW Li Ai (wS kb i) Ki fi → WA cy0 Ki Li 30 i kb (fi qW) → eW E (2 + 9 * i) (60 + 117 * i) Li fi 23 [(0, .ref w), (1, .int (Int32.ofInt (i : Int)))] [] := by
    intro N
    induction N with
    | zero =>
      intro i hi Li Ai Ki fi gi hA
      have hi0 : i = 30 := by omega
      subst hi0
      refine x_iload_n hE (z := 1) (i := 1) (x := Int32.ofInt ((30 : Nat) : Int)) (by decide +kernel) rfl (by simp) ?_
      refine x_bipush hE (i := 30) (v := 30) (by decide +kernel) (by decide +kernel) ?_
      refine x_icmp_ge hE (off := 22) (tgt := 48) (by decide +kernel) rfl (fun _ => ?_) (fun hn => absurd (by decide) hn)
      have hcW := WA_cok (B := B) hzW.1 hzW.2 (fun i hi => (hkb i hi).2) hA
      obtain ⟨gg, hfw, old⟩ := GR.arr hwp hqW g14 gi hcW
      have gt := GR.tr hw g0 gg
      have hS := gt.2.1
      have hS2 := g14.2.1
      simp only [List.nil_append, List.cons_append, List.map_cons, List.map_nil, List.cons.injEq, and_true] at hS2
      have e1 := hS2
      have mem : ∀ q, q ∈ [q1] → q ∈ L14 := fun q hq => by
        rw [g14.1]
        exact List.mem_append_right _ hq
      have kWm : qW ∈ Li ∧ Ki qW = kW := by
        have h9 := old qW (g14.sub hqm)
        exact ⟨h9.1, by rw [h9.2, g14.2.2.1 qW hqm, va_up_self]⟩
      have hck : cok cy0 Ki B Li kw (fi w) := by
        rw [hfw, h14]
        exact cok_O hz ⟨fk0 b0, fk0 b1, fk2 kWm, fk2 ⟨(old q1 (mem q1 (by simp))).1, (old q1 (mem q1 (by simp))).2.trans e1⟩, trivial⟩
      exact hret _ _ Li fi 48 _ (Nat.le_of_ble_eq_true rfl) (Nat.le_of_ble_eq_true rfl) (by decide +kernel) ⟨_, Ki, gt, hck⟩
    | succ N ih =>
      intro i hi Li Ai Ki fi gi hA
      have ei : (Int32.ofInt (i : Int)).toInt = i := i32i (by omega) (by omega)
      obtain ⟨hWK, hkel⟩ := hkb i (by omega)
      refine x_iload_n hE (z := 1) (i := 1) (x := Int32.ofInt (i : Int)) (by decide +kernel) rfl (by simp) ?_
      refine x_bipush hE (i := 30) (v := 30) (by decide +kernel) (by decide +kernel) ?_
      refine x_icmp_ge hE (off := 22) (tgt := 48) (by decide +kernel) rfl (fun hq => ?_) (fun _ => ?_)
      · exfalso
        have ec : (30 : Int32).toInt = 30 := by decide +kernel
        rw [Int32.le_iff_toInt_le, ei, ec] at hq
        omega
      · have hqi : qW ∈ Li := gi.sub (g14.sub hqm)
        have hwi : w ∈ Li := gi.sub (g14.sub hwm)
        have hfi : fi w = .inr (5, [.int 0, .int 0, .ref qW, .ref q1]) := (gi.2.2.2.2.2.1 w (g14.sub hwm) (Ne.symm nqw)).trans h14
        refine x_aload_n hE (z := 0) (i := 0) (x := w) (by decide +kernel) rfl (by simp) ?_
        refine r_get (v := .ref qW) hE fX5_ok (List.mem_of_getElem? (i := 0) rfl) hwi hfi rfl (by decide +kernel) ?_
        refine x_iload_n hE (z := 1) (i := 1) (x := Int32.ofInt (i : Int)) (by decide +kernel) rfl (by simp) ?_
        refine h_new (ci := 10) (fs := [.null, .null, .null, .null, .null, .null, .int 0, .int 0, .int 0, .int 0, .int 0, .int 0, .int 0, .null, .null]) (ty0 := tyX10) hE rfl inZX10 tyX10_ok q294 q209 q116 (by decide +kernel) (by show 2 + 9 * i + 1 ≤ 272; omega) (by show 60 + 117 * i + 15 ≤ 3570; omega) (by decide +kernel) (fun w1 hw1 => ?_)
        refine x_dup hE (by decide +kernel) rfl ?_
        have hM := n_W (X0 := (l0, D0, cy0, ax0)) (B := B) (K := va_up Ki w1 (kb i)) (L := Li ++ [w1]) (f := va_up fi w1 (.inr (10, [.null, .null, .null, .null, .null, .null, .int 0, .int 0, .int 0, .int 0, .int 0, .int 0, .int 0, .null, .null]))) (w := w1) (b := kb i) hWK (List.mem_append_right _ (List.mem_singleton.mpr rfl)) (va_up_self _ _ _)
        refine c_all hE (r_IN (st := [.ref w1, .int (Int32.ofInt (i : Int)), .ref qW]) hE hM (List.mem_of_getElem? (i := 3) rfl) q211 q116 q212 rfl ⟨by decide +kernel, by decide +kernel, pd_world⟩ ⟨by decide, by decide⟩ ⟨by show 2 + 9 * i + 1 + 8 ≤ 272; omega, by show 60 + 117 * i + 15 + 102 ≤ 3570; omega⟩ rfl (by simp [Value.category]) (by decide +kernel)) (fun r L4 f4 ht hp => ?_)
        obtain rfl : r = none := ht
        obtain ⟨A4, K4, g4, hck4⟩ := hp
        obtain ⟨gg, old, hin1, kw1⟩ := GR.obj gi hw1 g4 hck4
        obtain ⟨fs4, hfs4⟩ := X10_fs hWK hck4
        obtain ⟨ga, hga, ha1, ha2⟩ := hA
        have hf4 : f4 qW = zRA (cy0 4) 30 ga := (old qW hqi).2.2.trans hga
        refine h_aast (t0 := 4) (N0 := 30) (ci := 10) hE (old qW hqi).1 hf4 hin1 hfs4 rfl (fun _ => rfl) (by rw [vp_in_iff, ei]; omega) (by decide +kernel) ?_
        have et : (Int32.ofInt (i : Int)).toNatClampNeg = i := by
          show (Int32.ofInt (i : Int)).toInt.toNat = i
          rw [ei, Int.toNat_natCast]
        rw [et]
        have gp := gg.put (g14.sub hqm) (zRA (cy0 4) 30 (va_up ga i (some w1)))
        refine x_sub (lv' := [(1, .int (Int32.ofInt (i : Int))), (0, .ref w)]) (fun q hq => by
          simp only [List.mem_cons, List.not_mem_nil, or_false] at hq
          rcases hq with h | h <;> simp [h]) ?_
        refine x_iinc hE (i := 1) (z := 1) (x := Int32.ofInt (i : Int)) (v := Int32.ofInt ((i + 1 : Nat) : Int)) (by decide +kernel) 0 rfl (by rw [i32ofadd (by omega) (by omega)]; rfl) (by decide) rfl ?_
        refine x_goto hE (off := -22) (tgt := 23) (by decide +kernel) rfl ?_
        refine x_sub (lv' := [(0, .ref w), (1, .int (Int32.ofInt ((i + 1 : Nat) : Int)))]) (fun q hq => by
          simp only [List.mem_cons, List.not_mem_nil, or_false] at hq
          rcases hq with h | h <;> simp [h, Value.category]) ?_
        have nx := ih (i + 1) (by omega) L4 _ K4 _ gp ⟨va_up ga i (some w1), va_up_self _ _ _, fun j hj => ?_, fun j hj => ?_⟩
        · have e1 : 2 + 9 * (i + 1) = 2 + 9 * i + 1 + 8 := by omega
          have e2 : 60 + 117 * (i + 1) = 60 + 117 * i + 15 + 102 := by omega
          rw [e1, e2] at nx
          exact nx
        · by_cases hji : j = i
          · exact ⟨w1, by rw [hji, va_up_self], hin1, by rw [hji]; exact kw1⟩
          · obtain ⟨b, b1, b2, b3⟩ := ha1 j (by omega)
            obtain ⟨c1, c2, -⟩ := old b b2
            exact ⟨b, by rw [va_up_ne _ _ hji]; exact b1, c1, c2.trans b3⟩
        · rw [va_up_ne _ _ (by omega)]
          exact ha2 j (by omega)
  refine x_iconst hE (i := 0) (v := Int32.ofInt ((0 : Nat) : Int)) (by decide +kernel) rfl ?_
  refine x_istore_n hE (z := 1) (i := 1) (by decide +kernel) rfl (by decide) rfl ?_
  refine x_sub (lv' := [(0, .ref w), (1, .int (Int32.ofInt ((0 : Nat) : Int)))]) (fun q hq => by
    simp only [List.mem_cons, List.not_mem_nil, or_false] at hq
    rcases hq with h | h <;> simp [h, Value.category, lv_args]) ?_
  exact go 30 0 rfl L14 [] K14 f14 GR.rf ⟨fun _ => none, a14, fun j hj => absurd hj (by omega), fun _ _ => rfl⟩
theorem n_X2 {X0 : zC0} {B : Int} {K : Nat → Nat} {L : List Nat} {f : Nat → va_E} {w kw kW k1 k2 k3 k4 k5 k6 p1 kp1 p2 kp2 : Nat} {kb : Nat → Nat} {lo0 hi0 : Int} (hw : w ∈ L) (hf : f w = .inr (2, [.int 0, .null, .null, .null, .null, .null, .null, .null, .null, .null])) (hz : zkd kw = (1, 2, [(0, lo0, hi0), (2, (k1 : Int), 0), (2, (kp1 : Int), 0), (2, (kp2 : Int), 0), (2, (kW : Int), 0), (2, (k2 : Int), 0), (2, (k3 : Int), 0), (2, (k4 : Int), 0), (2, (k5 : Int), 0), (2, (k6 : Int), 0)])) (hzW : (zkd kW).1 = 5 ∧ (zkd kW).2.1 = 6) (hkb : ∀ i, i < 6 → WK (kb i) ∧ kel kW i = kb i) (o1 : okI k1 5) (o2 : okI k2 5) (o3 : okI k3 6) (o4 : okI k4 8) (o5 : okI k5 48) (o6 : okI k6 64) (hp1 : p1 ∈ L ∧ K p1 = kp1) (hp2 : p2 ∈ L ∧ K p2 = kp2) (b0 : lo0 ≤ (0 : Int32).toInt ∧ (0 : Int32).toInt ≤ hi0) : eM X0 3 yX2_init cX2_init 4 none (zrm 2 61 844) [.ref w, .ref p1, .ref p2] L f (fun _ u => ∃ (A : List Nat) (K1 : Nat → Nat), GR X0.2.2.1 B L K f w u.1 A ([k1] ++ (kW :: ([k2, k3, k4, k5, k6] ++ wS kb 6))) K1 u.2 ∧ cok X0.2.2.1 K1 B u.1 kw (u.2 w)) := by
  obtain ⟨l0, D0, cy0, ax0⟩ := X0
  refine eM.mk rfl pnX2 (Nat.le_of_ble_eq_true rfl) (fun E hE hin hret => ?_)
  have hI := hin rfl
  have g0 : GR cy0 B L K f w L [] [] K f := GR.rf
  have h0 := hf
  refine x_aload_n hE (z := 0) (i := 0) (x := w) (by decide +kernel) rfl (by simp [lv_args, Value.category]) ?_
  refine x_objinit hE q502 q140 q141 (by decide +kernel) (by decide) (by decide) ?_
  refine x_aload_n hE (z := 0) (i := 0) (x := w) (by decide +kernel) rfl (by simp [lv_args, Value.category]) ?_
  refine x_iconst hE (i := 5) (v := 5) (by decide +kernel) (by decide +kernel) ?_
  refine n_row (atype := .int) (ty := .int) (t0 := 0) (x := (5, .inl (fun _ => 0))) (v := 5) (ci := 2) (j := 1) (kq := k1) (n0 := 5) hE hI g0 hw h0 rfl inZX2 tyX2_ok nmX2 (by decide) (by show 1 < 10; decide) rfl q507 rfl rfl (fun C h => by cases h) q207 (fun _ => rfl) (fun _ => rfl) (by decide) rfl (by decide) (Nat.le_of_ble_eq_true rfl) (Nat.le_of_ble_eq_true rfl) (by decide +kernel) (by decide +kernel) (fun K L => cok_I o1) (fun q1 L2 K2 f2 g2 h2 r2 _ => ?_)
  replace h2 : f2 w = .inr (2, [.int 0, .ref q1, .null, .null, .null, .null, .null, .null, .null, .null]) := h2
  refine x_aload_n hE (z := 0) (i := 0) (x := w) (by decide +kernel) rfl (by simp [lv_args, Value.category]) ?_
  refine x_bipush hE (i := 6) (v := 6) (by decide +kernel) (by decide +kernel) ?_
  refine h_newq hE q503 (t0 := 4) (N0 := 6) (fun _ => rfl) (Or.inr rfl) (by decide) rfl (by decide) (Nat.le_of_ble_eq_true rfl) (Nat.le_of_ble_eq_true rfl) (by decide +kernel) (fun qW hqW => ?_)
  have hwp : w ∈ L2 := g2.sub hw
  have nqw : qW ≠ w := fun e => hqW (e ▸ hwp)
  have hqm : qW ∈ L2 ++ [qW] := List.mem_append_right _ (List.mem_singleton.mpr rfl)
  have hwm : w ∈ L2 ++ [qW] := List.mem_append_left _ hwp
  have gW : GR cy0 B (L2 ++ [qW]) (va_up K2 qW kW) (va_up f2 qW (zRA (cy0 4) 6 (fun _ => none))) w (L2 ++ [qW]) [] [] (va_up K2 qW kW) (va_up f2 qW (zRA (cy0 4) 6 (fun _ => none))) := GR.rf
  have hW0 : va_up f2 qW (zRA (cy0 4) 6 (fun _ => none)) w = .inr (2, [.int 0, .ref q1, .null, .null, .null, .null, .null, .null, .null, .null]) := by rw [va_up_ne _ _ (Ne.symm nqw)]; exact h2
  refine n_put (ci := 2) (j := 4) hE hI gW hwm hW0 rfl inZX2 tyX2_ok nmX2 (by decide) (by show 4 < 10; decide) rfl q511 rfl rfl (by decide +kernel) (fun f6 g6 h6 u6 => ?_)
  replace h6 : f6 w = .inr (2, [.int 0, .ref q1, .null, .null, .ref qW, .null, .null, .null, .null, .null]) := h6
  have a6 : f6 qW = zRA (cy0 4) 6 (fun _ => none) := by rw [u6 qW nqw, va_up_self]
  refine x_aload_n hE (z := 0) (i := 0) (x := w) (by decide +kernel) rfl (by simp [lv_args, Value.category]) ?_
  refine x_iconst hE (i := 5) (v := 5) (by decide +kernel) (by decide +kernel) ?_
  refine n_row (atype := .int) (ty := .int) (t0 := 0) (x := (5, .inl (fun _ => 0))) (v := 5) (ci := 2) (j := 5) (kq := k2) (n0 := 5) hE hI g6 hwm h6 rfl inZX2 tyX2_ok nmX2 (by decide) (by show 5 < 10; decide) rfl q512 rfl rfl (fun C h => by cases h) q207 (fun _ => rfl) (fun _ => rfl) (by decide) rfl (by decide) (Nat.le_of_ble_eq_true rfl) (Nat.le_of_ble_eq_true rfl) (by decide +kernel) (by decide +kernel) (fun K L => cok_I o2) (fun q2 L18 K18 f18 g18 h18 r18 _ => ?_)
  replace h18 : f18 w = .inr (2, [.int 0, .ref q1, .null, .null, .ref qW, .ref q2, .null, .null, .null, .null]) := h18
  have a18 : f18 qW = zRA (cy0 4) 6 (fun _ => none) := by
    rw [r18 qW (g6.sub hqm) nqw]
    exact a6
  refine x_aload_n hE (z := 0) (i := 0) (x := w) (by decide +kernel) rfl (by simp [lv_args, Value.category]) ?_
  refine x_bipush hE (i := 6) (v := 6) (by decide +kernel) (by decide +kernel) ?_
  refine n_row (atype := .int) (ty := .int) (t0 := 0) (x := (6, .inl (fun _ => 0))) (v := 6) (ci := 2) (j := 6) (kq := k3) (n0 := 6) hE hI g18 hwm h18 rfl inZX2 tyX2_ok nmX2 (by decide) (by show 6 < 10; decide) rfl q513 rfl rfl (fun C h => by cases h) q207 (fun _ => rfl) (fun _ => rfl) (by decide) rfl (by decide) (Nat.le_of_ble_eq_true rfl) (Nat.le_of_ble_eq_true rfl) (by decide +kernel) (by decide +kernel) (fun K L => cok_I o3) (fun q3 L23 K23 f23 g23 h23 r23 _ => ?_)
  replace h23 : f23 w = .inr (2, [.int 0, .ref q1, .null, .null, .ref qW, .ref q2, .ref q3, .null, .null, .null]) := h23
  have a23 : f23 qW = zRA (cy0 4) 6 (fun _ => none) := by
    rw [r23 qW (g18.sub hqm) nqw]
    exact a18
  refine x_aload_n hE (z := 0) (i := 0) (x := w) (by decide +kernel) rfl (by simp [lv_args, Value.category]) ?_
  refine x_bipush hE (i := 8) (v := 8) (by decide +kernel) (by decide +kernel) ?_
  refine n_row (atype := .int) (ty := .int) (t0 := 0) (x := (8, .inl (fun _ => 0))) (v := 8) (ci := 2) (j := 7) (kq := k4) (n0 := 8) hE hI g23 hwm h23 rfl inZX2 tyX2_ok nmX2 (by decide) (by show 7 < 10; decide) rfl q514 rfl rfl (fun C h => by cases h) q207 (fun _ => rfl) (fun _ => rfl) (by decide) rfl (by decide) (Nat.le_of_ble_eq_true rfl) (Nat.le_of_ble_eq_true rfl) (by decide +kernel) (by decide +kernel) (fun K L => cok_I o4) (fun q4 L28 K28 f28 g28 h28 r28 _ => ?_)
  replace h28 : f28 w = .inr (2, [.int 0, .ref q1, .null, .null, .ref qW, .ref q2, .ref q3, .ref q4, .null, .null]) := h28
  have a28 : f28 qW = zRA (cy0 4) 6 (fun _ => none) := by
    rw [r28 qW (g23.sub hqm) nqw]
    exact a23
  refine x_aload_n hE (z := 0) (i := 0) (x := w) (by decide +kernel) rfl (by simp [lv_args, Value.category]) ?_
  refine x_bipush hE (i := 48) (v := 48) (by decide +kernel) (by decide +kernel) ?_
  refine n_row (atype := .int) (ty := .int) (t0 := 0) (x := (48, .inl (fun _ => 0))) (v := 48) (ci := 2) (j := 8) (kq := k5) (n0 := 48) hE hI g28 hwm h28 rfl inZX2 tyX2_ok nmX2 (by decide) (by show 8 < 10; decide) rfl q516 rfl rfl (fun C h => by cases h) q207 (fun _ => rfl) (fun _ => rfl) (by decide) rfl (by decide) (Nat.le_of_ble_eq_true rfl) (Nat.le_of_ble_eq_true rfl) (by decide +kernel) (by decide +kernel) (fun K L => cok_I o5) (fun q5 L33 K33 f33 g33 h33 r33 _ => ?_)
  replace h33 : f33 w = .inr (2, [.int 0, .ref q1, .null, .null, .ref qW, .ref q2, .ref q3, .ref q4, .ref q5, .null]) := h33
  have a33 : f33 qW = zRA (cy0 4) 6 (fun _ => none) := by
    rw [r33 qW (g28.sub hqm) nqw]
    exact a28
  refine x_aload_n hE (z := 0) (i := 0) (x := w) (by decide +kernel) rfl (by simp [lv_args, Value.category]) ?_
  refine x_bipush hE (i := 64) (v := 64) (by decide +kernel) (by decide +kernel) ?_
  refine n_row (atype := .int) (ty := .int) (t0 := 0) (x := (64, .inl (fun _ => 0))) (v := 64) (ci := 2) (j := 9) (kq := k6) (n0 := 64) hE hI g33 hwm h33 rfl inZX2 tyX2_ok nmX2 (by decide) (by show 9 < 10; decide) rfl q517 rfl rfl (fun C h => by cases h) q207 (fun _ => rfl) (fun _ => rfl) (by decide) rfl (by decide) (Nat.le_of_ble_eq_true rfl) (Nat.le_of_ble_eq_true rfl) (by decide +kernel) (by decide +kernel) (fun K L => cok_I o6) (fun q6 L38 K38 f38 g38 h38 r38 _ => ?_)
  replace h38 : f38 w = .inr (2, [.int 0, .ref q1, .null, .null, .ref qW, .ref q2, .ref q3, .ref q4, .ref q5, .ref q6]) := h38
  have a38 : f38 qW = zRA (cy0 4) 6 (fun _ => none) := by
    rw [r38 qW (g33.sub hqm) nqw]
    exact a33
  refine x_aload_n hE (z := 0) (i := 0) (x := w) (by decide +kernel) rfl (by simp [lv_args, Value.category]) ?_
  refine x_aload_n hE (z := 1) (i := 1) (x := p1) (by decide +kernel) rfl (by simp [lv_args, Value.category]) ?_
  refine n_put (ci := 2) (j := 2) hE hI g38 hwm h38 rfl inZX2 tyX2_ok nmX2 (by decide) (by show 2 < 10; decide) rfl q509 rfl rfl (by decide +kernel) (fun f43 g43 h43 u43 => ?_)
  replace h43 : f43 w = .inr (2, [.int 0, .ref q1, .ref p1, .null, .ref qW, .ref q2, .ref q3, .ref q4, .ref q5, .ref q6]) := h43
  have a43 : f43 qW = zRA (cy0 4) 6 (fun _ => none) := by rw [u43 qW nqw]; exact a38
  refine x_aload_n hE (z := 0) (i := 0) (x := w) (by decide +kernel) rfl (by simp [lv_args, Value.category]) ?_
  refine x_aload_n hE (z := 2) (i := 2) (x := p2) (by decide +kernel) rfl (by simp [lv_args, Value.category]) ?_
  refine n_put (ci := 2) (j := 3) hE hI g43 hwm h43 rfl inZX2 tyX2_ok nmX2 (by decide) (by show 3 < 10; decide) rfl q510 rfl rfl (by decide +kernel) (fun f48 g48 h48 u48 => ?_)
  replace h48 : f48 w = .inr (2, [.int 0, .ref q1, .ref p1, .ref p2, .ref qW, .ref q2, .ref q3, .ref q4, .ref q5, .ref q6]) := h48
  have a48 : f48 qW = zRA (cy0 4) 6 (fun _ => none) := by rw [u48 qW nqw]; exact a43
  have go : ∀ (N i : Nat), i + N = 6 → ∀ (Li Ai : List Nat) (Ki : Nat → Nat) (fi : Nat → va_E), GR cy0 B L38 K38 f48 qW Li Ai (wS kb i) Ki fi → WA cy0 Ki Li 6 i kb (fi qW) → eW E (7 + 9 * i) (142 + 117 * i) Li fi 71 [(0, .ref w), (3, .int (Int32.ofInt (i : Int)))] [] := by
    intro N
    induction N with
    | zero =>
      intro i hi Li Ai Ki fi gi hA
      have hi0 : i = 6 := by omega
      subst hi0
      refine x_iload_n hE (z := 3) (i := 3) (x := Int32.ofInt ((6 : Nat) : Int)) (by decide +kernel) rfl (by simp) ?_
      refine x_iconst hE (i := 5) (v := 5) (by decide +kernel) (by decide +kernel) ?_
      refine x_icmp_gt hE (off := 22) (tgt := 95) (by decide +kernel) rfl (fun _ => ?_) (fun hn => absurd (by decide) hn)
      have hcW := WA_cok (B := B) hzW.1 hzW.2 (fun i hi => (hkb i hi).2) hA
      obtain ⟨gg, hfw, old⟩ := GR.arr hwp hqW g48 gi hcW
      have gt := GR.tr hw g2 gg
      have hS := gt.2.1
      have hS2 := g48.2.1
      simp only [List.nil_append, List.cons_append, List.map_cons, List.map_nil, List.cons.injEq, and_true] at hS2
      obtain ⟨e2, e3, e4, e5, e6⟩ := hS2
      have hS1 := g2.2.1
      simp only [List.nil_append, List.cons_append, List.map_cons, List.map_nil, List.cons.injEq, and_true] at hS1
      have inq1 : q1 ∈ L2 := by
        rw [g2.1]
        simp
      have kq1 : q1 ∈ Li ∧ Ki q1 = k1 := ⟨gg.sub inq1, (gg.2.2.1 q1 inq1).trans hS1⟩
      have mem : ∀ q, q ∈ [q2, q3, q4, q5, q6] → q ∈ L38 := fun q hq => by
        rw [g48.1]
        exact List.mem_append_right _ hq
      have kWm : qW ∈ Li ∧ Ki qW = kW := by
        have h9 := old qW (g48.sub hqm)
        exact ⟨h9.1, by rw [h9.2, g48.2.2.1 qW hqm, va_up_self]⟩
      have keep : ∀ p {kp : Nat}, (p ∈ L ∧ K p = kp) → p ∈ Li ∧ Ki p = kp := fun p kp hp => ⟨gt.sub hp.1, (gt.2.2.1 p hp.1).trans hp.2⟩
      have hck : cok cy0 Ki B Li kw (fi w) := by
        rw [hfw, h48]
        exact cok_O hz ⟨fk0 b0, fk2 kq1, fk2 (keep p1 hp1), fk2 (keep p2 hp2), fk2 kWm, fk2 ⟨(old q2 (mem q2 (by simp))).1, (old q2 (mem q2 (by simp))).2.trans e2⟩, fk2 ⟨(old q3 (mem q3 (by simp))).1, (old q3 (mem q3 (by simp))).2.trans e3⟩, fk2 ⟨(old q4 (mem q4 (by simp))).1, (old q4 (mem q4 (by simp))).2.trans e4⟩, fk2 ⟨(old q5 (mem q5 (by simp))).1, (old q5 (mem q5 (by simp))).2.trans e5⟩, fk2 ⟨(old q6 (mem q6 (by simp))).1, (old q6 (mem q6 (by simp))).2.trans e6⟩, trivial⟩
      exact hret _ _ Li fi 95 _ (Nat.le_of_ble_eq_true rfl) (Nat.le_of_ble_eq_true rfl) (by decide +kernel) ⟨_, Ki, gt, hck⟩
    | succ N ih =>
      intro i hi Li Ai Ki fi gi hA
      have ei : (Int32.ofInt (i : Int)).toInt = i := i32i (by omega) (by omega)
      obtain ⟨hWK, hkel⟩ := hkb i (by omega)
      refine x_iload_n hE (z := 3) (i := 3) (x := Int32.ofInt (i : Int)) (by decide +kernel) rfl (by simp) ?_
      refine x_iconst hE (i := 5) (v := 5) (by decide +kernel) (by decide +kernel) ?_
      refine x_icmp_gt hE (off := 22) (tgt := 95) (by decide +kernel) rfl (fun hq => ?_) (fun _ => ?_)
      · exfalso
        have ec : (5 : Int32).toInt = 5 := by decide +kernel
        rw [Int32.lt_iff_toInt_lt, ei, ec] at hq
        omega
      · have hqi : qW ∈ Li := gi.sub (g48.sub hqm)
        have hwi : w ∈ Li := gi.sub (g48.sub hwm)
        have hfi : fi w = .inr (2, [.int 0, .ref q1, .ref p1, .ref p2, .ref qW, .ref q2, .ref q3, .ref q4, .ref q5, .ref q6]) := (gi.2.2.2.2.2.1 w (g48.sub hwm) (Ne.symm nqw)).trans h48
        refine x_aload_n hE (z := 0) (i := 0) (x := w) (by decide +kernel) rfl (by simp) ?_
        refine r_get (v := .ref qW) hE fX2_ok (List.mem_of_getElem? (i := 1) rfl) hwi hfi rfl (by decide +kernel) ?_
        refine x_iload_n hE (z := 3) (i := 3) (x := Int32.ofInt (i : Int)) (by decide +kernel) rfl (by simp) ?_
        refine h_new (ci := 10) (fs := [.null, .null, .null, .null, .null, .null, .int 0, .int 0, .int 0, .int 0, .int 0, .int 0, .int 0, .null, .null]) (ty0 := tyX10) hE rfl inZX10 tyX10_ok q503 q209 q116 (by decide +kernel) (by show 7 + 9 * i + 1 ≤ 61; omega) (by show 142 + 117 * i + 15 ≤ 844; omega) (by decide +kernel) (fun w1 hw1 => ?_)
        refine x_dup hE (by decide +kernel) rfl ?_
        have hM := n_W (X0 := (l0, D0, cy0, ax0)) (B := B) (K := va_up Ki w1 (kb i)) (L := Li ++ [w1]) (f := va_up fi w1 (.inr (10, [.null, .null, .null, .null, .null, .null, .int 0, .int 0, .int 0, .int 0, .int 0, .int 0, .int 0, .null, .null]))) (w := w1) (b := kb i) hWK (List.mem_append_right _ (List.mem_singleton.mpr rfl)) (va_up_self _ _ _)
        refine c_all hE (r_IN (st := [.ref w1, .int (Int32.ofInt (i : Int)), .ref qW]) hE hM (List.mem_of_getElem? (i := 6) rfl) q211 q116 q212 rfl ⟨by decide +kernel, by decide +kernel, pd_world⟩ ⟨by decide, by decide⟩ ⟨by show 7 + 9 * i + 1 + 8 ≤ 61; omega, by show 142 + 117 * i + 15 + 102 ≤ 844; omega⟩ rfl (by simp [Value.category]) (by decide +kernel)) (fun r L4 f4 ht hp => ?_)
        obtain rfl : r = none := ht
        obtain ⟨A4, K4, g4, hck4⟩ := hp
        obtain ⟨gg, old, hin1, kw1⟩ := GR.obj gi hw1 g4 hck4
        obtain ⟨fs4, hfs4⟩ := X10_fs hWK hck4
        obtain ⟨ga, hga, ha1, ha2⟩ := hA
        have hf4 : f4 qW = zRA (cy0 4) 6 ga := (old qW hqi).2.2.trans hga
        refine h_aast (t0 := 4) (N0 := 6) (ci := 10) hE (old qW hqi).1 hf4 hin1 hfs4 rfl (fun _ => rfl) (by rw [vp_in_iff, ei]; omega) (by decide +kernel) ?_
        have et : (Int32.ofInt (i : Int)).toNatClampNeg = i := by
          show (Int32.ofInt (i : Int)).toInt.toNat = i
          rw [ei, Int.toNat_natCast]
        rw [et]
        have gp := gg.put (g48.sub hqm) (zRA (cy0 4) 6 (va_up ga i (some w1)))
        refine x_sub (lv' := [(3, .int (Int32.ofInt (i : Int))), (0, .ref w)]) (fun q hq => by
          simp only [List.mem_cons, List.not_mem_nil, or_false] at hq
          rcases hq with h | h <;> simp [h]) ?_
        refine x_iinc hE (i := 3) (z := 1) (x := Int32.ofInt (i : Int)) (v := Int32.ofInt ((i + 1 : Nat) : Int)) (by decide +kernel) 0 rfl (by rw [i32ofadd (by omega) (by omega)]; rfl) (by decide) rfl ?_
        refine x_goto hE (off := -21) (tgt := 71) (by decide +kernel) rfl ?_
        refine x_sub (lv' := [(0, .ref w), (3, .int (Int32.ofInt ((i + 1 : Nat) : Int)))]) (fun q hq => by
          simp only [List.mem_cons, List.not_mem_nil, or_false] at hq
          rcases hq with h | h <;> simp [h, Value.category]) ?_
        have nx := ih (i + 1) (by omega) L4 _ K4 _ gp ⟨va_up ga i (some w1), va_up_self _ _ _, fun j hj => ?_, fun j hj => ?_⟩
        · have e1 : 7 + 9 * (i + 1) = 7 + 9 * i + 1 + 8 := by omega
          have e2 : 142 + 117 * (i + 1) = 142 + 117 * i + 15 + 102 := by omega
          rw [e1, e2] at nx
          exact nx
        · by_cases hji : j = i
          · exact ⟨w1, by rw [hji, va_up_self], hin1, by rw [hji]; exact kw1⟩
          · obtain ⟨b, b1, b2, b3⟩ := ha1 j (by omega)
            obtain ⟨c1, c2, -⟩ := old b b2
            exact ⟨b, by rw [va_up_ne _ _ hji]; exact b1, c1, c2.trans b3⟩
        · rw [va_up_ne _ _ (by omega)]
          exact ha2 j (by omega)
  refine x_iconst hE (i := 0) (v := Int32.ofInt ((0 : Nat) : Int)) (by decide +kernel) rfl ?_
  refine x_istore_n hE (z := 3) (i := 3) (by decide +kernel) rfl (by decide) rfl ?_
  refine x_sub (lv' := [(0, .ref w), (3, .int (Int32.ofInt ((0 : Nat) : Int)))]) (fun q hq => by
    simp only [List.mem_cons, List.not_mem_nil, or_false] at hq
    rcases hq with h | h <;> simp [h, Value.category, lv_args]) ?_
  exact go 6 0 rfl L38 [] K38 f48 GR.rf ⟨fun _ => none, a48, fun j hj => absurd hj (by omega), fun _ _ => rfl⟩
