/-! What is counted. -/
def misN (v h : Nat → Int) (t : Int) : Nat → Int
  | 0 => 0
  | k + 1 => misN v h t k + (if h k = 1 ∧ v k < t then 1 else 0)
def falN (v h : Nat → Int) (t : Int) : Nat → Int
  | 0 => 0
  | k + 1 => falN v h t k + (if h k = 0 ∧ t ≤ v k then 1 else 0)
theorem misN_bd (v h : Nat → Int) (t : Int) : ∀ k : Nat, 0 ≤ misN v h t k ∧ misN v h t k ≤ k := by
  intro k
  induction k with
  | zero => exact ⟨Int.le_refl _, Int.le_refl _⟩
  | succ k ih =>
    unfold misN
    split <;> omega
theorem falN_bd (v h : Nat → Int) (t : Int) : ∀ k : Nat, 0 ≤ falN v h t k ∧ falN v h t k ≤ k := by
  intro k
  induction k with
  | zero => exact ⟨Int.le_refl _, Int.le_refl _⟩
  | succ k ih =>
    unfold falN
    split <;> omega
theorem misN_1 {v h : Nat → Int} {t : Int} {k : Nat} (h1 : h k = 1) (h2 : v k < t) : misN v h t (k + 1) = 1 + misN v h t k := by
  show misN v h t k + (if h k = 1 ∧ v k < t then 1 else 0) = _
  rw [if_pos ⟨h1, h2⟩, Int.add_comm]
theorem misN_0 {v h : Nat → Int} {t : Int} {k : Nat} (h1 : h k = 0 ∨ t ≤ v k) : misN v h t (k + 1) = misN v h t k := by
  show misN v h t k + (if h k = 1 ∧ v k < t then 1 else 0) = _
  rw [if_neg (by omega), Int.add_zero]
theorem falN_1 {v h : Nat → Int} {t : Int} {k : Nat} (h1 : h k = 0) (h2 : t ≤ v k) : falN v h t (k + 1) = 1 + falN v h t k := by
  show falN v h t k + (if h k = 0 ∧ t ≤ v k then 1 else 0) = _
  rw [if_pos ⟨h1, h2⟩, Int.add_comm]
theorem falN_0 {v h : Nat → Int} {t : Int} {k : Nat} (h1 : h k = 1 ∨ v k < t) : falN v h t (k + 1) = falN v h t k := by
  show falN v h t k + (if h k = 0 ∧ t ≤ v k then 1 else 0) = _
  rw [if_neg (by omega), Int.add_zero]
abbrev Q_misses : MT := (yX1_misses, cX1_misses, 4, (some .int))
theorem qm_misses : mt 209 = Q_misses := rfl
theorem hc_misses {X0 : zC0} (H : ∀ j, j < 427 → CMj X0 j) {K : Nat → Nat} {B : Int} {L : List Nat} {f : Nat → va_E} (hh : hok X0.2.2.1 K B L f) {li c : Nat} {t : Int} {v h : Nat → Int} (hli : li ∈ L ∧ K li = 62) (ht : (-2147483648) ≤ t ∧ t ≤ 2147483647) (hF : LF K L f 62 c v h) (ho : okF c v h) : HC X0 Q_misses 1 0 [] [.ref li, .int (Int32.ofInt t)] K B L f (fun _ _ _ _ r => r = some (.int (Int32.ofInt (misN v h t c)))) := by
  refine eM.mk ⟨_, rfl⟩ pnX1 (Nat.le_of_ble_eq_true rfl) (fun E hE _ hret => ?_)
  obtain ⟨l0, D0, cy0, ax0⟩ := X0
  have go : ∀ (N k : Nat) (K1 : Nat → Nat) (B1 : Int) (L1 : List Nat) (f1 : Nat → va_E), k + N = c → hok cy0 K1 B1 L1 f1 → extC [] K B L f K1 B1 L1 f1 → eW E 0 0 L1 f1 4 [(0, .ref li), (1, .int (Int32.ofInt t)), (2, .int (Int32.ofInt (misN v h t k))), (3, .int (Int32.ofInt (k : Int)))] [] := by
    intro N
    induction N with
    | zero =>
      intro k K1 B1 L1 f1 hk h1 e1
      have hkc : k = c := by omega
      subst hkc
      have hl1 := exin e1 hli
      have F1 := hF.e0 e1 (Or.inl rfl)
      have hbd := misN_bd v h t k
      have hc12 := ho.1
      refine s_ms4 H hE h1 ht (by omega) (by omega) hl1 (fun K2 B2 L2 f2 v3_2 r1_2 h2 e2 u2_0 u2_1 u2_2 u2_3 u2_4 u2_5 u2_6 u2_7 => ?_) (fun K3 B3 L3 f3 v3_3 h3 e3 u3_0 u3_1 u3_2 u3_3 u3_4 u3_5 u3_6 => ?_)
      · have hc := u2_7 li u2_5.1 u2_5.2
        rw [(F1.e0 e2 (Or.inl rfl)).1 li u2_5.1 u2_5.2] at hc
        omega
      · refine s_ms45 H hE h3 ht (by omega) (by omega) u3_5 (fun K4 B4 L4 f4 h4 e4 u4_0 u4_1 u4_2 u4_3 => ?_)
        exact hret 0 0 L4 f4 46 _ _ (Nat.le_refl _) (Nat.le_refl _) (by decide +kernel) (fun ft hft => by cases hft; rfl) ⟨K4, B4, h4, extC_tr (extC_tr e1 e3) e4, rfl⟩
    | succ N ih =>
      intro k K1 B1 L1 f1 hk h1 e1
      have hl1 := exin e1 hli
      have F1 := hF.e0 e1 (Or.inl rfl)
      have hbd := misN_bd v h t k
      have hc12 := ho.1
      have hkc : k < c := by omega
      obtain ⟨hv9, h01⟩ := ho.2 k hkc
      refine s_ms4 H hE h1 ht (by omega) (by omega) hl1 (fun K2 B2 L2 f2 v3_2 r1_2 h2 e2 u2_0 u2_1 u2_2 u2_3 u2_4 u2_5 u2_6 u2_7 => ?_) (fun K3 B3 L3 f3 v3_3 h3 e3 u3_0 u3_1 u3_2 u3_3 u3_4 u3_5 u3_6 => ?_)
      · have F2 := F1.e0 e2 (Or.inl rfl)
        refine w_zld hE h2 u2_6 (by decide) (by decide) (by omega) (by show (k : Int) < 12; omega) (by decide +kernel) ?_
        rw [Int.toNat_natCast, (F2.2 k hkc).2 _ u2_6.1 u2_6.2]
        have hm : ∀ b ∈ L2, K2 b = 66 → (0 : Int) ≤ (k : Int) ∧ gi (f2 b) ((k : Int)).toNat = v k := fun b hb hkb => ⟨by omega, by rw [Int.toNat_natCast]; exact (F2.2 k hkc).1 b hb hkb⟩
        have e02 := extC_tr e1 e2
        have ek : 1 + (k : Int) = ((k + 1 : Nat) : Int) := by omega
        rcases h01 with h0 | h0
        · rw [h0]
          refine s_ms19z H hE h2 ht (by omega) (by omega) u2_5 (fun K5 B5 L5 f5 h5 e5 u5_0 u5_1 u5_2 u5_3 => ?_)
          rw [ek, ← misN_0 (v := v) (h := h) (t := t) (k := k) (Or.inl h0)]
          exact ih (k + 1) K5 B5 L5 f5 (by omega) h5 (extC_tr e02 e5)
        · rw [h0]
          rcases Int.lt_or_le (v k) t with hlt | hge
          · refine s_ms19a H hE h2 ht (by omega) (by omega) (v3 := v k) (by omega) (by omega) u2_5 hm (fun K5 B5 L5 f5 h5 e5 u5_0 u5_1 u5_2 u5_3 u5_4 u5_5 u5_6 => ?_)
            rw [ek, ← misN_1 h0 hlt]
            exact ih (k + 1) K5 B5 L5 f5 (by omega) h5 (extC_tr e02 e5)
          · refine s_ms19b H hE h2 ht (by omega) (by omega) (v3 := v k) (by omega) (by omega) u2_5 hm (fun K5 B5 L5 f5 h5 e5 u5_0 u5_1 u5_2 u5_3 u5_4 u5_5 u5_6 => ?_)
            rw [ek, ← misN_0 (Or.inr hge)]
            exact ih (k + 1) K5 B5 L5 f5 (by omega) h5 (extC_tr e02 e5)
      · have hc := u3_6 li u3_5.1 u3_5.2
        rw [(F1.e0 e3 (Or.inl rfl)).1 li u3_5.1 u3_5.2] at hc
        omega
  refine s_ms0 H hE hh ht hli (fun K9 B9 L9 f9 h9 e9 u9_0 u9_1 => ?_)
  exact go c 0 K9 B9 L9 f9 (by omega) h9 e9
abbrev Q_alarms : MT := (yX1_falseAlarms, cX1_falseAlarms, 4, (some .int))
theorem qm_alarms : mt 208 = Q_alarms := rfl
theorem hc_alarms {X0 : zC0} (H : ∀ j, j < 427 → CMj X0 j) {K : Nat → Nat} {B : Int} {L : List Nat} {f : Nat → va_E} (hh : hok X0.2.2.1 K B L f) {li c : Nat} {t : Int} {v h : Nat → Int} (hli : li ∈ L ∧ K li = 62) (ht : (-2147483648) ≤ t ∧ t ≤ 2147483647) (hF : LF K L f 62 c v h) (ho : okF c v h) : HC X0 Q_alarms 1 0 [] [.ref li, .int (Int32.ofInt t)] K B L f (fun _ _ _ _ r => r = some (.int (Int32.ofInt (falN v h t c)))) := by
  refine eM.mk ⟨_, rfl⟩ pnX1 (Nat.le_of_ble_eq_true rfl) (fun E hE _ hret => ?_)
  obtain ⟨l0, D0, cy0, ax0⟩ := X0
  have go : ∀ (N k : Nat) (K1 : Nat → Nat) (B1 : Int) (L1 : List Nat) (f1 : Nat → va_E), k + N = c → hok cy0 K1 B1 L1 f1 → extC [] K B L f K1 B1 L1 f1 → eW E 0 0 L1 f1 4 [(0, .ref li), (1, .int (Int32.ofInt t)), (2, .int (Int32.ofInt (falN v h t k))), (3, .int (Int32.ofInt (k : Int)))] [] := by
    intro N
    induction N with
    | zero =>
      intro k K1 B1 L1 f1 hk h1 e1
      have hkc : k = c := by omega
      subst hkc
      have hl1 := exin e1 hli
      have F1 := hF.e0 e1 (Or.inl rfl)
      have hbd := falN_bd v h t k
      have hc12 := ho.1
      refine s_fa4 H hE h1 ht (by omega) (by omega) hl1 (fun K2 B2 L2 f2 v3_2 r1_2 h2 e2 u2_0 u2_1 u2_2 u2_3 u2_4 u2_5 u2_6 u2_7 => ?_) (fun K3 B3 L3 f3 v3_3 h3 e3 u3_0 u3_1 u3_2 u3_3 u3_4 u3_5 u3_6 => ?_)
      · have hc := u2_7 li u2_5.1 u2_5.2
        rw [(F1.e0 e2 (Or.inl rfl)).1 li u2_5.1 u2_5.2] at hc
        omega
      · refine s_fa45 H hE h3 ht (by omega) (by omega) u3_5 (fun K4 B4 L4 f4 h4 e4 u4_0 u4_1 u4_2 u4_3 => ?_)
        exact hret 0 0 L4 f4 46 _ _ (Nat.le_refl _) (Nat.le_refl _) (by decide +kernel) (fun ft hft => by cases hft; rfl) ⟨K4, B4, h4, extC_tr (extC_tr e1 e3) e4, rfl⟩
    | succ N ih =>
      intro k K1 B1 L1 f1 hk h1 e1
      have hl1 := exin e1 hli
      have F1 := hF.e0 e1 (Or.inl rfl)
      have hbd := falN_bd v h t k
      have hc12 := ho.1
      have hkc : k < c := by omega
      obtain ⟨hv9, h01⟩ := ho.2 k hkc
      refine s_fa4 H hE h1 ht (by omega) (by omega) hl1 (fun K2 B2 L2 f2 v3_2 r1_2 h2 e2 u2_0 u2_1 u2_2 u2_3 u2_4 u2_5 u2_6 u2_7 => ?_) (fun K3 B3 L3 f3 v3_3 h3 e3 u3_0 u3_1 u3_2 u3_3 u3_4 u3_5 u3_6 => ?_)
      · have F2 := F1.e0 e2 (Or.inl rfl)
        refine w_zld hE h2 u2_6 (by decide) (by decide) (by omega) (by show (k : Int) < 12; omega) (by decide +kernel) ?_
        rw [Int.toNat_natCast, (F2.2 k hkc).2 _ u2_6.1 u2_6.2]
        have hm : ∀ b ∈ L2, K2 b = 66 → (0 : Int) ≤ (k : Int) ∧ gi (f2 b) ((k : Int)).toNat = v k := fun b hb hkb => ⟨by omega, by rw [Int.toNat_natCast]; exact (F2.2 k hkc).1 b hb hkb⟩
        have e02 := extC_tr e1 e2
        have ek : 1 + (k : Int) = ((k + 1 : Nat) : Int) := by omega
        rcases h01 with h0 | h0
        · rw [h0]
          rcases Int.lt_or_le (v k) t with hlt | hge
          · refine s_fa19a H hE h2 ht (by omega) (by omega) (v3 := v k) (by omega) (by omega) u2_5 hm (fun K5 B5 L5 f5 h5 e5 u5_0 u5_1 u5_2 u5_3 u5_4 u5_5 u5_6 => ?_)
            rw [ek, ← falN_0 (Or.inr hlt)]
            exact ih (k + 1) K5 B5 L5 f5 (by omega) h5 (extC_tr e02 e5)
          · refine s_fa19b H hE h2 ht (by omega) (by omega) (v3 := v k) (by omega) (by omega) u2_5 hm (fun K5 B5 L5 f5 h5 e5 u5_0 u5_1 u5_2 u5_3 u5_4 u5_5 u5_6 => ?_)
            rw [ek, ← falN_1 h0 hge]
            exact ih (k + 1) K5 B5 L5 f5 (by omega) h5 (extC_tr e02 e5)
        · rw [h0]
          refine s_fa19z H hE h2 ht (by omega) (by omega) u2_5 (fun K5 B5 L5 f5 h5 e5 u5_0 u5_1 u5_2 u5_3 => ?_)
          rw [ek, ← falN_0 (v := v) (h := h) (t := t) (k := k) (Or.inl h0)]
          exact ih (k + 1) K5 B5 L5 f5 (by omega) h5 (extC_tr e02 e5)
      · have hc := u3_6 li u3_5.1 u3_5.2
        rw [(F1.e0 e3 (Or.inl rfl)).1 li u3_5.1 u3_5.2] at hc
        omega
  refine s_fa0 H hE hh ht hli (fun K9 B9 L9 f9 h9 e9 u9_0 u9_1 => ?_)
  exact go c 0 K9 B9 L9 f9 (by omega) h9 e9
