/-! What is traded at a price. -/
def bouN (b p d : Nat → Int) (t : Int) : Nat → Int
  | 0 => 0
  | k + 1 => bouN b p d t k + (if b k = 1 ∧ t ≤ p k then d k else 0)
def selN (b p d : Nat → Int) (t : Int) : Nat → Int
  | 0 => 0
  | k + 1 => selN b p d t k + (if b k = 0 ∧ p k ≤ t then d k else 0)
def trdN (b p d : Nat → Int) (o : Nat) (t : Int) : Int := if bouN b p d t o < selN b p d t o then bouN b p d t o else selN b p d t o
theorem bouN_bd {o : Nat} {b p d : Nat → Int} (ho : okO o b p d) (t : Int) : ∀ k : Nat, k ≤ o → 0 ≤ bouN b p d t k ∧ bouN b p d t k ≤ 99 * k := by
  intro k
  induction k with
  | zero => intro _; exact ⟨Int.le_refl _, Int.le_refl _⟩
  | succ k ih =>
    intro hk
    have h1 := ih (by omega)
    have h2 := (ho.2 k (by omega)).2.2
    unfold bouN
    split <;> omega
theorem selN_bd {o : Nat} {b p d : Nat → Int} (ho : okO o b p d) (t : Int) : ∀ k : Nat, k ≤ o → 0 ≤ selN b p d t k ∧ selN b p d t k ≤ 99 * k := by
  intro k
  induction k with
  | zero => intro _; exact ⟨Int.le_refl _, Int.le_refl _⟩
  | succ k ih =>
    intro hk
    have h1 := ih (by omega)
    have h2 := (ho.2 k (by omega)).2.2
    unfold selN
    split <;> omega
theorem trdN_bd {o : Nat} {b p d : Nat → Int} (ho : okO o b p d) (t : Int) : 0 ≤ trdN b p d o t ∧ trdN b p d o t ≤ 990 := by
  have h1 := bouN_bd ho t o (Nat.le_refl _)
  have h2 := selN_bd ho t o (Nat.le_refl _)
  have h3 := ho.1
  unfold trdN
  split <;> omega
theorem bouN_1 {b p d : Nat → Int} {t : Int} {k : Nat} (h1 : b k = 1) (h2 : t ≤ p k) : bouN b p d t (k + 1) = d k + bouN b p d t k := by
  show bouN b p d t k + (if b k = 1 ∧ t ≤ p k then d k else 0) = _
  rw [if_pos ⟨h1, h2⟩, Int.add_comm]
theorem bouN_0 {b p d : Nat → Int} {t : Int} {k : Nat} (h1 : b k = 0 ∨ p k < t) : bouN b p d t (k + 1) = bouN b p d t k := by
  show bouN b p d t k + (if b k = 1 ∧ t ≤ p k then d k else 0) = _
  rw [if_neg (by omega), Int.add_zero]
theorem selN_1 {b p d : Nat → Int} {t : Int} {k : Nat} (h1 : b k = 0) (h2 : p k ≤ t) : selN b p d t (k + 1) = d k + selN b p d t k := by
  show selN b p d t k + (if b k = 0 ∧ p k ≤ t then d k else 0) = _
  rw [if_pos ⟨h1, h2⟩, Int.add_comm]
theorem selN_0 {b p d : Nat → Int} {t : Int} {k : Nat} (h1 : b k = 1 ∨ t < p k) : selN b p d t (k + 1) = selN b p d t k := by
  show selN b p d t k + (if b k = 0 ∧ p k ≤ t then d k else 0) = _
  rw [if_neg (by omega), Int.add_zero]
abbrev Q_traded : MT := (yX1_traded, cX1_traded, 5, (some .int))
theorem qm_traded : mt 210 = Q_traded := rfl
theorem hc_traded {X0 : zC0} (H : ∀ j, j < 427 → CMj X0 j) {K : Nat → Nat} {B : Int} {L : List Nat} {f : Nat → va_E} (hh : hok X0.2.2.1 K B L f) {li o : Nat} {t : Int} {bu pr dr : Nat → Int} (hli : li ∈ L ∧ K li = 62) (ht : (-2147483648) ≤ t ∧ t ≤ 2147483647) (hO : LO K L f 62 o bu pr dr) (ho : okO o bu pr dr) : HC X0 Q_traded 1 0 [] [.ref li, .int (Int32.ofInt t)] K B L f (fun _ _ _ _ r => r = some (.int (Int32.ofInt (trdN bu pr dr o t)))) := by
  refine eM.mk ⟨_, rfl⟩ pnX1 (Nat.le_of_ble_eq_true rfl) (fun E hE _ hret => ?_)
  obtain ⟨l0, D0, cy0, ax0⟩ := X0
  have ho10 := ho.1
  have go : ∀ (N k : Nat) (K1 : Nat → Nat) (B1 : Int) (L1 : List Nat) (f1 : Nat → va_E), k + N = o → hok cy0 K1 B1 L1 f1 → extC [] K B L f K1 B1 L1 f1 → eW E 0 0 L1 f1 7 [(0, .ref li), (1, .int (Int32.ofInt t)), (2, .int (Int32.ofInt (bouN bu pr dr t k))), (3, .int (Int32.ofInt (selN bu pr dr t k))), (4, .int (Int32.ofInt (k : Int)))] [] := by
    intro N
    induction N with
    | zero =>
      intro k K1 B1 L1 f1 hk h1 e1
      have hko : k = o := by omega
      subst hko
      have hl1 := exin e1 hli
      have F1 := hO.e0 e1 (Or.inl rfl)
      have bb := bouN_bd ho t k (Nat.le_refl _)
      have bs := selN_bd ho t k (Nat.le_refl _)
      refine s_tr7 H hE h1 ht (by omega) (by omega) (by omega) hl1 (fun K2 B2 L2 f2 v4_2 r1_2 h2 e2 u2_0 u2_1 u2_2 u2_3 u2_4 u2_5 u2_6 u2_7 u2_8 => ?_) (fun K3 B3 L3 f3 v4_3 h3 e3 u3_0 u3_1 u3_2 u3_3 u3_4 u3_5 u3_6 u3_7 => ?_)
      · have hc := u2_8 li u2_6.1 u2_6.2
        rw [(F1.e0 e2 (Or.inl rfl)).1 li u2_6.1 u2_6.2] at hc
        omega
      · by_cases hlt : bouN bu pr dr t k < selN bu pr dr t k
        · refine s_tr92a H hE h3 ht (by omega) (by omega) (by omega) (by omega) u3_6 (fun K4 B4 L4 f4 h4 e4 u4_0 u4_1 u4_2 u4_3 u4_4 u4_5 u4_6 => ?_)
          exact hret 0 0 L4 f4 97 _ _ (Nat.le_refl _) (Nat.le_refl _) (by decide +kernel) (fun ft hft => by cases hft; rfl) ⟨K4, B4, h4, extC_tr (extC_tr e1 e3) e4, by unfold trdN; rw [if_pos hlt]⟩
        · refine s_tr92b H hE h3 ht (by omega) (by omega) (by omega) (by omega) u3_6 (fun K4 B4 L4 f4 v4_4 h4 e4 u4_0 u4_1 u4_2 u4_3 u4_4 u4_5 u4_6 u4_7 u4_8 u4_9 => ?_)
          have e9 : v4_4 = selN bu pr dr t k := by omega
          exact hret 0 0 L4 f4 97 _ _ (Nat.le_refl _) (Nat.le_refl _) (by decide +kernel) (fun ft hft => by cases hft; rfl) ⟨K4, B4, h4, extC_tr (extC_tr e1 e3) e4, by unfold trdN; rw [if_neg hlt, e9]⟩
    | succ N ih =>
      intro k K1 B1 L1 f1 hk h1 e1
      have hl1 := exin e1 hli
      have F1 := hO.e0 e1 (Or.inl rfl)
      have hko : k < o := by omega
      have bb := bouN_bd ho t k (by omega)
      have bs := selN_bd ho t k (by omega)
      obtain ⟨h01, hp9, hd9⟩ := ho.2 k hko
      refine s_tr7 H hE h1 ht (by omega) (by omega) (by omega) hl1 (fun K2 B2 L2 f2 v4_2 r1_2 h2 e2 u2_0 u2_1 u2_2 u2_3 u2_4 u2_5 u2_6 u2_7 u2_8 => ?_) (fun K3 B3 L3 f3 v4_3 h3 e3 u3_0 u3_1 u3_2 u3_3 u3_4 u3_5 u3_6 u3_7 => ?_)
      · have F2 := F1.e0 e2 (Or.inl rfl)
        refine w_zld hE h2 u2_7 (by decide) (by decide) (by omega) (by show (k : Int) < 10; omega) (by decide +kernel) ?_
        rw [Int.toNat_natCast, (F2.2 k hko).1 _ u2_7.1 u2_7.2]
        have ek : 1 + (k : Int) = ((k + 1 : Nat) : Int) := by omega
        have e02 := extC_tr e1 e2
        have ms : ∀ {K5 : Nat → Nat} {B5 : Int} {L5 : List Nat} {f5 : Nat → va_E}, extC [] K2 B2 L2 f2 K5 B5 L5 f5 → (∀ b ∈ L5, K5 b = 69 → (0 : Int) ≤ (k : Int) ∧ gi (f5 b) ((k : Int)).toNat = pr k) ∧ (∀ b ∈ L5, K5 b = 70 → (0 : Int) ≤ (k : Int) ∧ gi (f5 b) ((k : Int)).toNat = dr k) := fun e5 => ⟨fun b hb hkb => ⟨by omega, by rw [Int.toNat_natCast]; exact ((F2.e0 e5 (Or.inl rfl)).2 k hko).2.1 b hb hkb⟩, fun b hb hkb => ⟨by omega, by rw [Int.toNat_natCast]; exact ((F2.e0 e5 (Or.inl rfl)).2 k hko).2.2 b hb hkb⟩⟩
        have m2 := ms (extC_rf (B := B2))
        have sec : ∀ (K5 : Nat → Nat) (B5 : Int) (L5 : List Nat) (f5 : Nat → va_E) (r5 : Nat), hok cy0 K5 B5 L5 f5 → extC [] K2 B2 L2 f2 K5 B5 L5 f5 → (li ∈ L5 ∧ K5 li = 62) → (r5 ∈ L5 ∧ K5 r5 = 68) → eW E 0 0 L5 f5 58 [(0, .ref li), (1, .int (Int32.ofInt t)), (2, .int (Int32.ofInt (bouN bu pr dr t (k + 1)))), (3, .int (Int32.ofInt (selN bu pr dr t k))), (4, .int (Int32.ofInt (k : Int)))] [.int (Int32.ofInt (k : Int)), .ref r5, .int (Int32.ofInt (selN bu pr dr t k))] := by
          intro K5 B5 L5 f5 r5 h5 e5 hl5 hr5
          have F5 := F2.e0 e5 (Or.inl rfl)
          have bb1 := bouN_bd ho t (k + 1) (by omega)
          have m5 := ms e5
          refine w_zld hE h5 hr5 (by decide) (by decide) (by omega) (by show (k : Int) < 10; omega) (by decide +kernel) ?_
          rw [Int.toNat_natCast, (F5.2 k hko).1 _ hr5.1 hr5.2]
          rcases h01 with h0 | h0
          · rw [h0]
            rcases Int.lt_or_le t (pr k) with hlt | hge
            · refine s_tr59b H hE h5 ht (by omega) (by omega) (by omega) (v4 := pr k) (by omega) (v5 := dr k) (by omega) (by omega) hl5 m5.1 m5.2 (fun K6 B6 L6 f6 h6 e6 u6_0 u6_1 u6_2 u6_3 u6_4 u6_5 u6_6 u6_7 u6_8 u6_9 => ?_)
              rw [ek, ← selN_0 (b := bu) (p := pr) (d := dr) (t := t) (k := k) (Or.inr hlt)]
              exact ih (k + 1) K6 B6 L6 f6 (by omega) h6 (extC_tr (extC_tr e02 e5) e6)
            · refine s_tr59a H hE h5 ht (by omega) (by omega) (by omega) (v4 := pr k) (by omega) (v5 := dr k) (by omega) (by omega) hl5 m5.1 m5.2 (fun K6 B6 L6 f6 h6 e6 u6_0 u6_1 u6_2 u6_3 u6_4 u6_5 u6_6 u6_7 u6_8 u6_9 => ?_)
              rw [ek, ← selN_1 (b := bu) (p := pr) (d := dr) (t := t) (k := k) h0 hge]
              exact ih (k + 1) K6 B6 L6 f6 (by omega) h6 (extC_tr (extC_tr e02 e5) e6)
          · rw [h0]
            refine s_tr59z H hE h5 ht (by omega) (by omega) (by omega) hl5 (fun K6 B6 L6 f6 h6 e6 u6_0 u6_1 u6_2 u6_3 u6_4 => ?_)
            rw [ek, ← selN_0 (b := bu) (p := pr) (d := dr) (t := t) (k := k) (Or.inl h0)]
            exact ih (k + 1) K6 B6 L6 f6 (by omega) h6 (extC_tr (extC_tr e02 e5) e6)
        rcases h01 with h0 | h0
        · rw [h0]
          refine s_tr24z H hE h2 ht (by omega) (by omega) (by omega) u2_6 (fun K4 B4 L4 f4 r1_4 h4 e4 u4_0 u4_1 u4_2 u4_3 u4_4 u4_5 => ?_)
          rw [← bouN_0 (b := bu) (p := pr) (d := dr) (t := t) (k := k) (Or.inl h0)]
          exact sec K4 B4 L4 f4 _ h4 e4 u4_4 u4_5
        · rw [h0]
          rcases Int.lt_or_le (pr k) t with hlt | hge
          · refine s_tr24b H hE h2 ht (by omega) (by omega) (by omega) (v4 := pr k) (by omega) (v5 := dr k) (by omega) (by omega) u2_6 m2.1 m2.2 (fun K4 B4 L4 f4 r1_4 h4 e4 u4_0 u4_1 u4_2 u4_3 u4_4 u4_5 u4_6 u4_7 u4_8 u4_9 u4_10 => ?_)
            rw [← bouN_0 (b := bu) (p := pr) (d := dr) (t := t) (k := k) (Or.inr hlt)]
            exact sec K4 B4 L4 f4 _ h4 e4 u4_7 u4_8
          · refine s_tr24a H hE h2 ht (by omega) (by omega) (by omega) (v4 := pr k) (by omega) (v5 := dr k) (by omega) (by omega) u2_6 m2.1 m2.2 (fun K4 B4 L4 f4 r1_4 h4 e4 u4_0 u4_1 u4_2 u4_3 u4_4 u4_5 u4_6 u4_7 u4_8 u4_9 u4_10 => ?_)
            rw [← bouN_1 (b := bu) (p := pr) (d := dr) (t := t) (k := k) h0 hge]
            exact sec K4 B4 L4 f4 _ h4 e4 u4_7 u4_8
      · have hc := u3_7 li u3_6.1 u3_6.2
        rw [(F1.e0 e3 (Or.inl rfl)).1 li u3_6.1 u3_6.2] at hc
        omega
  refine s_tr0 H hE hh ht hli (fun K9 B9 L9 f9 h9 e9 u9_0 u9_1 => ?_)
  exact go o 0 K9 B9 L9 f9 (by omega) h9 e9
abbrev Q_tradedAt : MT := (yX12_tradedAt, cX12_tradedAt, 6, (some .int))
theorem qm_tradedAt : mt 187 = Q_tradedAt := rfl
theorem hc_tradedAt {X0 : zC0} (H : ∀ j, j < 427 → CMj X0 j) {K : Nat → Nat} {B : Int} {L : List Nat} {f : Nat → va_E} (hh : hok X0.2.2.1 K B L f) {m o : Nat} {t : Int} {bu pr dr : Nat → Int} (hm : m ∈ L ∧ K m = 200) (ht : (-2147483648) ≤ t ∧ t ≤ 2147483647) (hO : MO K L f 201 o bu pr dr) (ho : okO o bu pr dr) : HC X0 Q_tradedAt 1 0 [] [.ref m, .int (Int32.ofInt t)] K B L f (fun _ _ _ _ r => r = some (.int (Int32.ofInt (trdN bu pr dr o t)))) := by
  refine eM.mk ⟨_, rfl⟩ pnX12 (Nat.le_of_ble_eq_true rfl) (fun E hE _ hret => ?_)
  obtain ⟨l0, D0, cy0, ax0⟩ := X0
  have ho10 := ho.1
  have go : ∀ (N k : Nat) (K1 : Nat → Nat) (B1 : Int) (L1 : List Nat) (f1 : Nat → va_E), k + N = o → hok cy0 K1 B1 L1 f1 → extC [] K B L f K1 B1 L1 f1 → eW E 0 0 L1 f1 7 [(0, .ref m), (1, .int (Int32.ofInt t)), (2, .int (Int32.ofInt (bouN bu pr dr t k))), (3, .int (Int32.ofInt (selN bu pr dr t k))), (4, .int (Int32.ofInt (k : Int)))] [] := by
    intro N
    induction N with
    | zero =>
      intro k K1 B1 L1 f1 hk h1 e1
      have hko : k = o := by omega
      subst hko
      have hm1 := exin e1 hm
      have F1 := hO.e0 ho10 e1 (Or.inl rfl)
      have bb := bouN_bd ho t k (Nat.le_refl _)
      have bs := selN_bd ho t k (Nat.le_refl _)
      refine s_tt7 H hE h1 ht (by omega) (by omega) (by omega) hm1 (fun K2 B2 L2 f2 v4_2 h2 e2 u2_0 u2_1 u2_2 u2_3 u2_4 u2_5 u2_6 u2_7 => ?_) (fun K3 B3 L3 f3 v4_3 h3 e3 u3_0 u3_1 u3_2 u3_3 u3_4 u3_5 u3_6 u3_7 => ?_)
      · obtain ⟨a, ha, hka, -⟩ := one_ad h2 201 (by decide) (by decide)
        have hc := (u2_7 a ha hka).2
        have hc' := (F1.e0 ho10 e2 (Or.inl rfl)).1 a ha hka
        have hc2 : gi (f2 a) 12 = v4_2 := hc
        omega
      · by_cases hlt : bouN bu pr dr t k < selN bu pr dr t k
        · refine s_tt107a H hE h3 ht (by omega) (by omega) (by omega) (by omega) u3_6 (fun K4 B4 L4 f4 h4 e4 u4_0 u4_1 u4_2 u4_3 u4_4 u4_5 => ?_)
          exact hret 0 0 L4 f4 117 _ _ (Nat.le_refl _) (Nat.le_refl _) (by decide +kernel) (fun ft hft => by cases hft; rfl) ⟨K4, B4, h4, extC_tr (extC_tr e1 e3) e4, by unfold trdN; rw [if_pos hlt]⟩
        · refine s_tt107b H hE h3 ht (by omega) (by omega) (by omega) (by omega) u3_6 (fun K4 B4 L4 f4 h4 e4 u4_0 u4_1 u4_2 u4_3 u4_4 u4_5 => ?_)
          exact hret 0 0 L4 f4 117 _ _ (Nat.le_refl _) (Nat.le_refl _) (by decide +kernel) (fun ft hft => by cases hft; rfl) ⟨K4, B4, h4, extC_tr (extC_tr e1 e3) e4, by unfold trdN; rw [if_neg hlt]⟩
    | succ N ih =>
      intro k K1 B1 L1 f1 hk h1 e1
      have hm1 := exin e1 hm
      have F1 := hO.e0 ho10 e1 (Or.inl rfl)
      have hko : k < o := by omega
      have bb := bouN_bd ho t k (by omega)
      have bs := selN_bd ho t k (by omega)
      obtain ⟨h01, hp9, hd9⟩ := ho.2 k hko
      have ek : 1 + (k : Int) = ((k + 1 : Nat) : Int) := by omega
      refine s_tt7 H hE h1 ht (by omega) (by omega) (by omega) hm1 (fun K2 B2 L2 f2 v4_2 h2 e2 u2_0 u2_1 u2_2 u2_3 u2_4 u2_5 u2_6 u2_7 => ?_) (fun K3 B3 L3 f3 v4_3 h3 e3 u3_0 u3_1 u3_2 u3_3 u3_4 u3_5 u3_6 u3_7 => ?_)
      · have F2 := F1.e0 ho10 e2 (Or.inl rfl)
        have e02 := extC_tr e1 e2
        have i0 : (156 + (3 * (k : Int))).toNat = 156 + 3 * k := by omega
        have i1 : (157 + (3 * (k : Int))).toNat = 157 + 3 * k := by omega
        have i2 : (158 + (3 * (k : Int))).toNat = 158 + 3 * k := by omega
        have m0 : ∀ y ∈ L2, K2 y = 201 → (0 : Int) ≤ (156 + (3 * (k : Int))) ∧ gi (f2 y) (((156 + (3 * (k : Int))) : Int)).toNat = bu k := fun y hy hky => ⟨by omega, by rw [i0]; exact (F2.2 k hko).1 y hy hky⟩
        have m1 : ∀ y ∈ L2, K2 y = 201 → (0 : Int) ≤ (157 + (3 * (k : Int))) ∧ gi (f2 y) (((157 + (3 * (k : Int))) : Int)).toNat = pr k := fun y hy hky => ⟨by omega, by rw [i1]; exact (F2.2 k hko).2.1 y hy hky⟩
        have m2 : ∀ y ∈ L2, K2 y = 201 → (0 : Int) ≤ (158 + (3 * (k : Int))) ∧ gi (f2 y) (((158 + (3 * (k : Int))) : Int)).toNat = dr k := fun y hy hky => ⟨by omega, by rw [i2]; exact (F2.2 k hko).2.2 y hy hky⟩
        have fin : ∀ (w w2 : Int) (K5 : Nat → Nat) (B5 : Int) (L5 : List Nat) (f5 : Nat → va_E) (x5 : Value), w = bouN bu pr dr t (k + 1) → w2 = selN bu pr dr t (k + 1) → hok cy0 K5 B5 L5 f5 → extC [] K2 B2 L2 f2 K5 B5 L5 f5 → eW E 0 0 L5 f5 7 [(0, .ref m), (1, .int (Int32.ofInt t)), (2, .int (Int32.ofInt w)), (3, .int (Int32.ofInt w2)), (4, .int (Int32.ofInt (1 + (k : Int)))), (5, x5)] [] := by
          intro w w2 K5 B5 L5 f5 x5 hw hw2 h5 e5
          rw [hw, hw2, ek]
          refine x_sub (lv' := [(0, .ref m), (1, .int (Int32.ofInt t)), (2, .int (Int32.ofInt (bouN bu pr dr t (k + 1)))), (3, .int (Int32.ofInt (selN bu pr dr t (k + 1)))), (4, .int (Int32.ofInt ((k + 1 : Nat) : Int)))]) (fun q hq => by
            simp only [List.mem_cons, List.not_mem_nil, or_false] at hq
            rcases hq with h | h | h | h | h <;> simp [h]) ?_
          exact ih (k + 1) K5 B5 L5 f5 (by omega) h5 (extC_tr e02 e5)
        rcases h01 with h0 | h0
        · rw [h0] at m0
          rcases Int.lt_or_le t (pr k) with hlt | hge
          · refine s_tt19d H hE h2 ht (by omega) (by omega) (by omega) (v4 := pr k) (by omega) (v5 := dr k) (by omega) (by omega) u2_6 m1 m2 m0 (fun K5 B5 L5 f5 h5 e5 u5_0 u5_1 u5_2 u5_3 u5_4 u5_5 u5_6 u5_7 u5_8 u5_9 u5_10 => ?_)
            exact fin _ _ K5 B5 L5 f5 _ (bouN_0 (Or.inl h0)).symm (selN_0 (Or.inr hlt)).symm h5 e5
          · refine s_tt19c H hE h2 ht (by omega) (by omega) (by omega) (v4 := pr k) (by omega) (v5 := dr k) (by omega) (by omega) u2_6 m1 m2 m0 (fun K5 B5 L5 f5 h5 e5 u5_0 u5_1 u5_2 u5_3 u5_4 u5_5 u5_6 u5_7 u5_8 u5_9 u5_10 => ?_)
            exact fin _ _ K5 B5 L5 f5 _ (bouN_0 (Or.inl h0)).symm (selN_1 h0 hge).symm h5 e5
        · rw [h0] at m0
          rcases Int.lt_or_le (pr k) t with hlt | hge
          · refine s_tt19b H hE h2 ht (by omega) (by omega) (by omega) (v4 := pr k) (by omega) (v5 := dr k) (by omega) (by omega) u2_6 m1 m2 m0 (fun K5 B5 L5 f5 h5 e5 u5_0 u5_1 u5_2 u5_3 u5_4 u5_5 u5_6 u5_7 u5_8 u5_9 u5_10 => ?_)
            exact fin _ _ K5 B5 L5 f5 _ (bouN_0 (Or.inr hlt)).symm (selN_0 (Or.inl h0)).symm h5 e5
          · refine s_tt19a H hE h2 ht (by omega) (by omega) (by omega) (v4 := pr k) (by omega) (v5 := dr k) (by omega) (by omega) u2_6 m1 m2 m0 (fun K5 B5 L5 f5 h5 e5 u5_0 u5_1 u5_2 u5_3 u5_4 u5_5 u5_6 u5_7 u5_8 u5_9 u5_10 => ?_)
            exact fin _ _ K5 B5 L5 f5 _ (bouN_1 h0 hge).symm (selN_0 (Or.inl h0)).symm h5 e5
      · obtain ⟨a, ha, hka, -⟩ := one_ad h3 201 (by decide) (by decide)
        have hc := (u3_7 a ha hka).2
        have hc' := (F1.e0 ho10 e3 (Or.inl rfl)).1 a ha hka
        have hc2 : gi (f3 a) 12 = v4_3 := hc
        omega
  refine s_tt0 H hE hh ht hm (fun K9 B9 L9 f9 h9 e9 u9_0 u9_1 => ?_)
  exact go o 0 K9 B9 L9 f9 (by omega) h9 e9
/-! The price. -/
def bstN (e : Int → Int) : Nat → Int
  | 0 => 0
  | k + 1 => if e (bstN e k) < e ((k : Int) + 1) then (k : Int) + 1 else bstN e k
theorem bstN_bd (e : Int → Int) : ∀ k : Nat, 0 ≤ bstN e k ∧ bstN e k ≤ k := by
  intro k
  induction k with
  | zero => exact ⟨Int.le_refl _, Int.le_refl _⟩
  | succ k ih =>
    unfold bstN
    split <;> omega
theorem bstN_1 {e : Int → Int} {k : Nat} (h : e (bstN e k) < e ((k : Int) + 1)) : bstN e (k + 1) = (k : Int) + 1 := if_pos h
theorem bstN_0 {e : Int → Int} {k : Nat} (h : ¬ e (bstN e k) < e ((k : Int) + 1)) : bstN e (k + 1) = bstN e k := if_neg h
def mktA (e : Int → Int) (t : Int) : Int := if t = -1 then bstN e 99 else if 0 ≤ t ∧ t ≤ 99 then e t else -1
theorem mktA_out {e : Int → Int} {t : Int} (h : t ≤ -2 ∨ 100 ≤ t) : mktA e t = -1 := by
  unfold mktA
  rw [if_neg (by omega), if_neg (by omega)]
theorem mktA_in {e : Int → Int} {t : Int} (h : 0 ≤ t ∧ t ≤ 99) : mktA e t = e t := by
  unfold mktA
  rw [if_neg (by omega), if_pos h]
abbrev Q_mkt11 : MT := (yX11_market, cX11_market, 4, (some .int))
theorem qm_mkt11 : mt 47 = Q_mkt11 := rfl
abbrev Q_mkt12 : MT := (yX12_market, cX12_market, 4, (some .int))
theorem qm_mkt12 : mt 136 = Q_mkt12 := rfl
theorem hc_mkt11 {X0 : zC0} (H : ∀ j, j < 427 → CMj X0 j) {K : Nat → Nat} {B : Int} {L : List Nat} {f : Nat → va_E} (hh : hok X0.2.2.1 K B L f) {x o : Nat} {t : Int} {bu pr dr : Nat → Int} (hx : x ∈ L ∧ K x = 197) (ht : (-2147483648) ≤ t ∧ t ≤ 2147483647) (hO : LO K L f 62 o bu pr dr) (ho : okO o bu pr dr) : HC X0 Q_mkt11 2 0 [] [.ref x, .int (Int32.ofInt t)] K B L f (fun _ _ _ _ q => q = some (.int (Int32.ofInt (mktA (trdN bu pr dr o) t)))) := by
  refine eM.mk ⟨_, rfl⟩ pnX11 (Nat.le_of_ble_eq_true rfl) (fun E hE _ hret => ?_)
  obtain ⟨l0, D0, cy0, ax0⟩ := X0
  have ho10 := ho.1
  have tb := fun t => trdN_bd ho t
  have go : t = -1 → ∀ (N k : Nat) (K1 : Nat → Nat) (B1 : Int) (L1 : List Nat) (f1 : Nat → va_E), k + N = 99 → hok cy0 K1 B1 L1 f1 → extC [] K B L f K1 B1 L1 f1 → eW E 0 0 L1 f1 35 [(0, .ref x), (1, .int (Int32.ofInt (-1))), (2, .int (Int32.ofInt (bstN (trdN bu pr dr o) k))), (3, .int (Int32.ofInt ((k : Int) + 1)))] [] := by
    intro ht1 N
    induction N with
    | zero =>
      intro k K1 B1 L1 f1 hk h1 e1
      have hbd := bstN_bd (trdN bu pr dr o) k
      have hk10 : k = 99 := by omega
      subst hk10
      refine s_mk35 H hE h1 (by omega) (by omega) (exin e1 hx) (fun K2 B2 L2 f2 r1_2 h2 e2 u2_0 u2_1 u2_2 u2_3 => ?_) (fun K3 B3 L3 f3 h3 e3 u3_0 u3_1 u3_2 => ?_)
      · omega
      · refine s_mk74 H hE h3 (by omega) (by omega) u3_2 (fun K4 B4 L4 f4 h4 e4 u4_0 u4_1 u4_2 => ?_)
        exact hret 0 0 L4 f4 75 _ _ (Nat.le_refl _) (Nat.le_refl _) (by decide +kernel) (fun ft hft => by cases hft; rfl) ⟨K4, B4, h4, extC_tr (extC_tr e1 e3) e4, by unfold mktA; rw [if_pos ht1]⟩
    | succ N ih =>
      intro k K1 B1 L1 f1 hk h1 e1
      have hbd := bstN_bd (trdN bu pr dr o) k
      generalize hbe : bstN (trdN bu pr dr o) k = be at hbd ⊢
      have t1 := tb ((k : Int) + 1)
      have t2 := tb be
      have ek : 1 + ((k : Int) + 1) = ((k + 1 : Nat) : Int) + 1 := by omega
      refine s_mk35 H hE h1 (by omega) (by omega) (exin e1 hx) (fun K2 B2 L2 f2 r1_2 h2 e2 u2_0 u2_1 u2_2 u2_3 => ?_) (fun K3 B3 L3 f3 h3 e3 u3_0 u3_1 u3_2 => ?_)
      · have F2 := (hO.e0 e1 (Or.inl rfl)).e0 e2 (Or.inl rfl)
        refine w_callV hE (hc_traded H h2 u2_3 (t := (k : Int) + 1) (by omega) F2 ho) lX11_ok (by decide : (397, 0, 210, 1, 2) ∈ lX11) qm_traded h2 u2_3.1 u2_3.2 (by decide) (by decide) (by decide) rfl rfl (by simp [Value.category]) (by decide +kernel) (fun r4 L4 f4 _ hp4 => ?_)
        obtain ⟨K4, B4, h4, e4, hr4⟩ := hp4
        dsimp only at h4 e4 hr4
        subst hr4
        have F4 := F2.e0 e4 (Or.inl rfl)
        refine s_mk52 H hE h4 (by omega) (by omega) (by omega) (exin e4 u2_2) (fun K5 B5 L5 f5 r1_5 h5 e5 u5_0 u5_1 u5_2 u5_3 u5_4 => ?_)
        refine w_callV hE (hc_traded H h5 u5_4 (t := be) (by omega) (F4.e0 e5 (Or.inl rfl)) ho) lX11_ok (by decide : (397, 0, 210, 1, 2) ∈ lX11) qm_traded h5 u5_4.1 u5_4.2 (by decide) (by decide) (by decide) rfl rfl (by simp [Value.category]) (by decide +kernel) (fun r6 L6 f6 _ hp6 => ?_)
        obtain ⟨K6, B6, h6, e6, hr6⟩ := hp6
        dsimp only at h6 e6 hr6
        subst hr6
        have e06 := extC_tr (extC_tr (extC_tr (extC_tr e1 e2) e4) e5) e6
        by_cases hlt : trdN bu pr dr o be < trdN bu pr dr o ((k : Int) + 1)
        · refine s_mk63a H hE h6 (by omega) (by omega) (by omega) (by omega) (by omega) (exin e6 u5_3) (fun K7 B7 L7 f7 h7 e7 u7_0 u7_1 u7_2 u7_3 u7_4 u7_5 => ?_)
          have hb1 : bstN (trdN bu pr dr o) (k + 1) = (k : Int) + 1 := bstN_1 (by rw [hbe]; exact hlt)
          have := ih (k + 1) K7 B7 L7 f7 (by omega) h7 (extC_tr e06 e7)
          rw [hb1, ← ek] at this
          exact this
        · refine s_mk63b H hE h6 (by omega) (by omega) (by omega) (by omega) (by omega) (exin e6 u5_3) (fun K7 B7 L7 f7 h7 e7 u7_0 u7_1 u7_2 u7_3 u7_4 u7_5 => ?_)
          have hb1 : bstN (trdN bu pr dr o) (k + 1) = be := (bstN_0 (by rw [hbe]; exact hlt)).trans hbe
          have := ih (k + 1) K7 B7 L7 f7 (by omega) h7 (extC_tr e06 e7)
          rw [hb1, ← ek] at this
          exact this
      · omega
  rcases (show t = -1 ∨ t ≤ -2 ∨ 100 ≤ t ∨ (0 ≤ t ∧ t ≤ 99) by omega) with rfl | hc | hc | hc
  · refine s_mkA H hE hh hx (fun K2 B2 L2 f2 h2 e2 u2_0 => ?_)
    exact go rfl 99 0 K2 B2 L2 f2 rfl h2 e2
  · refine s_mkB H hE hh ⟨ht.1, hc⟩ hx (fun K2 B2 L2 f2 h2 e2 u2_0 u2_1 => ?_)
    exact hret 0 0 L2 f2 30 _ _ (Nat.le_refl _) (Nat.le_refl _) (by decide +kernel) (fun ft hft => by cases hft; rfl) ⟨K2, B2, h2, e2, by rw [mktA_out (Or.inl hc)]⟩
  · refine s_mkC H hE hh ⟨hc, ht.2⟩ hx (fun K2 B2 L2 f2 h2 e2 u2_0 u2_1 => ?_)
    exact hret 0 0 L2 f2 30 _ _ (Nat.le_refl _) (Nat.le_refl _) (by decide +kernel) (fun ft hft => by cases hft; rfl) ⟨K2, B2, h2, e2, by rw [mktA_out (Or.inr hc)]⟩
  · refine s_mkD H hE hh hc hx (fun K2 B2 L2 f2 r1_2 h2 e2 u2_0 u2_1 u2_2 => ?_)
    have t1 := tb t
    refine w_callV hE (hc_traded H h2 u2_2 ht (hO.e0 e2 (Or.inl rfl)) ho) lX11_ok (by decide : (397, 0, 210, 1, 2) ∈ lX11) qm_traded h2 u2_2.1 u2_2.2 (by decide) (by decide) (by decide) rfl rfl (by simp [Value.category]) (by decide +kernel) (fun r3 L3 f3 _ hp3 => ?_)
    obtain ⟨K3, B3, h3, e3, hr3⟩ := hp3
    dsimp only at h3 e3 hr3
    subst hr3
    refine s_mk26 H hE h3 hc (by omega) (exin e3 u2_1) (fun K4 B4 L4 f4 h4 e4 u4_0 u4_1 u4_2 => ?_)
    exact hret 0 0 L4 f4 30 _ _ (Nat.le_refl _) (Nat.le_refl _) (by decide +kernel) (fun ft hft => by cases hft; rfl) ⟨K4, B4, h4, extC_tr (extC_tr e2 e3) e4, by rw [mktA_in hc]⟩
theorem hc_mkt12 {X0 : zC0} (H : ∀ j, j < 427 → CMj X0 j) {K : Nat → Nat} {B : Int} {L : List Nat} {f : Nat → va_E} (hh : hok X0.2.2.1 K B L f) {m o : Nat} {t : Int} {bu pr dr : Nat → Int} (hx : m ∈ L ∧ K m = 200) (ht : (-2147483648) ≤ t ∧ t ≤ 2147483647) (hO : MO K L f 201 o bu pr dr) (ho : okO o bu pr dr) : HC X0 Q_mkt12 2 0 [] [.ref m, .int (Int32.ofInt t)] K B L f (fun _ _ _ _ q => q = some (.int (Int32.ofInt (mktA (trdN bu pr dr o) t)))) := by
  refine eM.mk ⟨_, rfl⟩ pnX12 (Nat.le_of_ble_eq_true rfl) (fun E hE _ hret => ?_)
  obtain ⟨l0, D0, cy0, ax0⟩ := X0
  have ho10 := ho.1
  have tb := fun t => trdN_bd ho t
  have go : t = -1 → ∀ (N k : Nat) (K1 : Nat → Nat) (B1 : Int) (L1 : List Nat) (f1 : Nat → va_E), k + N = 99 → hok cy0 K1 B1 L1 f1 → extC [] K B L f K1 B1 L1 f1 → eW E 0 0 L1 f1 26 [(0, .ref m), (1, .int (Int32.ofInt (-1))), (2, .int (Int32.ofInt (bstN (trdN bu pr dr o) k))), (3, .int (Int32.ofInt ((k : Int) + 1)))] [] := by
    intro ht1 N
    induction N with
    | zero =>
      intro k K1 B1 L1 f1 hk h1 e1
      have hbd := bstN_bd (trdN bu pr dr o) k
      have hk10 : k = 99 := by omega
      subst hk10
      refine s_mm26 H hE h1 (by omega) (by omega) (exin e1 hx) (fun K2 B2 L2 f2 h2 e2 u2_0 u2_1 u2_2 => ?_) (fun K3 B3 L3 f3 h3 e3 u3_0 u3_1 u3_2 => ?_)
      · omega
      · refine s_mm53 H hE h3 (by omega) (by omega) u3_2 (fun K4 B4 L4 f4 h4 e4 u4_0 u4_1 u4_2 => ?_)
        exact hret 0 0 L4 f4 54 _ _ (Nat.le_refl _) (Nat.le_refl _) (by decide +kernel) (fun ft hft => by cases hft; rfl) ⟨K4, B4, h4, extC_tr (extC_tr e1 e3) e4, by unfold mktA; rw [if_pos ht1]⟩
    | succ N ih =>
      intro k K1 B1 L1 f1 hk h1 e1
      have hbd := bstN_bd (trdN bu pr dr o) k
      generalize hbe : bstN (trdN bu pr dr o) k = be at hbd ⊢
      have t1 := tb ((k : Int) + 1)
      have t2 := tb be
      have ek : 1 + ((k : Int) + 1) = ((k + 1 : Nat) : Int) + 1 := by omega
      refine s_mm26 H hE h1 (by omega) (by omega) (exin e1 hx) (fun K2 B2 L2 f2 h2 e2 u2_0 u2_1 u2_2 => ?_) (fun K3 B3 L3 f3 h3 e3 u3_0 u3_1 u3_2 => ?_)
      · have F2 := (hO.e0 ho10 e1 (Or.inl rfl)).e0 ho10 e2 (Or.inl rfl)
        refine w_callV hE (hc_tradedAt H h2 u2_2 (t := (k : Int) + 1) (by omega) F2 ho) lX12_ok (by decide : (511, 0, 187, 12, 2) ∈ lX12) qm_tradedAt h2 u2_2.1 u2_2.2 (by decide) (by decide) (by decide) rfl rfl (by simp [Value.category]) (by decide +kernel) (fun r4 L4 f4 _ hp4 => ?_)
        obtain ⟨K4, B4, h4, e4, hr4⟩ := hp4
        dsimp only at h4 e4 hr4
        subst hr4
        have F4 := F2.e0 ho10 e4 (Or.inl rfl)
        refine s_mm37 H hE h4 (by omega) (by omega) (by omega) (exin e4 u2_2) (fun K5 B5 L5 f5 h5 e5 u5_0 u5_1 u5_2 u5_3 => ?_)
        refine w_callV hE (hc_tradedAt H h5 u5_3 (t := be) (by omega) (F4.e0 ho10 e5 (Or.inl rfl)) ho) lX12_ok (by decide : (511, 0, 187, 12, 2) ∈ lX12) qm_tradedAt h5 u5_3.1 u5_3.2 (by decide) (by decide) (by decide) rfl rfl (by simp [Value.category]) (by decide +kernel) (fun r6 L6 f6 _ hp6 => ?_)
        obtain ⟨K6, B6, h6, e6, hr6⟩ := hp6
        dsimp only at h6 e6 hr6
        subst hr6
        have e06 := extC_tr (extC_tr (extC_tr (extC_tr e1 e2) e4) e5) e6
        by_cases hlt : trdN bu pr dr o be < trdN bu pr dr o ((k : Int) + 1)
        · refine s_mm42a H hE h6 (by omega) (by omega) (by omega) (by omega) (by omega) (exin e6 u5_3) (fun K7 B7 L7 f7 h7 e7 u7_0 u7_1 u7_2 u7_3 u7_4 u7_5 => ?_)
          have hb1 : bstN (trdN bu pr dr o) (k + 1) = (k : Int) + 1 := bstN_1 (by rw [hbe]; exact hlt)
          have := ih (k + 1) K7 B7 L7 f7 (by omega) h7 (extC_tr e06 e7)
          rw [hb1, ← ek] at this
          exact this
        · refine s_mm42b H hE h6 (by omega) (by omega) (by omega) (by omega) (by omega) (exin e6 u5_3) (fun K7 B7 L7 f7 h7 e7 u7_0 u7_1 u7_2 u7_3 u7_4 u7_5 => ?_)
          have hb1 : bstN (trdN bu pr dr o) (k + 1) = be := (bstN_0 (by rw [hbe]; exact hlt)).trans hbe
          have := ih (k + 1) K7 B7 L7 f7 (by omega) h7 (extC_tr e06 e7)
          rw [hb1, ← ek] at this
          exact this
      · omega
  rcases (show t = -1 ∨ t ≤ -2 ∨ 100 ≤ t ∨ (0 ≤ t ∧ t ≤ 99) by omega) with rfl | hc | hc | hc
  · refine s_mmA H hE hh hx (fun K2 B2 L2 f2 h2 e2 u2_0 => ?_)
    exact go rfl 99 0 K2 B2 L2 f2 rfl h2 e2
  · refine s_mmB H hE hh ⟨ht.1, hc⟩ hx (fun K2 B2 L2 f2 h2 e2 u2_0 u2_1 => ?_)
    exact hret 0 0 L2 f2 11 _ _ (Nat.le_refl _) (Nat.le_refl _) (by decide +kernel) (fun ft hft => by cases hft; rfl) ⟨K2, B2, h2, e2, by rw [mktA_out (Or.inl hc)]⟩
  · refine s_mmC H hE hh ⟨hc, ht.2⟩ hx (fun K2 B2 L2 f2 h2 e2 u2_0 u2_1 => ?_)
    exact hret 0 0 L2 f2 11 _ _ (Nat.le_refl _) (Nat.le_refl _) (by decide +kernel) (fun ft hft => by cases hft; rfl) ⟨K2, B2, h2, e2, by rw [mktA_out (Or.inr hc)]⟩
  · refine s_mmD H hE hh hc hx (fun K2 B2 L2 f2 h2 e2 u2_0 u2_1 => ?_)
    have t1 := tb t
    refine w_callV hE (hc_tradedAt H h2 u2_1 ht (hO.e0 ho10 e2 (Or.inl rfl)) ho) lX12_ok (by decide : (511, 0, 187, 12, 2) ∈ lX12) qm_tradedAt h2 u2_1.1 u2_1.2 (by decide) (by decide) (by decide) rfl rfl (by simp [Value.category]) (by decide +kernel) (fun r3 L3 f3 _ hp3 => ?_)
    obtain ⟨K3, B3, h3, e3, hr3⟩ := hp3
    dsimp only at h3 e3 hr3
    subst hr3
    exact hret 0 0 L3 f3 21 _ _ (Nat.le_refl _) (Nat.le_refl _) (by decide +kernel) (fun ft hft => by cases hft; rfl) ⟨K3, B3, h3, extC_tr e2 e3, by rw [mktA_in hc]⟩
