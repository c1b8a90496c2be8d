/-! The reference's TOKENS. -/
theorem gi_of {z : Int} (h1 : -2147483648 ≤ z) (h2 : z ≤ 2147483647) : g_i z = z := if_pos ⟨h1, h2⟩
/-- kept from omega -/
def EqG (a b : Int) : Prop := a = b
theorem EqG.e {a b : Int} (h : EqG a b) : a = b := h
theorem gi_n {k : Nat} (h : k ≤ 1000000) : g_i (k : Int) = (k : Int) := gi_of (by omega) (by omega)
theorem gi_q2 {q n : Nat} (hq : q < n) (hn : n ≤ 300) : g_i ((q : Int) + 1 + 1) = (q : Int) + 2 := by
  have h : g_i ((q + 2 : Nat) : Int) = ((q + 2 : Nat) : Int) := gi_n (Nat.le_trans (Nat.le_trans (Nat.succ_le_succ hq) (Nat.succ_le_succ hn)) (by decide))
  have e : (q : Int) + 1 + 1 = ((q + 2 : Nat) : Int) := by omega
  rw [e, h]
  omega
theorem l_bn (m : Nat) (h : m < 9223372036854775808) : (Int64.ofInt (m : Int)).toBitVec.toNat = m := by
  rw [Int64.toBitVec_ofInt, BitVec.toNat_ofInt]
  omega
theorem l_ti (x : Int64) (h : x.toBitVec.toNat < 9223372036854775808) : x.toInt = (x.toBitVec.toNat : Int) := by
  rw [← Int64.toInt_toBitVec]
  exact BitVec.toInt_eq_toNat_of_lt (by omega)
theorem l_shr48 {w : Int} (h0 : 0 ≤ w) (h1 : w ≤ 1152921504606846976) : (Int64.ofInt w >>> ((Int32.ofInt 48).toInt64 &&& 63)).toInt = w / 281474976710656 := by
  have hd : ((((Int32.ofInt 48).toInt64 &&& 63)).toBitVec.smod 64).toNat = 48 := by decide
  have e : (Int64.ofInt w >>> ((Int32.ofInt 48).toInt64 &&& 63)).toInt = (Int64.ofInt w).toInt >>> ((((Int32.ofInt 48).toInt64 &&& 63)).toBitVec.smod 64).toNat := BitVec.toInt_sshiftRight ..
  rw [e, hd, Int.shiftRight_eq_div_pow, Int64.toInt_ofInt_of_le (by omega) (by omega)]
  rfl
theorem l_pk {w c : Int} (h0 : 0 ≤ w) (h1 : w < 281474976710656) (c0 : 0 ≤ c) (c1 : c ≤ 255) : (Int64.ofInt ((Int64.ofInt w <<< ((Int32.ofInt 8).toInt64 &&& 63)).toInt) ||| Int64.ofInt c).toInt = w * 256 + c := by
  obtain ⟨m, rfl⟩ := Int.eq_ofNat_of_zero_le h0
  obtain ⟨k, rfl⟩ := Int.eq_ofNat_of_zero_le c0
  rw [Int64.ofInt_toInt]
  have hd : ((Int32.ofInt 8).toInt64 &&& 63).toBitVec.smod 64 = BitVec.ofNat 64 8 := by decide
  have e1 : (Int64.ofInt (m : Int) <<< ((Int32.ofInt 8).toInt64 &&& 63)).toBitVec.toNat = m <<< 8 := by
    rw [Int64.toBitVec_shiftLeft, hd, BitVec.shiftLeft_eq', BitVec.toNat_shiftLeft, l_bn m (by omega)]
    show (m <<< 8) % 2 ^ 64 = m <<< 8
    rw [Nat.shiftLeft_eq]
    omega
  have e2 : (Int64.ofInt (m : Int) <<< ((Int32.ofInt 8).toInt64 &&& 63) ||| Int64.ofInt (k : Int)).toBitVec.toNat = m * 256 + k := by
    rw [Int64.toBitVec_or, BitVec.toNat_or, e1, l_bn k (by omega), ← Nat.shiftLeft_add_eq_or_of_lt (by omega : k < 2 ^ 8), Nat.shiftLeft_eq]
  rw [l_ti _ (by rw [e2]; omega), e2]
  omega
def x_vr (b : Nat → Int) (p : Nat) : Nat → Int
  | 0 => 0
  | m + 1 => if 99999 < x_vr b p m then x_vr b p m else 10 * x_vr b p m + b (p + m) - 48
theorem x_val_vr {b : Nat → Int} {p : Nat} : ∀ m, (∀ j, j < m → x_dig (b (p + j)) = true) → 0 ≤ x_vr b p m ∧ x_vr b p m ≤ 999999 ∧ x_val b p m = min (x_vr b p m) 10000 := by
  intro m
  induction m with
  | zero => intro _; exact ⟨Int.le_refl _, (by decide : (0 : Int) ≤ 999999), (by decide : (0 : Int) = min 0 10000)⟩
  | succ m ih =>
    intro h
    obtain ⟨h1, h2, h3⟩ := ih (fun j hj => h j (by omega))
    have hd := h m (by omega)
    unfold x_dig at hd
    simp only [Bool.and_eq_true, decide_eq_true_eq] at hd
    show 0 ≤ (if 99999 < x_vr b p m then x_vr b p m else 10 * x_vr b p m + b (p + m) - 48) ∧ (if 99999 < x_vr b p m then x_vr b p m else 10 * x_vr b p m + b (p + m) - 48) ≤ 999999 ∧ min (x_val b p m * 10 + b (p + m) - 48) 10000 = min (if 99999 < x_vr b p m then x_vr b p m else 10 * x_vr b p m + b (p + m) - 48) 10000
    rw [h3]
    split <;> omega
/-- only what is read -/
def fM (M : Nat) (g g' : Nat → Nat → Int) : Prop := ∀ c j, (c ≠ M ∨ j < 7 ∨ 11 < j) → g' c j = g c j
theorem fM_rf {M : Nat} {g : Nat → Nat → Int} : fM M g g := fun _ _ _ => rfl
theorem fM_tr {M : Nat} {g g1 g2 : Nat → Nat → Int} (h1 : fM M g g1) (h2 : fM M g1 g2) : fM M g g2 := fun c j h => (h2 c j h).trans (h1 c j h)
theorem fM_up {M j : Nat} {v : Int} {g g1 : Nat → Nat → Int} (hj : 7 ≤ j ∧ j ≤ 11) (h : fM M g g1) : fM M g (g_up g1 M j v) := fun c i hc => by
  unfold g_up
  rw [if_neg (by omega)]
  exact h c i hc
def RB (b : Nat → Int) (n M tb : Nat) (g : Nat → Nat → Int) : Prop := g M 3 = (tb : Int) ∧ g M 4 = (n : Int) ∧ tb ≠ M ∧ n ≤ 300 ∧ ∀ k, k < n → g tb k = b k ∧ 0 ≤ b k ∧ b k ≤ 255
theorem RB_mo {b : Nat → Int} {n M tb : Nat} {g g' : Nat → Nat → Int} (h : RB b n M tb g) (hf : fM M g g') : RB b n M tb g' := by
  obtain ⟨h1, h2, h3, h4, h5⟩ := h
  refine ⟨(hf M 3 (by omega)).trans h1, (hf M 4 (by omega)).trans h2, h3, h4, fun k hk => ⟨(hf tb k (Or.inl h3)).trans (h5 k hk).1, (h5 k hk).2⟩⟩
theorem fig_eq (c : Int) (g : Nat → Nat → Int) : F_X12_isFigure c g = if x_dig c = true then 1 else 0 := by
  unfold F_X12_isFigure x_dig
  simp only [Bool.and_eq_true, decide_eq_true_eq]
  (repeat' split) <;> omega
theorem ltr_eq (c : Int) (g : Nat → Nat → Int) : F_X12_isLetterByte c g = if x_let c = true then 1 else 0 := by
  unfold F_X12_isLetterByte x_let
  simp only [Bool.or_eq_true, Bool.and_eq_true, decide_eq_true_eq]
  (repeat' split) <;> omega
theorem sgn_all : ∀ c : Fin 256, F_X12_isSign ((c : Nat) : Int) (fun _ _ => 0) = if x_sg ((c : Nat) : Int) = 55 then 0 else 1 := by decide +kernel
theorem sgn_eq {c : Int} (h0 : 0 ≤ c) (h1 : c ≤ 255) (g : Nat → Nat → Int) : F_X12_isSign c g = if x_sg c = 55 then 0 else 1 := by
  obtain ⟨k, rfl⟩ := Int.eq_ofNat_of_zero_le h0
  exact sgn_all ⟨k, by omega⟩
section NT
variable {ax : zAx} {CE : g_E} {L : List Nat} {b : Nat → Int} {n M tb : Nat} {r : Option g_V} {h : g_H}
theorem ba {g : Nat → Nat → Int} (hB : RB b n M tb g) (p : Nat) : F_X12_byteAt (M : Int) (p : Int) g = if p < n then b p else -1 := by
  obtain ⟨h1, h2, h3, h4, h5⟩ := hB
  unfold F_X12_byteAt
  rw [Int.toNat_natCast, h2, h1, Int.toNat_natCast, Int.toNat_natCast]
  by_cases hp : p < n
  · rw [if_neg (by omega), if_pos hp, (h5 p hp).1]
  · rw [if_pos (by omega), if_neg hp]
/-- what the TOKEN says -/
def TR (b : Nat → Int) (n q : Nat) (t nu w : Int) : Prop := (n ≤ q → t = 0) ∧ (q < n → x_let (b q) = true → t = 2 ∧ w = x_pr (x_sr b q (x_to x_let b n q - q))) ∧ (q < n → x_let (b q) = false → x_dig (b q) = true → t = 1 ∧ nu = x_vr b q (x_to x_dig b n q - q)) ∧ (q < n → x_let (b q) = false → x_dig (b q) = false → t = if (b q = 60 ∨ b q = 62) ∧ q + 1 < n ∧ b (q + 1) = 61 then (if b q = 60 then 4 else 5) else if x_sg (b q) = 55 then 3 else b q)
def NTp (b : Nat → Int) (n M q : Nat) (g g' : Nat → Nat → Int) : Prop := fM M g g' ∧ g' M 7 = (x_nx b n q : Int) ∧ g' M 8 = (q : Int) ∧ TR b n q (g' M 9) (g' M 10) (g' M 11)
theorem nt_85 (hCE : ∀ y cc as h r h', CE y cc as h r h' → g_ex ax y cc as h r h') {q : Nat} : ∀ (N : Nat) {ρ : Nat → Int} {g : Nat → Nat → Int} {p : Nat}, RB b n M tb g → p ≤ n → q ≤ p → (∀ j, q ≤ j → j < p → x_dig (b j) = true) → g M 7 = (p : Int) → g M 10 = x_vr b q (p - q) → ρ 0 = (M : Int) → g_run RX12 ax CE cX12_nextToken N (85, ρ, [], L, g) r h → r = none ∧ ∃ g', h = (L, g') ∧ fM M g g' ∧ g' M 7 = (x_to x_dig b n p : Int) ∧ g' M 8 = g M 8 ∧ g' M 9 = g M 9 ∧ g' M 10 = x_vr b q (x_to x_dig b n p - q) := by
  intro N
  induction N using Nat.strongRecOn with
  | _ N ih =>
  intro ρ g p hB hp hq hd h7 h10 h0 hr
  have hn : n ≤ 300 := hB.2.2.2.1
  have hv := x_val_vr (b := b) (p := q) (p - q) (fun j hj => hd (q + j) (by omega) (by omega))
  have ea : F_X12_byteAt (ρ 0) (g (ρ 0).toNat 7) g = if p < n then b p else -1 := by rw [h0, Int.toNat_natCast, h7]; exact ba hB p
  have key : ∀ {n1 : Nat} {v : Int}, n1 < N → x_dig (b p) = true → p < n → v = x_vr b q (p + 1 - q) → g_run RX12 ax CE cX12_nextToken n1 (85, ρ, [], L, g_up (g_up g M 10 v) M 7 ((p : Int) + 1)) r h → r = none ∧ ∃ g', h = (L, g') ∧ fM M g g' ∧ g' M 7 = (x_to x_dig b n p : Int) ∧ g' M 8 = g M 8 ∧ g' M 9 = g M 9 ∧ g' M 10 = x_vr b q (x_to x_dig b n p - q) := by
    intro n1 v l1 hdp hpn hv1 h1
    have hf : fM M g (g_up (g_up g M 10 v) M 7 ((p : Int) + 1)) := fM_up (by omega) (fM_up (by omega) fM_rf)
    obtain ⟨e1, g', e2, f1, e3, e4, e5, e6⟩ := ih n1 l1 (RB_mo hB hf) (p := p + 1) (by omega) (by omega) (fun j h1 h2 => by
      by_cases hj : j = p
      · rw [hj]; exact hdp
      · exact hd j h1 (by omega)) (by simp [g_up]) (by simp [g_up, hv1]) h0 h1
    rw [x_to_y hpn hdp]
    exact ⟨e1, g', e2, fM_tr hf f1, e3, e4.trans (by simp [g_up]), e5.trans (by simp [g_up]), e6⟩
  rcases pt_X12_nextToken_85 hCE hr with ⟨c1, e1, e2⟩ | ⟨c1, ⟨c2, n1, l1, h1⟩ | ⟨c2, n1, l1, h1⟩⟩
  · rw [ea, fig_eq] at c1
    have e : x_to x_dig b n p = p := by
      by_cases hpn : p < n
      · refine x_to_n ?_
        rw [if_pos hpn] at c1
        cases hx : x_dig (b p) with
        | false => rfl
        | true => rw [hx, if_pos rfl] at c1; cases c1
      · exact x_to_e (by omega)
    rw [e]
    exact ⟨e1, g, e2, fM_rf, h7, rfl, rfl, h10⟩
  all_goals
    rw [ea, fig_eq] at c1
    have hpn : p < n := by
      by_cases hpn : p < n
      · exact hpn
      · rw [if_neg hpn] at c1
        exact absurd rfl c1
    rw [if_pos hpn] at c1 ea
    have hdp : x_dig (b p) = true := by
      cases hx : x_dig (b p) with
      | true => rfl
      | false => rw [hx] at c1; exact absurd rfl c1
    have hdd := hdp
    unfold x_dig at hdd
    simp only [Bool.and_eq_true, decide_eq_true_eq] at hdd
    have es : x_vr b q (p + 1 - q) = if 99999 < x_vr b q (p - q) then x_vr b q (p - q) else 10 * x_vr b q (p - q) + b p - 48 := by
      rw [show p + 1 - q = (p - q) + 1 by omega]
      show (if 99999 < x_vr b q (p - q) then x_vr b q (p - q) else 10 * x_vr b q (p - q) + b (q + (p - q)) - 48) = _
      rw [show q + (p - q) = p by omega]
  · rw [ea] at h1
    simp only [h0, Int.toNat_natCast, h7, h10] at h1 c2
    rw [gi_of (z := 10 * x_vr b q (p - q)) (by omega) (by omega), gi_of (z := 10 * x_vr b q (p - q) + b p) (by omega) (by omega), gi_of (z := 10 * x_vr b q (p - q) + b p - 48) (by omega) (by omega), gi_of (z := (p : Int) + 1) (by omega) (by omega)] at h1
    exact key l1 hdp hpn (by rw [es, if_neg (by omega)]) h1
  · simp only [h0, Int.toNat_natCast, h7, h10] at h1 c2
    rw [gi_of (z := (p : Int) + 1) (by omega) (by omega)] at h1
    exact key l1 hdp hpn (by rw [es, if_pos (by omega)]) h1
theorem nt_168 (hCE : ∀ y cc as h r h', CE y cc as h r h' → g_ex ax y cc as h r h') {q : Nat} : ∀ (N : Nat) {ρ : Nat → Int} {g : Nat → Nat → Int} {p : Nat}, RB b n M tb g → p ≤ n → q ≤ p → 0 ≤ x_pr (x_sr b q (p - q)) → x_pr (x_sr b q (p - q)) ≤ 1152921504606846976 → g M 7 = (p : Int) → g M 11 = x_pr (x_sr b q (p - q)) → ρ 0 = (M : Int) → g_run RX12 ax CE cX12_nextToken N (168, ρ, [], L, g) r h → r = none ∧ ∃ g', h = (L, g') ∧ fM M g g' ∧ g' M 7 = (x_to x_let b n p : Int) ∧ g' M 8 = g M 8 ∧ g' M 9 = g M 9 ∧ g' M 11 = x_pr (x_sr b q (x_to x_let b n p - q)) := by
  intro N
  induction N using Nat.strongRecOn with
  | _ N ih =>
  intro ρ g p hB hp hq hw0 hw1 h7 h11 h0 hr
  have hn : n ≤ 300 := hB.2.2.2.1
  have ea : F_X12_byteAt (ρ 0) (g (ρ 0).toNat 7) g = if p < n then b p else -1 := by rw [h0, Int.toNat_natCast, h7]; exact ba hB p
  have key : ∀ {n1 : Nat} {v : Int}, n1 < N → x_let (b p) = true → p < n → 0 ≤ v → v ≤ 1152921504606846976 → v = x_pr (x_sr b q (p + 1 - q)) → g_run RX12 ax CE cX12_nextToken n1 (168, ρ, [], L, g_up (g_up g M 11 v) M 7 ((p : Int) + 1)) r h → r = none ∧ ∃ g', h = (L, g') ∧ fM M g g' ∧ g' M 7 = (x_to x_let b n p : Int) ∧ g' M 8 = g M 8 ∧ g' M 9 = g M 9 ∧ g' M 11 = x_pr (x_sr b q (x_to x_let b n p - q)) := by
    intro n1 v l1 hdp hpn v0 v1 hv1 h1
    have hf : fM M g (g_up (g_up g M 11 v) M 7 ((p : Int) + 1)) := fM_up (by omega) (fM_up (by omega) fM_rf)
    obtain ⟨e1, g', e2, f1, e3, e4, e5, e6⟩ := ih n1 l1 (RB_mo hB hf) (p := p + 1) (by omega) (by omega) (by rw [← hv1]; exact v0) (by rw [← hv1]; exact v1) (by simp [g_up]) (by simp [g_up, hv1]) h0 h1
    rw [x_to_y hpn hdp]
    exact ⟨e1, g', e2, fM_tr hf f1, e3, e4.trans (by simp [g_up]), e5.trans (by simp [g_up]), e6⟩
  rcases pt_X12_nextToken_168 hCE hr with ⟨c1, e1, e2⟩ | ⟨c1, ⟨c2, n1, l1, h1⟩ | ⟨c2, n1, l1, h1⟩⟩
  · rw [ea, ltr_eq] at c1
    have e : x_to x_let b n p = p := by
      by_cases hpn : p < n
      · refine x_to_n ?_
        rw [if_pos hpn] at c1
        cases hx : x_let (b p) with
        | false => rfl
        | true => rw [hx, if_pos rfl] at c1; cases c1
      · exact x_to_e (by omega)
    rw [e]
    exact ⟨e1, g, e2, fM_rf, h7, rfl, rfl, h11⟩
  all_goals
    rw [ea, ltr_eq] at c1
    have hpn : p < n := by
      by_cases hpn : p < n
      · exact hpn
      · rw [if_neg hpn] at c1
        exact absurd rfl c1
    rw [if_pos hpn] at c1 ea
    have hdp : x_let (b p) = true := by
      cases hx : x_let (b p) with
      | true => rfl
      | false => rw [hx] at c1; exact absurd rfl c1
    have hbb := (hB.2.2.2.2 p hpn).2
    have es : x_pr (x_sr b q (p + 1 - q)) = x_step (x_pr (x_sr b q (p - q))) (b p) := by
      rw [show p + 1 - q = (p - q) + 1 by omega]
      show x_step (x_pr (x_sr b q (p - q))) (b (q + (p - q))) = _
      rw [show q + (p - q) = p by omega]
  · rw [ea] at h1
    simp only [h0, Int.toNat_natCast, h7, h11] at h1 c2
    rw [l_shr48 hw0 hw1] at c2
    have hlt : x_pr (x_sr b q (p - q)) < 281474976710656 := by
      by_cases hlt : x_pr (x_sr b q (p - q)) < 281474976710656
      · exact hlt
      · rw [if_pos (by omega)] at c2
        cases c2
    rw [l_pk hw0 hlt hbb.1 hbb.2, gi_of (z := (p : Int) + 1) (by omega) (by omega)] at h1
    exact key l1 hdp hpn (by omega) (by omega) (by rw [es]; unfold x_step; rw [if_neg (by omega)]) h1
  · simp only [h0, Int.toNat_natCast, h7, h11] at h1 c2
    rw [l_shr48 hw0 hw1] at c2
    have hge : 281474976710656 ≤ x_pr (x_sr b q (p - q)) := by
      by_cases hlt : 281474976710656 ≤ x_pr (x_sr b q (p - q))
      · exact hlt
      · rw [if_neg (by omega), if_pos (by omega)] at c2
        exact absurd rfl c2
    rw [gi_of (z := (p : Int) + 1) (by omega) (by omega)] at h1
    exact key l1 hdp hpn (by decide) (by decide) (by rw [es]; unfold x_step; rw [if_pos hge]) h1
end NT
section NU
variable {ax : zAx} {CE : g_E} {L : List Nat} {b : Nat → Int} {n M tb : Nat} {r : Option g_V} {h : g_H}
theorem TR_sg {q : Nat} {t nu w : Int} (hq : q < n) (hl : x_let (b q) = false) (hd : x_dig (b q) = false) (ht : t = if (b q = 60 ∨ b q = 62) ∧ q + 1 < n ∧ b (q + 1) = 61 then (if b q = 60 then 4 else 5) else if x_sg (b q) = 55 then 3 else b q) : TR b n q t nu w := ⟨fun h => absurd hq (by omega), fun _ h => (by rw [hl] at h; cases h), fun _ _ h => (by rw [hd] at h; cases h), fun _ _ _ => ht⟩
theorem nx_sg {q : Nat} (hq : q < n) (hl : x_let (b q) = false) (hd : x_dig (b q) = false) : x_nx b n q = if (b q = 60 ∨ b q = 62) ∧ q + 1 < n ∧ b (q + 1) = 61 then q + 2 else q + 1 := by
  unfold x_nx
  rw [if_neg (by omega), hl, hd, if_neg (by decide), if_neg (by decide)]
theorem nt_247 (hCE : ∀ y cc as h r h', CE y cc as h r h' → g_ex ax y cc as h r h') {q N : Nat} {ρ : Nat → Int} {g : Nat → Nat → Int} {s0 s1 : Int} (hB : RB b n M tb g) (hq : q < n) (hl : x_let (b q) = false) (hd : x_dig (b q) = false) (h7 : g M 7 = (q : Int)) (h8 : g M 8 = (q : Int)) (h0 : ρ 0 = (M : Int)) (hr1 : ρ 1 = b q) (hs0 : s0 = if x_sg (b q) = 55 then 3 else b q) (hs1 : s1 = (M : Int)) (hr : g_run RX12 ax CE cX12_nextToken N (247, ρ, [(1, s0), (1, s1)], L, g) r h) : r = none ∧ ∃ g', h = (L, g') ∧ NTp b n M q g g' := by
  have hn : n ≤ 300 := hB.2.2.2.1
  subst hs1
  have hp := pt_X12_nextToken_247 hCE hr
  have eg : g_i ((q : Int) + 1) = (q : Int) + 1 := gi_of (by omega) (by omega)
  have eg2 : g_i ((q : Int) + 1 + 1) = (q : Int) + 2 := gi_q2 hq hn
  have hf : fM M g (g_up (g_up g M 9 s0) M 7 ((q : Int) + 1)) := fM_up (by omega) (fM_up (by omega) fM_rf)
  have eG : (g_up (g_up g M 9 s0) M 7 ((q : Int) + 1)) M 7 = (q : Int) + 1 := g_up_s ..
  have eb : F_X12_byteAt (M : Int) ((q : Int) + 1) (g_up (g_up g M 9 s0) M 7 ((q : Int) + 1)) = if q + 1 < n then b (q + 1) else -1 := ba (RB_mo hB hf) (q + 1)
  have hb1 : ∀ k, k < n → 0 ≤ b k := fun k hk => (hB.2.2.2.2 k hk).2.1
  simp only [h0, hr1, Int.toNat_natCast, h7, eg, eG, eg2, eb] at hp
  have no : ∀ {e2 : h = (L, g_up (g_up g M 9 s0) M 7 ((q : Int) + 1))}, ¬ ((b q = 60 ∨ b q = 62) ∧ q + 1 < n ∧ b (q + 1) = 61) → ∃ g', h = (L, g') ∧ NTp b n M q g g' := by
    intro e2 hlk
    refine ⟨_, e2, hf, ?_, ?_, TR_sg hq hl hd ?_⟩
    · rw [eG, nx_sg hq hl hd, if_neg hlk]; omega
    · simp [g_up, h8]
    · rw [if_neg hlk, ← hs0]; simp [g_up]
  have ye : ∀ {v : Int} {e2 : h = (L, g_up (g_up (g_up (g_up g M 9 s0) M 7 ((q : Int) + 1)) M 9 v) M 7 ((q : Int) + 2))}, ((b q = 60 ∨ b q = 62) ∧ q + 1 < n ∧ b (q + 1) = 61) → (v = if b q = 60 then 4 else 5) → ∃ g', h = (L, g') ∧ NTp b n M q g g' := by
    intro v e2 hlk hv
    refine ⟨_, e2, fM_up (by omega) (fM_up (by omega) hf), ?_, ?_, TR_sg hq hl hd ?_⟩
    · rw [g_up_s, nx_sg hq hl hd, if_pos hlk]; omega
    · simp [g_up, h8]
    · rw [if_pos hlk, ← hv]; simp [g_up]
  have lk : ∀ {P : Prop}, (if q + 1 < n then b (q + 1) else -1) = 61 → (b q = 60 ∨ b q = 62) → ((b q = 60 ∨ b q = 62) ∧ q + 1 < n ∧ b (q + 1) = 61) := by
    intro P h1 h2
    by_cases hc : q + 1 < n
    · rw [if_pos hc] at h1
      exact ⟨h2, hc, h1⟩
    · rw [if_neg hc] at h1
      cases h1
  have nlk : ¬ (if q + 1 < n then b (q + 1) else -1) = 61 → ¬ ((b q = 60 ∨ b q = 62) ∧ q + 1 < n ∧ b (q + 1) = 61) := fun h1 h2 => h1 (by rw [if_pos h2.2.1]; exact h2.2.2)
  rcases hp with ⟨c1, ⟨c2, e1, e2⟩ | ⟨c2, e1, e2⟩⟩ | ⟨c1, ⟨c2, ⟨c3, e1, e2⟩ | ⟨c3, e1, e2⟩⟩ | ⟨c2, e1, e2⟩⟩
  · exact ⟨e1, ye (e2 := e2) (lk (P := True) c2 (Or.inl c1)) (by rw [if_pos c1])⟩
  · exact ⟨e1, no (e2 := e2) (nlk c2)⟩
  · exact ⟨e1, ye (e2 := e2) (lk (P := True) c3 (Or.inr c2)) (by rw [if_neg c1])⟩
  · exact ⟨e1, no (e2 := e2) (nlk c3)⟩
  · exact ⟨e1, no (e2 := e2) (fun h2 => h2.1.elim c1 c2)⟩
theorem nt_0 (hCE : ∀ y cc as h r h', CE y cc as h r h' → g_ex ax y cc as h r h') : ∀ (N : Nat) {ρ : Nat → Int} {g : Nat → Nat → Int} {p : Nat}, RB b n M tb g → p ≤ n → g M 7 = (p : Int) → ρ 0 = (M : Int) → g_run RX12 ax CE cX12_nextToken N (0, ρ, [], L, g) r h → r = none ∧ ∃ g', h = (L, g') ∧ NTp b n M (x_to x_blk b n p) g g' := by
  intro N
  induction N using Nat.strongRecOn with
  | _ N ih =>
  intro ρ g p hB hp h7 h0 hr
  have hn : n ≤ 300 := hB.2.2.2.1
  have ea : F_X12_byteAt (M : Int) (p : Int) g = if p < n then b p else -1 := ba hB p
  have hf8 : fM M g (g_up g M 8 (p : Int)) := fM_up (by omega) fM_rf
  have hB8 := RB_mo hB hf8
  have ea8 : F_X12_byteAt (M : Int) (p : Int) (g_up g M 8 (p : Int)) = if p < n then b p else -1 := ba hB8 p
  have eg : g_i ((p : Int) + 1) = (p : Int) + 1 := gi_of (by omega) (by omega)
  have hx := pt_X12_nextToken_0 hCE hr
  simp only [h0, Int.toNat_natCast, h7, eg, ea, ea8, fig_eq, ltr_eq] at hx
  have blank : ∀ {n1 : Nat}, n1 < N → (if p < n then b p else -1) = 32 ∨ (if p < n then b p else -1) = 10 → g_run RX12 ax CE cX12_nextToken n1 (0, ρ, [], L, g_up g M 7 ((p : Int) + 1)) r h → r = none ∧ ∃ g', h = (L, g') ∧ NTp b n M (x_to x_blk b n p) g g' := by
    intro n1 l1 hc h1
    have hpn : p < n := by
      by_cases hpn : p < n
      · exact hpn
      · rw [if_neg hpn] at hc
        omega
    rw [if_pos hpn] at hc
    have hf : fM M g (g_up g M 7 ((p : Int) + 1)) := fM_up (by omega) fM_rf
    have hbk : x_blk (b p) = true := by unfold x_blk; rcases hc with hc | hc <;> rw [hc] <;> decide
    obtain ⟨e1, g', e2, f1, e3, e4, e5⟩ := ih n1 l1 (RB_mo hB hf) (p := p + 1) (by omega) (by simp [g_up]) h0 h1
    rw [x_to_y hpn hbk]
    exact ⟨e1, g', e2, fM_tr hf f1, e3, e4, e5⟩
  rcases hx with ⟨c1, n1, l1, h1⟩ | ⟨c1, ⟨c2, n1, l1, h1⟩ | ⟨c2, hx⟩⟩
  · exact blank l1 (Or.inl c1) h1
  · exact blank l1 (Or.inr c2) h1
  have eq : x_to x_blk b n p = p := by
    by_cases hpn : p < n
    · refine x_to_n ?_
      rw [if_pos hpn] at c1 c2
      unfold x_blk
      rw [decide_eq_false c1, decide_eq_false c2]
      rfl
    · exact x_to_e (by omega)
  rw [eq]
  by_cases hpn : p < n
  · simp only [if_pos hpn] at hx
    have hbb := (hB.2.2.2.2 p hpn).2
    rw [sgn_eq hbb.1 hbb.2] at hx
    rcases hx with ⟨c3, ⟨c4, ⟨c5, ⟨c6, n1, l1, h1⟩ | ⟨c6, n1, l1, h1⟩⟩ | ⟨c5, n1, l1, h1⟩⟩ | ⟨c4, n1, l1, h1⟩⟩ | ⟨c3, h1⟩
    · have hd : x_dig (b p) = false := by
        cases hx : x_dig (b p) with
        | false => rfl
        | true => rw [hx, if_pos rfl] at c4; cases c4
      have hl : x_let (b p) = false := by
        cases hx : x_let (b p) with
        | false => rfl
        | true => rw [hx, if_pos rfl] at c5; cases c5
      have hs : x_sg (b p) = 55 := by
        by_cases hs : x_sg (b p) = 55
        · exact hs
        · rw [if_neg hs] at c6; cases c6
      obtain ⟨e1, g', e2, f1, e3⟩ := nt_247 hCE hB8 hpn hl hd (by simp [g_up, h7]) (by simp [g_up]) (by rw [va_up_ne _ _ (by decide)]; exact h0) (va_up_self ..) (by rw [if_pos hs]) rfl h1
      exact ⟨e1, g', e2, fM_tr hf8 f1, e3⟩
    · have hd : x_dig (b p) = false := by
        cases hx : x_dig (b p) with
        | false => rfl
        | true => rw [hx, if_pos rfl] at c4; cases c4
      have hl : x_let (b p) = false := by
        cases hx : x_let (b p) with
        | false => rfl
        | true => rw [hx, if_pos rfl] at c5; cases c5
      have hs : ¬ x_sg (b p) = 55 := fun hs => c6 (by rw [if_pos hs])
      obtain ⟨e1, g', e2, f1, e3⟩ := nt_247 hCE hB8 hpn hl hd (by simp [g_up, h7]) (by simp [g_up]) (by rw [va_up_ne _ _ (by decide)]; exact h0) (va_up_self ..) (by rw [if_neg hs]) rfl h1
      exact ⟨e1, g', e2, fM_tr hf8 f1, e3⟩
    · have hd : x_dig (b p) = false := by
        cases hx : x_dig (b p) with
        | false => rfl
        | true => rw [hx, if_pos rfl] at c4; cases c4
      have hl : x_let (b p) = true := by
        cases hx : x_let (b p) with
        | true => rfl
        | false => rw [hx] at c5; exact absurd rfl c5
      have hf : fM M g (g_up (g_up (g_up g M 8 (p : Int)) M 9 2) M 11 0) := fM_up (by omega) (fM_up (by omega) hf8)
      have e0 : x_pr (x_sr b p (p - p)) = 0 := by rw [Nat.sub_self]; rfl
      obtain ⟨e1, g', e2, f1, e3, e4, e5, e6⟩ := nt_168 hCE (q := p) n1 (RB_mo hB hf) (p := p) hp (Nat.le_refl _) (by rw [e0]; decide) (by rw [e0]; decide) (by simp [g_up, h7]) (by rw [e0]; simp [g_up]) (by rw [va_up_ne _ _ (by decide)]; exact h0) h1
      refine ⟨e1, g', e2, fM_tr hf f1, ?_, e4.trans (by simp [g_up]), fun h => absurd hpn (by omega), fun _ _ => ⟨e5.trans (by simp [g_up]), e6⟩, fun _ h => (by rw [hl] at h; cases h), fun _ h => (by rw [hl] at h; cases h)⟩
      rw [e3]
      unfold x_nx
      rw [if_neg (by omega), hl, if_pos rfl]
    · have hd : x_dig (b p) = true := by
        cases hx : x_dig (b p) with
        | true => rfl
        | false => rw [hx] at c4; exact absurd rfl c4
      have hl : x_let (b p) = false := by
        unfold x_dig at hd
        unfold x_let
        simp only [Bool.and_eq_true, decide_eq_true_eq] at hd
        rw [decide_eq_false (by omega : ¬ 97 ≤ b p), decide_eq_false (by omega : ¬ 65 ≤ b p)]
        rfl
      have hf : fM M g (g_up (g_up (g_up g M 8 (p : Int)) M 9 1) M 10 0) := fM_up (by omega) (fM_up (by omega) hf8)
      have e0 : x_vr b p (p - p) = 0 := by rw [Nat.sub_self]; rfl
      obtain ⟨e1, g', e2, f1, e3, e4, e5, e6⟩ := nt_85 hCE (q := p) n1 (RB_mo hB hf) (p := p) hp (Nat.le_refl _) (fun j h1 h2 => absurd h2 (by omega)) (by simp [g_up, h7]) (by rw [e0]; simp [g_up]) (by rw [va_up_ne _ _ (by decide)]; exact h0) h1
      refine ⟨e1, g', e2, fM_tr hf f1, ?_, e4.trans (by simp [g_up]), fun h => absurd hpn (by omega), fun _ h => (by rw [hl] at h; cases h), fun _ _ _ => ⟨e5.trans (by simp [g_up]), e6⟩, fun _ _ h => (by rw [hd] at h; cases h)⟩
      rw [e3]
      unfold x_nx
      rw [if_neg (by omega), hl, if_neg (by decide), hd, if_pos rfl]
    · exact absurd hbb.1 c3
  · simp only [if_neg hpn] at hx
    rcases hx with ⟨c3, -⟩ | ⟨c3, e1, e2⟩
    · exact absurd c3 (by decide)
    · refine ⟨e1, _, e2, fM_up (by omega) hf8, ?_, by simp [g_up], fun _ => by simp [g_up], fun h => absurd h hpn, fun h => absurd h hpn, fun h => absurd h hpn⟩
      unfold x_nx
      rw [if_pos (by omega)]
      simp [g_up, h7]
/-- the next TOKEN -/
theorem nt_ok {g : Nat → Nat → Int} {p : Nat} (hB : RB b n M tb g) (hp : p ≤ n) (h7 : g M 7 = (p : Int)) (hx : g_ex ax yX12_nextToken cX12_nextToken [(0, (M : Int))] (L, g) r h) : r = none ∧ ∃ g', h = (L, g') ∧ NTp b n M (x_to x_blk b n p) g g' := by
  obtain ⟨ρ, N, hρ, hr⟩ := g_run_of hx
  exact nt_0 (fun _ _ _ _ _ _ h => h) N hB hp h7 (hρ (0, (M : Int)) (List.mem_cons_self ..)) hr
/-- both ways of saying what the TOKEN is -/
def TK (t nu w k v : Int) : Prop := (k = 54 ↔ t = 0) ∧ (k = 53 ↔ t = 1) ∧ (k = 53 → 0 ≤ nu ∧ 0 ≤ v ∧ (v ≤ 9999 → nu = v) ∧ (9999 < nu ↔ 9999 < v)) ∧ (∀ i : Nat, i < 35 → (k = (i : Int) ↔ t = 2 ∧ w = x_wk i)) ∧ (k = 40 ↔ t = 43) ∧ (k = 41 ↔ t = 45) ∧ (k = 42 ↔ t = 42) ∧ (k = 43 ↔ t = 47) ∧ (k = 44 ↔ t = 60) ∧ (k = 45 ↔ t = 62) ∧ (k = 46 ↔ t = 61) ∧ (k = 47 ↔ t = 35) ∧ (k = 48 ↔ t = 40) ∧ (k = 49 ↔ t = 41) ∧ (k = 50 ↔ t = 59) ∧ (k = 51 ↔ t = 4) ∧ (k = 52 ↔ t = 5) ∧ 0 ≤ k ∧ k ≤ 55
theorem okc_seg (hB : ∀ k, k < n → 0 ≤ b k ∧ b k ≤ 255) : ∀ (m p : Nat), p + m ≤ n → (∀ j, p ≤ j → j < p + m → x_let (b j) = true) → okc (x_seg b p m) := by
  intro m
  induction m with
  | zero => intro p _ _ c hc; cases hc
  | succ m ih =>
    intro p hp hl c hc
    rcases List.mem_cons.mp hc with rfl | hc
    · have h1 := hl p (Nat.le_refl _) (by omega)
      unfold x_let at h1
      simp only [Bool.or_eq_true, Bool.and_eq_true, decide_eq_true_eq] at h1
      omega
    · exact ih (p + 1) (by omega) (fun j h1 h2 => hl j (by omega) (by omega)) c hc
theorem TK_of {q : Nat} {t nu w : Int} (hB : ∀ k, k < n → 0 ≤ b k ∧ b k ≤ 255) (h : TR b n q t nu w) : TK t nu w (x_tk b n q) (x_vl b n q) := by
  obtain ⟨h1, h2, h3, h4⟩ := h
  by_cases hq : q < n
  · cases hl : x_let (b q) with
    | true =>
      obtain ⟨e1, e2⟩ := h2 hq hl
      have ek : x_tk b n q = x_fi (x_seg b q (x_to x_let b n q - q)) x_words 0 := by
        unfold x_tk
        rw [if_neg (by omega), hl, if_pos rfl]
      have hok : okc (x_seg b q (x_to x_let b n q - q)) := by
        have h5 : x_to x_let b n q ≤ n := x_to_le (by omega)
        have h6 : q ≤ x_to x_let b n q := x_to_ge
        exact okc_seg hB _ q (by omega) (fun j hj1 hj2 => x_to_all (n := n) hj1 (by omega))
      have hr := fi_rng (x_seg b q (x_to x_let b n q - q))
      rw [ek]
      refine ⟨by omega, by omega, fun h => by omega, fun i hi => ?_, by omega, by omega, by omega, by omega, by omega, by omega, by omega, by omega, by omega, by omega, by omega, by omega, by omega, by omega, by omega⟩
      rw [wd_iff hok hi, e2, ← seg_sr, List.reverse_reverse]
      exact ⟨fun h => ⟨e1, h⟩, fun h => h.2⟩
    | false =>
      cases hd : x_dig (b q) with
      | true =>
        obtain ⟨e1, e2⟩ := h3 hq hl hd
        have ek : x_tk b n q = 53 := by
          unfold x_tk
          rw [if_neg (by omega), hl, if_neg (by decide), hd, if_pos rfl]
        have ev : x_vl b n q = x_val b q (x_to x_dig b n q - q) := by
          unfold x_vl
          rw [if_neg (by omega), hl, if_neg (by decide), hd, if_pos rfl]
        obtain ⟨v1, v2, v3⟩ := x_val_vr (b := b) (p := q) (x_to x_dig b n q - q) (fun j hj => x_to_all (n := n) (p := q) (by omega) (by omega))
        rw [ek, ev, v3, e2]
        refine ⟨by omega, by omega, fun _ => by omega, fun i hi => by omega, by omega, by omega, by omega, by omega, by omega, by omega, by omega, by omega, by omega, by omega, by omega, by omega, by omega, by omega, by omega⟩
      | false =>
        have e1 := h4 hq hl hd
        have ek : x_tk b n q = if (b q = 60 ∨ b q = 62) ∧ q + 1 < n ∧ b (q + 1) = 61 then (if b q = 60 then 51 else 52) else x_sg (b q) := by
          unfold x_tk
          rw [if_neg (by omega), hl, if_neg (by decide), hd, if_neg (by decide)]
        rw [ek, e1]
        have hs : (x_sg (b q) = 55 ∨ (40 ≤ x_sg (b q) ∧ x_sg (b q) ≤ 50)) ∧ (x_sg (b q) = 40 ↔ b q = 43) ∧ (x_sg (b q) = 41 ↔ b q = 45) ∧ (x_sg (b q) = 42 ↔ b q = 42) ∧ (x_sg (b q) = 43 ↔ b q = 47) ∧ (x_sg (b q) = 44 ↔ b q = 60) ∧ (x_sg (b q) = 45 ↔ b q = 62) ∧ (x_sg (b q) = 46 ↔ b q = 61) ∧ (x_sg (b q) = 47 ↔ b q = 35) ∧ (x_sg (b q) = 48 ↔ b q = 40) ∧ (x_sg (b q) = 49 ↔ b q = 41) ∧ (x_sg (b q) = 50 ↔ b q = 59) := by
          unfold x_sg
          (repeat' split) <;> omega
        split
        · rename_i hc
          split <;> refine ⟨by omega, by omega, fun h => by omega, fun i hi => by omega, by omega, by omega, by omega, by omega, by omega, by omega, by omega, by omega, by omega, by omega, by omega, by omega, by omega, by omega, by omega⟩
        · split <;> refine ⟨by omega, by omega, fun h => by omega, fun i hi => by omega, by omega, by omega, by omega, by omega, by omega, by omega, by omega, by omega, by omega, by omega, by omega, by omega, by omega, by omega, by omega⟩
  · have e1 := h1 (by omega)
    have ek : x_tk b n q = 54 := if_pos (by omega)
    rw [ek, e1]
    refine ⟨by omega, by omega, fun h => by omega, fun i hi => by omega, by omega, by omega, by omega, by omega, by omega, by omega, by omega, by omega, by omega, by omega, by omega, by omega, by omega, by omega, by omega⟩
end NU
