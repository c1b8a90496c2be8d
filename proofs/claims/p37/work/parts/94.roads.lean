/-! has; canCome. -/
def hs (x k : Int) : Bool := (Int32.ofInt x >>> (Int32.ofInt k &&& 31)) &&& 1 == 1
theorem hc_has {X0 : zC0} {K : Nat → Nat} {B : Int} {L : List Nat} {f : Nat → va_E} (hh : hok X0.2.2.1 K B L f) (x k : Int) : HC X0 M_has 1 0 [] [.int (Int32.ofInt x), .int (Int32.ofInt k)] K B L f (fun _ _ _ f' r => r = some (.int (Int32.ofInt (if hs x k = true then 1 else 0))) ∧ f' = f) := by
  refine eM.mk ⟨_, rfl⟩ pnX12 (Nat.le_of_ble_eq_true rfl) (fun E hE _ hret => ?_)
  refine x_iload_n hE (z := 0) (i := 0) (x := Int32.ofInt x) (by decide +kernel) rfl (by simp [lv_args, Value.category]) ?_
  refine x_iload_n hE (z := 1) (i := 1) (x := Int32.ofInt k) (by decide +kernel) rfl (by simp [lv_args, Value.category]) ?_
  refine x_ishr hE (by decide +kernel) ?_
  refine x_iconst hE (i := 1) (v := 1) (by decide +kernel) rfl ?_
  refine x_iand hE (by decide +kernel) ?_
  refine x_iconst hE (i := 1) (v := 1) (by decide +kernel) rfl ?_
  refine x_icmp_ne hE (off := 7) (tgt := 13) (by decide +kernel) rfl (fun hn => ?_) (fun he => ?_)
  · refine x_iconst hE (i := 0) (v := 0) (by decide +kernel) rfl ?_
    have h0 : hs x k = false := by
      unfold hs
      simpa using hn
    refine hret 0 0 L f 14 _ _ (Nat.le_refl _) (Nat.le_refl _) (by decide +kernel) (fun ft hft => by cases hft; rfl) ⟨K, B, hh, extC_rf, by rw [h0]; rfl, rfl⟩
  · refine x_iconst hE (i := 1) (v := 1) (by decide +kernel) rfl ?_
    refine x_goto hE (off := 4) (tgt := 14) (by decide +kernel) rfl ?_
    have h1 : hs x k = true := by
      unfold hs
      simpa using he
    refine hret 0 0 L f 14 _ _ (Nat.le_refl _) (Nat.le_refl _) (by decide +kernel) (fun ft hft => by cases hft; rfl) ⟨K, B, hh, extC_rf, by rw [h1]; rfl, rfl⟩
theorem hc_canCome {X0 : zC0} (H : ∀ j, j < 342 → CMj X0 j) {K : Nat → Nat} {B : Int} {L : List Nat} {f : Nat → va_E} (hh : hok X0.2.2.1 K B L f) {m a g : Nat} (hm : m ∈ L ∧ K m = 200) (ha : a ∈ L ∧ K a = 201) (hg : g ≤ 5) {w : Int} (hw : (-2147483648) ≤ w ∧ w ≤ 2147483647) : HC X0 M_canCome 2 0 [] [.ref m, .int (Int32.ofInt (g : Int)), .int (Int32.ofInt w)] K B L f (fun _ _ _ _ r => r = some (.int (Int32.ofInt (if w ≤ gi (f a) (19 + 7 * g) then 1 else 0)))) := by
  refine eM.mk ⟨_, rfl⟩ pnX12 (Nat.le_of_ble_eq_true rfl) (fun E hE _ hret => ?_)
  have ei : ((19 + (7 * (g : Int))) : Int).toNat = 19 + 7 * g := by omega
  refine s_cc0 H hE hh (v0 := (g : Int)) (v1 := w) (by omega) hw hm (fun K1 B1 L1 f1 v2 h1 e1 _ _ _ hq hm1 c1 => ?_) (fun K1 B1 L1 f1 v2 h1 e1 _ _ _ hq hm1 c1 => ?_)
  all_goals have ha1 := exin e1 ha
  all_goals have q := (c1 a ha1.1 ha1.2).2
  all_goals rw [ei, ext0 e1 ha.1] at q
  · refine x_iconst hE (i := 1) (v := 1) (by decide +kernel) rfl ?_
    refine x_goto hE (off := 4) (tgt := 15) (by decide +kernel) rfl ?_
    refine hret 0 0 L1 f1 15 _ _ (Nat.le_refl _) (Nat.le_refl _) (by decide +kernel) (fun ft hft => by cases hft; rfl) ⟨K1, B1, h1, e1, by rw [if_pos (by omega)]; rfl⟩
  · refine x_iconst hE (i := 0) (v := 0) (by decide +kernel) rfl ?_
    refine hret 0 0 L1 f1 15 _ _ (Nat.le_refl _) (Nat.le_refl _) (by decide +kernel) (fun ft hft => by cases hft; rfl) ⟨K1, B1, h1, e1, by rw [if_neg (by omega)]; rfl⟩
