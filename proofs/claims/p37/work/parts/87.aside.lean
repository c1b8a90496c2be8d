/-! What is laid aside, and put back. -/
theorem rel201 (i : Nat) : rel 201 i = Nat.ble i 1 := rfl
theorem rel202 (i : Nat) : rel 202 i = Nat.ble i 1 := rfl
theorem w_ist_same {E : zCx} {l0 : Launch} {D0 : va_G} {cy0 : Nat → ClassId} {ax0 : zAx} {own : String} {cc : ByteArray} {nL : Nat} {R0 : Room} {k n : Nat} {K : Nat → Nat} {B : Int} {L : List Nat} {f : Nat → va_E} {pc : Nat} {lv : List (Nat × Value)} {st : List Value} (hE : zOk E (l0, D0, cy0, ax0) own cc nL R0) (hh : hok cy0 K B L f) {b kd : Nat} {i x : Int} (hb : b ∈ L) (hk : K b = kd) (hz : (zkd kd).1 = 2) (hN : (zkd kd).2.1 ≤ 100000) (hi : 0 ≤ i) (hi2 : i < (zkd kd).2.1) (hx : gi (f b) i.toNat = x) (hd : decode cc pc = .ok (.iastore, 1)) (kk : eW E k n L f (pc + 1) lv st) : eW E k n L f pc lv (.int (Int32.ofInt x) :: .int (Int32.ofInt i) :: .ref b :: st) := by
  have hcok := hh.1 b hb
  rw [hk] at hcok
  unfold cok at hcok
  rw [hz] at hcok
  obtain ⟨g, hf, hbd⟩ := hcok
  have ei : (Int32.ofInt i).toInt = i := i32i (by omega) (by omega)
  have et : (Int32.ofInt i).toNatClampNeg = i.toNat := by
    show (Int32.ofInt i).toInt.toNat = i.toNat
    rw [ei]
  have eg : Int32.ofInt x = g i.toNat := by
    rw [← hx, hf]
    exact Int32.ofInt_toInt _
  refine h_iast hE hb hf (by rw [vp_in_iff]; omega) hd ?_
  rw [et, eg]
  have e1 : upd g i.toNat (g i.toNat) = g := funext (fun j => by
    by_cases h : j = i.toNat
    · rw [h, up_same]
    · rw [up_oth _ _ h])
  rw [e1, ← hf]
  have e2 : va_up f b (f b) = f := funext (fun j => by
    by_cases h : j = b
    · rw [h, va_up_self]
    · rw [va_up_ne _ _ h])
  rw [e2]
  exact kk
theorem bdA : ∀ k, k < 114 → kbd 217 k = kbd 201 k := by decide +kernel
theorem hm355 {X0 : zC0} (H : ∀ j, j < 355 → CMj X0 j) : CMj X0 355 := by
  intro mi c hc
  have e : conAt 355 = some (162, c355) := rfl
  rw [e] at hc
  obtain ⟨rfl, rfl⟩ := Prod.mk.inj (Option.some.inj hc)
  rw [mt_putBack]
  intro K B L f ν μ hh hg
  have hm : μ 0 ∈ L ∧ K (μ 0) = 200 := hg.2.2.2.1 0 200 rfl
  obtain ⟨a, ha1, ha2, -⟩ := one_ad hh 201 (by decide) (by decide)
  obtain ⟨b, hb1, hb2, -⟩ := one_ad hh 217 (by decide) (by decide)
  have hsame : ∀ k, k = 0 ∨ k = 1 ∨ k = 11 ∨ k = 12 → gi (f b) k = gi (f a) k := fun k hk => by
    rcases hk with rfl | rfl | rfl | rfl
    · have p1 := (mokA hh (show (zkd 217).1 = 2 by decide) (by decide) (hg.2.2.2.2.1 ((217, (0, [])), (0, [(1, 0)])) (by decide)) b hb1 hb2).2
      have p2 := (mokA hh (show (zkd 201).1 = 2 by decide) (by decide) (hg.2.2.2.2.1 ((201, (0, [])), (0, [(1, 0)])) (by decide)) a ha1 ha2).2
      simp [xv, xvT] at p1 p2
      rw [p1, p2]
    · have p1 := (mokA hh (show (zkd 217).1 = 2 by decide) (by decide) (hg.2.2.2.2.1 ((217, (1, [])), (0, [(1, 1)])) (by decide)) b hb1 hb2).2
      have p2 := (mokA hh (show (zkd 201).1 = 2 by decide) (by decide) (hg.2.2.2.2.1 ((201, (1, [])), (0, [(1, 1)])) (by decide)) a ha1 ha2).2
      simp [xv, xvT] at p1 p2
      rw [p1, p2]
    · have p1 := (mokA hh (show (zkd 217).1 = 2 by decide) (by decide) (hg.2.2.2.2.1 ((217, (11, [])), (0, [(1, 2)])) (by decide)) b hb1 hb2).2
      have p2 := (mokA hh (show (zkd 201).1 = 2 by decide) (by decide) (hg.2.2.2.2.1 ((201, (11, [])), (0, [(1, 2)])) (by decide)) a ha1 ha2).2
      simp [xv, xvT] at p1 p2
      rw [p1, p2]
    · have p1 := (mokA hh (show (zkd 217).1 = 2 by decide) (by decide) (hg.2.2.2.2.1 ((217, (12, [])), (0, [(1, 3)])) (by decide)) b hb1 hb2).2
      have p2 := (mokA hh (show (zkd 201).1 = 2 by decide) (by decide) (hg.2.2.2.2.1 ((201, (12, [])), (0, [(1, 3)])) (by decide)) a ha1 ha2).2
      simp [xv, xvT] at p1 p2
      rw [p1, p2]
  have he0 := hg.1
  generalize hmm : μ 0 = m at hm
  show eM X0 3 yX12_putBack cX12_putBack 2 none (zrm 2 0 0) [.ref (μ 0)] L f (cpost X0.2.2.1 c355 K B L f ν μ)
  rw [hmm]
  refine eM.mk rfl pnX12 (Nat.le_of_ble_eq_true rfl) (fun E hE _ hret => ?_)
  obtain ⟨l0, D0, cy0, ax0⟩ := X0
  have hmods : ∀ k, k < 114 → (k ≠ 0 ∧ k ≠ 1 ∧ k ≠ 11 ∧ k ≠ 12) → (201, reg 201 k) ∈ c355.2.1 := by decide +kernel
  have hmods2 : ∀ k, k = 0 ∨ k = 1 ∨ k = 11 ∨ k = 12 → (201, reg 201 k) ∉ c355.2.1 := fun k hk => by
    rcases hk with rfl | rfl | rfl | rfl <;> decide +kernel
  have go : ∀ (N k : Nat) (K1 : Nat → Nat) (B1 : Int) (L1 : List Nat) (f1 : Nat → va_E), k + N = 114 → hok cy0 K1 B1 L1 f1 → extC c355.2.1 K B L f K1 B1 L1 f1 → eW E 0 0 L1 f1 2 [(0, .ref m), (1, .int (Int32.ofInt (k : Int)))] [] := by
    intro N
    induction N with
    | zero =>
      intro k K1 B1 L1 f1 hk h1 e1
      refine s_pb2 H hE h1 (by omega) (exin e1 hm) (fun K2 B2 L2 f2 v r h2 e2 b2 _ _ _ _ => by omega) (fun K2 B2 L2 f2 h2 e2 _ hm2 => ?_)
      have e02 := extC_tr e1 (extC_mono e2 (by decide))
      refine hret 0 0 L2 f2 26 _ (Nat.le_refl _) (Nat.le_refl _) (by decide +kernel) ⟨_, List.mem_singleton.mpr rfl, K2, B2, ν, μ, h2, e02, ⟨he0, fa0, fa0, ?_, fa0, fa0, fa0⟩, fun i _ => rfl, fun i _ => rfl, rfl⟩
      intro i q hq
      match i, hq with
      | 0, hq => cases hq; rw [hmm]; exact hm2
      | i + 1, hq => cases hq
    | succ N ih =>
      intro k K1 B1 L1 f1 hk h1 e1
      refine s_pb2 H hE h1 (by omega) (exin e1 hm) (fun K2 B2 L2 f2 v r h2 e2 b2 bv hm2 hr2 cv => ?_) (fun K2 B2 L2 f2 h2 e2 b2 hm2 => by omega)
      have e02 := extC_tr e1 (extC_mono e2 (by decide))
      have ha := exin e02 ⟨ha1, ha2⟩
      have hb := exin e02 ⟨hb1, hb2⟩
      obtain rfl := sol h2 hr2 ha (by decide)
      have qv : gi (f2 b) k = v := by
        have := (cv b hb.1 hb.2).2
        rw [Int.toNat_natCast] at this
        exact this
      have next : ∀ (f3 : Nat → va_E), hok cy0 K2 B2 L2 f3 → extC c355.2.1 K B L f K2 B2 L2 f3 → eW E 0 0 L2 f3 20 [(0, .ref m), (1, .int (Int32.ofInt (k : Int)))] [] := fun f3 h3 e3 => s_pb20 H hE h3 (by omega) hm2 (fun K4 B4 L4 f4 h4 e4 _ hm4 => by
        have : (1 + (k : Int)) = ((k + 1 : Nat) : Int) := by omega
        rw [this]
        exact ih (k + 1) K4 B4 L4 f4 (by omega) h4 (extC_tr e3 (extC_mono e4 (by decide))))
      by_cases h3 : k = 0 ∨ k = 1 ∨ k = 11 ∨ k = 12
      · refine w_ist_same hE h2 hr2.1 hr2.2 (by decide) (by decide) (by omega) (by show (k : Int) < 17938; omega) ?_ (by decide +kernel) (next f2 h2 e02)
        rw [Int.toNat_natCast, ← qv, ext_gi e02 ha1 ha2 (hmods2 k h3), ← hsame k h3, ext_gi e02 hb1 hb2 (by rw [show reg 217 k = reg 217 k from rfl]; intro hq; simp [c355] at hq)]
      · have hbd := arr_bd h2 hb (j := k) (by decide) (by show k < 114; omega)
        rw [bdA k (by omega), qv] at hbd
        refine w_ist hE h2 hr2.1 hr2.2 (by decide) (by decide) (by omega) (by show (k : Int) < 17938; omega) bv (by rw [Int.toNat_natCast]; exact hbd) (by decide +kernel) (fun f3 a1 a2 a3 a4 a5 => ?_)
        have h3' := a4 (XP_oth h2 hr2.2 a1 (fun i hi => by
          rw [rel201] at hi
          have hi' : i ≤ 1 := Nat.le_of_ble_eq_true hi
          exact a3 i (by rw [Int.toNat_natCast]; omega)))
        exact next f3 h3' (extC_tr e02 (extC_mono a5 (fun q hq => by rw [List.mem_singleton.mp hq, Int.toNat_natCast]; exact hmods k (by omega) (by omega))))
  refine s_pb0 H hE hh hm (fun K1 B1 L1 f1 h1 e1 hm1 => ?_)
  exact go 114 0 K1 B1 L1 f1 rfl h1 (extC_mono e1 (by decide))
