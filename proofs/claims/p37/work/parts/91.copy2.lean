/-! copy, both ways. -/
theorem regA_lt (i : Nat) : regA i < 24 := by
  unfold regA
  simp only [Nat.blt_eq]
  repeat' split
  all_goals omega
theorem in24 (k : Nat) (r : Nat) (h : r < 24) : (k, r) ∈ (List.range 24).map (fun j => (k, j)) := List.mem_map.mpr ⟨r, List.mem_range.mpr h, rfl⟩
theorem all201 (i : Nat) : (201, reg 201 i) ∈ c322.2.1 := by
  have : reg 201 i = regA i := rfl
  rw [this]
  exact in24 201 _ (regA_lt i)
theorem all202 (i : Nat) : (202, reg 202 i) ∈ c340.2.1 := by
  have : reg 202 i = regA i := rfl
  rw [this]
  exact in24 202 _ (regA_lt i)
theorem hm322 {X0 : zC0} (H : ∀ j, j < 322 → CMj X0 j) : CMj X0 322 := by
  intro mi c hc
  have e : conAt 322 = some (93, c322) := rfl
  rw [e] at hc
  obtain ⟨rfl, rfl⟩ := Prod.mk.inj (Option.some.inj hc)
  rw [mt_copy]
  intro K B L f ν μ hh hg
  have hr : μ 0 ∈ L ∧ K (μ 0) = 202 := hg.2.2.2.1 0 202 rfl
  have ht : μ 1 ∈ L ∧ K (μ 1) = 201 := hg.2.2.2.1 1 201 rfl
  have hrt : μ 0 ≠ μ 1 := fun e => by rw [e, ht.2] at hr; exact absurd hr.2 (by decide)
  have cr := hh.1 (μ 0) hr.1
  rw [hr.2] at cr
  have cr2 : ∃ g, f (μ 0) = zIA X0.2.2.1 17938 g ∧ ∀ i, i < 17938 → bok B (kbd 202 i) (g i).toInt := cr
  obtain ⟨gf, hfr, hbd⟩ := cr2
  have ct := hh.1 (μ 1) ht.1
  rw [ht.2] at ct
  have ct2 : ∃ g, f (μ 1) = zIA X0.2.2.1 17938 g ∧ ∀ i, i < 17938 → bok B (kbd 201 i) (g i).toInt := ct
  obtain ⟨gt, hft, -⟩ := ct2
  show eM X0 3 yX12_copy cX12_copy 3 none (zrm 1 0 0) [.ref (μ 0), .ref (μ 1)] L f (cpost X0.2.2.1 c322 K B L f ν μ)
  refine eM.mk rfl pnX12 (Nat.le_of_ble_eq_true rfl) (fun E hE _ hret => ?_)
  refine rowcopy hE hr.1 ht.1 hrt hfr hft (fun g' hg' lv => ?_)
  have h2 := hok_cp hh hr ht (by decide) hfr hg'
  have hb11 := hbd 11 (by decide)
  refine hret 0 0 L _ 21 lv (Nat.le_refl _) (Nat.le_refl _) (by decide +kernel) ⟨_, List.mem_singleton.mpr rfl, K, B, (fun i => [(gf 11).toInt].getD i 0), μ, h2, extC_up (fun i hi => ?_), ⟨(eok_of (fun i q hq => ?_) (fun i hi => ?_)), fa0, fa0, ?_, fa_cons (Amok h2 (show (zkd 202).1 = 2 by decide) (by decide) (fun x hx hkx => ?_)) (fa_cons (Amok h2 (show (zkd 201).1 = 2 by decide) (by decide) (fun x hx hkx => ?_)) fa0), fa0, fa0⟩, (fun i hi => absurd hi (by show ¬ i < 0; omega)), fun i _ => rfl, rfl⟩
  · exfalso
    rw [ht.2] at hi
    exact hi (all201 i)
  · match i, hq with
    | 0, hq => cases hq; exact ⟨hb11.1, hb11.2.1⟩
    | i + 1, hq => cases hq
  · match i, hi with
    | 0, hi => exact absurd hi (by decide)
    | i + 1, _ => rfl
  · intro i q hq
    match i, hq with
    | 0, hq => cases hq; exact hr
    | 1, hq => cases hq; exact ht
    | i + 2, hq => cases hq
  · have ex : x = μ 0 := sol hh ⟨hx, hkx⟩ hr (by decide)
    rw [ex, va_up_ne _ _ hrt, hfr]
    have ei : (xv (fun i => [(gf 11).toInt].getD i 0) (11, [])).toNat = 11 := by simp [xv, xvT]
    refine ⟨by simp [xv, xvT], ?_⟩
    rw [ei]
    simp [xv, xvT]
    rfl
  · have ex : x = μ 1 := sol hh ⟨hx, hkx⟩ ht (by decide)
    rw [ex, va_up_self]
    have ei : (xv (fun i => [(gf 11).toInt].getD i 0) (11, [])).toNat = 11 := by simp [xv, xvT]
    refine ⟨by simp [xv, xvT], ?_⟩
    rw [ei]
    show (g' 11).toInt = _
    rw [hg' 11 (by decide)]
    simp [xv, xvT]
theorem hm340 {X0 : zC0} (H : ∀ j, j < 340 → CMj X0 j) : CMj X0 340 := by
  intro mi c hc
  have e : conAt 340 = some (93, c340) := rfl
  rw [e] at hc
  obtain ⟨rfl, rfl⟩ := Prod.mk.inj (Option.some.inj hc)
  rw [mt_copy]
  intro K B L f ν μ hh hg
  have hr : μ 0 ∈ L ∧ K (μ 0) = 201 := hg.2.2.2.1 0 201 rfl
  have ht : μ 1 ∈ L ∧ K (μ 1) = 202 := hg.2.2.2.1 1 202 rfl
  have hrt : μ 0 ≠ μ 1 := fun e => by rw [e, ht.2] at hr; exact absurd hr.2 (by decide)
  have cr := hh.1 (μ 0) hr.1
  rw [hr.2] at cr
  have cr2 : ∃ g, f (μ 0) = zIA X0.2.2.1 17938 g ∧ ∀ i, i < 17938 → bok B (kbd 201 i) (g i).toInt := cr
  obtain ⟨gf, hfr, hbd⟩ := cr2
  have ct := hh.1 (μ 1) ht.1
  rw [ht.2] at ct
  have ct2 : ∃ g, f (μ 1) = zIA X0.2.2.1 17938 g ∧ ∀ i, i < 17938 → bok B (kbd 202 i) (g i).toInt := ct
  obtain ⟨gt, hft, -⟩ := ct2
  show eM X0 3 yX12_copy cX12_copy 3 none (zrm 1 0 0) [.ref (μ 0), .ref (μ 1)] L f (cpost X0.2.2.1 c340 K B L f ν μ)
  refine eM.mk rfl pnX12 (Nat.le_of_ble_eq_true rfl) (fun E hE _ hret => ?_)
  refine rowcopy hE hr.1 ht.1 hrt hfr hft (fun g' hg' lv => ?_)
  have h2 := hok_cp hh hr ht (by decide) hfr hg'
  have hb11 := hbd 11 (by decide)
  refine hret 0 0 L _ 21 lv (Nat.le_refl _) (Nat.le_refl _) (by decide +kernel) ⟨_, List.mem_singleton.mpr rfl, K, B, (fun i => [(gf 11).toInt].getD i 0), μ, h2, extC_up (fun i hi => ?_), ⟨(eok_of (fun i q hq => ?_) (fun i hi => ?_)), fa0, fa0, ?_, fa_cons (Amok h2 (show (zkd 201).1 = 2 by decide) (by decide) (fun x hx hkx => ?_)) (fa_cons (Amok h2 (show (zkd 202).1 = 2 by decide) (by decide) (fun x hx hkx => ?_)) fa0), fa0, fa0⟩, (fun i hi => absurd hi (by show ¬ i < 0; omega)), fun i _ => rfl, rfl⟩
  · exfalso
    rw [ht.2] at hi
    exact hi (all202 i)
  · match i, hq with
    | 0, hq => cases hq; exact ⟨hb11.1, hb11.2.1⟩
    | i + 1, hq => cases hq
  · match i, hi with
    | 0, hi => exact absurd hi (by decide)
    | i + 1, _ => rfl
  · intro i q hq
    match i, hq with
    | 0, hq => cases hq; exact hr
    | 1, hq => cases hq; exact ht
    | i + 2, hq => cases hq
  · have ex : x = μ 0 := sol hh ⟨hx, hkx⟩ hr (by decide)
    rw [ex, va_up_ne _ _ hrt, hfr]
    have ei : (xv (fun i => [(gf 11).toInt].getD i 0) (11, [])).toNat = 11 := by simp [xv, xvT]
    refine ⟨by simp [xv, xvT], ?_⟩
    rw [ei]
    simp [xv, xvT]
    rfl
  · have ex : x = μ 1 := sol hh ⟨hx, hkx⟩ ht (by decide)
    rw [ex, va_up_self]
    have ei : (xv (fun i => [(gf 11).toInt].getD i 0) (11, [])).toNat = 11 := by simp [xv, xvT]
    refine ⟨by simp [xv, xvT], ?_⟩
    rw [ei]
    show (g' 11).toInt = _
    rw [hg' 11 (by decide)]
    simp [xv, xvT]
