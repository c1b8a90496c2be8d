/-! The check of a contract. -/
def slots : Nat → List EV → EL
  | _, [] => []
  | i, v :: vs => (i, v) :: slots (if v.1 == 1 then i + 2 else i + 1) vs
theorem slots_ok (ν : Nat → Int) (μ : Nat → Nat) : ∀ (vs : List EV) (i : Nat), lv_args i (vs.map (cv ν μ)) = (slots i vs).map (cl ν μ) := by
  intro vs
  induction vs with
  | nil => intro i; rfl
  | cons v vs ih =>
    intro i
    have hc := cat_cv ν μ v
    simp only [List.map_cons, lv_args, slots]
    rw [ih]
    have e : (if (cv ν μ v).category = 2 then i + 2 else i + 1) = (if (v.1 == 1) = true then i + 2 else i + 1) := by
      rw [← hc]
      by_cases h : (cv ν μ v).category = 2
      · rw [if_pos h, if_pos (by rw [h]; rfl)]
      · rw [if_neg h, if_neg (by simpa using h)]
    rw [e]
    rfl
theorem slN_ok (ν : Nat → Int) (μ : Nat → Nat) : ∀ (vs : List EV), (lg_sl (vs.map (cv ν μ))).length = slN vs := by
  intro vs
  induction vs with
  | nil => rfl
  | cons v vs ih =>
    have hc := cat_cv ν μ v
    unfold lg_sl at ih ⊢
    rw [List.map_cons, List.flatMap_cons, List.length_append, ih, slN]
    congr 1
    rw [← hc]
    by_cases h : (cv ν μ v).category = 2
    · rw [if_pos h, if_pos (by rw [h]; rfl)]
      rfl
    · rw [if_neg h, if_neg (by simpa using h)]
      rfl
def chk (D : DT) (F : Nat) : Bool := Nat.ble 1 (dC D).2.2.2.1 && Nat.ble (slN (dC D).1.2.1) (dNL D) && runS D F 0 0 none (0, slots 0 (dC D).1.2.1, [], (dC D).1.2.2.1) && (dCuts D).all (fun q => ge2 q.2.1.2.2.1.1 q.2.1.2.2.1.2.1 q.2.2.1 && scE q.2.1.2.2.1.1.length q.2.2.1 && Nat.ble (dN0 D) q.2.1.2.2.1.1.length && Nat.ble (dR0 D) q.2.1.2.2.1.2.2.2.1.length && runS D F q.2.2.2.1 q.2.2.2.2 (some q.2.2.1) (q.1, q.2.1.1, q.2.1.2.1, q.2.1.2.2.1))
section CK
variable {l0 : Launch} {D0 : va_G} {cy0 : Nat → ClassId} {ax0 : zAx} {mt : Nat → MT} {D : DT}
theorem xv_agree {ν ν' : Nat → Int} {N : Nat} {e : EX} (hs : scE N e = true) (h : ∀ i, i < N → ν i = ν' i) : xv ν e = xv ν' e := by
  unfold xv
  congr 1
  unfold scE at hs
  generalize e.2 = ts at hs
  induction ts with
  | nil => rfl
  | cons t ts ih =>
    simp only [List.all_cons, Bool.and_eq_true, Nat.blt_eq] at hs
    simp only [xvT]
    rw [ih hs.2, h t.2 hs.1]
theorem chkM_ok {F : Nat} {y : MethodName} {cc : ByteArray} {ret : Option FieldType} (hc : chk D F = true) (hD : dOk (l0, D0, cy0, ax0) y.cls cc mt D) (hrt : eRt (dC D).2.2.2.2.2.2 ret) (hy : plainName y.cls = true) (hrb : dRb D = false → ret ≠ some .boolean ∧ (∀ ft, ret = some ft → ∀ v : Int32, ft ≠ .boolean → narrow ft (.int v) = .int v)) (hrb2 : dRb D = true → ret = some .boolean) (hmac : ∀ E X, zOk E (l0, D0, cy0, ax0) y.cls cc (dNL D) (zrm (dC D).2.2.2.1 (dC D).2.2.2.2.1 (dC D).2.2.2.2.2.1) → X.1 = cy0 → X.2.1 = dMods D → ∀ pc m, dMac D pc = some m → macOk E X D pc m) : CM (l0, D0, cy0, ax0) (y, cc, dNL D, ret) (dC D) := by
  unfold chk at hc
  simp only [Bool.and_eq_true, Nat.ble_eq, List.all_eq_true] at hc
  obtain ⟨⟨⟨hd1, hsl⟩, hrun⟩, hcuts⟩ := hc
  intro K0 B0 L0 f0 νi μi hh hgo
  refine eM.mk hrt hy (by rw [slN_ok]; exact hsl) (fun E hE _ hret => ?_)
  -- every cut, by its rank
  have cuts : ∀ m : Nat, cutH E D cy0 K0 B0 L0 f0 νi μi (some (m : Int)) := by
    intro m
    induction m with
    | zero =>
      intro q hq K B L f ν μ h1 h2 h3 h4 h5 h6
      have h7 := ge2_ok h3.1 h3.2.1 (hcuts q hq).1.1.1.1
      have h8 := h6 _ rfl
      exact absurd h8 (by omega)
    | succ m ih =>
      intro q hq K B L f ν μ h1 h2 h3 h4 h5 h6
      obtain ⟨⟨⟨⟨c1, c2⟩, c3⟩, c4⟩, c5⟩ := hcuts q hq
      have hνN : ∀ i, i < q.2.1.2.2.1.1.length → ν i = (fun i => if i = q.2.1.2.2.1.1.length then B0 else ν i) i := fun i hi => by
        show ν i = if i = q.2.1.2.2.1.1.length then B0 else ν i
        rw [if_neg (by omega)]
      have hrank : xv ν q.2.2.1 = xv (fun i => if i = q.2.1.2.2.1.1.length then B0 else ν i) q.2.2.1 := xv_agree c2 hνN
      refine run_ok (X := (cy0, dMods D, L0, f0, K0, q.2.1.2.2.1.1.length, fun i => if i = q.2.1.2.2.1.1.length then B0 else ν i, q.2.1.2.2.1.2.2.2.1.length, μ)) (N := q.2.1.2.2.1.1.length) (rk := some q.2.2.1) (K0 := K0) (B0 := B0) (L0 := L0) (f0 := f0) (νi := νi) (μi := μi) hE hD hd1 hrb hrb2 hret ?_ rfl (fun e he => by cases he; exact c2) (hmac E _ hE rfl rfl) ?_ F _ _ _ c5 K B L f ν μ _ _ ?_
      · refine ⟨rfl, rfl, rfl, rfl, rfl, c3, by simp, fun i hi => ?_, c4, h5⟩
        show (if i = q.2.1.2.2.1.1.length then B0 else ν i) = νi i
        rw [if_neg (by omega)]
        exact h4 i hi
      · intro q' hq' K' B' L' f' ν' μ' e1 e2 e3 e4 e5 e6
        refine ih q' hq' K' B' L' f' ν' μ' e1 e2 e3 e4 e5 (fun b hb => ?_)
        have hb' : (m : Int) = b := Option.some.inj hb
        have h8 := h6 _ rfl
        have h9 := e6 _ rfl
        have h10 : xv ν' q'.2.2.1 < xv (fun i => if i = q.2.1.2.2.1.1.length then B0 else ν i) q.2.2.1 := h9
        rw [← hrank] at h10
        omega
      · refine ⟨h1, ⟨h2.1, fun hn => ?_, h2.2.2⟩, ⟨Nat.le_refl _, Nat.le_refl _, hνN, fun i hi => rfl⟩, h3, rfl, rfl⟩
        show B = (if q.2.1.2.2.1.1.length = q.2.1.2.2.1.1.length then B0 else _)
        rw [if_pos rfl]
        exact h2.2.1 hn
  have cutsN : cutH E D cy0 K0 B0 L0 f0 νi μi none := by
    intro q hq K B L f ν μ h1 h2 h3 h4 h5 h6
    refine cuts (xv ν q.2.2.1 + 1).toNat q hq K B L f ν μ h1 h2 h3 h4 h5 (fun b hb => ?_)
    have hb' : ((xv ν q.2.2.1 + 1).toNat : Int) = b := Option.some.inj hb
    omega
  rw [slots_ok]
  refine run_ok (X := (cy0, dMods D, L0, f0, K0, dN0 D, fun i => if i = dN0 D then B0 else νi i, dR0 D, μi)) (N := dN0 D) (rk := none) (K0 := K0) (B0 := B0) (L0 := L0) (f0 := f0) (νi := νi) (μi := μi) hE hD hd1 hrb hrb2 hret ?_ rfl (fun e he => by cases he) (hmac E _ hE rfl rfl) cutsN F _ _ _ hrun K0 B0 L0 f0 νi μi _ _ ?_
  · refine ⟨rfl, rfl, rfl, rfl, rfl, Nat.le_refl _, by simp, fun i hi => ?_, Nat.le_refl _, fun i hi => rfl⟩
    show (if i = dN0 D then B0 else νi i) = νi i
    rw [if_neg (by omega)]
  · refine ⟨hh, ⟨fun b hb => ⟨hb, rfl, fun i hi => rfl⟩, fun hn => ?_, fun b hb hb0 => absurd hb hb0⟩, ⟨Nat.le_refl _, Nat.le_refl _, fun i hi => ?_, fun i hi => rfl⟩, hgo, rfl, rfl⟩
    · show B0 = (if dN0 D = dN0 D then B0 else _)
      rw [if_pos rfl]
    · show νi i = if i = dN0 D then B0 else νi i
      rw [if_neg (by omega)]
theorem chk_ok {F : Nat} {y : MethodName} {cc : ByteArray} {ret : Option FieldType} (hc : chk D F = true) (hD : dOk (l0, D0, cy0, ax0) y.cls cc mt D) (hrt : eRt (dC D).2.2.2.2.2.2 ret) (hy : plainName y.cls = true) (hrb : dRb D = false → ret ≠ some .boolean ∧ (∀ ft, ret = some ft → ∀ v : Int32, ft ≠ .boolean → narrow ft (.int v) = .int v)) (hrb2 : dRb D = true → ret = some .boolean) (hnm : dMac D = fun _ => none) : CM (l0, D0, cy0, ax0) (y, cc, dNL D, ret) (dC D) := chkM_ok hc hD hrt hy hrb hrb2 (fun E X _ _ _ pc m h => by rw [hnm] at h; cases h)
end CK
