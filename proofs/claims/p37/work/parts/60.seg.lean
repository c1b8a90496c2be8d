/-! A stretch of a method: from a state to stops, where the hand goes on. -/
def stopR : EX := (-1, [])
def chkS (D : DT) (F k n pc : Nat) : Bool := runS D F k n none (pc, (dC D).1.1, (dC D).1.2.1, (dC D).1.2.2.1) && (dCuts D).all (fun q => q.2.2.1 == stopR || (ge2 q.2.1.2.2.1.1 q.2.1.2.2.1.2.1 q.2.2.1 && scE q.2.1.2.2.1.1.length q.2.2.1 && Nat.ble (dN0 D) q.2.1.2.2.1.1.length && Nat.ble (dR0 D) q.2.1.2.2.1.2.2.2.1.length && runS D F q.2.2.2.1 q.2.2.2.2 (some q.2.2.1) (q.1, q.2.1.1, q.2.1.2.1, q.2.1.2.2.1)))
section SG
variable {E : zCx} {l0 : Launch} {D0 : va_G} {cy0 : Nat → ClassId} {ax0 : zAx} {own : String} {cc : ByteArray} {mt : Nat → MT} {D : DT} {K0 : Nat → Nat} {B0 : Int} {L0 : List Nat} {f0 : Nat → va_E} {νi : Nat → Int} {μi : Nat → Nat}
theorem seg_ok {F k n pc : Nat} (hc : chkS D F k n pc = true) (hE : zOk E (l0, D0, cy0, ax0) own cc (dNL D) (zrm (dC D).2.2.2.1 (dC D).2.2.2.2.1 (dC D).2.2.2.2.2.1)) (hD : dOk (l0, D0, cy0, ax0) own cc mt D) (hd1 : 1 ≤ (dC D).2.2.2.1) (hrb : dRb D = false) (ht : (dC D).2.2.2.2.2.2 = 3) (hcs : (dC D).2.2.1 = []) (hnm : dMac D = fun _ => none) (hh : hok cy0 K0 B0 L0 f0) (hgo : gok K0 B0 L0 f0 (dC D).1.2.2.1 νi μi) (kk : ∀ q ∈ dCuts D, q.2.2.1 = stopR → ∀ (K : Nat → Nat) (B : Int) (L : List Nat) (f : Nat → va_E) (ν : Nat → Int) (μ : Nat → Nat), hok cy0 K B L f → extC (dMods D) K0 B0 L0 f0 K B L f → gok K B L f q.2.1.2.2.1 ν μ → (∀ i, i < dN0 D → ν i = νi i) → (∀ i, i < dR0 D → μ i = μi i) → eW E q.2.2.2.1 q.2.2.2.2 L f q.1 (q.2.1.1.map (cl ν μ)) (q.2.1.2.1.map (cv ν μ))) : eW E k n L0 f0 pc ((dC D).1.1.map (cl νi μi)) ((dC D).1.2.1.map (cv νi μi)) := by
  unfold chkS at hc
  simp only [Bool.and_eq_true, List.all_eq_true] at hc
  obtain ⟨hrun, hcuts⟩ := hc
  have hrb1 : dRb D = false → (none : Option FieldType) ≠ some .boolean ∧ (∀ ft, (none : Option FieldType) = some ft → ∀ v : Int32, ft ≠ .boolean → narrow ft (.int v) = .int v) := fun _ => ⟨by decide, fun ft h => by cases h⟩
  have hrb2 : dRb D = true → (none : Option FieldType) = some .boolean := fun h => by rw [hrb] at h; cases h
  have hret : eRet E (dC D).2.2.2.2.2.2 cc none (zrm (dC D).2.2.2.1 (dC D).2.2.2.2.1 (dC D).2.2.2.2.2.1) (cpost cy0 (dC D) K0 B0 L0 f0 νi μi) := by
    rw [ht]
    intro k n L f pc lv _ _ _ hp
    obtain ⟨C, hC, -⟩ := hp
    rw [hcs] at hC
    cases hC
  have hmac : ∀ X, ∀ pc m, dMac D pc = some m → macOk E X D pc m := fun X pc m h => by rw [hnm] at h; cases h
  have cuts : ∀ m : Nat, cutH E D cy0 K0 B0 L0 f0 νi μi (some (m : Int)) := by
    intro m
    induction m with
    | zero =>
      intro q hq K B L f ν μ h1 h2 h3 h4 h5 h6
      by_cases hst : q.2.2.1 = stopR
      · exact kk q hq hst K B L f ν μ h1 h2 h3 h4 h5
      · have hcq := hcuts q hq
        simp only [Bool.or_eq_true, beq_iff_eq, hst, false_or, Bool.and_eq_true] at hcq
        have h7 := ge2_ok h3.1 h3.2.1 hcq.1.1.1.1
        have h8 := h6 _ rfl
        exact absurd h8 (by omega)
    | succ m ih =>
      intro q hq K B L f ν μ h1 h2 h3 h4 h5 h6
      by_cases hst : q.2.2.1 = stopR
      · exact kk q hq hst K B L f ν μ h1 h2 h3 h4 h5
      · have hcq := hcuts q hq
        simp only [Bool.or_eq_true, beq_iff_eq, hst, false_or, Bool.and_eq_true, Nat.ble_eq] at hcq
        obtain ⟨⟨⟨⟨c1, c2⟩, c3⟩, c4⟩, c5⟩ := hcq
        have hνN : ∀ i, i < q.2.1.2.2.1.1.length → ν i = (fun i => if i = q.2.1.2.2.1.1.length then B0 else ν i) i := fun i hi => by
          show ν i = if i = q.2.1.2.2.1.1.length then B0 else ν i
          rw [if_neg (by omega)]
        have hrank : xv ν q.2.2.1 = xv (fun i => if i = q.2.1.2.2.1.1.length then B0 else ν i) q.2.2.1 := xv_agree c2 hνN
        refine run_ok (X := (cy0, dMods D, L0, f0, K0, q.2.1.2.2.1.1.length, fun i => if i = q.2.1.2.2.1.1.length then B0 else ν i, q.2.1.2.2.1.2.2.2.1.length, μ)) (N := q.2.1.2.2.1.1.length) (rk := some q.2.2.1) (K0 := K0) (B0 := B0) (L0 := L0) (f0 := f0) (νi := νi) (μi := μi) hE hD hd1 hrb1 hrb2 hret ?_ rfl (fun e he => by cases he; exact c2) (hmac _) ?_ F _ _ _ c5 K B L f ν μ _ _ ?_
        · refine ⟨rfl, rfl, rfl, rfl, rfl, c3, by simp, fun i hi => ?_, c4, h5⟩
          show (if i = q.2.1.2.2.1.1.length then B0 else ν i) = νi i
          rw [if_neg (by omega)]
          exact h4 i hi
        · intro q' hq' K' B' L' f' ν' μ' e1 e2 e3 e4 e5 e6
          refine ih q' hq' K' B' L' f' ν' μ' e1 e2 e3 e4 e5 (fun b hb => ?_)
          have hb' : (m : Int) = b := Option.some.inj hb
          have h8 := h6 _ rfl
          have h9 := e6 _ rfl
          have h10 : xv ν' q'.2.2.1 < xv (fun i => if i = q.2.1.2.2.1.1.length then B0 else ν i) q.2.2.1 := h9
          rw [← hrank] at h10
          omega
        · refine ⟨h1, ⟨h2.1, fun hn => ?_, h2.2.2⟩, ⟨Nat.le_refl _, Nat.le_refl _, hνN, fun i hi => rfl⟩, h3, rfl, rfl⟩
          show B = (if q.2.1.2.2.1.1.length = q.2.1.2.2.1.1.length then B0 else _)
          rw [if_pos rfl]
          exact h2.2.1 hn
  have cutsN : cutH E D cy0 K0 B0 L0 f0 νi μi none := by
    intro q hq K B L f ν μ h1 h2 h3 h4 h5 h6
    refine cuts (xv ν q.2.2.1 + 1).toNat q hq K B L f ν μ h1 h2 h3 h4 h5 (fun b hb => ?_)
    have hb' : ((xv ν q.2.2.1 + 1).toNat : Int) = b := Option.some.inj hb
    omega
  refine run_ok (X := (cy0, dMods D, L0, f0, K0, dN0 D, fun i => if i = dN0 D then B0 else νi i, dR0 D, μi)) (N := dN0 D) (rk := none) (K0 := K0) (B0 := B0) (L0 := L0) (f0 := f0) (νi := νi) (μi := μi) hE hD hd1 hrb1 hrb2 hret ?_ rfl (fun e he => by cases he) (hmac _) cutsN F _ _ _ hrun K0 B0 L0 f0 νi μi _ _ ?_
  · refine ⟨rfl, rfl, rfl, rfl, rfl, Nat.le_refl _, by simp, fun i hi => ?_, Nat.le_refl _, fun i hi => rfl⟩
    show (if i = dN0 D then B0 else νi i) = νi i
    rw [if_neg (by omega)]
  · refine ⟨hh, ⟨fun b hb => ⟨hb, rfl, fun i hi => rfl⟩, fun hn => ?_, fun b hb hb0 => absurd hb hb0⟩, ⟨Nat.le_refl _, Nat.le_refl _, fun i hi => ?_, fun i hi => rfl⟩, hgo, rfl, rfl⟩
    · show B0 = (if dN0 D = dN0 D then B0 else _)
      rw [if_pos rfl]
    · show νi i = if i = dN0 D then B0 else νi i
      rw [if_neg (by omega)]
end SG
/-! The hand's own steps. -/
theorem hok_up {cy : Nat → ClassId} {K : Nat → Nat} {B : Int} {L : List Nat} {f : Nat → va_E} (h : hok cy K B L f) {b kd : Nat} {e' : va_E} (hk : K b = kd) (hc : cok cy K B L kd e') (hx : XP K L (va_up f b e')) : hok cy K B L (va_up f b e') := by
  refine ⟨fun b' hb' => ?_, h.2.1, hx⟩
  by_cases hne : b' = b
  · subst hne
    rw [va_up_self, hk]
    exact hc
  · rw [va_up_ne _ _ hne]
    exact h.1 b' hb'
theorem extC_rf {mods : List (Nat × Nat)} {K : Nat → Nat} {B : Int} {L : List Nat} {f : Nat → va_E} : extC mods K B L f K B L f := ⟨fun b hb => ⟨hb, rfl, fun _ _ => rfl⟩, fun _ => rfl, fun b hb hn => absurd hb hn⟩
theorem extC_up {mods : List (Nat × Nat)} {K : Nat → Nat} {B : Int} {L : List Nat} {f : Nat → va_E} {b : Nat} {e' : va_E} (hm : ∀ i, (K b, reg (K b) i) ∉ mods → cget e' i = cget (f b) i) : extC mods K B L f K B L (va_up f b e') := by
  refine ⟨fun b' hb' => ⟨hb', rfl, fun i hi => ?_⟩, fun _ => rfl, fun b hb hn => absurd hb hn⟩
  by_cases hne : b' = b
  · subst hne
    rw [va_up_self]
    exact hm i hi
  · rw [va_up_ne _ _ hne]
theorem extC_mono {m1 m2 : List (Nat × Nat)} {K K' : Nat → Nat} {B B' : Int} {L L' : List Nat} {f f' : Nat → va_E} (h : extC m1 K B L f K' B' L' f') (hs : ∀ q ∈ m1, q ∈ m2) : extC m2 K B L f K' B' L' f' := ⟨fun b hb => ⟨(h.1 b hb).1, (h.1 b hb).2.1, fun i hi => (h.1 b hb).2.2 i (fun hm => hi (hs _ hm))⟩, fun hn => h.2.1 (fun hm => hn (hs _ hm)), h.2.2⟩
theorem extC_tr {mods : List (Nat × Nat)} {K K1 K2 : Nat → Nat} {B B1 B2 : Int} {L L1 L2 : List Nat} {f f1 f2 : Nat → va_E} (h1 : extC mods K B L f K1 B1 L1 f1) (h2 : extC mods K1 B1 L1 f1 K2 B2 L2 f2) : extC mods K B L f K2 B2 L2 f2 := by
  refine ⟨fun b hb => ?_, fun hn => (h2.2.1 hn).trans (h1.2.1 hn), fun b hb hn => ?_⟩
  · obtain ⟨a1, a2, a3⟩ := h1.1 b hb
    obtain ⟨b1, b2, b3⟩ := h2.1 b a1
    exact ⟨b1, b2.trans a2, fun i hi => by rw [b3 i (by rw [a2]; exact hi), a3 i hi]⟩
  · by_cases hb1 : b ∈ L1
    · rw [(h2.1 b hb1).2.1]
      exact h1.2.2 b hb1 hn
    · exact h2.2.2 b hb hb1
/-- a contract by hand: what is there, what may be written, what is so behind it -/
def HC (X0 : zC0) (m : MT) (d t : Nat) (mods : List (Nat × Nat)) (av : List Value) (K : Nat → Nat) (B : Int) (L : List Nat) (f : Nat → va_E) (Q : (Nat → Nat) → Int → List Nat → (Nat → va_E) → Option Value → Prop) : Prop := eM X0 t m.1 m.2.1 m.2.2.1 m.2.2.2 (zrm d 0 0) av L f (fun r u => ∃ (K' : Nat → Nat) (B' : Int), hok X0.2.2.1 K' B' u.1 u.2 ∧ extC mods K B L f K' B' u.1 u.2 ∧ Q K' B' u.1 u.2 r)
/-! Known cells in plain words. -/
theorem gi_arr {cy : Nat → ClassId} {K : Nat → Nat} {B : Int} {L : List Nat} {f : Nat → va_E} (hh : hok cy K B L f) {b k : Nat} (hb : b ∈ L) (hk : K b = k) (hz : (zkd k).1 = 2) (j : Nat) : cval K (f b) j = some (gi (f b) j) := by
  have h1 := hh.1 b hb
  rw [hk] at h1
  unfold cok at h1
  rw [hz] at h1
  obtain ⟨g, hf, -⟩ := h1
  rw [hf]
  rfl
theorem gi_fld {cy : Nat → ClassId} {K : Nat → Nat} {B : Int} {L : List Nat} {f : Nat → va_E} (hh : hok cy K B L f) {b k j : Nat} {lo hi : Int} (hb : b ∈ L) (hk : K b = k) (hz : (zkd k).1 = 1) (hd : (zkd k).2.2[j]? = some (0, lo, hi)) : cval K (f b) j = some (gi (f b) j) ∧ lo ≤ gi (f b) j ∧ gi (f b) j ≤ hi := by
  have h1 := hh.1 b hb
  rw [hk] at h1
  unfold cok at h1
  rw [hz] at h1
  obtain ⟨fs, hf, -, hfd⟩ := h1
  obtain ⟨v, hv, x, rfl, hx1, hx2⟩ := hfd j _ hd
  have e : gi (f b) j = x.toInt := by
    unfold gi cget
    rw [hf]
    dsimp only
    rw [hv]
  rw [e, cval_f hf, hv]
  exact ⟨rfl, hx1, hx2⟩
theorem mokA {cy : Nat → ClassId} {K : Nat → Nat} {B : Int} {L : List Nat} {f : Nat → va_E} {ν : Nat → Int} (hh : hok cy K B L f) {k : Nat} {ix v : EX} (hz : (zkd k).1 = 2) (hk0 : k ≠ 0) (h : mok K B L f ν ((k, ix), v)) : ∀ b ∈ L, K b = k → 0 ≤ xv ν ix ∧ gi (f b) (xv ν ix).toNat = xv ν v := by
  intro b hb hk
  unfold mok at h
  rw [if_neg hk0] at h
  obtain ⟨h1, h2⟩ := h b hb hk
  rw [gi_arr hh hb hk hz] at h2
  exact ⟨h1, Option.some.inj h2⟩
theorem mokF {cy : Nat → ClassId} {K : Nat → Nat} {B : Int} {L : List Nat} {f : Nat → va_E} {ν : Nat → Int} (hh : hok cy K B L f) {k j : Nat} {lo hi : Int} {v : EX} (hz : (zkd k).1 = 1) (hd : (zkd k).2.2[j]? = some (0, lo, hi)) (hk0 : k ≠ 0) (h : mok K B L f ν ((k, ((j : Int), [])), v)) : ∀ b ∈ L, K b = k → gi (f b) j = xv ν v := by
  intro b hb hk
  unfold mok at h
  rw [if_neg hk0] at h
  obtain ⟨h1, h2⟩ := h b hb hk
  have e : (xv ν ((j : Int), [])).toNat = j := by
    simp [xv, xvT]
  rw [e, (gi_fld hh hb hk hz hd).1] at h2
  exact Option.some.inj h2
theorem Amok {cy : Nat → ClassId} {K : Nat → Nat} {B : Int} {L : List Nat} {f : Nat → va_E} {ν : Nat → Int} (hh : hok cy K B L f) {k : Nat} {ix v : EX} (hz : (zkd k).1 = 2) (hk0 : k ≠ 0) (h : ∀ b ∈ L, K b = k → 0 ≤ xv ν ix ∧ gi (f b) (xv ν ix).toNat = xv ν v) : mok K B L f ν ((k, ix), v) := by
  unfold mok
  rw [if_neg hk0]
  intro b hb hk
  obtain ⟨h1, h2⟩ := h b hb hk
  exact ⟨h1, by rw [gi_arr hh hb hk hz, h2]⟩
theorem Fmok {cy : Nat → ClassId} {K : Nat → Nat} {B : Int} {L : List Nat} {f : Nat → va_E} {ν : Nat → Int} (hh : hok cy K B L f) {k j : Nat} {lo hi : Int} {v : EX} (hz : (zkd k).1 = 1) (hd : (zkd k).2.2[j]? = some (0, lo, hi)) (hk0 : k ≠ 0) (h : ∀ b ∈ L, K b = k → gi (f b) j = xv ν v) : mok K B L f ν ((k, ((j : Int), [])), v) := by
  unfold mok
  rw [if_neg hk0]
  intro b hb hk
  have e : (xv ν ((j : Int), [])).toNat = j := by
    simp [xv, xvT]
  refine ⟨by simp [xv, xvT], ?_⟩
  show cval K (f b) (xv ν ((j : Int), [])).toNat = _
  rw [e, (gi_fld hh hb hk hz hd).1, h b hb hk]
theorem eok_of {env : EN} {ν : Nat → Int} (h : ∀ i q, env[i]? = some q → q.1 ≤ ν i ∧ ν i ≤ q.2) (h2 : ∀ i, env.length ≤ i → ν i = 0) : eok env ν := by
  intro i
  unfold ebd
  rw [List.getD_eq_getElem?_getD]
  cases hq : env[i]? with
  | some q => exact h i q hq
  | none =>
    have hl : env.length ≤ i := by simpa using hq
    rw [h2 i hl]
    exact ⟨by decide, by decide⟩
theorem fa0 {α : Type} {p : α → Prop} : ∀ x ∈ ([] : List α), p x := fun x hx => by cases hx
