/-! What changes when a cell is written. -/
def dropM (G : EG) (kd : Nat) (keep : (Nat × EX) × EX → Bool) (keepA : Nat × Int × Int → Bool) : EG := (G.1, G.2.1, G.2.2.1, G.2.2.2.1, G.2.2.2.2.1.filter (fun q => !(q.1.1 == kd) || keep q), G.2.2.2.2.2.1.filter (fun q => !(q.1 == kd) || keepA q), G.2.2.2.2.2.2)
section WU
variable {K : Nat → Nat} {B : Int} {L : List Nat} {f : Nat → va_E} {ν : Nat → Int} {μ : Nat → Nat} {lv : EL} {st : List EV} {G : EG} {lvc : List (Nat × Value)} {stc : List Value} {X : EC} {cy : Nat → ClassId}
theorem XP_up (h : hok cy K B L f) {b kd : Nat} {e' : va_E} (hk : K b = kd) (h1 : kd ≠ 20) (h2 : kd ≠ 23) (h3 : kd ≠ 24) (h4 : kd ≠ kMTX) : XP cy K L (va_up f b e') := by
  obtain ⟨hc, -, hx1, hx2⟩ := h
  refine ⟨fun b' hb' hk' fs c o gc go e1 e2 e3 e4 e5 => ?_, fun b' hb' hk' g e1 => ?_⟩
  · have hne : b' ≠ b := fun e => h1 (by rw [← hk, ← e, hk'])
    rw [va_up_ne _ _ hne] at e1
    have hcok := hc b' hb'
    rw [hk'] at hcok
    have hcok' : ∃ fs, f b' = .inr (7, fs) ∧ fs.length = (zkd 20).2.2.length ∧ ∀ (j : Nat) (d : Nat × Int × Int), (zkd 20).2.2[j]? = some d → ∃ v, fs[j]? = some v ∧ fok K L d v := hcok
    obtain ⟨fs', hf', -, hfd⟩ := hcok'
    have hfs : fs' = fs := by
      rw [hf'] at e1
      cases e1
      rfl
    subst hfs
    obtain ⟨v3, hv3, hfk3⟩ := hfd 3 (2, 23, 0) (by decide +kernel)
    obtain ⟨v4, hv4, hfk4⟩ := hfd 4 (2, 24, 0) (by decide +kernel)
    obtain ⟨c', rfl, -, hkc⟩ := hfk3
    obtain ⟨o', rfl, -, hko⟩ := hfk4
    rw [hv3] at e2
    rw [hv4] at e3
    cases e2
    cases e3
    have n1 : c' ≠ b := fun e => h2 (by rw [← hk, ← e]; exact hkc)
    have n2 : o' ≠ b := fun e => h3 (by rw [← hk, ← e]; exact hko)
    rw [va_up_ne _ _ n1] at e4
    rw [va_up_ne _ _ n2] at e5
    exact hx1 b' hb' hk' fs' c' o' gc go e1 hv3 hv4 e4 e5
  · have hne : b' ≠ b := fun e => h4 (by rw [← hk, ← e, hk'])
    rw [va_up_ne _ _ hne] at e1
    exact hx2 b' hb' hk' g e1
/-- an int field of a TEXT -/
theorem XP_up20 (h : hok cy K B L f) {b : Nat} {fs0 : List Value} {j : Nat} {v : Value} (hk : K b = 20) (hf : f b = .inr (7, fs0)) (h3 : j ≠ 3) (h4 : j ≠ 4) : XP cy K L (va_up f b (.inr (7, fs0.set j v))) := by
  obtain ⟨hc, -, hx1, hx2⟩ := h
  refine ⟨fun b' hb' hk' fs c o gc go e1 e2 e3 e4 e5 => ?_, fun b' hb' hk' g e1 => ?_⟩
  · have hcok := hc b' hb'
    rw [hk'] at hcok
    have hcok' : ∃ fs, f b' = .inr (7, fs) ∧ fs.length = (zkd 20).2.2.length ∧ ∀ (j : Nat) (d : Nat × Int × Int), (zkd 20).2.2[j]? = some d → ∃ v, fs[j]? = some v ∧ fok K L d v := hcok
    obtain ⟨fs', hf', -, hfd⟩ := hcok'
    obtain ⟨v3, hv3, hfk3⟩ := hfd 3 (2, 23, 0) (by decide +kernel)
    obtain ⟨v4, hv4, hfk4⟩ := hfd 4 (2, 24, 0) (by decide +kernel)
    obtain ⟨c', rfl, -, hkc⟩ := hfk3
    obtain ⟨o', rfl, -, hko⟩ := hfk4
    have g3 : fs[3]? = fs'[3]? ∧ fs[4]? = fs'[4]? := by
      by_cases hne : b' = b
      · subst hne
        rw [va_up_self] at e1
        rw [hf] at hf'
        cases e1
        cases hf'
        exact ⟨List.getElem?_set_ne h3, List.getElem?_set_ne h4⟩
      · rw [va_up_ne _ _ hne, hf'] at e1
        cases e1
        exact ⟨rfl, rfl⟩
    rw [g3.1, hv3] at e2
    rw [g3.2, hv4] at e3
    cases e2
    cases e3
    have n1 : c' ≠ b := fun e => by
      have : K c' = 23 := hkc
      rw [e, hk] at this
      omega
    have n2 : o' ≠ b := fun e => by
      have : K o' = 24 := hko
      rw [e, hk] at this
      omega
    rw [va_up_ne _ _ n1] at e4
    rw [va_up_ne _ _ n2] at e5
    exact hx1 b' hb' hk' fs' c' o' gc go hf' hv3 hv4 e4 e5
  · have hne : b' ≠ b := fun e => by
      rw [e, hk] at hk'
      exact absurd hk' (by decide)
    rw [va_up_ne _ _ hne] at e1
    exact hx2 b' hb' hk' g e1
theorem Wd.up (h : Wd X K B L f ν μ lv st G lvc stc) {b kd : Nat} {e' : va_E} (hb : b ∈ L) (hk : K b = kd) (hm : kd ∈ X.2.1) (hc : cok X.1 K B L kd e') (hx : XP X.1 K L (va_up f b e')) {keep : (Nat × EX) × EX → Bool} {keepA : Nat × Int × Int → Bool} (hk1 : ∀ q ∈ G.2.2.2.2.1, q.1.1 = kd → keep q = true → mok K B L (va_up f b e') ν q) (hk2 : ∀ q ∈ G.2.2.2.2.2.1, q.1 = kd → keepA q = true → abok K L (va_up f b e') q) : Wd X K B L (va_up f b e') ν μ lv st (dropM G kd keep keepA) lvc stc := by
  obtain ⟨⟨hh1, hh2, hh3⟩, he, hi, ⟨g1, g2, g3, g4, g5, g6, g7⟩, hl, ht⟩ := h
  refine ⟨⟨fun b' hb' => ?_, hh2, hx⟩, ?_, ?_, ⟨g1, g2, g3, g4, fun q hq => ?_, fun q hq => ?_, g7⟩, hl, ht⟩
  · by_cases hne : b' = b
    · subst hne
      rw [va_up_self, hk]
      exact hc
    · rw [va_up_ne _ _ hne]
      exact hh1 b' hb'
  · obtain ⟨cy, mods, L0, f0, K0, n0, ν0, r0, μ0⟩ := X
    intro b' hb'
    obtain ⟨x1, x2, x3⟩ := he b' hb'
    refine ⟨x1, x2, fun hn => ?_⟩
    have hne : b' ≠ b := fun e => hn (by
      have : K0 b' = kd := by rw [← x2, e, hk]
      rw [this]
      exact hm)
    rw [va_up_ne _ _ hne]
    exact x3 hn
  · obtain ⟨cy, mods, L0, f0, K0, n0, ν0, r0, μ0⟩ := X
    exact hi
  · have hq' := List.mem_filter.mp hq
    by_cases hqk : q.1.1 = kd
    · have h9 := hq'.2
      simp only [hqk, BEq.rfl, Bool.not_true, Bool.false_or] at h9
      exact hk1 q hq'.1 hqk h9
    · have h9 := g5 q hq'.1
      unfold mok at h9 ⊢
      split
      · rename_i h0
        rw [if_pos h0] at h9
        exact h9
      · rename_i h0
        rw [if_neg h0] at h9
        intro b' hb' hkb
        have hne : b' ≠ b := fun e => hqk (by rw [← hkb, e, hk])
        rw [va_up_ne _ _ hne]
        exact h9 b' hb' hkb
  · have hq' := List.mem_filter.mp hq
    by_cases hqk : q.1 = kd
    · have h9 := hq'.2
      simp only [hqk, BEq.rfl, Bool.not_true, Bool.false_or] at h9
      exact hk2 q hq'.1 hqk h9
    · have h9 := g6 q hq'.1
      intro b' hb' hkb
      have hne : b' ≠ b := fun e => hqk (by rw [← hkb, e, hk])
      rw [va_up_ne _ _ hne]
      exact h9 b' hb' hkb
end WU
