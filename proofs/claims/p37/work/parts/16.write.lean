/-! What changes when a cell is written. -/
theorem gi_same {e e' : va_E} {i : Nat} (h : cget e' i = cget e i) : gi e' i = gi e i := by
  unfold gi
  rw [h]
section WU
variable {K : Nat → Nat} {B : Int} {L : List Nat} {f f' : Nat → va_E} {ν : Nat → Int} {μ : Nat → Nat} {lv : EL} {st : List EV} {G : EG} {lvc : List (Nat × Value)} {stc : List Value} {X : EC} {cy : Nat → ClassId}
theorem cok20 (h : hok cy K B L f) {b : Nat} (hb : b ∈ L) (hk : K b = 20) {j k' : Nat} (hj : (zkd 20).2.2[j]? = some (2, (k' : Int), 0)) : ∃ c, cget (f b) j = some (.ref c) ∧ c ∈ L ∧ K c = k' := by
  have h1 := h.1 b hb
  rw [hk] at h1
  have h2 : ∃ fs, f b = .inr (7, fs) ∧ fs.length = (zkd 20).2.2.length ∧ ∀ (j : Nat) (d : Nat × Int × Int), (zkd 20).2.2[j]? = some d → ∃ v, fs[j]? = some v ∧ fok K L d v := h1
  obtain ⟨fs, hf, -, hfd⟩ := h2
  obtain ⟨v, hv, hfk⟩ := hfd j _ hj
  obtain ⟨c, rfl, hc, hkc⟩ := hfk
  exact ⟨c, by rw [hf]; exact hv, hc, by simpa using hkc⟩
theorem XP_cong (h : hok cy K B L f) (hs : ∀ b ∈ L, ∀ i, rel (K b) i = true → cget (f' b) i = cget (f b) i) : XP K L f' := by
  obtain ⟨h1, h2, h3⟩ := h.2.2
  refine ⟨⟨h1.1, fun b hb b' hb' hk hk' he => h1.2.1 b hb b' hb' hk hk' (by rw [hs b hb 3 (by rw [hk]; decide), hs b hb 4 (by rw [hk]; decide), hs b' hb' 3 (by rw [hk']; decide), hs b' hb' 4 (by rw [hk']; decide)] at he; exact he), fun b hb hk c o e1 e2 i hi e3 => ?_⟩, fun b hb hk m hm hkm => ?_, fun b hb hk => ?_⟩
  · rw [hs b hb 3 (by rw [hk]; decide)] at e1
    rw [hs b hb 4 (by rw [hk]; decide)] at e2
    obtain ⟨c', c1, c2, c3⟩ := cok20 h hb hk (j := 3) (k' := 23) rfl
    obtain ⟨o', o1, o2, o3⟩ := cok20 h hb hk (j := 4) (k' := 24) rfl
    rw [c1] at e1
    rw [o1] at e2
    cases e1
    cases e2
    rw [gi_same (hs c c2 i (by rw [c3]; simp [rel]))] at e3
    rw [gi_same (hs o o2 i (by rw [o3]; simp [rel]))]
    exact h1.2.2 b hb hk c o c1 o1 i hi e3
  · have := h2 b hb hk m hm hkm
    have e1 : gi (f' b) = gi (f b) := funext (fun i => gi_same (hs b hb i (by rw [hk]; simp [rel])))
    rw [e1, gi_same (hs m hm kT0 (by rw [hkm]; simp [rel])), gi_same (hs m hm kWR (by rw [hkm]; simp [rel]))]
    exact this
  · have hr : ∀ i, i ≤ 1 → rel (K b) i = true := fun i hi => by
      have : Nat.ble i 1 = true := Nat.ble_eq_true_of_le hi
      rcases hk with hk | hk <;> rw [hk] <;> simp [rel, this]
    rw [gi_same (hs b hb 0 (hr 0 (by omega))), gi_same (hs b hb 1 (hr 1 (by omega)))]
    exact h3 b hb hk
/-- what of the seventh holds still when field j (o: of an object) of kind kd is written -/
def kpV (G : EG) (kd : Nat) (o : Bool) (j : Nat) (q : Nat × Nat × EX) : Bool := if Nat.blt q.2.1 1000 then true else if Nat.blt q.2.1 2000 then (match G.2.2.2.1[q.1]? with
  | some ka => !(ka == kd) || (o && !(q.2.1 - 1000 == j))
  | none => false) else !((q.2.1 - 2000) / 100 == kd) || (o && !((q.2.1 - 2000) % 100 == j))
def dropM (G : EG) (kd : Nat) (keep : (Nat × EX) × EX → Bool) (keepA : Nat × Int × Int → Bool) (o : Bool) (j : Nat) : EG := (G.1, G.2.1, G.2.2.1, G.2.2.2.1, G.2.2.2.2.1.filter (fun q => !(q.1.1 == kd) || keep q), G.2.2.2.2.2.1.filter (fun q => !(q.1 == kd) || keepA q), G.2.2.2.2.2.2.filter (kpV G kd o j))
theorem up_ok (h : Wd X K B L f ν μ lv st G lvc stc) {b kd j : Nat} {o : Bool} {e' : va_E} (hb : b ∈ L) (hk : K b = kd) (h0 : kd ≠ 0) (hm : ∀ i, (kd, reg kd i) ∉ X.2.1 → cget e' i = cget (f b) i) (hc : cok X.1 K B L kd e') (hx : XP K L (va_up f b e')) (ho : o = true → ∀ i, i ≠ j → cget e' i = cget (f b) i) {keep : (Nat × EX) × EX → Bool} {keepA : Nat × Int × Int → Bool} (hk1 : ∀ q ∈ G.2.2.2.2.1, q.1.1 = kd → keep q = true → mok K B L (va_up f b e') ν q) (hk2 : ∀ q ∈ G.2.2.2.2.2.1, q.1 = kd → keepA q = true → abok K L (va_up f b e') q) : Wd X K B L (va_up f b e') ν μ lv st (dropM G kd keep keepA o j) lvc stc := by
  obtain ⟨⟨hh1, hh2, hh3⟩, he, hi, ⟨g1, g2, g3, g4, g5, g6, g7⟩, hl, ht⟩ := h
  refine ⟨⟨fun b' hb' => ?_, hh2, hx⟩, ?_, ?_, ⟨g1, g2, g3, g4, fun q hq => ?_, fun q hq => ?_, fun q hq => ?_⟩, hl, ht⟩
  · by_cases hne : b' = b
    · subst hne
      rw [va_up_self, hk]
      exact hc
    · rw [va_up_ne _ _ hne]
      exact hh1 b' hb'
  · obtain ⟨cy, mods, L0, f0, K0, n0, ν0, r0, μ0⟩ := X
    refine ⟨fun b' hb' => ?_, he.2⟩
    obtain ⟨x1, x2, x3⟩ := he.1 b' hb'
    refine ⟨x1, x2, fun i hn => ?_⟩
    by_cases hne : b' = b
    · subst hne
      rw [va_up_self, ← x3 i hn]
      rw [← x2, hk] at hn
      exact hm i hn
    · rw [va_up_ne _ _ hne]
      exact x3 i hn
  · obtain ⟨cy, mods, L0, f0, K0, n0, ν0, r0, μ0⟩ := X
    exact hi
  · have hq' := List.mem_filter.mp hq
    by_cases hqk : q.1.1 = kd
    · have h9 := hq'.2
      simp only [hqk, BEq.rfl, Bool.not_true, Bool.false_or] at h9
      exact hk1 q hq'.1 hqk h9
    · have h9 := g5 q hq'.1
      unfold mok at h9 ⊢
      split
      · rename_i h0
        rw [if_pos h0] at h9
        exact h9
      · rename_i h0
        rw [if_neg h0] at h9
        intro b' hb' hkb
        have hne : b' ≠ b := fun e => hqk (by rw [← hkb, e, hk])
        rw [va_up_ne _ _ hne]
        exact h9 b' hb' hkb
  · have hq' := List.mem_filter.mp hq
    by_cases hqk : q.1 = kd
    · have h9 := hq'.2
      simp only [hqk, BEq.rfl, Bool.not_true, Bool.false_or] at h9
      exact hk2 q hq'.1 hqk h9
    · have h9 := g6 q hq'.1
      intro b' hb' hkb
      have hne : b' ≠ b := fun e => hqk (by rw [← hkb, e, hk])
      rw [va_up_ne _ _ hne]
      exact h9 b' hb' hkb
  · have hq' := List.mem_filter.mp hq
    have h9 := g7 q hq'.1
    have h8 := hq'.2
    unfold kpV at h8
    unfold pvok at h9 ⊢
    by_cases c1 : q.2.1 < 1000
    · rw [if_pos c1] at h9 ⊢
      exact h9
    · rw [if_neg c1] at h9 ⊢
      rw [if_neg (by simpa using c1)] at h8
      by_cases c2 : q.2.1 < 2000
      · rw [if_pos c2] at h9 ⊢
        rw [if_pos (by simpa using c2)] at h8
        split at h8
        · rename_i ka hka
          obtain ⟨m1, m2⟩ := g4 _ _ hka
          by_cases hne : μ q.1 = b
          · rw [hne] at m2 h9
            rw [hne, va_up_self]
            have hka2 : ka = kd := by rw [← m2, hk]
            subst hka2
            simp only [BEq.rfl, Bool.not_true, Bool.false_or, Bool.and_eq_true, Bool.not_eq_true', beq_eq_false_iff_ne] at h8
            rw [ho h8.1 _ h8.2]
            exact h9
          · rw [va_up_ne _ _ hne]
            exact h9
        · cases h8
      · rw [if_neg c2] at h9 ⊢
        rw [if_neg (by simpa using c2)] at h8
        intro m hm1 hkm
        by_cases hne : m = b
        · subst hne
          rw [va_up_self]
          have : (q.2.1 - 2000) / 100 = kd := by rw [← hkm, hk]
          rw [this] at h8
          simp only [BEq.rfl, Bool.not_true, Bool.false_or, Bool.and_eq_true, Bool.not_eq_true', beq_eq_false_iff_ne] at h8
          rw [ho h8.1 _ h8.2]
          exact h9 m hm1 hkm
        · rw [va_up_ne _ _ hne]
          exact h9 m hm1 hkm
/-- XP stands where nothing that it speaks of is written -/
theorem XP_up (h : hok cy K B L f) {b kd : Nat} {e' : va_E} (hb : b ∈ L) (hk : K b = kd) (hr : ∀ i, rel kd i = true → cget e' i = cget (f b) i) : XP K L (va_up f b e') := by
  refine XP_cong h (fun b' hb' i hi => ?_)
  by_cases hne : b' = b
  · subst hne
    rw [va_up_self]
    rw [hk] at hi
    exact hr i hi
  · rw [va_up_ne _ _ hne]
end WU
