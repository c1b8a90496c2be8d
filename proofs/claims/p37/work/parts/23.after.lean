/-! What holds still behind a call. -/
theorem mIn_no {mods : List (Nat × Nat)} {k r : Nat} (h : mIn mods k r = false) : (k, r) ∉ mods := fun hm => by
  have : mIn mods k r = true := List.any_eq_true.mpr ⟨(k, r), hm, by simp⟩
  rw [h] at this
  cases this
def cvv (K : Nat → Nat) (o : Option Value) : Option Int := match o with
  | some (.int x) => some x.toInt
  | some .null => some 0
  | some (.ref b) => some ((K b : Nat) : Int)
  | _ => none
theorem cval_eq (K : Nat → Nat) (e : va_E) (i : Nat) : cval K e i = cvv K (cget e i) := by
  rcases e with ⟨c, n, (g | g | g | g | g)⟩ | ⟨ci, fs⟩
  · rfl
  · rfl
  · rfl
  · rfl
  · show (match g i with
      | some b => some ((K b : Nat) : Int)
      | none => some 0) = cvv K (some (va_rf (g i)))
    cases g i <;> rfl
  · show (match fs[i]? with
      | some (.int x) => some x.toInt
      | some .null => some 0
      | some (.ref b) => some ((K b : Nat) : Int)
      | _ => none) = cvv K fs[i]?
    rfl
theorem ref_in {cy : Nat → ClassId} {K : Nat → Nat} {B : Int} {L : List Nat} {k : Nat} {e : va_E} (h : cok cy K B L k e) {i b : Nat} (hg : cget e i = some (.ref b)) : b ∈ L := by
  unfold cok at h
  generalize (zkd k).1 = z at h
  match z with
  | 0 => exact absurd h id
  | 1 =>
    obtain ⟨fs, rfl, e2, e3⟩ := h
    have hv : fs[i]? = some (.ref b) := hg
    obtain ⟨hlt, -⟩ := List.getElem?_eq_some_iff.mp hv
    rw [e2] at hlt
    obtain ⟨v, e4, e5⟩ := e3 _ _ (List.getElem?_eq_getElem hlt)
    rw [hv] at e4
    cases e4
    generalize (zkd k).2.2[i] = d at e5
    obtain ⟨t, lo, hi⟩ := d
    match t with
    | 0 =>
      obtain ⟨x, hx, -⟩ := e5
      cases hx
    | 1 =>
      obtain ⟨x, hx⟩ := e5
      cases hx
    | 2 =>
      obtain ⟨x, hx, hx2, -⟩ := e5
      cases hx
      exact hx2
    | 3 =>
      rcases e5 with hx | ⟨x, hx, hx2, -⟩
      · cases hx
      · cases hx
        exact hx2
    | t + 4 =>
      rcases e5 with hx | ⟨x, hx, hx2⟩
      · cases hx
      · cases hx
        exact hx2
  | 2 =>
    obtain ⟨g, rfl, -⟩ := h
    cases hg
  | 3 =>
    obtain ⟨g, rfl⟩ := h
    cases hg
  | 4 =>
    obtain ⟨g, rfl⟩ := h
    cases hg
  | 5 =>
    obtain ⟨g, rfl, -, e2⟩ := h
    have hg' : some (va_rf (g i)) = some (.ref b) := hg
    cases hgi : g i with
    | none => rw [hgi] at hg'; cases hg'
    | some b2 =>
      rw [hgi] at hg'
      cases hg'
      exact e2 i _ hgi
  | 6 =>
    obtain ⟨g, rfl, e2⟩ := h
    have hg' : some (va_rf (g i)) = some (.ref b) := hg
    cases hgi : g i with
    | none => rw [hgi] at hg'; cases hg'
    | some b2 =>
      rw [hgi] at hg'
      cases hg'
      exact (e2 i _ hgi).1
  | 7 =>
    obtain ⟨g, rfl, e2⟩ := h
    have hg' : some (va_rf (g i)) = some (.ref b) := hg
    cases hgi : g i with
    | none => rw [hgi] at hg'; cases hg'
    | some b2 =>
      rw [hgi] at hg'
      cases hg'
      exact e2 i _ hgi
  | z + 8 => exact absurd h id
/-- since a beginning: nothing gone, only mods written, what is new is one of many -/
def extC (mods : List (Nat × Nat)) (K : Nat → Nat) (B : Int) (L : List Nat) (f : Nat → va_E) (K' : Nat → Nat) (B' : Int) (L' : List Nat) (f' : Nat → va_E) : Prop := (∀ b ∈ L, b ∈ L' ∧ K' b = K b ∧ ∀ i, (K b, reg (K b) i) ∉ mods → cget (f' b) i = cget (f b) i) ∧ ((0, 0) ∉ mods → B' = B) ∧ ∀ b ∈ L', b ∉ L → K' b < 40
def surv (mods : List (Nat × Nat)) (G : EG) (q : (Nat × EX) × EX) : Bool := if q.1.1 == 0 then !(mIn mods 0 0) else Nat.ble 40 q.1.1 && (if (zkd q.1.1).1 == 1 then q.1.2.2.isEmpty && !(mIn mods q.1.1 q.1.2.1.toNat) else decide (ubq G.1 G.2.1 q.1.2 ≤ 2147483647) && inR (fun r => !(mIn mods q.1.1 r)) G q.1.1 q.1.2)
def abS (mods : List (Nat × Nat)) (q : Nat × Int × Int) : Bool := Nat.ble 40 q.1 && (zkd q.1).1 == 2 && !(isA q.1) && !(mIn mods q.1 0)
def pvS (mods : List (Nat × Nat)) (G : EG) (q : Nat × Nat × EX) : Bool := if Nat.blt q.2.1 1000 then false else if Nat.blt q.2.1 2000 then (match G.2.2.2.1[q.1]? with
  | some ka => (zkd ka).1 == 1 && !(mIn mods ka (q.2.1 - 1000))
  | none => false) else Nat.ble 40 ((q.2.1 - 2000) / 100) && (zkd ((q.2.1 - 2000) / 100)).1 == 1 && !(mIn mods ((q.2.1 - 2000) / 100) ((q.2.1 - 2000) % 100))
def aftG (mods : List (Nat × Nat)) (G : EG) : EG := (G.1, G.2.1, G.2.2.1, G.2.2.2.1, G.2.2.2.2.1.filter (surv mods G), G.2.2.2.2.2.1.filter (abS mods), G.2.2.2.2.2.2.filter (pvS mods G))
section AF
variable {K K' : Nat → Nat} {B B' : Int} {L L' : List Nat} {f f' : Nat → va_E} {ν : Nat → Int} {μ : Nat → Nat} {lv : EL} {st : List EV} {G : EG} {lvc : List (Nat × Value)} {stc : List Value} {X : EC} {mods : List (Nat × Nat)}
theorem cval_same (hh : hok X.1 K B L f) (hY : extC mods K B L f K' B' L' f') {b i : Nat} (hb : b ∈ L) (hr : (K b, reg (K b) i) ∉ mods) : cval K' (f' b) i = cval K (f b) i := by
  rw [cval_eq, cval_eq, (hY.1 b hb).2.2 i hr]
  cases hg : cget (f b) i with
  | none => rfl
  | some v =>
    cases v with
    | ref b2 =>
      show some ((K' b2 : Nat) : Int) = some ((K b2 : Nat) : Int)
      rw [(hY.1 b2 (ref_in (hh.1 b hb) hg)).2.1]
    | _ => rfl
theorem aft_ok (h : Wd X K B L f ν μ lv st G lvc stc) (hh : hok X.1 K' B' L' f') (hY : extC mods K B L f K' B' L' f') (hsub : ∀ q ∈ mods, q ∈ X.2.1) : Wd X K' B' L' f' ν μ lv st (aftG mods G) lvc stc := by
  have hw := h
  obtain ⟨h1, he, hi, ⟨g1, g2, g3, g4, g5, g6, g7⟩, hl, ht⟩ := h
  obtain ⟨y1, y2, y3⟩ := id hY
  have old : ∀ b ∈ L', 40 ≤ K' b → b ∈ L := fun b hb h40 => by
    by_cases hbL : b ∈ L
    · exact hbL
    · have := y3 b hb hbL
      omega
  refine ⟨hh, ?_, ?_, ⟨g1, g2, g3, fun i k hk => ?_, fun q hq => ?_, fun q hq => ?_, fun q hq => ?_⟩, hl, ht⟩
  · obtain ⟨cy, mods', L0, f0, K0, n0, ν0, r0, μ0⟩ := X
    refine ⟨fun b hb => ?_, fun hn => ?_, fun b hb hb0 => ?_⟩
    · obtain ⟨x1, x2, x3⟩ := he.1 b hb
      refine ⟨(y1 b x1).1, (y1 b x1).2.1.trans x2, fun i hn => ?_⟩
      rw [← x3 i hn]
      exact (y1 b x1).2.2 i (fun hm => hn (by rw [← x2]; exact hsub _ hm))
    · rw [y2 (fun hm => hn (hsub _ hm))]
      exact he.2.1 hn
    · by_cases hbL : b ∈ L
      · rw [(y1 b hbL).2.1]
        exact he.2.2 b hbL hb0
      · exact y3 b hb hbL
  · obtain ⟨cy, mods', L0, f0, K0, n0, ν0, r0, μ0⟩ := X
    exact hi
  · obtain ⟨x1, x2⟩ := g4 i k hk
    exact ⟨(y1 _ x1).1, (y1 _ x1).2.1.trans x2⟩
  · have hq' := List.mem_filter.mp hq
    have h9 := g5 q hq'.1
    have h8 := hq'.2
    unfold surv at h8
    unfold mok at h9 ⊢
    split at h8
    · rename_i h0
      have h0' : q.1.1 = 0 := by simpa using h0
      rw [if_pos h0'] at h9 ⊢
      rw [y2 (mIn_no (by simpa using h8))]
      exact h9
    · rename_i h0
      have h0' : q.1.1 ≠ 0 := by simpa using h0
      rw [if_neg h0'] at h9 ⊢
      simp only [Bool.and_eq_true, Nat.ble_eq] at h8
      obtain ⟨h40, h8⟩ := h8
      intro b hb hkb
      have hbL := old b hb (by rw [hkb]; exact h40)
      have hkb2 : K b = q.1.1 := (y1 b hbL).2.1.symm.trans hkb
      obtain ⟨z1, z2⟩ := h9 b hbL hkb2
      refine ⟨z1, ?_⟩
      rw [cval_same h1 hY hbL ?_]
      · exact z2
      · rw [hkb2]
        split at h8
        · rename_i hz
          simp only [Bool.and_eq_true, Bool.not_eq_true'] at h8
          have hz' : (zkd q.1.1).1 = 1 := by simpa using hz
          rw [reg_obj hz', xv_cst h8.1]
          exact mIn_no h8.2
        · rename_i hz
          simp only [Bool.and_eq_true, decide_eq_true_eq] at h8
          have hz' : (zkd q.1.1).1 ≠ 1 := by simpa using hz
          have hu := ubq_ok g1 g2 q.1.2
          have := inR_ok hw h8.2 z1 (by omega) hz'
          exact mIn_no (by simpa using this)
  · have hq' := List.mem_filter.mp hq
    have h9 := g6 q hq'.1
    have h8 := hq'.2
    unfold abS at h8
    simp only [Bool.and_eq_true, Nat.ble_eq, beq_iff_eq, Bool.not_eq_true'] at h8
    obtain ⟨⟨⟨h40, hz⟩, hA⟩, hm⟩ := h8
    intro b hb hkb i hi2
    have hbL := old b hb (by rw [hkb]; exact h40)
    have hkb2 : K b = q.1 := (y1 b hbL).2.1.symm.trans hkb
    obtain ⟨x, z1, z2, z3⟩ := h9 b hbL hkb2 i hi2
    refine ⟨x, ?_, z2, z3⟩
    rw [cval_same h1 hY hbL ?_]
    · exact z1
    · rw [hkb2]
      unfold reg
      rw [hA, if_neg (by decide), if_neg (by rw [hz]; decide)]
      exact mIn_no hm
  · have hq' := List.mem_filter.mp hq
    have h9 := g7 q hq'.1
    have h8 := hq'.2
    unfold pvS at h8
    unfold pvok at h9 ⊢
    split at h8
    · cases h8
    · rename_i c1
      have c1' : ¬ q.2.1 < 1000 := by simpa using c1
      rw [if_neg c1'] at h9 ⊢
      split at h8
      · rename_i c2
        have c2' : q.2.1 < 2000 := by simpa using c2
        rw [if_pos c2'] at h9 ⊢
        split at h8
        · rename_i ka hka
          simp only [Bool.and_eq_true, beq_iff_eq, Bool.not_eq_true'] at h8
          obtain ⟨m1, m2⟩ := g4 _ _ hka
          refine ⟨(y1 _ m1).1, ?_⟩
          rw [(y1 _ m1).2.2 _ (by rw [m2, reg_obj h8.1]; exact mIn_no h8.2)]
          exact h9.2
        · cases h8
      · rename_i c2
        have c2' : ¬ q.2.1 < 2000 := by simpa using c2
        rw [if_neg c2'] at h9 ⊢
        simp only [Bool.and_eq_true, Nat.ble_eq, beq_iff_eq, Bool.not_eq_true'] at h8
        intro m hm hkm
        have hmL := old m hm (by rw [hkm]; exact h8.1.1)
        have hkm2 : K m = (q.2.1 - 2000) / 100 := (y1 m hmL).2.1.symm.trans hkm
        rw [(y1 m hmL).2.2 _ (by rw [hkm2, reg_obj h8.1.2]; exact mIn_no h8.2)]
        exact h9 m hmL hkm2
end AF
