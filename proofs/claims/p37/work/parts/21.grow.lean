/-! New cells. -/
section GR
variable {K K' : Nat → Nat} {B : Int} {L L' : List Nat} {f f' : Nat → va_E} {ν : Nat → Int} {μ : Nat → Nat} {lv : EL} {st : List EV} {G : EG} {lvc : List (Nat × Value)} {stc : List Value} {X : EC} {cy : Nat → ClassId}
theorem fok_mono (hL : ∀ b ∈ L, b ∈ L' ∧ K' b = K b) {d : Nat × Int × Int} {v : Value} (h : fok K L d v) : fok K' L' d v := by
  obtain ⟨t, lo, hi⟩ := d
  match t with
  | 0 => exact h
  | 1 => exact h
  | 2 =>
    obtain ⟨b, rfl, hb, hk⟩ := h
    exact ⟨b, rfl, (hL b hb).1, by rw [(hL b hb).2]; exact hk⟩
  | 3 =>
    rcases h with h | ⟨b, rfl, hb, h1, h2⟩
    · exact Or.inl h
    · exact Or.inr ⟨b, rfl, (hL b hb).1, by rw [(hL b hb).2]; exact h1, by rw [(hL b hb).2]; exact h2⟩
  | t + 4 =>
    rcases h with h | ⟨b, rfl, hb⟩
    · exact Or.inl h
    · exact Or.inr ⟨b, rfl, (hL b hb).1⟩
theorem cok_mono (hL : ∀ b ∈ L, b ∈ L' ∧ K' b = K b) {k : Nat} {e : va_E} (h : cok cy K B L k e) : cok cy K' B L' k e := by
  unfold cok at h ⊢
  generalize (zkd k).1 = z at h ⊢
  match z with
  | 0 => exact h
  | 1 =>
    obtain ⟨fs, h1, h2, h3⟩ := h
    refine ⟨fs, h1, h2, fun j d hd => ?_⟩
    obtain ⟨v, hv, hf⟩ := h3 j d hd
    exact ⟨v, hv, fok_mono hL hf⟩
  | 2 => exact h
  | 3 => exact h
  | 4 => exact h
  | 5 =>
    obtain ⟨g, h1, h2, h6⟩ := h
    refine ⟨g, h1, fun i hi => ?_, fun i b hi => (hL b (h6 i b hi)).1⟩
    obtain ⟨b, h3, h4, h5⟩ := h2 i hi
    exact ⟨b, h3, (hL b h4).1, by rw [(hL b h4).2]; exact h5⟩
  | 6 =>
    obtain ⟨g, h1, h2⟩ := h
    exact ⟨g, h1, fun i b hi => ⟨(hL b (h2 i b hi).1).1, by rw [(hL b (h2 i b hi).1).2]; exact (h2 i b hi).2⟩⟩
  | 7 =>
    obtain ⟨g, h1, h2⟩ := h
    exact ⟨g, h1, fun i b hi => (hL b (h2 i b hi)).1⟩
  | z + 8 => exact h
theorem cval_mono (hL : ∀ b ∈ L, b ∈ L' ∧ K' b = K b) {k : Nat} {e : va_E} (hcok : cok cy K B L k e) (i : Nat) : cval K' e i = cval K e i := by
  unfold cok at hcok
  generalize (zkd k).1 = z at hcok
  match z with
  | 0 => exact absurd hcok id
  | 1 =>
    obtain ⟨fs, e1, e2, e3⟩ := hcok
    rw [e1]
    unfold cval
    dsimp only
    cases hv : fs[i]? with
    | none => rfl
    | some v =>
      cases v with
      | ref b2 =>
        obtain ⟨hlt, -⟩ := List.getElem?_eq_some_iff.mp hv
        rw [e2] at hlt
        obtain ⟨v, e4, e5⟩ := e3 _ _ (List.getElem?_eq_getElem hlt)
        rw [hv] at e4
        cases e4
        have hb2 : b2 ∈ L := by
          generalize (zkd k).2.2[i] = d at e5
          obtain ⟨t, lo, hi⟩ := d
          match t with
          | 0 =>
            obtain ⟨x, hx, -⟩ := e5
            cases hx
          | 1 =>
            obtain ⟨x, hx⟩ := e5
            cases hx
          | 2 =>
            obtain ⟨x, hx, hx2, -⟩ := e5
            cases hx
            exact hx2
          | 3 =>
            rcases e5 with hx | ⟨x, hx, hx2, -⟩
            · cases hx
            · cases hx
              exact hx2
          | t + 4 =>
            rcases e5 with hx | ⟨x, hx, hx2⟩
            · cases hx
            · cases hx
              exact hx2
        show some ((K' b2 : Nat) : Int) = some ((K b2 : Nat) : Int)
        rw [(hL b2 hb2).2]
      | _ => rfl
  | 2 =>
    obtain ⟨g, e1, -⟩ := hcok
    rw [e1]
    rfl
  | 3 =>
    obtain ⟨g, e1⟩ := hcok
    rw [e1]
    rfl
  | 4 =>
    obtain ⟨g, e1⟩ := hcok
    rw [e1]
    rfl
  | 5 =>
    obtain ⟨g, e1, -, e2⟩ := hcok
    rw [e1]
    unfold cval
    dsimp only
    cases hg : g i with
    | none => rfl
    | some b2 =>
      show some ((K' b2 : Nat) : Int) = some ((K b2 : Nat) : Int)
      rw [(hL b2 (e2 _ _ hg)).2]
  | 6 =>
    obtain ⟨g, e1, e2⟩ := hcok
    rw [e1]
    unfold cval
    dsimp only
    cases hg : g i with
    | none => rfl
    | some b2 =>
      show some ((K' b2 : Nat) : Int) = some ((K b2 : Nat) : Int)
      rw [(hL b2 (e2 _ _ hg).1).2]
  | 7 =>
    obtain ⟨g, e1, e2⟩ := hcok
    rw [e1]
    unfold cval
    dsimp only
    cases hg : g i with
    | none => rfl
    | some b2 =>
      show some ((K' b2 : Nat) : Int) = some ((K b2 : Nat) : Int)
      rw [(hL b2 (e2 _ _ hg)).2]
  | z + 8 => exact absurd hcok id
/-- nothing is said of kind k -/
def nof (G : EG) (k : Nat) : Bool := G.2.2.2.2.1.all (fun q => !(q.1.1 == k)) && G.2.2.2.2.2.1.all (fun q => !(q.1 == k)) && G.2.2.2.2.2.2.all (fun q => Nat.blt q.2.1 2000 || !((q.2.1 - 2000) / 100 == k))
theorem more_ok (h : Wd X K B L f ν μ lv st G lvc stc) (hL : ∀ b ∈ L, b ∈ L' ∧ K' b = K b ∧ f' b = f b) (hh : hok X.1 K' B L' f') (hn : ∀ b ∈ L', b ∉ L → nof G (K' b) = true ∧ K' b < 40) : Wd X K' B L' f' ν μ lv st G lvc stc := by
  obtain ⟨h1, he, hi, ⟨g1, g2, g3, g4, g5, g6, g7⟩, hl, ht⟩ := h
  refine ⟨hh, ?_, hi, ⟨g1, g2, g3, fun i k hk => ?_, fun q hq => ?_, fun q hq => ?_, fun q hq => ?_⟩, hl, ht⟩
  · obtain ⟨cy, mods, L0, f0, K0, n0, ν0, r0, μ0⟩ := X
    refine ⟨fun b hb => ?_, he.2.1, fun b hb hb0 => ?_⟩
    · obtain ⟨x1, x2, x3⟩ := he.1 b hb
      obtain ⟨y1, y2, y3⟩ := hL b x1
      exact ⟨y1, y2.trans x2, fun i hi => by rw [y3]; exact x3 i hi⟩
    · by_cases hbL : b ∈ L
      · rw [(hL b hbL).2.1]
        exact he.2.2 b hbL hb0
      · exact (hn b hb hbL).2
  · obtain ⟨x1, x2⟩ := g4 i k hk
    obtain ⟨y1, y2, y3⟩ := hL _ x1
    exact ⟨y1, y2.trans x2⟩
  · have h9 := g5 q hq
    unfold mok at h9 ⊢
    split
    · rename_i h0
      rw [if_pos h0] at h9
      exact h9
    · rename_i h0
      rw [if_neg h0] at h9
      intro b hb hkb
      by_cases hbL : b ∈ L
      · obtain ⟨y1, y2, y3⟩ := hL b hbL
        obtain ⟨z1, z2⟩ := h9 b hbL (y2.symm.trans hkb)
        refine ⟨z1, ?_⟩
        rw [y3]
        have hcok := h1.1 b hbL
        have hfold := cval_mono (fun b hb => ⟨(hL b hb).1, (hL b hb).2.1⟩) hcok (xv ν q.1.2).toNat
        rw [hfold]
        exact z2
      · have h8 := (hn b hb hbL).1
        unfold nof at h8
        simp only [Bool.and_eq_true, List.all_eq_true] at h8
        have := h8.1.1 q hq
        simp only [Bool.not_eq_true', beq_eq_false_iff_ne] at this
        exact absurd hkb.symm this
  · have h9 := g6 q hq
    intro b hb hkb i hi
    by_cases hbL : b ∈ L
    · obtain ⟨y1, y2, y3⟩ := hL b hbL
      rw [y3, cval_mono (fun b hb => ⟨(hL b hb).1, (hL b hb).2.1⟩) (h1.1 b hbL) i]
      exact h9 b hbL (y2.symm.trans hkb) i hi
    · have h8 := (hn b hb hbL).1
      unfold nof at h8
      simp only [Bool.and_eq_true, List.all_eq_true] at h8
      have := h8.1.2 q hq
      simp only [Bool.not_eq_true', beq_eq_false_iff_ne] at this
      exact absurd hkb.symm this
  · have h9 := g7 q hq
    unfold pvok at h9 ⊢
    split
    · rename_i hc
      rw [if_pos hc] at h9
      exact h9
    · rename_i hc
      rw [if_neg hc] at h9
      split
      · rename_i hc2
        rw [if_pos hc2] at h9
        rw [(hL _ h9.1).2.2]
        exact ⟨(hL _ h9.1).1, h9.2⟩
      · rename_i hc2
        rw [if_neg hc2] at h9
        intro m hm hkm
        by_cases hbL : m ∈ L
        · obtain ⟨y1, y2, y3⟩ := hL m hbL
          rw [y3]
          exact h9 m hbL (y2.symm.trans hkm)
        · have h8 := (hn m hm hbL).1
          unfold nof at h8
          simp only [Bool.and_eq_true, List.all_eq_true] at h8
          have := h8.2 q hq
          simp only [Bool.or_eq_true, Nat.blt_eq, Bool.not_eq_true', beq_eq_false_iff_ne] at this
          rcases this with h | h
          · exact absurd h hc2
          · exact absurd hkm.symm h
theorem newk_ok (h : hok cy K B L f) {q kn : Nat} {e' : va_E} (hq : q ∉ L) (hc : cok cy (va_up K q kn) B (L ++ [q]) kn e') (h40 : kn < 40) (hn : kn ≠ 20 ∧ kn ≠ 23 ∧ kn ≠ 24) : hok cy (va_up K q kn) B (L ++ [q]) (va_up f q e') := by
  have hL : ∀ b ∈ L, b ∈ L ++ [q] ∧ va_up K q kn b = K b := fun b hb => ⟨List.mem_append_left _ hb, va_up_ne _ _ (fun e => hq (e ▸ hb))⟩
  have hF : ∀ b ∈ L, va_up f q e' b = f b := fun b hb => va_up_ne _ _ (fun e => hq (e ▸ hb))
  have hin : ∀ b ∈ L ++ [q], b ∈ L ∨ b = q := fun b hb => by
    rcases List.mem_append.mp hb with h | h
    · exact Or.inl h
    · exact Or.inr (List.mem_singleton.mp h)
  have hbig : ∀ b ∈ L ++ [q], (va_up K q kn b ≠ kn ∨ b ∈ L) → b ∈ L := fun b hb h => by
    rcases hin b hb with h1 | h1
    · exact h1
    · rcases h with h | h
      · rw [h1, va_up_self] at h
        exact absurd rfl h
      · exact h
  obtain ⟨h1, h2, x1, x2, x3⟩ := id h
  refine ⟨fun b hb => ?_, fun b hb b' hb' he hb40 => ?_, ⟨fun k1 h401 hz1 => ?_, fun b hb b' hb' hk hk' he => ?_, fun b hb hk c o e1 e2 i hi e3 => ?_⟩, fun b hb hk m hm hkm => ?_, fun b hb hk => ?_⟩
  · rcases hin b hb with hbL | rfl
    · rw [(hL b hbL).2, hF b hbL]
      exact cok_mono hL (h1 b hbL)
    · rw [va_up_self, va_up_self]
      exact hc
  · have c1 := hbig b hb (Or.inl (by omega))
    have c2 := hbig b' hb' (Or.inl (by omega))
    rw [(hL b c1).2, (hL b' c2).2] at he
    rw [(hL b c1).2] at hb40
    exact h2 b c1 b' c2 he hb40
  · obtain ⟨b, hb, hkb⟩ := x1.1 k1 h401 hz1
    exact ⟨b, (hL b hb).1, by rw [(hL b hb).2]; exact hkb⟩
  · have c1 := hbig b hb (Or.inl (by rw [hk]; exact Ne.symm hn.1))
    have c2 := hbig b' hb' (Or.inl (by rw [hk']; exact Ne.symm hn.1))
    rw [(hL b c1).2] at hk
    rw [(hL b' c2).2] at hk'
    rw [hF b c1, hF b' c2] at he
    exact x1.2.1 b c1 b' c2 hk hk' he
  · have c1 := hbig b hb (Or.inl (by rw [hk]; exact Ne.symm hn.1))
    rw [(hL b c1).2] at hk
    rw [hF b c1] at e1 e2
    obtain ⟨c', y1, y2, y3⟩ := cok20 h c1 hk (j := 3) (k' := 23) rfl
    obtain ⟨o', z1, z2, z3⟩ := cok20 h c1 hk (j := 4) (k' := 24) rfl
    have ec : c' = c := by rw [y1] at e1; cases e1; rfl
    have eo : o' = o := by rw [z1] at e2; cases e2; rfl
    subst ec
    subst eo
    rw [hF c' y2] at e3
    rw [hF o' z2]
    exact x1.2.2 b c1 hk c' o' y1 z1 i hi e3
  · have c1 := hbig b hb (Or.inl (by rw [hk]; exact fun e => by rw [← e] at h40; exact absurd h40 (by decide)))
    have c2 := hbig m hm (Or.inl (by rw [hkm]; exact fun e => by rw [← e] at h40; exact absurd h40 (by decide)))
    rw [(hL b c1).2] at hk
    rw [(hL m c2).2] at hkm
    rw [hF b c1, hF m c2]
    exact x2 b c1 hk m c2 hkm
  · have c1 := hbig b hb (Or.inl (fun e => by
      rw [e] at hk
      rcases hk with hk | hk <;> rw [hk] at h40 <;> exact absurd h40 (by decide)))
    rw [(hL b c1).2] at hk
    rw [hF b c1]
    exact x3 b c1 hk
end GR
/-- new rows of numbers: 6 ints (kind 31), 16 longs (kind 32) -/
def sNew (i : Instr) (ln pc : Nat) (lv : EL) (st : List EV) (G : EG) : Option (Nat × Nat × List EP) := match i, st with
  | .newarray .int, (t, _, e) :: st' => if t == 0 && ln == 2 && e == (6, []) && nof G 31 && scA lv st' G then some (1, 6, [(pc + 2, lv, (2, G.2.2.2.1.length, xc 0) :: st', frR G 31)]) else none
  | .newarray .long, (t, _, e) :: st' => if t == 0 && ln == 2 && e == (16, []) && nof G 32 && scA lv st' G then some (1, 16, [(pc + 2, lv, (2, G.2.2.2.1.length, xc 0) :: st', frR G 32)]) else none
  | _, _ => none
section NA
variable {E : zCx} {l0 : Launch} {D0 : va_G} {cy0 : Nat → ClassId} {ax0 : zAx} {own : String} {cc : ByteArray} {nL : Nat} {R0 : Room} {k n : Nat} {K : Nat → Nat} {B : Int} {L : List Nat} {f : Nat → va_E} {ν : Nat → Int} {μ : Nat → Nat} {lv : EL} {st : List EV} {G : EG} {lvc : List (Nat × Value)} {stc : List Value} {i : Instr} {ln pc : Nat} {X : EC}
theorem newr_ok (h : Wd X K B L f ν μ lv st G lvc stc) {q kn : Nat} {e' : va_E} (hq : q ∉ L) (hc : cok X.1 (va_up K q kn) B (L ++ [q]) kn e') (h40 : kn < 40) (hn : kn ≠ 20 ∧ kn ≠ 23 ∧ kn ≠ 24) (hnf : nof G kn = true) (hsc : scA lv st G = true) : Wd X (va_up K q kn) B (L ++ [q]) (va_up f q e') ν (va_up μ G.2.2.2.1.length q) lv ((2, G.2.2.2.1.length, xc 0) :: st) (frR G kn) lvc (.ref q :: stc) := by
  have hL : ∀ b ∈ L, b ∈ L ++ [q] ∧ va_up K q kn b = K b ∧ va_up f q e' b = f b := fun b hb => ⟨List.mem_append_left _ hb, va_up_ne _ _ (fun e => hq (e ▸ hb)), va_up_ne _ _ (fun e => hq (e ▸ hb))⟩
  have hw := more_ok h hL (newk_ok h.1 hq hc h40 hn) (fun b hb hbL => by
    rcases List.mem_append.mp hb with h1 | h1
    · exact absurd h1 hbL
    · rw [List.mem_singleton.mp h1, va_up_self]
      exact ⟨hnf, h40⟩)
  have hw2 := (hw.frR hsc (b := q) (k := kn) (List.mem_append_right _ (List.mem_singleton.mpr rfl)) (va_up_self _ _ _)).push (2, G.2.2.2.1.length, xc 0)
  rw [rf_up] at hw2
  exact hw2
theorem sNew_ok {dk dn : Nat} {rs : List EP} (hE : zOk E (l0, D0, cy0, ax0) own cc nL R0) (hX1 : X.1 = cy0) (hq1 : Cond.arrayClass .int ∈ gtbl) (hq2 : Cond.arrayClass .long ∈ gtbl) (hd : decode cc pc = .ok (i, ln)) (h : Wd X K B L f ν μ lv st G lvc stc) (hs : sNew i ln pc lv st G = some (dk, dn, rs)) (hk1 : k + dk ≤ R0.cells) (hn1 : n + dn ≤ R0.slots) (kk : AllS E (k + dk) (n + dn) X rs) : eW E k n L f pc lvc stc := by
  unfold sNew at hs
  split at hs
  · rename_i t r e st'
    split at hs
    · rename_i hc
      simp only [Bool.and_eq_true, beq_iff_eq] at hc
      obtain ⟨⟨⟨⟨rfl, rfl⟩, rfl⟩, hnf⟩, hsc⟩ := hc
      cases hs
      obtain ⟨s1, rfl, hw⟩ := h.pop
      rw [cv0 rfl]
      have e6 : Int32.ofInt (xv ν (6, [])) = 6 := rfl
      show eW E k n L f pc lvc (.int (Int32.ofInt (xv ν (6, []))) :: s1)
      rw [e6]
      refine h_newa (atype := .int) (t0 := 0) (N0 := 6) (x := (6, .inl (fun _ => 0))) hE rfl (fun C h => by cases h) hq1 (fun _ => rfl) (fun _ => rfl) (by decide) rfl (Nat.le_of_ble_eq_true rfl) hk1 hn1 hd (fun q hq => ?_)
      refine kk _ _ _ _ _ (List.mem_singleton.mpr rfl) _ _ _ _ (newr_ok hw hq ?_ (by decide) (by decide) hnf hsc)
      rw [hX1]
      exact ⟨fun _ => 0, rfl, fun i hi => ⟨by show (-2147483648 : Int) ≤ (0 : Int32).toInt; decide, by show (0 : Int32).toInt ≤ 2147483647; decide, fun h => by cases h⟩⟩
    · cases hs
  · rename_i t r e st'
    split at hs
    · rename_i hc
      simp only [Bool.and_eq_true, beq_iff_eq] at hc
      obtain ⟨⟨⟨⟨rfl, rfl⟩, rfl⟩, hnf⟩, hsc⟩ := hc
      cases hs
      obtain ⟨s1, rfl, hw⟩ := h.pop
      rw [cv0 rfl]
      have e6 : Int32.ofInt (xv ν (16, [])) = 16 := rfl
      show eW E k n L f pc lvc (.int (Int32.ofInt (xv ν (16, []))) :: s1)
      rw [e6]
      refine h_newa (atype := .long) (t0 := 1) (N0 := 16) (x := (16, .inr (.inl (fun _ => 0)))) hE rfl (fun C h => by cases h) hq2 (fun _ => rfl) (fun _ => rfl) (by decide) rfl (Nat.le_of_ble_eq_true rfl) hk1 hn1 hd (fun q hq => ?_)
      refine kk _ _ _ _ _ (List.mem_singleton.mpr rfl) _ _ _ _ (newr_ok hw hq ?_ (by decide) (by decide) hnf hsc)
      rw [hX1]
      exact ⟨fun _ => 0, rfl⟩
    · cases hs
  · cases hs
end NA
