/-! The hand's own steps: a number is written, a method proved by hand is called. -/
section HW
variable {E : zCx} {l0 : Launch} {D0 : va_G} {cy0 : Nat → ClassId} {ax0 : zAx} {own : String} {cc : ByteArray} {nL : Nat} {R0 : Room} {k n : Nat} {K : Nat → Nat} {B : Int} {L : List Nat} {f : Nat → va_E} {pc : Nat} {lv : List (Nat × Value)} {st : List Value}
theorem XP_gi {b kd : Nat} {e' : va_E} (hh : hok cy0 K B L f) (hb : b ∈ L) (hk : K b = kd) (hr : ∀ i, rel kd i = true → cget e' i = cget (f b) i) : XP K L (va_up f b e') := XP_up hh hb hk hr
theorem w_ist (hE : zOk E (l0, D0, cy0, ax0) own cc nL R0) (hh : hok cy0 K B L f) {b kd : Nat} {i x : Int} (hb : b ∈ L) (hk : K b = kd) (hz : (zkd kd).1 = 2) (hN : (zkd kd).2.1 ≤ 100000) (hi : 0 ≤ i) (hi2 : i < (zkd kd).2.1) (hx : -2147483648 ≤ x ∧ x ≤ 2147483647) (hbk : bok B (kbd kd i.toNat) x) (hd : decode cc pc = .ok (.iastore, 1)) (kk : ∀ f' : Nat → va_E, (∀ b', b' ≠ b → f' b' = f b') → (∀ j, gi (f' b) j = if j = i.toNat then x else gi (f b) j) → (∀ j, j ≠ i.toNat → cget (f' b) j = cget (f b) j) → (XP K L f' → hok cy0 K B L f') → extC [(kd, reg kd i.toNat)] K B L f K B L f' → eW E k n L f' (pc + 1) lv st) : eW E k n L f pc lv (.int (Int32.ofInt x) :: .int (Int32.ofInt i) :: .ref b :: st) := by
  have hcok := hh.1 b hb
  rw [hk] at hcok
  unfold cok at hcok
  rw [hz] at hcok
  obtain ⟨g, hf, hbd⟩ := hcok
  have ei : (Int32.ofInt i).toInt = i := i32i (by omega) (by omega)
  have ex : (Int32.ofInt x).toInt = x := i32i hx.1 hx.2
  have et : (Int32.ofInt i).toNatClampNeg = i.toNat := by
    show (Int32.ofInt i).toInt.toNat = i.toNat
    rw [ei]
  refine h_iast hE hb hf (by rw [vp_in_iff]; omega) hd ?_
  rw [et]
  have hself : va_up f b (zIA cy0 (zkd kd).2.1 (upd g i.toNat (Int32.ofInt x))) b = zIA cy0 (zkd kd).2.1 (upd g i.toNat (Int32.ofInt x)) := va_up_self _ _ _
  have hcg : ∀ j, j ≠ i.toNat → cget (zIA cy0 (zkd kd).2.1 (upd g i.toNat (Int32.ofInt x))) j = cget (f b) j := fun j hj => by
    rw [hf]
    show some (Value.int (upd g i.toNat _ j)) = some (Value.int (g j))
    rw [up_oth _ _ hj]
  refine kk _ (fun b' hb' => va_up_ne _ _ hb') (fun j => ?_) (fun j hj => ?_) (fun hxp => hok_up hh hk ?_ hxp) (extC_up (fun j hj => ?_))
  · rw [hself]
    show (upd g i.toNat (Int32.ofInt x) j).toInt = _
    split
    · rename_i h
      rw [h, up_same, ex]
    · rename_i h
      rw [up_oth _ _ h, hf]
      rfl
  · rw [hself]
    exact hcg j hj
  · unfold cok
    rw [hz]
    refine ⟨_, rfl, fun j hj => ?_⟩
    by_cases h : j = i.toNat
    · rw [h, up_same, ex]
      exact hbk
    · rw [up_oth _ _ h]
      exact hbd j hj
  · refine hcg j (fun h => ?_)
    rw [h, hk] at hj
    exact hj (List.mem_singleton.mpr rfl)
theorem w_put {j kd ci : Nat} {lo hi x : Int} {idx : Nat} (hE : zOk E (l0, D0, cy0, ax0) own cc nL R0) (hh : hok cy0 K B L f) {b : Nat} {ft : List (Nat × EF)} (hft : ∀ e ∈ ft, fldOk own e.1 e.2) (he : (idx, (ci, j, 0, false)) ∈ ft) (hb : b ∈ L) (hk : K b = kd) (hz : (zkd kd).1 = 1) (hci : (zkd kd).2.1 = ci) (hdj : (zkd kd).2.2[j]? = some (0, lo, hi)) (hx : lo ≤ x ∧ x ≤ hi) (hl : -2147483648 ≤ lo ∧ hi ≤ 2147483647) (hd : decode cc pc = .ok (.putfield idx, 3)) (kk : ∀ f' : Nat → va_E, (∀ b', b' ≠ b → f' b' = f b') → (∀ i, gi (f' b) i = if i = j then x else gi (f b) i) → (∀ i, i ≠ j → cget (f' b) i = cget (f b) i) → (XP K L f' → hok cy0 K B L f') → extC [(kd, j)] K B L f K B L f' → eW E k n L f' (pc + 3) lv st) : eW E k n L f pc lv (.int (Int32.ofInt x) :: .ref b :: st) := by
  have hcok := hh.1 b hb
  rw [hk] at hcok
  unfold cok at hcok
  rw [hz] at hcok
  obtain ⟨fs, hf, hlen, hfd⟩ := hcok
  rw [hci] at hf
  have hjl : j < fs.length := by rw [hlen]; exact (List.getElem?_eq_some_iff.mp hdj).1
  have ex : (Int32.ofInt x).toInt = x := i32i (by omega) (by omega)
  obtain ⟨C, T, N, ty0, ty, c1, c2, c3, c4, c5, c6, c7, c8, c9, -⟩ := hft _ he
  have c8' : ty = .int := c8
  refine h_put (ci := ci) (fs := fs) hE (Or.inr c9) hb hf c1 c2 c3 c4 c5 hjl c6 c7 (by rw [c8']; rfl) (by rw [c8']; rfl) hd ?_
  have hself : va_up f b (.inr (ci, fs.set j (.int (Int32.ofInt x)))) b = .inr (ci, fs.set j (.int (Int32.ofInt x))) := va_up_self _ _ _
  have hcg : ∀ i, i ≠ j → cget (Sum.inr (ci, fs.set j (.int (Int32.ofInt x))) : va_E) i = cget (f b) i := fun i hi => by
    rw [hf]
    show (fs.set j _)[i]? = fs[i]?
    exact List.getElem?_set_ne (Ne.symm hi)
  refine kk _ (fun b' hb' => va_up_ne _ _ hb') (fun i => ?_) (fun i hi => ?_) (fun hxp => hok_up hh hk ?_ hxp) (extC_up (fun i hi => ?_))
  · rw [hself]
    split
    · rename_i h
      unfold gi cget
      dsimp only
      rw [h, List.getElem?_set_self hjl]
      exact ex
    · rename_i h
      unfold gi
      rw [hcg i h]
  · rw [hself]
    exact hcg i hi
  · unfold cok
    rw [hz]
    refine ⟨fs.set j (.int (Int32.ofInt x)), by rw [hci], by rw [List.length_set, hlen], fun j' d' hd' => ?_⟩
    by_cases hj : j' = j
    · subst hj
      rw [hdj] at hd'
      cases hd'
      exact ⟨_, List.getElem?_set_self hjl, _, rfl, by rw [ex]; exact hx.1, by rw [ex]; exact hx.2⟩
    · obtain ⟨v, hv, hfk⟩ := hfd j' d' hd'
      exact ⟨v, by rw [List.getElem?_set_ne (Ne.symm hj)]; exact hv, hfk⟩
  · refine hcg i (fun h => ?_)
    rw [h, hk, reg_obj hz] at hi
    exact hi (List.mem_singleton.mpr rfl)
/-- what is not spoken of -/
theorem XP_oth (hh : hok cy0 K B L f) {f' : Nat → va_E} {b kd : Nat} (hk : K b = kd) (h1 : ∀ b', b' ≠ b → f' b' = f b') (h2 : ∀ i, rel kd i = true → cget (f' b) i = cget (f b) i) : XP K L f' := by
  refine XP_cong hh (fun b' hb' i hi => ?_)
  by_cases hne : b' = b
  · subst hne
    rw [hk] at hi
    exact h2 i hi
  · rw [h1 b' hne]
theorem w_callV {t d na ci idx kd : Nat} {m : MT} {av : List Value} {a dd : Nat} {post : Option Value → eS → Prop} {stk : List Value} (hE : zOk E (l0, D0, cy0, ax0) own cc nL (zrm dd 0 0)) (hM : eM (l0, D0, cy0, ax0) t m.1 m.2.1 m.2.2.1 m.2.2.2 (zrm d 0 0) (.ref a :: av) L f post) {lt : List (Nat × Nat × Nat × Nat × Nat)} (hlt : ∀ e ∈ lt, lP own e) {mi : Nat} (he : (idx, 0, mi, ci, na) ∈ lt) (hmi : mt mi = m) (hh : hok cy0 K B L f) (ha : a ∈ L) (hka : K a = kd) (hz : (zkd kd).1 = 1) (hci : (zkd kd).2.1 = ci) (hdd : d + 1 ≤ dd) (hlen : av.length + 1 = na) (hst : stk = av.reverse ++ .ref a :: st) (hcat : (st.map fun v => v.category).sum ≤ 8) (hd : decode cc pc = .ok (.invokevirtual idx, 3)) (kk : ∀ (r : Option Value) (L' : List Nat) (f' : Nat → va_E), eTag t r → post r (L', f') → eW E 0 0 L' f' (pc + 3) lv (ePush r st)) : eW E 0 0 L f pc lv stk := by
  have hlk := (hlt _ he).1 (Nat.zero_le 2)
  replace hlk : lkOk own idx 0 ci na (mt mi) := hlk
  rw [hmi] at hlk
  obtain ⟨⟨l1, l2, l3, l4, l5⟩, v1, v2, ⟨C, T, N, v3, v4⟩, v5⟩ := hlk
  have hcok := hh.1 a ha
  rw [hka] at hcok
  unfold cok at hcok
  rw [hz] at hcok
  obtain ⟨fs, hf, -⟩ := hcok
  rw [hci] at hf
  refine c_all hE (r_V hE hM v1 v2 v4 l1 l2 ha hf v3 ⟨l3, l4, ?_⟩ ⟨hdd, ?_⟩ ⟨Nat.le_refl _, Nat.le_refl _⟩ hst hcat hd) kk
  · cases hpd : parseMethodDescriptor m.1.desc with
    | none => rw [hpd] at v5; cases v5
    | some q =>
      rw [hpd] at v5
      have : q.parameters.length + 1 = na := Option.some.inj v5
      show some q.parameters.length = some _
      congr 1
      omega
  · show 8 + (m.2.2.1 + 11) + 60 * d ≤ 60 * dd
    omega
theorem w_callS {t d na idx : Nat} {m : MT} {av : List Value} {dd : Nat} {post : Option Value → eS → Prop} {stk : List Value} (hE : zOk E (l0, D0, cy0, ax0) own cc nL (zrm dd 0 0)) (hM : eM (l0, D0, cy0, ax0) t m.1 m.2.1 m.2.2.1 m.2.2.2 (zrm d 0 0) av L f post) {lt : List (Nat × Nat × Nat × Nat × Nat)} (hlt : ∀ e ∈ lt, lP own e) {mi : Nat} (he : (idx, 1, mi, 0, na) ∈ lt) (hmi : mt mi = m) (hdd : d + 1 ≤ dd) (hlen : av.length = na) (hst : stk = av.reverse ++ st) (hcat : (st.map fun v => v.category).sum ≤ 8) (hd : decode cc pc = .ok (.invokestatic idx, 3)) (kk : ∀ (r : Option Value) (L' : List Nat) (f' : Nat → va_E), eTag t r → post r (L', f') → eW E 0 0 L' f' (pc + 3) lv (ePush r st)) : eW E 0 0 L f pc lv stk := by
  have hlk := (hlt _ he).1 (by show 1 ≤ 2; omega)
  replace hlk : lkOk own idx 1 0 na (mt mi) := hlk
  rw [hmi] at hlk
  obtain ⟨⟨l1, l2, l3, l4, l5⟩, v1, v2, v5⟩ := hlk
  refine c_all hE (r_S hE hM v1 v2 l1 l2 ⟨l3, l4, by rw [v5, hlen]⟩ ⟨hdd, ?_⟩ ⟨Nat.le_refl _, Nat.le_refl _⟩ hst hcat hd) kk
  show 8 + (m.2.2.1 + 11) + 60 * d ≤ 60 * dd
  omega
end HW
/-- the address of what is one alone -/
theorem one_ad {cy : Nat → ClassId} {K : Nat → Nat} {B : Int} {L : List Nat} {f : Nat → va_E} (hh : hok cy K B L f) (k : Nat) (h40 : 40 ≤ k) (hz : (zkd k).1 ≠ 0) : ∃ b, b ∈ L ∧ K b = k ∧ ∀ b' ∈ L, K b' = k → b' = b := by
  obtain ⟨b, hb, hk⟩ := hh.2.2.1.1 k h40 hz
  exact ⟨b, hb, hk, fun b' hb' hk' => hh.2.1 b' hb' b hb (hk'.trans hk.symm) (by rw [hk']; exact h40)⟩
/-- a cell that hasn't been written -/
theorem ext_gi {mods : List (Nat × Nat)} {K K' : Nat → Nat} {B B' : Int} {L L' : List Nat} {f f' : Nat → va_E} (h : extC mods K B L f K' B' L' f') {b k i : Nat} (hb : b ∈ L) (hk : K b = k) (hr : (k, reg k i) ∉ mods) : gi (f' b) i = gi (f b) i := gi_same ((h.1 b hb).2.2 i (by rw [hk]; exact hr))
theorem ext_in {mods : List (Nat × Nat)} {K K' : Nat → Nat} {B B' : Int} {L L' : List Nat} {f f' : Nat → va_E} (h : extC mods K B L f K' B' L' f') {b k : Nat} (hb : b ∈ L) (hk : K b = k) : b ∈ L' ∧ K' b = k := ⟨(h.1 b hb).1, (h.1 b hb).2.1.trans hk⟩
