/-! A TEXT is read. -/
section RT
variable {E : zCx} {l0 : Launch} {D0 : va_G} {cy0 : Nat → ClassId} {ax0 : zAx} {own : String} {cc : ByteArray} {nL : Nat} {R0 : Room} {k n : Nat} {L : List Nat} {f : Nat → va_E} {pc : Nat} {lv : List (Nat × Value)} {st : List Value}
theorem r_put {j ci idx : Nat} {x : Int} {fs : List Value} (hE : zOk E (l0, D0, cy0, ax0) own cc nL R0) {b : Nat} {ft : List (Nat × EF)} (hft : ∀ e ∈ ft, fldOk own e.1 e.2) (he : (idx, (ci, j, 0, false)) ∈ ft) (hb : b ∈ L) (hf : f b = .inr (ci, fs)) (hjl : j < fs.length) (hd : decode cc pc = .ok (.putfield idx, 3)) (kk : eW E k n L (va_up f b (.inr (ci, fs.set j (.int (Int32.ofInt x))))) (pc + 3) lv st) : eW E k n L f pc lv (.int (Int32.ofInt x) :: .ref b :: st) := by
  obtain ⟨C, T, N, ty0, ty, c1, c2, c3, c4, c5, c6, c7, c8, c9, -⟩ := hft _ he
  have c8' : ty = .int := c8
  exact h_put (ci := ci) (fs := fs) hE (Or.inr c9) hb hf c1 c2 c3 c4 c5 hjl c6 c7 (by rw [c8']; rfl) (by rw [c8']; rfl) hd kk
theorem r_get {j ci ty idx : Nat} {v : Value} {fs : List Value} {bb : Bool} (hE : zOk E (l0, D0, cy0, ax0) own cc nL R0) {b : Nat} {ft : List (Nat × EF)} (hft : ∀ e ∈ ft, fldOk own e.1 e.2) (he : (idx, (ci, j, ty, bb)) ∈ ft) (hb : b ∈ L) (hf : f b = .inr (ci, fs)) (hv : fs[j]? = some v) (hd : decode cc pc = .ok (.getfield idx, 3)) (kk : eW E k n L f (pc + 3) lv (v :: st)) : eW E k n L f pc lv (.ref b :: st) := by
  obtain ⟨C, T, N, ty0, ty', c1, c2, c3, c4, c5, c6, c7, c8, -⟩ := hft _ he
  exact h_get hE hb hf c1 c2 j c5 c6 hv hd kk
end RT
/-- text0 is put, its count is 0: both at once -/
theorem hok_rt {cy : Nat → ClassId} {K : Nat → Nat} {B : Int} {L : List Nat} {f : Nat → va_E} (hh : hok cy K B L f) {m tx : Nat} (hm : m ∈ L ∧ K m = 200) (htx : tx ∈ L ∧ K tx = 203) {fs : List Value} {g : Nat → Int32} (hfm : f m = .inr (12, fs)) (hft : f tx = zIA cy 2820 g) {s : Nat} (hs : s < 4) {f' : Nat → va_E} (h1 : ∀ b', b' ≠ m → b' ≠ tx → f' b' = f b') (h2 : f' m = .inr (12, fs.set 12 (.int (Int32.ofInt (705 * s : Nat))))) (h3 : f' tx = zIA cy 2820 (upd g (705 * s) (Int32.ofInt 0))) : hok cy K B L f' ∧ extC [(203, 0), (200, 12)] K B L f K B L f' ∧ gi (f' m) 12 = (705 * s : Nat) ∧ gi (f' tx) (705 * s) = 0 := by
  have hmt : m ≠ tx := fun e => by rw [e, htx.2] at hm; exact absurd hm.2 (by decide)
  have ex : (Int32.ofInt (705 * s : Nat)).toInt = (705 * s : Nat) := i32i (by omega) (by omega)
  have ez : (Int32.ofInt 0).toInt = 0 := i32i (by decide) (by decide)
  have cm := hh.1 m hm.1
  rw [hm.2] at cm
  have cm2 : ∃ fs, f m = .inr (12, fs) ∧ fs.length = (zkd 200).2.2.length ∧ ∀ (j : Nat) (d : Nat × Int × Int), (zkd 200).2.2[j]? = some d → ∃ v, fs[j]? = some v ∧ fok K L d v := cm
  obtain ⟨fs', e1, hlen, hfd⟩ := cm2
  have e2 : fs' = fs := by rw [hfm] at e1; cases e1; rfl
  subst e2
  have hjl : 12 < fs'.length := by rw [hlen]; decide
  have ct := hh.1 tx htx.1
  rw [htx.2] at ct
  have ct2 : ∃ g, f tx = zIA cy 2820 g ∧ ∀ i, i < 2820 → bok B (kbd 203 i) (g i).toInt := ct
  obtain ⟨g', e3, hbd⟩ := ct2
  have e4 : g' = g := by rw [hft] at e3; cases e3; rfl
  subst e4
  have gm : ∀ i, i ≠ 12 → cget (f' m) i = cget (f m) i := fun i hi => by
    rw [h2, hfm]
    show (fs'.set 12 _)[i]? = fs'[i]?
    exact List.getElem?_set_ne (Ne.symm hi)
  have gm12 : gi (f' m) 12 = (705 * s : Nat) := by
    rw [h2]
    unfold gi cget
    dsimp only
    rw [List.getElem?_set_self hjl]
    exact ex
  have gmi : ∀ i, i ≠ 12 → gi (f' m) i = gi (f m) i := fun i hi => by unfold gi; rw [gm i hi]
  have gt : ∀ j, gi (f' tx) j = if j = 705 * s then 0 else gi (f tx) j := fun j => by
    rw [h3, hft]
    show (upd g' (705 * s) (Int32.ofInt 0) j).toInt = _
    split
    · rename_i h
      rw [h, up_same, ez]
    · rename_i h
      rw [up_oth _ _ h]
      rfl
  have hne : ∀ b' ∈ L, K b' ≠ 203 → K b' ≠ 200 → f' b' = f b' := fun b' _ hk hk2 => h1 b' (fun e => hk2 (by rw [e]; exact hm.2)) (fun e => hk (by rw [e]; exact htx.2))
  refine ⟨⟨fun b hb => ?_, hh.2.1, ?_⟩, ⟨fun b hb => ⟨hb, rfl, fun i hi => ?_⟩, fun _ => rfl, fun b hb hn => absurd hb hn⟩, gm12, by rw [gt, if_pos rfl]⟩
  · by_cases hbm : b = m
    · subst hbm
      rw [hm.2]
      show ∃ fs, f' b = .inr (12, fs) ∧ fs.length = (zkd 200).2.2.length ∧ ∀ (j : Nat) (d : Nat × Int × Int), (zkd 200).2.2[j]? = some d → ∃ v, fs[j]? = some v ∧ fok K L d v
      refine ⟨_, h2, by rw [List.length_set, hlen], fun j' d' hd' => ?_⟩
      by_cases hj : j' = 12
      · subst hj
        have hd12 : (zkd 200).2.2[12]? = some (0, 0, 2115) := rfl
        rw [hd12] at hd'
        cases hd'
        exact ⟨_, List.getElem?_set_self hjl, _, rfl, by rw [ex]; show (0 : Int) ≤ (705 * s : Nat); omega, by rw [ex]; show ((705 * s : Nat) : Int) ≤ 2115; omega⟩
      · obtain ⟨v, hv, hfk⟩ := hfd j' d' hd'
        exact ⟨v, by rw [List.getElem?_set_ne (Ne.symm hj)]; exact hv, hfk⟩
    · by_cases hbt : b = tx
      · subst hbt
        rw [htx.2]
        show ∃ g, f' b = zIA cy 2820 g ∧ ∀ i, i < 2820 → bok B (kbd 203 i) (g i).toInt
        refine ⟨_, h3, fun j hj => ?_⟩
        by_cases h : j = 705 * s
        · rw [h, up_same, ez, kbd203' (by omega)]
          exact ⟨by decide, by decide, fun h => by cases h⟩
        · rw [up_oth _ _ h]
          exact hbd j hj
      · rw [h1 b hbm hbt]
        exact hh.1 b hb
  · obtain ⟨x1, x2, x3⟩ := hh.2.2
    refine ⟨⟨x1.1, fun b1 hb1 b2 hb2 hk1 hk2 he => x1.2.1 b1 hb1 b2 hb2 hk1 hk2 (by rw [hne b1 hb1 (by rw [hk1]; decide) (by rw [hk1]; decide), hne b2 hb2 (by rw [hk2]; decide) (by rw [hk2]; decide)] at he; exact he), fun b1 hb1 hk1 c o e1 e2 i hi e3 => ?_⟩, fun b1 hb1 hk1 m' hm' hkm => ?_, fun b1 hb1 hk1 => ?_⟩
    · rw [hne b1 hb1 (by rw [hk1]; decide) (by rw [hk1]; decide)] at e1 e2
      obtain ⟨c', c1, c2, c3⟩ := cok20 hh hb1 hk1 (j := 3) (k' := 23) rfl
      obtain ⟨o', o1, o2, o3⟩ := cok20 hh hb1 hk1 (j := 4) (k' := 24) rfl
      have ec : c' = c := by rw [c1] at e1; cases e1; rfl
      have eo : o' = o := by rw [o1] at e2; cases e2; rfl
      subst ec
      subst eo
      rw [hne c' c2 (by rw [c3]; decide) (by rw [c3]; decide)] at e3
      rw [hne o' o2 (by rw [o3]; decide) (by rw [o3]; decide)]
      exact x1.2.2 b1 hb1 hk1 c' o' c1 o1 i hi e3
    · have e5 : b1 = tx := sol hh ⟨hb1, hk1⟩ htx (by decide)
      have e6 : m' = m := sol hh ⟨hm', hkm⟩ hm (by decide)
      subst e5 e6
      have hP := hok_Psi hh hm htx
      show Psi (gi (f' b1)) (gi (f' m') 12) (gi (f' m') 13)
      rw [gm12, gmi 13 (by decide)]
      have iT : ((705 * s : Nat) : Int).toNat = 705 * s := Int.toNat_natCast _
      refine ⟨fun k hk y1 y2 y3 => ?_, fun s' hs' k hk y1 y2 y3 => ?_⟩
      · rw [iT, gt, if_pos rfl] at y1
        omega
      · by_cases he : s' = s
        · subst he
          rw [gt, if_pos rfl] at y1
          omega
        · have hx : ∀ x, x < 705 → gi (f' b1) (705 * s' + x) = gi (f b1) (705 * s' + x) := fun x hx => by
            rw [gt, if_neg ?_]
            rcases Nat.lt_or_gt_of_ne he with h | h <;> omega
          have r0 := hx 0 (by omega)
          have r1 := hx (1 + 4 * k) (by omega)
          have r2 := hx (1 + 4 * k + 1) (by omega)
          have r3 := hx (1 + 4 * k + 2) (by omega)
          have a1 : 705 * s' + (1 + 4 * k) = 705 * s' + 1 + 4 * k := by omega
          have a2 : 705 * s' + (1 + 4 * k + 1) = 705 * s' + 1 + 4 * k + 1 := by omega
          have a3 : 705 * s' + (1 + 4 * k + 2) = 705 * s' + 1 + 4 * k + 2 := by omega
          have a0 : 705 * s' + 0 = 705 * s' := by omega
          rw [a0] at r0
          rw [a1] at r1
          rw [a2] at r2
          rw [a3] at r3
          rw [r0] at y1
          rw [r1] at y2 y3
          obtain ⟨fr, to, z1, z2, z3, z4, z5⟩ := hP.2 s' hs' k hk y1 y2 y3
          refine ⟨fr, to, r2.trans z1, r3.trans z2, z3, z4, wsc_congr _ _ _ _ _ (fun j hj1 hj2 => ?_) z5⟩
          have b1' := hx (97 + 2 * j) (by omega)
          have b2' := hx (97 + 2 * j + 1) (by omega)
          have c1 : 705 * s' + (97 + 2 * j) = 705 * s' + 97 + 2 * j := by omega
          have c2 : 705 * s' + (97 + 2 * j + 1) = 705 * s' + 97 + 2 * j + 1 := by omega
          rw [c1] at b1'
          rw [c2] at b2'
          exact ⟨b1', b2'⟩
    · have hk12 : K b1 = 201 ∨ K b1 = 202 := hk1
      rw [hne b1 hb1 (by rcases hk12 with h | h <;> rw [h] <;> decide) (by rcases hk12 with h | h <;> rw [h] <;> decide)]
      exact x3 b1 hb1 hk1
  · by_cases hbm : b = m
    · subst hbm
      rw [hm.2, reg200] at hi
      refine gm i (fun h => hi ?_)
      rw [h]
      decide
    · by_cases hbt : b = tx
      · subst hbt
        exfalso
        rw [htx.2, reg203] at hi
        exact hi (by decide)
      · rw [h1 b hbm hbt]
