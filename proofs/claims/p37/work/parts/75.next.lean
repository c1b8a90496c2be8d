/-! The next TOKEN. -/
theorem xg {mods : List (Nat × Nat)} {K K' : Nat → Nat} {B B' : Int} {L L' : List Nat} {f f' : Nat → va_E} (h : extC mods K B L f K' B' L' f') {m i : Nat} (hm : m ∈ L ∧ K m = 200) (hr : (200, i) ∉ mods) : gi (f' m) i = gi (f m) i := ext_gi h hm.1 hm.2 (by rw [reg200]; exact hr)
theorem xa {mods : List (Nat × Nat)} {K K' : Nat → Nat} {B B' : Int} {L L' : List Nat} {f f' : Nat → va_E} (h : extC mods K B L f K' B' L' f') {a k : Nat} (ha : a ∈ L ∧ K a = k) (hz : ∀ i, reg k i = 0) (hr : (k, 0) ∉ mods) : gi (f' a) = gi (f a) := ext1 h ha (fun i => by rw [hz]; exact hr)
abbrev modN : List (Nat × Nat) := [(200, 7), (200, 8), (200, 9), (200, 10), (200, 11)]
abbrev modP : List (Nat × Nat) := [(203, 0), (200, 7), (200, 8), (200, 9), (200, 10), (200, 11), (200, 13), (200, 17), (200, 18), (200, 19), (200, 20), (205, 0), (206, 0)]
/-- a TOKEN that is one takes up room -/
def TI (M : Nat → Int) : Prop := M 9 ≠ 0 → M 8 + 1 ≤ M 7
section NX
variable {E : zCx} {l0 : Launch} {D0 : va_G} {cy0 : Nat → ClassId} {ax0 : zAx} {cc : ByteArray} {nL dd : Nat} {K : Nat → Nat} {B : Int} {L : List Nat} {f : Nat → va_E} {pc : Nat} {lv : List (Nat × Value)} {st : List Value}
theorem w_next (H : ∀ j, j < 412 → CMj (l0, D0, cy0, ax0) j) (hE : zOk E (l0, D0, cy0, ax0) RX12 cc nL (zrm dd 0 0)) (hh : hok cy0 K B L f) {m : Nat} (hm : m ∈ L ∧ K m = 200) (hdd : 3 ≤ dd) (hcat : (st.map fun v => v.category).sum ≤ 8) (hd : decode cc pc = .ok (.invokevirtual 217, 3)) (kk : ∀ (K' : Nat → Nat) (B' : Int) (L' : List Nat) (f' : Nat → va_E), hok cy0 K' B' L' f' → extC modN K B L f K' B' L' f' → gi (f m) 7 ≤ gi (f' m) 8 → TI (gi (f' m)) → eW E 0 0 L' f' (pc + 3) lv st) : eW E 0 0 L f pc lv (.ref m :: st) := by
  have hC : CM (l0, D0, cy0, ax0) (mt 146) c400 := H 400 (by decide) 146 c400 rfl
  have hg : gok K B L f c400.1.2.2.1 (fun i => [gi (f m) 7].getD i 0) (fun i => [m].getD i 0) := by
    refine ⟨(eok_of (fun i q hq => ?_) (fun i hi => ?_)), fa0, fa0, ?_, (fa_cons (Fmok hh (show (zkd 200).1 = 1 by decide) (j := 7) rfl (by decide) ?_) fa0), fa0, fa0⟩
    · match i, hq with
      | 0, hq => cases hq; exact hok_fld hh hm (j := 7) (lo := 0) (hi := 301) rfl
      | i + 1, hq => cases hq
    · match i, hi with
      | 0, hi => exact absurd hi (by decide)
      | i + 1, _ => rfl
    · intro i k hk
      match i, hk with
      | 0, hk => cases hk; exact hm
      | i + 1, hk => cases hk
    · intro b hb hk
      rw [sol hh ⟨hb, hk⟩ hm (by decide)]
      simp [xv, xvT]
  have hM := hC K B L f _ _ hh hg
  refine w_callV (d := 2) (t := 3) hE hM lX12_ok le_217 mt_nextToken hh hm.1 hm.2 (by decide) (by decide) (by omega) rfl rfl hcat hd (fun r L' f' ht hp => ?_)
  have hr : r = none := ht
  subst hr
  obtain ⟨C, hC2, K', B', νc, μc, p1, p2, p3, p4, p5, p6⟩ := hp
  have hm' := exin p2 hm
  have e0 : νc 0 = gi (f m) 7 := p4 0 (by decide)
  have hcs : C = c400.2.2.1.getD 0 c400.1 ∨ C = c400.2.2.1.getD 1 c400.1 := by
    rcases List.mem_cons.mp hC2 with h | h
    · exact Or.inl h
    · rcases List.mem_cons.mp h with h | h
      · exact Or.inr h
      · cases h
  rcases hcs with rfl | rfl
  · have c9 : gi (f' m) 9 = 0 := by
      have := mokF p1 (show (zkd 200).1 = 1 by decide) (j := 9) rfl (by decide) (p3.2.2.2.2.1 ((200, (9, [])), (0, [])) (by decide)) m hm'.1 hm'.2
      simpa [xv, xvT] using this
    have c8 : gi (f' m) 8 = νc 2 := by
      have := mokF p1 (show (zkd 200).1 = 1 by decide) (j := 8) rfl (by decide) (p3.2.2.2.2.1 ((200, (8, [])), (0, [(1, 2)])) (by decide)) m hm'.1 hm'.2
      simpa [xv, xvT] using this
    have q := p3.2.1 (0, [((-1), 0), (1, 2)]) (by decide)
    have q' : 0 ≤ νc 2 - νc 0 := by
      have : xv νc (0, [((-1), 0), (1, 2)]) = νc 2 - νc 0 := by simp [xv, xvT]; omega
      rw [← this]
      exact q
    exact kk K' B' L' f' p1 p2 (by omega) (fun h => absurd c9 h)
  · have c7 : gi (f' m) 7 = νc 3 := by
      have := mokF p1 (show (zkd 200).1 = 1 by decide) (j := 7) rfl (by decide) (p3.2.2.2.2.1 ((200, (7, [])), (0, [(1, 3)])) (by decide)) m hm'.1 hm'.2
      simpa [xv, xvT] using this
    have c8 : gi (f' m) 8 = νc 5 := by
      have := mokF p1 (show (zkd 200).1 = 1 by decide) (j := 8) rfl (by decide) (p3.2.2.2.2.1 ((200, (8, [])), (0, [(1, 5)])) (by decide)) m hm'.1 hm'.2
      simpa [xv, xvT] using this
    have q := p3.2.1 (0, [((-1), 0), (1, 5)]) (by decide)
    have q' : 0 ≤ νc 5 - νc 0 := by
      have : xv νc (0, [((-1), 0), (1, 5)]) = νc 5 - νc 0 := by simp [xv, xvT]; omega
      rw [← this]
      exact q
    have r := p3.2.1 ((-1), [((-1), 5), (1, 3)]) (by decide)
    have r' : 0 ≤ νc 3 - νc 5 - 1 := by
      have : xv νc ((-1), [((-1), 5), (1, 3)]) = νc 3 - νc 5 - 1 := by simp [xv, xvT]; omega
      rw [← this]
      exact r
    exact kk K' B' L' f' p1 p2 (by omega) (fun _ => by omega)
end NX
