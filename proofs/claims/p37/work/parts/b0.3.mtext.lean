/-! The TEXT that is read: what its making brings. -/
theorem hok_text {cy : Nat → ClassId} {K : Nat → Nat} {B : Int} {L : List Nat} {f : Nat → va_E} (hh : hok cy K B L f) {w : Nat} {L2 A : List Nat} {K2 : Nat → Nat} {f2 : Nat → va_E} {e1 : va_E} (hw : w ∉ L) (g : GR cy B (L ++ [w]) (va_up K w 20) (va_up f w e1) w L2 A [21, 22, 23, 24, 25, 26, 27, 28, 29, 30] K2 f2) (hc : cok cy K2 B L2 20 (f2 w)) {c o : Nat} (c3 : cget (f2 w) 3 = some (.ref c)) (o4 : cget (f2 w) 4 = some (.ref o)) (hcL : c ∉ L ++ [w]) (hoL : o ∉ L ++ [w]) (hz : ∀ i, gi (f2 c) i = 0) : (∀ b ∈ L, b ∈ L2 ∧ K2 b = K b ∧ f2 b = f b) ∧ hok cy K2 B L2 f2 ∧ (∀ b ∈ L2, b ∉ L → 20 ≤ K2 b ∧ K2 b ≤ 30) ∧ w ∈ L2 ∧ K2 w = 20 := by
  obtain ⟨gg, old, hw2, kw2⟩ := GR.obj (GR.rf (cy := cy) (B := B) (L0 := L) (K0 := K) (f0 := f) (w := w)) hw g hc
  have hA : ∀ b ∈ A, 21 ≤ K2 b ∧ K2 b ≤ 30 := fun b hb => by
    have h1 : K2 b ∈ A.map K2 := List.mem_map_of_mem hb
    rw [g.2.1] at h1
    simp only [List.mem_cons, List.not_mem_nil, or_false] at h1
    omega
  have new : ∀ b ∈ L2, b ∉ L → b = w ∨ b ∈ A := fun b hb hn => by
    have h1 := gg.1
    rw [h1] at hb
    rcases List.mem_append.mp hb with h | h
    · exact absurd h hn
    · rcases List.mem_cons.mp h with h | h
      · exact Or.inl h
      · exact Or.inr h
  have newK : ∀ b ∈ L2, b ∉ L → 20 ≤ K2 b ∧ K2 b ≤ 30 := fun b hb hn => by
    rcases new b hb hn with h | h
    · rw [h, kw2]
      exact ⟨by decide, by decide⟩
    · have := hA b h
      omega
  have isOld : ∀ b ∈ L2, 31 ≤ K2 b → b ∈ L := fun b hb hk => by
    by_cases h : b ∈ L
    · exact h
    · have := newK b hb h
      omega
  have t20 : ∀ b ∈ L2, K2 b = 20 → b ∈ L ∨ b = w := fun b hb hk => by
    by_cases h : b ∈ L
    · exact Or.inl h
    · rcases new b hb h with h | h
      · exact Or.inr h
      · have := hA b h
        omega
  obtain ⟨y1, y2, y3⟩ := hh.2.2
  refine ⟨old, ⟨fun b hb => ?_, fun b hb b' hb' he h40 => ?_, ⟨fun k hk hz9 => ?_, fun b hb b' hb' hk hk' he => ?_, fun b hb hk c' o' e3 e4 i hi e9 => ?_⟩, fun b hb hk m hm hkm => ?_, fun b hb hk => ?_⟩, newK, hw2, kw2⟩
  · by_cases h : b ∈ L
    · obtain ⟨-, o2, o3⟩ := old b h
      rw [o2, o3]
      exact cok_mono (fun b' hb' => ⟨(old b' hb').1, (old b' hb').2.1⟩) (hh.1 b h)
    · rcases new b hb h with h | h
      · rw [h, kw2]
        exact hc
      · exact g.2.2.2.2.2.2 b h
  · have h1 := isOld b hb (by omega)
    have h2 := isOld b' hb' (by omega)
    rw [(old b h1).2.1, (old b' h2).2.1] at he
    rw [(old b h1).2.1] at h40
    exact hh.2.1 b h1 b' h2 he h40
  · obtain ⟨b, hb, hkb⟩ := y1.1 k hk hz9
    exact ⟨b, (old b hb).1, (old b hb).2.1.trans hkb⟩
  · -- two of one row are one
    have apart : ∀ b1 ∈ L, K2 b1 = 20 → ∀ j k', (zkd 20).2.2[j]? = some (2, ((k' : Nat) : Int), 0) → ∃ x, cget (f2 b1) j = some (.ref x) ∧ x ∈ L := fun b1 hb1 hk1 j k' hj => by
      obtain ⟨x, x1, x2, -⟩ := cok20 hh hb1 ((old b1 hb1).2.1.symm.trans hk1) hj
      exact ⟨x, by rw [(old b1 hb1).2.2]; exact x1, x2⟩
    have clash : ∀ b1 ∈ L, K2 b1 = 20 → (cget (f2 b1) 3 = cget (f2 w) 3 ∨ cget (f2 b1) 4 = cget (f2 w) 4) → False := fun b1 hb1 hk1 h => by
      rcases h with h | h
      · obtain ⟨x, x1, x2⟩ := apart b1 hb1 hk1 3 23 rfl
        rw [x1, c3] at h
        have : x = c := by cases h; rfl
        exact hcL (List.mem_append_left _ (this ▸ x2))
      · obtain ⟨x, x1, x2⟩ := apart b1 hb1 hk1 4 24 rfl
        rw [x1, o4] at h
        have : x = o := by cases h; rfl
        exact hoL (List.mem_append_left _ (this ▸ x2))
    rcases t20 b hb hk with h1 | h1 <;> rcases t20 b' hb' hk' with h2 | h2
    · obtain ⟨-, p2, p3⟩ := old b h1
      obtain ⟨-, q2, q3⟩ := old b' h2
      rw [p3, q3] at he
      exact y1.2.1 b h1 b' h2 (p2.symm.trans hk) (q2.symm.trans hk') he
    · rw [h2] at he
      exact (clash b h1 hk he).elim
    · rw [h1] at he
      exact (clash b' h2 hk' (by rcases he with h | h; exact Or.inl h.symm; exact Or.inr h.symm)).elim
    · rw [h1, h2]
  · rcases t20 b hb hk with h1 | h1
    · obtain ⟨-, p2, p3⟩ := old b h1
      have hk1 : K b = 20 := p2.symm.trans hk
      rw [p3] at e3 e4
      obtain ⟨x, x1, x2, -⟩ := cok20 hh h1 hk1 (j := 3) (k' := 23) rfl
      obtain ⟨z, z1, z2, -⟩ := cok20 hh h1 hk1 (j := 4) (k' := 24) rfl
      have ex : x = c' := by rw [x1] at e3; cases e3; rfl
      have ez : z = o' := by rw [z1] at e4; cases e4; rfl
      subst ex ez
      rw [(old x x2).2.2] at e9
      rw [(old z z2).2.2]
      exact y1.2.2 b h1 hk1 x z e3 e4 i hi e9
    · rw [h1, c3] at e3
      have ec : c = c' := by cases e3; rfl
      rw [← ec, hz] at e9
      exact absurd e9 (by decide)
  · have hk9 : K2 b = 203 := hk
    have h1 := isOld b hb (by omega)
    have h2 := isOld m hm (by omega)
    obtain ⟨-, p2, p3⟩ := old b h1
    obtain ⟨-, q2, q3⟩ := old m h2
    rw [p3, q3]
    exact y2 b h1 (p2.symm.trans hk) m h2 (q2.symm.trans hkm)
  · have hk9 : K2 b = 201 ∨ K2 b = 202 := hk
    have h1 := isOld b hb (by omega)
    obtain ⟨-, p2, p3⟩ := old b h1
    rw [p3]
    exact y3 b h1 (by rw [← p2]; exact hk)
theorem pd_text : (parseMethodDescriptor yX7_init.desc).map (fun d => d.parameters.length) = some 0 := by decide +kernel
section MT
variable {E : zCx} {X : EC} {D : DT} {l0 : Launch} {D0 : va_G} {cy0 : Nat → ClassId} {ax0 : zAx}
theorem nofs_k {G : EG} (h : nofs G = true) {k : Nat} (h1 : 20 ≤ k) (h2 : k ≤ 30) : nof G k = true := by
  unfold nofs at h
  simp only [Bool.and_eq_true] at h
  obtain ⟨⟨⟨⟨⟨⟨⟨⟨⟨⟨a0, a1⟩, a2⟩, a3⟩, a4⟩, a5⟩, a6⟩, a7⟩, a8⟩, a9⟩, a10⟩ := h
  have hk : k = 20 ∨ k = 21 ∨ k = 22 ∨ k = 23 ∨ k = 24 ∨ k = 25 ∨ k = 26 ∨ k = 27 ∨ k = 28 ∨ k = 29 ∨ k = 30 := by omega
  rcases hk with rfl | rfl | rfl | rfl | rfl | rfl | rfl | rfl | rfl | rfl | rfl <;> assumption
theorem mac_X3_readTape_ok {nL : Nat} (hE : zOk E (l0, D0, cy0, ax0) RX3 cX3_readTape nL (zrm (dC D).2.2.2.1 (dC D).2.2.2.2.1 (dC D).2.2.2.2.2.1)) (h1 : X.1 = cy0) (hd5 : 5 ≤ (dC D).2.2.2.1) : ∀ pc m, mac_X3_readTape pc = some m → macOk E X D pc m := by
  intro pc m hpm
  unfold mac_X3_readTape at hpm
  split at hpm
  · rename_i h
    have hpc := Nat.eq_of_beq_eq_true h
    cases hpm
    subst hpc
    intro k n K B L f ν μ lv st G lvc stc dk dn rs hw hm hk hn hA
    unfold mText at hm
    split at hm
    · rename_i hc
      simp only [Bool.and_eq_true] at hc
      obtain ⟨⟨hnf, hsc⟩, hsl⟩ := hc
      have hcat := stc_cat hw hsl
      obtain ⟨rfl, rfl, rfl⟩ : dk = 11 ∧ dn = 1329 ∧ rs = [(18, lv, (2, G.2.2.2.1.length, xc 0) :: st, frR G 20)] := by
        have := Option.some.inj hm
        exact ⟨(Prod.mk.inj this).1.symm, (Prod.mk.inj (Prod.mk.inj this).2).1.symm, (Prod.mk.inj (Prod.mk.inj this).2).2.symm⟩
      have hcy : cy0 = X.1 := h1.symm
      refine h_new (ci := 7) (fs := [.int 0, .null, .null, .null, .null, .int 0, .null, .null, .int 0, .null, .null, .null, .null]) (ty0 := tyX7) hE rfl inZX7 tyX7_ok q637 q638 q125 (by decide +kernel) (by show k + 1 ≤ (dC D).2.2.2.2.1; omega) (by show n + 13 ≤ (dC D).2.2.2.2.2.1; omega) (by decide +kernel) (fun w hwL => ?_)
      refine x_dup hE (by decide +kernel) rfl ?_
      have hwm : w ∈ L ++ [w] := List.mem_append_right _ (List.mem_singleton.mpr rfl)
      have hM := n_X7 (X0 := (l0, D0, cy0, ax0)) (B := B) (K := va_up K w 20) (L := L ++ [w]) (f := va_up f w (.inr (7, [.int 0, .null, .null, .null, .null, .int 0, .null, .null, .int 0, .null, .null, .null, .null]))) (w := w) (kw := 20) (k1 := 21) (k2 := 22) (k3 := 23) (k4 := 24) (k5 := 25) (k6 := 26) (k7 := 27) (k8 := 28) (k9 := 29) (k10 := 30) hwm (va_up_self _ _ _) rfl (okI_of rfl rfl (fun _ => rfl) (by decide) (by decide)) (okI_of rfl rfl (fun _ => rfl) (by decide) (by decide)) (okI_of rfl rfl (fun _ => rfl) (by decide) (by decide)) (okI_of rfl rfl (fun _ => rfl) (by decide) (by decide)) (okI_of rfl rfl (fun _ => rfl) (by decide) (by decide)) (okI_of rfl rfl (fun _ => rfl) (by decide) (by decide)) (okI_of rfl rfl (fun _ => rfl) (by decide) (by decide)) (okI_of rfl rfl (fun _ => rfl) (by decide) (by decide)) (okI_of rfl rfl (fun _ => rfl) (by decide) (by decide)) (okI_of rfl rfl (fun _ => rfl) (by decide) (by decide)) (by decide) (by decide) (by decide)
      refine c_all hE (r_IN (st := .ref w :: stc) hE hM (List.mem_of_getElem? (i := 7) rfl) q640 q125 q641 rfl ⟨by decide +kernel, by decide +kernel, pd_text⟩ ⟨by show 1 + 1 ≤ (dC D).2.2.2.1; omega, by show 8 + (1 + 11) + 60 * 1 ≤ 60 * (dC D).2.2.2.1; omega⟩ ⟨by show k + 1 + 10 ≤ (dC D).2.2.2.2.1; omega, by show n + 13 + 1316 ≤ (dC D).2.2.2.2.2.1; omega⟩ rfl (by rw [List.map_cons, List.sum_cons]; show 1 + (stc.map fun v => v.category).sum ≤ 8; omega) (by decide +kernel)) (fun r L2 f2 ht hp => ?_)
      obtain rfl : r = none := ht
      obtain ⟨A, K2, g, hck, c, o, c3, o4, hcL, hoL, hz⟩ := hp
      obtain ⟨old, hh2, newK, hw2, kw2⟩ := hok_text (by rw [hcy]; exact hw.1) hwL g hck c3 o4 hcL hoL hz
      rw [hcy] at hh2
      have w1 := more_ok hw old hh2 (fun b hb hn => ⟨nofs_k hnf (newK b hb hn).1 (newK b hb hn).2, by have := (newK b hb hn).2; omega⟩)
      have w2 := (w1.frR hsc hw2 kw2).push (2, G.2.2.2.1.length, xc 0)
      have v2 : cv ν (va_up μ G.2.2.2.1.length w) (2, G.2.2.2.1.length, xc 0) = .ref w := by
        show Value.ref (va_up μ G.2.2.2.1.length w G.2.2.2.1.length) = _
        rw [va_up_self]
      rw [v2] at w2
      have h9 := hA K2 B L2 f2 _ (List.mem_singleton.mpr rfl) ν _ lvc _ w2
      exact h9
    · cases hm
  · cases hpm
end MT
