/-! The rows that touch the heap, in the words of the pool. -/
theorem z_plget {L : List Nat} {f : Nat → va_E} {a : Nat} (h : a ∈ L) : ∃ k : Nat, (va_pl L f)[k]? = some (a, f a) := va_pl_get (X := []) (f := f) h
theorem z_plset {A : Nat → Prop} {L : List Nat} {f : Nat → va_E} {a k : Nat} {e : va_E} (hD : va_D A (va_pl L f)) (h : a ∈ L) (hk : (va_pl L f)[k]? = some (a, f a)) : (va_pl L f).set k (a, e) = va_pl L (va_up f a e) := va_pl_set (X := []) hD h hk
section ZR
variable {E : zCx} {l0 : Launch} {D0 : va_G} {cy0 : Nat → ClassId} {own : String} {cc : ByteArray} {nL : Nat} {R0 : Room} {k n : Nat} {L : List Nat} {σ : Nat → va_E} {φ : Nat → Nat → Nat → Int32} {ρ : Nat → Nat → Int32} {pc : Nat} {lv : List (Nat × Value)} {st : List Value}
variable {a ci index N j0 : Nat} {S : List Value} {C : String} {T : u_T}
theorem h_geti (hE : zOk E l0 D0 cy0 own cc nL R0) (ha : zT L σ a (.inr (ci, S))) (hc : vwCl[ci]? = some (C, T, N)) (hin : ∀ w ∈ u_ws C T N, w ∈ gtbl) (j : Nat) (hj : j < N) (hq : Cond.fieldLink own index (T j).1 (T j).2.1 (T j).2.2.1 ∈ gtbl) (hS : S[j]? = some (.int 0)) (hd : decode cc pc = .ok (.getfield index, 3)) (kk : zW E k n L σ φ ρ (pc + 3) lv (.int (φ ci j a) :: st)) : zW E k n L σ φ ρ pc lv (.ref a :: st) := by
  obtain ⟨p, l, e, R, s, m, args, below, meth, c, D, cy, A, Q⟩ := E
  obtain ⟨hx, hb, hml, hown, hts, hK, hA, rfl, rfl, rfl, rfl⟩ := hE
  intro H locs ls hJ hl
  obtain ⟨f, hf, hP, hD, hS0⟩ := id hJ
  obtain ⟨fs, e1, e2, -⟩ := z_getint hf ha hS
  obtain ⟨q0, hq0⟩ := z_plget (f := f) ha.1
  exact va_get hx hb hts hin hown hK.1 hP q0 (by rw [← e1]; exact hq0) hc j hj (hts _ hq) (fun x h => h) e2 hd (kk H locs ls hJ hl)
theorem h_getr {b : Nat} (hE : zOk E l0 D0 cy0 own cc nL R0) (ha : zT L σ a (.inr (ci, S))) (hc : vwCl[ci]? = some (C, T, N)) (hin : ∀ w ∈ u_ws C T N, w ∈ gtbl) (j : Nat) (hj : j < N) (hq : Cond.fieldLink own index (T j).1 (T j).2.1 (T j).2.2.1 ∈ gtbl) (hS : S[j]? = some (.ref b)) (hd : decode cc pc = .ok (.getfield index, 3)) (kk : zW E k n L σ φ ρ (pc + 3) lv (.ref b :: st)) : zW E k n L σ φ ρ pc lv (.ref a :: st) := by
  obtain ⟨p, l, e, R, s, m, args, below, meth, c, D, cy, A, Q⟩ := E
  obtain ⟨hx, hb, hml, hown, hts, hK, hA, rfl, rfl, rfl, rfl⟩ := hE
  intro H locs ls hJ hl
  obtain ⟨f, hf, hP, hD, hS0⟩ := id hJ
  obtain ⟨fs, e1, e2, -⟩ := z_getref hf ha hS
  obtain ⟨q0, hq0⟩ := z_plget (f := f) ha.1
  exact va_get hx hb hts hin hown hK.1 hP q0 (by rw [← e1]; exact hq0) hc j hj (hts _ hq) (fun x h => h) e2 hd (kk H locs ls hJ hl)
theorem h_puti {v : Int32} {ty : FieldType} {ty0 : Nat → FieldType} (hE : zOk E l0 D0 cy0 own cc nL R0) (ha : zT L σ a (.inr (ci, S))) (hc : vwCl[ci]? = some (C, T, N)) (hin : ∀ w ∈ u_ws C T N, w ∈ gtbl) (hty : ∀ k, k < N → parseFieldDescriptor (T k).2.2.1 = some (ty0 k)) (hnm : ∀ a, a < N → ∀ b, b < N → a ≠ b → (T a).2.1 ≠ (T b).2.1) (j : Nat) (hj : j < N) (hq : Cond.fieldLink own index (T j).1 (T j).2.1 (T j).2.2.1 ∈ gtbl) (hfin : (T j).2.2.2 = false) (hS : S[j]? = some (.int 0)) (hdsc : parseFieldDescriptor (T j).2.2.1 = some ty) (hn : narrow ty (.int v) = .int v) (hfit : fits ty (.int v) = true) (hd : decode cc pc = .ok (.putfield index, 3)) (kk : zW E k n L σ (zup φ ci j a v) ρ (pc + 3) lv st) : zW E k n L σ φ ρ pc lv (.int v :: .ref a :: st) := by
  obtain ⟨p, l, e, R, s, m, args, below, meth, c, D, cy, A, Q⟩ := E
  obtain ⟨hx, hb, hml, hown, hts, hK, hA, rfl, rfl, rfl, rfl⟩ := hE
  intro H locs ls hJ hl
  obtain ⟨f, hf, hP, hD, hS0⟩ := id hJ
  obtain ⟨fs, e1, e2, e3⟩ := z_getint hf ha hS
  obtain ⟨q0, hq0⟩ := z_plget (f := f) ha.1
  refine va_put hx hb hts hin ty0 hty hnm hown hK.1 hP hD hS0 q0 (by rw [← e1]; exact hq0) hc j hj (hts _ hq) (fun x h => h) hfin hdsc hn hfit (List.getElem?_eq_some_iff.mp e2).1 hd (fun H1 locs1 hP1 hD1 hS1 => kk H1 locs1 ls ⟨_, z_putint hf ha e1 e3 hS, ?_, ?_, hS1⟩ hl)
  · have h9 := z_plset (e := .inr (ci, fs.set j (.int v))) hD ha.1 hq0
    exact h9 ▸ hP1
  · have h9 := z_plset (e := .inr (ci, fs.set j (.int v))) hD ha.1 hq0
    exact h9 ▸ hD1
theorem h_putr {b : Nat} {ty : FieldType} {ty0 : Nat → FieldType} (hE : zOk E l0 D0 cy0 own cc nL R0) (hI : zIn E ∧ (T j0).2.2.2 = true ∧ (T j0).1 = own ∨ (T j0).2.2.2 = false) (ha : zT L σ a (.inr (ci, S))) (hc : vwCl[ci]? = some (C, T, N)) (hin : ∀ w ∈ u_ws C T N, w ∈ gtbl) (hty : ∀ k, k < N → parseFieldDescriptor (T k).2.2.1 = some (ty0 k)) (hnm : ∀ a, a < N → ∀ b, b < N → a ≠ b → (T a).2.1 ≠ (T b).2.1) (hj : j0 < N) (hq : Cond.fieldLink own index (T j0).1 (T j0).2.1 (T j0).2.2.1 ∈ gtbl) (hS : ∃ v0, S[j0]? = some v0 ∧ (v0 = .null ∨ ∃ r, v0 = .ref r)) (hdsc : parseFieldDescriptor (T j0).2.2.1 = some ty) (hn : narrow ty (.ref b) = .ref b) (hfit : fits ty (.ref b) = true) (hd : decode cc pc = .ok (.putfield index, 3)) (kk : zW E k n L (va_up σ a (.inr (ci, S.set j0 (.ref b)))) φ ρ (pc + 3) lv st) : zW E k n L σ φ ρ pc lv (.ref b :: .ref a :: st) := by
  obtain ⟨p, l, e, R, s, m, args, below, meth, c, D, cy, A, Q⟩ := E
  obtain ⟨hx, hb, hml, hown, hts, hK, hA, rfl, rfl, rfl, rfl⟩ := hE
  intro H locs ls hJ hl
  obtain ⟨f, hf, hP, hD, hS0⟩ := id hJ
  obtain ⟨h1, h2, -⟩ := hf a ha.1
  obtain ⟨fs, e1, e2⟩ := zsh_inr (h1.trans ha.2)
  obtain ⟨q0, hq0⟩ := z_plget (f := f) ha.1
  have hlt : j0 < fs.length := by
    obtain ⟨v0, hv0, -⟩ := hS
    obtain ⟨w, w1, -⟩ := z_map e2 hv0
    exact (List.getElem?_eq_some_iff.mp w1).1
  have h9 := z_plset (e := .inr (ci, fs.set j0 (.ref b))) hD ha.1 hq0
  rcases hI with ⟨hi1, hi2, hi3⟩ | hi
  · exact va_putF hx hb hts hin ty0 hty hnm hown hK.1 hP hD hS0 q0 (by rw [← e1]; exact hq0) hc j0 hj (hts _ hq) (fun x h => h) hi2 hi1 hi3 hdsc hn hfit hlt hd (fun H1 locs1 hP1 hD1 hS1 => kk H1 locs1 ls ⟨_, z_putref hf e1 e2 hS, h9 ▸ hP1, h9 ▸ hD1, hS1⟩ hl)
  · exact va_put hx hb hts hin ty0 hty hnm hown hK.1 hP hD hS0 q0 (by rw [← e1]; exact hq0) hc j0 hj (hts _ hq) (fun x h => h) hi hdsc hn hfit hlt hd (fun H1 locs1 hP1 hD1 hS1 => kk H1 locs1 ls ⟨_, z_putref hf e1 e2 hS, h9 ▸ hP1, h9 ▸ hD1, hS1⟩ hl)
theorem h_iald {N0 : Nat} {i : Int32} (hE : zOk E l0 D0 cy0 own cc nL R0) (ha : zT L σ a (zIA cy0 N0)) (hi : vp_in i N0) (hd : decode cc pc = .ok (.iaload, 1)) (kk : zW E k n L σ φ ρ (pc + 1) lv (.int (ρ a i.toNatClampNeg) :: st)) : zW E k n L σ φ ρ pc lv (.int i :: .ref a :: st) := by
  obtain ⟨p, l, e, R, s, m, args, below, meth, c, D, cy, A, Q⟩ := E
  obtain ⟨hx, hb, hml, hown, hts, hK, hA, rfl, rfl, rfl, rfl⟩ := hE
  intro H locs ls hJ hl
  obtain ⟨f, hf, hP, hD, hS0⟩ := id hJ
  obtain ⟨h1, -, h3⟩ := hf a ha.1
  have e1 := zsh_ia (h1.trans ha.2)
  rw [h3] at e1
  obtain ⟨q0, hq0⟩ := z_plget (f := f) ha.1
  exact va_iald hx hb hK.1 hP q0 0 (by rw [← e1]; exact hq0) rfl hi hd (kk H locs ls hJ hl)
theorem h_zald {N0 : Nat} {i : Int32} (hE : zOk E l0 D0 cy0 own cc nL R0) (ha : zT L σ a (zZA cy0 N0)) (hi : vp_in i N0) (hd : decode cc pc = .ok (.baload, 1)) (kk : zW E k n L σ φ ρ (pc + 1) lv (.int (ρ a i.toNatClampNeg) :: st)) : zW E k n L σ φ ρ pc lv (.int i :: .ref a :: st) := by
  obtain ⟨p, l, e, R, s, m, args, below, meth, c, D, cy, A, Q⟩ := E
  obtain ⟨hx, hb, hml, hown, hts, hK, hA, rfl, rfl, rfl, rfl⟩ := hE
  intro H locs ls hJ hl
  obtain ⟨f, hf, hP, hD, hS0⟩ := id hJ
  obtain ⟨h1, -, h3⟩ := hf a ha.1
  have e1 := zsh_ia (h1.trans ha.2)
  rw [h3] at e1
  obtain ⟨q0, hq0⟩ := z_plget (f := f) ha.1
  exact va_zald hx hb hK.1 hP q0 2 (by rw [← e1]; exact hq0) rfl hi hd (kk H locs ls hJ hl)
theorem h_iast {N0 : Nat} {i v : Int32} (hE : zOk E l0 D0 cy0 own cc nL R0) (ha : zT L σ a (zIA cy0 N0)) (hi : vp_in i N0) (hd : decode cc pc = .ok (.iastore, 1)) (kk : zW E k n L σ φ (va_up ρ a (upd (ρ a) i.toNatClampNeg v)) (pc + 1) lv st) : zW E k n L σ φ ρ pc lv (.int v :: .int i :: .ref a :: st) := by
  obtain ⟨p, l, e, R, s, m, args, below, meth, c, D, cy, A, Q⟩ := E
  obtain ⟨hx, hb, hml, hown, hts, hK, hA, rfl, rfl, rfl, rfl⟩ := hE
  intro H locs ls hJ hl
  obtain ⟨f, hf, hP, hD, hS0⟩ := id hJ
  obtain ⟨h1, -, h3⟩ := hf a ha.1
  have e1 := zsh_ia (h1.trans ha.2)
  rw [h3] at e1
  obtain ⟨q0, hq0⟩ := z_plget (f := f) ha.1
  have h9 := z_plset (e := .inl (cy 0, N0, .inl (upd (ρ a) i.toNatClampNeg v))) hD ha.1 hq0
  exact va_iast hx hb hK.1 hP hD hS0 q0 0 (by rw [← e1]; exact hq0) rfl hi hd (fun H1 locs1 hP1 hD1 hS1 => kk H1 locs1 ls ⟨_, z_row hf ha, h9 ▸ hP1, h9 ▸ hD1, hS1⟩ hl)
theorem h_zast {N0 : Nat} {i v : Int32} (hE : zOk E l0 D0 cy0 own cc nL R0) (ha : zT L σ a (zZA cy0 N0)) (hi : vp_in i N0) (hd : decode cc pc = .ok (.bastore, 1)) (kk : zW E k n L σ φ (va_up ρ a (upd (ρ a) i.toNatClampNeg (vp_nar .boolean v))) (pc + 1) lv st) : zW E k n L σ φ ρ pc lv (.int v :: .int i :: .ref a :: st) := by
  obtain ⟨p, l, e, R, s, m, args, below, meth, c, D, cy, A, Q⟩ := E
  obtain ⟨hx, hb, hml, hown, hts, hK, hA, rfl, rfl, rfl, rfl⟩ := hE
  intro H locs ls hJ hl
  obtain ⟨f, hf, hP, hD, hS0⟩ := id hJ
  obtain ⟨h1, -, h3⟩ := hf a ha.1
  have e1 := zsh_ia (h1.trans ha.2)
  rw [h3] at e1
  obtain ⟨q0, hq0⟩ := z_plget (f := f) ha.1
  have h9 := z_plset (e := .inl (cy 2, N0, .inl (upd (ρ a) i.toNatClampNeg (vp_nar .boolean v)))) hD ha.1 hq0
  exact va_zast hx hb hK.1 hP hD hS0 q0 2 (by rw [← e1]; exact hq0) rfl hi hd (fun H1 locs1 hP1 hD1 hS1 => kk H1 locs1 ls ⟨_, z_row hf ha, h9 ▸ hP1, h9 ▸ hD1, hS1⟩ hl)
theorem h_aald {N0 b : Nat} {g : Nat → Option Nat} {i : Int32} (hE : zOk E l0 D0 cy0 own cc nL R0) (ha : zT L σ a (zRA (cy0 4) N0 g)) (hi : vp_in i N0) (hg : g i.toNatClampNeg = some b) (hd : decode cc pc = .ok (.aaload, 1)) (kk : zW E k n L σ φ ρ (pc + 1) lv (.ref b :: st)) : zW E k n L σ φ ρ pc lv (.int i :: .ref a :: st) := by
  obtain ⟨p, l, e, R, s, m, args, below, meth, c, D, cy, A, Q⟩ := E
  obtain ⟨hx, hb, hml, hown, hts, hK, hA, rfl, rfl, rfl, rfl⟩ := hE
  intro H locs ls hJ hl
  obtain ⟨f, hf, hP, hD, hS0⟩ := id hJ
  obtain ⟨h1, -, -⟩ := hf a ha.1
  have e1 := zsh_ra (h1.trans ha.2)
  obtain ⟨q0, hq0⟩ := z_plget (f := f) ha.1
  refine va_aldq hx hb hK.1 hP q0 4 (C := "OwnRain$World") (f := g) (cA := cy 4) (n := N0) (by rw [e1] at hq0; exact hq0) rfl hi hd ?_
  rw [hg]
  exact kk H locs ls hJ hl
/-- a row of references to TEXTS: what is there is null or a TEXT -/
theorem h_aaldT {N0 : Nat} {g : Nat → Option Nat} {i : Int32} (hE : zOk E l0 D0 cy0 own cc nL R0) (ha : zT L σ a (zRA (cy0 3) N0 g)) (hi : vp_in i N0) (hd : decode cc pc = .ok (.aaload, 1)) (kk : zW E k n L σ φ ρ (pc + 1) lv (va_rf (g i.toNatClampNeg) :: st)) : zW E k n L σ φ ρ pc lv (.int i :: .ref a :: st) := by
  obtain ⟨p, l, e, R, s, m, args, below, meth, c, D, cy, A, Q⟩ := E
  obtain ⟨hx, hb, hml, hown, hts, hK, hA, rfl, rfl, rfl, rfl⟩ := hE
  intro H locs ls hJ hl
  obtain ⟨f, hf, hP, hD, hS0⟩ := id hJ
  obtain ⟨h1, -, -⟩ := hf a ha.1
  have e1 := zsh_ra (h1.trans ha.2)
  obtain ⟨q0, hq0⟩ := z_plget (f := f) ha.1
  exact va_aldq hx hb hK.1 hP q0 3 (C := "OwnRain$Text") (f := g) (cA := cy 3) (n := N0) (by rw [e1] at hq0; exact hq0) rfl hi hd (kk H locs ls hJ hl)
theorem h_aast {t0 N0 v : Nat} {g : Nat → Option Nat} {i : Int32} {vs : List Value} (hE : zOk E l0 D0 cy0 own cc nL R0) (ha : zT L σ a (zRA (cy0 t0) N0 g)) (hv : zT L σ v (.inr (ci, vs))) (hc : vwCl[ci]? = some (C, T, N)) (ht : (zcy cy0)[t0]? = some (cy0 t0, .object C)) (hi : vp_in i N0) (hd : decode cc pc = .ok (.aastore, 1)) (kk : zW E k n L (va_up σ a (zRA (cy0 t0) N0 (va_up g i.toNatClampNeg (some v)))) φ ρ (pc + 1) lv st) : zW E k n L σ φ ρ pc lv (.ref v :: .int i :: .ref a :: st) := by
  obtain ⟨p, l, e, R, s, m, args, below, meth, c, D, cy, A, Q⟩ := E
  obtain ⟨hx, hb, hml, hown, hts, hK, hA, rfl, rfl, rfl, rfl⟩ := hE
  intro H locs ls hJ hl
  obtain ⟨f, hf, hP, hD, hS0⟩ := id hJ
  obtain ⟨h1, -, -⟩ := hf a ha.1
  have e1 := zsh_ra (h1.trans ha.2)
  obtain ⟨fs, e2, -⟩ := zsh_inr ((hf v hv.1).1.trans hv.2)
  obtain ⟨q0, hq0⟩ := z_plget (f := f) ha.1
  obtain ⟨q1, hq1⟩ := z_plget (f := f) hv.1
  have h9 := z_plset (e := zRA (cy t0) N0 (va_up g i.toNatClampNeg (some v))) hD ha.1 hq0
  exact va_astq hx hb hK.1 hP hD hS0 q0 t0 q1 ci (r := (C, T, N)) (f := g) (cA := cy t0) (n := N0) (by rw [e1] at hq0; exact hq0) ht (by rw [← e2]; exact hq1) hc hi hd (fun H1 locs1 hP1 hD1 hS1 => kk H1 locs1 ls ⟨_, z_rowR hf ha, h9 ▸ hP1, h9 ▸ hD1, hS1⟩ hl)
theorem h_alen {x : vp_A} {t0 : Nat} {ty : FieldType} {v : Int32} (hE : zOk E l0 D0 cy0 own cc nL R0) (ha : zT L σ a (.inl (cy0 t0, x))) (ht : (zcy cy0)[t0]? = some (cy0 t0, ty)) (hv : Int32.ofNat x.1 = v) (hd : decode cc pc = .ok (.arraylength, 1)) (kk : zW E k n L σ φ ρ (pc + 1) lv (.int v :: st)) : zW E k n L σ φ ρ pc lv (.ref a :: st) := by
  obtain ⟨p, l, e, R, s, m, args, below, meth, c, D, cy, A, Q⟩ := E
  obtain ⟨hx, hb, hml, hown, hts, hK, hA, rfl, rfl, rfl, rfl⟩ := hE
  intro H locs ls hJ hl
  obtain ⟨f, hf, hP, hD, hS0⟩ := id hJ
  obtain ⟨h1, -, -⟩ := hf a ha.1
  have e1 : ∃ y : vp_A, f a = .inl (cy t0, y) ∧ y.1 = x.1 := by
    have h2 := h1.trans ha.2
    rcases hfa : f a with ⟨c', m', y⟩ | ⟨c', fs⟩
    · rw [hfa] at h2
      rcases y with y | y | y | y | y <;> (simp only [zsh, Sum.inl.injEq, Prod.mk.injEq] at h2; obtain ⟨rfl, h3⟩ := h2; exact ⟨_, rfl, by rw [← h3]⟩)
    · rw [hfa] at h2
      simp [zsh] at h2
  obtain ⟨y, e2, e3⟩ := e1
  obtain ⟨q0, hq0⟩ := z_plget (f := f) ha.1
  exact va_alen hx hb hK.1 hP q0 t0 (by rw [← e2]; exact hq0) ht (by rw [e3]; exact hv) hd (kk H locs ls hJ hl)
theorem h_new {fs : List Value} {ty0 : Nat → FieldType} (hE : zOk E l0 D0 cy0 own cc nL R0) (hc : vwCl[ci]? = some (C, T, N)) (hin : ∀ w ∈ u_ws C T N, w ∈ gtbl) (hty : ∀ k, k < N → parseFieldDescriptor (T k).2.2.1 = some (ty0 k)) (hq1 : Cond.classLink own index C ∈ gtbl) (hq2 : Cond.instantiable C N ∈ gtbl) (hq3 : Cond.initialized C ∈ gtbl) (hfs : ∀ j, j < N → defaultValue (ty0 j) = vp_V fs j) (hsh : fs.map zshV = fs) (h0 : ∀ c i, zfI (.inr (ci, fs)) c i = 0) (hk1 : k + 1 ≤ R0.cells) (hk2 : n + N ≤ R0.slots) (hd : decode cc pc = .ok (.new index, 3))
    (kk : ∀ (q : Nat) (L1 : List Nat) (σ1 : Nat → va_E) (φ1 : Nat → Nat → Nat → Int32) (ρ1 : Nat → Nat → Int32), q ∉ L → (∀ w, zX w L σ φ ρ L1 σ1 φ1 ρ1) → zT L1 σ1 q (.inr (ci, fs)) → (∀ c i, φ1 c i q = 0) → zW E (k + 1) (n + N) L1 σ1 φ1 ρ1 (pc + 3) lv (.ref q :: st)) : zW E k n L σ φ ρ pc lv st := by
  obtain ⟨p, l, e, R, s, m, args, below, meth, c, D, cy, A, Q⟩ := E
  obtain ⟨hx, hb, hml, hown, hts, hK, hA, rfl, rfl, rfl, rfl⟩ := hE
  intro H locs ls hJ hl
  obtain ⟨f, hf, hP, hD, hS0⟩ := id hJ
  refine va_new hx hb hts hin ty0 hty hown (hts _ hq1) (hts _ hq2) (hts _ hq3) hK.1 hP hD hS0 hA hc hfs hk1 hk2 hd (fun q H1 hP1 hD1 hS1 => ?_)
  have hq : q ∉ L := va_pl_fresh2 (X := []) hD1
  have h9 := va_pl_push (f := f) (e := .inr (ci, fs)) hq
  refine kk q _ _ _ _ hq (fun w => z_pushX (e := .inr (ci, fs)) hq) ⟨List.mem_append_right _ (List.mem_singleton.mpr rfl), ?_⟩ (fun c i => ?_) H1 locs ls ⟨_, z_push hf hq, h9 ▸ hP1, h9 ▸ hD1, hS1⟩ hl
  · rw [va_up_self]
    show Sum.inr (ci, fs.map zshV) = _
    rw [hsh]
  · simp [h0]
theorem h_newa {atype : ArrayType} {t0 : Nat} {ty : FieldType} {v : Int32} {N0 : Nat} {x : vp_A} (hE : zOk E l0 D0 cy0 own cc nL R0) (hty : newarray.typeOf atype = ty) (hno : ∀ C, ty ≠ .object C) (hq : Cond.arrayClass ty ∈ gtbl) (ht : (zcy cy0)[t0]? = some (cy0 t0, ty)) (hxc : ∀ cA : ClassId, vp_cell cA x = arrV cA N0 (fun _ => defaultValue ty)) (hsh : ∀ cA : ClassId, zsh (.inl (cA, x)) = .inl (cA, x)) (hr0 : ∀ cA : ClassId, zrI (.inl (cA, x)) = fun _ => 0) (hn : ¬ v < 0) (hN : v.toNatClampNeg = N0) (hby : N0 * componentBytes ty ≤ 536870912) (hk1 : k + 1 ≤ R0.cells) (hk2 : n + N0 ≤ R0.slots) (hd : decode cc pc = .ok (.newarray atype, 2))
    (kk : ∀ (q : Nat) (L1 : List Nat) (σ1 : Nat → va_E) (φ1 : Nat → Nat → Nat → Int32) (ρ1 : Nat → Nat → Int32), q ∉ L → (∀ w, zX w L σ φ ρ L1 σ1 φ1 ρ1) → zT L1 σ1 q (.inl (cy0 t0, x)) → ρ1 q = (fun _ => 0) → zW E (k + 1) (n + N0) L1 σ1 φ1 ρ1 (pc + 2) lv (.ref q :: st)) : zW E k n L σ φ ρ pc lv (.int v :: st) := by
  obtain ⟨p, l, e, R, s, m, args, below, meth, c, D, cy, A, Q⟩ := E
  obtain ⟨hx, hb, hml, hown, hts, hK, hA, rfl, rfl, rfl, rfl⟩ := hE
  intro H locs ls hJ hl
  obtain ⟨f, hf, hP, hD, hS0⟩ := id hJ
  subst hty
  refine va_newa hx hb (hts _ hq) rfl hK.1 hP hD hS0 hA hxc hn hN hby hk1 hk2 hd (fun q cA H1 hK1 hP1 hD1 hS1 => ?_)
  have hq : q ∉ L := va_pl_fresh2 (X := []) hD1
  have hcA : cA = cy t0 := by
    have h1 := (hK1.2 5 (cA, newarray.typeOf atype) rfl).2
    have h2 := (hK.1.2 t0 _ ht).2
    cases hty2 : newarray.typeOf atype <;> rw [hty2] at h1 h2 hno <;> first | exact absurd rfl (hno _) | exact Option.some.inj (h1.symm.trans h2)
  subst hcA
  have h9 := va_pl_push (f := f) (e := .inl (cy t0, x)) hq
  refine kk q _ _ _ _ hq (fun w => z_pushX (e := .inl (cy t0, x)) hq) ⟨List.mem_append_right _ (List.mem_singleton.mpr rfl), ?_⟩ ?_ H1 locs ls ⟨_, z_push hf hq, h9 ▸ hP1, h9 ▸ hD1, hS1⟩ hl
  · rw [va_up_self, hsh]
  · rw [va_up_self, hr0]
theorem h_newq {t0 : Nat} {v : Int32} {N0 : Nat} (hE : zOk E l0 D0 cy0 own cc nL R0) (hq : Cond.classLink own index C ∈ gtbl) (ht : (zcy cy0)[t0]? = some (cy0 t0, .object C)) (hC : C = "OwnRain$Text" ∨ C = "OwnRain$World") (hn : ¬ v < 0) (hN : v.toNatClampNeg = N0) (hby : N0 * 4 ≤ 536870912) (hk1 : k + 1 ≤ R0.cells) (hk2 : n + N0 ≤ R0.slots) (hd : decode cc pc = .ok (.anewarray index, 3))
    (kk : ∀ (q : Nat) (L1 : List Nat) (σ1 : Nat → va_E) (φ1 : Nat → Nat → Nat → Int32) (ρ1 : Nat → Nat → Int32), q ∉ L → (∀ w, zX w L σ φ ρ L1 σ1 φ1 ρ1) → zT L1 σ1 q (zRA (cy0 t0) N0 (fun _ => none)) → zW E (k + 1) (n + N0) L1 σ1 φ1 ρ1 (pc + 3) lv (.ref q :: st)) : zW E k n L σ φ ρ pc lv (.int v :: st) := by
  obtain ⟨p, l, e, R, s, m, args, below, meth, c, D, cy, A, Q⟩ := E
  obtain ⟨hx, hb, hml, hown, hts, hK, hA, rfl, rfl, rfl, rfl⟩ := hE
  intro H locs ls hJ hl
  obtain ⟨f, hf, hP, hD, hS0⟩ := id hJ
  have hAO : va_AO C s := by
    rcases hC with h | h <;> rw [h]
    · exact hK.2.2.1
    · exact hK.2.2.2
  refine va_newq hx hb hown (hts _ hq) hAO hK.1 hP hD hS0 hA hn hN hby hk1 hk2 hd (fun q cA H1 hK1 hP1 hD1 hS1 => ?_)
  have hq : q ∉ L := va_pl_fresh2 (X := []) hD1
  have hcA : cA = cy t0 := by
    obtain ⟨_, _, -, -, -, h1⟩ := (hK1.2 5 (cA, .object C) rfl).2
    obtain ⟨_, _, -, -, -, h2⟩ := (hK.1.2 t0 _ ht).2
    exact Option.some.inj (h1.symm.trans h2)
  subst hcA
  have h9 := va_pl_push (f := f) (e := zRA (cy t0) N0 (fun _ => none)) hq
  exact kk q _ _ _ _ hq (fun w => z_pushX (e := zRA (cy t0) N0 (fun _ => none)) hq) ⟨List.mem_append_right _ (List.mem_singleton.mpr rfl), va_up_self _ _ _⟩ H1 locs ls ⟨_, z_push hf hq, h9 ▸ hP1, h9 ▸ hD1, hS1⟩ hl
end ZR
