/-! Lists: rows of truths, copies, cells that stay. -/
def cg (K : Nat → Nat) (L : List Nat) (f : Nat → va_E) (k i : Nat) (v : Int) : Prop := ∀ b ∈ L, K b = k → gi (f b) i = v
theorem cg_ext {mods : List (Nat × Nat)} {K K' : Nat → Nat} {B B' : Int} {L L' : List Nat} {f f' : Nat → va_E} (h : extC mods K B L f K' B' L' f') {k i : Nat} {v : Int} (h40 : 40 ≤ k) (hr : (k, reg k i) ∉ mods) (hc : cg K L f k i v) : cg K' L' f' k i v := by
  intro b hb hk
  by_cases hbL : b ∈ L
  · obtain ⟨-, e2, e3⟩ := h.1 b hbL
    have hkb : K b = k := e2.symm.trans hk
    rw [gi_same (e3 i (by rw [hkb]; exact hr))]
    exact hc b hbL hkb
  · exact absurd (h.2.2 b hb hbL) (by omega)
theorem reg3 {k : Nat} (h : (zkd k).1 = 3) (i : Nat) : reg k i = 0 := by
  unfold reg
  rw [if_neg (fun h2 => by rw [isA_arr h2] at h; cases h), if_neg (by rw [h]; decide)]
theorem reg2 {k : Nat} (h : (zkd k).1 = 2) (hA : isA k = false) (i : Nat) : reg k i = 0 := by
  unfold reg
  rw [if_neg (by rw [hA]; decide), if_neg (by rw [h]; decide)]
section ZL
variable {E : zCx} {l0 : Launch} {D0 : va_G} {cy0 : Nat → ClassId} {ax0 : zAx} {own : String} {cc : ByteArray} {nL : Nat} {R0 : Room} {k n : Nat} {K : Nat → Nat} {B : Int} {L : List Nat} {f : Nat → va_E} {pc : Nat} {lv : List (Nat × Value)} {st : List Value}
theorem w_zld (hE : zOk E (l0, D0, cy0, ax0) own cc nL R0) (hh : hok cy0 K B L f) {b kd : Nat} {i : Int} (hb : b ∈ L ∧ K b = kd) (hz : (zkd kd).1 = 3) (hN : (zkd kd).2.1 ≤ 100000) (hi : 0 ≤ i) (hi2 : i < (zkd kd).2.1) (hd : decode cc pc = .ok (.baload, 1)) (kk : eW E k n L f (pc + 1) lv (.int (Int32.ofInt (gi (f b) i.toNat)) :: st)) : eW E k n L f pc lv (.int (Int32.ofInt i) :: .ref b :: st) := by
  have hcok := hh.1 b hb.1
  rw [hb.2] at hcok
  unfold cok at hcok
  rw [hz] at hcok
  obtain ⟨g, hf⟩ := hcok
  have ei : (Int32.ofInt i).toInt = i := i32i (by omega) (by omega)
  have et : (Int32.ofInt i).toNatClampNeg = i.toNat := by
    show (Int32.ofInt i).toInt.toNat = i.toNat
    rw [ei]
  refine h_zald hE hb.1 hf (by rw [vp_in_iff]; omega) hd ?_
  rw [et]
  have e : Int32.ofInt (gi (f b) i.toNat) = g i.toNat := by
    rw [hf]
    exact Int32.ofInt_toInt _
  rw [e] at kk
  exact kk
theorem w_zst (hE : zOk E (l0, D0, cy0, ax0) own cc nL R0) (hh : hok cy0 K B L f) {b kd : Nat} {i x : Int} (hb : b ∈ L ∧ K b = kd) (hz : (zkd kd).1 = 3) (hN : (zkd kd).2.1 ≤ 100000) (hrel : ∀ j, rel kd j = false) (hi : 0 ≤ i) (hi2 : i < (zkd kd).2.1) (hd : decode cc pc = .ok (.bastore, 1)) (kk : ∀ (f' : Nat → va_E) (z : Int), (x = 0 ∨ x = 1 → z = x) → (∀ b', b' ≠ b → f' b' = f b') → (∀ j, gi (f' b) j = if j = i.toNat then z else gi (f b) j) → hok cy0 K B L f' → extC [(kd, 0)] K B L f K B L f' → eW E k n L f' (pc + 1) lv st) : eW E k n L f pc lv (.int (Int32.ofInt x) :: .int (Int32.ofInt i) :: .ref b :: st) := by
  have hcok := hh.1 b hb.1
  rw [hb.2] at hcok
  unfold cok at hcok
  rw [hz] at hcok
  obtain ⟨g, hf⟩ := hcok
  have ei : (Int32.ofInt i).toInt = i := i32i (by omega) (by omega)
  have et : (Int32.ofInt i).toNatClampNeg = i.toNat := by
    show (Int32.ofInt i).toInt.toNat = i.toNat
    rw [ei]
  refine h_zast hE hb.1 hf (by rw [vp_in_iff]; omega) hd ?_
  rw [et]
  refine kk _ (vp_nar .boolean (Int32.ofInt x)).toInt (fun hx => by rcases hx with rfl | rfl <;> decide) (fun b' hb' => va_up_ne _ _ hb') (fun j => ?_) (hok_up hh hb.2 ?_ (XP_oth hh hb.2 (fun b' hb' => va_up_ne _ _ hb') (fun j hj => by rw [hrel j] at hj; cases hj))) (extC_up (fun j hj => ?_))
  · rw [va_up_self]
    show (upd g i.toNat (vp_nar .boolean (Int32.ofInt x)) j).toInt = _
    split
    · rename_i h
      rw [h, up_same]
    · rename_i h
      rw [up_oth _ _ h, hf]
      rfl
  · unfold cok
    rw [hz]
    exact ⟨_, rfl⟩
  · rw [hb.2, reg3 hz] at hj
    exact absurd (List.mem_singleton.mpr rfl) hj
theorem w_cpy (hE : zOk E (l0, D0, cy0, ax0) own cc nL R0) (hh : hok cy0 K B L f) {s d ks kd N idx : Nat} (hs : s ∈ L ∧ K s = ks) (hd' : d ∈ L ∧ K d = kd) (zs : (zkd ks).1 = 2) (zd : (zkd kd).1 = 2) (ns : (zkd ks).2.1 = N) (nd : (zkd kd).2.1 = N) (hN : N ≤ 1000) (hbd : ∀ i, kbd kd i = kbd ks i) (hrel : ∀ j, rel kd j = false) (hnA : isA kd = false) (hq1 : Cond.methodLink own idx arraycopyName ∈ gtbl) (hf1 : 1 ≤ R0.frames) (hf2 : (st.map fun v => v.category).sum + (nativeFrameWords "java/lang/System" "arraycopy" 5 + 11) ≤ R0.locals) (hd : decode cc pc = .ok (.invokestatic idx, 3)) (kk : ∀ f' : Nat → va_E, (∀ b', b' ≠ d → f' b' = f b') → (∀ j, j < N → gi (f' d) j = gi (f s) j) → hok cy0 K B L f' → extC [(kd, 0)] K B L f K B L f' → eW E k n L f' (pc + 3) lv st) : eW E k n L f pc lv (.int (Int32.ofInt (N : Int)) :: .int (Int32.ofInt 0) :: .ref d :: .int (Int32.ofInt 0) :: .ref s :: st) := by
  have hc1 := hh.1 s hs.1
  rw [hs.2] at hc1
  unfold cok at hc1
  rw [zs, ns] at hc1
  obtain ⟨g0, hf0, hb0⟩ := hc1
  have hc2 := hh.1 d hd'.1
  rw [hd'.2] at hc2
  unfold cok at hc2
  rw [zd, nd] at hc2
  obtain ⟨g1, hf1', -⟩ := hc2
  have eN : (Int32.ofInt (N : Int)).toInt = N := i32i (by omega) (by omega)
  have e0 : (Int32.ofInt 0).toInt = 0 := by decide
  have tN : (Int32.ofInt (N : Int)).toNatClampNeg = N := by
    show (Int32.ofInt (N : Int)).toInt.toNat = N
    rw [eN, Int.toNat_natCast]
  have t0 : (Int32.ofInt 0).toNatClampNeg = 0 := by decide
  have z0 : ¬ Int32.ofInt 0 < 0 := by decide
  refine h_copy hE hq1 q960 q959 q132 hs.1 hf0 hd'.1 hf1' z0 z0 (fun h => ?_) (by rw [t0, tN]; omega) (by rw [t0, tN]; omega) hf1 hf2 hd ?_
  · rw [Int32.lt_iff_toInt_lt, eN] at h
    have h' : (N : Int) < 0 := h
    omega
  rw [t0, tN]
  have hself : ∀ j, j < N → va_cpy g0 g1 0 0 N j = g0 j := fun j hj => by
    unfold va_cpy
    rw [if_pos (by omega)]
    congr 1
    omega
  refine kk _ (fun b' hb' => va_up_ne _ _ hb') (fun j hj => ?_) (hok_up hh hd'.2 ?_ (XP_oth hh hd'.2 (fun b' hb' => va_up_ne _ _ hb') (fun j hj => by rw [hrel j] at hj; cases hj))) (extC_up (fun j hj => ?_))
  · rw [va_up_self, hf0]
    show (va_cpy g0 g1 0 0 N j).toInt = (g0 j).toInt
    rw [hself j hj]
  · unfold cok
    rw [zd, nd]
    refine ⟨_, rfl, fun j hj => ?_⟩
    rw [hself j hj, hbd j]
    exact hb0 j hj
  · rw [hd'.2, reg2 zd hnA] at hj
    exact absurd (List.mem_singleton.mpr rfl) hj
end ZL
/-! Forecasts: c of them, the values v, the truths h. -/
def okF (c : Nat) (v h : Nat → Int) : Prop := c ≤ 12 ∧ ∀ k, k < c → (0 ≤ v k ∧ v k ≤ 9) ∧ (h k = 0 ∨ h k = 1)
def LF (K : Nat → Nat) (L : List Nat) (f : Nat → va_E) (kl c : Nat) (v h : Nat → Int) : Prop := cg K L f kl 1 c ∧ ∀ k, k < c → cg K L f (kl + 4) k (v k) ∧ cg K L f (kl + 5) k (h k)
def MF (K : Nat → Nat) (L : List Nat) (f : Nat → va_E) (ka c : Nat) (v h : Nat → Int) : Prop := cg K L f ka 11 c ∧ ∀ k, k < c → cg K L f ka (132 + 2 * k) (v k) ∧ cg K L f ka (133 + 2 * k) (h k)
def okO (o : Nat) (b p d : Nat → Int) : Prop := o ≤ 10 ∧ ∀ k, k < o → (b k = 0 ∨ b k = 1) ∧ (0 ≤ p k ∧ p k ≤ 99) ∧ (1 ≤ d k ∧ d k ≤ 99)
def LO (K : Nat → Nat) (L : List Nat) (f : Nat → va_E) (kl o : Nat) (b p d : Nat → Int) : Prop := cg K L f kl 2 o ∧ ∀ k, k < o → cg K L f (kl + 6) k (b k) ∧ cg K L f (kl + 7) k (p k) ∧ cg K L f (kl + 8) k (d k)
def MO (K : Nat → Nat) (L : List Nat) (f : Nat → va_E) (ka o : Nat) (b p d : Nat → Int) : Prop := cg K L f ka 12 o ∧ ∀ k, k < o → cg K L f ka (156 + 3 * k) (b k) ∧ cg K L f ka (157 + 3 * k) (p k) ∧ cg K L f ka (158 + 3 * k) (d k)
section LE
variable {mods : List (Nat × Nat)} {K K' : Nat → Nat} {B B' : Int} {L L' : List Nat} {f f' : Nat → va_E} {kl ka c : Nat} {v h b p d : Nat → Int}
theorem LF.ext (hF : LF K L f kl c v h) (he : extC mods K B L f K' B' L' f') (hk : kl = 62 ∨ kl = 102) (h1 : (kl, 1) ∉ mods) (h2 : (kl + 4, 0) ∉ mods) (h3 : (kl + 5, 0) ∉ mods) : LF K' L' f' kl c v h := by
  rcases hk with rfl | rfl
  · exact ⟨cg_ext he (by decide) (by rw [reg_obj (by decide)]; exact h1) hF.1, fun k hkc => ⟨cg_ext he (by decide) (by rw [reg2 (by decide) (by decide)]; exact h2) (hF.2 k hkc).1, cg_ext he (by decide) (by rw [reg3 (by decide)]; exact h3) (hF.2 k hkc).2⟩⟩
  · exact ⟨cg_ext he (by decide) (by rw [reg_obj (by decide)]; exact h1) hF.1, fun k hkc => ⟨cg_ext he (by decide) (by rw [reg2 (by decide) (by decide)]; exact h2) (hF.2 k hkc).1, cg_ext he (by decide) (by rw [reg3 (by decide)]; exact h3) (hF.2 k hkc).2⟩⟩
theorem LO.ext (hF : LO K L f kl c b p d) (he : extC mods K B L f K' B' L' f') (hk : kl = 62 ∨ kl = 102) (h1 : (kl, 2) ∉ mods) (h2 : (kl + 6, 0) ∉ mods) (h3 : (kl + 7, 0) ∉ mods) (h4 : (kl + 8, 0) ∉ mods) : LO K' L' f' kl c b p d := by
  rcases hk with rfl | rfl
  · exact ⟨cg_ext he (by decide) (by rw [reg_obj (by decide)]; exact h1) hF.1, fun k hkc => ⟨cg_ext he (by decide) (by rw [reg3 (by decide)]; exact h2) (hF.2 k hkc).1, cg_ext he (by decide) (by rw [reg2 (by decide) (by decide)]; exact h3) (hF.2 k hkc).2.1, cg_ext he (by decide) (by rw [reg2 (by decide) (by decide)]; exact h4) (hF.2 k hkc).2.2⟩⟩
  · exact ⟨cg_ext he (by decide) (by rw [reg_obj (by decide)]; exact h1) hF.1, fun k hkc => ⟨cg_ext he (by decide) (by rw [reg3 (by decide)]; exact h2) (hF.2 k hkc).1, cg_ext he (by decide) (by rw [reg2 (by decide) (by decide)]; exact h3) (hF.2 k hkc).2.1, cg_ext he (by decide) (by rw [reg2 (by decide) (by decide)]; exact h4) (hF.2 k hkc).2.2⟩⟩
theorem regA_A {i : Nat} (h : i = 11 ∨ i = 12) (ha : ka = 201 ∨ ka = 202) : reg ka i = i := by
  rcases ha with rfl | rfl <;> rcases h with rfl | rfl <;> decide
theorem regA_F {i : Nat} (h : 132 ≤ i ∧ i < 156) (ha : ka = 201 ∨ ka = 202) : reg ka i = 19 := by
  have e : reg ka i = regA i := by rcases ha with rfl | rfl <;> rfl
  rw [e]
  unfold regA
  simp only [Nat.blt_eq]
  rw [if_neg (by omega), if_neg (by omega), if_neg (by omega), if_neg (by omega), if_pos (by omega)]
theorem regA_O {i : Nat} (h : 156 ≤ i ∧ i < 186) (ha : ka = 201 ∨ ka = 202) : reg ka i = 20 := by
  have e : reg ka i = regA i := by rcases ha with rfl | rfl <;> rfl
  rw [e]
  unfold regA
  simp only [Nat.blt_eq]
  rw [if_neg (by omega), if_neg (by omega), if_neg (by omega), if_neg (by omega), if_neg (by omega), if_pos (by omega)]
theorem MF.ext (hF : MF K L f ka c v h) (hc : c ≤ 12) (he : extC mods K B L f K' B' L' f') (ha : ka = 201 ∨ ka = 202) (h1 : (ka, 11) ∉ mods) (h2 : (ka, 19) ∉ mods) : MF K' L' f' ka c v h := by
  have h40 : 40 ≤ ka := by omega
  exact ⟨cg_ext he h40 (by rw [regA_A (Or.inl rfl) ha]; exact h1) hF.1, fun k hkc => ⟨cg_ext he h40 (by rw [regA_F (by omega) ha]; exact h2) (hF.2 k hkc).1, cg_ext he h40 (by rw [regA_F (by omega) ha]; exact h2) (hF.2 k hkc).2⟩⟩
theorem MO.ext (hF : MO K L f ka c b p d) (hc : c ≤ 10) (he : extC mods K B L f K' B' L' f') (ha : ka = 201 ∨ ka = 202) (h1 : (ka, 12) ∉ mods) (h2 : (ka, 20) ∉ mods) : MO K' L' f' ka c b p d := by
  have h40 : 40 ≤ ka := by omega
  exact ⟨cg_ext he h40 (by rw [regA_A (Or.inr rfl) ha]; exact h1) hF.1, fun k hkc => ⟨cg_ext he h40 (by rw [regA_O (by omega) ha]; exact h2) (hF.2 k hkc).1, cg_ext he h40 (by rw [regA_O (by omega) ha]; exact h2) (hF.2 k hkc).2.1, cg_ext he h40 (by rw [regA_O (by omega) ha]; exact h2) (hF.2 k hkc).2.2⟩⟩
theorem LF.e0 (hF : LF K L f kl c v h) (he : extC [] K B L f K' B' L' f') (hk : kl = 62 ∨ kl = 102) : LF K' L' f' kl c v h := hF.ext he hk (by simp) (by simp) (by simp)
theorem LO.e0 (hF : LO K L f kl c b p d) (he : extC [] K B L f K' B' L' f') (hk : kl = 62 ∨ kl = 102) : LO K' L' f' kl c b p d := hF.ext he hk (by simp) (by simp) (by simp) (by simp)
theorem MF.e0 (hF : MF K L f ka c v h) (hc : c ≤ 12) (he : extC [] K B L f K' B' L' f') (ha : ka = 201 ∨ ka = 202) : MF K' L' f' ka c v h := hF.ext hc he ha (by simp) (by simp)
theorem MO.e0 (hF : MO K L f ka c b p d) (hc : c ≤ 10) (he : extC [] K B L f K' B' L' f') (ha : ka = 201 ∨ ka = 202) : MO K' L' f' ka c b p d := hF.ext hc he ha (by simp) (by simp)
end LE
