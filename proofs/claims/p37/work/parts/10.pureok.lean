def Fwd (E : zCx) (k n : Nat) (X : EC) (K : Nat → Nat) (B : Int) (L : List Nat) (f : Nat → va_E) (pc : Nat) (lvc : List (Nat × Value)) (stc : List Value) (r : EP) : Prop := ∃ ν' μ' lvc' stc', Wd X K B L f ν' μ' r.2.1 r.2.2.1 r.2.2.2 lvc' stc' ∧ (eW E k n L f r.1 lvc' stc' → eW E k n L f pc lvc stc)
theorem i8i {z : Int} (h1 : -128 ≤ z) (h2 : z ≤ 127) : (Int8.ofInt z).toInt32 = Int32.ofInt z := by
  apply Int32.toInt_inj.mp
  rw [Int8.toInt_toInt32, Int8.toInt_ofInt_of_le (by omega) (by omega), i32i (by omega) (by omega)]
theorem i16i {z : Int} (h1 : -32768 ≤ z) (h2 : z ≤ 32767) : (Int16.ofInt z).toInt32 = Int32.ofInt z := by
  apply Int32.toInt_inj.mp
  rw [Int16.toInt_toInt32, Int16.toInt_ofInt_of_le (by omega) (by omega), i32i (by omega) (by omega)]
section PO
variable {E : zCx} {X0 : zC0} {own : String} {cc : ByteArray} {nL : Nat} {R0 : Room} {k n : Nat} {X : EC} {K : Nat → Nat} {B : Int} {L : List Nat} {f : Nat → va_E} {ν : Nat → Int} {μ : Nat → Nat} {lv : EL} {st : List EV} {G : EG} {lvc : List (Nat × Value)} {stc : List Value} {i : Instr} {ln pc : Nat} {r : EP}
theorem sC_ok (hE : zOk E X0 own cc nL R0) (hd : decode cc pc = .ok (i, ln)) (h : Wd X K B L f ν μ lv st G lvc stc) (hs : sC i ln pc lv st G = some r) : Fwd E k n X K B L f pc lvc stc r := by
  unfold sC at hs
  split at hs
  · split at hs
    · rename_i v hc
      simp only [Bool.and_eq_true, beq_iff_eq, decide_eq_true_eq] at hc
      obtain ⟨⟨rfl, h1⟩, h2⟩ := hc
      cases hs
      refine ⟨ν, μ, _, _, h.push _, fun kk => x_iconst hE hd rfl ?_⟩
      simpa [cv, xv_c] using kk
    · cases hs
  · split at hs
    · rename_i v hc
      simp only [Bool.and_eq_true, beq_iff_eq, decide_eq_true_eq] at hc
      obtain ⟨⟨rfl, h1⟩, h2⟩ := hc
      cases hs
      refine ⟨ν, μ, _, _, h.push _, fun kk => x_bipush hE hd (i8i h1 h2) ?_⟩
      simpa [cv, xv_c] using kk
    · cases hs
  · split at hs
    · rename_i v hc
      simp only [Bool.and_eq_true, beq_iff_eq, decide_eq_true_eq] at hc
      obtain ⟨⟨rfl, h1⟩, h2⟩ := hc
      cases hs
      refine ⟨ν, μ, _, _, h.push _, fun kk => x_sipush hE hd (i16i h1 h2) ?_⟩
      simpa [cv, xv_c] using kk
    · cases hs
  · split at hs
    · rename_i v hc
      simp only [beq_iff_eq] at hc
      subst hc
      cases hs
      refine ⟨ν, μ, _, _, h.push _, fun kk => x_lconst hE hd rfl ?_⟩
      have e : (Int64.ofInt ((v : Nat) : Int)) = Int64.ofNat (v : Nat) := rfl
      simpa [cv, xv_c, e] using kk
    · cases hs
  · split at hs
    · rename_i hc
      simp only [beq_iff_eq] at hc
      subst hc
      cases hs
      exact ⟨ν, μ, _, _, h.push _, fun kk => x_null hE hd kk⟩
    · cases hs
  · cases hs
theorem ldv_ok {t z : Nat} (h : Wd X K B L f ν μ lv st G lvc stc) (hs : ldv t pc ln z lv st G = some r) : ∃ v : EV, v.1 = t ∧ (z, cv ν μ v) ∈ lvc ∧ r.1 = pc + ln ∧ Wd X K B L f ν μ r.2.1 r.2.2.1 r.2.2.2 lvc (cv ν μ v :: stc) := by
  unfold ldv at hs
  split at hs
  · rename_i v hv
    split at hs
    · rename_i ht
      cases hs
      exact ⟨v, by simpa using ht, h.loc hv, rfl, h.push v⟩
    · cases hs
  · cases hs
theorem ldr_ok {z : Nat} (h : Wd X K B L f ν μ lv st G lvc stc) (hs : ldr pc ln z lv st G = some r) : ∃ v : EV, (v.1 = 2 ∨ v.1 = 3) ∧ (z, cv ν μ v) ∈ lvc ∧ r.1 = pc + ln ∧ Wd X K B L f ν μ r.2.1 r.2.2.1 r.2.2.2 lvc (cv ν μ v :: stc) := by
  unfold ldr at hs
  split at hs
  · rename_i v hv
    split at hs
    · rename_i ht
      cases hs
      exact ⟨v, by simpa using ht, h.loc hv, rfl, h.push v⟩
    · cases hs
  · cases hs
theorem cv0 {v : EV} (h : v.1 = 0) : cv ν μ v = .int (Int32.ofInt (xv ν v.2.2)) := by
  obtain ⟨t, a, e⟩ := v
  cases h
  rfl
theorem cv1 {v : EV} (h : v.1 = 1) : cv ν μ v = .long (Int64.ofInt (xv ν v.2.2)) := by
  obtain ⟨t, a, e⟩ := v
  cases h
  rfl
theorem cv2 {v : EV} (h : v.1 = 2) : cv ν μ v = .ref (μ v.2.1) := by
  obtain ⟨t, a, e⟩ := v
  cases h
  rfl
theorem cv3 {v : EV} (h : v.1 = 3) : cv ν μ v = .null := by
  obtain ⟨t, a, e⟩ := v
  cases h
  rfl
theorem sL_ok (hE : zOk E X0 own cc nL R0) (hd : decode cc pc = .ok (i, ln)) (h : Wd X K B L f ν μ lv st G lvc stc) (hs : sL i ln pc lv st G = some r) : Fwd E k n X K B L f pc lvc stc r := by
  unfold sL at hs
  split at hs
  · split at hs
    · rename_i z hc
      simp only [beq_iff_eq] at hc
      subst hc
      obtain ⟨v, hv, hm, hr, hw⟩ := ldv_ok h hs
      refine ⟨ν, μ, _, _, hw, fun kk => ?_⟩
      rw [cv0 hv] at hm kk
      rw [hr] at kk
      exact x_iload_n hE hd rfl hm kk
    · cases hs
  · split at hs
    · rename_i z hc
      simp only [beq_iff_eq] at hc
      subst hc
      obtain ⟨v, hv, hm, hr, hw⟩ := ldv_ok h hs
      refine ⟨ν, μ, _, _, hw, fun kk => ?_⟩
      rw [cv0 hv] at hm kk
      rw [hr] at kk
      exact x_iload hE hd hm kk
    · cases hs
  · split at hs
    · rename_i z hc
      simp only [beq_iff_eq] at hc
      subst hc
      obtain ⟨v, hv, hm, hr, hw⟩ := ldv_ok h hs
      refine ⟨ν, μ, _, _, hw, fun kk => ?_⟩
      rw [cv1 hv] at hm kk
      rw [hr] at kk
      exact x_lload_n hE hd rfl hm kk
    · cases hs
  · split at hs
    · rename_i z hc
      simp only [beq_iff_eq] at hc
      subst hc
      obtain ⟨v, hv, hm, hr, hw⟩ := ldv_ok h hs
      refine ⟨ν, μ, _, _, hw, fun kk => ?_⟩
      rw [cv1 hv] at hm kk
      rw [hr] at kk
      exact x_lload hE hd hm kk
    · cases hs
  · split at hs
    · rename_i z hc
      simp only [beq_iff_eq] at hc
      subst hc
      obtain ⟨v, hv, hm, hr, hw⟩ := ldr_ok h hs
      refine ⟨ν, μ, _, _, hw, fun kk => ?_⟩
      rw [hr] at kk
      rcases hv with hv | hv
      · rw [cv2 hv] at hm kk
        exact x_aload_n hE hd rfl hm kk
      · rw [cv3 hv] at hm kk
        exact x_aload_nN hE hd rfl hm kk
    · cases hs
  · split at hs
    · rename_i z hc
      simp only [beq_iff_eq] at hc
      subst hc
      obtain ⟨v, hv, hm, hr, hw⟩ := ldr_ok h hs
      refine ⟨ν, μ, _, _, hw, fun kk => ?_⟩
      rw [hr] at kk
      rcases hv with hv | hv
      · rw [cv2 hv] at hm kk
        exact x_aload hE hd hm kk
      · rw [cv3 hv] at hm kk
        exact x_aloadN hE hd hm kk
    · cases hs
  · cases hs
theorem blt_lt {a b : Nat} (h : Nat.blt a b = true) : a < b := by
  simp [Nat.blt] at h
  omega
theorem sS_ok (hE : zOk E X0 own cc nL R0) (hd : decode cc pc = .ok (i, ln)) (h : Wd X K B L f ν μ lv st G lvc stc) (hs : sS i ln pc nL lv st G = some r) : Fwd E k n X K B L f pc lvc stc r := by
  unfold sS at hs
  split at hs
  · split at hs
    · rename_i z hc
      simp only [beq_iff_eq] at hc
      subst hc
      unfold stv at hs
      split at hs
      · split at hs
        · rename_i v st' hc
          simp only [Bool.and_eq_true, beq_iff_eq] at hc
          cases hs
          obtain ⟨stc', rfl, hw⟩ := h.pop
          refine ⟨ν, μ, _, _, hw.pL _ v, fun kk => ?_⟩
          rw [cv0 hc.1] at kk ⊢
          exact x_istore_n hE hd rfl (blt_lt hc.2) rfl kk
        · cases hs
      · cases hs
    · cases hs
  · split at hs
    · rename_i z hc
      simp only [beq_iff_eq] at hc
      subst hc
      unfold stv at hs
      split at hs
      · split at hs
        · rename_i v st' hc
          simp only [Bool.and_eq_true, beq_iff_eq] at hc
          cases hs
          obtain ⟨stc', rfl, hw⟩ := h.pop
          refine ⟨ν, μ, _, _, hw.pL _ v, fun kk => ?_⟩
          rw [cv0 hc.1] at kk ⊢
          exact x_istore hE hd (blt_lt hc.2) rfl kk
        · cases hs
      · cases hs
    · cases hs
  · split at hs
    · rename_i z hc
      simp only [beq_iff_eq] at hc
      subst hc
      unfold str at hs
      split at hs
      · split at hs
        · rename_i v st' hc
          simp only [Bool.and_eq_true, Bool.or_eq_true, beq_iff_eq] at hc
          cases hs
          obtain ⟨stc', rfl, hw⟩ := h.pop
          refine ⟨ν, μ, _, _, hw.pL _ v, fun kk => ?_⟩
          rcases hc.1 with hv | hv
          · rw [cv2 hv] at kk ⊢
            exact x_astore_n hE hd rfl (blt_lt hc.2) rfl kk
          · rw [cv3 hv] at kk ⊢
            exact x_astore_nN hE hd rfl (blt_lt hc.2) rfl kk
        · cases hs
      · cases hs
    · cases hs
  · split at hs
    · rename_i z hc
      simp only [beq_iff_eq] at hc
      subst hc
      unfold str at hs
      split at hs
      · split at hs
        · rename_i v st' hc
          simp only [Bool.and_eq_true, Bool.or_eq_true, beq_iff_eq] at hc
          cases hs
          obtain ⟨stc', rfl, hw⟩ := h.pop
          refine ⟨ν, μ, _, _, hw.pL _ v, fun kk => ?_⟩
          rcases hc.1 with hv | hv
          · rw [cv2 hv] at kk ⊢
            exact x_astore hE hd (blt_lt hc.2) rfl kk
          · rw [cv3 hv] at kk ⊢
            exact x_astoreN hE hd (blt_lt hc.2) rfl kk
        · cases hs
      · cases hs
    · cases hs
  · split at hs
    · split at hs
      · rename_i z v st' hc
        simp only [Bool.and_eq_true, beq_iff_eq] at hc
        obtain ⟨⟨rfl, hv⟩, hb⟩ := hc
        cases hs
        obtain ⟨stc', rfl, hw⟩ := h.pop
        refine ⟨ν, μ, _, _, hw.pLL _ v, fun kk => ?_⟩
        rw [cv1 hv] at kk ⊢
        exact x_lstore hE hd (blt_lt hb) rfl kk
      · cases hs
    · cases hs
  · split at hs
    · rename_i z c _ v hg
      split at hs
      · rename_i hc
        split at hs
        · rename_i q hq
          simp only [Bool.and_eq_true, beq_iff_eq] at hc
          obtain ⟨⟨rfl, hv⟩, hb⟩ := hc
          cases hs
          obtain ⟨G', e'⟩ := q
          obtain ⟨ν', hw, he⟩ := mk32_ok h hq
          have hm := h.loc hg
          rw [cv0 hv] at hm
          obtain ⟨j, hj⟩ := List.getElem?_of_mem hm
          refine ⟨ν', μ, _, _, hw.pL z (0, 0, e'), fun kk => ?_⟩
          refine x_iinc (v := Int32.ofInt (xv ν' e')) hE hd j hj ?_ (blt_lt hb) rfl kk
          rw [he, xv_k, Int32.ofInt_add]
        · cases hs
      · cases hs
    · cases hs
  · cases hs
end PO
