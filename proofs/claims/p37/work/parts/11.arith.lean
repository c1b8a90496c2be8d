theorem ior_b {x y : Int32} {u : Int} (hx : 0 ≤ x.toInt) (hy : 0 ≤ y.toInt) (k : Nat) (hk : k < 31) (h1 : x.toInt < 2 ^ k) (h2 : y.toInt < 2 ^ k) : 0 ≤ (x ||| y).toInt ∧ (x ||| y).toInt ≤ 2 ^ k - 1 := by
  have tn : ∀ z : Int32, 0 ≤ z.toInt → z.toInt = z.toBitVec.toNat := fun z hz => by
    show z.toBitVec.toInt = _
    have hz' : 0 ≤ z.toBitVec.toInt := hz
    rw [BitVec.toInt_eq_toNat_cond] at hz' ⊢
    split
    · rfl
    · rename_i h
      rw [if_neg h] at hz'
      have := z.toBitVec.isLt
      omega
  have hp : (2 : Nat) ^ k ≤ 2 ^ 30 := Nat.pow_le_pow_right (by decide) (by omega)
  have e1 := tn x hx
  have e2 := tn y hy
  have l1 : x.toBitVec.toNat < 2 ^ k := by
    have : ((2 ^ k : Nat) : Int) = 2 ^ k := by simp
    omega
  have l2 : y.toBitVec.toNat < 2 ^ k := by
    have : ((2 ^ k : Nat) : Int) = 2 ^ k := by simp
    omega
  have l3 := Nat.or_lt_two_pow l1 l2
  have e3 : (x ||| y).toBitVec.toNat = x.toBitVec.toNat ||| y.toBitVec.toNat := by
    rw [Int32.toBitVec_or, BitVec.toNat_or]
  have e4 : (x ||| y).toInt = (x ||| y).toBitVec.toNat := by
    show (x ||| y).toBitVec.toInt = _
    rw [BitVec.toInt_eq_toNat_cond, if_pos]
    rw [e3]
    omega
  have : ((2 ^ k : Nat) : Int) = 2 ^ k := by simp
  rw [e4, e3]
  omega
theorem p2_b {x y : Int32} {u : Int} (hx : 0 ≤ x.toInt) (hy : 0 ≤ y.toInt) (h1 : x.toInt ≤ u) (h2 : y.toInt ≤ u) : 0 ≤ (x ||| y).toInt ∧ ((x ||| y).toInt ≤ p2 u ∨ 255 < u) := by
  by_cases h255 : 255 < u
  · refine ⟨?_, Or.inr h255⟩
    exact (ior_b (u := u) hx hy 31 |> fun _ => by
      by_cases hb : x.toInt < 2 ^ 30 ∧ y.toInt < 2 ^ 30
      · exact (ior_b (u := u) hx hy 30 (by decide) hb.1 hb.2).1
      · have tn : ∀ z : Int32, 0 ≤ z.toInt ↔ z.toBitVec.msb = false := fun z => by
          show 0 ≤ z.toBitVec.toInt ↔ _
          rw [BitVec.msb_eq_toInt]
          simp
        rw [tn] at hx hy ⊢
        rw [Int32.toBitVec_or, BitVec.msb_or, hx, hy]
        rfl)
  · unfold p2
    split
    · have := ior_b (u := u) hx hy 1 (by decide) (by omega) (by omega); omega
    · split
      · have := ior_b (u := u) hx hy 2 (by decide) (by omega) (by omega); omega
      · split
        · have := ior_b (u := u) hx hy 3 (by decide) (by omega) (by omega); omega
        · split
          · have := ior_b (u := u) hx hy 4 (by decide) (by omega) (by omega); omega
          · split
            · have := ior_b (u := u) hx hy 5 (by decide) (by omega) (by omega); omega
            · split
              · have := ior_b (u := u) hx hy 6 (by decide) (by omega) (by omega); omega
              · split
                · have := ior_b (u := u) hx hy 7 (by decide) (by omega) (by omega); omega
                · have := ior_b (u := u) hx hy 8 (by decide) (by omega) (by omega)
                  rw [if_pos (by omega)]
                  omega
theorem shl_b {z : Int} (h0 : 0 ≤ z) (h30 : z ≤ 30) {u : Int} (hu : z ≤ u) (hu30 : u ≤ 30) : 0 ≤ ((1 : Int32) <<< (Int32.ofInt z &&& 31)).toInt ∧ ((1 : Int32) <<< (Int32.ofInt z &&& 31)).toInt ≤ 2 ^ u.toNat := by
  obtain ⟨m, rfl⟩ : ∃ m : Nat, z = m := ⟨z.toNat, by omega⟩
  have key : ∀ m : Nat, m < 31 → ((1 : Int32) <<< (Int32.ofInt (m : Int) &&& 31)).toInt = 2 ^ m := by decide
  rw [key m (by omega)]
  refine ⟨by exact_mod_cast Nat.zero_le (2 ^ m), ?_⟩
  have : 2 ^ m ≤ 2 ^ u.toNat := Nat.pow_le_pow_right (by decide) (by omega)
  exact_mod_cast this
section AR
variable {E : zCx} {X0 : zC0} {own : String} {cc : ByteArray} {nL : Nat} {R0 : Room} {k n : Nat} {X : EC} {K : Nat → Nat} {B : Int} {L : List Nat} {f : Nat → va_E} {ν : Nat → Int} {μ : Nat → Nat} {lv : EL} {st : List EV} {G : EG} {lvc : List (Nat × Value)} {stc : List Value} {i : Instr} {ln pc : Nat} {r : EP}
theorem nxt_mk (h : Wd X K B L f ν μ lv st G lvc stc) {e : EX} {p : Nat} {st0 : List Value} (hs : nxt p lv st (mk32 lv st G e) 0 = some r) {v : Int32} (hv : Int32.ofInt (xv ν e) = v) (kk : eW E k n L f p lvc (.int v :: stc) → eW E k n L f pc lvc st0) : Fwd E k n X K B L f pc lvc st0 r := by
  unfold nxt at hs
  split at hs
  · rename_i q hq
    obtain ⟨G', e'⟩ := q
    cases hs
    obtain ⟨ν', hw, he⟩ := mk32_ok h hq
    refine ⟨ν', μ, _, _, hw.push (0, 0, e'), fun k2 => kk ?_⟩
    rw [cv0 rfl] at k2
    rw [← hv, ← he]
    exact k2
  · cases hs
theorem nxt_fr (h : Wd X K B L f ν μ lv st G lvc stc) {lo hi : Int} {p : Nat} {st0 : List Value} (hs : nxt p lv st (frV lv st G lo hi) 0 = some r) (v : Int32) (h1 : lo ≤ v.toInt ∧ v.toInt ≤ hi) (kk : eW E k n L f p lvc (.int v :: stc) → eW E k n L f pc lvc st0) : Fwd E k n X K B L f pc lvc st0 r := by
  unfold nxt at hs
  split at hs
  · rename_i q hq
    obtain ⟨G', e'⟩ := q
    cases hs
    obtain ⟨ν', hw, he⟩ := frV_ok h hq v h1.1 h1.2
    refine ⟨ν', μ, _, _, hw.push (0, 0, e'), fun k2 => kk ?_⟩
    rw [cv0 rfl] at k2
    rw [← he]
    exact k2
  · cases hs
theorem nxt_frL (h : Wd X K B L f ν μ lv st G lvc stc) {p : Nat} {st0 : List Value} (hs : nxt p lv st (frV lv st G (-9223372036854775808) 9223372036854775807) 1 = some r) (v : Int64) (kk : eW E k n L f p lvc (.long v :: stc) → eW E k n L f pc lvc st0) : Fwd E k n X K B L f pc lvc st0 r := by
  unfold nxt at hs
  split at hs
  · rename_i q hq
    obtain ⟨G', e'⟩ := q
    cases hs
    obtain ⟨ν', hw, he⟩ := frL_ok h hq v
    refine ⟨ν', μ, _, _, hw.push (1, 0, e'), fun k2 => kk ?_⟩
    rw [cv1 rfl] at k2
    rw [← he]
    exact k2
  · cases hs
theorem ne32 (h : Wd X K B L f ν μ lv st G lvc stc) {y : EX} (h1 : -2147483648 ≤ lb G.1 y) (h2 : ub G.1 y ≤ 2147483647) (h3 : (1 ≤ lb G.1 y ∨ ub G.1 y ≤ -1) ∨ y ∈ G.2.2.1) : ¬ Int32.ofInt (xv ν y) = 0 := by
  intro e
  have hb := h.2.2.2.1
  have l := lb_ok hb.1 y
  have u := ub_ok hb.1 y
  have e2 : (Int32.ofInt (xv ν y)).toInt = 0 := by rw [e]; rfl
  rw [i32i (by omega) (by omega)] at e2
  rcases h3 with (h3 | h3) | h3
  · omega
  · omega
  · exact hb.2.2.1 y h3 e2
theorem ne64 (h : Wd X K B L f ν μ lv st G lvc stc) {y : EX} (h1 : -9223372036854775808 ≤ lb G.1 y) (h2 : ub G.1 y ≤ 9223372036854775807) (h3 : 1 ≤ lb G.1 y ∨ y ∈ G.2.2.1) : ¬ Int64.ofInt (xv ν y) = 0 := by
  intro e
  have hb := h.2.2.2.1
  have l := lb_ok hb.1 y
  have u := ub_ok hb.1 y
  have e2 : (Int64.ofInt (xv ν y)).toInt = 0 := by rw [e]; rfl
  rw [Int64.toInt_ofInt_of_le (by omega) (by omega)] at e2
  rcases h3 with h3 | h3
  · omega
  · exact hb.2.2.1 y h3 e2
theorem xv_cst {x : EX} (h : x.2.isEmpty = true) : xv ν x = x.1 := by
  obtain ⟨c, ts⟩ := x
  cases ts with
  | nil => simp [xv, xvT]
  | cons t ts => cases h
theorem sA_ok (hE : zOk E X0 own cc nL R0) (hd : decode cc pc = .ok (i, ln)) (h : Wd X K B L f ν μ lv st G lvc stc) (hs : sA i ln pc lv st G = some r) : Fwd E k n X K B L f pc lvc stc r := by
  unfold sA at hs
  split at hs
  · rename_i ty ry y tx rx x st'
    split at hs
    · rename_i hc
      simp only [Bool.and_eq_true, beq_iff_eq] at hc
      obtain ⟨⟨rfl, rfl⟩, rfl⟩ := hc
      obtain ⟨s1, rfl, hw1⟩ := h.pop
      obtain ⟨s2, rfl, hw⟩ := hw1.pop
      rw [cv0 rfl, cv0 rfl]
      have hb := hw.2.2.2.1
      have lx := lb_ok hb.1 x
      have ux := ub_ok hb.1 x
      have ly := lb_ok hb.1 y
      have uy := ub_ok hb.1 y
      split at hs
      · exact nxt_mk hw hs (v := Int32.ofInt (xv ν x) + Int32.ofInt (xv ν y)) (by rw [xv_add, Int32.ofInt_add]) (fun kk => x_iadd hE hd kk)
      · exact nxt_mk hw hs (v := Int32.ofInt (xv ν x) - Int32.ofInt (xv ν y)) (by rw [xv_sub, Int32.ofInt_sub]) (fun kk => x_isub hE hd kk)
      · split at hs
        · rename_i hx
          exact nxt_mk hw hs (v := Int32.ofInt (xv ν x) * Int32.ofInt (xv ν y)) (by rw [xv_sc, Int32.ofInt_mul, xv_cst hx]) (fun kk => x_imul hE hd kk)
        · split at hs
          · rename_i hy
            exact nxt_mk hw hs (v := Int32.ofInt (xv ν x) * Int32.ofInt (xv ν y)) (by rw [xv_sc, Int.mul_comm, Int32.ofInt_mul, xv_cst hy]) (fun kk => x_imul hE hd kk)
          · exact nxt_fr hw hs _ (i32r _) (fun kk => x_imul hE hd kk)
      · split at hs
        · rename_i hc
          simp only [Bool.and_eq_true, decide_eq_true_eq] at hc
          refine nxt_fr hw hs (Int32.ofInt (xv ν x) &&& Int32.ofInt (xv ν y)) ?_ (fun kk => x_iand hE hd kk)
          have ey := i32i (z := xv ν y) (by omega) (by omega)
          have h9 := z_and (x := Int32.ofInt (xv ν x)) (m := Int32.ofInt (xv ν y)) (by rw [fa_le, ey]; show (0 : Int) ≤ _; omega)
          rw [fa_le, fa_le, ey] at h9
          have e0 : (0 : Int32).toInt = 0 := rfl
          rw [e0] at h9
          omega
        · exact nxt_fr hw hs _ (i32r _) (fun kk => x_iand hE hd kk)
      · split at hs
        · rename_i hc
          simp only [Bool.and_eq_true, decide_eq_true_eq] at hc
          refine nxt_fr hw hs (Int32.ofInt (xv ν x) ||| Int32.ofInt (xv ν y)) ?_ (fun kk => x_ior hE hd kk)
          have ex := i32i (z := xv ν x) (by omega) (by omega)
          have ey := i32i (z := xv ν y) (by omega) (by omega)
          have h9 := p2_b (x := Int32.ofInt (xv ν x)) (y := Int32.ofInt (xv ν y)) (u := max (ub G.1 x) (ub G.1 y)) (by omega) (by omega) (by omega) (by omega)
          refine ⟨h9.1, ?_⟩
          rcases h9.2 with h9 | h9
          · exact h9
          · omega
        · exact nxt_fr hw hs _ (i32r _) (fun kk => x_ior hE hd kk)
      · split at hs
        · rename_i hc
          simp only [Bool.and_eq_true, decide_eq_true_eq, beq_iff_eq] at hc
          obtain ⟨⟨rfl, h1⟩, h2⟩ := hc
          refine nxt_fr hw hs (Int32.ofInt (xv ν ((1 : Int), [])) <<< (Int32.ofInt (xv ν y) &&& 31)) ?_ (fun kk => x_ishl hE hd kk)
          have e1 : Int32.ofInt (xv ν ((1 : Int), [])) = 1 := rfl
          rw [e1]
          exact shl_b (by omega) (by omega) uy h2
        · exact nxt_fr hw hs _ (i32r _) (fun kk => x_ishl hE hd kk)
      · exact nxt_fr hw hs _ (i32r _) (fun kk => x_ixor hE hd kk)
      · exact nxt_fr hw hs _ (i32r _) (fun kk => x_ishr hE hd kk)
      · exact nxt_fr hw hs _ (i32r _) (fun kk => x_iushr hE hd kk)
      · split at hs
        · rename_i hc
          simp only [Bool.and_eq_true, Bool.or_eq_true, decide_eq_true_eq, List.any_eq_true, beq_iff_eq] at hc
          refine nxt_fr hw hs _ (i32r _) (fun kk => x_idiv hE hd (ne32 hw hc.1.1 hc.1.2 ?_) kk)
          rcases hc.2 with h9 | ⟨s, hs1, rfl⟩
          · exact Or.inl h9
          · exact Or.inr hs1
        · cases hs
      · split at hs
        · rename_i hc
          simp only [Bool.and_eq_true, decide_eq_true_eq] at hc
          have ey := i32i (z := xv ν y) (by omega) (by omega)
          have hne := ne32 hw (by omega) hc.2 (Or.inl (Or.inl hc.1))
          split at hs
          · rename_i hc2
            simp only [Bool.and_eq_true, decide_eq_true_eq] at hc2
            refine nxt_fr hw hs (Int32.ofInt (xv ν x) - Int32.ofInt (xv ν x) / Int32.ofInt (xv ν y) * Int32.ofInt (xv ν y)) ?_ (fun kk => x_irem hE hd hne kk)
            have ex := i32i (z := xv ν x) (by omega) (by omega)
            have h9 := z_remB (x := Int32.ofInt (xv ν x)) (m := Int32.ofInt (xv ν y)) (by rw [fa_lt, ey]; show (0 : Int) < _; omega)
            have h8 := h9.1.2 (by rw [fa_le, ex]; show (0 : Int) ≤ _; omega)
            have h7 := h9.1.1
            rw [fa_lt, ey] at h7
            rw [fa_le] at h8
            have e0 : (0 : Int32).toInt = 0 := rfl
            rw [e0] at h8
            omega
          · exact nxt_fr hw hs _ (i32r _) (fun kk => x_irem hE hd hne kk)
        · split at hs
          · rename_i hc
            simp only [Bool.and_eq_true, decide_eq_true_eq, List.any_eq_true, beq_iff_eq] at hc
            obtain ⟨hc1, s, hs1, rfl⟩ := hc
            exact nxt_fr hw hs _ (i32r _) (fun kk => x_irem hE hd (ne32 hw hc1.1 hc1.2 (Or.inr hs1)) kk)
          · cases hs
      · cases hs
    · cases hs
  · cases hs
theorem sU_ok (hE : zOk E X0 own cc nL R0) (hd : decode cc pc = .ok (i, ln)) (h : Wd X K B L f ν μ lv st G lvc stc) (hs : sU i ln pc lv st G = some r) : Fwd E k n X K B L f pc lvc stc r := by
  unfold sU at hs
  split at hs
  · rename_i tx rx x st'
    obtain ⟨s1, rfl, hw⟩ := h.pop
    split at hs
    · split at hs
      · rename_i hc
        simp only [Bool.and_eq_true, beq_iff_eq] at hc
        obtain ⟨rfl, rfl⟩ := hc
        rw [cv0 rfl]
        exact nxt_mk hw hs (v := -Int32.ofInt (xv ν x)) (by rw [xv_sc, Int.neg_mul, Int.one_mul, Int32.ofInt_neg]) (fun kk => x_ineg hE hd kk)
      · cases hs
    · split at hs
      · rename_i hc
        simp only [Bool.and_eq_true, beq_iff_eq, decide_eq_true_eq] at hc
        obtain ⟨⟨⟨rfl, rfl⟩, h1⟩, h2⟩ := hc
        cases hs
        have hb := hw.2.2.2.1
        have lx := lb_ok hb.1 x
        have ux := ub_ok hb.1 x
        rw [cv0 rfl]
        refine ⟨ν, μ, _, _, hw.push (1, 0, x), fun kk => x_i2l hE hd (v := Int64.ofInt (xv ν x)) ?_ kk⟩
        apply Int64.toInt_inj.mp
        rw [Int32.toInt_toInt64]
        exact (i32i (z := xv ν x) (by omega) (by omega)).trans (Int64.toInt_ofInt_of_le (n := xv ν x) (by omega) (by omega)).symm
      · cases hs
    · split at hs
      · rename_i hc
        simp only [Bool.and_eq_true, beq_iff_eq] at hc
        obtain ⟨rfl, rfl⟩ := hc
        rw [cv1 rfl]
        exact nxt_fr hw hs (Int64.ofInt (xv ν x)).toInt32 (i32r _) (fun kk => x_l2i hE hd kk)
      · cases hs
    · split at hs
      · rename_i hc
        simp only [Bool.and_eq_true, beq_iff_eq] at hc
        obtain ⟨rfl, rfl⟩ := hc
        rw [cv0 rfl]
        exact nxt_fr hw hs _ (i32r _) (fun kk => x_i2c hE hd kk)
      · cases hs
    · split at hs
      · rename_i hc
        simp only [Bool.and_eq_true, beq_iff_eq] at hc
        obtain ⟨rfl, rfl⟩ := hc
        rw [cv1 rfl]
        exact nxt_frL hw hs (-Int64.ofInt (xv ν x)) (fun kk => x_lneg hE hd kk)
      · cases hs
    · cases hs
  · cases hs
theorem sLL_ok (hE : zOk E X0 own cc nL R0) (hd : decode cc pc = .ok (i, ln)) (h : Wd X K B L f ν μ lv st G lvc stc) (hs : sLL i ln pc lv st G = some r) : Fwd E k n X K B L f pc lvc stc r := by
  unfold sLL at hs
  split at hs
  · rename_i ty ry y tx rx x st'
    obtain ⟨s1, rfl, hw1⟩ := h.pop
    obtain ⟨s2, rfl, hw⟩ := hw1.pop
    split at hs
    · rename_i hc
      simp only [Bool.and_eq_true, beq_iff_eq] at hc
      obtain ⟨rfl, rfl⟩ := hc
      split at hs
      · split at hs
        · rename_i hc
          simp only [beq_iff_eq] at hc
          subst hc
          exact nxt_frL hw hs _ (fun kk => x_ladd hE hd kk)
        · cases hs
      · split at hs
        · rename_i hc
          simp only [beq_iff_eq] at hc
          subst hc
          exact nxt_frL hw hs _ (fun kk => x_lsub hE hd kk)
        · cases hs
      · split at hs
        · rename_i hc
          simp only [beq_iff_eq] at hc
          subst hc
          exact nxt_frL hw hs _ (fun kk => x_lmul hE hd kk)
        · cases hs
      · split at hs
        · rename_i hc
          simp only [beq_iff_eq] at hc
          subst hc
          exact nxt_frL hw hs _ (fun kk => x_land hE hd kk)
        · cases hs
      · split at hs
        · rename_i hc
          simp only [beq_iff_eq] at hc
          subst hc
          exact nxt_frL hw hs _ (fun kk => x_lor hE hd kk)
        · cases hs
      · split at hs
        · rename_i hc
          simp only [Bool.and_eq_true, Bool.or_eq_true, decide_eq_true_eq, List.any_eq_true, beq_iff_eq] at hc
          obtain ⟨⟨⟨rfl, h1⟩, h2⟩, h3⟩ := hc
          exact nxt_frL hw hs _ (fun kk => x_ldiv hE hd (ne64 hw h1 h2 (h3.imp id (fun ⟨s, hs1, e⟩ => e ▸ hs1))) kk)
        · cases hs
      · split at hs
        · rename_i hc
          simp only [Bool.and_eq_true, Bool.or_eq_true, decide_eq_true_eq, List.any_eq_true, beq_iff_eq] at hc
          obtain ⟨⟨⟨rfl, h1⟩, h2⟩, h3⟩ := hc
          exact nxt_frL hw hs _ (fun kk => x_lrem hE hd (ne64 hw h1 h2 (h3.imp id (fun ⟨s, hs1, e⟩ => e ▸ hs1))) kk)
        · cases hs
      · split at hs
        · rename_i hc
          simp only [beq_iff_eq] at hc
          subst hc
          exact nxt_frL hw hs _ (fun kk => x_lshl hE hd kk)
        · cases hs
      · split at hs
        · rename_i hc
          simp only [beq_iff_eq] at hc
          subst hc
          exact nxt_frL hw hs _ (fun kk => x_lshr hE hd kk)
        · cases hs
      · cases hs
    · cases hs
  · cases hs
theorem cat1 {v : EV} (h : (!(v.1 == 1)) = true) : (cv ν μ v).category = 1 := by
  obtain ⟨t, a, e⟩ := v
  match t with
  | 0 => rfl
  | 1 => cases h
  | 2 => rfl
  | t + 3 => rfl
theorem sK_ok (hE : zOk E X0 own cc nL R0) (hd : decode cc pc = .ok (i, ln)) (h : Wd X K B L f ν μ lv st G lvc stc) (hs : sK i ln pc lv st G = some r) : Fwd E k n X K B L f pc lvc stc r := by
  unfold sK at hs
  split at hs
  · split at hs
    · rename_i a st' hc
      simp only [Bool.and_eq_true, beq_iff_eq] at hc
      obtain ⟨rfl, h1⟩ := hc
      cases hs
      obtain ⟨s1, rfl, hw⟩ := h.pop
      exact ⟨ν, μ, _, _, (hw.push a).push a, fun kk => x_dup hE hd (cat1 h1) kk⟩
    · cases hs
  · split at hs
    · rename_i a st' hc
      simp only [Bool.and_eq_true, beq_iff_eq] at hc
      obtain ⟨rfl, h1⟩ := hc
      cases hs
      obtain ⟨s1, rfl, hw⟩ := h.pop
      exact ⟨ν, μ, _, _, hw, fun kk => x_pop hE hd (cat1 h1) kk⟩
    · cases hs
  · split at hs
    · rename_i a b st' hc
      simp only [Bool.and_eq_true, beq_iff_eq] at hc
      obtain ⟨⟨rfl, h1⟩, h2⟩ := hc
      cases hs
      obtain ⟨s1, rfl, hw1⟩ := h.pop
      obtain ⟨s2, rfl, hw⟩ := hw1.pop
      exact ⟨ν, μ, _, _, ((hw.push a).push b).push a, fun kk => x_dup_x1 hE hd (cat1 h1) (cat1 h2) kk⟩
    · cases hs
  · split at hs
    · rename_i a b c st' hc
      simp only [Bool.and_eq_true, beq_iff_eq] at hc
      obtain ⟨⟨⟨rfl, h1⟩, h2⟩, h3⟩ := hc
      cases hs
      obtain ⟨s1, rfl, hw1⟩ := h.pop
      obtain ⟨s2, rfl, hw2⟩ := hw1.pop
      obtain ⟨s3, rfl, hw⟩ := hw2.pop
      exact ⟨ν, μ, _, _, (((hw.push a).push c).push b).push a, fun kk => x_dup_x2 hE hd (cat1 h1) (cat1 h2) (cat1 h3) kk⟩
    · cases hs
  · split at hs
    · rename_i a b st' hc
      simp only [Bool.and_eq_true, beq_iff_eq] at hc
      obtain ⟨⟨rfl, h1⟩, h2⟩ := hc
      cases hs
      obtain ⟨s1, rfl, hw1⟩ := h.pop
      obtain ⟨s2, rfl, hw⟩ := hw1.pop
      exact ⟨ν, μ, _, _, (((hw.push b).push a).push b).push a, fun kk => x_dup2 hE hd (cat1 h1) (cat1 h2) kk⟩
    · cases hs
  · split at hs
    · rename_i off _ hc
      simp only [Bool.and_eq_true, beq_iff_eq, decide_eq_true_eq] at hc
      obtain ⟨rfl, h1⟩ := hc
      cases hs
      exact ⟨ν, μ, _, _, h, fun kk => x_goto hE hd (by omega) kk⟩
    · cases hs
  · cases hs
end AR
