/-! The law: its own rows, and two calls of one case. -/
theorem lcallC_ok {E : zCx} {X0 : zC0} {own : String} {cc : ByteArray} {nL : Nat} {R0 : Room} {k n : Nat} {K : Nat → Nat} {B : Int} {L : List Nat} {f : Nat → va_E} {ν : Nat → Int} {μ : Nat → Nat} {st : List EV} {G : EG} {lvw : List (Nat × Value)} {stc : List Value} {pc idx : Nat} {X : EC} {mods : List (Nat × Nat)} {d mode ci na dk dn : Nat} {m : MT} {c : CT} {rs : List EP} {i : Instr} (hE : zOk E X0 own cc nL R0) (hR1 : d ≤ R0.frames) (hR2 : 60 * d ≤ R0.locals) (hX1 : X.1 = X0.2.2.1) (hX : X.2.1 = mods) (hM : CM X0 m c) (hlk : lkOk own idx mode ci na m) (hi : i = (if mode = 0 then .invokevirtual idx else .invokestatic idx)) (hd : decode cc pc = .ok (i, 3)) (h : Wd X K B L f ν μ [] st G [] stc) (hs : callC mods d mode ci na c pc [] st G = some (dk, dn, rs)) (hk1 : k + dk ≤ R0.cells) (hn1 : n + dn ≤ R0.slots) (kk : ∀ K' B' L' f', ∀ p ∈ rs, ∀ ν' μ' stc', Wd X K' B' L' f' ν' μ' p.2.1 p.2.2.1 p.2.2.2 [] stc' → eW E (k + dk) (n + dn) L' f' (pc + 3) lvw stc') : eW E k n L f pc lvw stc := by
  unfold callC at hs
  split at hs
  · rename_i G1 hG1
    obtain ⟨ν1, h1⟩ := matW_ok _ _ h hG1
    split at hs
    · rename_i q hq
      split at hs
      · rename_i hc
        simp only [Bool.and_eq_true, Nat.ble_eq, List.all_eq_true] at hc
        obtain ⟨⟨⟨⟨⟨hpe, hna⟩, hst4⟩, hmods⟩, hdd⟩, hrec⟩ := hc
        split at hs
        · rename_i rs' hrs
          cases hs
          have hsub : ∀ p ∈ c.2.1, p ∈ X.2.1 := fun p hp => by rw [hX]; exact mIn_ok (hmods p hp)
          -- the arguments as a state of their own
          have hwa : Wd X K B L f ν1 μ [] (st.take na).reverse G1 [] ((st.take na).reverse.map (cv ν1 μ)) := ⟨h1.1, h1.2.1, h1.2.2.1, h1.2.2.2.1, rfl, rfl⟩
          obtain ⟨a1, -, a3⟩ := mOk_ok hwa (mT_ok hq)
          have hstc : stc = ((st.take na).reverse.map (cv ν1 μ)).reverse ++ (st.drop na).map (cv ν1 μ) := by
            rw [h1.2.2.2.2.2, ← List.map_reverse, List.reverse_reverse, ← List.map_append, List.take_append_drop]
          have hw' : Wd X K B L f ν1 μ [] (st.drop na) G1 [] ((st.drop na).map (cv ν1 μ)) := ⟨h1.1, h1.2.1, h1.2.2.1, h1.2.2.2.1, h1.2.2.2.2.1, rfl⟩
          have hm := hM K B L f (nuw 0 q.1 ν1) (mur 0 q.2 μ) (by rw [← hX1]; exact h1.1) a1
          rw [← a3] at hm
          have hcat : (((st.drop na).map (cv ν1 μ)).map fun v => v.category).sum ≤ 8 := by
            have := cat_sum ν1 μ (st.drop na)
            omega
          have hlen : ((st.take na).reverse.map (cv ν1 μ)).length = na := by
            rw [List.length_map, List.length_reverse, List.length_take]
            omega
          have hR : (zrm c.2.2.2.1 c.2.2.2.2.1 c.2.2.2.2.2.1).frames + 1 ≤ R0.frames ∧ 8 + (m.2.2.1 + 11) + (zrm c.2.2.2.1 c.2.2.2.2.1 c.2.2.2.2.2.1).locals ≤ R0.locals := by
            have := hlk.1.2.2.2.2
            refine ⟨Nat.le_trans hdd hR1, ?_⟩
            show 8 + (m.2.2.1 + 11) + 60 * c.2.2.2.1 ≤ R0.locals
            omega
          -- what comes behind
          have hkk : ∀ (aa : Array Value), eRun E k n (zrm c.2.2.2.1 c.2.2.2.2.1 c.2.2.2.2.2.1).cells (zrm c.2.2.2.1 c.2.2.2.2.1 c.2.2.2.2.2.1).slots L f pc lvw stc ((st.drop na).map (cv ν1 μ)) (fun sz => eQ c.2.2.2.2.2.2 X0.2.1 (zA L sz) (cpost X0.2.2.1 c K B L f (nuw 0 q.1 ν1) (mur 0 q.2 μ)) aa) → eW E k n L f pc lvw stc := fun aa hrun => by
            refine c_all hE hrun (fun r L' f' htag hpost => ?_)
            obtain ⟨C, hC, K', B', νc, μc, p1, p2, p3, p4, p5, p6⟩ := hpost
            obtain ⟨ra, hra, hin⟩ := impL_ok _ hrs C hC
            have hwn : wsok q.1 ν1 νc := fun j e hj => by
              have hjl := (List.getElem?_eq_some_iff.mp hj).1
              have hm9 := mT_ok hq
              unfold mOk at hm9
              simp only [Bool.and_eq_true, beq_iff_eq] at hm9
              have hl9 := hm9.1.1.1.1.1.1.1.1.1
              rw [p4 j (by rw [hl9]; omega)]
              unfold nuw
              rw [if_neg (by omega), Nat.sub_zero, List.getD_eq_getElem?_getD, hj]
              rfl
            have hmr : ∀ j, j < c.1.2.2.1.2.2.2.1.length → μc j = μ (q.2.getD j 0) := fun j hj => by
              rw [p5 j hj]
              unfold mur idR
              rw [if_neg (by simp), Nat.sub_zero]
            obtain ⟨p, hp, hpc, ν2, μ2, hw2⟩ := imp_ok hw' (by rw [hX1]; exact p1) p2 hsub p3 hwn hmr hra
            have hgo := kk K' B' L' f' p (hin p hp) ν2 μ2 _ hw2
            rw [p6] at hgo
            cases r with
            | none => exact hgo
            | some v => exact hgo
          obtain ⟨⟨l1, l2, l3, l4, l5⟩, l6⟩ := hlk
          match mode, hi, hrec, l6 with
          | 0, hi, hrec, l6 =>
            obtain ⟨v1, v2, ⟨C, T, N, v3, v4⟩, v5⟩ := l6
            have hi' : i = .invokevirtual idx := by rw [hi]; rfl
            rw [hi'] at hd
            cases hav : (st.take na).reverse with
            | nil =>
              rw [hav] at hrec
              cases hrec
            | cons v0 av0 =>
              rw [hav] at hrec hm hlen hstc
              have hrec' : ((v0.1 == 2) && (match G1.2.2.2.1[v0.2.1]? with
                | some k => (zkd k).1 == 1 && (zkd k).2.1 == ci
                | none => false)) = true := hrec
              simp only [Bool.and_eq_true, beq_iff_eq] at hrec'
              obtain ⟨ht2, hrk⟩ := hrec'
              split at hrk
              · rename_i kr hkr
                simp only [Bool.and_eq_true, beq_iff_eq] at hrk
                obtain ⟨b1, b2⟩ := h1.ref hkr
                have hcok := h1.1.1 _ b1
                rw [b2] at hcok
                unfold cok at hcok
                rw [hrk.1] at hcok
                obtain ⟨fs, hf, -⟩ := hcok
                rw [hrk.2] at hf
                rw [List.map_cons, cv2 ht2] at hm hlen hstc
                refine hkk _ (r_V hE hm v1 v2 v4 l1 l2 b1 hf v3 ⟨l3, l4, ?_⟩ hR ⟨hk1, hn1⟩ ?_ hcat hd)
                · rw [List.length_cons] at hlen
                  cases hpd : parseMethodDescriptor m.1.desc with
                  | none => rw [hpd] at v5; cases v5
                  | some dd =>
                    rw [hpd] at v5
                    have : dd.parameters.length + 1 = na := Option.some.inj v5
                    show some dd.parameters.length = some _
                    congr 1
                    omega
                · rw [hstc, List.reverse_cons, List.append_assoc]
                  rfl
              · cases hrk
          | 1, hi, hrec, l6 =>
            obtain ⟨v1, v2, v5⟩ := l6
            have hi' : i = .invokestatic idx := by rw [hi]; rfl
            rw [hi'] at hd
            exact hkk _ (r_S hE hm v1 v2 l1 l2 ⟨l3, l4, by rw [v5, hlen]⟩ hR ⟨hk1, hn1⟩ hstc hcat hd)
          | 2, hi, hrec, l6 =>
            obtain ⟨v1, v2, v5⟩ := l6
            have hi' : i = .invokestatic idx := by rw [hi]; rfl
            rw [hi'] at hd
            exact hkk _ (r_SN hE hm v1 v2 l1 l2 ⟨l3, l4, by rw [v5, hlen]⟩ hR ⟨hk1, hn1⟩ hstc hcat hd)
          | mode + 3, hi, hrec, l6 => exact absurd l6 id
        · cases hs
      · cases hs
    · cases hs
  · cases hs

/-- the script -/
def zSc (E : zCx) (b N : Nat) (xs : Nat → Int32) : Prop := match E with
  | (_, _, _, _, s, _, _, _, _, _, _, _, A, _, _) => va_X b N xs s s.heap ∧ b < s.heap.size ∧ ¬ A b
def lvL (b x mm : Nat) (i : Int32) : List (Nat × Value) := [(3, .int i), (2, .ref mm), (1, .ref x), (0, .ref b)]
def bz (x : Int32) : Int32 := if x = 0 then 0 else 1
section ZS
variable {E : zCx} {X0 : zC0} {own : String} {cc : ByteArray} {nL : Nat} {R0 : Room} {k n : Nat} {L : List Nat} {f : Nat → va_E} {pc : Nat} {lv : List (Nat × Value)} {st : List Value} {b N x mm : Nat} {xs : Nat → Int32}
theorem s_ld {i : Int32} {iN : Nat} (hE : zOk E X0 own cc nL R0) (hs : zSc E b N xs) (hi : i.toInt = iN) (hlt : iN < N) (hd : decode cc pc = .ok (.iaload, 1)) (kk : eW E k n L f (pc + 1) lv (.int (xs iN) :: st)) : eW E k n L f pc lv (.int i :: .ref b :: st) := by
  obtain ⟨p, l, e, R, s, m, args, below, meth, c, D, cy, A, Q, ax⟩ := E
  obtain ⟨hx, hb, hml, hown, hts, hK, hA, hX, rfl, rfl⟩ := hE
  intro H locs ls hJ hl
  obtain ⟨hP, hD, hS0⟩ := id hJ
  have hc : i.toNatClampNeg = iN := by
    show i.toInt.toNat = iN
    rw [hi, Int.toNat_natCast]
  refine va_sld hx hb hs.1 hs.2.1 hs.2.2 hS0 (by rw [vp_in_iff, hi]; omega) hd ?_
  rw [hc]
  exact kk H locs ls hJ hl
theorem s_len (hE : zOk E X0 own cc nL R0) (hs : zSc E b N xs) (hd : decode cc pc = .ok (.arraylength, 1)) (kk : eW E k n L f (pc + 1) lv (.int (Int32.ofNat N) :: st)) : eW E k n L f pc lv (.ref b :: st) := by
  obtain ⟨p, l, e, R, s, m, args, below, meth, c, D, cy, A, Q, ax⟩ := E
  obtain ⟨hx, hb, hml, hown, hts, hK, hA, hX, rfl, rfl⟩ := hE
  intro H locs ls hJ hl
  obtain ⟨hP, hD, hS0⟩ := id hJ
  exact va_slen hx hb hs.1 hs.2.1 hs.2.2 hS0 hd (kk H locs ls hJ hl)
theorem i32addN {t k1 : Nat} {i v : Int32} (hi : i.toInt = t) (hv : v.toInt = k1) (ht : t + k1 < 3584) : (i + v).toInt = ((t + k1 : Nat) : Int) := by
  rw [Int32.toInt_add, hi, hv, Int.bmod_eq_of_le (by omega) (by omega)]
  omega
/-- script[i + v] -/
theorem s_arg {t k1 : Nat} {z : Int} {i v : Int32} (hE : zOk E X0 own cc nL R0) (hs : zSc E b N xs) (hi : i.toInt = t) (ht : t + k1 < N) (hN : N ≤ 3584) (hz : Int32.ofInt z = v) (hv : v.toInt = k1) (d1 : decode cc pc = .ok (.aload_n 0, 1)) (d2 : decode cc (pc + 1) = .ok (.iload_n 3, 1)) (d3 : decode cc (pc + 2) = .ok (.iconst z, 1)) (d4 : decode cc (pc + 3) = .ok (.iadd, 1)) (d5 : decode cc (pc + 4) = .ok (.iaload, 1)) (kk : eW E k n L f (pc + 5) (lvL b x mm i) (.int (xs (t + k1)) :: st)) : eW E k n L f pc (lvL b x mm i) st := by
  refine x_aload_n hE (z := 0) (i := 0) (x := b) d1 rfl (by simp [lvL]) ?_
  refine x_iload_n hE (z := 3) (i := 3) (x := i) d2 rfl (by simp [lvL]) ?_
  refine x_iconst hE d3 hz ?_
  refine x_iadd hE d4 ?_
  exact s_ld hE hs (i32addN hi hv (by omega)) ht d5 kk
theorem s_arg6 {t k1 : Nat} {z : Int} {i v : Int32} (hE : zOk E X0 own cc nL R0) (hs : zSc E b N xs) (hi : i.toInt = t) (ht : t + k1 < N) (hN : N ≤ 3584) (hz : (Int8.ofInt z).toInt32 = v) (hv : v.toInt = k1) (d1 : decode cc pc = .ok (.aload_n 0, 1)) (d2 : decode cc (pc + 1) = .ok (.iload_n 3, 1)) (d3 : decode cc (pc + 2) = .ok (.bipush z, 2)) (d4 : decode cc (pc + 4) = .ok (.iadd, 1)) (d5 : decode cc (pc + 5) = .ok (.iaload, 1)) (kk : eW E k n L f (pc + 6) (lvL b x mm i) (.int (xs (t + k1)) :: st)) : eW E k n L f pc (lvL b x mm i) st := by
  refine x_aload_n hE (z := 0) (i := 0) (x := b) d1 rfl (by simp [lvL]) ?_
  refine x_iload_n hE (z := 3) (i := 3) (x := i) d2 rfl (by simp [lvL]) ?_
  refine x_bipush hE d3 hz ?_
  refine x_iadd hE d4 ?_
  exact s_ld hE hs (i32addN hi hv (by omega)) ht d5 kk
/-- x != 0 -/
theorem s_bz {a : Int32} (hE : zOk E X0 own cc nL R0) (d1 : decode cc pc = .ok (.ifCond .eq 7, 3)) (d2 : decode cc (pc + 3) = .ok (.iconst 1, 1)) (d3 : decode cc (pc + 4) = .ok (.goto 4, 3)) (d4 : decode cc (pc + 7) = .ok (.iconst 0, 1)) (kk : eW E k n L f (pc + 8) lv (.int (bz a) :: st)) : eW E k n L f pc lv (.int a :: st) := by
  refine x_if_eq hE (tgt := pc + 7) d1 (by omega) (fun h => ?_) (fun h => ?_)
  · refine x_iconst hE (v := 0) d4 rfl ?_
    rw [show bz a = 0 from if_pos h] at kk
    exact kk
  · refine x_iconst hE (v := 1) d2 rfl ?_
    refine x_goto hE (tgt := pc + 8) d3 (by omega) ?_
    rw [show bz a = 1 from if_neg h] at kk
    exact kk
theorem x_pop2L {va : Value} (hE : zOk E X0 own cc nL R0) (hd : decode cc pc = .ok (.pop2, 1)) (h1 : va.category = 2) (kk : eW E k n L f (pc + 1) lv st) : eW E k n L f pc lv (va :: st) := by
  obtain ⟨p, l, e, R, s, m, args, below, meth, c, D, cy, A, Q, ax⟩ := E
  obtain ⟨hx, hb, hml, hown, hts, hK, hA, hX, rfl, rfl⟩ := hE
  intro H locs ls hJ hl
  exact lv_pop2_2 hx hb hd h1 (kk H locs ls hJ hl)
end ZS
theorem fl_int (a : Int32) : (-2147483648 : Int) ≤ a.toInt ∧ a.toInt ≤ 2147483647 := by
  have h3 := Int32.le_toInt a
  have h4 := Int32.toInt_lt a
  exact ⟨h3, by omega⟩
theorem bz_int (a : Int32) : 0 ≤ (bz a).toInt ∧ (bz a).toInt ≤ 1 := by
  unfold bz
  split <;> decide
/-! What holds between two calls of the law: both sides' forecasts and offers are alike. -/
def cel (K : Nat → Nat) (L : List Nat) (f : Nat → va_E) (k i : Nat) (v : Int) : Prop := ∀ b ∈ L, K b = k → cval K (f b) i = some v
/-- forecasts and offers, now and kept, on both sides -/
def lrow (K : Nat → Nat) (L : List Nat) (f : Nat → va_E) (c : Nat) (v h : Nat → Int) (c2 : Nat) (v2 h2 : Nat → Int) (o : Nat) (b p d : Nat → Int) (o2 : Nat) (b2 p2 d2 : Nat → Int) : Prop := (LF K L f 62 c v h ∧ MF K L f 201 c v h) ∧ (LF K L f 102 c2 v2 h2 ∧ MF K L f 202 c2 v2 h2) ∧ (LO K L f 62 o b p d ∧ MO K L f 201 o b p d) ∧ (LO K L f 102 o2 b2 p2 d2 ∧ MO K L f 202 o2 b2 p2 d2)
def lgood (K : Nat → Nat) (L : List Nat) (f : Nat → va_E) : Prop := ∃ (c : Nat) (v h : Nat → Int) (c2 : Nat) (v2 h2 : Nat → Int) (o : Nat) (b p d : Nat → Int) (o2 : Nat) (b2 p2 d2 : Nat → Int), okF c v h ∧ okF c2 v2 h2 ∧ okO o b p d ∧ okO o2 b2 p2 d2 ∧ lrow K L f c v h c2 v2 h2 o b p d o2 b2 p2 d2
def linv (cy : Nat → ClassId) (K : Nat → Nat) (B : Int) (L : List Nat) (f : Nat → va_E) (x mm : Nat) : Prop := hok cy K B L f ∧ (x ∈ L ∧ K x = 197) ∧ (mm ∈ L ∧ K mm = 200) ∧ 0 ≤ B ∧ lgood K L f
def kroL : List (Nat × Nat) := [(66, 0), (67, 0), (201, 19), (68, 0), (69, 0), (70, 0), (201, 20), (106, 0), (107, 0), (202, 19), (108, 0), (109, 0), (110, 0), (202, 20)]
def kro (m : List (Nat × Nat)) : Bool := m.all (fun q => !(kroL.contains q))
theorem kro_ok {m : List (Nat × Nat)} (h : kro m = true) {q : Nat × Nat} (hq : kroL.contains q = true) : q ∉ m := by
  intro hm
  unfold kro at h
  rw [List.all_eq_true] at h
  have := h q hm
  rw [hq] at this
  cases this
/-- rows stay where they aren't written and the counts are as they were -/
theorem lrow_ext {mods : List (Nat × Nat)} {K K' : Nat → Nat} {B B' : Int} {L L' : List Nat} {f f' : Nat → va_E} {c : Nat} {v h : Nat → Int} {c2 : Nat} {v2 h2 : Nat → Int} {o : Nat} {b p d : Nat → Int} {o2 : Nat} {b2 p2 d2 : Nat → Int} (hr : lrow K L f c v h c2 v2 h2 o b p d o2 b2 p2 d2) (k1 : c ≤ 12) (k2 : c2 ≤ 12) (k3 : o ≤ 10) (k4 : o2 ≤ 10) (he : extC mods K B L f K' B' L' f') (hk : kro mods = true) (n1 : cg K' L' f' 62 1 c) (n2 : cg K' L' f' 201 11 c) (n3 : cg K' L' f' 102 1 c2) (n4 : cg K' L' f' 202 11 c2) (n5 : cg K' L' f' 62 2 o) (n6 : cg K' L' f' 201 12 o) (n7 : cg K' L' f' 102 2 o2) (n8 : cg K' L' f' 202 12 o2) : lrow K' L' f' c v h c2 v2 h2 o b p d o2 b2 p2 d2 := by
  obtain ⟨⟨a1, a2⟩, ⟨a3, a4⟩, ⟨a5, a6⟩, ⟨a7, a8⟩⟩ := hr
  have nm : ∀ q, kroL.contains q = true → q ∉ mods := fun q hq => kro_ok hk hq
  refine ⟨⟨⟨n1, fun k hkc => ⟨cg_ext he (by decide) (by rw [reg2 (by decide) (by decide)]; exact nm _ rfl) (a1.2 k hkc).1, cg_ext he (by decide) (by rw [reg3 (by decide)]; exact nm _ rfl) (a1.2 k hkc).2⟩⟩, ⟨n2, fun k hkc => ⟨cg_ext he (by decide) (by rw [regA_F (by omega) (Or.inl rfl)]; exact nm _ rfl) (a2.2 k hkc).1, cg_ext he (by decide) (by rw [regA_F (by omega) (Or.inl rfl)]; exact nm _ rfl) (a2.2 k hkc).2⟩⟩⟩, ⟨⟨n3, fun k hkc => ⟨cg_ext he (by decide) (by rw [reg2 (by decide) (by decide)]; exact nm _ rfl) (a3.2 k hkc).1, cg_ext he (by decide) (by rw [reg3 (by decide)]; exact nm _ rfl) (a3.2 k hkc).2⟩⟩, ⟨n4, fun k hkc => ⟨cg_ext he (by decide) (by rw [regA_F (by omega) (Or.inr rfl)]; exact nm _ rfl) (a4.2 k hkc).1, cg_ext he (by decide) (by rw [regA_F (by omega) (Or.inr rfl)]; exact nm _ rfl) (a4.2 k hkc).2⟩⟩⟩, ⟨⟨n5, fun k hkc => ⟨cg_ext he (by decide) (by rw [reg3 (by decide)]; exact nm _ rfl) (a5.2 k hkc).1, cg_ext he (by decide) (by rw [reg2 (by decide) (by decide)]; exact nm _ rfl) (a5.2 k hkc).2.1, cg_ext he (by decide) (by rw [reg2 (by decide) (by decide)]; exact nm _ rfl) (a5.2 k hkc).2.2⟩⟩, ⟨n6, fun k hkc => ⟨cg_ext he (by decide) (by rw [regA_O (by omega) (Or.inl rfl)]; exact nm _ rfl) (a6.2 k hkc).1, cg_ext he (by decide) (by rw [regA_O (by omega) (Or.inl rfl)]; exact nm _ rfl) (a6.2 k hkc).2.1, cg_ext he (by decide) (by rw [regA_O (by omega) (Or.inl rfl)]; exact nm _ rfl) (a6.2 k hkc).2.2⟩⟩⟩, ⟨⟨n7, fun k hkc => ⟨cg_ext he (by decide) (by rw [reg3 (by decide)]; exact nm _ rfl) (a7.2 k hkc).1, cg_ext he (by decide) (by rw [reg2 (by decide) (by decide)]; exact nm _ rfl) (a7.2 k hkc).2.1, cg_ext he (by decide) (by rw [reg2 (by decide) (by decide)]; exact nm _ rfl) (a7.2 k hkc).2.2⟩⟩, ⟨n8, fun k hkc => ⟨cg_ext he (by decide) (by rw [regA_O (by omega) (Or.inr rfl)]; exact nm _ rfl) (a8.2 k hkc).1, cg_ext he (by decide) (by rw [regA_O (by omega) (Or.inr rfl)]; exact nm _ rfl) (a8.2 k hkc).2.1, cg_ext he (by decide) (by rw [regA_O (by omega) (Or.inr rfl)]; exact nm _ rfl) (a8.2 k hkc).2.2⟩⟩⟩⟩
theorem cel_cg {K : Nat → Nat} {L : List Nat} {f : Nat → va_E} {k i : Nat} {v : Int} (h : cel K L f k i v) (hi : ∀ b ∈ L, K b = k → cval K (f b) i = some (gi (f b) i)) : cg K L f k i v := fun b hb hk => by
  have h1 := h b hb hk
  rw [hi b hb hk] at h1
  exact Option.some.inj h1
theorem cg_cel {K : Nat → Nat} {L : List Nat} {f : Nat → va_E} {k i : Nat} {v : Int} (h : cg K L f k i v) (hi : ∀ b ∈ L, K b = k → cval K (f b) i = some (gi (f b) i)) : cel K L f k i v := fun b hb hk => by
  rw [hi b hb hk, h b hb hk]
theorem ci_A {cy : Nat → ClassId} {K : Nat → Nat} {B : Int} {L : List Nat} {f : Nat → va_E} (hh : hok cy K B L f) {k i : Nat} (hz : (zkd k).1 = 2) : ∀ b ∈ L, K b = k → cval K (f b) i = some (gi (f b) i) := by
  intro b hb hk
  have h := hh.1 b hb
  rw [hk] at h
  unfold cok at h
  rw [hz] at h
  obtain ⟨g, e, -⟩ := h
  rw [e]
  rfl
theorem ci_O {cy : Nat → ClassId} {K : Nat → Nat} {B : Int} {L : List Nat} {f : Nat → va_E} (hh : hok cy K B L f) {k j : Nat} {lo hi : Int} (hz : (zkd k).1 = 1) (hd : (zkd k).2.2[j]? = some (0, lo, hi)) : ∀ b ∈ L, K b = k → cval K (f b) j = some (gi (f b) j) := fun b hb hk => (gi_fld hh hb hk hz hd).1
abbrev fB : Int × Int := (-2147483648, 2147483647)
abbrev tB : Int × Int := (0, 1)
def bsv : List (Int × Int) → List Int32 → Prop
  | [], [] => True
  | b :: bs, v :: vs => (b.1 ≤ v.toInt ∧ v.toInt ≤ b.2) ∧ bsv bs vs
  | _, _ => False
def gA (bs : List (Int × Int)) : EG := ((0, 2000900000) :: (0, 12) :: (0, 12) :: (0, 10) :: (0, 10) :: bs, [], [], [197, 200], [((0, (0, [])), (0, [(1, 0)])), ((62, (1, [])), (0, [(1, 1)])), ((201, (11, [])), (0, [(1, 1)])), ((102, (1, [])), (0, [(1, 2)])), ((202, (11, [])), (0, [(1, 2)])), ((62, (2, [])), (0, [(1, 3)])), ((201, (12, [])), (0, [(1, 3)])), ((102, (2, [])), (0, [(1, 4)])), ((202, (12, [])), (0, [(1, 4)]))], [], [])
/-- the arguments' values, the last on top; the object below -/
def aI : Nat → Nat → List EV
  | _, 0 => []
  | j, n + 1 => (0, 0, (0, [(1, j)])) :: aI (j + 1) n
def aS (r n : Nat) : List EV := (aI 5 n).reverse ++ [(2, r, (0, []))]
def TB : TP := ([], [], ([(0, 2000900000), (0, 12), (0, 12), (0, 10), (0, 10), (0, 2001092000)], [(192000, [(1, 0), (-1, 5)])], [], [197, 200], [((0, (0, [])), (0, [(1, 5)])), ((62, (1, [])), (0, [(1, 1)])), ((201, (11, [])), (0, [(1, 1)])), ((102, (1, [])), (0, [(1, 2)])), ((202, (11, [])), (0, [(1, 2)])), ((62, (2, [])), (0, [(1, 3)])), ((201, (12, [])), (0, [(1, 3)])), ((102, (2, [])), (0, [(1, 4)])), ((202, (12, [])), (0, [(1, 4)]))], [], []), [(2, 0, (0, []))], [])
def oneV (t : Nat) (st : List EV) : Bool := match st with
  | [u] => u.1 == t
  | _ => false
def lmd (c1 c2 : CT) : List (Nat × Nat) := (0, 0) :: (c1.2.1 ++ c2.2.1)
def sndCk (md : List (Nat × Nat)) (t n : Nat) (c2 : CT) (pc2 : Nat) (G : EG) : Bool := match callC md 1400 0 12 (n + 1) c2 pc2 [] (aS 1 n) G with
  | some (dk, dn, rs) => Nat.beq dk 0 && Nat.beq dn 0 && rs.all (fun p => oneV t p.2.2.1 && (mT 5 2 TB [] [] p.2.2.2).isSome)
  | none => false
def lawCk (t : Nat) (bs : List (Int × Int)) (c1 c2 : CT) (pc1 pc2 : Nat) : Bool := match callC (lmd c1 c2) 1400 0 11 (bs.length + 1) c1 pc1 [] (aS 0 bs.length) (gA bs) with
  | some (dk, dn, rs) => kro (lmd c1 c2) && Nat.ble dk 11 && Nat.ble dn 1329 && rs.all (fun p => oneV t p.2.2.1 && sndCk (lmd c1 c2) t bs.length c2 pc2 p.2.2.2)
  | none => false
def νL (B c d o p : Int) (vs : List Int32) : Nat → Int := fun i => match i with
  | 0 => B
  | 1 => c
  | 2 => d
  | 3 => o
  | 4 => p
  | j + 5 => (vs.getD j 0).toInt
def μL (x mm : Nat) : Nat → Nat := fun i => if i = 0 then x else mm
theorem bsv_len : ∀ (bs : List (Int × Int)) (vs : List Int32), bsv bs vs → vs.length = bs.length := by
  intro bs
  induction bs with
  | nil =>
    intro vs h
    cases vs with
    | nil => rfl
    | cons v vs => exact h.elim
  | cons b bs ih =>
    intro vs h
    cases vs with
    | nil => exact h.elim
    | cons v vs => simp [ih vs h.2]
theorem bsv_bd : ∀ (bs : List (Int × Int)) (vs : List Int32), bsv bs vs → ∀ j, (ebd (bs) j).1 ≤ (vs.getD j 0).toInt ∧ (vs.getD j 0).toInt ≤ (ebd (bs) j).2 := by
  intro bs
  induction bs with
  | nil =>
    intro vs h j
    cases vs with
    | nil => exact ⟨(by decide : (-9223372036854775808 : Int) ≤ 0), (by decide : (0 : Int) ≤ 9223372036854775807)⟩
    | cons v vs => exact h.elim
  | cons b bs ih =>
    intro vs h j
    cases vs with
    | nil => exact h.elim
    | cons v vs =>
      cases j with
      | zero => exact h.1
      | succ j => exact ih vs h.2 j
theorem mok_cel {K : Nat → Nat} {B : Int} {L : List Nat} {f : Nat → va_E} {ν : Nat → Int} {k i j : Nat} {v : Int} (hk : k ≠ 0) (h : cel K L f k i v) (hν : ν j = v) : mok K B L f ν ((k, ((i : Int), [])), (0, [(1, j)])) := by
  unfold mok
  rw [if_neg hk]
  intro b hb hkb
  have e1 : xv ν ((i : Int), []) = i := xv_c _
  have e2 : xv ν (0, [(1, j)]) = v := (xv_i j).trans hν
  show 0 ≤ xv ν ((i : Int), []) ∧ cval K (f b) (xv ν ((i : Int), [])).toNat = some (xv ν (0, [(1, j)]))
  rw [e1, e2, Int.toNat_natCast]
  exact ⟨by omega, h b hb hkb⟩
theorem cel_mok {K : Nat → Nat} {B : Int} {L : List Nat} {f : Nat → va_E} {ν : Nat → Int} {k i j : Nat} (hk : k ≠ 0) (h : mok K B L f ν ((k, ((i : Int), [])), (0, [(1, j)]))) : cel K L f k i (ν j) := by
  unfold mok at h
  rw [if_neg hk] at h
  intro b hb hkb
  have h2 := (h b hb hkb).2
  have e1 : xv ν ((i : Int), []) = i := xv_c _
  have e2 : xv ν (0, [(1, j)]) = ν j := xv_i j
  have h3 : cval K (f b) (xv ν ((i : Int), [])).toNat = some (xv ν (0, [(1, j)])) := h2
  rw [e1, e2, Int.toNat_natCast] at h3
  exact h3
section LW
variable {E : zCx} {X0 : zC0} {own : String} {cc : ByteArray} {nL : Nat} {R0 : Room} {k n : Nat} {K : Nat → Nat} {B : Int} {L : List Nat} {f : Nat → va_E} {lvw : List (Nat × Value)} {x mm pc idx : Nat} {cy : Nat → ClassId} {bs : List (Int × Int)} {vs : List Int32}
theorem Wd_start {md : List (Nat × Nat)} {c c2 o o2 : Nat} {v h v2 h2 b p d b2 p2 d2 : Nat → Int} (hh : hok cy K B L f) (hx : x ∈ L ∧ K x = 197) (hm : mm ∈ L ∧ K mm = 200) (h0 : 0 ≤ B) (k1 : c ≤ 12) (k2 : c2 ≤ 12) (k3 : o ≤ 10) (k4 : o2 ≤ 10) (hr : lrow K L f c v h c2 v2 h2 o b p d o2 b2 p2 d2) (hB : B ≤ 2000900000) (hv : bsv bs vs) (hmd : (0, 0) ∈ md) : Wd (cy, md, L, f, K, 5 + bs.length, νL B c c2 o o2 vs, 2, μL x mm) K B L f (νL B c c2 o o2 vs) (μL x mm) [] [] (gA bs) [] [] := by
  obtain ⟨⟨a1, a2⟩, ⟨a3, a4⟩, ⟨a5, a6⟩, ⟨a7, a8⟩⟩ := hr
  refine ⟨hh, ⟨fun b hb => ⟨hb, rfl, fun _ _ => rfl⟩, fun hn => absurd hmd hn, fun b hb hb0 => absurd hb hb0⟩, ⟨?_, Nat.le_refl _, fun _ _ => rfl, fun _ _ => rfl⟩, ⟨?_, fun s hs => (by cases hs), fun s hs => (by cases hs), ?_, ?_, fun q hq => (by cases hq), fun q hq => (by cases hq)⟩, rfl, rfl⟩
  · simp [gA]
    omega
  · intro i
    match i with
    | 0 => exact ⟨h0, hB⟩
    | 1 => exact ⟨Int.natCast_nonneg _, (by show (c : Int) ≤ 12; omega)⟩
    | 2 => exact ⟨Int.natCast_nonneg _, (by show (c2 : Int) ≤ 12; omega)⟩
    | 3 => exact ⟨Int.natCast_nonneg _, (by show (o : Int) ≤ 10; omega)⟩
    | 4 => exact ⟨Int.natCast_nonneg _, (by show (o2 : Int) ≤ 10; omega)⟩
    | j + 5 => exact bsv_bd bs vs hv j
  · intro i kk hi
    match i, hi with
    | 0, hi => cases hi; exact hx
    | 1, hi => cases hi; exact hm
    | i + 2, hi => simp [gA] at hi
  · intro q hq
    simp only [gA, List.mem_cons, List.not_mem_nil, or_false] at hq
    rcases hq with rfl | rfl | rfl | rfl | rfl | rfl | rfl | rfl | rfl
    · show B = xv (νL B c c2 o o2 vs) (0, [(1, 0)])
      have e : xv (νL B c c2 o o2 vs) (0, [(1, 0)]) = νL B c c2 o o2 vs 0 := xv_i 0
      rw [e]
      rfl
    · exact mok_cel (i := 1) (by decide) (cg_cel a1.1 (ci_O hh rfl rfl)) rfl
    · exact mok_cel (i := 11) (by decide) (cg_cel a2.1 (ci_A hh rfl)) rfl
    · exact mok_cel (i := 1) (by decide) (cg_cel a3.1 (ci_O hh rfl rfl)) rfl
    · exact mok_cel (i := 11) (by decide) (cg_cel a4.1 (ci_A hh rfl)) rfl
    · exact mok_cel (i := 2) (by decide) (cg_cel a5.1 (ci_O hh rfl rfl)) rfl
    · exact mok_cel (i := 12) (by decide) (cg_cel a6.1 (ci_A hh rfl)) rfl
    · exact mok_cel (i := 2) (by decide) (cg_cel a7.1 (ci_O hh rfl rfl)) rfl
    · exact mok_cel (i := 12) (by decide) (cg_cel a8.1 (ci_A hh rfl)) rfl
theorem aI_map (ν : Nat → Int) (μ : Nat → Nat) : ∀ (vs : List Int32) (j : Nat), (∀ i, i < vs.length → ν (j + i) = (vs.getD i 0).toInt) → (aI j vs.length).map (cv ν μ) = vs.map Value.int := by
  intro vs
  induction vs with
  | nil => intro j _; rfl
  | cons v vs ih =>
    intro j h
    have h0 := h 0 (by simp)
    have e0 : ν j = v.toInt := h0
    show cv ν μ (0, 0, (0, [(1, j)])) :: (aI (j + 1) vs.length).map (cv ν μ) = _
    rw [ih (j + 1) (fun i hi => by
      have := h (i + 1) (by simp; omega)
      rw [show j + 1 + i = j + (i + 1) by omega]
      exact this), List.map_cons]
    congr 1
    show Value.int (Int32.ofInt (xv ν (0, [(1, j)]))) = Value.int v
    rw [show xv ν (0, [(1, j)]) = ν j from xv_i j, e0, Int32.ofInt_toInt]
theorem aS_push {K0 : Nat → Nat} {B0 c d o p : Int} {md : List (Nat × Nat)} {L0 : List Nat} {f0 : Nat → va_E} {ν : Nat → Int} {μ : Nat → Nat} {st : List EV} {stc : List Value} {G : EG} {r : Nat} (hr : r < 2) (hl : vs.length = bs.length) (h : Wd (cy, md, L0, f0, K0, 5 + bs.length, νL B0 c d o p vs, 2, μL x mm) K B L f ν μ [] st G [] stc) : Wd (cy, md, L0, f0, K0, 5 + bs.length, νL B0 c d o p vs, 2, μL x mm) K B L f ν μ [] (aS r bs.length ++ st) G [] ((vs.map Value.int).reverse ++ .ref (μL x mm r) :: stc) := by
  obtain ⟨a1, a2, a3, a4, a5, a6⟩ := h
  refine ⟨a1, a2, a3, a4, a5, ?_⟩
  have e1 := aI_map ν μ vs 5 (fun i hi => by
    have := a3.2.2.1 (5 + i) (by omega)
    rw [this, Nat.add_comm]
    rfl)
  have e2 : μ r = μL x mm r := a3.2.2.2 r hr
  rw [aS, List.map_append, List.map_append, List.map_reverse, ← hl, e1, a6, List.append_assoc]
  congr 1
  show _ = Value.ref (μ r) :: st.map (cv ν μ)
  rw [e2]
/-- what a case leaves is again what holds between two calls -/
theorem TB_ok {K0 : Nat → Nat} {B0 : Int} {md : List (Nat × Nat)} {L0 : List Nat} {f0 : Nat → va_E} {ν : Nat → Int} {μ : Nat → Nat} {st : List EV} {stc : List Value} {G : EG} {c c2 o o2 : Nat} {v h v2 h2 b p d b2 p2 d2 : Nat → Int} (hw : Wd (cy, md, L0, f0, K0, 5 + bs.length, νL B0 c c2 o o2 vs, 2, μL x mm) K B L f ν μ [] st G [] stc) (hm : (mT 5 2 TB [] [] G).isSome = true) (k1 : okF c v h) (k2 : okF c2 v2 h2) (k3 : okO o b p d) (k4 : okO o2 b2 p2 d2) (hr : lrow K0 L0 f0 c v h c2 v2 h2 o b p d o2 b2 p2 d2) (hk : kro md = true) (hmd : (0, 0) ∈ md) : linv cy K B L f x mm ∧ B ≤ B0 + 192000 := by
  obtain ⟨q, hq⟩ := Option.isSome_iff_exists.mp hm
  have h' : Wd (cy, md, L0, f0, K0, 5 + bs.length, νL B0 c c2 o o2 vs, 2, μL x mm) K B L f ν μ [] [] G [] [] := ⟨hw.1, hw.2.1, hw.2.2.1, hw.2.2.2.1, rfl, rfl⟩
  obtain ⟨⟨g1, g2, g3, g4, g5, g6, g7⟩, -, -⟩ := mOk_ok h' (mT_ok hq)
  have hμ0 : μ 0 = x := hw.2.2.1.2.2.2 0 (by omega)
  have hμ1 : μ 1 = mm := hw.2.2.1.2.2.2 1 (by omega)
  generalize hn : nuw 5 q.1 ν = nu at g1 g2 g3 g5 g7
  have n0 : nu 0 = B0 := by rw [← hn]; exact hw.2.2.1.2.2.1 0 (by omega)
  have n1 : nu 1 = c := by rw [← hn]; exact hw.2.2.1.2.2.1 1 (by omega)
  have n2 : nu 2 = c2 := by rw [← hn]; exact hw.2.2.1.2.2.1 2 (by omega)
  have n3 : nu 3 = o := by rw [← hn]; exact hw.2.2.1.2.2.1 3 (by omega)
  have n4 : nu 4 = o2 := by rw [← hn]; exact hw.2.2.1.2.2.1 4 (by omega)
  have m0 : mur 2 q.2 μ 0 = x := by rw [← hμ0]; rfl
  have m1 : mur 2 q.2 μ 1 = mm := by rw [← hμ1]; rfl
  have gx := g4 0 197 rfl
  have gm := g4 1 200 rfl
  rw [m0] at gx
  rw [m1] at gm
  have b1 : 0 ≤ nu 5 ∧ nu 5 ≤ 2001092000 := g1 5
  have hB : B = nu 5 := by
    have h1 : B = xv nu (0, [(1, 5)]) := g5 ((0, (0, [])), (0, [(1, 5)])) (by simp [TB])
    rw [h1]
    exact xv_i 5
  have ht := g2 (192000, [(1, 0), (-1, 5)]) (by simp [TB])
  simp only [xv, xvT] at ht
  have w1 := cel_mok (B := B) (i := 1) (by decide) (g5 ((62, (1, [])), (0, [(1, 1)])) (by simp [TB]))
  have w2 := cel_mok (B := B) (i := 11) (by decide) (g5 ((201, (11, [])), (0, [(1, 1)])) (by simp [TB]))
  have w3 := cel_mok (B := B) (i := 1) (by decide) (g5 ((102, (1, [])), (0, [(1, 2)])) (by simp [TB]))
  have w4 := cel_mok (B := B) (i := 11) (by decide) (g5 ((202, (11, [])), (0, [(1, 2)])) (by simp [TB]))
  have w5 := cel_mok (B := B) (i := 2) (by decide) (g5 ((62, (2, [])), (0, [(1, 3)])) (by simp [TB]))
  have w6 := cel_mok (B := B) (i := 12) (by decide) (g5 ((201, (12, [])), (0, [(1, 3)])) (by simp [TB]))
  have w7 := cel_mok (B := B) (i := 2) (by decide) (g5 ((102, (2, [])), (0, [(1, 4)])) (by simp [TB]))
  have w8 := cel_mok (B := B) (i := 12) (by decide) (g5 ((202, (12, [])), (0, [(1, 4)])) (by simp [TB]))
  rw [n1] at w1 w2
  rw [n2] at w3 w4
  rw [n3] at w5 w6
  rw [n4] at w7 w8
  have he : extC md K0 B0 L0 f0 K B L f := ⟨hw.2.1.1, fun hn => absurd hmd hn, hw.2.1.2.2⟩
  exact ⟨⟨hw.1, gx, gm, by omega, c, v, h, c2, v2, h2, o, b, p, d, o2, b2, p2, d2, k1, k2, k3, k4, lrow_ext hr k1.1 k2.1 k3.1 k4.1 he hk (cel_cg w1 (ci_O hw.1 rfl rfl)) (cel_cg w2 (ci_A hw.1 rfl)) (cel_cg w3 (ci_O hw.1 rfl rfl)) (cel_cg w4 (ci_A hw.1 rfl)) (cel_cg w5 (ci_O hw.1 rfl rfl)) (cel_cg w6 (ci_A hw.1 rfl)) (cel_cg w7 (ci_O hw.1 rfl rfl)) (cel_cg w8 (ci_A hw.1 rfl))⟩, by omega⟩
def tagV (t : Nat) (v : Value) : Prop := match t with
  | 0 => ∃ a, v = .int a
  | _ => ∃ a, v = .long a
theorem oneV_ok {t : Nat} (ht : t < 2) {st : List EV} (h : oneV t st = true) (ν : Nat → Int) (μ : Nat → Nat) : ∃ u v, st = [u] ∧ st.map (cv ν μ) = [v] ∧ tagV t v := by
  unfold oneV at h
  split at h
  · rename_i u
    have e : u.1 = t := by simpa using h
    refine ⟨u, _, rfl, rfl, ?_⟩
    match t, ht, e with
    | 0, _, e => exact ⟨_, cv0 e⟩
    | 1, _, e => exact ⟨_, cv1 e⟩
  · cases h
/-- the second call of a case -/
theorem law_snd {K0 : Nat → Nat} {B0 : Int} {md : List (Nat × Nat)} {L0 : List Nat} {f0 : Nat → va_E} {ν : Nat → Int} {μ : Nat → Nat} {G : EG} {t : Nat} {c2' : CT} {m2 : MT} {c c2 o o2 : Nat} {v h v2 h2 b p d b2 p2 d2 : Nat → Int} (hE : zOk E X0 own cc nL R0) (hR1 : 1400 ≤ R0.frames) (hR2 : 84000 ≤ R0.locals) (hX : cy = X0.2.2.1) (hM : CM X0 m2 c2') (hlk : lkOk own idx 0 12 (bs.length + 1) m2) (hd : decode cc pc = .ok (.invokevirtual idx, 3)) (ht : t < 2) (hl : vs.length = bs.length) (h0 : Wd (cy, md, L0, f0, K0, 5 + bs.length, νL B0 c c2 o o2 vs, 2, μL x mm) K B L f ν μ [] [] G [] []) (hck : sndCk md t bs.length c2' pc G = true) (hk : k ≤ R0.cells) (hn : n ≤ R0.slots) (k1 : okF c v h) (k2 : okF c2 v2 h2) (k3 : okO o b p d) (k4 : okO o2 b2 p2 d2) (hr : lrow K0 L0 f0 c v h c2 v2 h2 o b p d o2 b2 p2 d2) (hkr : kro md = true) (hmd : (0, 0) ∈ md) (kk : ∀ K' B' L' f' v, tagV t v → linv cy K' B' L' f' x mm → B' ≤ B0 + 192000 → eW E k n L' f' (pc + 3) lvw [v]) : eW E k n L f pc lvw ((vs.map Value.int).reverse ++ [.ref mm]) := by
  have hw := aS_push (r := 1) (by decide) hl h0
  unfold sndCk at hck
  split at hck
  · rename_i dk dn rs hc
    simp only [Bool.and_eq_true, List.all_eq_true] at hck
    obtain ⟨⟨h1, h2'⟩, h3⟩ := hck
    have e1 : dk = 0 := Nat.eq_of_beq_eq_true h1
    have e2 : dn = 0 := Nat.eq_of_beq_eq_true h2'
    subst e1
    subst e2
    rw [List.append_nil] at hw
    refine lcallC_ok hE hR1 hR2 hX rfl hM hlk rfl hd hw hc hk hn (fun K' B' L' f' p' hp ν' μ' stc' hw' => ?_)
    obtain ⟨h4, h5⟩ := h3 p' hp
    obtain ⟨u, v, -, e4, e5⟩ := oneV_ok ht h4 ν' μ'
    have e6 : p'.2.1 = [] := by
      have := hw'.2.2.2.2.1
      exact List.map_eq_nil_iff.mp this.symm
    rw [e6] at hw'
    obtain ⟨i1, i2⟩ := TB_ok hw' h5 k1 k2 k3 k4 hr hkr hmd
    rw [hw'.2.2.2.2.2, e4]
    exact kk K' B' L' f' v e5 i1 i2
  · cases hck
/-- the first call of a case -/
theorem law_fst {t pc2 : Nat} {c1 c2 : CT} {m1 : MT} (hE : zOk E X0 own cc nL R0) (hR1 : 1400 ≤ R0.frames) (hR2 : 84000 ≤ R0.locals) (hX : cy = X0.2.2.1) (hM : CM X0 m1 c1) (hlk : lkOk own idx 0 11 (bs.length + 1) m1) (hd : decode cc pc = .ok (.invokevirtual idx, 3)) (ht : t < 2) (hI : linv cy K B L f x mm) (hB : B ≤ 2000900000) (hv : bsv bs vs) (hck : lawCk t bs c1 c2 pc pc2 = true) (hk : k + 11 ≤ R0.cells) (hn : n + 1329 ≤ R0.slots) (kk : ∀ (c : Nat) (v h : Nat → Int) (d : Nat) (v2 h2 : Nat → Int) (o : Nat) (b p r : Nat → Int) (o2 : Nat) (b2 p2 r2 : Nat → Int), okF c v h → okF d v2 h2 → okO o b p r → okO o2 b2 p2 r2 → lrow K L f c v h d v2 h2 o b p r o2 b2 p2 r2 → kro (lmd c1 c2) = true → ∀ K' B' L' f' ν' μ' G v, tagV t v → Wd (cy, lmd c1 c2, L, f, K, 5 + bs.length, νL B c d o o2 vs, 2, μL x mm) K' B' L' f' ν' μ' [] [] G [] [] → sndCk (lmd c1 c2) t bs.length c2 pc2 G = true → eW E (k + 11) (n + 1329) L' f' (pc + 3) lvw [v]) : eW E k n L f pc lvw ((vs.map Value.int).reverse ++ [.ref x]) := by
  have hl := bsv_len bs vs hv
  obtain ⟨hh, hx, hm, h0, c, v, h, d, v2, h2, o, b, p, r, o2, b2, p2, r2, k1, k2, k3, k4, hr⟩ := hI
  have hw := aS_push (r := 0) (by decide) hl (Wd_start (md := lmd c1 c2) hh hx hm h0 k1.1 k2.1 k3.1 k4.1 hr hB hv (List.mem_cons_self ..))
  unfold lawCk at hck
  split at hck
  · rename_i dk dn rs hc
    simp only [Bool.and_eq_true, List.all_eq_true, Nat.ble_eq] at hck
    obtain ⟨⟨⟨hkr, h1⟩, h2'⟩, h3⟩ := hck
    rw [List.append_nil] at hw
    refine lcallC_ok hE hR1 hR2 hX rfl hM hlk rfl hd hw hc (by omega) (by omega) (fun K' B' L' f' p' hp ν' μ' stc' hw' => ?_)
    obtain ⟨h4, h5⟩ := h3 p' hp
    obtain ⟨u, w, -, e4, e5⟩ := oneV_ok ht h4 ν' μ'
    have e6 : p'.2.1 = [] := by
      have := hw'.2.2.2.2.1
      exact List.map_eq_nil_iff.mp this.symm
    rw [e6] at hw'
    have e7 : stc' = [w] := hw'.2.2.2.2.2.trans e4
    rw [e7]
    refine x_widen (k' := k + 11) (n' := n + 1329) (by omega) (by omega) ?_
    exact kk c v h d v2 h2 o b p r o2 b2 p2 r2 k1 k2 k3 k4 hr hkr K' B' L' f' ν' μ' _ w e5 ⟨hw'.1, hw'.2.1, hw'.2.2.1, hw'.2.2.2.1, rfl, rfl⟩ h5
  · cases hck
/-- a call of a method proved exactly -/
theorem l_callV {t d na ci kd a : Nat} {m : MT} {av : List Value} {post : Option Value → eS → Prop} {st stk : List Value} (hE : zOk E X0 own cc nL R0) (hR1 : 1400 ≤ R0.frames) (hR2 : 84000 ≤ R0.locals) (hM : eM X0 t m.1 m.2.1 m.2.2.1 m.2.2.2 (zrm d 0 0) (.ref a :: av) L f post) (hlk : lkOk own idx 0 ci na m) (hh : hok cy K B L f) (ha : a ∈ L) (hka : K a = kd) (hz : (zkd kd).1 = 1) (hci : (zkd kd).2.1 = ci) (hdd : d + 1 ≤ 1400) (hlen : av.length + 1 = na) (hst : stk = av.reverse ++ .ref a :: st) (hcat : (st.map fun v => v.category).sum ≤ 8) (hd : decode cc pc = .ok (.invokevirtual idx, 3)) (hk : k ≤ R0.cells) (hn : n ≤ R0.slots) (kk : ∀ (r : Option Value) (L' : List Nat) (f' : Nat → va_E), eTag t r → post r (L', f') → eW E k n L' f' (pc + 3) lvw (ePush r st)) : eW E k n L f pc lvw stk := by
  obtain ⟨⟨l1, l2, l3, l4, l5⟩, v1, v2, ⟨C, T, N, v3, v4⟩, v5⟩ := hlk
  have hcok := hh.1 a ha
  rw [hka] at hcok
  unfold cok at hcok
  rw [hz] at hcok
  obtain ⟨fs, hf, -⟩ := hcok
  rw [hci] at hf
  refine c_all hE (r_V hE hM v1 v2 v4 l1 l2 ha hf v3 ⟨l3, l4, ?_⟩ ⟨Nat.le_trans hdd hR1, ?_⟩ ⟨hk, hn⟩ hst hcat hd) kk
  · cases hpd : parseMethodDescriptor m.1.desc with
    | none => rw [hpd] at v5; cases v5
    | some q =>
      rw [hpd] at v5
      have : q.parameters.length + 1 = na := Option.some.inj v5
      show some q.parameters.length = some _
      congr 1
      omega
  · show 8 + (m.2.2.1 + 11) + 60 * d ≤ R0.locals
    omega
end LW
theorem extC_2 {m1 m2 : List (Nat × Nat)} {K K1 K2 : Nat → Nat} {B B1 B2 : Int} {L L1 L2 : List Nat} {f f1 f2 : Nat → va_E} (h1 : extC m1 K B L f K1 B1 L1 f1) (h2 : extC m2 K1 B1 L1 f1 K2 B2 L2 f2) : extC (m1 ++ m2) K B L f K2 B2 L2 f2 := extC_tr (extC_mono h1 (fun q hq => List.mem_append_left _ hq)) (extC_mono h2 (fun q hq => List.mem_append_right _ hq))
theorem oI (z : Int32) : Int32.ofInt z.toInt = z := Int32.ofInt_toInt z
theorem bz01 (a : Int32) : (bz a).toInt = 0 ∨ (bz a).toInt = 1 := by
  have := bz_int a
  omega
