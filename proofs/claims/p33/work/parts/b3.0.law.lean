/-! The law: its own rows, and two calls of one case. -/
theorem lcallC_ok {E : zCx} {X0 : zC0} {own : String} {cc : ByteArray} {nL : Nat} {R0 : Room} {k n : Nat} {K : Nat → Nat} {B : Int} {L : List Nat} {f : Nat → va_E} {ν : Nat → Int} {μ : Nat → Nat} {st : List EV} {G : EG} {lvw : List (Nat × Value)} {stc : List Value} {pc idx : Nat} {X : EC} {mods : List (Nat × Nat)} {d mode ci na dk dn : Nat} {m : MT} {c : CT} {rs : List EP} {i : Instr} (hE : zOk E X0 own cc nL R0) (hR1 : d ≤ R0.frames) (hR2 : 60 * d ≤ R0.locals) (hX1 : X.1 = X0.2.2.1) (hX : X.2.1 = mods) (hM : CM X0 m c) (hlk : lkOk own idx mode ci na m) (hi : i = (if mode = 0 then .invokevirtual idx else .invokestatic idx)) (hd : decode cc pc = .ok (i, 3)) (h : Wd X K B L f ν μ [] st G [] stc) (hs : callC mods d mode ci na c pc [] st G = some (dk, dn, rs)) (hk1 : k + dk ≤ R0.cells) (hn1 : n + dn ≤ R0.slots) (kk : ∀ K' B' L' f', ∀ p ∈ rs, ∀ ν' μ' stc', Wd X K' B' L' f' ν' μ' p.2.1 p.2.2.1 p.2.2.2 [] stc' → eW E (k + dk) (n + dn) L' f' (pc + 3) lvw stc') : eW E k n L f pc lvw stc := by
  unfold callC at hs
  split at hs
  · rename_i G1 hG1
    obtain ⟨ν1, h1⟩ := matW_ok _ _ h hG1
    split at hs
    · rename_i q hq
      split at hs
      · rename_i hc
        simp only [Bool.and_eq_true, Nat.ble_eq, List.all_eq_true] at hc
        obtain ⟨⟨⟨⟨⟨hpe, hna⟩, hst4⟩, hmods⟩, hdd⟩, hrec⟩ := hc
        split at hs
        · rename_i rs' hrs
          cases hs
          have hsub : ∀ p ∈ c.2.1, p ∈ X.2.1 := fun p hp => by rw [hX]; exact mIn_ok (hmods p hp)
          -- the arguments as a state of their own
          have hwa : Wd X K B L f ν1 μ [] (st.take na).reverse G1 [] ((st.take na).reverse.map (cv ν1 μ)) := ⟨h1.1, h1.2.1, h1.2.2.1, h1.2.2.2.1, rfl, rfl⟩
          obtain ⟨a1, -, a3⟩ := mOk_ok hwa (mT_ok hq)
          have hstc : stc = ((st.take na).reverse.map (cv ν1 μ)).reverse ++ (st.drop na).map (cv ν1 μ) := by
            rw [h1.2.2.2.2.2, ← List.map_reverse, List.reverse_reverse, ← List.map_append, List.take_append_drop]
          have hw' : Wd X K B L f ν1 μ [] (st.drop na) G1 [] ((st.drop na).map (cv ν1 μ)) := ⟨h1.1, h1.2.1, h1.2.2.1, h1.2.2.2.1, h1.2.2.2.2.1, rfl⟩
          have hm := hM K B L f (nuw 0 q.1 ν1) (mur 0 q.2 μ) (by rw [← hX1]; exact h1.1) a1
          rw [← a3] at hm
          have hcat : (((st.drop na).map (cv ν1 μ)).map fun v => v.category).sum ≤ 8 := by
            have := cat_sum ν1 μ (st.drop na)
            omega
          have hlen : ((st.take na).reverse.map (cv ν1 μ)).length = na := by
            rw [List.length_map, List.length_reverse, List.length_take]
            omega
          have hR : (zrm c.2.2.2.1 c.2.2.2.2.1 c.2.2.2.2.2.1).frames + 1 ≤ R0.frames ∧ 8 + (m.2.2.1 + 11) + (zrm c.2.2.2.1 c.2.2.2.2.1 c.2.2.2.2.2.1).locals ≤ R0.locals := by
            have := hlk.1.2.2.2.2
            refine ⟨Nat.le_trans hdd hR1, ?_⟩
            show 8 + (m.2.2.1 + 11) + 60 * c.2.2.2.1 ≤ R0.locals
            omega
          -- what comes behind
          have hkk : ∀ (aa : Array Value), eRun E k n (zrm c.2.2.2.1 c.2.2.2.2.1 c.2.2.2.2.2.1).cells (zrm c.2.2.2.1 c.2.2.2.2.1 c.2.2.2.2.2.1).slots L f pc lvw stc ((st.drop na).map (cv ν1 μ)) (fun sz => eQ c.2.2.2.2.2.2 X0.2.1 (zA L sz) (cpost X0.2.2.1 c K B L f (nuw 0 q.1 ν1) (mur 0 q.2 μ)) aa) → eW E k n L f pc lvw stc := fun aa hrun => by
            refine c_all hE hrun (fun r L' f' htag hpost => ?_)
            obtain ⟨C, hC, K', B', νc, μc, p1, p2, p3, p4, p5, p6⟩ := hpost
            obtain ⟨ra, hra, hin⟩ := impL_ok _ hrs C hC
            have hwn : wsok q.1 ν1 νc := fun j e hj => by
              have hjl := (List.getElem?_eq_some_iff.mp hj).1
              have hm9 := mT_ok hq
              unfold mOk at hm9
              simp only [Bool.and_eq_true, beq_iff_eq] at hm9
              have hl9 := hm9.1.1.1.1.1.1.1.1.1
              rw [p4 j (by rw [hl9]; omega)]
              unfold nuw
              rw [if_neg (by omega), Nat.sub_zero, List.getD_eq_getElem?_getD, hj]
              rfl
            have hmr : ∀ j, j < c.1.2.2.1.2.2.2.1.length → μc j = μ (q.2.getD j 0) := fun j hj => by
              rw [p5 j hj]
              unfold mur idR
              rw [if_neg (by simp), Nat.sub_zero]
            obtain ⟨p, hp, hpc, ν2, μ2, hw2⟩ := imp_ok hw' (by rw [hX1]; exact p1) p2 hsub p3 hwn hmr hra
            have hgo := kk K' B' L' f' p (hin p hp) ν2 μ2 _ hw2
            rw [p6] at hgo
            cases r with
            | none => exact hgo
            | some v => exact hgo
          obtain ⟨⟨l1, l2, l3, l4, l5⟩, l6⟩ := hlk
          match mode, hi, hrec, l6 with
          | 0, hi, hrec, l6 =>
            obtain ⟨v1, v2, ⟨C, T, N, v3, v4⟩, v5⟩ := l6
            have hi' : i = .invokevirtual idx := by rw [hi]; rfl
            rw [hi'] at hd
            cases hav : (st.take na).reverse with
            | nil =>
              rw [hav] at hrec
              cases hrec
            | cons v0 av0 =>
              rw [hav] at hrec hm hlen hstc
              have hrec' : ((v0.1 == 2) && (match G1.2.2.2.1[v0.2.1]? with
                | some k => (zkd k).1 == 1 && (zkd k).2.1 == ci
                | none => false)) = true := hrec
              simp only [Bool.and_eq_true, beq_iff_eq] at hrec'
              obtain ⟨ht2, hrk⟩ := hrec'
              split at hrk
              · rename_i kr hkr
                simp only [Bool.and_eq_true, beq_iff_eq] at hrk
                obtain ⟨b1, b2⟩ := h1.ref hkr
                have hcok := h1.1.1 _ b1
                rw [b2] at hcok
                unfold cok at hcok
                rw [hrk.1] at hcok
                obtain ⟨fs, hf, -⟩ := hcok
                rw [hrk.2] at hf
                rw [List.map_cons, cv2 ht2] at hm hlen hstc
                refine hkk _ (r_V hE hm v1 v2 v4 l1 l2 b1 hf v3 ⟨l3, l4, ?_⟩ hR ⟨hk1, hn1⟩ ?_ hcat hd)
                · rw [List.length_cons] at hlen
                  cases hpd : parseMethodDescriptor m.1.desc with
                  | none => rw [hpd] at v5; cases v5
                  | some dd =>
                    rw [hpd] at v5
                    have : dd.parameters.length + 1 = na := Option.some.inj v5
                    show some dd.parameters.length = some _
                    congr 1
                    omega
                · rw [hstc, List.reverse_cons, List.append_assoc]
                  rfl
              · cases hrk
          | 1, hi, hrec, l6 =>
            obtain ⟨v1, v2, v5⟩ := l6
            have hi' : i = .invokestatic idx := by rw [hi]; rfl
            rw [hi'] at hd
            exact hkk _ (r_S hE hm v1 v2 l1 l2 ⟨l3, l4, by rw [v5, hlen]⟩ hR ⟨hk1, hn1⟩ hstc hcat hd)
          | 2, hi, hrec, l6 =>
            obtain ⟨v1, v2, v5⟩ := l6
            have hi' : i = .invokestatic idx := by rw [hi]; rfl
            rw [hi'] at hd
            exact hkk _ (r_SN hE hm v1 v2 l1 l2 ⟨l3, l4, by rw [v5, hlen]⟩ hR ⟨hk1, hn1⟩ hstc hcat hd)
          | mode + 3, hi, hrec, l6 => exact absurd l6 id
        · cases hs
      · cases hs
    · cases hs
  · cases hs

/-- the script -/
def zSc (E : zCx) (b N : Nat) (xs : Nat → Int32) : Prop := match E with
  | (_, _, _, _, s, _, _, _, _, _, _, _, A, _, _) => va_X b N xs s s.heap ∧ b < s.heap.size ∧ ¬ A b
def lvL (b x mm : Nat) (i : Int32) : List (Nat × Value) := [(3, .int i), (2, .ref mm), (1, .ref x), (0, .ref b)]
def bz (x : Int32) : Int32 := if x = 0 then 0 else 1
section ZS
variable {E : zCx} {X0 : zC0} {own : String} {cc : ByteArray} {nL : Nat} {R0 : Room} {k n : Nat} {L : List Nat} {f : Nat → va_E} {pc : Nat} {lv : List (Nat × Value)} {st : List Value} {b N x mm : Nat} {xs : Nat → Int32}
theorem s_ld {i : Int32} {iN : Nat} (hE : zOk E X0 own cc nL R0) (hs : zSc E b N xs) (hi : i.toInt = iN) (hlt : iN < N) (hd : decode cc pc = .ok (.iaload, 1)) (kk : eW E k n L f (pc + 1) lv (.int (xs iN) :: st)) : eW E k n L f pc lv (.int i :: .ref b :: st) := by
  obtain ⟨p, l, e, R, s, m, args, below, meth, c, D, cy, A, Q, ax⟩ := E
  obtain ⟨hx, hb, hml, hown, hts, hK, hA, hX, rfl, rfl⟩ := hE
  intro H locs ls hJ hl
  obtain ⟨hP, hD, hS0⟩ := id hJ
  have hc : i.toNatClampNeg = iN := by
    show i.toInt.toNat = iN
    rw [hi, Int.toNat_natCast]
  refine va_sld hx hb hs.1 hs.2.1 hs.2.2 hS0 (by rw [vp_in_iff, hi]; omega) hd ?_
  rw [hc]
  exact kk H locs ls hJ hl
theorem s_len (hE : zOk E X0 own cc nL R0) (hs : zSc E b N xs) (hd : decode cc pc = .ok (.arraylength, 1)) (kk : eW E k n L f (pc + 1) lv (.int (Int32.ofNat N) :: st)) : eW E k n L f pc lv (.ref b :: st) := by
  obtain ⟨p, l, e, R, s, m, args, below, meth, c, D, cy, A, Q, ax⟩ := E
  obtain ⟨hx, hb, hml, hown, hts, hK, hA, hX, rfl, rfl⟩ := hE
  intro H locs ls hJ hl
  obtain ⟨hP, hD, hS0⟩ := id hJ
  exact va_slen hx hb hs.1 hs.2.1 hs.2.2 hS0 hd (kk H locs ls hJ hl)
theorem i32addN {t k1 : Nat} {i v : Int32} (hi : i.toInt = t) (hv : v.toInt = k1) (ht : t + k1 < 3584) : (i + v).toInt = ((t + k1 : Nat) : Int) := by
  rw [Int32.toInt_add, hi, hv, Int.bmod_eq_of_le (by omega) (by omega)]
  omega
/-- script[i + v] -/
theorem s_arg {t k1 : Nat} {z : Int} {i v : Int32} (hE : zOk E X0 own cc nL R0) (hs : zSc E b N xs) (hi : i.toInt = t) (ht : t + k1 < N) (hN : N ≤ 3584) (hz : Int32.ofInt z = v) (hv : v.toInt = k1) (d1 : decode cc pc = .ok (.aload_n 0, 1)) (d2 : decode cc (pc + 1) = .ok (.iload_n 3, 1)) (d3 : decode cc (pc + 2) = .ok (.iconst z, 1)) (d4 : decode cc (pc + 3) = .ok (.iadd, 1)) (d5 : decode cc (pc + 4) = .ok (.iaload, 1)) (kk : eW E k n L f (pc + 5) (lvL b x mm i) (.int (xs (t + k1)) :: st)) : eW E k n L f pc (lvL b x mm i) st := by
  refine x_aload_n hE (z := 0) (i := 0) (x := b) d1 rfl (by simp [lvL]) ?_
  refine x_iload_n hE (z := 3) (i := 3) (x := i) d2 rfl (by simp [lvL]) ?_
  refine x_iconst hE d3 hz ?_
  refine x_iadd hE d4 ?_
  exact s_ld hE hs (i32addN hi hv (by omega)) ht d5 kk
theorem s_arg6 {t k1 : Nat} {z : Int} {i v : Int32} (hE : zOk E X0 own cc nL R0) (hs : zSc E b N xs) (hi : i.toInt = t) (ht : t + k1 < N) (hN : N ≤ 3584) (hz : (Int8.ofInt z).toInt32 = v) (hv : v.toInt = k1) (d1 : decode cc pc = .ok (.aload_n 0, 1)) (d2 : decode cc (pc + 1) = .ok (.iload_n 3, 1)) (d3 : decode cc (pc + 2) = .ok (.bipush z, 2)) (d4 : decode cc (pc + 4) = .ok (.iadd, 1)) (d5 : decode cc (pc + 5) = .ok (.iaload, 1)) (kk : eW E k n L f (pc + 6) (lvL b x mm i) (.int (xs (t + k1)) :: st)) : eW E k n L f pc (lvL b x mm i) st := by
  refine x_aload_n hE (z := 0) (i := 0) (x := b) d1 rfl (by simp [lvL]) ?_
  refine x_iload_n hE (z := 3) (i := 3) (x := i) d2 rfl (by simp [lvL]) ?_
  refine x_bipush hE d3 hz ?_
  refine x_iadd hE d4 ?_
  exact s_ld hE hs (i32addN hi hv (by omega)) ht d5 kk
/-- x != 0 -/
theorem s_bz {a : Int32} (hE : zOk E X0 own cc nL R0) (d1 : decode cc pc = .ok (.ifCond .eq 7, 3)) (d2 : decode cc (pc + 3) = .ok (.iconst 1, 1)) (d3 : decode cc (pc + 4) = .ok (.goto 4, 3)) (d4 : decode cc (pc + 7) = .ok (.iconst 0, 1)) (kk : eW E k n L f (pc + 8) lv (.int (bz a) :: st)) : eW E k n L f pc lv (.int a :: st) := by
  refine x_if_eq hE (tgt := pc + 7) d1 (by omega) (fun h => ?_) (fun h => ?_)
  · refine x_iconst hE (v := 0) d4 rfl ?_
    rw [show bz a = 0 from if_pos h] at kk
    exact kk
  · refine x_iconst hE (v := 1) d2 rfl ?_
    refine x_goto hE (tgt := pc + 8) d3 (by omega) ?_
    rw [show bz a = 1 from if_neg h] at kk
    exact kk
theorem x_pop2L {va : Value} (hE : zOk E X0 own cc nL R0) (hd : decode cc pc = .ok (.pop2, 1)) (h1 : va.category = 2) (kk : eW E k n L f (pc + 1) lv st) : eW E k n L f pc lv (va :: st) := by
  obtain ⟨p, l, e, R, s, m, args, below, meth, c, D, cy, A, Q, ax⟩ := E
  obtain ⟨hx, hb, hml, hown, hts, hK, hA, hX, rfl, rfl⟩ := hE
  intro H locs ls hJ hl
  exact lv_pop2_2 hx hb hd h1 (kk H locs ls hJ hl)
end ZS
theorem fl_int (a : Int32) : (-2147483648 : Int) ≤ a.toInt ∧ a.toInt ≤ 2147483647 := by
  have h3 := Int32.le_toInt a
  have h4 := Int32.toInt_lt a
  exact ⟨h3, by omega⟩
theorem bz_int (a : Int32) : 0 ≤ (bz a).toInt ∧ (bz a).toInt ≤ 1 := by
  unfold bz
  split <;> decide
/-! What holds between two calls of the law: both sides' counts of forecasts are alike. -/
def cel (K : Nat → Nat) (L : List Nat) (f : Nat → va_E) (k i : Nat) (v : Int) : Prop := ∀ b ∈ L, K b = k → cval K (f b) i = some v
def linv (cy : Nat → ClassId) (K : Nat → Nat) (B : Int) (L : List Nat) (f : Nat → va_E) (x mm : Nat) : Prop := hok cy K B L f ∧ (x ∈ L ∧ K x = 197) ∧ (mm ∈ L ∧ K mm = 200) ∧ 0 ≤ B ∧ ∃ c d : Int, (0 ≤ c ∧ c ≤ 12) ∧ (0 ≤ d ∧ d ≤ 12) ∧ cel K L f 62 1 c ∧ cel K L f 201 11 c ∧ cel K L f 102 1 d ∧ cel K L f 202 11 d
def mAll : List (Nat × Nat) := [(0, 0), (1, 6), (1, 7), (1, 8), (1, 9), (1, 10), (1, 11), (1, 12), (2, 0), (3, 0), (4, 0), (5, 0), (6, 0), (7, 0), (8, 0), (9, 0), (10, 6), (10, 7), (10, 8), (10, 9), (10, 10), (10, 11), (10, 12), (11, 0), (12, 0), (13, 0), (14, 0), (15, 0), (16, 0), (17, 0), (18, 0), (20, 0), (20, 5), (20, 8), (21, 0), (22, 0), (23, 0), (24, 0), (25, 0), (26, 0), (27, 0), (28, 0), (29, 0), (30, 0), (31, 0), (32, 0), (40, 5), (40, 6), (41, 0), (41, 1), (42, 0), (43, 0), (44, 0), (45, 0), (46, 0), (47, 0), (48, 0), (49, 0), (50, 6), (50, 7), (50, 8), (50, 9), (50, 10), (50, 11), (50, 12), (51, 0), (52, 0), (53, 0), (54, 0), (55, 0), (56, 0), (57, 0), (58, 0), (59, 0), (59, 1), (61, 0), (62, 0), (62, 1), (62, 2), (63, 0), (64, 0), (65, 0), (66, 0), (67, 0), (68, 0), (69, 0), (70, 0), (71, 0), (80, 5), (80, 6), (81, 0), (81, 1), (82, 0), (83, 0), (84, 0), (85, 0), (86, 0), (87, 0), (88, 0), (89, 0), (90, 6), (90, 7), (90, 8), (90, 9), (90, 10), (90, 11), (90, 12), (91, 0), (92, 0), (93, 0), (94, 0), (95, 0), (96, 0), (97, 0), (98, 0), (99, 0), (99, 1), (101, 0), (102, 0), (102, 1), (102, 2), (103, 0), (104, 0), (105, 0), (106, 0), (107, 0), (108, 0), (109, 0), (110, 0), (111, 0), (120, 0), (120, 1), (121, 0), (122, 0), (123, 0), (124, 0), (125, 0), (125, 1), (125, 3), (125, 4), (125, 5), (125, 6), (126, 0), (126, 3), (126, 7), (126, 8), (126, 9), (127, 0), (128, 0), (129, 0), (130, 0), (131, 0), (132, 0), (133, 0), (134, 0), (135, 0), (136, 0), (137, 0), (140, 6), (140, 7), (140, 8), (140, 9), (140, 10), (140, 11), (140, 12), (141, 0), (142, 0), (143, 0), (144, 0), (145, 0), (146, 0), (147, 0), (148, 0), (149, 6), (149, 7), (149, 8), (149, 9), (149, 10), (149, 11), (149, 12), (150, 0), (151, 0), (152, 0), (153, 0), (154, 0), (155, 0), (156, 0), (157, 0), (158, 6), (158, 7), (158, 8), (158, 9), (158, 10), (158, 11), (158, 12), (159, 0), (160, 0), (161, 0), (162, 0), (163, 0), (164, 0), (165, 0), (166, 0), (167, 6), (167, 7), (167, 8), (167, 9), (167, 10), (167, 11), (167, 12), (168, 0), (169, 0), (170, 0), (171, 0), (172, 0), (173, 0), (174, 0), (175, 0), (176, 6), (176, 7), (176, 8), (176, 9), (176, 10), (176, 11), (176, 12), (177, 0), (178, 0), (179, 0), (180, 0), (181, 0), (182, 0), (183, 0), (184, 0), (185, 6), (185, 7), (185, 8), (185, 9), (185, 10), (185, 11), (185, 12), (186, 0), (187, 0), (188, 0), (189, 0), (190, 0), (191, 0), (192, 0), (193, 0), (195, 0), (196, 0), (200, 4), (200, 5), (200, 6), (200, 7), (200, 8), (200, 9), (200, 10), (200, 11), (200, 12), (200, 13), (200, 14), (200, 17), (200, 18), (200, 19), (200, 20), (200, 21), (200, 23), (200, 24), (200, 30), (200, 31), (200, 35), (200, 36), (200, 37), (200, 38), (200, 40), (201, 0), (201, 1), (201, 2), (201, 3), (201, 4), (201, 5), (201, 6), (201, 7), (201, 8), (201, 9), (201, 10), (201, 11), (201, 12), (201, 13), (201, 14), (201, 15), (201, 16), (201, 17), (201, 18), (201, 19), (201, 20), (201, 21), (201, 22), (201, 23), (202, 0), (202, 1), (202, 2), (202, 3), (202, 4), (202, 5), (202, 6), (202, 7), (202, 8), (202, 9), (202, 10), (202, 11), (202, 12), (202, 13), (202, 14), (202, 15), (202, 16), (202, 17), (202, 18), (202, 19), (202, 20), (202, 21), (202, 22), (202, 23), (203, 0), (204, 0), (205, 0), (206, 0), (207, 0), (208, 0), (209, 0), (210, 0), (211, 0), (212, 0), (213, 0), (214, 0), (215, 0), (216, 0), (217, 0), (217, 1), (217, 2), (217, 3), (217, 4), (217, 5), (217, 6), (217, 7), (217, 8), (217, 9), (217, 10), (217, 11), (217, 12), (217, 13), (217, 14), (217, 15), (217, 16), (217, 17), (217, 18), (217, 19), (217, 20), (217, 21), (217, 22), (217, 23), (219, 0), (220, 0), (221, 0), (222, 0), (223, 0), (224, 0), (225, 0), (226, 0), (227, 0), (228, 0)]
abbrev fB : Int × Int := (-2147483648, 2147483647)
abbrev tB : Int × Int := (0, 1)
def bsv : List (Int × Int) → List Int32 → Prop
  | [], [] => True
  | b :: bs, v :: vs => (b.1 ≤ v.toInt ∧ v.toInt ≤ b.2) ∧ bsv bs vs
  | _, _ => False
def gA (bs : List (Int × Int)) : EG := ((0, 2000900000) :: (0, 12) :: (0, 12) :: bs, [], [], [197, 200], [((0, (0, [])), (0, [(1, 0)])), ((62, (1, [])), (0, [(1, 1)])), ((201, (11, [])), (0, [(1, 1)])), ((102, (1, [])), (0, [(1, 2)])), ((202, (11, [])), (0, [(1, 2)]))], [], [])
/-- the arguments' values, the last on top; the object below -/
def aI : Nat → Nat → List EV
  | _, 0 => []
  | j, n + 1 => (0, 0, (0, [(1, j)])) :: aI (j + 1) n
def aS (r n : Nat) : List EV := (aI 3 n).reverse ++ [(2, r, (0, []))]
def TB : TP := ([], [], ([(0, 2000900000), (0, 2001092000), (0, 12), (0, 12)], [(192000, [(1, 0), (-1, 1)])], [], [197, 200], [((0, (0, [])), (0, [(1, 1)])), ((62, (1, [])), (0, [(1, 2)])), ((201, (11, [])), (0, [(1, 2)])), ((102, (1, [])), (0, [(1, 3)])), ((202, (11, [])), (0, [(1, 3)]))], [], []), [(2, 0, (0, [])), (2, 62, (1, [])), (2, 102, (1, []))], [])
def oneV (t : Nat) (st : List EV) : Bool := match st with
  | [u] => u.1 == t
  | _ => false
def twoV (G : EG) (st : List EV) : Bool := match st with
  | [u, v] => u.1 == 0 && v.1 == 0 && eqv G.1 G.2.1 u.2.2 v.2.2
  | _ => false
def sndCk (t n : Nat) (c2 : CT) (pc2 : Nat) (G : EG) : Bool := match callC mAll 1400 0 12 (n + 1) c2 pc2 [] (aS 1 n) G with
  | some (dk, dn, rs) => Nat.beq dk 0 && Nat.beq dn 0 && rs.all (fun p => oneV t p.2.2.1 && (mT 1 2 TB [] [] p.2.2.2).isSome)
  | none => false
def cmpCk (n : Nat) (c2 : CT) (pc2 : Nat) (st : List EV) (G : EG) : Bool := match callC mAll 1400 0 12 (n + 1) c2 pc2 [] (aS 1 n ++ st) G with
  | some (dk, dn, rs) => Nat.beq dk 0 && Nat.beq dn 0 && rs.all (fun p => twoV p.2.2.2 p.2.2.1 && (mT 1 2 TB [] [] p.2.2.2).isSome)
  | none => false
def lawCk (cmp : Bool) (t : Nat) (bs : List (Int × Int)) (c1 c2 : CT) (pc1 pc2 : Nat) : Bool := match callC mAll 1400 0 11 (bs.length + 1) c1 pc1 [] (aS 0 bs.length) (gA bs) with
  | some (dk, dn, rs) => Nat.ble dk 11 && Nat.ble dn 1329 && rs.all (fun p => oneV t p.2.2.1 && (if cmp then cmpCk bs.length c2 pc2 p.2.2.1 p.2.2.2 else sndCk t bs.length c2 pc2 p.2.2.2))
  | none => false
def νL (B c d : Int) (vs : List Int32) : Nat → Int := fun i => match i with
  | 0 => B
  | 1 => c
  | 2 => d
  | j + 3 => (vs.getD j 0).toInt
def μL (x mm : Nat) : Nat → Nat := fun i => if i = 0 then x else mm
theorem bsv_len : ∀ (bs : List (Int × Int)) (vs : List Int32), bsv bs vs → vs.length = bs.length := by
  intro bs
  induction bs with
  | nil =>
    intro vs h
    cases vs with
    | nil => rfl
    | cons v vs => exact h.elim
  | cons b bs ih =>
    intro vs h
    cases vs with
    | nil => exact h.elim
    | cons v vs => simp [ih vs h.2]
theorem bsv_bd : ∀ (bs : List (Int × Int)) (vs : List Int32), bsv bs vs → ∀ j, (ebd (bs) j).1 ≤ (vs.getD j 0).toInt ∧ (vs.getD j 0).toInt ≤ (ebd (bs) j).2 := by
  intro bs
  induction bs with
  | nil =>
    intro vs h j
    cases vs with
    | nil => exact ⟨(by decide : (-9223372036854775808 : Int) ≤ 0), (by decide : (0 : Int) ≤ 9223372036854775807)⟩
    | cons v vs => exact h.elim
  | cons b bs ih =>
    intro vs h j
    cases vs with
    | nil => exact h.elim
    | cons v vs =>
      cases j with
      | zero => exact h.1
      | succ j => exact ih vs h.2 j
theorem mok_cel {K : Nat → Nat} {B : Int} {L : List Nat} {f : Nat → va_E} {ν : Nat → Int} {k i j : Nat} {v : Int} (hk : k ≠ 0) (h : cel K L f k i v) (hν : ν j = v) : mok K B L f ν ((k, ((i : Int), [])), (0, [(1, j)])) := by
  unfold mok
  rw [if_neg hk]
  intro b hb hkb
  have e1 : xv ν ((i : Int), []) = i := xv_c _
  have e2 : xv ν (0, [(1, j)]) = v := (xv_i j).trans hν
  show 0 ≤ xv ν ((i : Int), []) ∧ cval K (f b) (xv ν ((i : Int), [])).toNat = some (xv ν (0, [(1, j)]))
  rw [e1, e2, Int.toNat_natCast]
  exact ⟨by omega, h b hb hkb⟩
theorem cel_mok {K : Nat → Nat} {B : Int} {L : List Nat} {f : Nat → va_E} {ν : Nat → Int} {k i j : Nat} (hk : k ≠ 0) (h : mok K B L f ν ((k, ((i : Int), [])), (0, [(1, j)]))) : cel K L f k i (ν j) := by
  unfold mok at h
  rw [if_neg hk] at h
  intro b hb hkb
  have h2 := (h b hb hkb).2
  have e1 : xv ν ((i : Int), []) = i := xv_c _
  have e2 : xv ν (0, [(1, j)]) = ν j := xv_i j
  have h3 : cval K (f b) (xv ν ((i : Int), [])).toNat = some (xv ν (0, [(1, j)])) := h2
  rw [e1, e2, Int.toNat_natCast] at h3
  exact h3
section LW
variable {E : zCx} {X0 : zC0} {own : String} {cc : ByteArray} {nL : Nat} {R0 : Room} {k n : Nat} {K : Nat → Nat} {B : Int} {L : List Nat} {f : Nat → va_E} {lvw : List (Nat × Value)} {x mm pc idx : Nat} {cy : Nat → ClassId} {bs : List (Int × Int)} {vs : List Int32}
theorem Wd_start (hI : linv cy K B L f x mm) (hB : B ≤ 2000900000) (hv : bsv bs vs) : ∃ c d, Wd (cy, mAll, L, f, K, 3 + bs.length, νL B c d vs, 2, μL x mm) K B L f (νL B c d vs) (μL x mm) [] [] (gA bs) [] [] := by
  obtain ⟨hh, hx, hm, h0, c, d, hc, hd, c1, c2, c3, c4⟩ := hI
  refine ⟨c, d, hh, ⟨fun b hb => ⟨hb, rfl, fun _ _ => rfl⟩, fun hn => absurd (by decide) hn, fun b hb hb0 => absurd hb hb0⟩, ⟨?_, Nat.le_refl _, fun _ _ => rfl, fun _ _ => rfl⟩, ⟨?_, fun s hs => (by cases hs), fun s hs => (by cases hs), ?_, ?_, fun q hq => (by cases hq), fun q hq => (by cases hq)⟩, rfl, rfl⟩
  · simp [gA]
    omega
  · intro i
    match i with
    | 0 => exact ⟨h0, hB⟩
    | 1 => exact hc
    | 2 => exact hd
    | j + 3 => exact bsv_bd bs vs hv j
  · intro i kk hi
    match i, hi with
    | 0, hi => cases hi; exact hx
    | 1, hi => cases hi; exact hm
    | i + 2, hi => simp [gA] at hi
  · intro q hq
    simp only [gA, List.mem_cons, List.not_mem_nil, or_false] at hq
    rcases hq with rfl | rfl | rfl | rfl | rfl
    · show B = xv (νL B c d vs) (0, [(1, 0)])
      have e : xv (νL B c d vs) (0, [(1, 0)]) = νL B c d vs 0 := xv_i 0
      rw [e]
      rfl
    · exact mok_cel (i := 1) (by decide) c1 rfl
    · exact mok_cel (i := 11) (by decide) c2 rfl
    · exact mok_cel (i := 1) (by decide) c3 rfl
    · exact mok_cel (i := 11) (by decide) c4 rfl
theorem aI_map (ν : Nat → Int) (μ : Nat → Nat) : ∀ (vs : List Int32) (j : Nat), (∀ i, i < vs.length → ν (j + i) = (vs.getD i 0).toInt) → (aI j vs.length).map (cv ν μ) = vs.map Value.int := by
  intro vs
  induction vs with
  | nil => intro j _; rfl
  | cons v vs ih =>
    intro j h
    have h0 := h 0 (by simp)
    have e0 : ν j = v.toInt := h0
    show cv ν μ (0, 0, (0, [(1, j)])) :: (aI (j + 1) vs.length).map (cv ν μ) = _
    rw [ih (j + 1) (fun i hi => by
      have := h (i + 1) (by simp; omega)
      rw [show j + 1 + i = j + (i + 1) by omega]
      exact this), List.map_cons]
    congr 1
    show Value.int (Int32.ofInt (xv ν (0, [(1, j)]))) = Value.int v
    rw [show xv ν (0, [(1, j)]) = ν j from xv_i j, e0, Int32.ofInt_toInt]
theorem aS_push {K0 : Nat → Nat} {B0 c d : Int} {L0 : List Nat} {f0 : Nat → va_E} {ν : Nat → Int} {μ : Nat → Nat} {st : List EV} {stc : List Value} {G : EG} {r : Nat} (hr : r < 2) (hl : vs.length = bs.length) (h : Wd (cy, mAll, L0, f0, K0, 3 + bs.length, νL B0 c d vs, 2, μL x mm) K B L f ν μ [] st G [] stc) : Wd (cy, mAll, L0, f0, K0, 3 + bs.length, νL B0 c d vs, 2, μL x mm) K B L f ν μ [] (aS r bs.length ++ st) G [] ((vs.map Value.int).reverse ++ .ref (μL x mm r) :: stc) := by
  obtain ⟨a1, a2, a3, a4, a5, a6⟩ := h
  refine ⟨a1, a2, a3, a4, a5, ?_⟩
  have e1 := aI_map ν μ vs 3 (fun i hi => by
    have := a3.2.2.1 (3 + i) (by omega)
    rw [this, Nat.add_comm]
    rfl)
  have e2 : μ r = μL x mm r := a3.2.2.2 r hr
  rw [aS, List.map_append, List.map_append, List.map_reverse, ← hl, e1, a6, List.append_assoc]
  congr 1
  show _ = Value.ref (μ r) :: st.map (cv ν μ)
  rw [e2]
/-- what a case leaves is again what holds between two calls -/
theorem TB_ok {K0 : Nat → Nat} {B0 c d : Int} {L0 : List Nat} {f0 : Nat → va_E} {ν : Nat → Int} {μ : Nat → Nat} {st : List EV} {stc : List Value} {G : EG} (h : Wd (cy, mAll, L0, f0, K0, 3 + bs.length, νL B0 c d vs, 2, μL x mm) K B L f ν μ [] st G [] stc) (hm : (mT 1 2 TB [] [] G).isSome = true) : linv cy K B L f x mm ∧ B ≤ B0 + 192000 := by
  obtain ⟨q, hq⟩ := Option.isSome_iff_exists.mp hm
  have h' : Wd (cy, mAll, L0, f0, K0, 3 + bs.length, νL B0 c d vs, 2, μL x mm) K B L f ν μ [] [] G [] [] := ⟨h.1, h.2.1, h.2.2.1, h.2.2.2.1, rfl, rfl⟩
  obtain ⟨⟨g1, g2, g3, g4, g5, g6, g7⟩, -, -⟩ := mOk_ok h' (mT_ok hq)
  have hν0 : ν 0 = B0 := h.2.2.1.2.2.1 0 (by omega)
  have hμ0 : μ 0 = x := h.2.2.1.2.2.2 0 (by omega)
  have hμ1 : μ 1 = mm := h.2.2.1.2.2.2 1 (by omega)
  generalize hn : nuw 1 q.1 ν = nu at g1 g2 g3 g5 g7
  have n0 : nu 0 = B0 := by rw [← hn, ← hν0]; rfl
  have m0 : mur 2 q.2 μ 0 = x := by rw [← hμ0]; rfl
  have m1 : mur 2 q.2 μ 1 = mm := by rw [← hμ1]; rfl
  have gx := g4 0 197 rfl
  have gm := g4 1 200 rfl
  rw [m0] at gx
  rw [m1] at gm
  have b1 : 0 ≤ nu 1 ∧ nu 1 ≤ 2001092000 := g1 1
  have b2 : 0 ≤ nu 2 ∧ nu 2 ≤ 12 := g1 2
  have b3 : 0 ≤ nu 3 ∧ nu 3 ≤ 12 := g1 3
  have hB : B = nu 1 := by
    have h1 : B = xv nu (0, [(1, 1)]) := g5 ((0, (0, [])), (0, [(1, 1)])) (by simp [TB])
    rw [h1]
    exact xv_i 1
  have ht := g2 (192000, [(1, 0), (-1, 1)]) (by simp [TB])
  simp only [xv, xvT] at ht
  refine ⟨⟨h.1, gx, gm, by omega, nu 2, nu 3, b2, b3, ?_, ?_, ?_, ?_⟩, by omega⟩
  · exact cel_mok (B := B) (i := 1) (by decide) (g5 _ (by simp [TB]))
  · exact cel_mok (B := B) (i := 11) (by decide) (g5 _ (by simp [TB]))
  · exact cel_mok (B := B) (i := 1) (by decide) (g5 _ (by simp [TB]))
  · exact cel_mok (B := B) (i := 11) (by decide) (g5 _ (by simp [TB]))
def tagV (t : Nat) (v : Value) : Prop := match t with
  | 0 => ∃ a, v = .int a
  | _ => ∃ a, v = .long a
theorem oneV_ok {t : Nat} (ht : t < 2) {st : List EV} (h : oneV t st = true) (ν : Nat → Int) (μ : Nat → Nat) : ∃ u v, st = [u] ∧ st.map (cv ν μ) = [v] ∧ tagV t v := by
  unfold oneV at h
  split at h
  · rename_i u
    have e : u.1 = t := by simpa using h
    refine ⟨u, _, rfl, rfl, ?_⟩
    match t, ht, e with
    | 0, _, e => exact ⟨_, cv0 e⟩
    | 1, _, e => exact ⟨_, cv1 e⟩
  · cases h
/-- the second call of a case -/
theorem law_snd {K0 : Nat → Nat} {B0 c d : Int} {L0 : List Nat} {f0 : Nat → va_E} {ν : Nat → Int} {μ : Nat → Nat} {G : EG} {t : Nat} {c2 : CT} {m2 : MT} (hE : zOk E X0 own cc nL R0) (hR1 : 1400 ≤ R0.frames) (hR2 : 84000 ≤ R0.locals) (hX : cy = X0.2.2.1) (hM : CM X0 m2 c2) (hlk : lkOk own idx 0 12 (bs.length + 1) m2) (hd : decode cc pc = .ok (.invokevirtual idx, 3)) (ht : t < 2) (hl : vs.length = bs.length) (h : Wd (cy, mAll, L0, f0, K0, 3 + bs.length, νL B0 c d vs, 2, μL x mm) K B L f ν μ [] [] G [] []) (hck : sndCk t bs.length c2 pc G = true) (hk : k ≤ R0.cells) (hn : n ≤ R0.slots) (kk : ∀ K' B' L' f' v, tagV t v → linv cy K' B' L' f' x mm → B' ≤ B0 + 192000 → eW E k n L' f' (pc + 3) lvw [v]) : eW E k n L f pc lvw ((vs.map Value.int).reverse ++ [.ref mm]) := by
  have hw := aS_push (r := 1) (by decide) hl h
  unfold sndCk at hck
  split at hck
  · rename_i dk dn rs hc
    simp only [Bool.and_eq_true, List.all_eq_true] at hck
    obtain ⟨⟨h1, h2⟩, h3⟩ := hck
    have e1 : dk = 0 := Nat.eq_of_beq_eq_true h1
    have e2 : dn = 0 := Nat.eq_of_beq_eq_true h2
    subst e1
    subst e2
    rw [List.append_nil] at hw
    refine lcallC_ok hE hR1 hR2 hX rfl hM hlk rfl hd hw hc hk hn (fun K' B' L' f' p hp ν' μ' stc' hw' => ?_)
    obtain ⟨h4, h5⟩ := h3 p hp
    obtain ⟨u, v, -, e4, e5⟩ := oneV_ok ht h4 ν' μ'
    have e6 : p.2.1 = [] := by
      have := hw'.2.2.2.2.1
      exact List.map_eq_nil_iff.mp this.symm
    rw [e6] at hw'
    obtain ⟨i1, i2⟩ := TB_ok hw' h5
    rw [hw'.2.2.2.2.2, e4]
    exact kk K' B' L' f' v e5 i1 i2
  · cases hck
/-- the second call where both answers are held against each other -/
theorem law_cmp {K0 : Nat → Nat} {B0 c d : Int} {L0 : List Nat} {f0 : Nat → va_E} {ν : Nat → Int} {μ : Nat → Nat} {G : EG} {c2 : CT} {m2 : MT} {st : List EV} {v0 : Value} (hE : zOk E X0 own cc nL R0) (hR1 : 1400 ≤ R0.frames) (hR2 : 84000 ≤ R0.locals) (hX : cy = X0.2.2.1) (hM : CM X0 m2 c2) (hlk : lkOk own idx 0 12 (bs.length + 1) m2) (hd : decode cc pc = .ok (.invokevirtual idx, 3)) (hl : vs.length = bs.length) (h : Wd (cy, mAll, L0, f0, K0, 3 + bs.length, νL B0 c d vs, 2, μL x mm) K B L f ν μ [] st G [] [v0]) (hck : cmpCk bs.length c2 pc st G = true) (hk : k ≤ R0.cells) (hn : n ≤ R0.slots) (kk : ∀ K' B' L' f' a, linv cy K' B' L' f' x mm → B' ≤ B0 + 192000 → eW E k n L' f' (pc + 3) lvw [.int a, .int a]) : eW E k n L f pc lvw ((vs.map Value.int).reverse ++ [.ref mm, v0]) := by
  have hw := aS_push (r := 1) (by decide) hl h
  unfold cmpCk at hck
  split at hck
  · rename_i dk dn rs hc
    simp only [Bool.and_eq_true, List.all_eq_true] at hck
    obtain ⟨⟨h1, h2⟩, h3⟩ := hck
    have e1 : dk = 0 := Nat.eq_of_beq_eq_true h1
    have e2 : dn = 0 := Nat.eq_of_beq_eq_true h2
    subst e1
    subst e2
    refine lcallC_ok hE hR1 hR2 hX rfl hM hlk rfl hd hw hc hk hn (fun K' B' L' f' p hp ν' μ' stc' hw' => ?_)
    obtain ⟨h4, h5⟩ := h3 p hp
    have e6 : p.2.1 = [] := by
      have := hw'.2.2.2.2.1
      exact List.map_eq_nil_iff.mp this.symm
    rw [e6] at hw'
    obtain ⟨i1, i2⟩ := TB_ok hw' h5
    rw [hw'.2.2.2.2.2]
    generalize p.2.2.1 = q at h4 hw'
    unfold twoV at h4
    split at h4
    · rename_i u v
      simp only [Bool.and_eq_true, beq_iff_eq] at h4
      obtain ⟨⟨t1, t2⟩, t3⟩ := h4
      have e7 := eqv_ok hw'.2.2.2.1.1 hw'.2.2.2.1.2.1 t3
      show eW E k n L' f' (pc + 3) lvw [cv ν' μ' u, cv ν' μ' v]
      rw [cv0 t1, cv0 t2, e7]
      exact kk K' B' L' f' _ i1 i2
    · cases h4
  · cases hck
/-- the first call of a case -/
theorem law_fst {cmp : Bool} {t pc2 : Nat} {c1 c2 : CT} {m1 : MT} (hE : zOk E X0 own cc nL R0) (hR1 : 1400 ≤ R0.frames) (hR2 : 84000 ≤ R0.locals) (hX : cy = X0.2.2.1) (hM : CM X0 m1 c1) (hlk : lkOk own idx 0 11 (bs.length + 1) m1) (hd : decode cc pc = .ok (.invokevirtual idx, 3)) (ht : t < 2) (hI : linv cy K B L f x mm) (hB : B ≤ 2000900000) (hv : bsv bs vs) (hck : lawCk cmp t bs c1 c2 pc pc2 = true) (hk : k + 11 ≤ R0.cells) (hn : n + 1329 ≤ R0.slots) (kk : ∀ c d K' B' L' f' ν' μ' st G v, tagV t v → Wd (cy, mAll, L, f, K, 3 + bs.length, νL B c d vs, 2, μL x mm) K' B' L' f' ν' μ' [] st G [] [v] → (if cmp then cmpCk bs.length c2 pc2 st G else sndCk t bs.length c2 pc2 G) = true → eW E (k + 11) (n + 1329) L' f' (pc + 3) lvw [v]) : eW E k n L f pc lvw ((vs.map Value.int).reverse ++ [.ref x]) := by
  have hl := bsv_len bs vs hv
  obtain ⟨c, d, h⟩ := Wd_start hI hB hv
  have hw := aS_push (r := 0) (by decide) hl h
  unfold lawCk at hck
  split at hck
  · rename_i dk dn rs hc
    simp only [Bool.and_eq_true, List.all_eq_true, Nat.ble_eq] at hck
    obtain ⟨⟨h1, h2⟩, h3⟩ := hck
    rw [List.append_nil] at hw
    refine lcallC_ok hE hR1 hR2 hX rfl hM hlk rfl hd hw hc (by omega) (by omega) (fun K' B' L' f' p hp ν' μ' stc' hw' => ?_)
    obtain ⟨h4, h5⟩ := h3 p hp
    obtain ⟨u, v, -, e4, e5⟩ := oneV_ok ht h4 ν' μ'
    have e6 : p.2.1 = [] := by
      have := hw'.2.2.2.2.1
      exact List.map_eq_nil_iff.mp this.symm
    rw [e6] at hw'
    have e7 : stc' = [v] := hw'.2.2.2.2.2.trans e4
    rw [e7] at hw' ⊢
    refine x_widen (k' := k + 11) (n' := n + 1329) (by omega) (by omega) ?_
    exact kk c d K' B' L' f' ν' μ' _ _ v e5 hw' h5
  · cases hck
end LW
