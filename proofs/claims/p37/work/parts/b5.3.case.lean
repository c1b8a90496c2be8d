/-! Cases of the law. -/
theorem lkL_X11_near : lkOk RL 134 0 11 2 (mt 50) := (show lkOk RL 134 0 11 2 (yX11_near, cX11_near, 4, (some .int)) from ⟨⟨q113, q1275, by decide, by decide, by decide⟩, ⟨q1272, q1273, ⟨RX11, TX11, 7, rfl, q1274⟩, by decide +kernel⟩⟩)
theorem lkL_X12_near : lkOk RL 137 0 12 2 (mt 141) := (show lkOk RL 137 0 12 2 (yX12_near, cX12_near, 4, (some .int)) from ⟨⟨q124, q2015, by decide, by decide, by decide⟩, ⟨q2012, q2013, ⟨RX12, TX12, 53, rfl, q2014⟩, by decide +kernel⟩⟩)
theorem lwc_near : lawCk 0 [fB] c132 c399 1208 1218 = true := by decide +kernel
theorem lc_near {E : zCx} {X0 : zC0} {b N x mm k n : Nat} {xs : Nat → Int32} {K : Nat → Nat} {B : Int} {L : List Nat} {f : Nat → va_E} {t : Nat} {i : Int32} (hE : zOk E X0 RL cL_law 4 room_1) (hs : zSc E b N xs) (hN : N ≤ 3584) (H : ∀ j, j < 427 → CMj X0 j) (hi : i.toInt = t) (ht : t + 7 ≤ N) (hI : linv X0.2.2.1 K B L f x mm) (hB : B ≤ 2000900000) (hk : k + 11 ≤ 600000) (hn : n + 1329 ≤ 7302250) (hend : ∀ K' B' L' f', linv X0.2.2.1 K' B' L' f' x mm → B' ≤ B + 192000 → eW E (k + 11) (n + 1329) L' f' 1607 (lvL b x mm i) []) : eW E k n L f 1202 (lvL b x mm i) [] := by
  refine x_aload_n hE (z := 1) (i := 1) (x := x) (by decide +kernel) rfl (by simp [lvL]) ?_
  refine s_arg hE hs (k1 := 1) (z := 1) (v := 1) hi (by omega) hN rfl rfl (by decide +kernel) (by decide +kernel) (by decide +kernel) (by decide +kernel) (by decide +kernel) ?_
  refine law_fst (cy := X0.2.2.1) (bs := [fB]) (vs := [xs (t + 1)]) (t := 0) hE (by decide) (by decide) rfl (H 132 (by decide) 50 _ rfl) lkL_X11_near (by decide +kernel) (by decide) hI hB ⟨fl_int _, trivial⟩ lwc_near hk hn (fun c v h d v2 h2 o b1 p r o2 b2 p2 r2 k1 k2 k3 k4 hr hkr K1 B1 L1 f1 ν1 μ1 G1 w1 hv1 hw1 hck1 => ?_)
  obtain ⟨a1, rfl⟩ := hv1
  refine x_pop hE (by decide +kernel) rfl ?_
  refine x_aload_n hE (z := 2) (i := 2) (x := mm) (by decide +kernel) rfl (by simp [lvL]) ?_
  refine s_arg hE hs (k1 := 1) (z := 1) (v := 1) hi (by omega) hN rfl rfl (by decide +kernel) (by decide +kernel) (by decide +kernel) (by decide +kernel) (by decide +kernel) ?_
  refine law_snd (cy := X0.2.2.1) (bs := [fB]) (vs := [xs (t + 1)]) (t := 0) hE (by decide) (by decide) rfl (H 399 (by decide) 141 _ rfl) lkL_X12_near (by decide +kernel) (by decide) rfl hw1 hck1 hk hn k1 k2 k3 k4 hr hkr (List.mem_cons_self ..) (fun K2 B2 L2 f2 v2 hv2 hI2 hB2 => ?_)
  obtain ⟨a2, rfl⟩ := hv2
  refine x_pop hE (by decide +kernel) rfl ?_
  refine x_goto hE (off := 385) (tgt := 1607) (by decide +kernel) (by decide) ?_
  exact hend _ _ _ _ hI2 hB2
theorem lkL_X11_thieves : lkOk RL 138 0 11 1 (mt 65) := (show lkOk RL 138 0 11 1 (yX11_thieves, cX11_thieves, 6, (some .int)) from ⟨⟨q113, q1283, by decide, by decide, by decide⟩, ⟨q1280, q1281, ⟨RX11, TX11, 7, rfl, q1282⟩, by decide +kernel⟩⟩)
theorem lkL_X12_thieves : lkOk RL 141 0 12 1 (mt 186) := (show lkOk RL 141 0 12 1 (yX12_thieves, cX12_thieves, 5, (some .int)) from ⟨⟨q124, q2023, by decide, by decide, by decide⟩, ⟨q2020, q2021, ⟨RX12, TX12, 53, rfl, q2022⟩, by decide +kernel⟩⟩)
theorem lwc_thieves : lawCk 0 [] c281 c415 1226 1231 = true := by decide +kernel
theorem lc_thieves {E : zCx} {X0 : zC0} {b N x mm k n : Nat} {xs : Nat → Int32} {K : Nat → Nat} {B : Int} {L : List Nat} {f : Nat → va_E} {t : Nat} {i : Int32} (hE : zOk E X0 RL cL_law 4 room_1) (hs : zSc E b N xs) (hN : N ≤ 3584) (H : ∀ j, j < 427 → CMj X0 j) (hi : i.toInt = t) (ht : t + 7 ≤ N) (hI : linv X0.2.2.1 K B L f x mm) (hB : B ≤ 2000900000) (hk : k + 11 ≤ 600000) (hn : n + 1329 ≤ 7302250) (hend : ∀ K' B' L' f', linv X0.2.2.1 K' B' L' f' x mm → B' ≤ B + 192000 → eW E (k + 11) (n + 1329) L' f' 1607 (lvL b x mm i) []) : eW E k n L f 1225 (lvL b x mm i) [] := by
  refine x_aload_n hE (z := 1) (i := 1) (x := x) (by decide +kernel) rfl (by simp [lvL]) ?_
  refine law_fst (cy := X0.2.2.1) (bs := []) (vs := []) (t := 0) hE (by decide) (by decide) rfl (H 281 (by decide) 65 _ rfl) lkL_X11_thieves (by decide +kernel) (by decide) hI hB trivial lwc_thieves hk hn (fun c v h d v2 h2 o b1 p r o2 b2 p2 r2 k1 k2 k3 k4 hr hkr K1 B1 L1 f1 ν1 μ1 G1 w1 hv1 hw1 hck1 => ?_)
  obtain ⟨a1, rfl⟩ := hv1
  refine x_pop hE (by decide +kernel) rfl ?_
  refine x_aload_n hE (z := 2) (i := 2) (x := mm) (by decide +kernel) rfl (by simp [lvL]) ?_
  refine law_snd (cy := X0.2.2.1) (bs := []) (vs := []) (t := 0) hE (by decide) (by decide) rfl (H 415 (by decide) 186 _ rfl) lkL_X12_thieves (by decide +kernel) (by decide) rfl hw1 hck1 hk hn k1 k2 k3 k4 hr hkr (List.mem_cons_self ..) (fun K2 B2 L2 f2 v2 hv2 hI2 hB2 => ?_)
  obtain ⟨a2, rfl⟩ := hv2
  refine x_pop hE (by decide +kernel) rfl ?_
  refine x_goto hE (off := 372) (tgt := 1607) (by decide +kernel) (by decide) ?_
  exact hend _ _ _ _ hI2 hB2
theorem lkL_X11_filling : lkOk RL 142 0 11 7 (mt 35) := (show lkOk RL 142 0 11 7 (yX11_filling, cX11_filling, 15, (some .long)) from ⟨⟨q113, q1287, by decide, by decide, by decide⟩, ⟨q1284, q1285, ⟨RX11, TX11, 7, rfl, q1286⟩, by decide +kernel⟩⟩)
theorem lkL_X12_filling : lkOk RL 146 0 12 7 (mt 107) := (show lkOk RL 146 0 12 7 (yX12_filling, cX12_filling, 12, (some .long)) from ⟨⟨q124, q2027, by decide, by decide, by decide⟩, ⟨q2024, q2025, ⟨RX12, TX12, 53, rfl, q2026⟩, by decide +kernel⟩⟩)
theorem lwc_filling : lawCk 1 [fB, fB, fB, fB, fB, tB] c97 c350 1278 1322 = true := by decide +kernel
theorem lc_filling {E : zCx} {X0 : zC0} {b N x mm k n : Nat} {xs : Nat → Int32} {K : Nat → Nat} {B : Int} {L : List Nat} {f : Nat → va_E} {t : Nat} {i : Int32} (hE : zOk E X0 RL cL_law 4 room_1) (hs : zSc E b N xs) (hN : N ≤ 3584) (H : ∀ j, j < 427 → CMj X0 j) (hi : i.toInt = t) (ht : t + 7 ≤ N) (hI : linv X0.2.2.1 K B L f x mm) (hB : B ≤ 2000900000) (hk : k + 11 ≤ 600000) (hn : n + 1329 ≤ 7302250) (hend : ∀ K' B' L' f', linv X0.2.2.1 K' B' L' f' x mm → B' ≤ B + 192000 → eW E (k + 11) (n + 1329) L' f' 1607 (lvL b x mm i) []) : eW E k n L f 1238 (lvL b x mm i) [] := by
  refine x_aload_n hE (z := 1) (i := 1) (x := x) (by decide +kernel) rfl (by simp [lvL]) ?_
  refine s_arg hE hs (k1 := 1) (z := 1) (v := 1) hi (by omega) hN rfl rfl (by decide +kernel) (by decide +kernel) (by decide +kernel) (by decide +kernel) (by decide +kernel) ?_
  refine s_arg hE hs (k1 := 2) (z := 2) (v := 2) hi (by omega) hN rfl rfl (by decide +kernel) (by decide +kernel) (by decide +kernel) (by decide +kernel) (by decide +kernel) ?_
  refine s_arg hE hs (k1 := 3) (z := 3) (v := 3) hi (by omega) hN rfl rfl (by decide +kernel) (by decide +kernel) (by decide +kernel) (by decide +kernel) (by decide +kernel) ?_
  refine s_arg hE hs (k1 := 4) (z := 4) (v := 4) hi (by omega) hN rfl rfl (by decide +kernel) (by decide +kernel) (by decide +kernel) (by decide +kernel) (by decide +kernel) ?_
  refine s_arg hE hs (k1 := 5) (z := 5) (v := 5) hi (by omega) hN rfl rfl (by decide +kernel) (by decide +kernel) (by decide +kernel) (by decide +kernel) (by decide +kernel) ?_
  refine s_arg6 hE hs (k1 := 6) (z := 6) (v := 6) hi (by omega) hN (by decide +kernel) rfl (by decide +kernel) (by decide +kernel) (by decide +kernel) (by decide +kernel) (by decide +kernel) ?_
  refine s_bz hE (by decide +kernel) (by decide +kernel) (by decide +kernel) (by decide +kernel) ?_
  refine law_fst (cy := X0.2.2.1) (bs := [fB, fB, fB, fB, fB, tB]) (vs := [xs (t + 1), xs (t + 2), xs (t + 3), xs (t + 4), xs (t + 5), bz (xs (t + 6))]) (t := 1) hE (by decide) (by decide) rfl (H 97 (by decide) 35 _ rfl) lkL_X11_filling (by decide +kernel) (by decide) hI hB ⟨fl_int _, ⟨fl_int _, ⟨fl_int _, ⟨fl_int _, ⟨fl_int _, ⟨bz_int _, trivial⟩⟩⟩⟩⟩⟩ lwc_filling hk hn (fun c v h d v2 h2 o b1 p r o2 b2 p2 r2 k1 k2 k3 k4 hr hkr K1 B1 L1 f1 ν1 μ1 G1 w1 hv1 hw1 hck1 => ?_)
  obtain ⟨a1, rfl⟩ := hv1
  refine x_pop2L hE (by decide +kernel) rfl ?_
  refine x_aload_n hE (z := 2) (i := 2) (x := mm) (by decide +kernel) rfl (by simp [lvL]) ?_
  refine s_arg hE hs (k1 := 1) (z := 1) (v := 1) hi (by omega) hN rfl rfl (by decide +kernel) (by decide +kernel) (by decide +kernel) (by decide +kernel) (by decide +kernel) ?_
  refine s_arg hE hs (k1 := 2) (z := 2) (v := 2) hi (by omega) hN rfl rfl (by decide +kernel) (by decide +kernel) (by decide +kernel) (by decide +kernel) (by decide +kernel) ?_
  refine s_arg hE hs (k1 := 3) (z := 3) (v := 3) hi (by omega) hN rfl rfl (by decide +kernel) (by decide +kernel) (by decide +kernel) (by decide +kernel) (by decide +kernel) ?_
  refine s_arg hE hs (k1 := 4) (z := 4) (v := 4) hi (by omega) hN rfl rfl (by decide +kernel) (by decide +kernel) (by decide +kernel) (by decide +kernel) (by decide +kernel) ?_
  refine s_arg hE hs (k1 := 5) (z := 5) (v := 5) hi (by omega) hN rfl rfl (by decide +kernel) (by decide +kernel) (by decide +kernel) (by decide +kernel) (by decide +kernel) ?_
  refine s_arg6 hE hs (k1 := 6) (z := 6) (v := 6) hi (by omega) hN (by decide +kernel) rfl (by decide +kernel) (by decide +kernel) (by decide +kernel) (by decide +kernel) (by decide +kernel) ?_
  refine s_bz hE (by decide +kernel) (by decide +kernel) (by decide +kernel) (by decide +kernel) ?_
  refine law_snd (cy := X0.2.2.1) (bs := [fB, fB, fB, fB, fB, tB]) (vs := [xs (t + 1), xs (t + 2), xs (t + 3), xs (t + 4), xs (t + 5), bz (xs (t + 6))]) (t := 1) hE (by decide) (by decide) rfl (H 350 (by decide) 107 _ rfl) lkL_X12_filling (by decide +kernel) (by decide) rfl hw1 hck1 hk hn k1 k2 k3 k4 hr hkr (List.mem_cons_self ..) (fun K2 B2 L2 f2 v2 hv2 hI2 hB2 => ?_)
  obtain ⟨a2, rfl⟩ := hv2
  refine x_pop2L hE (by decide +kernel) rfl ?_
  refine x_goto hE (off := 281) (tgt := 1607) (by decide +kernel) (by decide) ?_
  exact hend _ _ _ _ hI2 hB2
theorem lkL_X11_forecast : lkOk RL 147 0 11 3 (mt 36) := (show lkOk RL 147 0 11 3 (yX11_forecast, cX11_forecast, 4, (some .int)) from ⟨⟨q113, q1299, by decide, by decide, by decide⟩, ⟨q1296, q1297, ⟨RX11, TX11, 7, rfl, q1298⟩, by decide +kernel⟩⟩)
theorem lkL_X12_forecast : lkOk RL 151 0 12 3 (mt 110) := (show lkOk RL 151 0 12 3 (yX12_forecast, cX12_forecast, 3, (some .int)) from ⟨⟨q124, q2036, by decide, by decide, by decide⟩, ⟨q2033, q2034, ⟨RX12, TX12, 53, rfl, q2035⟩, by decide +kernel⟩⟩)
theorem lc_forecast {E : zCx} {X0 : zC0} {b N x mm k n : Nat} {xs : Nat → Int32} {K : Nat → Nat} {B : Int} {L : List Nat} {f : Nat → va_E} {t : Nat} {i : Int32} (hE : zOk E X0 RL cL_law 4 room_1) (hs : zSc E b N xs) (hN : N ≤ 3584) (H : ∀ j, j < 427 → CMj X0 j) (hi : i.toInt = t) (ht : t + 7 ≤ N) (hI : linv X0.2.2.1 K B L f x mm) (hB : B ≤ 2000900000) (hk : k + 11 ≤ 600000) (hn : n + 1329 ≤ 7302250) (hend : ∀ K' B' L' f', linv X0.2.2.1 K' B' L' f' x mm → B' ≤ B + 192000 → eW E (k + 11) (n + 1329) L' f' 1607 (lvL b x mm i) []) : eW E k n L f 1329 (lvL b x mm i) [] := by
  obtain ⟨hh, hx, hm, hB0, c, v, h, c2, v2, h2, o, b1, p, d, o2, b2, p2, d2, k1, k2, k3, k4, ⟨A1, A2⟩, ⟨A3, A4⟩, ⟨A5, A6⟩, ⟨A7, A8⟩⟩ := hI
  refine x_aload_n hE (z := 1) (i := 1) (x := x) (by decide +kernel) rfl (by simp [lvL]) ?_
  refine s_arg hE hs (k1 := 1) (z := 1) (v := 1) hi (by omega) hN rfl rfl (by decide +kernel) (by decide +kernel) (by decide +kernel) (by decide +kernel) (by decide +kernel) ?_
  refine s_arg hE hs (k1 := 2) (z := 2) (v := 2) hi (by omega) hN rfl rfl (by decide +kernel) (by decide +kernel) (by decide +kernel) (by decide +kernel) (by decide +kernel) ?_
  refine s_bz hE (by decide +kernel) (by decide +kernel) (by decide +kernel) (by decide +kernel) ?_
  refine l_callV (R0 := room_1) hE (by decide) (by decide) (hc_fore11 H hh hx (t := (xs (t + 1)).toInt) (b := (bz (xs (t + 2))).toInt) (fl_int _) (bz01 _) A1 k1) (lkL_X11_forecast : lkOk RL 147 0 11 3 Q_fore11) hh hx.1 hx.2 rfl rfl (by decide) rfl (by simp only [oI]; rfl) (by simp) (by decide +kernel) (by show k ≤ 600000; omega) (by show n ≤ 7302250; omega) (fun r1 L1 f1 ht1 hp1 => ?_)
  obtain ⟨K1, B1, h1, e1, hr1, N1⟩ := hp1
  dsimp only at h1 e1 hr1 N1
  subst hr1
  refine x_pop hE (by decide +kernel) rfl ?_
  have hm1 := exin e1 hm
  have A2x := MF.ext A2 k1.1 e1 (Or.inl rfl) (by decide) (by decide)
  refine x_aload_n hE (z := 2) (i := 2) (x := mm) (by decide +kernel) rfl (by simp [lvL]) ?_
  refine s_arg hE hs (k1 := 1) (z := 1) (v := 1) hi (by omega) hN rfl rfl (by decide +kernel) (by decide +kernel) (by decide +kernel) (by decide +kernel) (by decide +kernel) ?_
  refine s_arg hE hs (k1 := 2) (z := 2) (v := 2) hi (by omega) hN rfl rfl (by decide +kernel) (by decide +kernel) (by decide +kernel) (by decide +kernel) (by decide +kernel) ?_
  refine s_bz hE (by decide +kernel) (by decide +kernel) (by decide +kernel) (by decide +kernel) ?_
  refine l_callV (R0 := room_1) hE (by decide) (by decide) (hc_fore12 H h1 hm1 (t := (xs (t + 1)).toInt) (b := (bz (xs (t + 2))).toInt) (fl_int _) (bz01 _) A2x k1) (lkL_X12_forecast : lkOk RL 151 0 12 3 Q_fore12) h1 hm1.1 hm1.2 rfl rfl (by decide) rfl (by simp only [oI]; rfl) (by simp) (by decide +kernel) (by show k ≤ 600000; omega) (by show n ≤ 7302250; omega) (fun r2 L2 f2 ht2 hp2 => ?_)
  obtain ⟨K2, B2, h2x, e2, hr2, N2⟩ := hp2
  dsimp only at h2x e2 hr2 N2
  subst hr2
  have e12 := extC_2 e1 e2
  have eB : B2 = B := e12.2.1 (by decide)
  have C1 := LF.ext N1 e2 (Or.inl rfl) (by decide) (by decide) (by decide)
  have C2 := N2
  have C3 := LF.ext A3 e12 (Or.inr rfl) (by decide) (by decide) (by decide)
  have C4 := MF.ext A4 k2.1 e12 (Or.inr rfl) (by decide) (by decide)
  have C5 := LO.ext A5 e12 (Or.inl rfl) (by decide) (by decide) (by decide) (by decide)
  have C6 := MO.ext A6 k3.1 e12 (Or.inl rfl) (by decide) (by decide)
  have C7 := LO.ext A7 e12 (Or.inr rfl) (by decide) (by decide) (by decide) (by decide)
  have C8 := MO.ext A8 k4.1 e12 (Or.inr rfl) (by decide) (by decide)
  have hI2 : linv X0.2.2.1 K2 B2 L2 f2 x mm := ⟨h2x, exin e12 hx, exin e12 hm, by omega, _, _, _, _, _, _, _, _, _, _, _, _, _, _, okF_step k1 (xs (t + 1)).toInt (bz01 _), k2, k3, k4, ⟨C1, C2⟩, ⟨C3, C4⟩, ⟨C5, C6⟩, ⟨C7, C8⟩⟩
  refine x_pop hE (by decide +kernel) rfl ?_
  refine x_goto hE (off := 232) (tgt := 1607) (by decide +kernel) (by decide) ?_
  refine x_widen (k' := k + 11) (n' := n + 1329) (by omega) (by omega) ?_
  exact hend _ _ _ _ hI2 (by omega)
theorem lkL_X11_errors : lkOk RL 152 0 11 3 (mt 31) := (show lkOk RL 152 0 11 3 (yX11_errors, cX11_errors, 3, (some .int)) from ⟨⟨q113, q1307, by decide, by decide, by decide⟩, ⟨q1304, q1305, ⟨RX11, TX11, 7, rfl, q1306⟩, by decide +kernel⟩⟩)
theorem lkL_X12_errors : lkOk RL 155 0 12 3 (mt 99) := (show lkOk RL 155 0 12 3 (yX12_errors, cX12_errors, 3, (some .int)) from ⟨⟨q124, q2040, by decide, by decide, by decide⟩, ⟨q2037, q2038, ⟨RX12, TX12, 53, rfl, q2039⟩, by decide +kernel⟩⟩)
theorem lc_errors {E : zCx} {X0 : zC0} {b N x mm k n : Nat} {xs : Nat → Int32} {K : Nat → Nat} {B : Int} {L : List Nat} {f : Nat → va_E} {t : Nat} {i : Int32} (hE : zOk E X0 RL cL_law 4 room_1) (hs : zSc E b N xs) (hN : N ≤ 3584) (H : ∀ j, j < 427 → CMj X0 j) (hi : i.toInt = t) (ht : t + 7 ≤ N) (hI : linv X0.2.2.1 K B L f x mm) (hB : B ≤ 2000900000) (hk : k + 11 ≤ 600000) (hn : n + 1329 ≤ 7302250) (hend : ∀ K' B' L' f', linv X0.2.2.1 K' B' L' f' x mm → B' ≤ B + 192000 → eW E (k + 11) (n + 1329) L' f' 1607 (lvL b x mm i) []) : eW E k n L f 1378 (lvL b x mm i) [] := by
  obtain ⟨hh, hx, hm, hB0, c, v, h, c2, v2, h2, o, b1, p, d, o2, b2, p2, d2, k1, k2, k3, k4, ⟨A1, A2⟩, ⟨A3, A4⟩, ⟨A5, A6⟩, ⟨A7, A8⟩⟩ := hI
  refine x_aload_n hE (z := 1) (i := 1) (x := x) (by decide +kernel) rfl (by simp [lvL]) ?_
  refine s_arg hE hs (k1 := 1) (z := 1) (v := 1) hi (by omega) hN rfl rfl (by decide +kernel) (by decide +kernel) (by decide +kernel) (by decide +kernel) (by decide +kernel) ?_
  refine s_arg hE hs (k1 := 2) (z := 2) (v := 2) hi (by omega) hN rfl rfl (by decide +kernel) (by decide +kernel) (by decide +kernel) (by decide +kernel) (by decide +kernel) ?_
  refine s_bz hE (by decide +kernel) (by decide +kernel) (by decide +kernel) (by decide +kernel) ?_
  refine l_callV (R0 := room_1) hE (by decide) (by decide) (hc_err11 H hh hx (t := (xs (t + 1)).toInt) (b := (bz (xs (t + 2))).toInt) (fl_int _) (bz01 _) A1 k1) (lkL_X11_errors : lkOk RL 152 0 11 3 Q_err11) hh hx.1 hx.2 rfl rfl (by decide) rfl (by simp only [oI]; rfl) (by simp) (by decide +kernel) (by show k ≤ 600000; omega) (by show n ≤ 7302250; omega) (fun r1 L1 f1 ht1 hp1 => ?_)
  obtain ⟨K1, B1, h1, e1, hr1⟩ := hp1
  dsimp only at h1 e1 hr1
  subst hr1
  refine x_pop hE (by decide +kernel) rfl ?_
  have hm1 := exin e1 hm
  have A2x := MF.ext A2 k1.1 e1 (Or.inl rfl) (by decide) (by decide)
  refine x_aload_n hE (z := 2) (i := 2) (x := mm) (by decide +kernel) rfl (by simp [lvL]) ?_
  refine s_arg hE hs (k1 := 1) (z := 1) (v := 1) hi (by omega) hN rfl rfl (by decide +kernel) (by decide +kernel) (by decide +kernel) (by decide +kernel) (by decide +kernel) ?_
  refine s_arg hE hs (k1 := 2) (z := 2) (v := 2) hi (by omega) hN rfl rfl (by decide +kernel) (by decide +kernel) (by decide +kernel) (by decide +kernel) (by decide +kernel) ?_
  refine s_bz hE (by decide +kernel) (by decide +kernel) (by decide +kernel) (by decide +kernel) ?_
  refine l_callV (R0 := room_1) hE (by decide) (by decide) (hc_err12 H h1 hm1 (t := (xs (t + 1)).toInt) (b := (bz (xs (t + 2))).toInt) (fl_int _) (bz01 _) A2x k1) (lkL_X12_errors : lkOk RL 155 0 12 3 Q_err12) h1 hm1.1 hm1.2 rfl rfl (by decide) rfl (by simp only [oI]; rfl) (by simp) (by decide +kernel) (by show k ≤ 600000; omega) (by show n ≤ 7302250; omega) (fun r2 L2 f2 ht2 hp2 => ?_)
  obtain ⟨K2, B2, h2x, e2, hr2⟩ := hp2
  dsimp only at h2x e2 hr2
  subst hr2
  have e12 := extC_2 e1 e2
  have eB : B2 = B := e12.2.1 (by decide)
  have C1 := LF.ext A1 e12 (Or.inl rfl) (by decide) (by decide) (by decide)
  have C2 := MF.ext A2 k1.1 e12 (Or.inl rfl) (by decide) (by decide)
  have C3 := LF.ext A3 e12 (Or.inr rfl) (by decide) (by decide) (by decide)
  have C4 := MF.ext A4 k2.1 e12 (Or.inr rfl) (by decide) (by decide)
  have C5 := LO.ext A5 e12 (Or.inl rfl) (by decide) (by decide) (by decide) (by decide)
  have C6 := MO.ext A6 k3.1 e12 (Or.inl rfl) (by decide) (by decide)
  have C7 := LO.ext A7 e12 (Or.inr rfl) (by decide) (by decide) (by decide) (by decide)
  have C8 := MO.ext A8 k4.1 e12 (Or.inr rfl) (by decide) (by decide)
  have hI2 : linv X0.2.2.1 K2 B2 L2 f2 x mm := ⟨h2x, exin e12 hx, exin e12 hm, by omega, _, _, _, _, _, _, _, _, _, _, _, _, _, _, k1, k2, k3, k4, ⟨C1, C2⟩, ⟨C3, C4⟩, ⟨C5, C6⟩, ⟨C7, C8⟩⟩
  refine x_pop hE (by decide +kernel) rfl ?_
  refine x_goto hE (off := 183) (tgt := 1607) (by decide +kernel) (by decide) ?_
  refine x_widen (k' := k + 11) (n' := n + 1329) (by omega) (by omega) ?_
  exact hend _ _ _ _ hI2 (by omega)
theorem lkL_X11_bound : lkOk RL 156 0 11 1 (mt 23) := (show lkOk RL 156 0 11 1 (yX11_bound, cX11_bound, 4, (some .int)) from ⟨⟨q113, q1319, by decide, by decide, by decide⟩, ⟨q1316, q1317, ⟨RX11, TX11, 7, rfl, q1318⟩, by decide +kernel⟩⟩)
theorem lkL_X12_bound : lkOk RL 159 0 12 1 (mt 82) := (show lkOk RL 159 0 12 1 (yX12_bound, cX12_bound, 3, (some .int)) from ⟨⟨q124, q2048, by decide, by decide, by decide⟩, ⟨q2045, q2046, ⟨RX12, TX12, 53, rfl, q2047⟩, by decide +kernel⟩⟩)
theorem lc_bound {E : zCx} {X0 : zC0} {b N x mm k n : Nat} {xs : Nat → Int32} {K : Nat → Nat} {B : Int} {L : List Nat} {f : Nat → va_E} {t : Nat} {i : Int32} (hE : zOk E X0 RL cL_law 4 room_1) (hs : zSc E b N xs) (hN : N ≤ 3584) (H : ∀ j, j < 427 → CMj X0 j) (hi : i.toInt = t) (ht : t + 7 ≤ N) (hI : linv X0.2.2.1 K B L f x mm) (hB : B ≤ 2000900000) (hk : k + 11 ≤ 600000) (hn : n + 1329 ≤ 7302250) (hend : ∀ K' B' L' f', linv X0.2.2.1 K' B' L' f' x mm → B' ≤ B + 192000 → eW E (k + 11) (n + 1329) L' f' 1607 (lvL b x mm i) []) : eW E k n L f 1427 (lvL b x mm i) [] := by
  obtain ⟨hh, hx, hm, hB0, c, v, h, c2, v2, h2, o, b1, p, d, o2, b2, p2, d2, k1, k2, k3, k4, ⟨A1, A2⟩, ⟨A3, A4⟩, ⟨A5, A6⟩, ⟨A7, A8⟩⟩ := hI
  refine x_aload_n hE (z := 1) (i := 1) (x := x) (by decide +kernel) rfl (by simp [lvL]) ?_
  refine l_callV (R0 := room_1) hE (by decide) (by decide) (hc_bound11 H hh hx A1 k1) (lkL_X11_bound : lkOk RL 156 0 11 1 Q_bound11) hh hx.1 hx.2 rfl rfl (by decide) rfl rfl (by simp) (by decide +kernel) (by show k ≤ 600000; omega) (by show n ≤ 7302250; omega) (fun r1 L1 f1 ht1 hp1 => ?_)
  obtain ⟨K1, B1, h1, e1, hr1⟩ := hp1
  dsimp only at h1 e1 hr1
  subst hr1
  refine x_pop hE (by decide +kernel) rfl ?_
  have hm1 := exin e1 hm
  have A2x := MF.ext A2 k1.1 e1 (Or.inl rfl) (by decide) (by decide)
  refine x_aload_n hE (z := 2) (i := 2) (x := mm) (by decide +kernel) rfl (by simp [lvL]) ?_
  refine l_callV (R0 := room_1) hE (by decide) (by decide) (hc_bound12 H h1 hm1 A2x k1) (lkL_X12_bound : lkOk RL 159 0 12 1 Q_bound12) h1 hm1.1 hm1.2 rfl rfl (by decide) rfl rfl (by simp) (by decide +kernel) (by show k ≤ 600000; omega) (by show n ≤ 7302250; omega) (fun r2 L2 f2 ht2 hp2 => ?_)
  obtain ⟨K2, B2, h2x, e2, hr2⟩ := hp2
  dsimp only at h2x e2 hr2
  subst hr2
  have e12 := extC_2 e1 e2
  have eB : B2 = B := e12.2.1 (by decide)
  have C1 := LF.ext A1 e12 (Or.inl rfl) (by decide) (by decide) (by decide)
  have C2 := MF.ext A2 k1.1 e12 (Or.inl rfl) (by decide) (by decide)
  have C3 := LF.ext A3 e12 (Or.inr rfl) (by decide) (by decide) (by decide)
  have C4 := MF.ext A4 k2.1 e12 (Or.inr rfl) (by decide) (by decide)
  have C5 := LO.ext A5 e12 (Or.inl rfl) (by decide) (by decide) (by decide) (by decide)
  have C6 := MO.ext A6 k3.1 e12 (Or.inl rfl) (by decide) (by decide)
  have C7 := LO.ext A7 e12 (Or.inr rfl) (by decide) (by decide) (by decide) (by decide)
  have C8 := MO.ext A8 k4.1 e12 (Or.inr rfl) (by decide) (by decide)
  have hI2 : linv X0.2.2.1 K2 B2 L2 f2 x mm := ⟨h2x, exin e12 hx, exin e12 hm, by omega, _, _, _, _, _, _, _, _, _, _, _, _, _, _, k1, k2, k3, k4, ⟨C1, C2⟩, ⟨C3, C4⟩, ⟨C5, C6⟩, ⟨C7, C8⟩⟩
  refine x_pop hE (by decide +kernel) rfl ?_
  refine x_goto hE (off := 170) (tgt := 1607) (by decide +kernel) (by decide) ?_
  refine x_widen (k' := k + 11) (n' := n + 1329) (by omega) (by omega) ?_
  exact hend _ _ _ _ hI2 (by omega)
theorem lkL_X11_offer : lkOk RL 160 0 11 4 (mt 54) := (show lkOk RL 160 0 11 4 (yX11_offer, cX11_offer, 5, (some .int)) from ⟨⟨q113, q1323, by decide, by decide, by decide⟩, ⟨q1320, q1321, ⟨RX11, TX11, 7, rfl, q1322⟩, by decide +kernel⟩⟩)
theorem lkL_X12_offer : lkOk RL 164 0 12 4 (mt 149) := (show lkOk RL 164 0 12 4 (yX12_offer, cX12_offer, 5, (some .int)) from ⟨⟨q124, q2052, by decide, by decide, by decide⟩, ⟨q2049, q2050, ⟨RX12, TX12, 53, rfl, q2051⟩, by decide +kernel⟩⟩)
theorem lc_offer {E : zCx} {X0 : zC0} {b N x mm k n : Nat} {xs : Nat → Int32} {K : Nat → Nat} {B : Int} {L : List Nat} {f : Nat → va_E} {t : Nat} {i : Int32} (hE : zOk E X0 RL cL_law 4 room_1) (hs : zSc E b N xs) (hN : N ≤ 3584) (H : ∀ j, j < 427 → CMj X0 j) (hi : i.toInt = t) (ht : t + 7 ≤ N) (hI : linv X0.2.2.1 K B L f x mm) (hB : B ≤ 2000900000) (hk : k + 11 ≤ 600000) (hn : n + 1329 ≤ 7302250) (hend : ∀ K' B' L' f', linv X0.2.2.1 K' B' L' f' x mm → B' ≤ B + 192000 → eW E (k + 11) (n + 1329) L' f' 1607 (lvL b x mm i) []) : eW E k n L f 1440 (lvL b x mm i) [] := by
  obtain ⟨hh, hx, hm, hB0, c, v, h, c2, v2, h2, o, b1, p, d, o2, b2, p2, d2, k1, k2, k3, k4, ⟨A1, A2⟩, ⟨A3, A4⟩, ⟨A5, A6⟩, ⟨A7, A8⟩⟩ := hI
  refine x_aload_n hE (z := 1) (i := 1) (x := x) (by decide +kernel) rfl (by simp [lvL]) ?_
  refine s_arg hE hs (k1 := 1) (z := 1) (v := 1) hi (by omega) hN rfl rfl (by decide +kernel) (by decide +kernel) (by decide +kernel) (by decide +kernel) (by decide +kernel) ?_
  refine s_bz hE (by decide +kernel) (by decide +kernel) (by decide +kernel) (by decide +kernel) ?_
  refine s_arg hE hs (k1 := 2) (z := 2) (v := 2) hi (by omega) hN rfl rfl (by decide +kernel) (by decide +kernel) (by decide +kernel) (by decide +kernel) (by decide +kernel) ?_
  refine s_arg hE hs (k1 := 3) (z := 3) (v := 3) hi (by omega) hN rfl rfl (by decide +kernel) (by decide +kernel) (by decide +kernel) (by decide +kernel) (by decide +kernel) ?_
  refine l_callV (R0 := room_1) hE (by decide) (by decide) (hc_offer11 H hh hx (t := (bz (xs (t + 1))).toInt) (p := (xs (t + 2)).toInt) (d := (xs (t + 3)).toInt) (bz01 _) (fl_int _) (fl_int _) A5 k3) (lkL_X11_offer : lkOk RL 160 0 11 4 Q_offer11) hh hx.1 hx.2 rfl rfl (by decide) rfl (by simp only [oI]; rfl) (by simp) (by decide +kernel) (by show k ≤ 600000; omega) (by show n ≤ 7302250; omega) (fun r1 L1 f1 ht1 hp1 => ?_)
  obtain ⟨K1, B1, h1, e1, hr1, N1⟩ := hp1
  dsimp only at h1 e1 hr1 N1
  subst hr1
  refine x_pop hE (by decide +kernel) rfl ?_
  have hm1 := exin e1 hm
  have A6x := MO.ext A6 k3.1 e1 (Or.inl rfl) (by decide) (by decide)
  refine x_aload_n hE (z := 2) (i := 2) (x := mm) (by decide +kernel) rfl (by simp [lvL]) ?_
  refine s_arg hE hs (k1 := 1) (z := 1) (v := 1) hi (by omega) hN rfl rfl (by decide +kernel) (by decide +kernel) (by decide +kernel) (by decide +kernel) (by decide +kernel) ?_
  refine s_bz hE (by decide +kernel) (by decide +kernel) (by decide +kernel) (by decide +kernel) ?_
  refine s_arg hE hs (k1 := 2) (z := 2) (v := 2) hi (by omega) hN rfl rfl (by decide +kernel) (by decide +kernel) (by decide +kernel) (by decide +kernel) (by decide +kernel) ?_
  refine s_arg hE hs (k1 := 3) (z := 3) (v := 3) hi (by omega) hN rfl rfl (by decide +kernel) (by decide +kernel) (by decide +kernel) (by decide +kernel) (by decide +kernel) ?_
  refine l_callV (R0 := room_1) hE (by decide) (by decide) (hc_offer12 H h1 hm1 (t := (bz (xs (t + 1))).toInt) (p := (xs (t + 2)).toInt) (d := (xs (t + 3)).toInt) (bz01 _) (fl_int _) (fl_int _) A6x k3) (lkL_X12_offer : lkOk RL 164 0 12 4 Q_offer12) h1 hm1.1 hm1.2 rfl rfl (by decide) rfl (by simp only [oI]; rfl) (by simp) (by decide +kernel) (by show k ≤ 600000; omega) (by show n ≤ 7302250; omega) (fun r2 L2 f2 ht2 hp2 => ?_)
  obtain ⟨K2, B2, h2x, e2, hr2, N2⟩ := hp2
  dsimp only at h2x e2 hr2 N2
  subst hr2
  have e12 := extC_2 e1 e2
  have eB : B2 = B := e12.2.1 (by decide)
  have C1 := LF.ext A1 e12 (Or.inl rfl) (by decide) (by decide) (by decide)
  have C2 := MF.ext A2 k1.1 e12 (Or.inl rfl) (by decide) (by decide)
  have C3 := LF.ext A3 e12 (Or.inr rfl) (by decide) (by decide) (by decide)
  have C4 := MF.ext A4 k2.1 e12 (Or.inr rfl) (by decide) (by decide)
  have C5 := LO.ext N1 e2 (Or.inl rfl) (by decide) (by decide) (by decide) (by decide)
  have C6 := N2
  have C7 := LO.ext A7 e12 (Or.inr rfl) (by decide) (by decide) (by decide) (by decide)
  have C8 := MO.ext A8 k4.1 e12 (Or.inr rfl) (by decide) (by decide)
  have hI2 : linv X0.2.2.1 K2 B2 L2 f2 x mm := ⟨h2x, exin e12 hx, exin e12 hm, by omega, _, _, _, _, _, _, _, _, _, _, _, _, _, _, k1, k2, okO_step k3 (xs (t + 2)).toInt (xs (t + 3)).toInt (bz01 _), k4, ⟨C1, C2⟩, ⟨C3, C4⟩, ⟨C5, C6⟩, ⟨C7, C8⟩⟩
  refine x_pop hE (by decide +kernel) rfl ?_
  refine x_goto hE (off := 111) (tgt := 1607) (by decide +kernel) (by decide) ?_
  refine x_widen (k' := k + 11) (n' := n + 1329) (by omega) (by omega) ?_
  exact hend _ _ _ _ hI2 (by omega)
theorem lkL_X11_market : lkOk RL 165 0 11 2 (mt 47) := (show lkOk RL 165 0 11 2 (yX11_market, cX11_market, 4, (some .int)) from ⟨⟨q113, q1331, by decide, by decide, by decide⟩, ⟨q1328, q1329, ⟨RX11, TX11, 7, rfl, q1330⟩, by decide +kernel⟩⟩)
theorem lkL_X12_market : lkOk RL 168 0 12 2 (mt 136) := (show lkOk RL 168 0 12 2 (yX12_market, cX12_market, 4, (some .int)) from ⟨⟨q124, q2056, by decide, by decide, by decide⟩, ⟨q2053, q2054, ⟨RX12, TX12, 53, rfl, q2055⟩, by decide +kernel⟩⟩)
theorem lc_market {E : zCx} {X0 : zC0} {b N x mm k n : Nat} {xs : Nat → Int32} {K : Nat → Nat} {B : Int} {L : List Nat} {f : Nat → va_E} {t : Nat} {i : Int32} (hE : zOk E X0 RL cL_law 4 room_1) (hs : zSc E b N xs) (hN : N ≤ 3584) (H : ∀ j, j < 427 → CMj X0 j) (hi : i.toInt = t) (ht : t + 7 ≤ N) (hI : linv X0.2.2.1 K B L f x mm) (hB : B ≤ 2000900000) (hk : k + 11 ≤ 600000) (hn : n + 1329 ≤ 7302250) (hend : ∀ K' B' L' f', linv X0.2.2.1 K' B' L' f' x mm → B' ≤ B + 192000 → eW E (k + 11) (n + 1329) L' f' 1607 (lvL b x mm i) []) : eW E k n L f 1499 (lvL b x mm i) [] := by
  obtain ⟨hh, hx, hm, hB0, c, v, h, c2, v2, h2, o, b1, p, d, o2, b2, p2, d2, k1, k2, k3, k4, ⟨A1, A2⟩, ⟨A3, A4⟩, ⟨A5, A6⟩, ⟨A7, A8⟩⟩ := hI
  refine x_aload_n hE (z := 1) (i := 1) (x := x) (by decide +kernel) rfl (by simp [lvL]) ?_
  refine s_arg hE hs (k1 := 1) (z := 1) (v := 1) hi (by omega) hN rfl rfl (by decide +kernel) (by decide +kernel) (by decide +kernel) (by decide +kernel) (by decide +kernel) ?_
  refine l_callV (R0 := room_1) hE (by decide) (by decide) (hc_mkt11 H hh hx (t := (xs (t + 1)).toInt) (fl_int _) A5 k3) (lkL_X11_market : lkOk RL 165 0 11 2 Q_mkt11) hh hx.1 hx.2 rfl rfl (by decide) rfl (by simp only [oI]; rfl) (by simp) (by decide +kernel) (by show k ≤ 600000; omega) (by show n ≤ 7302250; omega) (fun r1 L1 f1 ht1 hp1 => ?_)
  obtain ⟨K1, B1, h1, e1, hr1⟩ := hp1
  dsimp only at h1 e1 hr1
  subst hr1
  have hm1 := exin e1 hm
  have A6x := MO.ext A6 k3.1 e1 (Or.inl rfl) (by decide) (by decide)
  refine x_aload_n hE (z := 2) (i := 2) (x := mm) (by decide +kernel) rfl (by simp [lvL]) ?_
  refine s_arg hE hs (k1 := 1) (z := 1) (v := 1) hi (by omega) hN rfl rfl (by decide +kernel) (by decide +kernel) (by decide +kernel) (by decide +kernel) (by decide +kernel) ?_
  refine l_callV (R0 := room_1) hE (by decide) (by decide) (hc_mkt12 H h1 hm1 (t := (xs (t + 1)).toInt) (fl_int _) A6x k3) (lkL_X12_market : lkOk RL 168 0 12 2 Q_mkt12) h1 hm1.1 hm1.2 rfl rfl (by decide) rfl (by simp only [oI]; rfl) (by simp [ePush, Value.category]) (by decide +kernel) (by show k ≤ 600000; omega) (by show n ≤ 7302250; omega) (fun r2 L2 f2 ht2 hp2 => ?_)
  obtain ⟨K2, B2, h2x, e2, hr2⟩ := hp2
  dsimp only at h2x e2 hr2
  subst hr2
  have e12 := extC_2 e1 e2
  have eB : B2 = B := e12.2.1 (by decide)
  have C1 := LF.ext A1 e12 (Or.inl rfl) (by decide) (by decide) (by decide)
  have C2 := MF.ext A2 k1.1 e12 (Or.inl rfl) (by decide) (by decide)
  have C3 := LF.ext A3 e12 (Or.inr rfl) (by decide) (by decide) (by decide)
  have C4 := MF.ext A4 k2.1 e12 (Or.inr rfl) (by decide) (by decide)
  have C5 := LO.ext A5 e12 (Or.inl rfl) (by decide) (by decide) (by decide) (by decide)
  have C6 := MO.ext A6 k3.1 e12 (Or.inl rfl) (by decide) (by decide)
  have C7 := LO.ext A7 e12 (Or.inr rfl) (by decide) (by decide) (by decide) (by decide)
  have C8 := MO.ext A8 k4.1 e12 (Or.inr rfl) (by decide) (by decide)
  have hI2 : linv X0.2.2.1 K2 B2 L2 f2 x mm := ⟨h2x, exin e12 hx, exin e12 hm, by omega, _, _, _, _, _, _, _, _, _, _, _, _, _, _, k1, k2, k3, k4, ⟨C1, C2⟩, ⟨C3, C4⟩, ⟨C5, C6⟩, ⟨C7, C8⟩⟩
  refine x_icmp_eq hE (off := 90) (tgt := 1607) (by decide +kernel) (by decide) (fun _ => ?_) (fun hne => absurd rfl hne)
  refine x_widen (k' := k + 11) (n' := n + 1329) (by omega) (by omega) ?_
  exact hend _ _ _ _ hI2 (by omega)
theorem lkL_X11_greatestTax : lkOk RL 169 0 11 2 (mt 40) := (show lkOk RL 169 0 11 2 (yX11_greatestTax, cX11_greatestTax, 2, (some .int)) from ⟨⟨q113, q1340, by decide, by decide, by decide⟩, ⟨q1337, q1338, ⟨RX11, TX11, 7, rfl, q1339⟩, by decide +kernel⟩⟩)
theorem lkL_X12_greatestTax : lkOk RL 172 0 12 2 (mt 116) := (show lkOk RL 172 0 12 2 (yX12_greatestTax, cX12_greatestTax, 6, (some .int)) from ⟨⟨q124, q2064, by decide, by decide, by decide⟩, ⟨q2061, q2062, ⟨RX12, TX12, 53, rfl, q2063⟩, by decide +kernel⟩⟩)
theorem lwc_greatestTax : lawCk 0 [fB] c115 c363 1528 1538 = true := by decide +kernel
theorem lc_greatestTax {E : zCx} {X0 : zC0} {b N x mm k n : Nat} {xs : Nat → Int32} {K : Nat → Nat} {B : Int} {L : List Nat} {f : Nat → va_E} {t : Nat} {i : Int32} (hE : zOk E X0 RL cL_law 4 room_1) (hs : zSc E b N xs) (hN : N ≤ 3584) (H : ∀ j, j < 427 → CMj X0 j) (hi : i.toInt = t) (ht : t + 7 ≤ N) (hI : linv X0.2.2.1 K B L f x mm) (hB : B ≤ 2000900000) (hk : k + 11 ≤ 600000) (hn : n + 1329 ≤ 7302250) (hend : ∀ K' B' L' f', linv X0.2.2.1 K' B' L' f' x mm → B' ≤ B + 192000 → eW E (k + 11) (n + 1329) L' f' 1607 (lvL b x mm i) []) : eW E k n L f 1522 (lvL b x mm i) [] := by
  refine x_aload_n hE (z := 1) (i := 1) (x := x) (by decide +kernel) rfl (by simp [lvL]) ?_
  refine s_arg hE hs (k1 := 1) (z := 1) (v := 1) hi (by omega) hN rfl rfl (by decide +kernel) (by decide +kernel) (by decide +kernel) (by decide +kernel) (by decide +kernel) ?_
  refine law_fst (cy := X0.2.2.1) (bs := [fB]) (vs := [xs (t + 1)]) (t := 0) hE (by decide) (by decide) rfl (H 115 (by decide) 40 _ rfl) lkL_X11_greatestTax (by decide +kernel) (by decide) hI hB ⟨fl_int _, trivial⟩ lwc_greatestTax hk hn (fun c v h d v2 h2 o b1 p r o2 b2 p2 r2 k1 k2 k3 k4 hr hkr K1 B1 L1 f1 ν1 μ1 G1 w1 hv1 hw1 hck1 => ?_)
  obtain ⟨a1, rfl⟩ := hv1
  refine x_pop hE (by decide +kernel) rfl ?_
  refine x_aload_n hE (z := 2) (i := 2) (x := mm) (by decide +kernel) rfl (by simp [lvL]) ?_
  refine s_arg hE hs (k1 := 1) (z := 1) (v := 1) hi (by omega) hN rfl rfl (by decide +kernel) (by decide +kernel) (by decide +kernel) (by decide +kernel) (by decide +kernel) ?_
  refine law_snd (cy := X0.2.2.1) (bs := [fB]) (vs := [xs (t + 1)]) (t := 0) hE (by decide) (by decide) rfl (H 363 (by decide) 116 _ rfl) lkL_X12_greatestTax (by decide +kernel) (by decide) rfl hw1 hck1 hk hn k1 k2 k3 k4 hr hkr (List.mem_cons_self ..) (fun K2 B2 L2 f2 v2 hv2 hI2 hB2 => ?_)
  obtain ⟨a2, rfl⟩ := hv2
  refine x_pop hE (by decide +kernel) rfl ?_
  refine x_goto hE (off := 65) (tgt := 1607) (by decide +kernel) (by decide) ?_
  exact hend _ _ _ _ hI2 hB2
theorem lkL_X11_water : lkOk RL 173 0 11 1 (mt 67) := (show lkOk RL 173 0 11 1 (yX11_water, cX11_water, 4, (some .int)) from ⟨⟨q113, q1353, by decide, by decide, by decide⟩, ⟨q1350, q1351, ⟨RX11, TX11, 7, rfl, q1352⟩, by decide +kernel⟩⟩)
theorem lkL_X12_water : lkOk RL 176 0 12 1 (mt 196) := (show lkOk RL 176 0 12 1 (yX12_water, cX12_water, 3, (some .int)) from ⟨⟨q124, q2068, by decide, by decide, by decide⟩, ⟨q2065, q2066, ⟨RX12, TX12, 53, rfl, q2067⟩, by decide +kernel⟩⟩)
theorem lwc_water : lawCk 0 [] c285 c417 1546 1551 = true := by decide +kernel
theorem lc_water {E : zCx} {X0 : zC0} {b N x mm k n : Nat} {xs : Nat → Int32} {K : Nat → Nat} {B : Int} {L : List Nat} {f : Nat → va_E} {t : Nat} {i : Int32} (hE : zOk E X0 RL cL_law 4 room_1) (hs : zSc E b N xs) (hN : N ≤ 3584) (H : ∀ j, j < 427 → CMj X0 j) (hi : i.toInt = t) (ht : t + 7 ≤ N) (hI : linv X0.2.2.1 K B L f x mm) (hB : B ≤ 2000900000) (hk : k + 11 ≤ 600000) (hn : n + 1329 ≤ 7302250) (hend : ∀ K' B' L' f', linv X0.2.2.1 K' B' L' f' x mm → B' ≤ B + 192000 → eW E (k + 11) (n + 1329) L' f' 1607 (lvL b x mm i) []) : eW E k n L f 1545 (lvL b x mm i) [] := by
  refine x_aload_n hE (z := 1) (i := 1) (x := x) (by decide +kernel) rfl (by simp [lvL]) ?_
  refine law_fst (cy := X0.2.2.1) (bs := []) (vs := []) (t := 0) hE (by decide) (by decide) rfl (H 285 (by decide) 67 _ rfl) lkL_X11_water (by decide +kernel) (by decide) hI hB trivial lwc_water hk hn (fun c v h d v2 h2 o b1 p r o2 b2 p2 r2 k1 k2 k3 k4 hr hkr K1 B1 L1 f1 ν1 μ1 G1 w1 hv1 hw1 hck1 => ?_)
  obtain ⟨a1, rfl⟩ := hv1
  refine x_pop hE (by decide +kernel) rfl ?_
  refine x_aload_n hE (z := 2) (i := 2) (x := mm) (by decide +kernel) rfl (by simp [lvL]) ?_
  refine law_snd (cy := X0.2.2.1) (bs := []) (vs := []) (t := 0) hE (by decide) (by decide) rfl (H 417 (by decide) 196 _ rfl) lkL_X12_water (by decide +kernel) (by decide) rfl hw1 hck1 hk hn k1 k2 k3 k4 hr hkr (List.mem_cons_self ..) (fun K2 B2 L2 f2 v2 hv2 hI2 hB2 => ?_)
  obtain ⟨a2, rfl⟩ := hv2
  refine x_pop hE (by decide +kernel) rfl ?_
  refine x_goto hE (off := 52) (tgt := 1607) (by decide +kernel) (by decide) ?_
  exact hend _ _ _ _ hI2 hB2
theorem lkL_X11_image : lkOk RL 177 0 11 1 (mt 43) := (show lkOk RL 177 0 11 1 (yX11_image, cX11_image, 1, (some .int)) from ⟨⟨q113, q1357, by decide, by decide, by decide⟩, ⟨q1354, q1355, ⟨RX11, TX11, 7, rfl, q1356⟩, by decide +kernel⟩⟩)
theorem lkL_X12_image : lkOk RL 180 0 12 1 (mt 120) := (show lkOk RL 180 0 12 1 (yX12_image, cX12_image, 1, (some .int)) from ⟨⟨q124, q2072, by decide, by decide, by decide⟩, ⟨q2069, q2070, ⟨RX12, TX12, 53, rfl, q2071⟩, by decide +kernel⟩⟩)
theorem lc_image {E : zCx} {X0 : zC0} {b N x mm k n : Nat} {xs : Nat → Int32} {K : Nat → Nat} {B : Int} {L : List Nat} {f : Nat → va_E} {t : Nat} {i : Int32} (hE : zOk E X0 RL cL_law 4 room_1) (hs : zSc E b N xs) (hN : N ≤ 3584) (H : ∀ j, j < 427 → CMj X0 j) (hi : i.toInt = t) (ht : t + 7 ≤ N) (hI : linv X0.2.2.1 K B L f x mm) (hB : B ≤ 2000900000) (hk : k + 11 ≤ 600000) (hn : n + 1329 ≤ 7302250) (hend : ∀ K' B' L' f', linv X0.2.2.1 K' B' L' f' x mm → B' ≤ B + 192000 → eW E (k + 11) (n + 1329) L' f' 1607 (lvL b x mm i) []) : eW E k n L f 1558 (lvL b x mm i) [] := by
  obtain ⟨hh, hx, hm, hB0, c, v, h, c2, v2, h2, o, b1, p, d, o2, b2, p2, d2, k1, k2, k3, k4, ⟨A1, A2⟩, ⟨A3, A4⟩, ⟨A5, A6⟩, ⟨A7, A8⟩⟩ := hI
  refine x_aload_n hE (z := 1) (i := 1) (x := x) (by decide +kernel) rfl (by simp [lvL]) ?_
  refine l_callV (R0 := room_1) hE (by decide) (by decide) (hc_image11 H hh hx A1 A5 k1 k3) (lkL_X11_image : lkOk RL 177 0 11 1 Q_image11) hh hx.1 hx.2 rfl rfl (by decide) rfl rfl (by simp) (by decide +kernel) (by show k ≤ 600000; omega) (by show n ≤ 7302250; omega) (fun r1 L1 f1 ht1 hp1 => ?_)
  obtain ⟨K1, B1, h1, e1, N1, P1⟩ := hp1
  dsimp only at h1 e1 N1 P1
  obtain ⟨a1, rfl⟩ := ht1
  refine x_pop hE (by decide +kernel) rfl ?_
  have hm1 := exin e1 hm
  have A2x := MF.ext A2 k1.1 e1 (Or.inl rfl) (by decide) (by decide)
  have A6x := MO.ext A6 k3.1 e1 (Or.inl rfl) (by decide) (by decide)
  refine x_aload_n hE (z := 2) (i := 2) (x := mm) (by decide +kernel) rfl (by simp [lvL]) ?_
  refine l_callV (R0 := room_1) hE (by decide) (by decide) (hc_image12 H h1 hm1 A2x A6x k1 k3) (lkL_X12_image : lkOk RL 180 0 12 1 Q_image12) h1 hm1.1 hm1.2 rfl rfl (by decide) rfl rfl (by simp) (by decide +kernel) (by show k ≤ 600000; omega) (by show n ≤ 7302250; omega) (fun r2 L2 f2 ht2 hp2 => ?_)
  obtain ⟨K2, B2, h2x, e2, N2, P2⟩ := hp2
  dsimp only at h2x e2 N2 P2
  obtain ⟨a2, rfl⟩ := ht2
  have e12 := extC_2 e1 e2
  have eB : B2 = B := e12.2.1 (by decide)
  have C1 := LF.ext A1 e12 (Or.inl rfl) (by decide) (by decide) (by decide)
  have C2 := MF.ext A2 k1.1 e12 (Or.inl rfl) (by decide) (by decide)
  have C3 := LF.ext N1 e2 (Or.inr rfl) (by decide) (by decide) (by decide)
  have C4 := N2
  have C5 := LO.ext A5 e12 (Or.inl rfl) (by decide) (by decide) (by decide) (by decide)
  have C6 := MO.ext A6 k3.1 e12 (Or.inl rfl) (by decide) (by decide)
  have C7 := LO.ext P1 e2 (Or.inr rfl) (by decide) (by decide) (by decide) (by decide)
  have C8 := P2
  have hI2 : linv X0.2.2.1 K2 B2 L2 f2 x mm := ⟨h2x, exin e12 hx, exin e12 hm, by omega, _, _, _, _, _, _, _, _, _, _, _, _, _, _, k1, k1, k3, k3, ⟨C1, C2⟩, ⟨C3, C4⟩, ⟨C5, C6⟩, ⟨C7, C8⟩⟩
  refine x_pop hE (by decide +kernel) rfl ?_
  refine x_goto hE (off := 39) (tgt := 1607) (by decide +kernel) (by decide) ?_
  refine x_widen (k' := k + 11) (n' := n + 1329) (by omega) (by omega) ?_
  exact hend _ _ _ _ hI2 (by omega)
theorem lkL_X11_back : lkOk RL 181 0 11 1 (mt 22) := (show lkOk RL 181 0 11 1 (yX11_back, cX11_back, 1, (some .int)) from ⟨⟨q113, q1380, by decide, by decide, by decide⟩, ⟨q1377, q1378, ⟨RX11, TX11, 7, rfl, q1379⟩, by decide +kernel⟩⟩)
theorem lkL_X12_back : lkOk RL 184 0 12 1 (mt 75) := (show lkOk RL 184 0 12 1 (yX12_back, cX12_back, 1, (some .int)) from ⟨⟨q124, q2076, by decide, by decide, by decide⟩, ⟨q2073, q2074, ⟨RX12, TX12, 53, rfl, q2075⟩, by decide +kernel⟩⟩)
theorem lc_back {E : zCx} {X0 : zC0} {b N x mm k n : Nat} {xs : Nat → Int32} {K : Nat → Nat} {B : Int} {L : List Nat} {f : Nat → va_E} {t : Nat} {i : Int32} (hE : zOk E X0 RL cL_law 4 room_1) (hs : zSc E b N xs) (hN : N ≤ 3584) (H : ∀ j, j < 427 → CMj X0 j) (hi : i.toInt = t) (ht : t + 7 ≤ N) (hI : linv X0.2.2.1 K B L f x mm) (hB : B ≤ 2000900000) (hk : k + 11 ≤ 600000) (hn : n + 1329 ≤ 7302250) (hend : ∀ K' B' L' f', linv X0.2.2.1 K' B' L' f' x mm → B' ≤ B + 192000 → eW E (k + 11) (n + 1329) L' f' 1607 (lvL b x mm i) []) : eW E k n L f 1571 (lvL b x mm i) [] := by
  obtain ⟨hh, hx, hm, hB0, c, v, h, c2, v2, h2, o, b1, p, d, o2, b2, p2, d2, k1, k2, k3, k4, ⟨A1, A2⟩, ⟨A3, A4⟩, ⟨A5, A6⟩, ⟨A7, A8⟩⟩ := hI
  refine x_aload_n hE (z := 1) (i := 1) (x := x) (by decide +kernel) rfl (by simp [lvL]) ?_
  refine l_callV (R0 := room_1) hE (by decide) (by decide) (hc_back11 H hh hx A3 A7 k2 k4) (lkL_X11_back : lkOk RL 181 0 11 1 Q_back11) hh hx.1 hx.2 rfl rfl (by decide) rfl rfl (by simp) (by decide +kernel) (by show k ≤ 600000; omega) (by show n ≤ 7302250; omega) (fun r1 L1 f1 ht1 hp1 => ?_)
  obtain ⟨K1, B1, h1, e1, N1, P1⟩ := hp1
  dsimp only at h1 e1 N1 P1
  obtain ⟨a1, rfl⟩ := ht1
  refine x_pop hE (by decide +kernel) rfl ?_
  have hm1 := exin e1 hm
  have A4x := MF.ext A4 k2.1 e1 (Or.inr rfl) (by decide) (by decide)
  have A8x := MO.ext A8 k4.1 e1 (Or.inr rfl) (by decide) (by decide)
  refine x_aload_n hE (z := 2) (i := 2) (x := mm) (by decide +kernel) rfl (by simp [lvL]) ?_
  refine l_callV (R0 := room_1) hE (by decide) (by decide) (hc_back12 H h1 hm1 A4x A8x k2 k4) (lkL_X12_back : lkOk RL 184 0 12 1 Q_back12) h1 hm1.1 hm1.2 rfl rfl (by decide) rfl rfl (by simp) (by decide +kernel) (by show k ≤ 600000; omega) (by show n ≤ 7302250; omega) (fun r2 L2 f2 ht2 hp2 => ?_)
  obtain ⟨K2, B2, h2x, e2, N2, P2⟩ := hp2
  dsimp only at h2x e2 N2 P2
  obtain ⟨a2, rfl⟩ := ht2
  have e12 := extC_2 e1 e2
  have eB : B2 = B := e12.2.1 (by decide)
  have C1 := LF.ext N1 e2 (Or.inl rfl) (by decide) (by decide) (by decide)
  have C2 := N2
  have C3 := LF.ext A3 e12 (Or.inr rfl) (by decide) (by decide) (by decide)
  have C4 := MF.ext A4 k2.1 e12 (Or.inr rfl) (by decide) (by decide)
  have C5 := LO.ext P1 e2 (Or.inl rfl) (by decide) (by decide) (by decide) (by decide)
  have C6 := P2
  have C7 := LO.ext A7 e12 (Or.inr rfl) (by decide) (by decide) (by decide) (by decide)
  have C8 := MO.ext A8 k4.1 e12 (Or.inr rfl) (by decide) (by decide)
  have hI2 : linv X0.2.2.1 K2 B2 L2 f2 x mm := ⟨h2x, exin e12 hx, exin e12 hm, by omega, _, _, _, _, _, _, _, _, _, _, _, _, _, _, k2, k2, k4, k4, ⟨C1, C2⟩, ⟨C3, C4⟩, ⟨C5, C6⟩, ⟨C7, C8⟩⟩
  refine x_pop hE (by decide +kernel) rfl ?_
  refine x_goto hE (off := 26) (tgt := 1607) (by decide +kernel) (by decide) ?_
  refine x_widen (k' := k + 11) (n' := n + 1329) (by omega) (by omega) ?_
  exact hend _ _ _ _ hI2 (by omega)
theorem lkL_X11_about : lkOk RL 185 0 11 2 (mt 21) := (show lkOk RL 185 0 11 2 (yX11_about, cX11_about, 3, (some .int)) from ⟨⟨q113, q1384, by decide, by decide, by decide⟩, ⟨q1381, q1382, ⟨RX11, TX11, 7, rfl, q1383⟩, by decide +kernel⟩⟩)
theorem lkL_X12_about : lkOk RL 188 0 12 2 (mt 71) := (show lkOk RL 188 0 12 2 (yX12_about, cX12_about, 2, (some .int)) from ⟨⟨q124, q2080, by decide, by decide, by decide⟩, ⟨q2077, q2078, ⟨RX12, TX12, 53, rfl, q2079⟩, by decide +kernel⟩⟩)
theorem lwc_about : lawCk 0 [fB] c45 c291 1590 1600 = true := by decide +kernel
theorem lc_about {E : zCx} {X0 : zC0} {b N x mm k n : Nat} {xs : Nat → Int32} {K : Nat → Nat} {B : Int} {L : List Nat} {f : Nat → va_E} {t : Nat} {i : Int32} (hE : zOk E X0 RL cL_law 4 room_1) (hs : zSc E b N xs) (hN : N ≤ 3584) (H : ∀ j, j < 427 → CMj X0 j) (hi : i.toInt = t) (ht : t + 7 ≤ N) (hI : linv X0.2.2.1 K B L f x mm) (hB : B ≤ 2000900000) (hk : k + 11 ≤ 600000) (hn : n + 1329 ≤ 7302250) (hend : ∀ K' B' L' f', linv X0.2.2.1 K' B' L' f' x mm → B' ≤ B + 192000 → eW E (k + 11) (n + 1329) L' f' 1607 (lvL b x mm i) []) : eW E k n L f 1584 (lvL b x mm i) [] := by
  refine x_aload_n hE (z := 1) (i := 1) (x := x) (by decide +kernel) rfl (by simp [lvL]) ?_
  refine s_arg hE hs (k1 := 1) (z := 1) (v := 1) hi (by omega) hN rfl rfl (by decide +kernel) (by decide +kernel) (by decide +kernel) (by decide +kernel) (by decide +kernel) ?_
  refine law_fst (cy := X0.2.2.1) (bs := [fB]) (vs := [xs (t + 1)]) (t := 0) hE (by decide) (by decide) rfl (H 45 (by decide) 21 _ rfl) lkL_X11_about (by decide +kernel) (by decide) hI hB ⟨fl_int _, trivial⟩ lwc_about hk hn (fun c v h d v2 h2 o b1 p r o2 b2 p2 r2 k1 k2 k3 k4 hr hkr K1 B1 L1 f1 ν1 μ1 G1 w1 hv1 hw1 hck1 => ?_)
  obtain ⟨a1, rfl⟩ := hv1
  refine x_pop hE (by decide +kernel) rfl ?_
  refine x_aload_n hE (z := 2) (i := 2) (x := mm) (by decide +kernel) rfl (by simp [lvL]) ?_
  refine s_arg hE hs (k1 := 1) (z := 1) (v := 1) hi (by omega) hN rfl rfl (by decide +kernel) (by decide +kernel) (by decide +kernel) (by decide +kernel) (by decide +kernel) ?_
  refine law_snd (cy := X0.2.2.1) (bs := [fB]) (vs := [xs (t + 1)]) (t := 0) hE (by decide) (by decide) rfl (H 291 (by decide) 71 _ rfl) lkL_X12_about (by decide +kernel) (by decide) rfl hw1 hck1 hk hn k1 k2 k3 k4 hr hkr (List.mem_cons_self ..) (fun K2 B2 L2 f2 v2 hv2 hI2 hB2 => ?_)
  obtain ⟨a2, rfl⟩ := hv2
  refine x_pop hE (by decide +kernel) rfl ?_
  refine x_goto hE (off := 3) (tgt := 1607) (by decide +kernel) (by decide) ?_
  exact hend _ _ _ _ hI2 hB2
