/-! Cases of the law. -/
theorem lkL_X11_near : lkOk RL 134 0 11 2 (mt 50) := (show lkOk RL 134 0 11 2 (yX11_near, cX11_near, 4, (some .int)) from ⟨⟨q113, q1275, by decide, by decide, by decide⟩, ⟨q1272, q1273, ⟨RX11, TX11, 7, rfl, q1274⟩, by decide +kernel⟩⟩)
theorem lkL_X12_near : lkOk RL 137 0 12 2 (mt 141) := (show lkOk RL 137 0 12 2 (yX12_near, cX12_near, 4, (some .int)) from ⟨⟨q124, q2015, by decide, by decide, by decide⟩, ⟨q2012, q2013, ⟨RX12, TX12, 53, rfl, q2014⟩, by decide +kernel⟩⟩)
theorem lwc_near : lawCk false 0 [fB] c132 c399 1208 1218 = true := by decide +kernel
theorem lc_near {E : zCx} {X0 : zC0} {b N x mm k n : Nat} {xs : Nat → Int32} {K : Nat → Nat} {B : Int} {L : List Nat} {f : Nat → va_E} {t : Nat} {i : Int32} (hE : zOk E X0 RL cL_law 4 room_1) (hs : zSc E b N xs) (hN : N ≤ 3584) (H : ∀ j, j < 420 → CMj X0 j) (hi : i.toInt = t) (ht : t + 7 ≤ N) (hI : linv X0.2.2.1 K B L f x mm) (hB : B ≤ 2000900000) (hk : k + 11 ≤ 600000) (hn : n + 1329 ≤ 7302250) (hend : ∀ K' B' L' f', linv X0.2.2.1 K' B' L' f' x mm → B' ≤ B + 192000 → eW E (k + 11) (n + 1329) L' f' 1607 (lvL b x mm i) []) : eW E k n L f 1202 (lvL b x mm i) [] := by
  refine x_aload_n hE (z := 1) (i := 1) (x := x) (by decide +kernel) rfl (by simp [lvL]) ?_
  refine s_arg hE hs (k1 := 1) (z := 1) (v := 1) hi (by omega) hN rfl rfl (by decide +kernel) (by decide +kernel) (by decide +kernel) (by decide +kernel) (by decide +kernel) ?_
  refine law_fst (cy := X0.2.2.1) (bs := [fB]) (vs := [xs (t + 1)]) (cmp := false) (t := 0) hE (by decide) (by decide) rfl (H 132 (by decide) 50 _ rfl) lkL_X11_near (by decide +kernel) (by decide) hI hB ⟨fl_int _, trivial⟩ lwc_near hk hn (fun c d K1 B1 L1 f1 ν1 μ1 st1 G1 v1 hv1 hw1 hck1 => ?_)
  obtain ⟨a1, rfl⟩ := hv1
  refine x_pop hE (by decide +kernel) rfl ?_
  refine x_aload_n hE (z := 2) (i := 2) (x := mm) (by decide +kernel) rfl (by simp [lvL]) ?_
  refine s_arg hE hs (k1 := 1) (z := 1) (v := 1) hi (by omega) hN rfl rfl (by decide +kernel) (by decide +kernel) (by decide +kernel) (by decide +kernel) (by decide +kernel) ?_
  refine law_snd (cy := X0.2.2.1) (bs := [fB]) (vs := [xs (t + 1)]) (t := 0) hE (by decide) (by decide) rfl (H 399 (by decide) 141 _ rfl) lkL_X12_near (by decide +kernel) (by decide) rfl ⟨hw1.1, hw1.2.1, hw1.2.2.1, hw1.2.2.2.1, rfl, rfl⟩ hck1 hk hn (fun K2 B2 L2 f2 v2 hv2 hI2 hB2 => ?_)
  obtain ⟨a2, rfl⟩ := hv2
  refine x_pop hE (by decide +kernel) rfl ?_
  refine x_goto hE (off := 385) (tgt := 1607) (by decide +kernel) (by decide) ?_
  exact hend _ _ _ _ hI2 hB2
theorem lkL_X11_thieves : lkOk RL 138 0 11 1 (mt 65) := (show lkOk RL 138 0 11 1 (yX11_thieves, cX11_thieves, 6, (some .int)) from ⟨⟨q113, q1283, by decide, by decide, by decide⟩, ⟨q1280, q1281, ⟨RX11, TX11, 7, rfl, q1282⟩, by decide +kernel⟩⟩)
theorem lkL_X12_thieves : lkOk RL 141 0 12 1 (mt 186) := (show lkOk RL 141 0 12 1 (yX12_thieves, cX12_thieves, 5, (some .int)) from ⟨⟨q124, q2023, by decide, by decide, by decide⟩, ⟨q2020, q2021, ⟨RX12, TX12, 53, rfl, q2022⟩, by decide +kernel⟩⟩)
theorem lwc_thieves : lawCk false 0 [] c281 c415 1226 1231 = true := by decide +kernel
theorem lc_thieves {E : zCx} {X0 : zC0} {b N x mm k n : Nat} {xs : Nat → Int32} {K : Nat → Nat} {B : Int} {L : List Nat} {f : Nat → va_E} {t : Nat} {i : Int32} (hE : zOk E X0 RL cL_law 4 room_1) (hs : zSc E b N xs) (hN : N ≤ 3584) (H : ∀ j, j < 420 → CMj X0 j) (hi : i.toInt = t) (ht : t + 7 ≤ N) (hI : linv X0.2.2.1 K B L f x mm) (hB : B ≤ 2000900000) (hk : k + 11 ≤ 600000) (hn : n + 1329 ≤ 7302250) (hend : ∀ K' B' L' f', linv X0.2.2.1 K' B' L' f' x mm → B' ≤ B + 192000 → eW E (k + 11) (n + 1329) L' f' 1607 (lvL b x mm i) []) : eW E k n L f 1225 (lvL b x mm i) [] := by
  refine x_aload_n hE (z := 1) (i := 1) (x := x) (by decide +kernel) rfl (by simp [lvL]) ?_
  refine law_fst (cy := X0.2.2.1) (bs := []) (vs := []) (cmp := false) (t := 0) hE (by decide) (by decide) rfl (H 281 (by decide) 65 _ rfl) lkL_X11_thieves (by decide +kernel) (by decide) hI hB trivial lwc_thieves hk hn (fun c d K1 B1 L1 f1 ν1 μ1 st1 G1 v1 hv1 hw1 hck1 => ?_)
  obtain ⟨a1, rfl⟩ := hv1
  refine x_pop hE (by decide +kernel) rfl ?_
  refine x_aload_n hE (z := 2) (i := 2) (x := mm) (by decide +kernel) rfl (by simp [lvL]) ?_
  refine law_snd (cy := X0.2.2.1) (bs := []) (vs := []) (t := 0) hE (by decide) (by decide) rfl (H 415 (by decide) 186 _ rfl) lkL_X12_thieves (by decide +kernel) (by decide) rfl ⟨hw1.1, hw1.2.1, hw1.2.2.1, hw1.2.2.2.1, rfl, rfl⟩ hck1 hk hn (fun K2 B2 L2 f2 v2 hv2 hI2 hB2 => ?_)
  obtain ⟨a2, rfl⟩ := hv2
  refine x_pop hE (by decide +kernel) rfl ?_
  refine x_goto hE (off := 372) (tgt := 1607) (by decide +kernel) (by decide) ?_
  exact hend _ _ _ _ hI2 hB2
theorem lkL_X11_filling : lkOk RL 142 0 11 7 (mt 35) := (show lkOk RL 142 0 11 7 (yX11_filling, cX11_filling, 15, (some .long)) from ⟨⟨q113, q1287, by decide, by decide, by decide⟩, ⟨q1284, q1285, ⟨RX11, TX11, 7, rfl, q1286⟩, by decide +kernel⟩⟩)
theorem lkL_X12_filling : lkOk RL 146 0 12 7 (mt 107) := (show lkOk RL 146 0 12 7 (yX12_filling, cX12_filling, 12, (some .long)) from ⟨⟨q124, q2027, by decide, by decide, by decide⟩, ⟨q2024, q2025, ⟨RX12, TX12, 53, rfl, q2026⟩, by decide +kernel⟩⟩)
theorem lwc_filling : lawCk false 1 [fB, fB, fB, fB, fB, tB] c97 c350 1278 1322 = true := by decide +kernel
theorem lc_filling {E : zCx} {X0 : zC0} {b N x mm k n : Nat} {xs : Nat → Int32} {K : Nat → Nat} {B : Int} {L : List Nat} {f : Nat → va_E} {t : Nat} {i : Int32} (hE : zOk E X0 RL cL_law 4 room_1) (hs : zSc E b N xs) (hN : N ≤ 3584) (H : ∀ j, j < 420 → CMj X0 j) (hi : i.toInt = t) (ht : t + 7 ≤ N) (hI : linv X0.2.2.1 K B L f x mm) (hB : B ≤ 2000900000) (hk : k + 11 ≤ 600000) (hn : n + 1329 ≤ 7302250) (hend : ∀ K' B' L' f', linv X0.2.2.1 K' B' L' f' x mm → B' ≤ B + 192000 → eW E (k + 11) (n + 1329) L' f' 1607 (lvL b x mm i) []) : eW E k n L f 1238 (lvL b x mm i) [] := by
  refine x_aload_n hE (z := 1) (i := 1) (x := x) (by decide +kernel) rfl (by simp [lvL]) ?_
  refine s_arg hE hs (k1 := 1) (z := 1) (v := 1) hi (by omega) hN rfl rfl (by decide +kernel) (by decide +kernel) (by decide +kernel) (by decide +kernel) (by decide +kernel) ?_
  refine s_arg hE hs (k1 := 2) (z := 2) (v := 2) hi (by omega) hN rfl rfl (by decide +kernel) (by decide +kernel) (by decide +kernel) (by decide +kernel) (by decide +kernel) ?_
  refine s_arg hE hs (k1 := 3) (z := 3) (v := 3) hi (by omega) hN rfl rfl (by decide +kernel) (by decide +kernel) (by decide +kernel) (by decide +kernel) (by decide +kernel) ?_
  refine s_arg hE hs (k1 := 4) (z := 4) (v := 4) hi (by omega) hN rfl rfl (by decide +kernel) (by decide +kernel) (by decide +kernel) (by decide +kernel) (by decide +kernel) ?_
  refine s_arg hE hs (k1 := 5) (z := 5) (v := 5) hi (by omega) hN rfl rfl (by decide +kernel) (by decide +kernel) (by decide +kernel) (by decide +kernel) (by decide +kernel) ?_
  refine s_arg6 hE hs (k1 := 6) (z := 6) (v := 6) hi (by omega) hN (by decide +kernel) rfl (by decide +kernel) (by decide +kernel) (by decide +kernel) (by decide +kernel) (by decide +kernel) ?_
  refine s_bz hE (by decide +kernel) (by decide +kernel) (by decide +kernel) (by decide +kernel) ?_
  refine law_fst (cy := X0.2.2.1) (bs := [fB, fB, fB, fB, fB, tB]) (vs := [xs (t + 1), xs (t + 2), xs (t + 3), xs (t + 4), xs (t + 5), bz (xs (t + 6))]) (cmp := false) (t := 1) hE (by decide) (by decide) rfl (H 97 (by decide) 35 _ rfl) lkL_X11_filling (by decide +kernel) (by decide) hI hB ⟨fl_int _, ⟨fl_int _, ⟨fl_int _, ⟨fl_int _, ⟨fl_int _, ⟨bz_int _, trivial⟩⟩⟩⟩⟩⟩ lwc_filling hk hn (fun c d K1 B1 L1 f1 ν1 μ1 st1 G1 v1 hv1 hw1 hck1 => ?_)
  obtain ⟨a1, rfl⟩ := hv1
  refine x_pop2L hE (by decide +kernel) rfl ?_
  refine x_aload_n hE (z := 2) (i := 2) (x := mm) (by decide +kernel) rfl (by simp [lvL]) ?_
  refine s_arg hE hs (k1 := 1) (z := 1) (v := 1) hi (by omega) hN rfl rfl (by decide +kernel) (by decide +kernel) (by decide +kernel) (by decide +kernel) (by decide +kernel) ?_
  refine s_arg hE hs (k1 := 2) (z := 2) (v := 2) hi (by omega) hN rfl rfl (by decide +kernel) (by decide +kernel) (by decide +kernel) (by decide +kernel) (by decide +kernel) ?_
  refine s_arg hE hs (k1 := 3) (z := 3) (v := 3) hi (by omega) hN rfl rfl (by decide +kernel) (by decide +kernel) (by decide +kernel) (by decide +kernel) (by decide +kernel) ?_
  refine s_arg hE hs (k1 := 4) (z := 4) (v := 4) hi (by omega) hN rfl rfl (by decide +kernel) (by decide +kernel) (by decide +kernel) (by decide +kernel) (by decide +kernel) ?_
  refine s_arg hE hs (k1 := 5) (z := 5) (v := 5) hi (by omega) hN rfl rfl (by decide +kernel) (by decide +kernel) (by decide +kernel) (by decide +kernel) (by decide +kernel) ?_
  refine s_arg6 hE hs (k1 := 6) (z := 6) (v := 6) hi (by omega) hN (by decide +kernel) rfl (by decide +kernel) (by decide +kernel) (by decide +kernel) (by decide +kernel) (by decide +kernel) ?_
  refine s_bz hE (by decide +kernel) (by decide +kernel) (by decide +kernel) (by decide +kernel) ?_
  refine law_snd (cy := X0.2.2.1) (bs := [fB, fB, fB, fB, fB, tB]) (vs := [xs (t + 1), xs (t + 2), xs (t + 3), xs (t + 4), xs (t + 5), bz (xs (t + 6))]) (t := 1) hE (by decide) (by decide) rfl (H 350 (by decide) 107 _ rfl) lkL_X12_filling (by decide +kernel) (by decide) rfl ⟨hw1.1, hw1.2.1, hw1.2.2.1, hw1.2.2.2.1, rfl, rfl⟩ hck1 hk hn (fun K2 B2 L2 f2 v2 hv2 hI2 hB2 => ?_)
  obtain ⟨a2, rfl⟩ := hv2
  refine x_pop2L hE (by decide +kernel) rfl ?_
  refine x_goto hE (off := 281) (tgt := 1607) (by decide +kernel) (by decide) ?_
  exact hend _ _ _ _ hI2 hB2
theorem lkL_X11_forecast : lkOk RL 147 0 11 3 (mt 36) := (show lkOk RL 147 0 11 3 (yX11_forecast, cX11_forecast, 4, (some .int)) from ⟨⟨q113, q1299, by decide, by decide, by decide⟩, ⟨q1296, q1297, ⟨RX11, TX11, 7, rfl, q1298⟩, by decide +kernel⟩⟩)
theorem lkL_X12_forecast : lkOk RL 151 0 12 3 (mt 110) := (show lkOk RL 151 0 12 3 (yX12_forecast, cX12_forecast, 3, (some .int)) from ⟨⟨q124, q2036, by decide, by decide, by decide⟩, ⟨q2033, q2034, ⟨RX12, TX12, 53, rfl, q2035⟩, by decide +kernel⟩⟩)
theorem lwc_forecast0 : lawCk true 0 [((-2147483648), (-2)), tB] c99 c353 1348 1370 = true := by decide +kernel
theorem lwc_forecast1 : lawCk true 0 [((-1), (-1)), tB] c99 c353 1348 1370 = true := by decide +kernel
theorem lwc_forecast2 : lawCk true 0 [(0, 2147483647), tB] c99 c353 1348 1370 = true := by decide +kernel
theorem lc_forecast {E : zCx} {X0 : zC0} {b N x mm k n : Nat} {xs : Nat → Int32} {K : Nat → Nat} {B : Int} {L : List Nat} {f : Nat → va_E} {t : Nat} {i : Int32} (hE : zOk E X0 RL cL_law 4 room_1) (hs : zSc E b N xs) (hN : N ≤ 3584) (H : ∀ j, j < 420 → CMj X0 j) (hi : i.toInt = t) (ht : t + 7 ≤ N) (hI : linv X0.2.2.1 K B L f x mm) (hB : B ≤ 2000900000) (hk : k + 11 ≤ 600000) (hn : n + 1329 ≤ 7302250) (hend : ∀ K' B' L' f', linv X0.2.2.1 K' B' L' f' x mm → B' ≤ B + 192000 → eW E (k + 11) (n + 1329) L' f' 1607 (lvL b x mm i) []) : eW E k n L f 1329 (lvL b x mm i) [] := by
  refine x_aload_n hE (z := 1) (i := 1) (x := x) (by decide +kernel) rfl (by simp [lvL]) ?_
  refine s_arg hE hs (k1 := 1) (z := 1) (v := 1) hi (by omega) hN rfl rfl (by decide +kernel) (by decide +kernel) (by decide +kernel) (by decide +kernel) (by decide +kernel) ?_
  refine s_arg hE hs (k1 := 2) (z := 2) (v := 2) hi (by omega) hN rfl rfl (by decide +kernel) (by decide +kernel) (by decide +kernel) (by decide +kernel) (by decide +kernel) ?_
  refine s_bz hE (by decide +kernel) (by decide +kernel) (by decide +kernel) (by decide +kernel) ?_
  have hF := fl_int (xs (t + 1))
  rcases (show (xs (t + 1)).toInt ≤ -2 ∨ (-1 ≤ (xs (t + 1)).toInt ∧ (xs (t + 1)).toInt ≤ -1) ∨ 0 ≤ (xs (t + 1)).toInt by omega) with hc | hc | hc
  · refine law_fst (cy := X0.2.2.1) (bs := [((-2147483648), (-2)), tB]) (vs := [xs (t + 1), bz (xs (t + 2))]) (cmp := true) (t := 0) hE (by decide) (by decide) rfl (H 99 (by decide) 36 _ rfl) lkL_X11_forecast (by decide +kernel) (by decide) hI hB ⟨⟨hF.1, hc⟩, ⟨bz_int _, trivial⟩⟩ lwc_forecast0 hk hn (fun c d K1 B1 L1 f1 ν1 μ1 st1 G1 v1 hv1 hw1 hck1 => ?_)
    refine x_aload_n hE (z := 2) (i := 2) (x := mm) (by decide +kernel) rfl (by simp [lvL]) ?_
    refine s_arg hE hs (k1 := 1) (z := 1) (v := 1) hi (by omega) hN rfl rfl (by decide +kernel) (by decide +kernel) (by decide +kernel) (by decide +kernel) (by decide +kernel) ?_
    refine s_arg hE hs (k1 := 2) (z := 2) (v := 2) hi (by omega) hN rfl rfl (by decide +kernel) (by decide +kernel) (by decide +kernel) (by decide +kernel) (by decide +kernel) ?_
    refine s_bz hE (by decide +kernel) (by decide +kernel) (by decide +kernel) (by decide +kernel) ?_
    refine law_cmp (cy := X0.2.2.1) (bs := [((-2147483648), (-2)), tB]) (vs := [xs (t + 1), bz (xs (t + 2))]) hE (by decide) (by decide) rfl (H 353 (by decide) 110 _ rfl) lkL_X12_forecast (by decide +kernel) rfl hw1 hck1 hk hn (fun K2 B2 L2 f2 a2 hI2 hB2 => ?_)
    refine x_icmp_eq hE (off := 234) (tgt := 1607) (by decide +kernel) (by decide) (fun _ => ?_) (fun hne => absurd rfl hne)
    exact hend _ _ _ _ hI2 hB2
  · refine law_fst (cy := X0.2.2.1) (bs := [((-1), (-1)), tB]) (vs := [xs (t + 1), bz (xs (t + 2))]) (cmp := true) (t := 0) hE (by decide) (by decide) rfl (H 99 (by decide) 36 _ rfl) lkL_X11_forecast (by decide +kernel) (by decide) hI hB ⟨hc, ⟨bz_int _, trivial⟩⟩ lwc_forecast1 hk hn (fun c d K1 B1 L1 f1 ν1 μ1 st1 G1 v1 hv1 hw1 hck1 => ?_)
    refine x_aload_n hE (z := 2) (i := 2) (x := mm) (by decide +kernel) rfl (by simp [lvL]) ?_
    refine s_arg hE hs (k1 := 1) (z := 1) (v := 1) hi (by omega) hN rfl rfl (by decide +kernel) (by decide +kernel) (by decide +kernel) (by decide +kernel) (by decide +kernel) ?_
    refine s_arg hE hs (k1 := 2) (z := 2) (v := 2) hi (by omega) hN rfl rfl (by decide +kernel) (by decide +kernel) (by decide +kernel) (by decide +kernel) (by decide +kernel) ?_
    refine s_bz hE (by decide +kernel) (by decide +kernel) (by decide +kernel) (by decide +kernel) ?_
    refine law_cmp (cy := X0.2.2.1) (bs := [((-1), (-1)), tB]) (vs := [xs (t + 1), bz (xs (t + 2))]) hE (by decide) (by decide) rfl (H 353 (by decide) 110 _ rfl) lkL_X12_forecast (by decide +kernel) rfl hw1 hck1 hk hn (fun K2 B2 L2 f2 a2 hI2 hB2 => ?_)
    refine x_icmp_eq hE (off := 234) (tgt := 1607) (by decide +kernel) (by decide) (fun _ => ?_) (fun hne => absurd rfl hne)
    exact hend _ _ _ _ hI2 hB2
  · refine law_fst (cy := X0.2.2.1) (bs := [(0, 2147483647), tB]) (vs := [xs (t + 1), bz (xs (t + 2))]) (cmp := true) (t := 0) hE (by decide) (by decide) rfl (H 99 (by decide) 36 _ rfl) lkL_X11_forecast (by decide +kernel) (by decide) hI hB ⟨⟨hc, hF.2⟩, ⟨bz_int _, trivial⟩⟩ lwc_forecast2 hk hn (fun c d K1 B1 L1 f1 ν1 μ1 st1 G1 v1 hv1 hw1 hck1 => ?_)
    refine x_aload_n hE (z := 2) (i := 2) (x := mm) (by decide +kernel) rfl (by simp [lvL]) ?_
    refine s_arg hE hs (k1 := 1) (z := 1) (v := 1) hi (by omega) hN rfl rfl (by decide +kernel) (by decide +kernel) (by decide +kernel) (by decide +kernel) (by decide +kernel) ?_
    refine s_arg hE hs (k1 := 2) (z := 2) (v := 2) hi (by omega) hN rfl rfl (by decide +kernel) (by decide +kernel) (by decide +kernel) (by decide +kernel) (by decide +kernel) ?_
    refine s_bz hE (by decide +kernel) (by decide +kernel) (by decide +kernel) (by decide +kernel) ?_
    refine law_cmp (cy := X0.2.2.1) (bs := [(0, 2147483647), tB]) (vs := [xs (t + 1), bz (xs (t + 2))]) hE (by decide) (by decide) rfl (H 353 (by decide) 110 _ rfl) lkL_X12_forecast (by decide +kernel) rfl hw1 hck1 hk hn (fun K2 B2 L2 f2 a2 hI2 hB2 => ?_)
    refine x_icmp_eq hE (off := 234) (tgt := 1607) (by decide +kernel) (by decide) (fun _ => ?_) (fun hne => absurd rfl hne)
    exact hend _ _ _ _ hI2 hB2
theorem lkL_X11_errors : lkOk RL 152 0 11 3 (mt 31) := (show lkOk RL 152 0 11 3 (yX11_errors, cX11_errors, 3, (some .int)) from ⟨⟨q113, q1307, by decide, by decide, by decide⟩, ⟨q1304, q1305, ⟨RX11, TX11, 7, rfl, q1306⟩, by decide +kernel⟩⟩)
theorem lkL_X12_errors : lkOk RL 155 0 12 3 (mt 99) := (show lkOk RL 155 0 12 3 (yX12_errors, cX12_errors, 3, (some .int)) from ⟨⟨q124, q2040, by decide, by decide, by decide⟩, ⟨q2037, q2038, ⟨RX12, TX12, 53, rfl, q2039⟩, by decide +kernel⟩⟩)
theorem lwc_errors : lawCk false 0 [fB, tB] c92 c344 1397 1420 = true := by decide +kernel
theorem lc_errors {E : zCx} {X0 : zC0} {b N x mm k n : Nat} {xs : Nat → Int32} {K : Nat → Nat} {B : Int} {L : List Nat} {f : Nat → va_E} {t : Nat} {i : Int32} (hE : zOk E X0 RL cL_law 4 room_1) (hs : zSc E b N xs) (hN : N ≤ 3584) (H : ∀ j, j < 420 → CMj X0 j) (hi : i.toInt = t) (ht : t + 7 ≤ N) (hI : linv X0.2.2.1 K B L f x mm) (hB : B ≤ 2000900000) (hk : k + 11 ≤ 600000) (hn : n + 1329 ≤ 7302250) (hend : ∀ K' B' L' f', linv X0.2.2.1 K' B' L' f' x mm → B' ≤ B + 192000 → eW E (k + 11) (n + 1329) L' f' 1607 (lvL b x mm i) []) : eW E k n L f 1378 (lvL b x mm i) [] := by
  refine x_aload_n hE (z := 1) (i := 1) (x := x) (by decide +kernel) rfl (by simp [lvL]) ?_
  refine s_arg hE hs (k1 := 1) (z := 1) (v := 1) hi (by omega) hN rfl rfl (by decide +kernel) (by decide +kernel) (by decide +kernel) (by decide +kernel) (by decide +kernel) ?_
  refine s_arg hE hs (k1 := 2) (z := 2) (v := 2) hi (by omega) hN rfl rfl (by decide +kernel) (by decide +kernel) (by decide +kernel) (by decide +kernel) (by decide +kernel) ?_
  refine s_bz hE (by decide +kernel) (by decide +kernel) (by decide +kernel) (by decide +kernel) ?_
  refine law_fst (cy := X0.2.2.1) (bs := [fB, tB]) (vs := [xs (t + 1), bz (xs (t + 2))]) (cmp := false) (t := 0) hE (by decide) (by decide) rfl (H 92 (by decide) 31 _ rfl) lkL_X11_errors (by decide +kernel) (by decide) hI hB ⟨fl_int _, ⟨bz_int _, trivial⟩⟩ lwc_errors hk hn (fun c d K1 B1 L1 f1 ν1 μ1 st1 G1 v1 hv1 hw1 hck1 => ?_)
  obtain ⟨a1, rfl⟩ := hv1
  refine x_pop hE (by decide +kernel) rfl ?_
  refine x_aload_n hE (z := 2) (i := 2) (x := mm) (by decide +kernel) rfl (by simp [lvL]) ?_
  refine s_arg hE hs (k1 := 1) (z := 1) (v := 1) hi (by omega) hN rfl rfl (by decide +kernel) (by decide +kernel) (by decide +kernel) (by decide +kernel) (by decide +kernel) ?_
  refine s_arg hE hs (k1 := 2) (z := 2) (v := 2) hi (by omega) hN rfl rfl (by decide +kernel) (by decide +kernel) (by decide +kernel) (by decide +kernel) (by decide +kernel) ?_
  refine s_bz hE (by decide +kernel) (by decide +kernel) (by decide +kernel) (by decide +kernel) ?_
  refine law_snd (cy := X0.2.2.1) (bs := [fB, tB]) (vs := [xs (t + 1), bz (xs (t + 2))]) (t := 0) hE (by decide) (by decide) rfl (H 344 (by decide) 99 _ rfl) lkL_X12_errors (by decide +kernel) (by decide) rfl ⟨hw1.1, hw1.2.1, hw1.2.2.1, hw1.2.2.2.1, rfl, rfl⟩ hck1 hk hn (fun K2 B2 L2 f2 v2 hv2 hI2 hB2 => ?_)
  obtain ⟨a2, rfl⟩ := hv2
  refine x_pop hE (by decide +kernel) rfl ?_
  refine x_goto hE (off := 183) (tgt := 1607) (by decide +kernel) (by decide) ?_
  exact hend _ _ _ _ hI2 hB2
theorem lkL_X11_bound : lkOk RL 156 0 11 1 (mt 23) := (show lkOk RL 156 0 11 1 (yX11_bound, cX11_bound, 4, (some .int)) from ⟨⟨q113, q1319, by decide, by decide, by decide⟩, ⟨q1316, q1317, ⟨RX11, TX11, 7, rfl, q1318⟩, by decide +kernel⟩⟩)
theorem lkL_X12_bound : lkOk RL 159 0 12 1 (mt 82) := (show lkOk RL 159 0 12 1 (yX12_bound, cX12_bound, 3, (some .int)) from ⟨⟨q124, q2048, by decide, by decide, by decide⟩, ⟨q2045, q2046, ⟨RX12, TX12, 53, rfl, q2047⟩, by decide +kernel⟩⟩)
theorem lwc_bound : lawCk false 0 [] c52 c327 1428 1433 = true := by decide +kernel
theorem lc_bound {E : zCx} {X0 : zC0} {b N x mm k n : Nat} {xs : Nat → Int32} {K : Nat → Nat} {B : Int} {L : List Nat} {f : Nat → va_E} {t : Nat} {i : Int32} (hE : zOk E X0 RL cL_law 4 room_1) (hs : zSc E b N xs) (hN : N ≤ 3584) (H : ∀ j, j < 420 → CMj X0 j) (hi : i.toInt = t) (ht : t + 7 ≤ N) (hI : linv X0.2.2.1 K B L f x mm) (hB : B ≤ 2000900000) (hk : k + 11 ≤ 600000) (hn : n + 1329 ≤ 7302250) (hend : ∀ K' B' L' f', linv X0.2.2.1 K' B' L' f' x mm → B' ≤ B + 192000 → eW E (k + 11) (n + 1329) L' f' 1607 (lvL b x mm i) []) : eW E k n L f 1427 (lvL b x mm i) [] := by
  refine x_aload_n hE (z := 1) (i := 1) (x := x) (by decide +kernel) rfl (by simp [lvL]) ?_
  refine law_fst (cy := X0.2.2.1) (bs := []) (vs := []) (cmp := false) (t := 0) hE (by decide) (by decide) rfl (H 52 (by decide) 23 _ rfl) lkL_X11_bound (by decide +kernel) (by decide) hI hB trivial lwc_bound hk hn (fun c d K1 B1 L1 f1 ν1 μ1 st1 G1 v1 hv1 hw1 hck1 => ?_)
  obtain ⟨a1, rfl⟩ := hv1
  refine x_pop hE (by decide +kernel) rfl ?_
  refine x_aload_n hE (z := 2) (i := 2) (x := mm) (by decide +kernel) rfl (by simp [lvL]) ?_
  refine law_snd (cy := X0.2.2.1) (bs := []) (vs := []) (t := 0) hE (by decide) (by decide) rfl (H 327 (by decide) 82 _ rfl) lkL_X12_bound (by decide +kernel) (by decide) rfl ⟨hw1.1, hw1.2.1, hw1.2.2.1, hw1.2.2.2.1, rfl, rfl⟩ hck1 hk hn (fun K2 B2 L2 f2 v2 hv2 hI2 hB2 => ?_)
  obtain ⟨a2, rfl⟩ := hv2
  refine x_pop hE (by decide +kernel) rfl ?_
  refine x_goto hE (off := 170) (tgt := 1607) (by decide +kernel) (by decide) ?_
  exact hend _ _ _ _ hI2 hB2
theorem lkL_X11_offer : lkOk RL 160 0 11 4 (mt 54) := (show lkOk RL 160 0 11 4 (yX11_offer, cX11_offer, 5, (some .int)) from ⟨⟨q113, q1323, by decide, by decide, by decide⟩, ⟨q1320, q1321, ⟨RX11, TX11, 7, rfl, q1322⟩, by decide +kernel⟩⟩)
theorem lkL_X12_offer : lkOk RL 164 0 12 4 (mt 149) := (show lkOk RL 164 0 12 4 (yX12_offer, cX12_offer, 5, (some .int)) from ⟨⟨q124, q2052, by decide, by decide, by decide⟩, ⟨q2049, q2050, ⟨RX12, TX12, 53, rfl, q2051⟩, by decide +kernel⟩⟩)
theorem lwc_offer : lawCk false 0 [tB, fB, fB] c136 c404 1464 1492 = true := by decide +kernel
theorem lc_offer {E : zCx} {X0 : zC0} {b N x mm k n : Nat} {xs : Nat → Int32} {K : Nat → Nat} {B : Int} {L : List Nat} {f : Nat → va_E} {t : Nat} {i : Int32} (hE : zOk E X0 RL cL_law 4 room_1) (hs : zSc E b N xs) (hN : N ≤ 3584) (H : ∀ j, j < 420 → CMj X0 j) (hi : i.toInt = t) (ht : t + 7 ≤ N) (hI : linv X0.2.2.1 K B L f x mm) (hB : B ≤ 2000900000) (hk : k + 11 ≤ 600000) (hn : n + 1329 ≤ 7302250) (hend : ∀ K' B' L' f', linv X0.2.2.1 K' B' L' f' x mm → B' ≤ B + 192000 → eW E (k + 11) (n + 1329) L' f' 1607 (lvL b x mm i) []) : eW E k n L f 1440 (lvL b x mm i) [] := by
  refine x_aload_n hE (z := 1) (i := 1) (x := x) (by decide +kernel) rfl (by simp [lvL]) ?_
  refine s_arg hE hs (k1 := 1) (z := 1) (v := 1) hi (by omega) hN rfl rfl (by decide +kernel) (by decide +kernel) (by decide +kernel) (by decide +kernel) (by decide +kernel) ?_
  refine s_bz hE (by decide +kernel) (by decide +kernel) (by decide +kernel) (by decide +kernel) ?_
  refine s_arg hE hs (k1 := 2) (z := 2) (v := 2) hi (by omega) hN rfl rfl (by decide +kernel) (by decide +kernel) (by decide +kernel) (by decide +kernel) (by decide +kernel) ?_
  refine s_arg hE hs (k1 := 3) (z := 3) (v := 3) hi (by omega) hN rfl rfl (by decide +kernel) (by decide +kernel) (by decide +kernel) (by decide +kernel) (by decide +kernel) ?_
  refine law_fst (cy := X0.2.2.1) (bs := [tB, fB, fB]) (vs := [bz (xs (t + 1)), xs (t + 2), xs (t + 3)]) (cmp := false) (t := 0) hE (by decide) (by decide) rfl (H 136 (by decide) 54 _ rfl) lkL_X11_offer (by decide +kernel) (by decide) hI hB ⟨bz_int _, ⟨fl_int _, ⟨fl_int _, trivial⟩⟩⟩ lwc_offer hk hn (fun c d K1 B1 L1 f1 ν1 μ1 st1 G1 v1 hv1 hw1 hck1 => ?_)
  obtain ⟨a1, rfl⟩ := hv1
  refine x_pop hE (by decide +kernel) rfl ?_
  refine x_aload_n hE (z := 2) (i := 2) (x := mm) (by decide +kernel) rfl (by simp [lvL]) ?_
  refine s_arg hE hs (k1 := 1) (z := 1) (v := 1) hi (by omega) hN rfl rfl (by decide +kernel) (by decide +kernel) (by decide +kernel) (by decide +kernel) (by decide +kernel) ?_
  refine s_bz hE (by decide +kernel) (by decide +kernel) (by decide +kernel) (by decide +kernel) ?_
  refine s_arg hE hs (k1 := 2) (z := 2) (v := 2) hi (by omega) hN rfl rfl (by decide +kernel) (by decide +kernel) (by decide +kernel) (by decide +kernel) (by decide +kernel) ?_
  refine s_arg hE hs (k1 := 3) (z := 3) (v := 3) hi (by omega) hN rfl rfl (by decide +kernel) (by decide +kernel) (by decide +kernel) (by decide +kernel) (by decide +kernel) ?_
  refine law_snd (cy := X0.2.2.1) (bs := [tB, fB, fB]) (vs := [bz (xs (t + 1)), xs (t + 2), xs (t + 3)]) (t := 0) hE (by decide) (by decide) rfl (H 404 (by decide) 149 _ rfl) lkL_X12_offer (by decide +kernel) (by decide) rfl ⟨hw1.1, hw1.2.1, hw1.2.2.1, hw1.2.2.2.1, rfl, rfl⟩ hck1 hk hn (fun K2 B2 L2 f2 v2 hv2 hI2 hB2 => ?_)
  obtain ⟨a2, rfl⟩ := hv2
  refine x_pop hE (by decide +kernel) rfl ?_
  refine x_goto hE (off := 111) (tgt := 1607) (by decide +kernel) (by decide) ?_
  exact hend _ _ _ _ hI2 hB2
theorem lkL_X11_market : lkOk RL 165 0 11 2 (mt 47) := (show lkOk RL 165 0 11 2 (yX11_market, cX11_market, 4, (some .int)) from ⟨⟨q113, q1331, by decide, by decide, by decide⟩, ⟨q1328, q1329, ⟨RX11, TX11, 7, rfl, q1330⟩, by decide +kernel⟩⟩)
theorem lkL_X12_market : lkOk RL 168 0 12 2 (mt 136) := (show lkOk RL 168 0 12 2 (yX12_market, cX12_market, 4, (some .int)) from ⟨⟨q124, q2056, by decide, by decide, by decide⟩, ⟨q2053, q2054, ⟨RX12, TX12, 53, rfl, q2055⟩, by decide +kernel⟩⟩)
theorem lwc_market : lawCk false 0 [fB] c122 c389 1505 1515 = true := by decide +kernel
theorem lc_market {E : zCx} {X0 : zC0} {b N x mm k n : Nat} {xs : Nat → Int32} {K : Nat → Nat} {B : Int} {L : List Nat} {f : Nat → va_E} {t : Nat} {i : Int32} (hE : zOk E X0 RL cL_law 4 room_1) (hs : zSc E b N xs) (hN : N ≤ 3584) (H : ∀ j, j < 420 → CMj X0 j) (hi : i.toInt = t) (ht : t + 7 ≤ N) (hI : linv X0.2.2.1 K B L f x mm) (hB : B ≤ 2000900000) (hk : k + 11 ≤ 600000) (hn : n + 1329 ≤ 7302250) (hend : ∀ K' B' L' f', linv X0.2.2.1 K' B' L' f' x mm → B' ≤ B + 192000 → eW E (k + 11) (n + 1329) L' f' 1607 (lvL b x mm i) []) : eW E k n L f 1499 (lvL b x mm i) [] := by
  refine x_aload_n hE (z := 1) (i := 1) (x := x) (by decide +kernel) rfl (by simp [lvL]) ?_
  refine s_arg hE hs (k1 := 1) (z := 1) (v := 1) hi (by omega) hN rfl rfl (by decide +kernel) (by decide +kernel) (by decide +kernel) (by decide +kernel) (by decide +kernel) ?_
  refine law_fst (cy := X0.2.2.1) (bs := [fB]) (vs := [xs (t + 1)]) (cmp := false) (t := 0) hE (by decide) (by decide) rfl (H 122 (by decide) 47 _ rfl) lkL_X11_market (by decide +kernel) (by decide) hI hB ⟨fl_int _, trivial⟩ lwc_market hk hn (fun c d K1 B1 L1 f1 ν1 μ1 st1 G1 v1 hv1 hw1 hck1 => ?_)
  obtain ⟨a1, rfl⟩ := hv1
  refine x_pop hE (by decide +kernel) rfl ?_
  refine x_aload_n hE (z := 2) (i := 2) (x := mm) (by decide +kernel) rfl (by simp [lvL]) ?_
  refine s_arg hE hs (k1 := 1) (z := 1) (v := 1) hi (by omega) hN rfl rfl (by decide +kernel) (by decide +kernel) (by decide +kernel) (by decide +kernel) (by decide +kernel) ?_
  refine law_snd (cy := X0.2.2.1) (bs := [fB]) (vs := [xs (t + 1)]) (t := 0) hE (by decide) (by decide) rfl (H 389 (by decide) 136 _ rfl) lkL_X12_market (by decide +kernel) (by decide) rfl ⟨hw1.1, hw1.2.1, hw1.2.2.1, hw1.2.2.2.1, rfl, rfl⟩ hck1 hk hn (fun K2 B2 L2 f2 v2 hv2 hI2 hB2 => ?_)
  obtain ⟨a2, rfl⟩ := hv2
  refine x_pop hE (by decide +kernel) rfl ?_
  refine x_goto hE (off := 88) (tgt := 1607) (by decide +kernel) (by decide) ?_
  exact hend _ _ _ _ hI2 hB2
theorem lkL_X11_greatestTax : lkOk RL 169 0 11 2 (mt 40) := (show lkOk RL 169 0 11 2 (yX11_greatestTax, cX11_greatestTax, 2, (some .int)) from ⟨⟨q113, q1340, by decide, by decide, by decide⟩, ⟨q1337, q1338, ⟨RX11, TX11, 7, rfl, q1339⟩, by decide +kernel⟩⟩)
theorem lkL_X12_greatestTax : lkOk RL 172 0 12 2 (mt 116) := (show lkOk RL 172 0 12 2 (yX12_greatestTax, cX12_greatestTax, 6, (some .int)) from ⟨⟨q124, q2064, by decide, by decide, by decide⟩, ⟨q2061, q2062, ⟨RX12, TX12, 53, rfl, q2063⟩, by decide +kernel⟩⟩)
theorem lwc_greatestTax : lawCk false 0 [fB] c115 c363 1528 1538 = true := by decide +kernel
theorem lc_greatestTax {E : zCx} {X0 : zC0} {b N x mm k n : Nat} {xs : Nat → Int32} {K : Nat → Nat} {B : Int} {L : List Nat} {f : Nat → va_E} {t : Nat} {i : Int32} (hE : zOk E X0 RL cL_law 4 room_1) (hs : zSc E b N xs) (hN : N ≤ 3584) (H : ∀ j, j < 420 → CMj X0 j) (hi : i.toInt = t) (ht : t + 7 ≤ N) (hI : linv X0.2.2.1 K B L f x mm) (hB : B ≤ 2000900000) (hk : k + 11 ≤ 600000) (hn : n + 1329 ≤ 7302250) (hend : ∀ K' B' L' f', linv X0.2.2.1 K' B' L' f' x mm → B' ≤ B + 192000 → eW E (k + 11) (n + 1329) L' f' 1607 (lvL b x mm i) []) : eW E k n L f 1522 (lvL b x mm i) [] := by
  refine x_aload_n hE (z := 1) (i := 1) (x := x) (by decide +kernel) rfl (by simp [lvL]) ?_
  refine s_arg hE hs (k1 := 1) (z := 1) (v := 1) hi (by omega) hN rfl rfl (by decide +kernel) (by decide +kernel) (by decide +kernel) (by decide +kernel) (by decide +kernel) ?_
  refine law_fst (cy := X0.2.2.1) (bs := [fB]) (vs := [xs (t + 1)]) (cmp := false) (t := 0) hE (by decide) (by decide) rfl (H 115 (by decide) 40 _ rfl) lkL_X11_greatestTax (by decide +kernel) (by decide) hI hB ⟨fl_int _, trivial⟩ lwc_greatestTax hk hn (fun c d K1 B1 L1 f1 ν1 μ1 st1 G1 v1 hv1 hw1 hck1 => ?_)
  obtain ⟨a1, rfl⟩ := hv1
  refine x_pop hE (by decide +kernel) rfl ?_
  refine x_aload_n hE (z := 2) (i := 2) (x := mm) (by decide +kernel) rfl (by simp [lvL]) ?_
  refine s_arg hE hs (k1 := 1) (z := 1) (v := 1) hi (by omega) hN rfl rfl (by decide +kernel) (by decide +kernel) (by decide +kernel) (by decide +kernel) (by decide +kernel) ?_
  refine law_snd (cy := X0.2.2.1) (bs := [fB]) (vs := [xs (t + 1)]) (t := 0) hE (by decide) (by decide) rfl (H 363 (by decide) 116 _ rfl) lkL_X12_greatestTax (by decide +kernel) (by decide) rfl ⟨hw1.1, hw1.2.1, hw1.2.2.1, hw1.2.2.2.1, rfl, rfl⟩ hck1 hk hn (fun K2 B2 L2 f2 v2 hv2 hI2 hB2 => ?_)
  obtain ⟨a2, rfl⟩ := hv2
  refine x_pop hE (by decide +kernel) rfl ?_
  refine x_goto hE (off := 65) (tgt := 1607) (by decide +kernel) (by decide) ?_
  exact hend _ _ _ _ hI2 hB2
theorem lkL_X11_water : lkOk RL 173 0 11 1 (mt 67) := (show lkOk RL 173 0 11 1 (yX11_water, cX11_water, 4, (some .int)) from ⟨⟨q113, q1353, by decide, by decide, by decide⟩, ⟨q1350, q1351, ⟨RX11, TX11, 7, rfl, q1352⟩, by decide +kernel⟩⟩)
theorem lkL_X12_water : lkOk RL 176 0 12 1 (mt 196) := (show lkOk RL 176 0 12 1 (yX12_water, cX12_water, 3, (some .int)) from ⟨⟨q124, q2068, by decide, by decide, by decide⟩, ⟨q2065, q2066, ⟨RX12, TX12, 53, rfl, q2067⟩, by decide +kernel⟩⟩)
theorem lwc_water : lawCk false 0 [] c285 c417 1546 1551 = true := by decide +kernel
theorem lc_water {E : zCx} {X0 : zC0} {b N x mm k n : Nat} {xs : Nat → Int32} {K : Nat → Nat} {B : Int} {L : List Nat} {f : Nat → va_E} {t : Nat} {i : Int32} (hE : zOk E X0 RL cL_law 4 room_1) (hs : zSc E b N xs) (hN : N ≤ 3584) (H : ∀ j, j < 420 → CMj X0 j) (hi : i.toInt = t) (ht : t + 7 ≤ N) (hI : linv X0.2.2.1 K B L f x mm) (hB : B ≤ 2000900000) (hk : k + 11 ≤ 600000) (hn : n + 1329 ≤ 7302250) (hend : ∀ K' B' L' f', linv X0.2.2.1 K' B' L' f' x mm → B' ≤ B + 192000 → eW E (k + 11) (n + 1329) L' f' 1607 (lvL b x mm i) []) : eW E k n L f 1545 (lvL b x mm i) [] := by
  refine x_aload_n hE (z := 1) (i := 1) (x := x) (by decide +kernel) rfl (by simp [lvL]) ?_
  refine law_fst (cy := X0.2.2.1) (bs := []) (vs := []) (cmp := false) (t := 0) hE (by decide) (by decide) rfl (H 285 (by decide) 67 _ rfl) lkL_X11_water (by decide +kernel) (by decide) hI hB trivial lwc_water hk hn (fun c d K1 B1 L1 f1 ν1 μ1 st1 G1 v1 hv1 hw1 hck1 => ?_)
  obtain ⟨a1, rfl⟩ := hv1
  refine x_pop hE (by decide +kernel) rfl ?_
  refine x_aload_n hE (z := 2) (i := 2) (x := mm) (by decide +kernel) rfl (by simp [lvL]) ?_
  refine law_snd (cy := X0.2.2.1) (bs := []) (vs := []) (t := 0) hE (by decide) (by decide) rfl (H 417 (by decide) 196 _ rfl) lkL_X12_water (by decide +kernel) (by decide) rfl ⟨hw1.1, hw1.2.1, hw1.2.2.1, hw1.2.2.2.1, rfl, rfl⟩ hck1 hk hn (fun K2 B2 L2 f2 v2 hv2 hI2 hB2 => ?_)
  obtain ⟨a2, rfl⟩ := hv2
  refine x_pop hE (by decide +kernel) rfl ?_
  refine x_goto hE (off := 52) (tgt := 1607) (by decide +kernel) (by decide) ?_
  exact hend _ _ _ _ hI2 hB2
theorem lkL_X11_image : lkOk RL 177 0 11 1 (mt 43) := (show lkOk RL 177 0 11 1 (yX11_image, cX11_image, 1, (some .int)) from ⟨⟨q113, q1357, by decide, by decide, by decide⟩, ⟨q1354, q1355, ⟨RX11, TX11, 7, rfl, q1356⟩, by decide +kernel⟩⟩)
theorem lkL_X12_image : lkOk RL 180 0 12 1 (mt 120) := (show lkOk RL 180 0 12 1 (yX12_image, cX12_image, 1, (some .int)) from ⟨⟨q124, q2072, by decide, by decide, by decide⟩, ⟨q2069, q2070, ⟨RX12, TX12, 53, rfl, q2071⟩, by decide +kernel⟩⟩)
theorem lwc_image : lawCk false 0 [] c119 c370 1559 1564 = true := by decide +kernel
theorem lc_image {E : zCx} {X0 : zC0} {b N x mm k n : Nat} {xs : Nat → Int32} {K : Nat → Nat} {B : Int} {L : List Nat} {f : Nat → va_E} {t : Nat} {i : Int32} (hE : zOk E X0 RL cL_law 4 room_1) (hs : zSc E b N xs) (hN : N ≤ 3584) (H : ∀ j, j < 420 → CMj X0 j) (hi : i.toInt = t) (ht : t + 7 ≤ N) (hI : linv X0.2.2.1 K B L f x mm) (hB : B ≤ 2000900000) (hk : k + 11 ≤ 600000) (hn : n + 1329 ≤ 7302250) (hend : ∀ K' B' L' f', linv X0.2.2.1 K' B' L' f' x mm → B' ≤ B + 192000 → eW E (k + 11) (n + 1329) L' f' 1607 (lvL b x mm i) []) : eW E k n L f 1558 (lvL b x mm i) [] := by
  refine x_aload_n hE (z := 1) (i := 1) (x := x) (by decide +kernel) rfl (by simp [lvL]) ?_
  refine law_fst (cy := X0.2.2.1) (bs := []) (vs := []) (cmp := false) (t := 0) hE (by decide) (by decide) rfl (H 119 (by decide) 43 _ rfl) lkL_X11_image (by decide +kernel) (by decide) hI hB trivial lwc_image hk hn (fun c d K1 B1 L1 f1 ν1 μ1 st1 G1 v1 hv1 hw1 hck1 => ?_)
  obtain ⟨a1, rfl⟩ := hv1
  refine x_pop hE (by decide +kernel) rfl ?_
  refine x_aload_n hE (z := 2) (i := 2) (x := mm) (by decide +kernel) rfl (by simp [lvL]) ?_
  refine law_snd (cy := X0.2.2.1) (bs := []) (vs := []) (t := 0) hE (by decide) (by decide) rfl (H 370 (by decide) 120 _ rfl) lkL_X12_image (by decide +kernel) (by decide) rfl ⟨hw1.1, hw1.2.1, hw1.2.2.1, hw1.2.2.2.1, rfl, rfl⟩ hck1 hk hn (fun K2 B2 L2 f2 v2 hv2 hI2 hB2 => ?_)
  obtain ⟨a2, rfl⟩ := hv2
  refine x_pop hE (by decide +kernel) rfl ?_
  refine x_goto hE (off := 39) (tgt := 1607) (by decide +kernel) (by decide) ?_
  exact hend _ _ _ _ hI2 hB2
theorem lkL_X11_back : lkOk RL 181 0 11 1 (mt 22) := (show lkOk RL 181 0 11 1 (yX11_back, cX11_back, 1, (some .int)) from ⟨⟨q113, q1380, by decide, by decide, by decide⟩, ⟨q1377, q1378, ⟨RX11, TX11, 7, rfl, q1379⟩, by decide +kernel⟩⟩)
theorem lkL_X12_back : lkOk RL 184 0 12 1 (mt 75) := (show lkOk RL 184 0 12 1 (yX12_back, cX12_back, 1, (some .int)) from ⟨⟨q124, q2076, by decide, by decide, by decide⟩, ⟨q2073, q2074, ⟨RX12, TX12, 53, rfl, q2075⟩, by decide +kernel⟩⟩)
theorem lwc_back : lawCk false 0 [] c49 c323 1572 1577 = true := by decide +kernel
theorem lc_back {E : zCx} {X0 : zC0} {b N x mm k n : Nat} {xs : Nat → Int32} {K : Nat → Nat} {B : Int} {L : List Nat} {f : Nat → va_E} {t : Nat} {i : Int32} (hE : zOk E X0 RL cL_law 4 room_1) (hs : zSc E b N xs) (hN : N ≤ 3584) (H : ∀ j, j < 420 → CMj X0 j) (hi : i.toInt = t) (ht : t + 7 ≤ N) (hI : linv X0.2.2.1 K B L f x mm) (hB : B ≤ 2000900000) (hk : k + 11 ≤ 600000) (hn : n + 1329 ≤ 7302250) (hend : ∀ K' B' L' f', linv X0.2.2.1 K' B' L' f' x mm → B' ≤ B + 192000 → eW E (k + 11) (n + 1329) L' f' 1607 (lvL b x mm i) []) : eW E k n L f 1571 (lvL b x mm i) [] := by
  refine x_aload_n hE (z := 1) (i := 1) (x := x) (by decide +kernel) rfl (by simp [lvL]) ?_
  refine law_fst (cy := X0.2.2.1) (bs := []) (vs := []) (cmp := false) (t := 0) hE (by decide) (by decide) rfl (H 49 (by decide) 22 _ rfl) lkL_X11_back (by decide +kernel) (by decide) hI hB trivial lwc_back hk hn (fun c d K1 B1 L1 f1 ν1 μ1 st1 G1 v1 hv1 hw1 hck1 => ?_)
  obtain ⟨a1, rfl⟩ := hv1
  refine x_pop hE (by decide +kernel) rfl ?_
  refine x_aload_n hE (z := 2) (i := 2) (x := mm) (by decide +kernel) rfl (by simp [lvL]) ?_
  refine law_snd (cy := X0.2.2.1) (bs := []) (vs := []) (t := 0) hE (by decide) (by decide) rfl (H 323 (by decide) 75 _ rfl) lkL_X12_back (by decide +kernel) (by decide) rfl ⟨hw1.1, hw1.2.1, hw1.2.2.1, hw1.2.2.2.1, rfl, rfl⟩ hck1 hk hn (fun K2 B2 L2 f2 v2 hv2 hI2 hB2 => ?_)
  obtain ⟨a2, rfl⟩ := hv2
  refine x_pop hE (by decide +kernel) rfl ?_
  refine x_goto hE (off := 26) (tgt := 1607) (by decide +kernel) (by decide) ?_
  exact hend _ _ _ _ hI2 hB2
theorem lkL_X11_about : lkOk RL 185 0 11 2 (mt 21) := (show lkOk RL 185 0 11 2 (yX11_about, cX11_about, 3, (some .int)) from ⟨⟨q113, q1384, by decide, by decide, by decide⟩, ⟨q1381, q1382, ⟨RX11, TX11, 7, rfl, q1383⟩, by decide +kernel⟩⟩)
theorem lkL_X12_about : lkOk RL 188 0 12 2 (mt 71) := (show lkOk RL 188 0 12 2 (yX12_about, cX12_about, 2, (some .int)) from ⟨⟨q124, q2080, by decide, by decide, by decide⟩, ⟨q2077, q2078, ⟨RX12, TX12, 53, rfl, q2079⟩, by decide +kernel⟩⟩)
theorem lwc_about : lawCk false 0 [fB] c45 c291 1590 1600 = true := by decide +kernel
theorem lc_about {E : zCx} {X0 : zC0} {b N x mm k n : Nat} {xs : Nat → Int32} {K : Nat → Nat} {B : Int} {L : List Nat} {f : Nat → va_E} {t : Nat} {i : Int32} (hE : zOk E X0 RL cL_law 4 room_1) (hs : zSc E b N xs) (hN : N ≤ 3584) (H : ∀ j, j < 420 → CMj X0 j) (hi : i.toInt = t) (ht : t + 7 ≤ N) (hI : linv X0.2.2.1 K B L f x mm) (hB : B ≤ 2000900000) (hk : k + 11 ≤ 600000) (hn : n + 1329 ≤ 7302250) (hend : ∀ K' B' L' f', linv X0.2.2.1 K' B' L' f' x mm → B' ≤ B + 192000 → eW E (k + 11) (n + 1329) L' f' 1607 (lvL b x mm i) []) : eW E k n L f 1584 (lvL b x mm i) [] := by
  refine x_aload_n hE (z := 1) (i := 1) (x := x) (by decide +kernel) rfl (by simp [lvL]) ?_
  refine s_arg hE hs (k1 := 1) (z := 1) (v := 1) hi (by omega) hN rfl rfl (by decide +kernel) (by decide +kernel) (by decide +kernel) (by decide +kernel) (by decide +kernel) ?_
  refine law_fst (cy := X0.2.2.1) (bs := [fB]) (vs := [xs (t + 1)]) (cmp := false) (t := 0) hE (by decide) (by decide) rfl (H 45 (by decide) 21 _ rfl) lkL_X11_about (by decide +kernel) (by decide) hI hB ⟨fl_int _, trivial⟩ lwc_about hk hn (fun c d K1 B1 L1 f1 ν1 μ1 st1 G1 v1 hv1 hw1 hck1 => ?_)
  obtain ⟨a1, rfl⟩ := hv1
  refine x_pop hE (by decide +kernel) rfl ?_
  refine x_aload_n hE (z := 2) (i := 2) (x := mm) (by decide +kernel) rfl (by simp [lvL]) ?_
  refine s_arg hE hs (k1 := 1) (z := 1) (v := 1) hi (by omega) hN rfl rfl (by decide +kernel) (by decide +kernel) (by decide +kernel) (by decide +kernel) (by decide +kernel) ?_
  refine law_snd (cy := X0.2.2.1) (bs := [fB]) (vs := [xs (t + 1)]) (t := 0) hE (by decide) (by decide) rfl (H 291 (by decide) 71 _ rfl) lkL_X12_about (by decide +kernel) (by decide) rfl ⟨hw1.1, hw1.2.1, hw1.2.2.1, hw1.2.2.2.1, rfl, rfl⟩ hck1 hk hn (fun K2 B2 L2 f2 v2 hv2 hI2 hB2 => ?_)
  obtain ⟨a2, rfl⟩ := hv2
  refine x_pop hE (by decide +kernel) rfl ?_
  refine x_goto hE (off := 3) (tgt := 1607) (by decide +kernel) (by decide) ?_
  exact hend _ _ _ _ hI2 hB2
