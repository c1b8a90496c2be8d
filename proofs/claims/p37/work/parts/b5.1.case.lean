/-! Cases of the law. -/
theorem lkL_X11_field : lkOk RL 13 0 11 4 (mt 34) := (show lkOk RL 13 0 11 4 (yX11_field, cX11_field, 6, (some .int)) from ⟨⟨q113, q581, by decide, by decide, by decide⟩, ⟨q578, q579, ⟨RX11, TX11, 7, rfl, q580⟩, by decide +kernel⟩⟩)
theorem lkL_X12_field : lkOk RL 17 0 12 4 (mt 103) := (show lkOk RL 17 0 12 4 (yX12_field, cX12_field, 6, (some .int)) from ⟨⟨q124, q1557, by decide, by decide, by decide⟩, ⟨q1554, q1555, ⟨RX12, TX12, 53, rfl, q1556⟩, by decide +kernel⟩⟩)
theorem lwc_field : lawCk 0 [fB, fB, fB] c72 c349 228 248 = true := by decide +kernel
theorem lc_field {E : zCx} {X0 : zC0} {b N x mm k n : Nat} {xs : Nat → Int32} {K : Nat → Nat} {B : Int} {L : List Nat} {f : Nat → va_E} {t : Nat} {i : Int32} (hE : zOk E X0 RL cL_law 4 room_1) (hs : zSc E b N xs) (hN : N ≤ 3584) (H : ∀ j, j < 427 → CMj X0 j) (hi : i.toInt = t) (ht : t + 7 ≤ N) (hI : linv X0.2.2.1 K B L f x mm) (hB : B ≤ 2000900000) (hk : k + 11 ≤ 600000) (hn : n + 1329 ≤ 7302250) (hend : ∀ K' B' L' f', linv X0.2.2.1 K' B' L' f' x mm → B' ≤ B + 192000 → eW E (k + 11) (n + 1329) L' f' 1607 (lvL b x mm i) []) : eW E k n L f 212 (lvL b x mm i) [] := by
  refine x_aload_n hE (z := 1) (i := 1) (x := x) (by decide +kernel) rfl (by simp [lvL]) ?_
  refine s_arg hE hs (k1 := 1) (z := 1) (v := 1) hi (by omega) hN rfl rfl (by decide +kernel) (by decide +kernel) (by decide +kernel) (by decide +kernel) (by decide +kernel) ?_
  refine s_arg hE hs (k1 := 2) (z := 2) (v := 2) hi (by omega) hN rfl rfl (by decide +kernel) (by decide +kernel) (by decide +kernel) (by decide +kernel) (by decide +kernel) ?_
  refine s_arg hE hs (k1 := 3) (z := 3) (v := 3) hi (by omega) hN rfl rfl (by decide +kernel) (by decide +kernel) (by decide +kernel) (by decide +kernel) (by decide +kernel) ?_
  refine law_fst (cy := X0.2.2.1) (bs := [fB, fB, fB]) (vs := [xs (t + 1), xs (t + 2), xs (t + 3)]) (t := 0) hE (by decide) (by decide) rfl (H 72 (by decide) 34 _ rfl) lkL_X11_field (by decide +kernel) (by decide) hI hB ⟨fl_int _, ⟨fl_int _, ⟨fl_int _, trivial⟩⟩⟩ lwc_field hk hn (fun c v h d v2 h2 o b1 p r o2 b2 p2 r2 k1 k2 k3 k4 hr hkr K1 B1 L1 f1 ν1 μ1 G1 w1 hv1 hw1 hck1 => ?_)
  obtain ⟨a1, rfl⟩ := hv1
  refine x_pop hE (by decide +kernel) rfl ?_
  refine x_aload_n hE (z := 2) (i := 2) (x := mm) (by decide +kernel) rfl (by simp [lvL]) ?_
  refine s_arg hE hs (k1 := 1) (z := 1) (v := 1) hi (by omega) hN rfl rfl (by decide +kernel) (by decide +kernel) (by decide +kernel) (by decide +kernel) (by decide +kernel) ?_
  refine s_arg hE hs (k1 := 2) (z := 2) (v := 2) hi (by omega) hN rfl rfl (by decide +kernel) (by decide +kernel) (by decide +kernel) (by decide +kernel) (by decide +kernel) ?_
  refine s_arg hE hs (k1 := 3) (z := 3) (v := 3) hi (by omega) hN rfl rfl (by decide +kernel) (by decide +kernel) (by decide +kernel) (by decide +kernel) (by decide +kernel) ?_
  refine law_snd (cy := X0.2.2.1) (bs := [fB, fB, fB]) (vs := [xs (t + 1), xs (t + 2), xs (t + 3)]) (t := 0) hE (by decide) (by decide) rfl (H 349 (by decide) 103 _ rfl) lkL_X12_field (by decide +kernel) (by decide) rfl hw1 hck1 hk hn k1 k2 k3 k4 hr hkr (List.mem_cons_self ..) (fun K2 B2 L2 f2 v2 hv2 hI2 hB2 => ?_)
  obtain ⟨a2, rfl⟩ := hv2
  refine x_pop hE (by decide +kernel) rfl ?_
  refine x_goto hE (off := 1355) (tgt := 1607) (by decide +kernel) (by decide) ?_
  exact hend _ _ _ _ hI2 hB2
theorem lkL_X11_road : lkOk RL 18 0 11 3 (mt 60) := (show lkOk RL 18 0 11 3 (yX11_road, cX11_road, 4, (some .boolean)) from ⟨⟨q113, q592, by decide, by decide, by decide⟩, ⟨q589, q590, ⟨RX11, TX11, 7, rfl, q591⟩, by decide +kernel⟩⟩)
theorem lkL_X12_road : lkOk RL 22 0 12 3 (mt 168) := (show lkOk RL 22 0 12 3 (yX12_road, cX12_road, 3, (some .boolean)) from ⟨⟨q124, q1564, by decide, by decide, by decide⟩, ⟨q1561, q1562, ⟨RX12, TX12, 53, rfl, q1563⟩, by decide +kernel⟩⟩)
theorem lwc_road : lawCk 0 [fB, fB] c73 c374 266 281 = true := by decide +kernel
theorem lc_road {E : zCx} {X0 : zC0} {b N x mm k n : Nat} {xs : Nat → Int32} {K : Nat → Nat} {B : Int} {L : List Nat} {f : Nat → va_E} {t : Nat} {i : Int32} (hE : zOk E X0 RL cL_law 4 room_1) (hs : zSc E b N xs) (hN : N ≤ 3584) (H : ∀ j, j < 427 → CMj X0 j) (hi : i.toInt = t) (ht : t + 7 ≤ N) (hI : linv X0.2.2.1 K B L f x mm) (hB : B ≤ 2000900000) (hk : k + 11 ≤ 600000) (hn : n + 1329 ≤ 7302250) (hend : ∀ K' B' L' f', linv X0.2.2.1 K' B' L' f' x mm → B' ≤ B + 192000 → eW E (k + 11) (n + 1329) L' f' 1607 (lvL b x mm i) []) : eW E k n L f 255 (lvL b x mm i) [] := by
  refine x_aload_n hE (z := 1) (i := 1) (x := x) (by decide +kernel) rfl (by simp [lvL]) ?_
  refine s_arg hE hs (k1 := 1) (z := 1) (v := 1) hi (by omega) hN rfl rfl (by decide +kernel) (by decide +kernel) (by decide +kernel) (by decide +kernel) (by decide +kernel) ?_
  refine s_arg hE hs (k1 := 2) (z := 2) (v := 2) hi (by omega) hN rfl rfl (by decide +kernel) (by decide +kernel) (by decide +kernel) (by decide +kernel) (by decide +kernel) ?_
  refine law_fst (cy := X0.2.2.1) (bs := [fB, fB]) (vs := [xs (t + 1), xs (t + 2)]) (t := 0) hE (by decide) (by decide) rfl (H 73 (by decide) 60 _ rfl) lkL_X11_road (by decide +kernel) (by decide) hI hB ⟨fl_int _, ⟨fl_int _, trivial⟩⟩ lwc_road hk hn (fun c v h d v2 h2 o b1 p r o2 b2 p2 r2 k1 k2 k3 k4 hr hkr K1 B1 L1 f1 ν1 μ1 G1 w1 hv1 hw1 hck1 => ?_)
  obtain ⟨a1, rfl⟩ := hv1
  refine x_pop hE (by decide +kernel) rfl ?_
  refine x_aload_n hE (z := 2) (i := 2) (x := mm) (by decide +kernel) rfl (by simp [lvL]) ?_
  refine s_arg hE hs (k1 := 1) (z := 1) (v := 1) hi (by omega) hN rfl rfl (by decide +kernel) (by decide +kernel) (by decide +kernel) (by decide +kernel) (by decide +kernel) ?_
  refine s_arg hE hs (k1 := 2) (z := 2) (v := 2) hi (by omega) hN rfl rfl (by decide +kernel) (by decide +kernel) (by decide +kernel) (by decide +kernel) (by decide +kernel) ?_
  refine law_snd (cy := X0.2.2.1) (bs := [fB, fB]) (vs := [xs (t + 1), xs (t + 2)]) (t := 0) hE (by decide) (by decide) rfl (H 374 (by decide) 168 _ rfl) lkL_X12_road (by decide +kernel) (by decide) rfl hw1 hck1 hk hn k1 k2 k3 k4 hr hkr (List.mem_cons_self ..) (fun K2 B2 L2 f2 v2 hv2 hI2 hB2 => ?_)
  obtain ⟨a2, rfl⟩ := hv2
  refine x_pop hE (by decide +kernel) rfl ?_
  refine x_goto hE (off := 1322) (tgt := 1607) (by decide +kernel) (by decide) ?_
  exact hend _ _ _ _ hI2 hB2
theorem lkL_X11_person : lkOk RL 23 0 11 5 (mt 55) := (show lkOk RL 23 0 11 5 (yX11_person, cX11_person, 8, (some .int)) from ⟨⟨q113, q608, by decide, by decide, by decide⟩, ⟨q605, q606, ⟨RX11, TX11, 7, rfl, q607⟩, by decide +kernel⟩⟩)
theorem lkL_X12_person : lkOk RL 27 0 12 5 (mt 158) := (show lkOk RL 27 0 12 5 (yX12_person, cX12_person, 7, (some .int)) from ⟨⟨q124, q1579, by decide, by decide, by decide⟩, ⟨q1576, q1577, ⟨RX12, TX12, 53, rfl, q1578⟩, by decide +kernel⟩⟩)
theorem lwc_person : lawCk 0 [fB, fB, fB, fB] c74 c379 309 334 = true := by decide +kernel
theorem lc_person {E : zCx} {X0 : zC0} {b N x mm k n : Nat} {xs : Nat → Int32} {K : Nat → Nat} {B : Int} {L : List Nat} {f : Nat → va_E} {t : Nat} {i : Int32} (hE : zOk E X0 RL cL_law 4 room_1) (hs : zSc E b N xs) (hN : N ≤ 3584) (H : ∀ j, j < 427 → CMj X0 j) (hi : i.toInt = t) (ht : t + 7 ≤ N) (hI : linv X0.2.2.1 K B L f x mm) (hB : B ≤ 2000900000) (hk : k + 11 ≤ 600000) (hn : n + 1329 ≤ 7302250) (hend : ∀ K' B' L' f', linv X0.2.2.1 K' B' L' f' x mm → B' ≤ B + 192000 → eW E (k + 11) (n + 1329) L' f' 1607 (lvL b x mm i) []) : eW E k n L f 288 (lvL b x mm i) [] := by
  refine x_aload_n hE (z := 1) (i := 1) (x := x) (by decide +kernel) rfl (by simp [lvL]) ?_
  refine s_arg hE hs (k1 := 1) (z := 1) (v := 1) hi (by omega) hN rfl rfl (by decide +kernel) (by decide +kernel) (by decide +kernel) (by decide +kernel) (by decide +kernel) ?_
  refine s_arg hE hs (k1 := 2) (z := 2) (v := 2) hi (by omega) hN rfl rfl (by decide +kernel) (by decide +kernel) (by decide +kernel) (by decide +kernel) (by decide +kernel) ?_
  refine s_arg hE hs (k1 := 3) (z := 3) (v := 3) hi (by omega) hN rfl rfl (by decide +kernel) (by decide +kernel) (by decide +kernel) (by decide +kernel) (by decide +kernel) ?_
  refine s_arg hE hs (k1 := 4) (z := 4) (v := 4) hi (by omega) hN rfl rfl (by decide +kernel) (by decide +kernel) (by decide +kernel) (by decide +kernel) (by decide +kernel) ?_
  refine law_fst (cy := X0.2.2.1) (bs := [fB, fB, fB, fB]) (vs := [xs (t + 1), xs (t + 2), xs (t + 3), xs (t + 4)]) (t := 0) hE (by decide) (by decide) rfl (H 74 (by decide) 55 _ rfl) lkL_X11_person (by decide +kernel) (by decide) hI hB ⟨fl_int _, ⟨fl_int _, ⟨fl_int _, ⟨fl_int _, trivial⟩⟩⟩⟩ lwc_person hk hn (fun c v h d v2 h2 o b1 p r o2 b2 p2 r2 k1 k2 k3 k4 hr hkr K1 B1 L1 f1 ν1 μ1 G1 w1 hv1 hw1 hck1 => ?_)
  obtain ⟨a1, rfl⟩ := hv1
  refine x_pop hE (by decide +kernel) rfl ?_
  refine x_aload_n hE (z := 2) (i := 2) (x := mm) (by decide +kernel) rfl (by simp [lvL]) ?_
  refine s_arg hE hs (k1 := 1) (z := 1) (v := 1) hi (by omega) hN rfl rfl (by decide +kernel) (by decide +kernel) (by decide +kernel) (by decide +kernel) (by decide +kernel) ?_
  refine s_arg hE hs (k1 := 2) (z := 2) (v := 2) hi (by omega) hN rfl rfl (by decide +kernel) (by decide +kernel) (by decide +kernel) (by decide +kernel) (by decide +kernel) ?_
  refine s_arg hE hs (k1 := 3) (z := 3) (v := 3) hi (by omega) hN rfl rfl (by decide +kernel) (by decide +kernel) (by decide +kernel) (by decide +kernel) (by decide +kernel) ?_
  refine s_arg hE hs (k1 := 4) (z := 4) (v := 4) hi (by omega) hN rfl rfl (by decide +kernel) (by decide +kernel) (by decide +kernel) (by decide +kernel) (by decide +kernel) ?_
  refine law_snd (cy := X0.2.2.1) (bs := [fB, fB, fB, fB]) (vs := [xs (t + 1), xs (t + 2), xs (t + 3), xs (t + 4)]) (t := 0) hE (by decide) (by decide) rfl (H 379 (by decide) 158 _ rfl) lkL_X12_person (by decide +kernel) (by decide) rfl hw1 hck1 hk hn k1 k2 k3 k4 hr hkr (List.mem_cons_self ..) (fun K2 B2 L2 f2 v2 hv2 hI2 hB2 => ?_)
  obtain ⟨a2, rfl⟩ := hv2
  refine x_pop hE (by decide +kernel) rfl ?_
  refine x_goto hE (off := 1269) (tgt := 1607) (by decide +kernel) (by decide) ?_
  exact hend _ _ _ _ hI2 hB2
theorem lkL_X11_feed : lkOk RL 28 0 11 6 (mt 33) := (show lkOk RL 28 0 11 6 (yX11_feed, cX11_feed, 6, (some .int)) from ⟨⟨q113, q620, by decide, by decide, by decide⟩, ⟨q617, q618, ⟨RX11, TX11, 7, rfl, q619⟩, by decide +kernel⟩⟩)
theorem lkL_X12_feed : lkOk RL 32 0 12 6 (mt 102) := (show lkOk RL 32 0 12 6 (yX12_feed, cX12_feed, 6, (some .int)) from ⟨⟨q124, q1587, by decide, by decide, by decide⟩, ⟨q1584, q1585, ⟨RX12, TX12, 53, rfl, q1586⟩, by decide +kernel⟩⟩)
theorem lwc_feed : lawCk 0 [fB, fB, fB, fB, fB] c95 c347 367 397 = true := by decide +kernel
theorem lc_feed {E : zCx} {X0 : zC0} {b N x mm k n : Nat} {xs : Nat → Int32} {K : Nat → Nat} {B : Int} {L : List Nat} {f : Nat → va_E} {t : Nat} {i : Int32} (hE : zOk E X0 RL cL_law 4 room_1) (hs : zSc E b N xs) (hN : N ≤ 3584) (H : ∀ j, j < 427 → CMj X0 j) (hi : i.toInt = t) (ht : t + 7 ≤ N) (hI : linv X0.2.2.1 K B L f x mm) (hB : B ≤ 2000900000) (hk : k + 11 ≤ 600000) (hn : n + 1329 ≤ 7302250) (hend : ∀ K' B' L' f', linv X0.2.2.1 K' B' L' f' x mm → B' ≤ B + 192000 → eW E (k + 11) (n + 1329) L' f' 1607 (lvL b x mm i) []) : eW E k n L f 341 (lvL b x mm i) [] := by
  refine x_aload_n hE (z := 1) (i := 1) (x := x) (by decide +kernel) rfl (by simp [lvL]) ?_
  refine s_arg hE hs (k1 := 1) (z := 1) (v := 1) hi (by omega) hN rfl rfl (by decide +kernel) (by decide +kernel) (by decide +kernel) (by decide +kernel) (by decide +kernel) ?_
  refine s_arg hE hs (k1 := 2) (z := 2) (v := 2) hi (by omega) hN rfl rfl (by decide +kernel) (by decide +kernel) (by decide +kernel) (by decide +kernel) (by decide +kernel) ?_
  refine s_arg hE hs (k1 := 3) (z := 3) (v := 3) hi (by omega) hN rfl rfl (by decide +kernel) (by decide +kernel) (by decide +kernel) (by decide +kernel) (by decide +kernel) ?_
  refine s_arg hE hs (k1 := 4) (z := 4) (v := 4) hi (by omega) hN rfl rfl (by decide +kernel) (by decide +kernel) (by decide +kernel) (by decide +kernel) (by decide +kernel) ?_
  refine s_arg hE hs (k1 := 5) (z := 5) (v := 5) hi (by omega) hN rfl rfl (by decide +kernel) (by decide +kernel) (by decide +kernel) (by decide +kernel) (by decide +kernel) ?_
  refine law_fst (cy := X0.2.2.1) (bs := [fB, fB, fB, fB, fB]) (vs := [xs (t + 1), xs (t + 2), xs (t + 3), xs (t + 4), xs (t + 5)]) (t := 0) hE (by decide) (by decide) rfl (H 95 (by decide) 33 _ rfl) lkL_X11_feed (by decide +kernel) (by decide) hI hB ⟨fl_int _, ⟨fl_int _, ⟨fl_int _, ⟨fl_int _, ⟨fl_int _, trivial⟩⟩⟩⟩⟩ lwc_feed hk hn (fun c v h d v2 h2 o b1 p r o2 b2 p2 r2 k1 k2 k3 k4 hr hkr K1 B1 L1 f1 ν1 μ1 G1 w1 hv1 hw1 hck1 => ?_)
  obtain ⟨a1, rfl⟩ := hv1
  refine x_pop hE (by decide +kernel) rfl ?_
  refine x_aload_n hE (z := 2) (i := 2) (x := mm) (by decide +kernel) rfl (by simp [lvL]) ?_
  refine s_arg hE hs (k1 := 1) (z := 1) (v := 1) hi (by omega) hN rfl rfl (by decide +kernel) (by decide +kernel) (by decide +kernel) (by decide +kernel) (by decide +kernel) ?_
  refine s_arg hE hs (k1 := 2) (z := 2) (v := 2) hi (by omega) hN rfl rfl (by decide +kernel) (by decide +kernel) (by decide +kernel) (by decide +kernel) (by decide +kernel) ?_
  refine s_arg hE hs (k1 := 3) (z := 3) (v := 3) hi (by omega) hN rfl rfl (by decide +kernel) (by decide +kernel) (by decide +kernel) (by decide +kernel) (by decide +kernel) ?_
  refine s_arg hE hs (k1 := 4) (z := 4) (v := 4) hi (by omega) hN rfl rfl (by decide +kernel) (by decide +kernel) (by decide +kernel) (by decide +kernel) (by decide +kernel) ?_
  refine s_arg hE hs (k1 := 5) (z := 5) (v := 5) hi (by omega) hN rfl rfl (by decide +kernel) (by decide +kernel) (by decide +kernel) (by decide +kernel) (by decide +kernel) ?_
  refine law_snd (cy := X0.2.2.1) (bs := [fB, fB, fB, fB, fB]) (vs := [xs (t + 1), xs (t + 2), xs (t + 3), xs (t + 4), xs (t + 5)]) (t := 0) hE (by decide) (by decide) rfl (H 347 (by decide) 102 _ rfl) lkL_X12_feed (by decide +kernel) (by decide) rfl hw1 hck1 hk hn k1 k2 k3 k4 hr hkr (List.mem_cons_self ..) (fun K2 B2 L2 f2 v2 hv2 hI2 hB2 => ?_)
  obtain ⟨a2, rfl⟩ := hv2
  refine x_pop hE (by decide +kernel) rfl ?_
  refine x_goto hE (off := 1206) (tgt := 1607) (by decide +kernel) (by decide) ?_
  exact hend _ _ _ _ hI2 hB2
theorem lkL_X11_end : lkOk RL 33 0 11 2 (mt 30) := (show lkOk RL 33 0 11 2 (yX11_end, cX11_end, 2, (some .int)) from ⟨⟨q113, q628, by decide, by decide, by decide⟩, ⟨q625, q626, ⟨RX11, TX11, 7, rfl, q627⟩, by decide +kernel⟩⟩)
theorem lkL_X12_end : lkOk RL 37 0 12 2 (mt 97) := (show lkOk RL 37 0 12 2 (yX12_end, cX12_end, 2, (some .int)) from ⟨⟨q124, q1595, by decide, by decide, by decide⟩, ⟨q1592, q1593, ⟨RX12, TX12, 53, rfl, q1594⟩, by decide +kernel⟩⟩)
theorem lwc_end : lawCk 0 [fB] c91 c343 410 420 = true := by decide +kernel
theorem lc_end {E : zCx} {X0 : zC0} {b N x mm k n : Nat} {xs : Nat → Int32} {K : Nat → Nat} {B : Int} {L : List Nat} {f : Nat → va_E} {t : Nat} {i : Int32} (hE : zOk E X0 RL cL_law 4 room_1) (hs : zSc E b N xs) (hN : N ≤ 3584) (H : ∀ j, j < 427 → CMj X0 j) (hi : i.toInt = t) (ht : t + 7 ≤ N) (hI : linv X0.2.2.1 K B L f x mm) (hB : B ≤ 2000900000) (hk : k + 11 ≤ 600000) (hn : n + 1329 ≤ 7302250) (hend : ∀ K' B' L' f', linv X0.2.2.1 K' B' L' f' x mm → B' ≤ B + 192000 → eW E (k + 11) (n + 1329) L' f' 1607 (lvL b x mm i) []) : eW E k n L f 404 (lvL b x mm i) [] := by
  refine x_aload_n hE (z := 1) (i := 1) (x := x) (by decide +kernel) rfl (by simp [lvL]) ?_
  refine s_arg hE hs (k1 := 1) (z := 1) (v := 1) hi (by omega) hN rfl rfl (by decide +kernel) (by decide +kernel) (by decide +kernel) (by decide +kernel) (by decide +kernel) ?_
  refine law_fst (cy := X0.2.2.1) (bs := [fB]) (vs := [xs (t + 1)]) (t := 0) hE (by decide) (by decide) rfl (H 91 (by decide) 30 _ rfl) lkL_X11_end (by decide +kernel) (by decide) hI hB ⟨fl_int _, trivial⟩ lwc_end hk hn (fun c v h d v2 h2 o b1 p r o2 b2 p2 r2 k1 k2 k3 k4 hr hkr K1 B1 L1 f1 ν1 μ1 G1 w1 hv1 hw1 hck1 => ?_)
  obtain ⟨a1, rfl⟩ := hv1
  refine x_pop hE (by decide +kernel) rfl ?_
  refine x_aload_n hE (z := 2) (i := 2) (x := mm) (by decide +kernel) rfl (by simp [lvL]) ?_
  refine s_arg hE hs (k1 := 1) (z := 1) (v := 1) hi (by omega) hN rfl rfl (by decide +kernel) (by decide +kernel) (by decide +kernel) (by decide +kernel) (by decide +kernel) ?_
  refine law_snd (cy := X0.2.2.1) (bs := [fB]) (vs := [xs (t + 1)]) (t := 0) hE (by decide) (by decide) rfl (H 343 (by decide) 97 _ rfl) lkL_X12_end (by decide +kernel) (by decide) rfl hw1 hck1 hk hn k1 k2 k3 k4 hr hkr (List.mem_cons_self ..) (fun K2 B2 L2 f2 v2 hv2 hI2 hB2 => ?_)
  obtain ⟨a2, rfl⟩ := hv2
  refine x_pop hE (by decide +kernel) rfl ?_
  refine x_goto hE (off := 1183) (tgt := 1607) (by decide +kernel) (by decide) ?_
  exact hend _ _ _ _ hI2 hB2
theorem lkL_X11_text : lkOk RL 38 0 11 1 (mt 64) := (show lkOk RL 38 0 11 1 (yX11_text, cX11_text, 2, (some .int)) from ⟨⟨q113, q632, by decide, by decide, by decide⟩, ⟨q629, q630, ⟨RX11, TX11, 7, rfl, q631⟩, by decide +kernel⟩⟩)
theorem lkL_X12_text : lkOk RL 42 0 12 1 (mt 185) := (show lkOk RL 42 0 12 1 (yX12_text, cX12_text, 1, (some .int)) from ⟨⟨q124, q1599, by decide, by decide, by decide⟩, ⟨q1596, q1597, ⟨RX12, TX12, 53, rfl, q1598⟩, by decide +kernel⟩⟩)
theorem lwc_text : lawCk 0 [] c280 c414 428 433 = true := by decide +kernel
theorem lc_text {E : zCx} {X0 : zC0} {b N x mm k n : Nat} {xs : Nat → Int32} {K : Nat → Nat} {B : Int} {L : List Nat} {f : Nat → va_E} {t : Nat} {i : Int32} (hE : zOk E X0 RL cL_law 4 room_1) (hs : zSc E b N xs) (hN : N ≤ 3584) (H : ∀ j, j < 427 → CMj X0 j) (hi : i.toInt = t) (ht : t + 7 ≤ N) (hI : linv X0.2.2.1 K B L f x mm) (hB : B ≤ 2000900000) (hk : k + 11 ≤ 600000) (hn : n + 1329 ≤ 7302250) (hend : ∀ K' B' L' f', linv X0.2.2.1 K' B' L' f' x mm → B' ≤ B + 192000 → eW E (k + 11) (n + 1329) L' f' 1607 (lvL b x mm i) []) : eW E k n L f 427 (lvL b x mm i) [] := by
  refine x_aload_n hE (z := 1) (i := 1) (x := x) (by decide +kernel) rfl (by simp [lvL]) ?_
  refine law_fst (cy := X0.2.2.1) (bs := []) (vs := []) (t := 0) hE (by decide) (by decide) rfl (H 280 (by decide) 64 _ rfl) lkL_X11_text (by decide +kernel) (by decide) hI hB trivial lwc_text hk hn (fun c v h d v2 h2 o b1 p r o2 b2 p2 r2 k1 k2 k3 k4 hr hkr K1 B1 L1 f1 ν1 μ1 G1 w1 hv1 hw1 hck1 => ?_)
  obtain ⟨a1, rfl⟩ := hv1
  refine x_pop hE (by decide +kernel) rfl ?_
  refine x_aload_n hE (z := 2) (i := 2) (x := mm) (by decide +kernel) rfl (by simp [lvL]) ?_
  refine law_snd (cy := X0.2.2.1) (bs := []) (vs := []) (t := 0) hE (by decide) (by decide) rfl (H 414 (by decide) 185 _ rfl) lkL_X12_text (by decide +kernel) (by decide) rfl hw1 hck1 hk hn k1 k2 k3 k4 hr hkr (List.mem_cons_self ..) (fun K2 B2 L2 f2 v2 hv2 hI2 hB2 => ?_)
  obtain ⟨a2, rfl⟩ := hv2
  refine x_pop hE (by decide +kernel) rfl ?_
  refine x_goto hE (off := 1170) (tgt := 1607) (by decide +kernel) (by decide) ?_
  exact hend _ _ _ _ hI2 hB2
theorem lkL_X11_fault : lkOk RL 43 0 11 2 (mt 32) := (show lkOk RL 43 0 11 2 (yX11_fault, cX11_fault, 2, (some .int)) from ⟨⟨q113, q933, by decide, by decide, by decide⟩, ⟨q930, q931, ⟨RX11, TX11, 7, rfl, q932⟩, by decide +kernel⟩⟩)
theorem lkL_X12_fault : lkOk RL 46 0 12 2 (mt 101) := (show lkOk RL 46 0 12 2 (yX12_fault, cX12_fault, 2, (some .int)) from ⟨⟨q124, q1744, by decide, by decide, by decide⟩, ⟨q1741, q1742, ⟨RX12, TX12, 53, rfl, q1743⟩, by decide +kernel⟩⟩)
theorem lwc_fault : lawCk 0 [fB] c93 c345 446 456 = true := by decide +kernel
theorem lc_fault {E : zCx} {X0 : zC0} {b N x mm k n : Nat} {xs : Nat → Int32} {K : Nat → Nat} {B : Int} {L : List Nat} {f : Nat → va_E} {t : Nat} {i : Int32} (hE : zOk E X0 RL cL_law 4 room_1) (hs : zSc E b N xs) (hN : N ≤ 3584) (H : ∀ j, j < 427 → CMj X0 j) (hi : i.toInt = t) (ht : t + 7 ≤ N) (hI : linv X0.2.2.1 K B L f x mm) (hB : B ≤ 2000900000) (hk : k + 11 ≤ 600000) (hn : n + 1329 ≤ 7302250) (hend : ∀ K' B' L' f', linv X0.2.2.1 K' B' L' f' x mm → B' ≤ B + 192000 → eW E (k + 11) (n + 1329) L' f' 1607 (lvL b x mm i) []) : eW E k n L f 440 (lvL b x mm i) [] := by
  refine x_aload_n hE (z := 1) (i := 1) (x := x) (by decide +kernel) rfl (by simp [lvL]) ?_
  refine s_arg hE hs (k1 := 1) (z := 1) (v := 1) hi (by omega) hN rfl rfl (by decide +kernel) (by decide +kernel) (by decide +kernel) (by decide +kernel) (by decide +kernel) ?_
  refine law_fst (cy := X0.2.2.1) (bs := [fB]) (vs := [xs (t + 1)]) (t := 0) hE (by decide) (by decide) rfl (H 93 (by decide) 32 _ rfl) lkL_X11_fault (by decide +kernel) (by decide) hI hB ⟨fl_int _, trivial⟩ lwc_fault hk hn (fun c v h d v2 h2 o b1 p r o2 b2 p2 r2 k1 k2 k3 k4 hr hkr K1 B1 L1 f1 ν1 μ1 G1 w1 hv1 hw1 hck1 => ?_)
  obtain ⟨a1, rfl⟩ := hv1
  refine x_pop hE (by decide +kernel) rfl ?_
  refine x_aload_n hE (z := 2) (i := 2) (x := mm) (by decide +kernel) rfl (by simp [lvL]) ?_
  refine s_arg hE hs (k1 := 1) (z := 1) (v := 1) hi (by omega) hN rfl rfl (by decide +kernel) (by decide +kernel) (by decide +kernel) (by decide +kernel) (by decide +kernel) ?_
  refine law_snd (cy := X0.2.2.1) (bs := [fB]) (vs := [xs (t + 1)]) (t := 0) hE (by decide) (by decide) rfl (H 345 (by decide) 101 _ rfl) lkL_X12_fault (by decide +kernel) (by decide) rfl hw1 hck1 hk hn k1 k2 k3 k4 hr hkr (List.mem_cons_self ..) (fun K2 B2 L2 f2 v2 hv2 hI2 hB2 => ?_)
  obtain ⟨a2, rfl⟩ := hv2
  refine x_pop hE (by decide +kernel) rfl ?_
  refine x_goto hE (off := 1147) (tgt := 1607) (by decide +kernel) (by decide) ?_
  exact hend _ _ _ _ hI2 hB2
theorem lkL_X11_by : lkOk RL 47 0 11 2 (mt 25) := (show lkOk RL 47 0 11 2 (yX11_by, cX11_by, 2, (some .boolean)) from ⟨⟨q113, q937, by decide, by decide, by decide⟩, ⟨q934, q935, ⟨RX11, TX11, 7, rfl, q936⟩, by decide +kernel⟩⟩)
theorem lkL_X12_by : lkOk RL 51 0 12 2 (mt 83) := (show lkOk RL 51 0 12 2 (yX12_by, cX12_by, 2, (some .boolean)) from ⟨⟨q124, q1748, by decide, by decide, by decide⟩, ⟨q1745, q1746, ⟨RX12, TX12, 53, rfl, q1747⟩, by decide +kernel⟩⟩)
theorem lwc_by : lawCk 0 [fB] c55 c328 469 479 = true := by decide +kernel
theorem lc_by {E : zCx} {X0 : zC0} {b N x mm k n : Nat} {xs : Nat → Int32} {K : Nat → Nat} {B : Int} {L : List Nat} {f : Nat → va_E} {t : Nat} {i : Int32} (hE : zOk E X0 RL cL_law 4 room_1) (hs : zSc E b N xs) (hN : N ≤ 3584) (H : ∀ j, j < 427 → CMj X0 j) (hi : i.toInt = t) (ht : t + 7 ≤ N) (hI : linv X0.2.2.1 K B L f x mm) (hB : B ≤ 2000900000) (hk : k + 11 ≤ 600000) (hn : n + 1329 ≤ 7302250) (hend : ∀ K' B' L' f', linv X0.2.2.1 K' B' L' f' x mm → B' ≤ B + 192000 → eW E (k + 11) (n + 1329) L' f' 1607 (lvL b x mm i) []) : eW E k n L f 463 (lvL b x mm i) [] := by
  refine x_aload_n hE (z := 1) (i := 1) (x := x) (by decide +kernel) rfl (by simp [lvL]) ?_
  refine s_arg hE hs (k1 := 1) (z := 1) (v := 1) hi (by omega) hN rfl rfl (by decide +kernel) (by decide +kernel) (by decide +kernel) (by decide +kernel) (by decide +kernel) ?_
  refine law_fst (cy := X0.2.2.1) (bs := [fB]) (vs := [xs (t + 1)]) (t := 0) hE (by decide) (by decide) rfl (H 55 (by decide) 25 _ rfl) lkL_X11_by (by decide +kernel) (by decide) hI hB ⟨fl_int _, trivial⟩ lwc_by hk hn (fun c v h d v2 h2 o b1 p r o2 b2 p2 r2 k1 k2 k3 k4 hr hkr K1 B1 L1 f1 ν1 μ1 G1 w1 hv1 hw1 hck1 => ?_)
  obtain ⟨a1, rfl⟩ := hv1
  refine x_pop hE (by decide +kernel) rfl ?_
  refine x_aload_n hE (z := 2) (i := 2) (x := mm) (by decide +kernel) rfl (by simp [lvL]) ?_
  refine s_arg hE hs (k1 := 1) (z := 1) (v := 1) hi (by omega) hN rfl rfl (by decide +kernel) (by decide +kernel) (by decide +kernel) (by decide +kernel) (by decide +kernel) ?_
  refine law_snd (cy := X0.2.2.1) (bs := [fB]) (vs := [xs (t + 1)]) (t := 0) hE (by decide) (by decide) rfl (H 328 (by decide) 83 _ rfl) lkL_X12_by (by decide +kernel) (by decide) rfl hw1 hck1 hk hn k1 k2 k3 k4 hr hkr (List.mem_cons_self ..) (fun K2 B2 L2 f2 v2 hv2 hI2 hB2 => ?_)
  obtain ⟨a2, rfl⟩ := hv2
  refine x_pop hE (by decide +kernel) rfl ?_
  refine x_goto hE (off := 1124) (tgt := 1607) (by decide +kernel) (by decide) ?_
  exact hend _ _ _ _ hI2 hB2
theorem lkL_X11_hour : lkOk RL 52 0 11 2 (mt 42) := (show lkOk RL 52 0 11 2 (yX11_hour, cX11_hour, 4, (some .int)) from ⟨⟨q113, q945, by decide, by decide, by decide⟩, ⟨q942, q943, ⟨RX11, TX11, 7, rfl, q944⟩, by decide +kernel⟩⟩)
theorem lkL_X12_hour : lkOk RL 55 0 12 2 (mt 119) := (show lkOk RL 55 0 12 2 (yX12_hour, cX12_hour, 4, (some .int)) from ⟨⟨q124, q1760, by decide, by decide, by decide⟩, ⟨q1757, q1758, ⟨RX12, TX12, 53, rfl, q1759⟩, by decide +kernel⟩⟩)
theorem lwc_hour : lawCk 0 [fB] c70 c369 492 502 = true := by decide +kernel
theorem lc_hour {E : zCx} {X0 : zC0} {b N x mm k n : Nat} {xs : Nat → Int32} {K : Nat → Nat} {B : Int} {L : List Nat} {f : Nat → va_E} {t : Nat} {i : Int32} (hE : zOk E X0 RL cL_law 4 room_1) (hs : zSc E b N xs) (hN : N ≤ 3584) (H : ∀ j, j < 427 → CMj X0 j) (hi : i.toInt = t) (ht : t + 7 ≤ N) (hI : linv X0.2.2.1 K B L f x mm) (hB : B ≤ 2000900000) (hk : k + 11 ≤ 600000) (hn : n + 1329 ≤ 7302250) (hend : ∀ K' B' L' f', linv X0.2.2.1 K' B' L' f' x mm → B' ≤ B + 192000 → eW E (k + 11) (n + 1329) L' f' 1607 (lvL b x mm i) []) : eW E k n L f 486 (lvL b x mm i) [] := by
  refine x_aload_n hE (z := 1) (i := 1) (x := x) (by decide +kernel) rfl (by simp [lvL]) ?_
  refine s_arg hE hs (k1 := 1) (z := 1) (v := 1) hi (by omega) hN rfl rfl (by decide +kernel) (by decide +kernel) (by decide +kernel) (by decide +kernel) (by decide +kernel) ?_
  refine law_fst (cy := X0.2.2.1) (bs := [fB]) (vs := [xs (t + 1)]) (t := 0) hE (by decide) (by decide) rfl (H 70 (by decide) 42 _ rfl) lkL_X11_hour (by decide +kernel) (by decide) hI hB ⟨fl_int _, trivial⟩ lwc_hour hk hn (fun c v h d v2 h2 o b1 p r o2 b2 p2 r2 k1 k2 k3 k4 hr hkr K1 B1 L1 f1 ν1 μ1 G1 w1 hv1 hw1 hck1 => ?_)
  obtain ⟨a1, rfl⟩ := hv1
  refine x_pop hE (by decide +kernel) rfl ?_
  refine x_aload_n hE (z := 2) (i := 2) (x := mm) (by decide +kernel) rfl (by simp [lvL]) ?_
  refine s_arg hE hs (k1 := 1) (z := 1) (v := 1) hi (by omega) hN rfl rfl (by decide +kernel) (by decide +kernel) (by decide +kernel) (by decide +kernel) (by decide +kernel) ?_
  refine law_snd (cy := X0.2.2.1) (bs := [fB]) (vs := [xs (t + 1)]) (t := 0) hE (by decide) (by decide) rfl (H 369 (by decide) 119 _ rfl) lkL_X12_hour (by decide +kernel) (by decide) rfl hw1 hck1 hk hn k1 k2 k3 k4 hr hkr (List.mem_cons_self ..) (fun K2 B2 L2 f2 v2 hv2 hI2 hB2 => ?_)
  obtain ⟨a2, rfl⟩ := hv2
  refine x_pop hE (by decide +kernel) rfl ?_
  refine x_goto hE (off := 1101) (tgt := 1607) (by decide +kernel) (by decide) ?_
  exact hend _ _ _ _ hI2 hB2
theorem lkL_X11_work : lkOk RL 56 0 11 3 (mt 69) := (show lkOk RL 56 0 11 3 (yX11_work, cX11_work, 3, (some .boolean)) from ⟨⟨q113, q1031, by decide, by decide, by decide⟩, ⟨q1028, q1029, ⟨RX11, TX11, 7, rfl, q1030⟩, by decide +kernel⟩⟩)
theorem lkL_X12_work : lkOk RL 59 0 12 3 (mt 200) := (show lkOk RL 59 0 12 3 (yX12_work, cX12_work, 3, (some .boolean)) from ⟨⟨q124, q1839, by decide, by decide, by decide⟩, ⟨q1836, q1837, ⟨RX12, TX12, 53, rfl, q1838⟩, by decide +kernel⟩⟩)
theorem lwc_work : lawCk 0 [fB, fB] c75 c380 520 535 = true := by decide +kernel
theorem lc_work {E : zCx} {X0 : zC0} {b N x mm k n : Nat} {xs : Nat → Int32} {K : Nat → Nat} {B : Int} {L : List Nat} {f : Nat → va_E} {t : Nat} {i : Int32} (hE : zOk E X0 RL cL_law 4 room_1) (hs : zSc E b N xs) (hN : N ≤ 3584) (H : ∀ j, j < 427 → CMj X0 j) (hi : i.toInt = t) (ht : t + 7 ≤ N) (hI : linv X0.2.2.1 K B L f x mm) (hB : B ≤ 2000900000) (hk : k + 11 ≤ 600000) (hn : n + 1329 ≤ 7302250) (hend : ∀ K' B' L' f', linv X0.2.2.1 K' B' L' f' x mm → B' ≤ B + 192000 → eW E (k + 11) (n + 1329) L' f' 1607 (lvL b x mm i) []) : eW E k n L f 509 (lvL b x mm i) [] := by
  refine x_aload_n hE (z := 1) (i := 1) (x := x) (by decide +kernel) rfl (by simp [lvL]) ?_
  refine s_arg hE hs (k1 := 1) (z := 1) (v := 1) hi (by omega) hN rfl rfl (by decide +kernel) (by decide +kernel) (by decide +kernel) (by decide +kernel) (by decide +kernel) ?_
  refine s_arg hE hs (k1 := 2) (z := 2) (v := 2) hi (by omega) hN rfl rfl (by decide +kernel) (by decide +kernel) (by decide +kernel) (by decide +kernel) (by decide +kernel) ?_
  refine law_fst (cy := X0.2.2.1) (bs := [fB, fB]) (vs := [xs (t + 1), xs (t + 2)]) (t := 0) hE (by decide) (by decide) rfl (H 75 (by decide) 69 _ rfl) lkL_X11_work (by decide +kernel) (by decide) hI hB ⟨fl_int _, ⟨fl_int _, trivial⟩⟩ lwc_work hk hn (fun c v h d v2 h2 o b1 p r o2 b2 p2 r2 k1 k2 k3 k4 hr hkr K1 B1 L1 f1 ν1 μ1 G1 w1 hv1 hw1 hck1 => ?_)
  obtain ⟨a1, rfl⟩ := hv1
  refine x_pop hE (by decide +kernel) rfl ?_
  refine x_aload_n hE (z := 2) (i := 2) (x := mm) (by decide +kernel) rfl (by simp [lvL]) ?_
  refine s_arg hE hs (k1 := 1) (z := 1) (v := 1) hi (by omega) hN rfl rfl (by decide +kernel) (by decide +kernel) (by decide +kernel) (by decide +kernel) (by decide +kernel) ?_
  refine s_arg hE hs (k1 := 2) (z := 2) (v := 2) hi (by omega) hN rfl rfl (by decide +kernel) (by decide +kernel) (by decide +kernel) (by decide +kernel) (by decide +kernel) ?_
  refine law_snd (cy := X0.2.2.1) (bs := [fB, fB]) (vs := [xs (t + 1), xs (t + 2)]) (t := 0) hE (by decide) (by decide) rfl (H 380 (by decide) 200 _ rfl) lkL_X12_work (by decide +kernel) (by decide) rfl hw1 hck1 hk hn k1 k2 k3 k4 hr hkr (List.mem_cons_self ..) (fun K2 B2 L2 f2 v2 hv2 hI2 hB2 => ?_)
  obtain ⟨a2, rfl⟩ := hv2
  refine x_pop hE (by decide +kernel) rfl ?_
  refine x_goto hE (off := 1068) (tgt := 1607) (by decide +kernel) (by decide) ?_
  exact hend _ _ _ _ hI2 hB2
theorem lkL_X11_go : lkOk RL 60 0 11 3 (mt 39) := (show lkOk RL 60 0 11 3 (yX11_go, cX11_go, 3, (some .boolean)) from ⟨⟨q113, q1039, by decide, by decide, by decide⟩, ⟨q1036, q1037, ⟨RX11, TX11, 7, rfl, q1038⟩, by decide +kernel⟩⟩)
theorem lkL_X12_go : lkOk RL 63 0 12 3 (mt 115) := (show lkOk RL 63 0 12 3 (yX12_go, cX12_go, 3, (some .boolean)) from ⟨⟨q124, q1847, by decide, by decide, by decide⟩, ⟨q1844, q1845, ⟨RX12, TX12, 53, rfl, q1846⟩, by decide +kernel⟩⟩)
theorem lwc_go : lawCk 0 [fB, fB] c77 c362 553 568 = true := by decide +kernel
theorem lc_go {E : zCx} {X0 : zC0} {b N x mm k n : Nat} {xs : Nat → Int32} {K : Nat → Nat} {B : Int} {L : List Nat} {f : Nat → va_E} {t : Nat} {i : Int32} (hE : zOk E X0 RL cL_law 4 room_1) (hs : zSc E b N xs) (hN : N ≤ 3584) (H : ∀ j, j < 427 → CMj X0 j) (hi : i.toInt = t) (ht : t + 7 ≤ N) (hI : linv X0.2.2.1 K B L f x mm) (hB : B ≤ 2000900000) (hk : k + 11 ≤ 600000) (hn : n + 1329 ≤ 7302250) (hend : ∀ K' B' L' f', linv X0.2.2.1 K' B' L' f' x mm → B' ≤ B + 192000 → eW E (k + 11) (n + 1329) L' f' 1607 (lvL b x mm i) []) : eW E k n L f 542 (lvL b x mm i) [] := by
  refine x_aload_n hE (z := 1) (i := 1) (x := x) (by decide +kernel) rfl (by simp [lvL]) ?_
  refine s_arg hE hs (k1 := 1) (z := 1) (v := 1) hi (by omega) hN rfl rfl (by decide +kernel) (by decide +kernel) (by decide +kernel) (by decide +kernel) (by decide +kernel) ?_
  refine s_arg hE hs (k1 := 2) (z := 2) (v := 2) hi (by omega) hN rfl rfl (by decide +kernel) (by decide +kernel) (by decide +kernel) (by decide +kernel) (by decide +kernel) ?_
  refine law_fst (cy := X0.2.2.1) (bs := [fB, fB]) (vs := [xs (t + 1), xs (t + 2)]) (t := 0) hE (by decide) (by decide) rfl (H 77 (by decide) 39 _ rfl) lkL_X11_go (by decide +kernel) (by decide) hI hB ⟨fl_int _, ⟨fl_int _, trivial⟩⟩ lwc_go hk hn (fun c v h d v2 h2 o b1 p r o2 b2 p2 r2 k1 k2 k3 k4 hr hkr K1 B1 L1 f1 ν1 μ1 G1 w1 hv1 hw1 hck1 => ?_)
  obtain ⟨a1, rfl⟩ := hv1
  refine x_pop hE (by decide +kernel) rfl ?_
  refine x_aload_n hE (z := 2) (i := 2) (x := mm) (by decide +kernel) rfl (by simp [lvL]) ?_
  refine s_arg hE hs (k1 := 1) (z := 1) (v := 1) hi (by omega) hN rfl rfl (by decide +kernel) (by decide +kernel) (by decide +kernel) (by decide +kernel) (by decide +kernel) ?_
  refine s_arg hE hs (k1 := 2) (z := 2) (v := 2) hi (by omega) hN rfl rfl (by decide +kernel) (by decide +kernel) (by decide +kernel) (by decide +kernel) (by decide +kernel) ?_
  refine law_snd (cy := X0.2.2.1) (bs := [fB, fB]) (vs := [xs (t + 1), xs (t + 2)]) (t := 0) hE (by decide) (by decide) rfl (H 362 (by decide) 115 _ rfl) lkL_X12_go (by decide +kernel) (by decide) rfl hw1 hck1 hk hn k1 k2 k3 k4 hr hkr (List.mem_cons_self ..) (fun K2 B2 L2 f2 v2 hv2 hI2 hB2 => ?_)
  obtain ⟨a2, rfl⟩ := hv2
  refine x_pop hE (by decide +kernel) rfl ?_
  refine x_goto hE (off := 1035) (tgt := 1607) (by decide +kernel) (by decide) ?_
  exact hend _ _ _ _ hI2 hB2
theorem lkL_X11_shake : lkOk RL 64 0 11 3 (mt 61) := (show lkOk RL 64 0 11 3 (yX11_shake, cX11_shake, 3, (some .int)) from ⟨⟨q113, q1050, by decide, by decide, by decide⟩, ⟨q1047, q1048, ⟨RX11, TX11, 7, rfl, q1049⟩, by decide +kernel⟩⟩)
theorem lkL_X12_shake : lkOk RL 68 0 12 3 (mt 172) := (show lkOk RL 68 0 12 3 (yX12_shake, cX12_shake, 3, (some .int)) from ⟨⟨q124, q1855, by decide, by decide, by decide⟩, ⟨q1852, q1853, ⟨RX12, TX12, 53, rfl, q1854⟩, by decide +kernel⟩⟩)
theorem lwc_shake : lawCk 0 [fB, fB] c80 c381 586 601 = true := by decide +kernel
theorem lc_shake {E : zCx} {X0 : zC0} {b N x mm k n : Nat} {xs : Nat → Int32} {K : Nat → Nat} {B : Int} {L : List Nat} {f : Nat → va_E} {t : Nat} {i : Int32} (hE : zOk E X0 RL cL_law 4 room_1) (hs : zSc E b N xs) (hN : N ≤ 3584) (H : ∀ j, j < 427 → CMj X0 j) (hi : i.toInt = t) (ht : t + 7 ≤ N) (hI : linv X0.2.2.1 K B L f x mm) (hB : B ≤ 2000900000) (hk : k + 11 ≤ 600000) (hn : n + 1329 ≤ 7302250) (hend : ∀ K' B' L' f', linv X0.2.2.1 K' B' L' f' x mm → B' ≤ B + 192000 → eW E (k + 11) (n + 1329) L' f' 1607 (lvL b x mm i) []) : eW E k n L f 575 (lvL b x mm i) [] := by
  refine x_aload_n hE (z := 1) (i := 1) (x := x) (by decide +kernel) rfl (by simp [lvL]) ?_
  refine s_arg hE hs (k1 := 1) (z := 1) (v := 1) hi (by omega) hN rfl rfl (by decide +kernel) (by decide +kernel) (by decide +kernel) (by decide +kernel) (by decide +kernel) ?_
  refine s_arg hE hs (k1 := 2) (z := 2) (v := 2) hi (by omega) hN rfl rfl (by decide +kernel) (by decide +kernel) (by decide +kernel) (by decide +kernel) (by decide +kernel) ?_
  refine law_fst (cy := X0.2.2.1) (bs := [fB, fB]) (vs := [xs (t + 1), xs (t + 2)]) (t := 0) hE (by decide) (by decide) rfl (H 80 (by decide) 61 _ rfl) lkL_X11_shake (by decide +kernel) (by decide) hI hB ⟨fl_int _, ⟨fl_int _, trivial⟩⟩ lwc_shake hk hn (fun c v h d v2 h2 o b1 p r o2 b2 p2 r2 k1 k2 k3 k4 hr hkr K1 B1 L1 f1 ν1 μ1 G1 w1 hv1 hw1 hck1 => ?_)
  obtain ⟨a1, rfl⟩ := hv1
  refine x_pop hE (by decide +kernel) rfl ?_
  refine x_aload_n hE (z := 2) (i := 2) (x := mm) (by decide +kernel) rfl (by simp [lvL]) ?_
  refine s_arg hE hs (k1 := 1) (z := 1) (v := 1) hi (by omega) hN rfl rfl (by decide +kernel) (by decide +kernel) (by decide +kernel) (by decide +kernel) (by decide +kernel) ?_
  refine s_arg hE hs (k1 := 2) (z := 2) (v := 2) hi (by omega) hN rfl rfl (by decide +kernel) (by decide +kernel) (by decide +kernel) (by decide +kernel) (by decide +kernel) ?_
  refine law_snd (cy := X0.2.2.1) (bs := [fB, fB]) (vs := [xs (t + 1), xs (t + 2)]) (t := 0) hE (by decide) (by decide) rfl (H 381 (by decide) 172 _ rfl) lkL_X12_shake (by decide +kernel) (by decide) rfl hw1 hck1 hk hn k1 k2 k3 k4 hr hkr (List.mem_cons_self ..) (fun K2 B2 L2 f2 v2 hv2 hI2 hB2 => ?_)
  obtain ⟨a2, rfl⟩ := hv2
  refine x_pop hE (by decide +kernel) rfl ?_
  refine x_goto hE (off := 1002) (tgt := 1607) (by decide +kernel) (by decide) ?_
  exact hend _ _ _ _ hI2 hB2
theorem lkL_X11_steal : lkOk RL 69 0 11 4 (mt 63) := (show lkOk RL 69 0 11 4 (yX11_steal, cX11_steal, 4, (some .int)) from ⟨⟨q113, q1062, by decide, by decide, by decide⟩, ⟨q1059, q1060, ⟨RX11, TX11, 7, rfl, q1061⟩, by decide +kernel⟩⟩)
theorem lkL_X12_steal : lkOk RL 72 0 12 4 (mt 177) := (show lkOk RL 72 0 12 4 (yX12_steal, cX12_steal, 4, (some .int)) from ⟨⟨q124, q1867, by decide, by decide, by decide⟩, ⟨q1864, q1865, ⟨RX12, TX12, 53, rfl, q1866⟩, by decide +kernel⟩⟩)
theorem lwc_steal : lawCk 0 [fB, fB, fB] c82 c382 624 644 = true := by decide +kernel
theorem lc_steal {E : zCx} {X0 : zC0} {b N x mm k n : Nat} {xs : Nat → Int32} {K : Nat → Nat} {B : Int} {L : List Nat} {f : Nat → va_E} {t : Nat} {i : Int32} (hE : zOk E X0 RL cL_law 4 room_1) (hs : zSc E b N xs) (hN : N ≤ 3584) (H : ∀ j, j < 427 → CMj X0 j) (hi : i.toInt = t) (ht : t + 7 ≤ N) (hI : linv X0.2.2.1 K B L f x mm) (hB : B ≤ 2000900000) (hk : k + 11 ≤ 600000) (hn : n + 1329 ≤ 7302250) (hend : ∀ K' B' L' f', linv X0.2.2.1 K' B' L' f' x mm → B' ≤ B + 192000 → eW E (k + 11) (n + 1329) L' f' 1607 (lvL b x mm i) []) : eW E k n L f 608 (lvL b x mm i) [] := by
  refine x_aload_n hE (z := 1) (i := 1) (x := x) (by decide +kernel) rfl (by simp [lvL]) ?_
  refine s_arg hE hs (k1 := 1) (z := 1) (v := 1) hi (by omega) hN rfl rfl (by decide +kernel) (by decide +kernel) (by decide +kernel) (by decide +kernel) (by decide +kernel) ?_
  refine s_arg hE hs (k1 := 2) (z := 2) (v := 2) hi (by omega) hN rfl rfl (by decide +kernel) (by decide +kernel) (by decide +kernel) (by decide +kernel) (by decide +kernel) ?_
  refine s_arg hE hs (k1 := 3) (z := 3) (v := 3) hi (by omega) hN rfl rfl (by decide +kernel) (by decide +kernel) (by decide +kernel) (by decide +kernel) (by decide +kernel) ?_
  refine law_fst (cy := X0.2.2.1) (bs := [fB, fB, fB]) (vs := [xs (t + 1), xs (t + 2), xs (t + 3)]) (t := 0) hE (by decide) (by decide) rfl (H 82 (by decide) 63 _ rfl) lkL_X11_steal (by decide +kernel) (by decide) hI hB ⟨fl_int _, ⟨fl_int _, ⟨fl_int _, trivial⟩⟩⟩ lwc_steal hk hn (fun c v h d v2 h2 o b1 p r o2 b2 p2 r2 k1 k2 k3 k4 hr hkr K1 B1 L1 f1 ν1 μ1 G1 w1 hv1 hw1 hck1 => ?_)
  obtain ⟨a1, rfl⟩ := hv1
  refine x_pop hE (by decide +kernel) rfl ?_
  refine x_aload_n hE (z := 2) (i := 2) (x := mm) (by decide +kernel) rfl (by simp [lvL]) ?_
  refine s_arg hE hs (k1 := 1) (z := 1) (v := 1) hi (by omega) hN rfl rfl (by decide +kernel) (by decide +kernel) (by decide +kernel) (by decide +kernel) (by decide +kernel) ?_
  refine s_arg hE hs (k1 := 2) (z := 2) (v := 2) hi (by omega) hN rfl rfl (by decide +kernel) (by decide +kernel) (by decide +kernel) (by decide +kernel) (by decide +kernel) ?_
  refine s_arg hE hs (k1 := 3) (z := 3) (v := 3) hi (by omega) hN rfl rfl (by decide +kernel) (by decide +kernel) (by decide +kernel) (by decide +kernel) (by decide +kernel) ?_
  refine law_snd (cy := X0.2.2.1) (bs := [fB, fB, fB]) (vs := [xs (t + 1), xs (t + 2), xs (t + 3)]) (t := 0) hE (by decide) (by decide) rfl (H 382 (by decide) 177 _ rfl) lkL_X12_steal (by decide +kernel) (by decide) rfl hw1 hck1 hk hn k1 k2 k3 k4 hr hkr (List.mem_cons_self ..) (fun K2 B2 L2 f2 v2 hv2 hI2 hB2 => ?_)
  obtain ⟨a2, rfl⟩ := hv2
  refine x_pop hE (by decide +kernel) rfl ?_
  refine x_goto hE (off := 959) (tgt := 1607) (by decide +kernel) (by decide) ?_
  exact hend _ _ _ _ hI2 hB2
theorem lkL_X11_pour : lkOk RL 73 0 11 3 (mt 58) := (show lkOk RL 73 0 11 3 (yX11_pour, cX11_pour, 4, (some .int)) from ⟨⟨q113, q1076, by decide, by decide, by decide⟩, ⟨q1073, q1074, ⟨RX11, TX11, 7, rfl, q1075⟩, by decide +kernel⟩⟩)
theorem lkL_X12_pour : lkOk RL 76 0 12 3 (mt 161) := (show lkOk RL 76 0 12 3 (yX12_pour, cX12_pour, 3, (some .int)) from ⟨⟨q124, q1879, by decide, by decide, by decide⟩, ⟨q1876, q1877, ⟨RX12, TX12, 53, rfl, q1878⟩, by decide +kernel⟩⟩)
theorem lwc_pour : lawCk 0 [fB, fB] c83 c383 662 677 = true := by decide +kernel
theorem lc_pour {E : zCx} {X0 : zC0} {b N x mm k n : Nat} {xs : Nat → Int32} {K : Nat → Nat} {B : Int} {L : List Nat} {f : Nat → va_E} {t : Nat} {i : Int32} (hE : zOk E X0 RL cL_law 4 room_1) (hs : zSc E b N xs) (hN : N ≤ 3584) (H : ∀ j, j < 427 → CMj X0 j) (hi : i.toInt = t) (ht : t + 7 ≤ N) (hI : linv X0.2.2.1 K B L f x mm) (hB : B ≤ 2000900000) (hk : k + 11 ≤ 600000) (hn : n + 1329 ≤ 7302250) (hend : ∀ K' B' L' f', linv X0.2.2.1 K' B' L' f' x mm → B' ≤ B + 192000 → eW E (k + 11) (n + 1329) L' f' 1607 (lvL b x mm i) []) : eW E k n L f 651 (lvL b x mm i) [] := by
  refine x_aload_n hE (z := 1) (i := 1) (x := x) (by decide +kernel) rfl (by simp [lvL]) ?_
  refine s_arg hE hs (k1 := 1) (z := 1) (v := 1) hi (by omega) hN rfl rfl (by decide +kernel) (by decide +kernel) (by decide +kernel) (by decide +kernel) (by decide +kernel) ?_
  refine s_arg hE hs (k1 := 2) (z := 2) (v := 2) hi (by omega) hN rfl rfl (by decide +kernel) (by decide +kernel) (by decide +kernel) (by decide +kernel) (by decide +kernel) ?_
  refine law_fst (cy := X0.2.2.1) (bs := [fB, fB]) (vs := [xs (t + 1), xs (t + 2)]) (t := 0) hE (by decide) (by decide) rfl (H 83 (by decide) 58 _ rfl) lkL_X11_pour (by decide +kernel) (by decide) hI hB ⟨fl_int _, ⟨fl_int _, trivial⟩⟩ lwc_pour hk hn (fun c v h d v2 h2 o b1 p r o2 b2 p2 r2 k1 k2 k3 k4 hr hkr K1 B1 L1 f1 ν1 μ1 G1 w1 hv1 hw1 hck1 => ?_)
  obtain ⟨a1, rfl⟩ := hv1
  refine x_pop hE (by decide +kernel) rfl ?_
  refine x_aload_n hE (z := 2) (i := 2) (x := mm) (by decide +kernel) rfl (by simp [lvL]) ?_
  refine s_arg hE hs (k1 := 1) (z := 1) (v := 1) hi (by omega) hN rfl rfl (by decide +kernel) (by decide +kernel) (by decide +kernel) (by decide +kernel) (by decide +kernel) ?_
  refine s_arg hE hs (k1 := 2) (z := 2) (v := 2) hi (by omega) hN rfl rfl (by decide +kernel) (by decide +kernel) (by decide +kernel) (by decide +kernel) (by decide +kernel) ?_
  refine law_snd (cy := X0.2.2.1) (bs := [fB, fB]) (vs := [xs (t + 1), xs (t + 2)]) (t := 0) hE (by decide) (by decide) rfl (H 383 (by decide) 161 _ rfl) lkL_X12_pour (by decide +kernel) (by decide) rfl hw1 hck1 hk hn k1 k2 k3 k4 hr hkr (List.mem_cons_self ..) (fun K2 B2 L2 f2 v2 hv2 hI2 hB2 => ?_)
  obtain ⟨a2, rfl⟩ := hv2
  refine x_pop hE (by decide +kernel) rfl ?_
  refine x_goto hE (off := 926) (tgt := 1607) (by decide +kernel) (by decide) ?_
  exact hend _ _ _ _ hI2 hB2
