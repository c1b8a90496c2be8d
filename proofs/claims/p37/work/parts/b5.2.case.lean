/-! Cases of the law. -/
theorem lkL_X11_played : lkOk RL 77 0 11 2 (mt 57) := (show lkOk RL 77 0 11 2 (yX11_played, cX11_played, 4, (some .int)) from ⟨⟨q113, q1080, by decide, by decide, by decide⟩, ⟨q1077, q1078, ⟨RX11, TX11, 7, rfl, q1079⟩, by decide +kernel⟩⟩)
theorem lkL_X12_played : lkOk RL 80 0 12 2 (mt 160) := (show lkOk RL 80 0 12 2 (yX12_played, cX12_played, 3, (some .int)) from ⟨⟨q124, q1883, by decide, by decide, by decide⟩, ⟨q1880, q1881, ⟨RX12, TX12, 53, rfl, q1882⟩, by decide +kernel⟩⟩)
theorem lwc_played : lawCk 0 [fB] c180 c408 690 700 = true := by decide +kernel
theorem lc_played {E : zCx} {X0 : zC0} {b N x mm k n : Nat} {xs : Nat → Int32} {K : Nat → Nat} {B : Int} {L : List Nat} {f : Nat → va_E} {t : Nat} {i : Int32} (hE : zOk E X0 RL cL_law 4 room_1) (hs : zSc E b N xs) (hN : N ≤ 3584) (H : ∀ j, j < 427 → CMj X0 j) (hi : i.toInt = t) (ht : t + 7 ≤ N) (hI : linv X0.2.2.1 K B L f x mm) (hB : B ≤ 2000900000) (hk : k + 11 ≤ 600000) (hn : n + 1329 ≤ 7302250) (hend : ∀ K' B' L' f', linv X0.2.2.1 K' B' L' f' x mm → B' ≤ B + 192000 → eW E (k + 11) (n + 1329) L' f' 1607 (lvL b x mm i) []) : eW E k n L f 684 (lvL b x mm i) [] := by
  refine x_aload_n hE (z := 1) (i := 1) (x := x) (by decide +kernel) rfl (by simp [lvL]) ?_
  refine s_arg hE hs (k1 := 1) (z := 1) (v := 1) hi (by omega) hN rfl rfl (by decide +kernel) (by decide +kernel) (by decide +kernel) (by decide +kernel) (by decide +kernel) ?_
  refine law_fst (cy := X0.2.2.1) (bs := [fB]) (vs := [xs (t + 1)]) (t := 0) hE (by decide) (by decide) rfl (H 180 (by decide) 57 _ rfl) lkL_X11_played (by decide +kernel) (by decide) hI hB ⟨fl_int _, trivial⟩ lwc_played hk hn (fun c v h d v2 h2 o b1 p r o2 b2 p2 r2 k1 k2 k3 k4 hr hkr K1 B1 L1 f1 ν1 μ1 G1 w1 hv1 hw1 hck1 => ?_)
  obtain ⟨a1, rfl⟩ := hv1
  refine x_pop hE (by decide +kernel) rfl ?_
  refine x_aload_n hE (z := 2) (i := 2) (x := mm) (by decide +kernel) rfl (by simp [lvL]) ?_
  refine s_arg hE hs (k1 := 1) (z := 1) (v := 1) hi (by omega) hN rfl rfl (by decide +kernel) (by decide +kernel) (by decide +kernel) (by decide +kernel) (by decide +kernel) ?_
  refine law_snd (cy := X0.2.2.1) (bs := [fB]) (vs := [xs (t + 1)]) (t := 0) hE (by decide) (by decide) rfl (H 408 (by decide) 160 _ rfl) lkL_X12_played (by decide +kernel) (by decide) rfl hw1 hck1 hk hn k1 k2 k3 k4 hr hkr (List.mem_cons_self ..) (fun K2 B2 L2 f2 v2 hv2 hI2 hB2 => ?_)
  obtain ⟨a2, rfl⟩ := hv2
  refine x_pop hE (by decide +kernel) rfl ?_
  refine x_goto hE (off := 903) (tgt := 1607) (by decide +kernel) (by decide) ?_
  exact hend _ _ _ _ hI2 hB2
theorem lkL_X11_year : lkOk RL 81 0 11 3 (mt 70) := (show lkOk RL 81 0 11 3 (yX11_year, cX11_year, 5, (some .int)) from ⟨⟨q113, q1097, by decide, by decide, by decide⟩, ⟨q1094, q1095, ⟨RX11, TX11, 7, rfl, q1096⟩, by decide +kernel⟩⟩)
theorem lkL_X12_year : lkOk RL 84 0 12 3 (mt 203) := (show lkOk RL 84 0 12 3 (yX12_year, cX12_year, 7, (some .int)) from ⟨⟨q124, q1903, by decide, by decide, by decide⟩, ⟨q1900, q1901, ⟨RX12, TX12, 53, rfl, q1902⟩, by decide +kernel⟩⟩)
theorem lwc_year : lawCk 0 [fB, fB] c289 c419 718 733 = true := by decide +kernel
theorem lc_year {E : zCx} {X0 : zC0} {b N x mm k n : Nat} {xs : Nat → Int32} {K : Nat → Nat} {B : Int} {L : List Nat} {f : Nat → va_E} {t : Nat} {i : Int32} (hE : zOk E X0 RL cL_law 4 room_1) (hs : zSc E b N xs) (hN : N ≤ 3584) (H : ∀ j, j < 427 → CMj X0 j) (hi : i.toInt = t) (ht : t + 7 ≤ N) (hI : linv X0.2.2.1 K B L f x mm) (hB : B ≤ 2000900000) (hk : k + 11 ≤ 600000) (hn : n + 1329 ≤ 7302250) (hend : ∀ K' B' L' f', linv X0.2.2.1 K' B' L' f' x mm → B' ≤ B + 192000 → eW E (k + 11) (n + 1329) L' f' 1607 (lvL b x mm i) []) : eW E k n L f 707 (lvL b x mm i) [] := by
  refine x_aload_n hE (z := 1) (i := 1) (x := x) (by decide +kernel) rfl (by simp [lvL]) ?_
  refine s_arg hE hs (k1 := 1) (z := 1) (v := 1) hi (by omega) hN rfl rfl (by decide +kernel) (by decide +kernel) (by decide +kernel) (by decide +kernel) (by decide +kernel) ?_
  refine s_arg hE hs (k1 := 2) (z := 2) (v := 2) hi (by omega) hN rfl rfl (by decide +kernel) (by decide +kernel) (by decide +kernel) (by decide +kernel) (by decide +kernel) ?_
  refine law_fst (cy := X0.2.2.1) (bs := [fB, fB]) (vs := [xs (t + 1), xs (t + 2)]) (t := 0) hE (by decide) (by decide) rfl (H 289 (by decide) 70 _ rfl) lkL_X11_year (by decide +kernel) (by decide) hI hB ⟨fl_int _, ⟨fl_int _, trivial⟩⟩ lwc_year hk hn (fun c v h d v2 h2 o b1 p r o2 b2 p2 r2 k1 k2 k3 k4 hr hkr K1 B1 L1 f1 ν1 μ1 G1 w1 hv1 hw1 hck1 => ?_)
  obtain ⟨a1, rfl⟩ := hv1
  refine x_pop hE (by decide +kernel) rfl ?_
  refine x_aload_n hE (z := 2) (i := 2) (x := mm) (by decide +kernel) rfl (by simp [lvL]) ?_
  refine s_arg hE hs (k1 := 1) (z := 1) (v := 1) hi (by omega) hN rfl rfl (by decide +kernel) (by decide +kernel) (by decide +kernel) (by decide +kernel) (by decide +kernel) ?_
  refine s_arg hE hs (k1 := 2) (z := 2) (v := 2) hi (by omega) hN rfl rfl (by decide +kernel) (by decide +kernel) (by decide +kernel) (by decide +kernel) (by decide +kernel) ?_
  refine law_snd (cy := X0.2.2.1) (bs := [fB, fB]) (vs := [xs (t + 1), xs (t + 2)]) (t := 0) hE (by decide) (by decide) rfl (H 419 (by decide) 203 _ rfl) lkL_X12_year (by decide +kernel) (by decide) rfl hw1 hck1 hk hn k1 k2 k3 k4 hr hkr (List.mem_cons_self ..) (fun K2 B2 L2 f2 v2 hv2 hI2 hB2 => ?_)
  obtain ⟨a2, rfl⟩ := hv2
  refine x_pop hE (by decide +kernel) rfl ?_
  refine x_goto hE (off := 870) (tgt := 1607) (by decide +kernel) (by decide) ?_
  exact hend _ _ _ _ hI2 hB2
theorem lkL_X11_undo : lkOk RL 85 0 11 1 (mt 66) := (show lkOk RL 85 0 11 1 (yX11_undo, cX11_undo, 1, (some .int)) from ⟨⟨q113, q1109, by decide, by decide, by decide⟩, ⟨q1106, q1107, ⟨RX11, TX11, 7, rfl, q1108⟩, by decide +kernel⟩⟩)
theorem lkL_X12_undo : lkOk RL 88 0 12 1 (mt 189) := (show lkOk RL 88 0 12 1 (yX12_undo, cX12_undo, 5, (some .int)) from ⟨⟨q124, q1752, by decide, by decide, by decide⟩, ⟨q1749, q1750, ⟨RX12, TX12, 53, rfl, q1751⟩, by decide +kernel⟩⟩)
theorem lwc_undo : lawCk 0 [] c284 c416 741 746 = true := by decide +kernel
theorem lc_undo {E : zCx} {X0 : zC0} {b N x mm k n : Nat} {xs : Nat → Int32} {K : Nat → Nat} {B : Int} {L : List Nat} {f : Nat → va_E} {t : Nat} {i : Int32} (hE : zOk E X0 RL cL_law 4 room_1) (hs : zSc E b N xs) (hN : N ≤ 3584) (H : ∀ j, j < 427 → CMj X0 j) (hi : i.toInt = t) (ht : t + 7 ≤ N) (hI : linv X0.2.2.1 K B L f x mm) (hB : B ≤ 2000900000) (hk : k + 11 ≤ 600000) (hn : n + 1329 ≤ 7302250) (hend : ∀ K' B' L' f', linv X0.2.2.1 K' B' L' f' x mm → B' ≤ B + 192000 → eW E (k + 11) (n + 1329) L' f' 1607 (lvL b x mm i) []) : eW E k n L f 740 (lvL b x mm i) [] := by
  refine x_aload_n hE (z := 1) (i := 1) (x := x) (by decide +kernel) rfl (by simp [lvL]) ?_
  refine law_fst (cy := X0.2.2.1) (bs := []) (vs := []) (t := 0) hE (by decide) (by decide) rfl (H 284 (by decide) 66 _ rfl) lkL_X11_undo (by decide +kernel) (by decide) hI hB trivial lwc_undo hk hn (fun c v h d v2 h2 o b1 p r o2 b2 p2 r2 k1 k2 k3 k4 hr hkr K1 B1 L1 f1 ν1 μ1 G1 w1 hv1 hw1 hck1 => ?_)
  obtain ⟨a1, rfl⟩ := hv1
  refine x_pop hE (by decide +kernel) rfl ?_
  refine x_aload_n hE (z := 2) (i := 2) (x := mm) (by decide +kernel) rfl (by simp [lvL]) ?_
  refine law_snd (cy := X0.2.2.1) (bs := []) (vs := []) (t := 0) hE (by decide) (by decide) rfl (H 416 (by decide) 189 _ rfl) lkL_X12_undo (by decide +kernel) (by decide) rfl hw1 hck1 hk hn k1 k2 k3 k4 hr hkr (List.mem_cons_self ..) (fun K2 B2 L2 f2 v2 hv2 hI2 hB2 => ?_)
  obtain ⟨a2, rfl⟩ := hv2
  refine x_pop hE (by decide +kernel) rfl ?_
  refine x_goto hE (off := 857) (tgt := 1607) (by decide +kernel) (by decide) ?_
  exact hend _ _ _ _ hI2 hB2
theorem lkL_X11_ofField : lkOk RL 89 0 11 3 (mt 52) := (show lkOk RL 89 0 11 3 (yX11_ofField, cX11_ofField, 5, (some .int)) from ⟨⟨q113, q1122, by decide, by decide, by decide⟩, ⟨q1119, q1120, ⟨RX11, TX11, 7, rfl, q1121⟩, by decide +kernel⟩⟩)
theorem lkL_X12_ofField : lkOk RL 92 0 12 3 (mt 147) := (show lkOk RL 92 0 12 3 (yX12_ofField, cX12_ofField, 3, (some .int)) from ⟨⟨q124, q1914, by decide, by decide, by decide⟩, ⟨q1911, q1912, ⟨RX12, TX12, 53, rfl, q1913⟩, by decide +kernel⟩⟩)
theorem lwc_ofField : lawCk 0 [fB, fB] c133 c402 764 779 = true := by decide +kernel
theorem lc_ofField {E : zCx} {X0 : zC0} {b N x mm k n : Nat} {xs : Nat → Int32} {K : Nat → Nat} {B : Int} {L : List Nat} {f : Nat → va_E} {t : Nat} {i : Int32} (hE : zOk E X0 RL cL_law 4 room_1) (hs : zSc E b N xs) (hN : N ≤ 3584) (H : ∀ j, j < 427 → CMj X0 j) (hi : i.toInt = t) (ht : t + 7 ≤ N) (hI : linv X0.2.2.1 K B L f x mm) (hB : B ≤ 2000900000) (hk : k + 11 ≤ 600000) (hn : n + 1329 ≤ 7302250) (hend : ∀ K' B' L' f', linv X0.2.2.1 K' B' L' f' x mm → B' ≤ B + 192000 → eW E (k + 11) (n + 1329) L' f' 1607 (lvL b x mm i) []) : eW E k n L f 753 (lvL b x mm i) [] := by
  refine x_aload_n hE (z := 1) (i := 1) (x := x) (by decide +kernel) rfl (by simp [lvL]) ?_
  refine s_arg hE hs (k1 := 1) (z := 1) (v := 1) hi (by omega) hN rfl rfl (by decide +kernel) (by decide +kernel) (by decide +kernel) (by decide +kernel) (by decide +kernel) ?_
  refine s_arg hE hs (k1 := 2) (z := 2) (v := 2) hi (by omega) hN rfl rfl (by decide +kernel) (by decide +kernel) (by decide +kernel) (by decide +kernel) (by decide +kernel) ?_
  refine law_fst (cy := X0.2.2.1) (bs := [fB, fB]) (vs := [xs (t + 1), xs (t + 2)]) (t := 0) hE (by decide) (by decide) rfl (H 133 (by decide) 52 _ rfl) lkL_X11_ofField (by decide +kernel) (by decide) hI hB ⟨fl_int _, ⟨fl_int _, trivial⟩⟩ lwc_ofField hk hn (fun c v h d v2 h2 o b1 p r o2 b2 p2 r2 k1 k2 k3 k4 hr hkr K1 B1 L1 f1 ν1 μ1 G1 w1 hv1 hw1 hck1 => ?_)
  obtain ⟨a1, rfl⟩ := hv1
  refine x_pop hE (by decide +kernel) rfl ?_
  refine x_aload_n hE (z := 2) (i := 2) (x := mm) (by decide +kernel) rfl (by simp [lvL]) ?_
  refine s_arg hE hs (k1 := 1) (z := 1) (v := 1) hi (by omega) hN rfl rfl (by decide +kernel) (by decide +kernel) (by decide +kernel) (by decide +kernel) (by decide +kernel) ?_
  refine s_arg hE hs (k1 := 2) (z := 2) (v := 2) hi (by omega) hN rfl rfl (by decide +kernel) (by decide +kernel) (by decide +kernel) (by decide +kernel) (by decide +kernel) ?_
  refine law_snd (cy := X0.2.2.1) (bs := [fB, fB]) (vs := [xs (t + 1), xs (t + 2)]) (t := 0) hE (by decide) (by decide) rfl (H 402 (by decide) 147 _ rfl) lkL_X12_ofField (by decide +kernel) (by decide) rfl hw1 hck1 hk hn k1 k2 k3 k4 hr hkr (List.mem_cons_self ..) (fun K2 B2 L2 f2 v2 hv2 hI2 hB2 => ?_)
  obtain ⟨a2, rfl⟩ := hv2
  refine x_pop hE (by decide +kernel) rfl ?_
  refine x_goto hE (off := 824) (tgt := 1607) (by decide +kernel) (by decide) ?_
  exact hend _ _ _ _ hI2 hB2
theorem lkL_X11_ofPerson : lkOk RL 93 0 11 3 (mt 53) := (show lkOk RL 93 0 11 3 (yX11_ofPerson, cX11_ofPerson, 5, (some .int)) from ⟨⟨q113, q1130, by decide, by decide, by decide⟩, ⟨q1127, q1128, ⟨RX11, TX11, 7, rfl, q1129⟩, by decide +kernel⟩⟩)
theorem lkL_X12_ofPerson : lkOk RL 96 0 12 3 (mt 148) := (show lkOk RL 96 0 12 3 (yX12_ofPerson, cX12_ofPerson, 3, (some .int)) from ⟨⟨q124, q1922, by decide, by decide, by decide⟩, ⟨q1919, q1920, ⟨RX12, TX12, 53, rfl, q1921⟩, by decide +kernel⟩⟩)
theorem lwc_ofPerson : lawCk 0 [fB, fB] c134 c403 797 812 = true := by decide +kernel
theorem lc_ofPerson {E : zCx} {X0 : zC0} {b N x mm k n : Nat} {xs : Nat → Int32} {K : Nat → Nat} {B : Int} {L : List Nat} {f : Nat → va_E} {t : Nat} {i : Int32} (hE : zOk E X0 RL cL_law 4 room_1) (hs : zSc E b N xs) (hN : N ≤ 3584) (H : ∀ j, j < 427 → CMj X0 j) (hi : i.toInt = t) (ht : t + 7 ≤ N) (hI : linv X0.2.2.1 K B L f x mm) (hB : B ≤ 2000900000) (hk : k + 11 ≤ 600000) (hn : n + 1329 ≤ 7302250) (hend : ∀ K' B' L' f', linv X0.2.2.1 K' B' L' f' x mm → B' ≤ B + 192000 → eW E (k + 11) (n + 1329) L' f' 1607 (lvL b x mm i) []) : eW E k n L f 786 (lvL b x mm i) [] := by
  refine x_aload_n hE (z := 1) (i := 1) (x := x) (by decide +kernel) rfl (by simp [lvL]) ?_
  refine s_arg hE hs (k1 := 1) (z := 1) (v := 1) hi (by omega) hN rfl rfl (by decide +kernel) (by decide +kernel) (by decide +kernel) (by decide +kernel) (by decide +kernel) ?_
  refine s_arg hE hs (k1 := 2) (z := 2) (v := 2) hi (by omega) hN rfl rfl (by decide +kernel) (by decide +kernel) (by decide +kernel) (by decide +kernel) (by decide +kernel) ?_
  refine law_fst (cy := X0.2.2.1) (bs := [fB, fB]) (vs := [xs (t + 1), xs (t + 2)]) (t := 0) hE (by decide) (by decide) rfl (H 134 (by decide) 53 _ rfl) lkL_X11_ofPerson (by decide +kernel) (by decide) hI hB ⟨fl_int _, ⟨fl_int _, trivial⟩⟩ lwc_ofPerson hk hn (fun c v h d v2 h2 o b1 p r o2 b2 p2 r2 k1 k2 k3 k4 hr hkr K1 B1 L1 f1 ν1 μ1 G1 w1 hv1 hw1 hck1 => ?_)
  obtain ⟨a1, rfl⟩ := hv1
  refine x_pop hE (by decide +kernel) rfl ?_
  refine x_aload_n hE (z := 2) (i := 2) (x := mm) (by decide +kernel) rfl (by simp [lvL]) ?_
  refine s_arg hE hs (k1 := 1) (z := 1) (v := 1) hi (by omega) hN rfl rfl (by decide +kernel) (by decide +kernel) (by decide +kernel) (by decide +kernel) (by decide +kernel) ?_
  refine s_arg hE hs (k1 := 2) (z := 2) (v := 2) hi (by omega) hN rfl rfl (by decide +kernel) (by decide +kernel) (by decide +kernel) (by decide +kernel) (by decide +kernel) ?_
  refine law_snd (cy := X0.2.2.1) (bs := [fB, fB]) (vs := [xs (t + 1), xs (t + 2)]) (t := 0) hE (by decide) (by decide) rfl (H 403 (by decide) 148 _ rfl) lkL_X12_ofPerson (by decide +kernel) (by decide) rfl hw1 hck1 hk hn k1 k2 k3 k4 hr hkr (List.mem_cons_self ..) (fun K2 B2 L2 f2 v2 hv2 hI2 hB2 => ?_)
  obtain ⟨a2, rfl⟩ := hv2
  refine x_pop hE (by decide +kernel) rfl ?_
  refine x_goto hE (off := 791) (tgt := 1607) (by decide +kernel) (by decide) ?_
  exact hend _ _ _ _ hI2 hB2
theorem lkL_X11_rained : lkOk RL 97 0 11 3 (mt 59) := (show lkOk RL 97 0 11 3 (yX11_rained, cX11_rained, 4, (some .int)) from ⟨⟨q113, q1139, by decide, by decide, by decide⟩, ⟨q1136, q1137, ⟨RX11, TX11, 7, rfl, q1138⟩, by decide +kernel⟩⟩)
theorem lkL_X12_rained : lkOk RL 100 0 12 3 (mt 165) := (show lkOk RL 100 0 12 3 (yX12_rained, cX12_rained, 5, (some .int)) from ⟨⟨q124, q1930, by decide, by decide, by decide⟩, ⟨q1927, q1928, ⟨RX12, TX12, 53, rfl, q1929⟩, by decide +kernel⟩⟩)
theorem lwc_rained : lawCk 0 [fB, fB] c181 c409 830 845 = true := by decide +kernel
theorem lc_rained {E : zCx} {X0 : zC0} {b N x mm k n : Nat} {xs : Nat → Int32} {K : Nat → Nat} {B : Int} {L : List Nat} {f : Nat → va_E} {t : Nat} {i : Int32} (hE : zOk E X0 RL cL_law 4 room_1) (hs : zSc E b N xs) (hN : N ≤ 3584) (H : ∀ j, j < 427 → CMj X0 j) (hi : i.toInt = t) (ht : t + 7 ≤ N) (hI : linv X0.2.2.1 K B L f x mm) (hB : B ≤ 2000900000) (hk : k + 11 ≤ 600000) (hn : n + 1329 ≤ 7302250) (hend : ∀ K' B' L' f', linv X0.2.2.1 K' B' L' f' x mm → B' ≤ B + 192000 → eW E (k + 11) (n + 1329) L' f' 1607 (lvL b x mm i) []) : eW E k n L f 819 (lvL b x mm i) [] := by
  refine x_aload_n hE (z := 1) (i := 1) (x := x) (by decide +kernel) rfl (by simp [lvL]) ?_
  refine s_arg hE hs (k1 := 1) (z := 1) (v := 1) hi (by omega) hN rfl rfl (by decide +kernel) (by decide +kernel) (by decide +kernel) (by decide +kernel) (by decide +kernel) ?_
  refine s_arg hE hs (k1 := 2) (z := 2) (v := 2) hi (by omega) hN rfl rfl (by decide +kernel) (by decide +kernel) (by decide +kernel) (by decide +kernel) (by decide +kernel) ?_
  refine law_fst (cy := X0.2.2.1) (bs := [fB, fB]) (vs := [xs (t + 1), xs (t + 2)]) (t := 0) hE (by decide) (by decide) rfl (H 181 (by decide) 59 _ rfl) lkL_X11_rained (by decide +kernel) (by decide) hI hB ⟨fl_int _, ⟨fl_int _, trivial⟩⟩ lwc_rained hk hn (fun c v h d v2 h2 o b1 p r o2 b2 p2 r2 k1 k2 k3 k4 hr hkr K1 B1 L1 f1 ν1 μ1 G1 w1 hv1 hw1 hck1 => ?_)
  obtain ⟨a1, rfl⟩ := hv1
  refine x_pop hE (by decide +kernel) rfl ?_
  refine x_aload_n hE (z := 2) (i := 2) (x := mm) (by decide +kernel) rfl (by simp [lvL]) ?_
  refine s_arg hE hs (k1 := 1) (z := 1) (v := 1) hi (by omega) hN rfl rfl (by decide +kernel) (by decide +kernel) (by decide +kernel) (by decide +kernel) (by decide +kernel) ?_
  refine s_arg hE hs (k1 := 2) (z := 2) (v := 2) hi (by omega) hN rfl rfl (by decide +kernel) (by decide +kernel) (by decide +kernel) (by decide +kernel) (by decide +kernel) ?_
  refine law_snd (cy := X0.2.2.1) (bs := [fB, fB]) (vs := [xs (t + 1), xs (t + 2)]) (t := 0) hE (by decide) (by decide) rfl (H 409 (by decide) 165 _ rfl) lkL_X12_rained (by decide +kernel) (by decide) rfl hw1 hck1 hk hn k1 k2 k3 k4 hr hkr (List.mem_cons_self ..) (fun K2 B2 L2 f2 v2 hv2 hI2 hB2 => ?_)
  obtain ⟨a2, rfl⟩ := hv2
  refine x_pop hE (by decide +kernel) rfl ?_
  refine x_goto hE (off := 758) (tgt := 1607) (by decide +kernel) (by decide) ?_
  exact hend _ _ _ _ hI2 hB2
theorem lkL_X11_foretoldWet : lkOk RL 101 0 11 3 (mt 38) := (show lkOk RL 101 0 11 3 (yX11_foretoldWet, cX11_foretoldWet, 3, (some .int)) from ⟨⟨q113, q1163, by decide, by decide, by decide⟩, ⟨q1160, q1161, ⟨RX11, TX11, 7, rfl, q1162⟩, by decide +kernel⟩⟩)
theorem lkL_X12_foretoldWet : lkOk RL 104 0 12 3 (mt 112) := (show lkOk RL 104 0 12 3 (yX12_foretoldWet, cX12_foretoldWet, 4, (some .int)) from ⟨⟨q124, q1935, by decide, by decide, by decide⟩, ⟨q1932, q1933, ⟨RX12, TX12, 53, rfl, q1934⟩, by decide +kernel⟩⟩)
theorem lwc_foretoldWet : lawCk 0 [fB, fB] c112 c357 863 878 = true := by decide +kernel
theorem lc_foretoldWet {E : zCx} {X0 : zC0} {b N x mm k n : Nat} {xs : Nat → Int32} {K : Nat → Nat} {B : Int} {L : List Nat} {f : Nat → va_E} {t : Nat} {i : Int32} (hE : zOk E X0 RL cL_law 4 room_1) (hs : zSc E b N xs) (hN : N ≤ 3584) (H : ∀ j, j < 427 → CMj X0 j) (hi : i.toInt = t) (ht : t + 7 ≤ N) (hI : linv X0.2.2.1 K B L f x mm) (hB : B ≤ 2000900000) (hk : k + 11 ≤ 600000) (hn : n + 1329 ≤ 7302250) (hend : ∀ K' B' L' f', linv X0.2.2.1 K' B' L' f' x mm → B' ≤ B + 192000 → eW E (k + 11) (n + 1329) L' f' 1607 (lvL b x mm i) []) : eW E k n L f 852 (lvL b x mm i) [] := by
  refine x_aload_n hE (z := 1) (i := 1) (x := x) (by decide +kernel) rfl (by simp [lvL]) ?_
  refine s_arg hE hs (k1 := 1) (z := 1) (v := 1) hi (by omega) hN rfl rfl (by decide +kernel) (by decide +kernel) (by decide +kernel) (by decide +kernel) (by decide +kernel) ?_
  refine s_arg hE hs (k1 := 2) (z := 2) (v := 2) hi (by omega) hN rfl rfl (by decide +kernel) (by decide +kernel) (by decide +kernel) (by decide +kernel) (by decide +kernel) ?_
  refine law_fst (cy := X0.2.2.1) (bs := [fB, fB]) (vs := [xs (t + 1), xs (t + 2)]) (t := 0) hE (by decide) (by decide) rfl (H 112 (by decide) 38 _ rfl) lkL_X11_foretoldWet (by decide +kernel) (by decide) hI hB ⟨fl_int _, ⟨fl_int _, trivial⟩⟩ lwc_foretoldWet hk hn (fun c v h d v2 h2 o b1 p r o2 b2 p2 r2 k1 k2 k3 k4 hr hkr K1 B1 L1 f1 ν1 μ1 G1 w1 hv1 hw1 hck1 => ?_)
  obtain ⟨a1, rfl⟩ := hv1
  refine x_pop hE (by decide +kernel) rfl ?_
  refine x_aload_n hE (z := 2) (i := 2) (x := mm) (by decide +kernel) rfl (by simp [lvL]) ?_
  refine s_arg hE hs (k1 := 1) (z := 1) (v := 1) hi (by omega) hN rfl rfl (by decide +kernel) (by decide +kernel) (by decide +kernel) (by decide +kernel) (by decide +kernel) ?_
  refine s_arg hE hs (k1 := 2) (z := 2) (v := 2) hi (by omega) hN rfl rfl (by decide +kernel) (by decide +kernel) (by decide +kernel) (by decide +kernel) (by decide +kernel) ?_
  refine law_snd (cy := X0.2.2.1) (bs := [fB, fB]) (vs := [xs (t + 1), xs (t + 2)]) (t := 0) hE (by decide) (by decide) rfl (H 357 (by decide) 112 _ rfl) lkL_X12_foretoldWet (by decide +kernel) (by decide) rfl hw1 hck1 hk hn k1 k2 k3 k4 hr hkr (List.mem_cons_self ..) (fun K2 B2 L2 f2 v2 hv2 hI2 hB2 => ?_)
  obtain ⟨a2, rfl⟩ := hv2
  refine x_pop hE (by decide +kernel) rfl ?_
  refine x_goto hE (off := 725) (tgt := 1607) (by decide +kernel) (by decide) ?_
  exact hend _ _ _ _ hI2 hB2
theorem lkL_X11_foretoldCloud : lkOk RL 105 0 11 4 (mt 37) := (show lkOk RL 105 0 11 4 (yX11_foretoldCloud, cX11_foretoldCloud, 4, (some .int)) from ⟨⟨q113, q1177, by decide, by decide, by decide⟩, ⟨q1174, q1175, ⟨RX11, TX11, 7, rfl, q1176⟩, by decide +kernel⟩⟩)
theorem lkL_X12_foretoldCloud : lkOk RL 109 0 12 4 (mt 111) := (show lkOk RL 109 0 12 4 (yX12_foretoldCloud, cX12_foretoldCloud, 5, (some .int)) from ⟨⟨q124, q1951, by decide, by decide, by decide⟩, ⟨q1948, q1949, ⟨RX12, TX12, 53, rfl, q1950⟩, by decide +kernel⟩⟩)
theorem lwc_foretoldCloud : lawCk 0 [fB, fB, tB] c111 c356 909 937 = true := by decide +kernel
theorem lc_foretoldCloud {E : zCx} {X0 : zC0} {b N x mm k n : Nat} {xs : Nat → Int32} {K : Nat → Nat} {B : Int} {L : List Nat} {f : Nat → va_E} {t : Nat} {i : Int32} (hE : zOk E X0 RL cL_law 4 room_1) (hs : zSc E b N xs) (hN : N ≤ 3584) (H : ∀ j, j < 427 → CMj X0 j) (hi : i.toInt = t) (ht : t + 7 ≤ N) (hI : linv X0.2.2.1 K B L f x mm) (hB : B ≤ 2000900000) (hk : k + 11 ≤ 600000) (hn : n + 1329 ≤ 7302250) (hend : ∀ K' B' L' f', linv X0.2.2.1 K' B' L' f' x mm → B' ≤ B + 192000 → eW E (k + 11) (n + 1329) L' f' 1607 (lvL b x mm i) []) : eW E k n L f 885 (lvL b x mm i) [] := by
  refine x_aload_n hE (z := 1) (i := 1) (x := x) (by decide +kernel) rfl (by simp [lvL]) ?_
  refine s_arg hE hs (k1 := 1) (z := 1) (v := 1) hi (by omega) hN rfl rfl (by decide +kernel) (by decide +kernel) (by decide +kernel) (by decide +kernel) (by decide +kernel) ?_
  refine s_arg hE hs (k1 := 2) (z := 2) (v := 2) hi (by omega) hN rfl rfl (by decide +kernel) (by decide +kernel) (by decide +kernel) (by decide +kernel) (by decide +kernel) ?_
  refine s_arg hE hs (k1 := 3) (z := 3) (v := 3) hi (by omega) hN rfl rfl (by decide +kernel) (by decide +kernel) (by decide +kernel) (by decide +kernel) (by decide +kernel) ?_
  refine s_bz hE (by decide +kernel) (by decide +kernel) (by decide +kernel) (by decide +kernel) ?_
  refine law_fst (cy := X0.2.2.1) (bs := [fB, fB, tB]) (vs := [xs (t + 1), xs (t + 2), bz (xs (t + 3))]) (t := 0) hE (by decide) (by decide) rfl (H 111 (by decide) 37 _ rfl) lkL_X11_foretoldCloud (by decide +kernel) (by decide) hI hB ⟨fl_int _, ⟨fl_int _, ⟨bz_int _, trivial⟩⟩⟩ lwc_foretoldCloud hk hn (fun c v h d v2 h2 o b1 p r o2 b2 p2 r2 k1 k2 k3 k4 hr hkr K1 B1 L1 f1 ν1 μ1 G1 w1 hv1 hw1 hck1 => ?_)
  obtain ⟨a1, rfl⟩ := hv1
  refine x_pop hE (by decide +kernel) rfl ?_
  refine x_aload_n hE (z := 2) (i := 2) (x := mm) (by decide +kernel) rfl (by simp [lvL]) ?_
  refine s_arg hE hs (k1 := 1) (z := 1) (v := 1) hi (by omega) hN rfl rfl (by decide +kernel) (by decide +kernel) (by decide +kernel) (by decide +kernel) (by decide +kernel) ?_
  refine s_arg hE hs (k1 := 2) (z := 2) (v := 2) hi (by omega) hN rfl rfl (by decide +kernel) (by decide +kernel) (by decide +kernel) (by decide +kernel) (by decide +kernel) ?_
  refine s_arg hE hs (k1 := 3) (z := 3) (v := 3) hi (by omega) hN rfl rfl (by decide +kernel) (by decide +kernel) (by decide +kernel) (by decide +kernel) (by decide +kernel) ?_
  refine s_bz hE (by decide +kernel) (by decide +kernel) (by decide +kernel) (by decide +kernel) ?_
  refine law_snd (cy := X0.2.2.1) (bs := [fB, fB, tB]) (vs := [xs (t + 1), xs (t + 2), bz (xs (t + 3))]) (t := 0) hE (by decide) (by decide) rfl (H 356 (by decide) 111 _ rfl) lkL_X12_foretoldCloud (by decide +kernel) (by decide) rfl hw1 hck1 hk hn k1 k2 k3 k4 hr hkr (List.mem_cons_self ..) (fun K2 B2 L2 f2 v2 hv2 hI2 hB2 => ?_)
  obtain ⟨a2, rfl⟩ := hv2
  refine x_pop hE (by decide +kernel) rfl ?_
  refine x_goto hE (off := 666) (tgt := 1607) (by decide +kernel) (by decide) ?_
  exact hend _ _ _ _ hI2 hB2
theorem lkL_X11_plan : lkOk RL 110 0 11 4 (mt 56) := (show lkOk RL 110 0 11 4 (yX11_plan, cX11_plan, 4, (some .int)) from ⟨⟨q113, q1188, by decide, by decide, by decide⟩, ⟨q1185, q1186, ⟨RX11, TX11, 7, rfl, q1187⟩, by decide +kernel⟩⟩)
theorem lkL_X12_plan : lkOk RL 113 0 12 4 (mt 159) := (show lkOk RL 113 0 12 4 (yX12_plan, cX12_plan, 8, (some .int)) from ⟨⟨q124, q1955, by decide, by decide, by decide⟩, ⟨q1952, q1953, ⟨RX12, TX12, 53, rfl, q1954⟩, by decide +kernel⟩⟩)
theorem lwc_plan : lawCk 0 [fB, fB, fB] c179 c407 960 980 = true := by decide +kernel
theorem lc_plan {E : zCx} {X0 : zC0} {b N x mm k n : Nat} {xs : Nat → Int32} {K : Nat → Nat} {B : Int} {L : List Nat} {f : Nat → va_E} {t : Nat} {i : Int32} (hE : zOk E X0 RL cL_law 4 room_1) (hs : zSc E b N xs) (hN : N ≤ 3584) (H : ∀ j, j < 427 → CMj X0 j) (hi : i.toInt = t) (ht : t + 7 ≤ N) (hI : linv X0.2.2.1 K B L f x mm) (hB : B ≤ 2000900000) (hk : k + 11 ≤ 600000) (hn : n + 1329 ≤ 7302250) (hend : ∀ K' B' L' f', linv X0.2.2.1 K' B' L' f' x mm → B' ≤ B + 192000 → eW E (k + 11) (n + 1329) L' f' 1607 (lvL b x mm i) []) : eW E k n L f 944 (lvL b x mm i) [] := by
  refine x_aload_n hE (z := 1) (i := 1) (x := x) (by decide +kernel) rfl (by simp [lvL]) ?_
  refine s_arg hE hs (k1 := 1) (z := 1) (v := 1) hi (by omega) hN rfl rfl (by decide +kernel) (by decide +kernel) (by decide +kernel) (by decide +kernel) (by decide +kernel) ?_
  refine s_arg hE hs (k1 := 2) (z := 2) (v := 2) hi (by omega) hN rfl rfl (by decide +kernel) (by decide +kernel) (by decide +kernel) (by decide +kernel) (by decide +kernel) ?_
  refine s_arg hE hs (k1 := 3) (z := 3) (v := 3) hi (by omega) hN rfl rfl (by decide +kernel) (by decide +kernel) (by decide +kernel) (by decide +kernel) (by decide +kernel) ?_
  refine law_fst (cy := X0.2.2.1) (bs := [fB, fB, fB]) (vs := [xs (t + 1), xs (t + 2), xs (t + 3)]) (t := 0) hE (by decide) (by decide) rfl (H 179 (by decide) 56 _ rfl) lkL_X11_plan (by decide +kernel) (by decide) hI hB ⟨fl_int _, ⟨fl_int _, ⟨fl_int _, trivial⟩⟩⟩ lwc_plan hk hn (fun c v h d v2 h2 o b1 p r o2 b2 p2 r2 k1 k2 k3 k4 hr hkr K1 B1 L1 f1 ν1 μ1 G1 w1 hv1 hw1 hck1 => ?_)
  obtain ⟨a1, rfl⟩ := hv1
  refine x_pop hE (by decide +kernel) rfl ?_
  refine x_aload_n hE (z := 2) (i := 2) (x := mm) (by decide +kernel) rfl (by simp [lvL]) ?_
  refine s_arg hE hs (k1 := 1) (z := 1) (v := 1) hi (by omega) hN rfl rfl (by decide +kernel) (by decide +kernel) (by decide +kernel) (by decide +kernel) (by decide +kernel) ?_
  refine s_arg hE hs (k1 := 2) (z := 2) (v := 2) hi (by omega) hN rfl rfl (by decide +kernel) (by decide +kernel) (by decide +kernel) (by decide +kernel) (by decide +kernel) ?_
  refine s_arg hE hs (k1 := 3) (z := 3) (v := 3) hi (by omega) hN rfl rfl (by decide +kernel) (by decide +kernel) (by decide +kernel) (by decide +kernel) (by decide +kernel) ?_
  refine law_snd (cy := X0.2.2.1) (bs := [fB, fB, fB]) (vs := [xs (t + 1), xs (t + 2), xs (t + 3)]) (t := 0) hE (by decide) (by decide) rfl (H 407 (by decide) 159 _ rfl) lkL_X12_plan (by decide +kernel) (by decide) rfl hw1 hck1 hk hn k1 k2 k3 k4 hr hkr (List.mem_cons_self ..) (fun K2 B2 L2 f2 v2 hv2 hI2 hB2 => ?_)
  obtain ⟨a2, rfl⟩ := hv2
  refine x_pop hE (by decide +kernel) rfl ?_
  refine x_goto hE (off := 623) (tgt := 1607) (by decide +kernel) (by decide) ?_
  exact hend _ _ _ _ hI2 hB2
theorem lkL_X11_match : lkOk RL 114 0 11 4 (mt 48) := (show lkOk RL 114 0 11 4 (yX11_match, cX11_match, 6, (some .int)) from ⟨⟨q113, q1201, by decide, by decide, by decide⟩, ⟨q1198, q1199, ⟨RX11, TX11, 7, rfl, q1200⟩, by decide +kernel⟩⟩)
theorem lkL_X12_match : lkOk RL 117 0 12 4 (mt 137) := (show lkOk RL 117 0 12 4 (yX12_match, cX12_match, 9, (some .int)) from ⟨⟨q124, q1968, by decide, by decide, by decide⟩, ⟨q1965, q1966, ⟨RX12, TX12, 53, rfl, q1967⟩, by decide +kernel⟩⟩)
theorem lwc_match : lawCk 0 [fB, fB, fB] c128 c390 1003 1023 = true := by decide +kernel
theorem lc_match {E : zCx} {X0 : zC0} {b N x mm k n : Nat} {xs : Nat → Int32} {K : Nat → Nat} {B : Int} {L : List Nat} {f : Nat → va_E} {t : Nat} {i : Int32} (hE : zOk E X0 RL cL_law 4 room_1) (hs : zSc E b N xs) (hN : N ≤ 3584) (H : ∀ j, j < 427 → CMj X0 j) (hi : i.toInt = t) (ht : t + 7 ≤ N) (hI : linv X0.2.2.1 K B L f x mm) (hB : B ≤ 2000900000) (hk : k + 11 ≤ 600000) (hn : n + 1329 ≤ 7302250) (hend : ∀ K' B' L' f', linv X0.2.2.1 K' B' L' f' x mm → B' ≤ B + 192000 → eW E (k + 11) (n + 1329) L' f' 1607 (lvL b x mm i) []) : eW E k n L f 987 (lvL b x mm i) [] := by
  refine x_aload_n hE (z := 1) (i := 1) (x := x) (by decide +kernel) rfl (by simp [lvL]) ?_
  refine s_arg hE hs (k1 := 1) (z := 1) (v := 1) hi (by omega) hN rfl rfl (by decide +kernel) (by decide +kernel) (by decide +kernel) (by decide +kernel) (by decide +kernel) ?_
  refine s_arg hE hs (k1 := 2) (z := 2) (v := 2) hi (by omega) hN rfl rfl (by decide +kernel) (by decide +kernel) (by decide +kernel) (by decide +kernel) (by decide +kernel) ?_
  refine s_arg hE hs (k1 := 3) (z := 3) (v := 3) hi (by omega) hN rfl rfl (by decide +kernel) (by decide +kernel) (by decide +kernel) (by decide +kernel) (by decide +kernel) ?_
  refine law_fst (cy := X0.2.2.1) (bs := [fB, fB, fB]) (vs := [xs (t + 1), xs (t + 2), xs (t + 3)]) (t := 0) hE (by decide) (by decide) rfl (H 128 (by decide) 48 _ rfl) lkL_X11_match (by decide +kernel) (by decide) hI hB ⟨fl_int _, ⟨fl_int _, ⟨fl_int _, trivial⟩⟩⟩ lwc_match hk hn (fun c v h d v2 h2 o b1 p r o2 b2 p2 r2 k1 k2 k3 k4 hr hkr K1 B1 L1 f1 ν1 μ1 G1 w1 hv1 hw1 hck1 => ?_)
  obtain ⟨a1, rfl⟩ := hv1
  refine x_pop hE (by decide +kernel) rfl ?_
  refine x_aload_n hE (z := 2) (i := 2) (x := mm) (by decide +kernel) rfl (by simp [lvL]) ?_
  refine s_arg hE hs (k1 := 1) (z := 1) (v := 1) hi (by omega) hN rfl rfl (by decide +kernel) (by decide +kernel) (by decide +kernel) (by decide +kernel) (by decide +kernel) ?_
  refine s_arg hE hs (k1 := 2) (z := 2) (v := 2) hi (by omega) hN rfl rfl (by decide +kernel) (by decide +kernel) (by decide +kernel) (by decide +kernel) (by decide +kernel) ?_
  refine s_arg hE hs (k1 := 3) (z := 3) (v := 3) hi (by omega) hN rfl rfl (by decide +kernel) (by decide +kernel) (by decide +kernel) (by decide +kernel) (by decide +kernel) ?_
  refine law_snd (cy := X0.2.2.1) (bs := [fB, fB, fB]) (vs := [xs (t + 1), xs (t + 2), xs (t + 3)]) (t := 0) hE (by decide) (by decide) rfl (H 390 (by decide) 137 _ rfl) lkL_X12_match (by decide +kernel) (by decide) rfl hw1 hck1 hk hn k1 k2 k3 k4 hr hkr (List.mem_cons_self ..) (fun K2 B2 L2 f2 v2 hv2 hI2 hB2 => ?_)
  obtain ⟨a2, rfl⟩ := hv2
  refine x_pop hE (by decide +kernel) rfl ?_
  refine x_goto hE (off := 580) (tgt := 1607) (by decide +kernel) (by decide) ?_
  exact hend _ _ _ _ hI2 hB2
theorem lkL_X11_shares : lkOk RL 118 0 11 4 (mt 62) := (show lkOk RL 118 0 11 4 (yX11_shares, cX11_shares, 11, (some .int)) from ⟨⟨q113, q1232, by decide, by decide, by decide⟩, ⟨q1229, q1230, ⟨RX11, TX11, 7, rfl, q1231⟩, by decide +kernel⟩⟩)
theorem lkL_X12_shares : lkOk RL 121 0 12 4 (mt 174) := (show lkOk RL 121 0 12 4 (yX12_shares, cX12_shares, 9, (some .int)) from ⟨⟨q124, q1987, by decide, by decide, by decide⟩, ⟨q1984, q1985, ⟨RX12, TX12, 53, rfl, q1986⟩, by decide +kernel⟩⟩)
theorem lwc_shares : lawCk 0 [fB, fB, fB] c182 c413 1046 1066 = true := by decide +kernel
theorem lc_shares {E : zCx} {X0 : zC0} {b N x mm k n : Nat} {xs : Nat → Int32} {K : Nat → Nat} {B : Int} {L : List Nat} {f : Nat → va_E} {t : Nat} {i : Int32} (hE : zOk E X0 RL cL_law 4 room_1) (hs : zSc E b N xs) (hN : N ≤ 3584) (H : ∀ j, j < 427 → CMj X0 j) (hi : i.toInt = t) (ht : t + 7 ≤ N) (hI : linv X0.2.2.1 K B L f x mm) (hB : B ≤ 2000900000) (hk : k + 11 ≤ 600000) (hn : n + 1329 ≤ 7302250) (hend : ∀ K' B' L' f', linv X0.2.2.1 K' B' L' f' x mm → B' ≤ B + 192000 → eW E (k + 11) (n + 1329) L' f' 1607 (lvL b x mm i) []) : eW E k n L f 1030 (lvL b x mm i) [] := by
  refine x_aload_n hE (z := 1) (i := 1) (x := x) (by decide +kernel) rfl (by simp [lvL]) ?_
  refine s_arg hE hs (k1 := 1) (z := 1) (v := 1) hi (by omega) hN rfl rfl (by decide +kernel) (by decide +kernel) (by decide +kernel) (by decide +kernel) (by decide +kernel) ?_
  refine s_arg hE hs (k1 := 2) (z := 2) (v := 2) hi (by omega) hN rfl rfl (by decide +kernel) (by decide +kernel) (by decide +kernel) (by decide +kernel) (by decide +kernel) ?_
  refine s_arg hE hs (k1 := 3) (z := 3) (v := 3) hi (by omega) hN rfl rfl (by decide +kernel) (by decide +kernel) (by decide +kernel) (by decide +kernel) (by decide +kernel) ?_
  refine law_fst (cy := X0.2.2.1) (bs := [fB, fB, fB]) (vs := [xs (t + 1), xs (t + 2), xs (t + 3)]) (t := 0) hE (by decide) (by decide) rfl (H 182 (by decide) 62 _ rfl) lkL_X11_shares (by decide +kernel) (by decide) hI hB ⟨fl_int _, ⟨fl_int _, ⟨fl_int _, trivial⟩⟩⟩ lwc_shares hk hn (fun c v h d v2 h2 o b1 p r o2 b2 p2 r2 k1 k2 k3 k4 hr hkr K1 B1 L1 f1 ν1 μ1 G1 w1 hv1 hw1 hck1 => ?_)
  obtain ⟨a1, rfl⟩ := hv1
  refine x_pop hE (by decide +kernel) rfl ?_
  refine x_aload_n hE (z := 2) (i := 2) (x := mm) (by decide +kernel) rfl (by simp [lvL]) ?_
  refine s_arg hE hs (k1 := 1) (z := 1) (v := 1) hi (by omega) hN rfl rfl (by decide +kernel) (by decide +kernel) (by decide +kernel) (by decide +kernel) (by decide +kernel) ?_
  refine s_arg hE hs (k1 := 2) (z := 2) (v := 2) hi (by omega) hN rfl rfl (by decide +kernel) (by decide +kernel) (by decide +kernel) (by decide +kernel) (by decide +kernel) ?_
  refine s_arg hE hs (k1 := 3) (z := 3) (v := 3) hi (by omega) hN rfl rfl (by decide +kernel) (by decide +kernel) (by decide +kernel) (by decide +kernel) (by decide +kernel) ?_
  refine law_snd (cy := X0.2.2.1) (bs := [fB, fB, fB]) (vs := [xs (t + 1), xs (t + 2), xs (t + 3)]) (t := 0) hE (by decide) (by decide) rfl (H 413 (by decide) 174 _ rfl) lkL_X12_shares (by decide +kernel) (by decide) rfl hw1 hck1 hk hn k1 k2 k3 k4 hr hkr (List.mem_cons_self ..) (fun K2 B2 L2 f2 v2 hv2 hI2 hB2 => ?_)
  obtain ⟨a2, rfl⟩ := hv2
  refine x_pop hE (by decide +kernel) rfl ?_
  refine x_goto hE (off := 537) (tgt := 1607) (by decide +kernel) (by decide) ?_
  exact hend _ _ _ _ hI2 hB2
theorem lkL_X11_cross : lkOk RL 122 0 11 5 (mt 28) := (show lkOk RL 122 0 11 5 (yX11_cross, cX11_cross, 6, (some .int)) from ⟨⟨q113, q1236, by decide, by decide, by decide⟩, ⟨q1233, q1234, ⟨RX11, TX11, 7, rfl, q1235⟩, by decide +kernel⟩⟩)
theorem lkL_X12_cross : lkOk RL 125 0 12 5 (mt 94) := (show lkOk RL 125 0 12 5 (yX12_cross, cX12_cross, 8, (some .int)) from ⟨⟨q124, q1991, by decide, by decide, by decide⟩, ⟨q1988, q1989, ⟨RX12, TX12, 53, rfl, q1990⟩, by decide +kernel⟩⟩)
theorem lwc_cross : lawCk 0 [fB, fB, fB, fB] c89 c342 1094 1119 = true := by decide +kernel
theorem lc_cross {E : zCx} {X0 : zC0} {b N x mm k n : Nat} {xs : Nat → Int32} {K : Nat → Nat} {B : Int} {L : List Nat} {f : Nat → va_E} {t : Nat} {i : Int32} (hE : zOk E X0 RL cL_law 4 room_1) (hs : zSc E b N xs) (hN : N ≤ 3584) (H : ∀ j, j < 427 → CMj X0 j) (hi : i.toInt = t) (ht : t + 7 ≤ N) (hI : linv X0.2.2.1 K B L f x mm) (hB : B ≤ 2000900000) (hk : k + 11 ≤ 600000) (hn : n + 1329 ≤ 7302250) (hend : ∀ K' B' L' f', linv X0.2.2.1 K' B' L' f' x mm → B' ≤ B + 192000 → eW E (k + 11) (n + 1329) L' f' 1607 (lvL b x mm i) []) : eW E k n L f 1073 (lvL b x mm i) [] := by
  refine x_aload_n hE (z := 1) (i := 1) (x := x) (by decide +kernel) rfl (by simp [lvL]) ?_
  refine s_arg hE hs (k1 := 1) (z := 1) (v := 1) hi (by omega) hN rfl rfl (by decide +kernel) (by decide +kernel) (by decide +kernel) (by decide +kernel) (by decide +kernel) ?_
  refine s_arg hE hs (k1 := 2) (z := 2) (v := 2) hi (by omega) hN rfl rfl (by decide +kernel) (by decide +kernel) (by decide +kernel) (by decide +kernel) (by decide +kernel) ?_
  refine s_arg hE hs (k1 := 3) (z := 3) (v := 3) hi (by omega) hN rfl rfl (by decide +kernel) (by decide +kernel) (by decide +kernel) (by decide +kernel) (by decide +kernel) ?_
  refine s_arg hE hs (k1 := 4) (z := 4) (v := 4) hi (by omega) hN rfl rfl (by decide +kernel) (by decide +kernel) (by decide +kernel) (by decide +kernel) (by decide +kernel) ?_
  refine law_fst (cy := X0.2.2.1) (bs := [fB, fB, fB, fB]) (vs := [xs (t + 1), xs (t + 2), xs (t + 3), xs (t + 4)]) (t := 0) hE (by decide) (by decide) rfl (H 89 (by decide) 28 _ rfl) lkL_X11_cross (by decide +kernel) (by decide) hI hB ⟨fl_int _, ⟨fl_int _, ⟨fl_int _, ⟨fl_int _, trivial⟩⟩⟩⟩ lwc_cross hk hn (fun c v h d v2 h2 o b1 p r o2 b2 p2 r2 k1 k2 k3 k4 hr hkr K1 B1 L1 f1 ν1 μ1 G1 w1 hv1 hw1 hck1 => ?_)
  obtain ⟨a1, rfl⟩ := hv1
  refine x_pop hE (by decide +kernel) rfl ?_
  refine x_aload_n hE (z := 2) (i := 2) (x := mm) (by decide +kernel) rfl (by simp [lvL]) ?_
  refine s_arg hE hs (k1 := 1) (z := 1) (v := 1) hi (by omega) hN rfl rfl (by decide +kernel) (by decide +kernel) (by decide +kernel) (by decide +kernel) (by decide +kernel) ?_
  refine s_arg hE hs (k1 := 2) (z := 2) (v := 2) hi (by omega) hN rfl rfl (by decide +kernel) (by decide +kernel) (by decide +kernel) (by decide +kernel) (by decide +kernel) ?_
  refine s_arg hE hs (k1 := 3) (z := 3) (v := 3) hi (by omega) hN rfl rfl (by decide +kernel) (by decide +kernel) (by decide +kernel) (by decide +kernel) (by decide +kernel) ?_
  refine s_arg hE hs (k1 := 4) (z := 4) (v := 4) hi (by omega) hN rfl rfl (by decide +kernel) (by decide +kernel) (by decide +kernel) (by decide +kernel) (by decide +kernel) ?_
  refine law_snd (cy := X0.2.2.1) (bs := [fB, fB, fB, fB]) (vs := [xs (t + 1), xs (t + 2), xs (t + 3), xs (t + 4)]) (t := 0) hE (by decide) (by decide) rfl (H 342 (by decide) 94 _ rfl) lkL_X12_cross (by decide +kernel) (by decide) rfl hw1 hck1 hk hn k1 k2 k3 k4 hr hkr (List.mem_cons_self ..) (fun K2 B2 L2 f2 v2 hv2 hI2 hB2 => ?_)
  obtain ⟨a2, rfl⟩ := hv2
  refine x_pop hE (by decide +kernel) rfl ?_
  refine x_goto hE (off := 484) (tgt := 1607) (by decide +kernel) (by decide) ?_
  exact hend _ _ _ _ hI2 hB2
theorem lkL_X11_widest : lkOk RL 126 0 11 3 (mt 68) := (show lkOk RL 126 0 11 3 (yX11_widest, cX11_widest, 3, (some .int)) from ⟨⟨q113, q1253, by decide, by decide, by decide⟩, ⟨q1250, q1251, ⟨RX11, TX11, 7, rfl, q1252⟩, by decide +kernel⟩⟩)
theorem lkL_X12_widest : lkOk RL 129 0 12 3 (mt 198) := (show lkOk RL 129 0 12 3 (yX12_widest, cX12_widest, 4, (some .int)) from ⟨⟨q124, q2007, by decide, by decide, by decide⟩, ⟨q2004, q2005, ⟨RX12, TX12, 53, rfl, q2006⟩, by decide +kernel⟩⟩)
theorem lwc_widest : lawCk 0 [fB, fB] c288 c418 1137 1152 = true := by decide +kernel
theorem lc_widest {E : zCx} {X0 : zC0} {b N x mm k n : Nat} {xs : Nat → Int32} {K : Nat → Nat} {B : Int} {L : List Nat} {f : Nat → va_E} {t : Nat} {i : Int32} (hE : zOk E X0 RL cL_law 4 room_1) (hs : zSc E b N xs) (hN : N ≤ 3584) (H : ∀ j, j < 427 → CMj X0 j) (hi : i.toInt = t) (ht : t + 7 ≤ N) (hI : linv X0.2.2.1 K B L f x mm) (hB : B ≤ 2000900000) (hk : k + 11 ≤ 600000) (hn : n + 1329 ≤ 7302250) (hend : ∀ K' B' L' f', linv X0.2.2.1 K' B' L' f' x mm → B' ≤ B + 192000 → eW E (k + 11) (n + 1329) L' f' 1607 (lvL b x mm i) []) : eW E k n L f 1126 (lvL b x mm i) [] := by
  refine x_aload_n hE (z := 1) (i := 1) (x := x) (by decide +kernel) rfl (by simp [lvL]) ?_
  refine s_arg hE hs (k1 := 1) (z := 1) (v := 1) hi (by omega) hN rfl rfl (by decide +kernel) (by decide +kernel) (by decide +kernel) (by decide +kernel) (by decide +kernel) ?_
  refine s_arg hE hs (k1 := 2) (z := 2) (v := 2) hi (by omega) hN rfl rfl (by decide +kernel) (by decide +kernel) (by decide +kernel) (by decide +kernel) (by decide +kernel) ?_
  refine law_fst (cy := X0.2.2.1) (bs := [fB, fB]) (vs := [xs (t + 1), xs (t + 2)]) (t := 0) hE (by decide) (by decide) rfl (H 288 (by decide) 68 _ rfl) lkL_X11_widest (by decide +kernel) (by decide) hI hB ⟨fl_int _, ⟨fl_int _, trivial⟩⟩ lwc_widest hk hn (fun c v h d v2 h2 o b1 p r o2 b2 p2 r2 k1 k2 k3 k4 hr hkr K1 B1 L1 f1 ν1 μ1 G1 w1 hv1 hw1 hck1 => ?_)
  obtain ⟨a1, rfl⟩ := hv1
  refine x_pop hE (by decide +kernel) rfl ?_
  refine x_aload_n hE (z := 2) (i := 2) (x := mm) (by decide +kernel) rfl (by simp [lvL]) ?_
  refine s_arg hE hs (k1 := 1) (z := 1) (v := 1) hi (by omega) hN rfl rfl (by decide +kernel) (by decide +kernel) (by decide +kernel) (by decide +kernel) (by decide +kernel) ?_
  refine s_arg hE hs (k1 := 2) (z := 2) (v := 2) hi (by omega) hN rfl rfl (by decide +kernel) (by decide +kernel) (by decide +kernel) (by decide +kernel) (by decide +kernel) ?_
  refine law_snd (cy := X0.2.2.1) (bs := [fB, fB]) (vs := [xs (t + 1), xs (t + 2)]) (t := 0) hE (by decide) (by decide) rfl (H 418 (by decide) 198 _ rfl) lkL_X12_widest (by decide +kernel) (by decide) rfl hw1 hck1 hk hn k1 k2 k3 k4 hr hkr (List.mem_cons_self ..) (fun K2 B2 L2 f2 v2 hv2 hI2 hB2 => ?_)
  obtain ⟨a2, rfl⟩ := hv2
  refine x_pop hE (by decide +kernel) rfl ?_
  refine x_goto hE (off := 451) (tgt := 1607) (by decide +kernel) (by decide) ?_
  exact hend _ _ _ _ hI2 hB2
theorem lkL_X11_missing : lkOk RL 130 0 11 4 (mt 49) := (show lkOk RL 130 0 11 4 (yX11_missing, cX11_missing, 5, (some .int)) from ⟨⟨q113, q1267, by decide, by decide, by decide⟩, ⟨q1264, q1265, ⟨RX11, TX11, 7, rfl, q1266⟩, by decide +kernel⟩⟩)
theorem lkL_X12_missing : lkOk RL 133 0 12 4 (mt 138) := (show lkOk RL 133 0 12 4 (yX12_missing, cX12_missing, 5, (some .int)) from ⟨⟨q124, q2011, by decide, by decide, by decide⟩, ⟨q2008, q2009, ⟨RX12, TX12, 53, rfl, q2010⟩, by decide +kernel⟩⟩)
theorem lwc_missing : lawCk 0 [fB, fB, fB] c130 c391 1175 1195 = true := by decide +kernel
theorem lc_missing {E : zCx} {X0 : zC0} {b N x mm k n : Nat} {xs : Nat → Int32} {K : Nat → Nat} {B : Int} {L : List Nat} {f : Nat → va_E} {t : Nat} {i : Int32} (hE : zOk E X0 RL cL_law 4 room_1) (hs : zSc E b N xs) (hN : N ≤ 3584) (H : ∀ j, j < 427 → CMj X0 j) (hi : i.toInt = t) (ht : t + 7 ≤ N) (hI : linv X0.2.2.1 K B L f x mm) (hB : B ≤ 2000900000) (hk : k + 11 ≤ 600000) (hn : n + 1329 ≤ 7302250) (hend : ∀ K' B' L' f', linv X0.2.2.1 K' B' L' f' x mm → B' ≤ B + 192000 → eW E (k + 11) (n + 1329) L' f' 1607 (lvL b x mm i) []) : eW E k n L f 1159 (lvL b x mm i) [] := by
  refine x_aload_n hE (z := 1) (i := 1) (x := x) (by decide +kernel) rfl (by simp [lvL]) ?_
  refine s_arg hE hs (k1 := 1) (z := 1) (v := 1) hi (by omega) hN rfl rfl (by decide +kernel) (by decide +kernel) (by decide +kernel) (by decide +kernel) (by decide +kernel) ?_
  refine s_arg hE hs (k1 := 2) (z := 2) (v := 2) hi (by omega) hN rfl rfl (by decide +kernel) (by decide +kernel) (by decide +kernel) (by decide +kernel) (by decide +kernel) ?_
  refine s_arg hE hs (k1 := 3) (z := 3) (v := 3) hi (by omega) hN rfl rfl (by decide +kernel) (by decide +kernel) (by decide +kernel) (by decide +kernel) (by decide +kernel) ?_
  refine law_fst (cy := X0.2.2.1) (bs := [fB, fB, fB]) (vs := [xs (t + 1), xs (t + 2), xs (t + 3)]) (t := 0) hE (by decide) (by decide) rfl (H 130 (by decide) 49 _ rfl) lkL_X11_missing (by decide +kernel) (by decide) hI hB ⟨fl_int _, ⟨fl_int _, ⟨fl_int _, trivial⟩⟩⟩ lwc_missing hk hn (fun c v h d v2 h2 o b1 p r o2 b2 p2 r2 k1 k2 k3 k4 hr hkr K1 B1 L1 f1 ν1 μ1 G1 w1 hv1 hw1 hck1 => ?_)
  obtain ⟨a1, rfl⟩ := hv1
  refine x_pop hE (by decide +kernel) rfl ?_
  refine x_aload_n hE (z := 2) (i := 2) (x := mm) (by decide +kernel) rfl (by simp [lvL]) ?_
  refine s_arg hE hs (k1 := 1) (z := 1) (v := 1) hi (by omega) hN rfl rfl (by decide +kernel) (by decide +kernel) (by decide +kernel) (by decide +kernel) (by decide +kernel) ?_
  refine s_arg hE hs (k1 := 2) (z := 2) (v := 2) hi (by omega) hN rfl rfl (by decide +kernel) (by decide +kernel) (by decide +kernel) (by decide +kernel) (by decide +kernel) ?_
  refine s_arg hE hs (k1 := 3) (z := 3) (v := 3) hi (by omega) hN rfl rfl (by decide +kernel) (by decide +kernel) (by decide +kernel) (by decide +kernel) (by decide +kernel) ?_
  refine law_snd (cy := X0.2.2.1) (bs := [fB, fB, fB]) (vs := [xs (t + 1), xs (t + 2), xs (t + 3)]) (t := 0) hE (by decide) (by decide) rfl (H 391 (by decide) 138 _ rfl) lkL_X12_missing (by decide +kernel) (by decide) rfl hw1 hck1 hk hn k1 k2 k3 k4 hr hkr (List.mem_cons_self ..) (fun K2 B2 L2 f2 v2 hv2 hI2 hB2 => ?_)
  obtain ⟨a2, rfl⟩ := hv2
  refine x_pop hE (by decide +kernel) rfl ?_
  refine x_goto hE (off := 408) (tgt := 1607) (by decide +kernel) (by decide) ?_
  exact hend _ _ _ _ hI2 hB2
