/-! The loop. -/
section LP
variable {E : zCx} {X0 : zC0} {b N x mm : Nat} {xs : Nat → Int32}
set_option maxHeartbeats 4000000 in
theorem law_step (hE : zOk E X0 RL cL_law 4 room_1) (hs : zSc E b N xs) (hN : N ≤ 3584) (H : ∀ j, j < 427 → CMj X0 j) (hfin : ∀ (k n : Nat) (L : List Nat) (f : Nat → va_E) (pc : Nat) (lv : List (Nat × Value)), k ≤ 600000 → n ≤ 7302250 → decode cL_law pc = .ok (.ireturn, 1) → eW E k n L f pc lv [.int 1]) {K : Nat → Nat} {B : Int} {L : List Nat} {f : Nat → va_E} {k n t : Nat} {i : Int32} (hi : i.toInt = t) (ht : t ≤ 3584) (hI : linv X0.2.2.1 K B L f x mm) (hB : B ≤ 2000900000) (hk : k + 11 ≤ 600000) (hn : n + 1329 ≤ 7302250) (hnext : ∀ K' B' L' f', t + 7 ≤ N → linv X0.2.2.1 K' B' L' f' x mm → B' ≤ B + 192000 → eW E (k + 11) (n + 1329) L' f' 18 (lvL b x mm (i + 7)) []) : eW E k n L f 18 (lvL b x mm i) [] := by
  have eN : (Int32.ofNat N).toInt = N := by
    show (Int32.ofInt ((N : Nat) : Int)).toInt = _
    exact i32i (by omega) (by omega)
  have e7 : (7 : Int32).toInt = 7 := by decide
  have eN7 : (Int32.ofNat N - 7).toInt = (N : Int) - 7 := by rw [Int32.toInt_sub, eN, e7, Int.bmod_eq_of_le (by omega) (by omega)]
  refine x_iload_n hE (z := 3) (i := 3) (x := i) (by decide +kernel) rfl (by simp [lvL]) ?_
  refine x_aload_n hE (z := 0) (i := 0) (x := b) (by decide +kernel) rfl (by simp [lvL]) ?_
  refine s_len hE hs (by decide +kernel) ?_
  refine x_bipush hE (i := 7) (v := 7) (by decide +kernel) (by decide +kernel) ?_
  refine x_isub hE (by decide +kernel) ?_
  refine x_icmp_gt hE (off := 1589) (tgt := 1613) (by decide +kernel) rfl (fun _ => ?_) (fun hle => ?_)
  · refine x_iconst hE (i := 1) (v := 1) (by decide +kernel) rfl ?_
    exact hfin _ _ _ _ _ _ (by omega) (by omega) (by decide +kernel)
  have ht7 : t + 7 ≤ N := by
    rw [Int32.lt_iff_toInt_lt, eN7, hi] at hle
    omega
  refine x_aload_n hE (z := 0) (i := 0) (x := b) (by decide +kernel) rfl (by simp [lvL]) ?_
  refine x_iload_n hE (z := 3) (i := 3) (x := i) (by decide +kernel) rfl (by simp [lvL]) ?_
  refine s_ld hE hs hi (by omega) (by decide +kernel) ?_
  refine x_bipush hE (i := 63) (v := 63) (by decide +kernel) (by decide +kernel) ?_
  refine x_iand hE (by decide +kernel) ?_
  obtain ⟨j, hj, ej⟩ := pk_andE (xs t) (m := 63) 6 (by decide)
  rw [ej]
  have hend : ∀ K' B' L' f', linv X0.2.2.1 K' B' L' f' x mm → B' ≤ B + 192000 → eW E (k + 11) (n + 1329) L' f' 1607 (lvL b x mm i) [] := by
    intro K' B' L' f' h1 h2
    refine x_iinc hE (i := 3) (z := 7) (x := i) (v := i + 7) (lv' := lvL b x mm (i + 7)) (by decide +kernel) 0 rfl rfl (by decide) rfl ?_
    refine x_goto hE (off := (-1592)) (tgt := 18) (by decide +kernel) rfl ?_
    exact hnext K' B' L' f' ht7 h1 h2
  rcases Nat.lt_or_ge j 41 with hj41 | hj41
  · rcases (show j = 0 ∨ j = 1 ∨ j = 2 ∨ j = 3 ∨ j = 4 ∨ j = 5 ∨ j = 6 ∨ j = 7 ∨ j = 8 ∨ j = 9 ∨ j = 10 ∨ j = 11 ∨ j = 12 ∨ j = 13 ∨ j = 14 ∨ j = 15 ∨ j = 16 ∨ j = 17 ∨ j = 18 ∨ j = 19 ∨ j = 20 ∨ j = 21 ∨ j = 22 ∨ j = 23 ∨ j = 24 ∨ j = 25 ∨ j = 26 ∨ j = 27 ∨ j = 28 ∨ j = 29 ∨ j = 30 ∨ j = 31 ∨ j = 32 ∨ j = 33 ∨ j = 34 ∨ j = 35 ∨ j = 36 ∨ j = 37 ∨ j = 38 ∨ j = 39 ∨ j = 40 by omega) with rfl | rfl | rfl | rfl | rfl | rfl | rfl | rfl | rfl | rfl | rfl | rfl | rfl | rfl | rfl | rfl | rfl | rfl | rfl | rfl | rfl | rfl | rfl | rfl | rfl | rfl | rfl | rfl | rfl | rfl | rfl | rfl | rfl | rfl | rfl | rfl | rfl | rfl | rfl | rfl | rfl
    · refine x_tableIn (off := 179) (tgt := 212) hE (by decide +kernel : decode cL_law 33 = .ok (.tableswitch 1574 0 40 #[179, 222, 255, 308, 371, 394, 407, 430, 453, 476, 509, 542, 575, 618, 651, 674, 707, 720, 753, 786, 819, 852, 911, 954, 997, 1040, 1093, 1126, 1169, 1192, 1205, 1296, 1345, 1394, 1407, 1466, 1489, 1512, 1525, 1538, 1551], 179)) (by decide) (by decide) (by decide) (by decide) ?_
      exact lc_field hE hs hN H hi ht7 hI hB hk hn hend
    · refine x_tableIn (off := 222) (tgt := 255) hE (by decide +kernel : decode cL_law 33 = .ok (.tableswitch 1574 0 40 #[179, 222, 255, 308, 371, 394, 407, 430, 453, 476, 509, 542, 575, 618, 651, 674, 707, 720, 753, 786, 819, 852, 911, 954, 997, 1040, 1093, 1126, 1169, 1192, 1205, 1296, 1345, 1394, 1407, 1466, 1489, 1512, 1525, 1538, 1551], 179)) (by decide) (by decide) (by decide) (by decide) ?_
      exact lc_road hE hs hN H hi ht7 hI hB hk hn hend
    · refine x_tableIn (off := 255) (tgt := 288) hE (by decide +kernel : decode cL_law 33 = .ok (.tableswitch 1574 0 40 #[179, 222, 255, 308, 371, 394, 407, 430, 453, 476, 509, 542, 575, 618, 651, 674, 707, 720, 753, 786, 819, 852, 911, 954, 997, 1040, 1093, 1126, 1169, 1192, 1205, 1296, 1345, 1394, 1407, 1466, 1489, 1512, 1525, 1538, 1551], 179)) (by decide) (by decide) (by decide) (by decide) ?_
      exact lc_person hE hs hN H hi ht7 hI hB hk hn hend
    · refine x_tableIn (off := 308) (tgt := 341) hE (by decide +kernel : decode cL_law 33 = .ok (.tableswitch 1574 0 40 #[179, 222, 255, 308, 371, 394, 407, 430, 453, 476, 509, 542, 575, 618, 651, 674, 707, 720, 753, 786, 819, 852, 911, 954, 997, 1040, 1093, 1126, 1169, 1192, 1205, 1296, 1345, 1394, 1407, 1466, 1489, 1512, 1525, 1538, 1551], 179)) (by decide) (by decide) (by decide) (by decide) ?_
      exact lc_feed hE hs hN H hi ht7 hI hB hk hn hend
    · refine x_tableIn (off := 371) (tgt := 404) hE (by decide +kernel : decode cL_law 33 = .ok (.tableswitch 1574 0 40 #[179, 222, 255, 308, 371, 394, 407, 430, 453, 476, 509, 542, 575, 618, 651, 674, 707, 720, 753, 786, 819, 852, 911, 954, 997, 1040, 1093, 1126, 1169, 1192, 1205, 1296, 1345, 1394, 1407, 1466, 1489, 1512, 1525, 1538, 1551], 179)) (by decide) (by decide) (by decide) (by decide) ?_
      exact lc_end hE hs hN H hi ht7 hI hB hk hn hend
    · refine x_tableIn (off := 394) (tgt := 427) hE (by decide +kernel : decode cL_law 33 = .ok (.tableswitch 1574 0 40 #[179, 222, 255, 308, 371, 394, 407, 430, 453, 476, 509, 542, 575, 618, 651, 674, 707, 720, 753, 786, 819, 852, 911, 954, 997, 1040, 1093, 1126, 1169, 1192, 1205, 1296, 1345, 1394, 1407, 1466, 1489, 1512, 1525, 1538, 1551], 179)) (by decide) (by decide) (by decide) (by decide) ?_
      exact lc_text hE hs hN H hi ht7 hI hB hk hn hend
    · refine x_tableIn (off := 407) (tgt := 440) hE (by decide +kernel : decode cL_law 33 = .ok (.tableswitch 1574 0 40 #[179, 222, 255, 308, 371, 394, 407, 430, 453, 476, 509, 542, 575, 618, 651, 674, 707, 720, 753, 786, 819, 852, 911, 954, 997, 1040, 1093, 1126, 1169, 1192, 1205, 1296, 1345, 1394, 1407, 1466, 1489, 1512, 1525, 1538, 1551], 179)) (by decide) (by decide) (by decide) (by decide) ?_
      exact lc_fault hE hs hN H hi ht7 hI hB hk hn hend
    · refine x_tableIn (off := 430) (tgt := 463) hE (by decide +kernel : decode cL_law 33 = .ok (.tableswitch 1574 0 40 #[179, 222, 255, 308, 371, 394, 407, 430, 453, 476, 509, 542, 575, 618, 651, 674, 707, 720, 753, 786, 819, 852, 911, 954, 997, 1040, 1093, 1126, 1169, 1192, 1205, 1296, 1345, 1394, 1407, 1466, 1489, 1512, 1525, 1538, 1551], 179)) (by decide) (by decide) (by decide) (by decide) ?_
      exact lc_by hE hs hN H hi ht7 hI hB hk hn hend
    · refine x_tableIn (off := 453) (tgt := 486) hE (by decide +kernel : decode cL_law 33 = .ok (.tableswitch 1574 0 40 #[179, 222, 255, 308, 371, 394, 407, 430, 453, 476, 509, 542, 575, 618, 651, 674, 707, 720, 753, 786, 819, 852, 911, 954, 997, 1040, 1093, 1126, 1169, 1192, 1205, 1296, 1345, 1394, 1407, 1466, 1489, 1512, 1525, 1538, 1551], 179)) (by decide) (by decide) (by decide) (by decide) ?_
      exact lc_hour hE hs hN H hi ht7 hI hB hk hn hend
    · refine x_tableIn (off := 476) (tgt := 509) hE (by decide +kernel : decode cL_law 33 = .ok (.tableswitch 1574 0 40 #[179, 222, 255, 308, 371, 394, 407, 430, 453, 476, 509, 542, 575, 618, 651, 674, 707, 720, 753, 786, 819, 852, 911, 954, 997, 1040, 1093, 1126, 1169, 1192, 1205, 1296, 1345, 1394, 1407, 1466, 1489, 1512, 1525, 1538, 1551], 179)) (by decide) (by decide) (by decide) (by decide) ?_
      exact lc_work hE hs hN H hi ht7 hI hB hk hn hend
    · refine x_tableIn (off := 509) (tgt := 542) hE (by decide +kernel : decode cL_law 33 = .ok (.tableswitch 1574 0 40 #[179, 222, 255, 308, 371, 394, 407, 430, 453, 476, 509, 542, 575, 618, 651, 674, 707, 720, 753, 786, 819, 852, 911, 954, 997, 1040, 1093, 1126, 1169, 1192, 1205, 1296, 1345, 1394, 1407, 1466, 1489, 1512, 1525, 1538, 1551], 179)) (by decide) (by decide) (by decide) (by decide) ?_
      exact lc_go hE hs hN H hi ht7 hI hB hk hn hend
    · refine x_tableIn (off := 542) (tgt := 575) hE (by decide +kernel : decode cL_law 33 = .ok (.tableswitch 1574 0 40 #[179, 222, 255, 308, 371, 394, 407, 430, 453, 476, 509, 542, 575, 618, 651, 674, 707, 720, 753, 786, 819, 852, 911, 954, 997, 1040, 1093, 1126, 1169, 1192, 1205, 1296, 1345, 1394, 1407, 1466, 1489, 1512, 1525, 1538, 1551], 179)) (by decide) (by decide) (by decide) (by decide) ?_
      exact lc_shake hE hs hN H hi ht7 hI hB hk hn hend
    · refine x_tableIn (off := 575) (tgt := 608) hE (by decide +kernel : decode cL_law 33 = .ok (.tableswitch 1574 0 40 #[179, 222, 255, 308, 371, 394, 407, 430, 453, 476, 509, 542, 575, 618, 651, 674, 707, 720, 753, 786, 819, 852, 911, 954, 997, 1040, 1093, 1126, 1169, 1192, 1205, 1296, 1345, 1394, 1407, 1466, 1489, 1512, 1525, 1538, 1551], 179)) (by decide) (by decide) (by decide) (by decide) ?_
      exact lc_steal hE hs hN H hi ht7 hI hB hk hn hend
    · refine x_tableIn (off := 618) (tgt := 651) hE (by decide +kernel : decode cL_law 33 = .ok (.tableswitch 1574 0 40 #[179, 222, 255, 308, 371, 394, 407, 430, 453, 476, 509, 542, 575, 618, 651, 674, 707, 720, 753, 786, 819, 852, 911, 954, 997, 1040, 1093, 1126, 1169, 1192, 1205, 1296, 1345, 1394, 1407, 1466, 1489, 1512, 1525, 1538, 1551], 179)) (by decide) (by decide) (by decide) (by decide) ?_
      exact lc_pour hE hs hN H hi ht7 hI hB hk hn hend
    · refine x_tableIn (off := 651) (tgt := 684) hE (by decide +kernel : decode cL_law 33 = .ok (.tableswitch 1574 0 40 #[179, 222, 255, 308, 371, 394, 407, 430, 453, 476, 509, 542, 575, 618, 651, 674, 707, 720, 753, 786, 819, 852, 911, 954, 997, 1040, 1093, 1126, 1169, 1192, 1205, 1296, 1345, 1394, 1407, 1466, 1489, 1512, 1525, 1538, 1551], 179)) (by decide) (by decide) (by decide) (by decide) ?_
      exact lc_played hE hs hN H hi ht7 hI hB hk hn hend
    · refine x_tableIn (off := 674) (tgt := 707) hE (by decide +kernel : decode cL_law 33 = .ok (.tableswitch 1574 0 40 #[179, 222, 255, 308, 371, 394, 407, 430, 453, 476, 509, 542, 575, 618, 651, 674, 707, 720, 753, 786, 819, 852, 911, 954, 997, 1040, 1093, 1126, 1169, 1192, 1205, 1296, 1345, 1394, 1407, 1466, 1489, 1512, 1525, 1538, 1551], 179)) (by decide) (by decide) (by decide) (by decide) ?_
      exact lc_year hE hs hN H hi ht7 hI hB hk hn hend
    · refine x_tableIn (off := 707) (tgt := 740) hE (by decide +kernel : decode cL_law 33 = .ok (.tableswitch 1574 0 40 #[179, 222, 255, 308, 371, 394, 407, 430, 453, 476, 509, 542, 575, 618, 651, 674, 707, 720, 753, 786, 819, 852, 911, 954, 997, 1040, 1093, 1126, 1169, 1192, 1205, 1296, 1345, 1394, 1407, 1466, 1489, 1512, 1525, 1538, 1551], 179)) (by decide) (by decide) (by decide) (by decide) ?_
      exact lc_undo hE hs hN H hi ht7 hI hB hk hn hend
    · refine x_tableIn (off := 720) (tgt := 753) hE (by decide +kernel : decode cL_law 33 = .ok (.tableswitch 1574 0 40 #[179, 222, 255, 308, 371, 394, 407, 430, 453, 476, 509, 542, 575, 618, 651, 674, 707, 720, 753, 786, 819, 852, 911, 954, 997, 1040, 1093, 1126, 1169, 1192, 1205, 1296, 1345, 1394, 1407, 1466, 1489, 1512, 1525, 1538, 1551], 179)) (by decide) (by decide) (by decide) (by decide) ?_
      exact lc_ofField hE hs hN H hi ht7 hI hB hk hn hend
    · refine x_tableIn (off := 753) (tgt := 786) hE (by decide +kernel : decode cL_law 33 = .ok (.tableswitch 1574 0 40 #[179, 222, 255, 308, 371, 394, 407, 430, 453, 476, 509, 542, 575, 618, 651, 674, 707, 720, 753, 786, 819, 852, 911, 954, 997, 1040, 1093, 1126, 1169, 1192, 1205, 1296, 1345, 1394, 1407, 1466, 1489, 1512, 1525, 1538, 1551], 179)) (by decide) (by decide) (by decide) (by decide) ?_
      exact lc_ofPerson hE hs hN H hi ht7 hI hB hk hn hend
    · refine x_tableIn (off := 786) (tgt := 819) hE (by decide +kernel : decode cL_law 33 = .ok (.tableswitch 1574 0 40 #[179, 222, 255, 308, 371, 394, 407, 430, 453, 476, 509, 542, 575, 618, 651, 674, 707, 720, 753, 786, 819, 852, 911, 954, 997, 1040, 1093, 1126, 1169, 1192, 1205, 1296, 1345, 1394, 1407, 1466, 1489, 1512, 1525, 1538, 1551], 179)) (by decide) (by decide) (by decide) (by decide) ?_
      exact lc_rained hE hs hN H hi ht7 hI hB hk hn hend
    · refine x_tableIn (off := 819) (tgt := 852) hE (by decide +kernel : decode cL_law 33 = .ok (.tableswitch 1574 0 40 #[179, 222, 255, 308, 371, 394, 407, 430, 453, 476, 509, 542, 575, 618, 651, 674, 707, 720, 753, 786, 819, 852, 911, 954, 997, 1040, 1093, 1126, 1169, 1192, 1205, 1296, 1345, 1394, 1407, 1466, 1489, 1512, 1525, 1538, 1551], 179)) (by decide) (by decide) (by decide) (by decide) ?_
      exact lc_foretoldWet hE hs hN H hi ht7 hI hB hk hn hend
    · refine x_tableIn (off := 852) (tgt := 885) hE (by decide +kernel : decode cL_law 33 = .ok (.tableswitch 1574 0 40 #[179, 222, 255, 308, 371, 394, 407, 430, 453, 476, 509, 542, 575, 618, 651, 674, 707, 720, 753, 786, 819, 852, 911, 954, 997, 1040, 1093, 1126, 1169, 1192, 1205, 1296, 1345, 1394, 1407, 1466, 1489, 1512, 1525, 1538, 1551], 179)) (by decide) (by decide) (by decide) (by decide) ?_
      exact lc_foretoldCloud hE hs hN H hi ht7 hI hB hk hn hend
    · refine x_tableIn (off := 911) (tgt := 944) hE (by decide +kernel : decode cL_law 33 = .ok (.tableswitch 1574 0 40 #[179, 222, 255, 308, 371, 394, 407, 430, 453, 476, 509, 542, 575, 618, 651, 674, 707, 720, 753, 786, 819, 852, 911, 954, 997, 1040, 1093, 1126, 1169, 1192, 1205, 1296, 1345, 1394, 1407, 1466, 1489, 1512, 1525, 1538, 1551], 179)) (by decide) (by decide) (by decide) (by decide) ?_
      exact lc_plan hE hs hN H hi ht7 hI hB hk hn hend
    · refine x_tableIn (off := 954) (tgt := 987) hE (by decide +kernel : decode cL_law 33 = .ok (.tableswitch 1574 0 40 #[179, 222, 255, 308, 371, 394, 407, 430, 453, 476, 509, 542, 575, 618, 651, 674, 707, 720, 753, 786, 819, 852, 911, 954, 997, 1040, 1093, 1126, 1169, 1192, 1205, 1296, 1345, 1394, 1407, 1466, 1489, 1512, 1525, 1538, 1551], 179)) (by decide) (by decide) (by decide) (by decide) ?_
      exact lc_match hE hs hN H hi ht7 hI hB hk hn hend
    · refine x_tableIn (off := 997) (tgt := 1030) hE (by decide +kernel : decode cL_law 33 = .ok (.tableswitch 1574 0 40 #[179, 222, 255, 308, 371, 394, 407, 430, 453, 476, 509, 542, 575, 618, 651, 674, 707, 720, 753, 786, 819, 852, 911, 954, 997, 1040, 1093, 1126, 1169, 1192, 1205, 1296, 1345, 1394, 1407, 1466, 1489, 1512, 1525, 1538, 1551], 179)) (by decide) (by decide) (by decide) (by decide) ?_
      exact lc_shares hE hs hN H hi ht7 hI hB hk hn hend
    · refine x_tableIn (off := 1040) (tgt := 1073) hE (by decide +kernel : decode cL_law 33 = .ok (.tableswitch 1574 0 40 #[179, 222, 255, 308, 371, 394, 407, 430, 453, 476, 509, 542, 575, 618, 651, 674, 707, 720, 753, 786, 819, 852, 911, 954, 997, 1040, 1093, 1126, 1169, 1192, 1205, 1296, 1345, 1394, 1407, 1466, 1489, 1512, 1525, 1538, 1551], 179)) (by decide) (by decide) (by decide) (by decide) ?_
      exact lc_cross hE hs hN H hi ht7 hI hB hk hn hend
    · refine x_tableIn (off := 1093) (tgt := 1126) hE (by decide +kernel : decode cL_law 33 = .ok (.tableswitch 1574 0 40 #[179, 222, 255, 308, 371, 394, 407, 430, 453, 476, 509, 542, 575, 618, 651, 674, 707, 720, 753, 786, 819, 852, 911, 954, 997, 1040, 1093, 1126, 1169, 1192, 1205, 1296, 1345, 1394, 1407, 1466, 1489, 1512, 1525, 1538, 1551], 179)) (by decide) (by decide) (by decide) (by decide) ?_
      exact lc_widest hE hs hN H hi ht7 hI hB hk hn hend
    · refine x_tableIn (off := 1126) (tgt := 1159) hE (by decide +kernel : decode cL_law 33 = .ok (.tableswitch 1574 0 40 #[179, 222, 255, 308, 371, 394, 407, 430, 453, 476, 509, 542, 575, 618, 651, 674, 707, 720, 753, 786, 819, 852, 911, 954, 997, 1040, 1093, 1126, 1169, 1192, 1205, 1296, 1345, 1394, 1407, 1466, 1489, 1512, 1525, 1538, 1551], 179)) (by decide) (by decide) (by decide) (by decide) ?_
      exact lc_missing hE hs hN H hi ht7 hI hB hk hn hend
    · refine x_tableIn (off := 1169) (tgt := 1202) hE (by decide +kernel : decode cL_law 33 = .ok (.tableswitch 1574 0 40 #[179, 222, 255, 308, 371, 394, 407, 430, 453, 476, 509, 542, 575, 618, 651, 674, 707, 720, 753, 786, 819, 852, 911, 954, 997, 1040, 1093, 1126, 1169, 1192, 1205, 1296, 1345, 1394, 1407, 1466, 1489, 1512, 1525, 1538, 1551], 179)) (by decide) (by decide) (by decide) (by decide) ?_
      exact lc_near hE hs hN H hi ht7 hI hB hk hn hend
    · refine x_tableIn (off := 1192) (tgt := 1225) hE (by decide +kernel : decode cL_law 33 = .ok (.tableswitch 1574 0 40 #[179, 222, 255, 308, 371, 394, 407, 430, 453, 476, 509, 542, 575, 618, 651, 674, 707, 720, 753, 786, 819, 852, 911, 954, 997, 1040, 1093, 1126, 1169, 1192, 1205, 1296, 1345, 1394, 1407, 1466, 1489, 1512, 1525, 1538, 1551], 179)) (by decide) (by decide) (by decide) (by decide) ?_
      exact lc_thieves hE hs hN H hi ht7 hI hB hk hn hend
    · refine x_tableIn (off := 1205) (tgt := 1238) hE (by decide +kernel : decode cL_law 33 = .ok (.tableswitch 1574 0 40 #[179, 222, 255, 308, 371, 394, 407, 430, 453, 476, 509, 542, 575, 618, 651, 674, 707, 720, 753, 786, 819, 852, 911, 954, 997, 1040, 1093, 1126, 1169, 1192, 1205, 1296, 1345, 1394, 1407, 1466, 1489, 1512, 1525, 1538, 1551], 179)) (by decide) (by decide) (by decide) (by decide) ?_
      exact lc_filling hE hs hN H hi ht7 hI hB hk hn hend
    · refine x_tableIn (off := 1296) (tgt := 1329) hE (by decide +kernel : decode cL_law 33 = .ok (.tableswitch 1574 0 40 #[179, 222, 255, 308, 371, 394, 407, 430, 453, 476, 509, 542, 575, 618, 651, 674, 707, 720, 753, 786, 819, 852, 911, 954, 997, 1040, 1093, 1126, 1169, 1192, 1205, 1296, 1345, 1394, 1407, 1466, 1489, 1512, 1525, 1538, 1551], 179)) (by decide) (by decide) (by decide) (by decide) ?_
      exact lc_forecast hE hs hN H hi ht7 hI hB hk hn hend
    · refine x_tableIn (off := 1345) (tgt := 1378) hE (by decide +kernel : decode cL_law 33 = .ok (.tableswitch 1574 0 40 #[179, 222, 255, 308, 371, 394, 407, 430, 453, 476, 509, 542, 575, 618, 651, 674, 707, 720, 753, 786, 819, 852, 911, 954, 997, 1040, 1093, 1126, 1169, 1192, 1205, 1296, 1345, 1394, 1407, 1466, 1489, 1512, 1525, 1538, 1551], 179)) (by decide) (by decide) (by decide) (by decide) ?_
      exact lc_errors hE hs hN H hi ht7 hI hB hk hn hend
    · refine x_tableIn (off := 1394) (tgt := 1427) hE (by decide +kernel : decode cL_law 33 = .ok (.tableswitch 1574 0 40 #[179, 222, 255, 308, 371, 394, 407, 430, 453, 476, 509, 542, 575, 618, 651, 674, 707, 720, 753, 786, 819, 852, 911, 954, 997, 1040, 1093, 1126, 1169, 1192, 1205, 1296, 1345, 1394, 1407, 1466, 1489, 1512, 1525, 1538, 1551], 179)) (by decide) (by decide) (by decide) (by decide) ?_
      exact lc_bound hE hs hN H hi ht7 hI hB hk hn hend
    · refine x_tableIn (off := 1407) (tgt := 1440) hE (by decide +kernel : decode cL_law 33 = .ok (.tableswitch 1574 0 40 #[179, 222, 255, 308, 371, 394, 407, 430, 453, 476, 509, 542, 575, 618, 651, 674, 707, 720, 753, 786, 819, 852, 911, 954, 997, 1040, 1093, 1126, 1169, 1192, 1205, 1296, 1345, 1394, 1407, 1466, 1489, 1512, 1525, 1538, 1551], 179)) (by decide) (by decide) (by decide) (by decide) ?_
      exact lc_offer hE hs hN H hi ht7 hI hB hk hn hend
    · refine x_tableIn (off := 1466) (tgt := 1499) hE (by decide +kernel : decode cL_law 33 = .ok (.tableswitch 1574 0 40 #[179, 222, 255, 308, 371, 394, 407, 430, 453, 476, 509, 542, 575, 618, 651, 674, 707, 720, 753, 786, 819, 852, 911, 954, 997, 1040, 1093, 1126, 1169, 1192, 1205, 1296, 1345, 1394, 1407, 1466, 1489, 1512, 1525, 1538, 1551], 179)) (by decide) (by decide) (by decide) (by decide) ?_
      exact lc_market hE hs hN H hi ht7 hI hB hk hn hend
    · refine x_tableIn (off := 1489) (tgt := 1522) hE (by decide +kernel : decode cL_law 33 = .ok (.tableswitch 1574 0 40 #[179, 222, 255, 308, 371, 394, 407, 430, 453, 476, 509, 542, 575, 618, 651, 674, 707, 720, 753, 786, 819, 852, 911, 954, 997, 1040, 1093, 1126, 1169, 1192, 1205, 1296, 1345, 1394, 1407, 1466, 1489, 1512, 1525, 1538, 1551], 179)) (by decide) (by decide) (by decide) (by decide) ?_
      exact lc_greatestTax hE hs hN H hi ht7 hI hB hk hn hend
    · refine x_tableIn (off := 1512) (tgt := 1545) hE (by decide +kernel : decode cL_law 33 = .ok (.tableswitch 1574 0 40 #[179, 222, 255, 308, 371, 394, 407, 430, 453, 476, 509, 542, 575, 618, 651, 674, 707, 720, 753, 786, 819, 852, 911, 954, 997, 1040, 1093, 1126, 1169, 1192, 1205, 1296, 1345, 1394, 1407, 1466, 1489, 1512, 1525, 1538, 1551], 179)) (by decide) (by decide) (by decide) (by decide) ?_
      exact lc_water hE hs hN H hi ht7 hI hB hk hn hend
    · refine x_tableIn (off := 1525) (tgt := 1558) hE (by decide +kernel : decode cL_law 33 = .ok (.tableswitch 1574 0 40 #[179, 222, 255, 308, 371, 394, 407, 430, 453, 476, 509, 542, 575, 618, 651, 674, 707, 720, 753, 786, 819, 852, 911, 954, 997, 1040, 1093, 1126, 1169, 1192, 1205, 1296, 1345, 1394, 1407, 1466, 1489, 1512, 1525, 1538, 1551], 179)) (by decide) (by decide) (by decide) (by decide) ?_
      exact lc_image hE hs hN H hi ht7 hI hB hk hn hend
    · refine x_tableIn (off := 1538) (tgt := 1571) hE (by decide +kernel : decode cL_law 33 = .ok (.tableswitch 1574 0 40 #[179, 222, 255, 308, 371, 394, 407, 430, 453, 476, 509, 542, 575, 618, 651, 674, 707, 720, 753, 786, 819, 852, 911, 954, 997, 1040, 1093, 1126, 1169, 1192, 1205, 1296, 1345, 1394, 1407, 1466, 1489, 1512, 1525, 1538, 1551], 179)) (by decide) (by decide) (by decide) (by decide) ?_
      exact lc_back hE hs hN H hi ht7 hI hB hk hn hend
    · refine x_tableIn (off := 1551) (tgt := 1584) hE (by decide +kernel : decode cL_law 33 = .ok (.tableswitch 1574 0 40 #[179, 222, 255, 308, 371, 394, 407, 430, 453, 476, 509, 542, 575, 618, 651, 674, 707, 720, 753, 786, 819, 852, 911, 954, 997, 1040, 1093, 1126, 1169, 1192, 1205, 1296, 1345, 1394, 1407, 1466, 1489, 1512, 1525, 1538, 1551], 179)) (by decide) (by decide) (by decide) (by decide) ?_
      exact lc_about hE hs hN H hi ht7 hI hB hk hn hend
  · have ejt : (nI j).toInt = j := by
      show (Int32.ofInt ((j : Nat) : Int)).toInt = _
      exact i32i (by omega) (by omega)
    refine x_tableOut hE (tgt := 1607) (by decide +kernel : decode cL_law 33 = .ok (.tableswitch 1574 0 40 #[179, 222, 255, 308, 371, 394, 407, 430, 453, 476, 509, 542, 575, 618, 651, 674, 707, 720, 753, 786, 819, 852, 911, 954, 997, 1040, 1093, 1126, 1169, 1192, 1205, 1296, 1345, 1394, 1407, 1466, 1489, 1512, 1525, 1538, 1551], 179)) (Or.inr (by rw [ejt]; omega)) (by decide) ?_
    refine x_widen (k' := k + 11) (n' := n + 1329) (by omega) (by omega) ?_
    exact hend K B L f hI (by omega)
theorem law_loop (hE : zOk E X0 RL cL_law 4 room_1) (hs : zSc E b N xs) (hN : N ≤ 3584) (H : ∀ j, j < 427 → CMj X0 j) (hfin : ∀ (k n : Nat) (L : List Nat) (f : Nat → va_E) (pc : Nat) (lv : List (Nat × Value)), k ≤ 600000 → n ≤ 7302250 → decode cL_law pc = .ok (.ireturn, 1) → eW E k n L f pc lv [.int 1]) : ∀ (r t : Nat), t + r = 512 → ∀ (K : Nat → Nat) (B : Int) (L : List Nat) (f : Nat → va_E) (k n : Nat) (i : Int32), i.toInt = ((7 * t : Nat) : Int) → linv X0.2.2.1 K B L f x mm → B ≤ 192000 * t → k ≤ 2000 + 11 * t → n ≤ 60000 + 1329 * t → eW E k n L f 18 (lvL b x mm i) [] := by
  intro r
  induction r with
  | zero =>
    intro t ht K B L f k n i hi hI hB hk hn
    refine law_step hE hs hN H hfin hi (by omega) hI (by omega) (by omega) (by omega) (fun K' B' L' f' h7 _ _ => absurd h7 (by omega))
  | succ r ih =>
    intro t ht K B L f k n i hi hI hB hk hn
    refine law_step hE hs hN H hfin hi (by omega) hI (by omega) (by omega) (by omega) (fun K' B' L' f' h7 hI' hB' => ?_)
    refine ih (t + 1) (by omega) K' B' L' f' _ _ _ ?_ hI' (by omega) (by omega) (by omega)
    have e7 : (7 : Int32).toInt = 7 := by decide
    rw [Int32.toInt_add, hi, e7, Int.bmod_eq_of_le (by omega) (by omega)]
    omega
end LP
theorem pdi_own : (parseMethodDescriptor yX11_init.desc).map (fun d => d.parameters.length) = some 0 := by decide +kernel
theorem pdi_mod : (parseMethodDescriptor yX12_init.desc).map (fun d => d.parameters.length) = some 0 := by decide +kernel
section ST
variable {E : zCx} {l0 : Launch} {D0 : va_G} {cy0 : Nat → ClassId} {ax0 : zAx} {b N : Nat} {xs : Nat → Int32}
set_option maxHeartbeats 4000000 in
/-- both objects are made, and the loop begins -/
theorem law_begin (hE : zOk E (l0, D0, cy0, ax0) RL cL_law 4 room_1) (hloop : ∀ (x mm : Nat) (K : Nat → Nat) (L : List Nat) (f : Nat → va_E) (k n : Nat), linv cy0 K 0 L f x mm → k ≤ 2000 → n ≤ 60000 → eW E k n L f 18 (lvL b x mm 0) []) : eW E 0 0 [] (fun _ => .inr (0, [])) 0 [(0, .ref b)] [] := by
  refine h_new (ci := 11) (fs := [.null, .null, .null, .null, .null, .null, .null]) (ty0 := tyX11) hE rfl inZX11 tyX11_ok q134 q135 q113 (by decide +kernel) (Nat.le_of_ble_eq_true rfl) (Nat.le_of_ble_eq_true rfl) (by decide +kernel) (fun x nqx => ?_)
  refine x_dup hE (by decide +kernel) rfl ?_
  have MO := n_Own (X0 := (l0, D0, cy0, ax0)) (B := 0) (K := va_up (fun _ => 0) x 197) (L := [] ++ [x]) (f := va_up (fun _ => .inr (0, [])) x (.inr (11, [.null, .null, .null, .null, .null, .null, .null]))) (w := x) (List.mem_append_right _ (List.mem_singleton.mpr rfl)) (va_up_self _ _ _) (va_up_self _ _ _)
  refine c_all hE (r_I (st := [.ref x]) hE MO q136 q137 q113 q138 rfl ⟨by decide +kernel, by decide +kernel, pdi_own⟩ ⟨by decide, by decide⟩ ⟨Nat.le_of_ble_eq_true rfl, Nat.le_of_ble_eq_true rfl⟩ rfl (by simp [Value.category]) (by decide +kernel)) (fun r1 L1 f1 ht1 hp1 => ?_)
  obtain rfl : r1 = none := ht1
  obtain ⟨A1, K1, c1, k1, ⟨y1, y1a, y1b, y1z⟩, y2, y2a, y2b, y2z⟩ := hp1
  obtain ⟨g1, o1, i1, e1⟩ := GR.obj (GR.rf (cy := cy0) (B := 0) (L0 := []) (K0 := fun _ => 0) (f0 := fun _ => .inr (0, [])) (w := 0)) nqx c1 k1
  dsimp only at y1a y1z y2a y2z g1 o1 i1 e1
  clear c1 k1 o1
  refine x_astore_n hE (z := 1) (i := 1) (x := x) (lv' := [(1, .ref x), (0, .ref b)]) (by decide +kernel) rfl (by decide) rfl ?_
  refine h_new (ci := 12) (fs := [.null, .null, .null, .null, .int 0, .int 0, .int 0, .int 0, .int 0, .int 0, .int 0, .long 0, .int 0, .int 0, .int 0, .null, .null, .int 0, .int 0, .int 0, .int 0, .int 0, .null, .int 0, .int 0, .null, .null, .null, .null, .null, .int 0, .int 0, .null, .null, .null, .int 0, .int 0, .int 0, .int 0, .null, .int 0, .null, .null, .null, .null, .null, .null, .null, .null, .null, .null, .null, .null]) (ty0 := tyX12) hE rfl inZX12 tyX12_ok q1385 q1386 q124 (by decide +kernel) (Nat.le_of_ble_eq_true rfl) (Nat.le_of_ble_eq_true rfl) (by decide +kernel) (fun m nqm => ?_)
  refine x_dup hE (by decide +kernel) rfl ?_
  have MM := n_Mod (X0 := (l0, D0, cy0, ax0)) (B := 0) (K := va_up K1 m 200) (L := L1 ++ [m]) (f := va_up f1 m (.inr (12, [.null, .null, .null, .null, .int 0, .int 0, .int 0, .int 0, .int 0, .int 0, .int 0, .long 0, .int 0, .int 0, .int 0, .null, .null, .int 0, .int 0, .int 0, .int 0, .int 0, .null, .int 0, .int 0, .null, .null, .null, .null, .null, .int 0, .int 0, .null, .null, .null, .int 0, .int 0, .int 0, .int 0, .null, .int 0, .null, .null, .null, .null, .null, .null, .null, .null, .null, .null, .null, .null]))) (w := m) (by decide) (List.mem_append_right _ (List.mem_singleton.mpr rfl)) (va_up_self _ _ _)
  refine c_all hE (r_I (st := [.ref m]) hE MM q1387 q1388 q124 q1389 rfl ⟨by decide +kernel, by decide +kernel, pdi_mod⟩ ⟨by decide, by decide⟩ ⟨Nat.le_of_ble_eq_true rfl, Nat.le_of_ble_eq_true rfl⟩ rfl (by simp [Value.category]) (by decide +kernel)) (fun r2 L2 f2 ht2 hp2 => ?_)
  obtain rfl : r2 = none := ht2
  obtain ⟨A2, K2, c2, k2, a, im, tx, aL, aK, imL, imK, txL, txK, az, imz, txz⟩ := hp2
  obtain ⟨g2, o2, i2, e2⟩ := GR.obj g1 nqm c2 k2
  dsimp only at aL imL txL az imz txz g2 o2 i2 e2
  clear c2 k2 g1
  have hS : L2.map K2 = sAll := by
    rw [g2.1]
    exact g2.2.1
  have hc : ∀ b ∈ L2, cok cy0 K2 0 L2 (K2 b) (f2 b) := fun b hb => g2.2.2.2.2.2.2 b (by
    have h := hb
    rw [g2.1] at h
    exact h)
  have inj := k_inj L2 sAll hS sAll_nd
  have hh : hok cy0 K2 0 L2 f2 := by
    refine hok_first hc hS (fun b hb hk i => ?_) (fun b hb hk => ?_)
    · rw [inj b hb tx txL (hk.trans txK.symm) (by rw [hk]; decide)]
      exact txz i
    · rcases hk with hk | hk
      · rw [inj b hb a aL (hk.trans aK.symm) (by rw [hk]; decide)]
        exact ⟨az 0 (by omega), az 1 (by omega)⟩
      · rw [inj b hb im imL (hk.trans imK.symm) (by rw [hk]; decide)]
        exact ⟨imz 0 (by omega), imz 1 (by omega)⟩
  have ox := o2 x i1
  have oy1 := o2 y1 y1a
  have oy2 := o2 y2 y2a
  have cO : ∀ (y kd j : Nat) (v : Int), y ∈ L2 ∧ K2 y = kd → 40 ≤ kd → gi (f2 y) j = v → cg K2 L2 f2 kd j v := fun y kd j v hy h40 hv b hb hk => by rw [inj b hb y hy.1 (hk.trans hy.2.symm) (by rw [hk]; exact h40)]; exact hv
  have hl : linv cy0 K2 0 L2 f2 x m := by
    have v1 : gi (f2 y1) 1 = 0 ∧ gi (f2 y1) 2 = 0 := by rw [oy1.2.2]; exact y1z
    have v2 : gi (f2 y2) 1 = 0 ∧ gi (f2 y2) 2 = 0 := by rw [oy2.2.2]; exact y2z
    have m1 : y1 ∈ L2 ∧ K2 y1 = 62 := ⟨oy1.1, oy1.2.1.trans y1b⟩
    have m2 : y2 ∈ L2 ∧ K2 y2 = 102 := ⟨oy2.1, oy2.2.1.trans y2b⟩
    refine ⟨hh, ⟨ox.1, ox.2.1.trans e1⟩, ⟨i2, e2⟩, by decide, 0, fun _ => 0, fun _ => 0, 0, fun _ => 0, fun _ => 0, 0, fun _ => 0, fun _ => 0, fun _ => 0, 0, fun _ => 0, fun _ => 0, fun _ => 0, ⟨by decide, fun k hk => absurd hk (Nat.not_lt_zero k)⟩, ⟨by decide, fun k hk => absurd hk (Nat.not_lt_zero k)⟩, ⟨by decide, fun k hk => absurd hk (Nat.not_lt_zero k)⟩, ⟨by decide, fun k hk => absurd hk (Nat.not_lt_zero k)⟩, ⟨⟨?_, fun k hk => absurd hk (Nat.not_lt_zero k)⟩, ⟨?_, fun k hk => absurd hk (Nat.not_lt_zero k)⟩⟩, ⟨⟨?_, fun k hk => absurd hk (Nat.not_lt_zero k)⟩, ⟨?_, fun k hk => absurd hk (Nat.not_lt_zero k)⟩⟩, ⟨⟨?_, fun k hk => absurd hk (Nat.not_lt_zero k)⟩, ⟨?_, fun k hk => absurd hk (Nat.not_lt_zero k)⟩⟩, ⟨⟨?_, fun k hk => absurd hk (Nat.not_lt_zero k)⟩, ⟨?_, fun k hk => absurd hk (Nat.not_lt_zero k)⟩⟩⟩
    · exact cO y1 62 1 _ m1 (by decide) v1.1
    · exact cO a 201 11 _ ⟨aL, aK⟩ (by decide) (az 11 (by omega))
    · exact cO y2 102 1 _ m2 (by decide) v2.1
    · exact cO im 202 11 _ ⟨imL, imK⟩ (by decide) (imz 11 (by omega))
    · exact cO y1 62 2 _ m1 (by decide) v1.2
    · exact cO a 201 12 _ ⟨aL, aK⟩ (by decide) (az 12 (by omega))
    · exact cO y2 102 2 _ m2 (by decide) v2.2
    · exact cO im 202 12 _ ⟨imL, imK⟩ (by decide) (imz 12 (by omega))
  refine x_astore_n hE (z := 2) (i := 2) (x := m) (lv' := [(2, .ref m), (1, .ref x), (0, .ref b)]) (by decide +kernel) rfl (by decide) rfl ?_
  refine x_iconst hE (i := 0) (v := 0) (by decide +kernel) rfl ?_
  refine x_istore_n hE (z := 3) (i := 3) (lv' := lvL b x m 0) (by decide +kernel) rfl (by decide) rfl ?_
  exact hloop x m K2 L2 f2 _ _ hl (Nat.le_of_ble_eq_true rfl) (Nat.le_of_ble_eq_true rfl)
end ST
