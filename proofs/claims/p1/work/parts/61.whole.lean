theorem z_f0 (fs : List Value) (h : ∀ v ∈ fs, v = .null ∨ v = .int 0 ∨ v = .long 0 := by decide) {ci : Nat} (c i : Nat) : zfI (.inr (ci, fs)) c i = 0 := by
  unfold zfI
  dsimp only
  split
  · cases hh : fs[i]? with
    | none => rfl
    | some v =>
      rcases h v (List.mem_of_getElem? hh) with rfl | rfl | rfl <;> rfl
  · rfl
set_option maxHeartbeats 4000000 in
set_option maxRecDepth 100000 in
/-- YOUR PART: from the entry, for every script of at most 7 ints, the law comes to its end with true ('hflags': the launch's flags, for a law that throws: no stack traces) -/
theorem whole_start {p : Program} {e : Env} {s : State} {m : MethodId} {below : List Frame} {meth : Method} {c : Code} (l : Launch) (hflags : l.flags = flags0) {b L : Nat} {xs : Nat → Int32} (hL : L ≤ 7) (C0 : lw_At p s m meth c b L xs) : W p l e room_1 s m #[Value.ref b] below meth c s.heap [] 0 0 (lw_Z below #[Value.ref b] s) (entryFrame m ([Value.ref b] : List Value).toArray 4) := by
  obtain ⟨hx, hb, hr, hml, hown, hts, hX, hbl, hlocks, hgv⟩ := id C0
  obtain ⟨D, cy, hK⟩ := z_known hts
  generalize hEd : ((p, l, e, room_1, s, m, #[Value.ref b], below, meth, c, D, cy, (fun q : Nat => s.heap.size ≤ q), lw_Z below #[Value.ref b] s) : zCx) = E
  have hE : zOk E l D cy R_law code 4 room_1 := by rw [← hEd]; exact ⟨hx, hb, hml, hown, fun w hw => hts w (List.mem_filter.mp hw).1, hK, fun _ h => h, rfl, rfl, rfl, rfl⟩
  have hs : zSc E b L xs := by rw [← hEd]; exact ⟨hX, hbl, Nat.not_le.mpr hbl⟩
  have hfin : ∀ (k n : Nat) (L : List Nat) (σ : Nat → va_E) (φ : Nat → Nat → Nat → Int32) (ρ : Nat → Nat → Int32) (pc : Nat) (lv : List (Nat × Value)), k ≤ 600000 → n ≤ 7302250 → decode code pc = .ok (.ireturn, 1) → zW E k n L σ φ ρ pc lv [.int 1] := by
    intro k n L σ φ ρ pc lv hk hn hd
    rw [← hEd]
    intro H locs ls hJ hl
    obtain ⟨f, hf, hP, hD, hS⟩ := hJ
    refine va_forget (fun q hq => hS.2.2 q hq) ?_
    refine W.widen hk hn ?_
    exact lw_ret hx hb hr hlocks hd
  have K : zW E 0 0 [] (fun _ => .inr (0, [])) (fun _ _ _ => 0) (fun _ _ => 0) 0 [(0, .ref b)] [] := by
    refine h_new (ci := 11) (fs := [.null, .null, .null, .null, .null, .null, .null]) (ty0 := tyX11) hE rfl inZX11 tyX11_ok q134 q135 q113 (by decide +kernel) rfl (fun c i => by by_cases hc : 11 = c <;> simp [zfI, hc] <;> (rcases i with _ | _ | _ | _ | _ | _ | _ | _ | _ | _ | _ | _ | _ | _ | _ | i <;> rfl)) (Nat.le_of_ble_eq_true rfl) (Nat.le_of_ble_eq_true rfl) dL_law_0 (fun x L1 σ1 φ1 ρ1 hn1 hx1 hw1 hp1 => ?_)
    refine x_dup hE dL_law_3 rfl ?_
    refine c_v hE (r_I (st := [.ref x]) hE (k_OwnRain l D cy L1 σ1 φ1 ρ1 hw1) q136 q137 q113 q138 rfl ⟨by decide, by decide, pn_X11_init⟩ ⟨(Nat.le_of_ble_eq_true rfl), (Nat.le_of_ble_eq_true rfl)⟩ ⟨(Nat.le_of_ble_eq_true rfl), (Nat.le_of_ble_eq_true rfl)⟩ rfl (Nat.le_of_ble_eq_true rfl) dL_law_4) (fun La σ2 φ2 ρ2 h2 => ?_)
    refine x_widen (k' := 700) (n' := 11000) (Nat.le_of_ble_eq_true rfl) (Nat.le_of_ble_eq_true rfl) ?_
    obtain ⟨-, hO⟩ := h2
    dsimp only at hO
    refine x_astore_n (lv' := [(1, .ref x), (0, .ref b)]) hE dL_law_7 rfl (by decide) rfl ?_
    refine h_newE (ci := 12) (fs := [.null, .null, .null, .null, .int 0, .int 0, .int 0, .int 0, .int 0, .int 0, .int 0, .long (0), .int 0, .int 0, .int 0, .null, .null, .int 0, .int 0, .int 0, .int 0, .int 0, .null, .int 0, .int 0, .null, .null, .null, .null, .null, .int 0, .int 0, .null, .null, .null, .int 0, .int 0, .int 0, .int 0, .null, .int 0, .null, .null, .null, .null, .null, .null, .null, .null, .null, .null, .null, .null]) (ty0 := tyX12) hE rfl inZX12 tyX12_ok q1385 q1386 q124 (by decide +kernel) rfl (z_f0 _) (Nat.le_of_ble_eq_true rfl) (Nat.le_of_ble_eq_true rfl) dL_law_8 (fun mm σ3 φ3 ρ3 hn3 he3 hw3 hp3 => ?_)
    refine x_dup hE dL_law_11 rfl ?_
    refine c_vF (La := La) (st := [.ref mm]) hE (k_Model l D cy [mm] σ3 φ3 ρ3 ⟨List.mem_singleton.mpr rfl, hw3⟩ hp3) q1387 q1388 q124 q1389 rfl ⟨by decide, by decide, pn_X12_init⟩ ⟨(Nat.le_of_ble_eq_true rfl), (Nat.le_of_ble_eq_true rfl)⟩ ⟨(Nat.le_of_ble_eq_true rfl), (Nat.le_of_ble_eq_true rfl)⟩ rfl (Nat.le_of_ble_eq_true rfl) dL_law_12 (fun Lb σ4 σ' φ4 φ' ρ4 ρ' hpost hdis hA hB => ?_)
    refine x_widen (k' := 800) (n' := 60000) (Nat.le_of_ble_eq_true rfl) (Nat.le_of_ble_eq_true rfl) ?_
    obtain ⟨-, r, hM, hM0⟩ := hpost
    dsimp only at hM hM0
    have hx4 : zOR cy La σ4 φ4 x := hO.eq (fun q hq => ⟨(hA q hq).1.trans (he3 q hq).1, fun c i => ((hA q hq).2.1 c i).trans ((he3 q hq).2 c i)⟩)
    have hm4 : zModel cy Lb σ4 mm r := hM.eq (fun q hq => (hB q hq).1)
    have hm04 : zMo0 φ4 ρ4 mm r := by
      obtain ⟨g1, g2, g3⟩ := hM0
      refine ⟨fun j => ?_, fun j hj => ?_, fun j hj => ?_⟩
      · rw [(hB mm hM.1.1).2.1, g1]
      · rw [(hB (r 0) hM.2.1.1).2.2]; exact g2 j hj
      · rw [(hB (r 1) hM.2.2.1.1).2.2]; exact g3 j hj
    refine x_astore_n (lv' := [(2, .ref mm), (1, .ref x), (0, .ref b)]) hE dL_law_15 rfl (by decide) rfl ?_
    refine x_iconst (v := 0) hE dL_law_16 (by decide) ?_
    refine x_istore_n (lv' := [(3, .int 0), (2, .ref mm), (1, .ref x), (0, .ref b)]) hE dL_law_17 rfl (by decide) rfl ?_
    refine x_iload_n hE dL_law_18 rfl 0 rfl ?_
    refine x_aload_n hE dL_law_19 rfl 3 rfl ?_
    refine s_len hE hs dL_law_20 ?_
    refine x_bipush (v := 7) hE dL_law_21 (by decide) ?_
    refine x_isub hE dL_law_23 ?_
    rcases Nat.lt_or_ge L 7 with hL7 | hL7
    · refine x_icmp_gt (tgt := 1614) hE dL_law_24 (by decide) (fun c_24 => ?_) (fun c_24 => absurd (pk_sneg (a := L) (b := 7) (by omega) hL7) c_24)
      refine x_iconst (v := 1) hE dL_law_1614 (by decide) ?_
      exact hfin _ _ _ _ _ _ _ _ (Nat.le_of_ble_eq_true rfl) (Nat.le_of_ble_eq_true rfl) dL_law_1615
    · have hL77 : L = 7 := by omega
      subst hL77
      refine x_norm (y := 0) (by decide) ?_
      refine x_icmp_gt (tgt := 1614) hE dL_law_24 (by decide) (fun c_24 => absurd c_24 (by decide)) (fun c_24 => ?_)
      refine x_aload_n hE dL_law_27 rfl 3 rfl ?_
      refine x_iload_n hE dL_law_28 rfl 0 rfl ?_
      refine s_ld (iN := 0) hE hs (by decide) (by decide) (by omega) dL_law_29 ?_
      refine x_bipush (v := 63) hE dL_law_30 (by decide) ?_
      refine x_iand hE dL_law_32 ?_
      obtain ⟨j, hj, ej⟩ := pk_andE (xs 0) (m := 63) 6 (by decide)
      refine x_norm (y := nI j) ej ?_
      have hend : ∀ (L : List Nat) (σ : Nat → va_E) (φ : Nat → Nat → Nat → Int32) (ρ : Nat → Nat → Int32), zW E 1000 64000 L σ φ ρ 1608 [(3, .int 0), (2, .ref mm), (1, .ref x), (0, .ref b)] [] := by
        intro L σ φ ρ
        refine x_iinc (v := 7) (lv' := [(3, .int 7), (2, .ref mm), (1, .ref x), (0, .ref b)]) hE dL_law_1608 0 rfl (by decide) (by decide) rfl ?_
        refine x_goto (tgt := 18) hE dL_law_1611 (by decide) ?_
        refine x_iload_n hE dL_law_18 rfl 0 rfl ?_
        refine x_aload_n hE dL_law_19 rfl 3 rfl ?_
        refine s_len hE hs dL_law_20 ?_
        refine x_bipush (v := 7) hE dL_law_21 (by decide) ?_
        refine x_isub hE dL_law_23 ?_
        refine x_norm (y := 0) (by decide) ?_
        refine x_icmp_gt (tgt := 1614) hE dL_law_24 (by decide) (fun c_24 => ?_) (fun c_24 => absurd (by decide) c_24)
        refine x_iconst (v := 1) hE dL_law_1614 (by decide) ?_
        exact hfin _ _ _ _ _ _ _ _ (Nat.le_of_ble_eq_true rfl) (Nat.le_of_ble_eq_true rfl) dL_law_1615
      rcases Nat.lt_or_ge j 41 with hj41 | hj41
      · rcases (show j = 0 ∨ j = 1 ∨ j = 2 ∨ j = 3 ∨ j = 4 ∨ j = 5 ∨ j = 6 ∨ j = 7 ∨ j = 8 ∨ j = 9 ∨ j = 10 ∨ j = 11 ∨ j = 12 ∨ j = 13 ∨ j = 14 ∨ j = 15 ∨ j = 16 ∨ j = 17 ∨ j = 18 ∨ j = 19 ∨ j = 20 ∨ j = 21 ∨ j = 22 ∨ j = 23 ∨ j = 24 ∨ j = 25 ∨ j = 26 ∨ j = 27 ∨ j = 28 ∨ j = 29 ∨ j = 30 ∨ j = 31 ∨ j = 32 ∨ j = 33 ∨ j = 34 ∨ j = 35 ∨ j = 36 ∨ j = 37 ∨ j = 38 ∨ j = 39 ∨ j = 40 by omega) with rfl | rfl | rfl | rfl | rfl | rfl | rfl | rfl | rfl | rfl | rfl | rfl | rfl | rfl | rfl | rfl | rfl | rfl | rfl | rfl | rfl | rfl | rfl | rfl | rfl | rfl | rfl | rfl | rfl | rfl | rfl | rfl | rfl | rfl | rfl | rfl | rfl | rfl | rfl | rfl | rfl
        · refine x_tableIn (off := 179) (tgt := 212) hE dL_law_33 (by decide) (by decide) (by decide) (by decide) ?_
          exact lc_0 hE hs hx4 hm4 hm04 hend
        · refine x_tableIn (off := 222) (tgt := 255) hE dL_law_33 (by decide) (by decide) (by decide) (by decide) ?_
          exact lc_1 hE hs hx4 hm4 hm04 hend
        · refine x_tableIn (off := 255) (tgt := 288) hE dL_law_33 (by decide) (by decide) (by decide) (by decide) ?_
          exact lc_2 hE hs hx4 hm4 hm04 hend
        · refine x_tableIn (off := 308) (tgt := 341) hE dL_law_33 (by decide) (by decide) (by decide) (by decide) ?_
          exact lc_3 hE hs hx4 hm4 hm04 hend
        · refine x_tableIn (off := 371) (tgt := 404) hE dL_law_33 (by decide) (by decide) (by decide) (by decide) ?_
          exact lc_4 hE hs hx4 hm4 hm04 hend
        · refine x_tableIn (off := 394) (tgt := 427) hE dL_law_33 (by decide) (by decide) (by decide) (by decide) ?_
          exact lc_5 hE hs hx4 hm4 hm04 hend
        · refine x_tableIn (off := 407) (tgt := 440) hE dL_law_33 (by decide) (by decide) (by decide) (by decide) ?_
          exact lc_6 hE hs hx4 hm4 hm04 hend
        · refine x_tableIn (off := 430) (tgt := 463) hE dL_law_33 (by decide) (by decide) (by decide) (by decide) ?_
          exact lc_7 hE hs hx4 hm4 hm04 hend
        · refine x_tableIn (off := 453) (tgt := 486) hE dL_law_33 (by decide) (by decide) (by decide) (by decide) ?_
          exact lc_8 hE hs hx4 hm4 hm04 hend
        · refine x_tableIn (off := 476) (tgt := 509) hE dL_law_33 (by decide) (by decide) (by decide) (by decide) ?_
          exact lc_9 hE hs hx4 hm4 hm04 hend
        · refine x_tableIn (off := 509) (tgt := 542) hE dL_law_33 (by decide) (by decide) (by decide) (by decide) ?_
          exact lc_10 hE hs hx4 hm4 hm04 hend
        · refine x_tableIn (off := 542) (tgt := 575) hE dL_law_33 (by decide) (by decide) (by decide) (by decide) ?_
          exact lc_11 hE hs hx4 hm4 hm04 hend
        · refine x_tableIn (off := 575) (tgt := 608) hE dL_law_33 (by decide) (by decide) (by decide) (by decide) ?_
          exact lc_12 hE hs hx4 hm4 hm04 hend
        · refine x_tableIn (off := 618) (tgt := 651) hE dL_law_33 (by decide) (by decide) (by decide) (by decide) ?_
          exact lc_13 hE hs hx4 hm4 hm04 hend
        · refine x_tableIn (off := 651) (tgt := 684) hE dL_law_33 (by decide) (by decide) (by decide) (by decide) ?_
          exact lc_14 hE hs hx4 hm4 hm04 hend
        · refine x_tableIn (off := 674) (tgt := 707) hE dL_law_33 (by decide) (by decide) (by decide) (by decide) ?_
          exact lc_15 hE hs hx4 hm4 hm04 hend
        · refine x_tableIn (off := 707) (tgt := 740) hE dL_law_33 (by decide) (by decide) (by decide) (by decide) ?_
          exact lc_16 hE hs hx4 hm4 hm04 hend
        · refine x_tableIn (off := 720) (tgt := 753) hE dL_law_33 (by decide) (by decide) (by decide) (by decide) ?_
          exact lc_17 hE hs hx4 hm4 hm04 hend
        · refine x_tableIn (off := 753) (tgt := 786) hE dL_law_33 (by decide) (by decide) (by decide) (by decide) ?_
          exact lc_18 hE hs hx4 hm4 hm04 hend
        · refine x_tableIn (off := 786) (tgt := 819) hE dL_law_33 (by decide) (by decide) (by decide) (by decide) ?_
          exact lc_19 hE hs hx4 hm4 hm04 hend
        · refine x_tableIn (off := 819) (tgt := 852) hE dL_law_33 (by decide) (by decide) (by decide) (by decide) ?_
          exact lc_20 hE hs hx4 hm4 hm04 hend
        · refine x_tableIn (off := 852) (tgt := 885) hE dL_law_33 (by decide) (by decide) (by decide) (by decide) ?_
          exact lc_21 hE hs hx4 hm4 hm04 hend
        · refine x_tableIn (off := 911) (tgt := 944) hE dL_law_33 (by decide) (by decide) (by decide) (by decide) ?_
          exact lc_22 hE hs hx4 hm4 hm04 hend
        · refine x_tableIn (off := 954) (tgt := 987) hE dL_law_33 (by decide) (by decide) (by decide) (by decide) ?_
          exact lc_23 hE hs hx4 hm4 hm04 hend
        · refine x_tableIn (off := 997) (tgt := 1030) hE dL_law_33 (by decide) (by decide) (by decide) (by decide) ?_
          exact lc_24 hE hs hx4 hm4 hm04 hend
        · refine x_tableIn (off := 1040) (tgt := 1073) hE dL_law_33 (by decide) (by decide) (by decide) (by decide) ?_
          exact lc_25 hE hs hx4 hm4 hm04 hend
        · refine x_tableIn (off := 1093) (tgt := 1126) hE dL_law_33 (by decide) (by decide) (by decide) (by decide) ?_
          exact lc_26 hE hs hx4 hm4 hm04 hend
        · refine x_tableIn (off := 1126) (tgt := 1159) hE dL_law_33 (by decide) (by decide) (by decide) (by decide) ?_
          exact lc_27 hE hs hx4 hm4 hm04 hend
        · refine x_tableIn (off := 1169) (tgt := 1202) hE dL_law_33 (by decide) (by decide) (by decide) (by decide) ?_
          exact lc_28 hE hs hx4 hm4 hm04 hend
        · refine x_tableIn (off := 1192) (tgt := 1225) hE dL_law_33 (by decide) (by decide) (by decide) (by decide) ?_
          exact lc_29 hE hs hx4 hm4 hm04 hend
        · refine x_tableIn (off := 1205) (tgt := 1238) hE dL_law_33 (by decide) (by decide) (by decide) (by decide) ?_
          exact lc_30 hE hs hx4 hm4 hm04 hend
        · refine x_tableIn (off := 1297) (tgt := 1330) hE dL_law_33 (by decide) (by decide) (by decide) (by decide) ?_
          exact lc_31 hE hs hx4 hm4 hm04 hend
        · refine x_tableIn (off := 1346) (tgt := 1379) hE dL_law_33 (by decide) (by decide) (by decide) (by decide) ?_
          exact lc_32 hE hs hx4 hm4 hm04 hend
        · refine x_tableIn (off := 1395) (tgt := 1428) hE dL_law_33 (by decide) (by decide) (by decide) (by decide) ?_
          exact lc_33 hE hs hx4 hm4 hm04 hend
        · refine x_tableIn (off := 1408) (tgt := 1441) hE dL_law_33 (by decide) (by decide) (by decide) (by decide) ?_
          exact lc_34 hE hs hx4 hm4 hm04 hend
        · refine x_tableIn (off := 1467) (tgt := 1500) hE dL_law_33 (by decide) (by decide) (by decide) (by decide) ?_
          exact lc_35 hE hs hx4 hm4 hm04 hend
        · refine x_tableIn (off := 1490) (tgt := 1523) hE dL_law_33 (by decide) (by decide) (by decide) (by decide) ?_
          exact lc_36 hE hs hx4 hm4 hm04 hend
        · refine x_tableIn (off := 1513) (tgt := 1546) hE dL_law_33 (by decide) (by decide) (by decide) (by decide) ?_
          exact lc_37 hE hs hx4 hm4 hm04 hend
        · refine x_tableIn (off := 1526) (tgt := 1559) hE dL_law_33 (by decide) (by decide) (by decide) (by decide) ?_
          exact lc_38 hE hs hx4 hm4 hm04 hend
        · refine x_tableIn (off := 1539) (tgt := 1572) hE dL_law_33 (by decide) (by decide) (by decide) (by decide) ?_
          exact lc_39 hE hs hx4 hm4 hm04 hend
        · refine x_tableIn (off := 1552) (tgt := 1585) hE dL_law_33 (by decide) (by decide) (by decide) (by decide) ?_
          exact lc_40 hE hs hx4 hm4 hm04 hend
      · refine x_tableOut (tgt := 1608) hE dL_law_33 (Or.inr (by rw [nI_toInt (by omega)]; omega)) (by decide) ?_
        refine x_widen (k' := 1000) (n' := 64000) (Nat.le_of_ble_eq_true rfl) (Nat.le_of_ble_eq_true rfl) ?_
        exact hend _ _ _ _
  rw [← hEd] at K
  have hl := lv_entry ([.ref b]) (n := 4) (Nat.le_of_ble_eq_true rfl)
  rw [lg_entry_eq]
  exact K s.heap [] _ ⟨fun _ => .inr (0, []), fun a ha => absurd ha List.not_mem_nil, fun k q h => by simp [va_pl] at h, ⟨fun i j p q h => by simp [va_pl] at h, fun k q h => by simp [va_pl] at h⟩, va_S.rf⟩ (by rw [hml]; exact hl)
