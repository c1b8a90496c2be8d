/-! Strings and the row SHAPES: rows of the pool, the JDK's methods. -/
section ST
variable {E : zCx} {l0 : Launch} {D0 : va_G} {cy0 : Nat → ClassId} {ax0 : zAx} {own : String} {cc : ByteArray} {nL : Nat} {R0 : Room} {k n : Nat} {L : List Nat} {f : Nat → va_E} {pc : Nat} {lv : List (Nat × Value)} {st stk : List Value}
theorem x_i2b (hE : zOk E (l0, D0, cy0, ax0) own cc nL R0) {x : Int32} (hd : decode cc pc = .ok (.i2b, 1)) (kk : eW E k n L f (pc + 1) lv (.int x.toInt8.toInt32 :: st)) : eW E k n L f pc lv (.int x :: st) := by
  obtain ⟨p, l, e, R, s, m, args, below, meth, c, D, cy, A, Q, ax⟩ := E
  obtain ⟨hx, hb, hml, hown, hts, hK, hA, hX, rfl, hh⟩ := hE
  intro H locs ls hJ hl
  exact lv_i2b hx hb hd rfl (kk H locs ls hJ hl)
theorem x_str0 (hE : zOk E (l0, D0, cy0, ax0) RX6 cc nL R0) (hd : decode cc pc = .ok (.ldc 61, 2)) (kk : eW E k n L f (pc + 2) lv (.ref (ax0.1 0) :: st)) : eW E k n L f pc lv st := by
  obtain ⟨p, l, e, R, s, m, args, below, meth, c, D, cy, A, Q, ax⟩ := E
  obtain ⟨hx, hb, hml, hown, hts, hK, hA, hX, rfl, hh⟩ := hE
  cases hh
  intro H locs ls hJ hl
  exact va_ldcS hx hb hown hX.2.1 hd (kk H locs ls hJ hl)
theorem x_str1 (hE : zOk E (l0, D0, cy0, ax0) RX6 cc nL R0) (hd : decode cc pc = .ok (.ldc 68, 2)) (kk : eW E k n L f (pc + 2) lv (.ref (ax0.1 1) :: st)) : eW E k n L f pc lv st := by
  obtain ⟨p, l, e, R, s, m, args, below, meth, c, D, cy, A, Q, ax⟩ := E
  obtain ⟨hx, hb, hml, hown, hts, hK, hA, hX, rfl, hh⟩ := hE
  cases hh
  intro H locs ls hJ hl
  exact va_ldcS hx hb hown hX.2.2.1 hd (kk H locs ls hJ hl)
theorem x_compact (hE : zOk E (l0, D0, cy0, ax0) own cc nL R0) {idx : Nat} (hq : Cond.fieldLink own idx "java/lang/String" "COMPACT_STRINGS" "Z" ∈ gtbl) (hd : decode cc pc = .ok (.getstatic idx, 3)) (kk : eW E k n L f (pc + 3) lv (.int 1 :: st)) : eW E k n L f pc lv st := by
  obtain ⟨p, l, e, R, s, m, args, below, meth, c, D, cy, A, Q, ax⟩ := E
  obtain ⟨hx, hb, hml, hown, hts, hK, hA, hX, rfl, hh⟩ := hE
  cases hh
  intro H locs ls hJ hl
  obtain ⟨hP, hD, hS0⟩ := id hJ
  exact va_gets hx hb hX.2.2.2.1 hS0 hown (hts _ hq) (fun x h => h) hd (kk H locs ls hJ hl)
theorem x_formatter (hE : zOk E (l0, D0, cy0, ax0) own cc nL R0) {idx : Nat} (hq : Cond.fieldLink own idx "jdk/internal/util/Preconditions" "SIOOBE_FORMATTER" "Ljava/util/function/BiFunction;" ∈ gtbl) (hd : decode cc pc = .ok (.getstatic idx, 3)) (kk : ∀ t : Option Nat, eW E k n L f (pc + 3) lv (va_rf t :: st)) : eW E k n L f pc lv st := by
  obtain ⟨p, l, e, R, s, m, args, below, meth, c, D, cy, A, Q, ax⟩ := E
  obtain ⟨hx, hb, hml, hown, hts, hK, hA, hX, rfl, hh⟩ := hE
  cases hh
  intro H locs ls hJ hl
  obtain ⟨hP, hD, hS0⟩ := id hJ
  obtain ⟨-, -, -, -, -, -, -, t, h7⟩ := hX
  exact va_gets hx hb h7 hS0 hown (hts _ hq) (fun x h => h) hd (kk t H locs ls hJ hl)
theorem x_shapes (hE : zOk E (l0, D0, cy0, ax0) RX3 cc nL R0) (hd : decode cc pc = .ok (.getstatic 106, 3)) (kk : eW E k n L f (pc + 3) lv (.ref ax0.2.2 :: st)) : eW E k n L f pc lv st := by
  obtain ⟨p, l, e, R, s, m, args, below, meth, c, D, cy, A, Q, ax⟩ := E
  obtain ⟨hx, hb, hml, hown, hts, hK, hA, hX, rfl, hh⟩ := hE
  cases hh
  intro H locs ls hJ hl
  obtain ⟨hP, hD, hS0⟩ := id hJ
  obtain ⟨-, -, -, -, h5, h6, hN, -⟩ := hX
  exact va_getsN hx hb h5 hS0 hown (va_Nw.use rfl hN) (fun x h => h) hd (kk H locs ls hJ hl)
theorem x_shrow (hE : zOk E (l0, D0, cy0, ax0) own cc nL R0) {i : Int32} (hi : vp_in i 81) (hd : decode cc pc = .ok (.iaload, 1)) (kk : eW E k n L f (pc + 1) lv (.int (zshp.getD i.toNatClampNeg 0) :: st)) : eW E k n L f pc lv (.int i :: .ref ax0.2.2 :: st) := by
  obtain ⟨p, l, e, R, s, m, args, below, meth, c, D, cy, A, Q, ax⟩ := E
  obtain ⟨hx, hb, hml, hown, hts, hK, hA, hX, rfl, hh⟩ := hE
  cases hh
  intro H locs ls hJ hl
  obtain ⟨hP, hD, hS0⟩ := id hJ
  obtain ⟨-, -, -, -, h5, h6, hN, -⟩ := hX
  exact va_ti hx hb h6 hS0 hi rfl hd (kk H locs ls hJ hl)
theorem x_sval {i : Nat} (hi : i < 2) (hE : zOk E (l0, D0, cy0, ax0) RJ0 cc nL R0) (hd : decode cc pc = .ok (.getfield 9, 3)) (kk : eW E k n L f (pc + 3) lv (.ref (ax0.2.1 i) :: st)) : eW E k n L f pc lv (.ref (ax0.1 i) :: st) := by
  obtain ⟨p, l, e, R, s, m, args, below, meth, c, D, cy, A, Q, ax⟩ := E
  obtain ⟨hx, hb, hml, hown, hts, hK, hA, hX, rfl, hh⟩ := hE
  cases hh
  intro H locs ls hJ hl
  obtain ⟨hP, hD, hS0⟩ := id hJ
  exact vk_getf hx hb (hX.1.1 i hi).2.2.1 hS0 hown (hts _ q2081) (fun x h => h) hd (kk H locs ls hJ hl)
theorem x_scod {i : Nat} (hi : i < 2) (hE : zOk E (l0, D0, cy0, ax0) RJ0 cc nL R0) (hd : decode cc pc = .ok (.getfield 15, 3)) (kk : eW E k n L f (pc + 3) lv (.int 0 :: st)) : eW E k n L f pc lv (.ref (ax0.1 i) :: st) := by
  obtain ⟨p, l, e, R, s, m, args, below, meth, c, D, cy, A, Q, ax⟩ := E
  obtain ⟨hx, hb, hml, hown, hts, hK, hA, hX, rfl, hh⟩ := hE
  cases hh
  intro H locs ls hJ hl
  obtain ⟨hP, hD, hS0⟩ := id hJ
  exact vk_getf hx hb (hX.1.1 i hi).2.1 hS0 hown (hts _ q2082) (fun x h => h) hd (kk H locs ls hJ hl)
theorem x_sbyte {i : Nat} (hi : i < 2) (hE : zOk E (l0, D0, cy0, ax0) own cc nL R0) {j : Int32} (hj : vp_in j (zlen.getD i 0)) (hd : decode cc pc = .ok (.baload, 1)) (kk : eW E k n L f (pc + 1) lv (.int ((zbyt.getD i []).getD j.toNatClampNeg 0) :: st)) : eW E k n L f pc lv (.int j :: .ref (ax0.2.1 i) :: st) := by
  obtain ⟨p, l, e, R, s, m, args, below, meth, c, D, cy, A, Q, ax⟩ := E
  obtain ⟨hx, hb, hml, hown, hts, hK, hA, hX, rfl, hh⟩ := hE
  cases hh
  intro H locs ls hJ hl
  obtain ⟨hP, hD, hS0⟩ := id hJ
  exact va_tb hx hb (hX.1.1 i hi).2.2.2 hS0 hj rfl hd (kk H locs ls hJ hl)
theorem x_slen {i : Nat} (hi : i < 2) (hE : zOk E (l0, D0, cy0, ax0) own cc nL R0) (hd : decode cc pc = .ok (.arraylength, 1)) (kk : eW E k n L f (pc + 1) lv (.int (Int32.ofNat (zlen.getD i 0)) :: st)) : eW E k n L f pc lv (.ref (ax0.2.1 i) :: st) := by
  obtain ⟨p, l, e, R, s, m, args, below, meth, c, D, cy, A, Q, ax⟩ := E
  obtain ⟨hx, hb, hml, hown, hts, hK, hA, hX, rfl, hh⟩ := hE
  cases hh
  intro H locs ls hJ hl
  obtain ⟨hP, hD, hS0⟩ := id hJ
  exact va_tlen hx hb (hX.1.1 i hi).2.2.2 hS0 rfl hd (kk H locs ls hJ hl)
variable {y : MethodName} {b : ByteArray} {nb index t d : Nat} {ret : Option FieldType} {av : List Value} {post : Option Value → eS → Prop}
theorem w_jS (hE : zOk E (l0, D0, cy0, ax0) own cc nL R0) (hM : eM (l0, D0, cy0, ax0) t y b nb ret (zrm d 0 0) av L f post) (hq1 : Cond.methodLink own index y ∈ gtbl) (hq2 : Cond.static y ∈ gtbl) (hq4 : Cond.initialized y.cls ∈ gtbl) (hq5 : Cond.code y b nb ret ∈ gtbl) (hy : y.cls ≠ "java/lang/invoke/MethodHandle" ∧ y.cls ≠ "java/lang/invoke/VarHandle" ∧ (parseMethodDescriptor y.desc).map (fun d => d.parameters.length) = some av.length) (hdd : d + 1 ≤ R0.frames ∧ 8 + (nb + 11) + 60 * d ≤ R0.locals) (hk : k ≤ R0.cells ∧ n ≤ R0.slots) (hst : stk = av.reverse ++ st) (hcat : (st.map fun v => v.category).sum ≤ 8) (hd : decode cc pc = .ok (.invokestatic index, 3)) (kk : ∀ (r : Option Value) (L' : List Nat) (f' : Nat → va_E), eTag t r → post r (L', f') → eW E k n L' f' (pc + 3) lv (ePush r st)) : eW E k n L f pc lv stk := c_all hE (r_S hE hM hq1 hq2 hq4 hq5 hy hdd hk hst hcat hd) kk
theorem w_jV {i : Nat} (hi : i < 2) (hE : zOk E (l0, D0, cy0, ax0) own cc nL R0) (hM : eM (l0, D0, cy0, ax0) t y b nb ret (zrm d 0 0) (.ref (ax0.1 i) :: av) L f post) (hq1 : Cond.methodLink own index y ∈ gtbl) (hq2 : Cond.instanceMethod y ∈ gtbl) (hq3 : Cond.selects "java/lang/String" y y ∈ gtbl) (hq4 : Cond.initialized y.cls ∈ gtbl) (hq5 : Cond.code y b nb ret ∈ gtbl) (hy : y.cls ≠ "java/lang/invoke/MethodHandle" ∧ y.cls ≠ "java/lang/invoke/VarHandle" ∧ (parseMethodDescriptor y.desc).map (fun d => d.parameters.length) = some av.length) (hdd : d + 1 ≤ R0.frames ∧ 8 + (nb + 11) + 60 * d ≤ R0.locals) (hk : k ≤ R0.cells ∧ n ≤ R0.slots) (hst : stk = av.reverse ++ .ref (ax0.1 i) :: st) (hcat : (st.map fun v => v.category).sum ≤ 8) (hd : decode cc pc = .ok (.invokevirtual index, 3)) (kk : ∀ (r : Option Value) (L' : List Nat) (f' : Nat → va_E), eTag t r → post r (L', f') → eW E k n L' f' (pc + 3) lv (ePush r st)) : eW E k n L f pc lv stk := by
  have hr : eRun E k n (zrm d 0 0).cells (zrm d 0 0).slots L f pc lv stk st (fun sz => eQ t (l0, D0, cy0, ax0).2.1 (zA L sz) post (Value.ref (ax0.1 i) :: av).toArray) := by
    obtain ⟨p, l, e, R, s, m, args, below, meth, c, D, cy, A, Q, ax⟩ := E
    obtain ⟨hx, hb, hml, hown, hts, hK, hA, hX, rfl, hh⟩ := hE
    cases hh
    intro H locs ls hJ hl
    obtain ⟨hP, hD, hS0⟩ := id hJ
    exact va_runV ⟨hx, hb, hml, hown, hts⟩ (hM H.size) ⟨callB_of av.length hts (gin hq5) rfl rfl rfl (hts _ hq4) (hts _ hq1) hy hdd, hts _ hq2, hts _ hq3⟩ ⟨ePre_blind, vk_recv hX.1 hi hS0, fun U hU hW => ⟨rfl, by rw [hU], hK.warm hW, zXt_at hX hD hS0 hA hU hW, by rw [hU]; exact hP, zD_all hD⟩⟩ rfl rfl (hl.1.trans hml) hst (lv_room hcat) hd hk
  exact c_all hE hr kk
end ST
section JD
variable {l0 : Launch} {D0 : va_G} {cy0 : Nat → ClassId} {ax0 : zAx} {L : List Nat} {f : Nat → va_E}
theorem pnJ0 : plainName RJ0 = true := by decide +kernel
theorem pnJ1 : plainName RJ1 = true := by decide +kernel
theorem pnJ3 : plainName RJ3 = true := by decide +kernel
theorem pd_coder : (parseMethodDescriptor yJ0_coder_7d493.desc).map (fun d => d.parameters.length) = some 0 := by decide +kernel
theorem pd_pcheck : (parseMethodDescriptor yJ3_checkIndex_8e157.desc).map (fun d => d.parameters.length) = some 3 := by decide +kernel
theorem pd_scheck : (parseMethodDescriptor yJ0_checkIndex_df160.desc).map (fun d => d.parameters.length) = some 2 := by decide +kernel
theorem pd_lchar : (parseMethodDescriptor yJ1_charAt_3b067.desc).map (fun d => d.parameters.length) = some 2 := by decide +kernel
theorem pd_isLatin1 : (parseMethodDescriptor yJ0_isLatin1_aae02.desc).map (fun d => d.parameters.length) = some 0 := by decide +kernel
theorem pd_canEncode : (parseMethodDescriptor yJ1_canEncode_9a6ad.desc).map (fun d => d.parameters.length) = some 1 := by decide +kernel
theorem pd_ixChar : (parseMethodDescriptor yJ1_indexOfChar_4cfef.desc).map (fun d => d.parameters.length) = some 4 := by decide +kernel
theorem pd_lix : (parseMethodDescriptor yJ1_indexOf_4cfef.desc).map (fun d => d.parameters.length) = some 4 := by decide +kernel
theorem pd_length : (parseMethodDescriptor yJ0_length_8abf5.desc).map (fun d => d.parameters.length) = some 0 := by decide +kernel
theorem pd_ix2 : (parseMethodDescriptor yJ0_indexOf_7cf53.desc).map (fun d => d.parameters.length) = some 2 := by decide +kernel
theorem pd_ix1 : (parseMethodDescriptor yJ0_indexOf_0f7a4.desc).map (fun d => d.parameters.length) = some 1 := by decide +kernel
theorem pd_charAt : (parseMethodDescriptor yJ0_charAt_5068e.desc).map (fun d => d.parameters.length) = some 1 := by decide +kernel
theorem j_coder {i : Nat} (hi : i < 2) : eM (l0, D0, cy0, ax0) 0 yJ0_coder_7d493 cJ0_coder_7d493 1 (some .byte) (zrm 1 0 0) [.ref (ax0.1 i)] L f (fun r u => r = some (.int 0) ∧ u = (L, f)) := by
  refine eM.mk ⟨_, rfl⟩ pnJ0 (Nat.le_of_ble_eq_true rfl) (fun E hE _ hret => ?_)
  refine x_compact hE q728 (by decide +kernel) ?_
  refine x_if_eq hE (off := 10) (tgt := 13) (by decide +kernel) rfl (fun h => absurd h (by decide)) (fun _ => ?_)
  refine x_aload_n hE (z := 0) (i := 0) (x := ax0.1 i) (by decide +kernel) rfl (by simp [lv_args, Value.category]) ?_
  refine x_scod hi hE (by decide +kernel) ?_
  refine x_goto hE (off := 4) (tgt := 14) (by decide +kernel) rfl ?_
  exact hret 0 0 L f 14 _ _ (Nat.le_refl _) (Nat.le_refl _) (by decide +kernel) (fun ft hft => by cases hft; rfl) ⟨rfl, rfl⟩
theorem j_isLatin1 {i : Nat} (hi : i < 2) : eM (l0, D0, cy0, ax0) 0 yJ0_isLatin1_aae02 cJ0_isLatin1_aae02 1 (some .boolean) (zrm 1 0 0) [.ref (ax0.1 i)] L f (fun r u => r = some (.int 1) ∧ u = (L, f)) := by
  refine eM.mk ⟨_, rfl⟩ pnJ0 (Nat.le_of_ble_eq_true rfl) (fun E hE _ hret => ?_)
  refine x_compact hE q728 (by decide +kernel) ?_
  refine x_if_eq hE (off := 14) (tgt := 17) (by decide +kernel) rfl (fun h => absurd h (by decide)) (fun _ => ?_)
  refine x_aload_n hE (z := 0) (i := 0) (x := ax0.1 i) (by decide +kernel) rfl (by simp [lv_args, Value.category]) ?_
  refine x_scod hi hE (by decide +kernel) ?_
  refine x_if_ne hE (off := 7) (tgt := 17) (by decide +kernel) rfl (fun h => absurd rfl h) (fun _ => ?_)
  refine x_iconst hE (i := 1) (v := 1) (by decide +kernel) rfl ?_
  refine x_goto hE (off := 4) (tgt := 18) (by decide +kernel) rfl ?_
  exact hret 0 0 L f 18 _ _ (Nat.le_refl _) (Nat.le_refl _) (by decide +kernel) (fun ft hft => by cases hft; rfl) ⟨rfl, rfl⟩
theorem j_length {i : Nat} (hi : i < 2) : eM (l0, D0, cy0, ax0) 0 yJ0_length_8abf5 cJ0_length_8abf5 1 (some .int) (zrm 2 0 0) [.ref (ax0.1 i)] L f (fun r u => r = some (.int (Int32.ofNat (zlen.getD i 0))) ∧ u = (L, f)) := by
  refine eM.mk ⟨_, rfl⟩ pnJ0 (Nat.le_of_ble_eq_true rfl) (fun E hE _ hret => ?_)
  refine x_aload_n hE (z := 0) (i := 0) (x := ax0.1 i) (by decide +kernel) rfl (by simp [lv_args, Value.category]) ?_
  refine x_sval hi hE (by decide +kernel) ?_
  refine x_slen hi hE (by decide +kernel) ?_
  refine x_aload_n hE (z := 0) (i := 0) (x := ax0.1 i) (by decide +kernel) rfl (by simp [lv_args, Value.category]) ?_
  refine w_jV hi hE (j_coder hi) q724 q725 q726 q126 q727 ⟨by decide +kernel, by decide +kernel, pd_coder⟩ ⟨by decide, by decide⟩ ⟨Nat.le_refl _, Nat.le_refl _⟩ rfl (by simp [Value.category]) (by decide +kernel) (fun r L' f' _ hp => ?_)
  obtain ⟨rfl, hu⟩ := hp
  cases hu
  refine x_ishr hE (by decide +kernel) ?_
  have e : Int32.ofNat (zlen.getD i 0) >>> ((0 : Int32) &&& 31) = Int32.ofNat (zlen.getD i 0) := by
    match i, hi with
    | 0, _ => decide +kernel
    | 1, _ => decide +kernel
    | i + 2, h => omega
  rw [e]
  exact hret 0 0 L f 10 _ _ (Nat.le_refl _) (Nat.le_refl _) (by decide +kernel) (fun ft hft => by cases hft; rfl) ⟨rfl, rfl⟩
theorem j_pcheck {x z : Int32} {q : Option Nat} (h0 : ¬ x < 0) (h1 : x < z) : eM (l0, D0, cy0, ax0) 0 yJ3_checkIndex_8e157 cJ3_checkIndex_8e157 3 (some .int) (zrm 1 0 0) [.int x, .int z, va_rf q] L f (fun r u => u = (L, f)) := by
  rcases q with _ | q
  · refine eM.mk ⟨_, rfl⟩ pnJ3 (Nat.le_of_ble_eq_true rfl) (fun E hE _ hret => ?_)
    refine x_iload_n hE (z := 0) (i := 0) (x := x) (by decide +kernel) rfl (by simp [lv_args, Value.category]) ?_
    refine x_if_lt hE (off := 8) (tgt := 9) (by decide +kernel) rfl (fun h => absurd h h0) (fun _ => ?_)
    refine x_iload_n hE (z := 0) (i := 0) (x := x) (by decide +kernel) rfl (by simp [lv_args, Value.category]) ?_
    refine x_iload_n hE (z := 1) (i := 1) (x := z) (by decide +kernel) rfl (by simp [lv_args, Value.category]) ?_
    refine x_icmp_lt hE (off := 10) (tgt := 16) (by decide +kernel) rfl (fun _ => ?_) (fun h => absurd h1 h)
    refine x_iload_n hE (z := 0) (i := 0) (x := x) (by decide +kernel) rfl (by simp [lv_args, Value.category]) ?_
    exact hret 0 0 L f 17 _ _ (Nat.le_refl _) (Nat.le_refl _) (by decide +kernel) (fun ft hft => by cases hft; rfl) rfl
  · refine eM.mk ⟨_, rfl⟩ pnJ3 (Nat.le_of_ble_eq_true rfl) (fun E hE _ hret => ?_)
    refine x_iload_n hE (z := 0) (i := 0) (x := x) (by decide +kernel) rfl (by simp [lv_args, Value.category]) ?_
    refine x_if_lt hE (off := 8) (tgt := 9) (by decide +kernel) rfl (fun h => absurd h h0) (fun _ => ?_)
    refine x_iload_n hE (z := 0) (i := 0) (x := x) (by decide +kernel) rfl (by simp [lv_args, Value.category]) ?_
    refine x_iload_n hE (z := 1) (i := 1) (x := z) (by decide +kernel) rfl (by simp [lv_args, Value.category]) ?_
    refine x_icmp_lt hE (off := 10) (tgt := 16) (by decide +kernel) rfl (fun _ => ?_) (fun h => absurd h1 h)
    refine x_iload_n hE (z := 0) (i := 0) (x := x) (by decide +kernel) rfl (by simp [lv_args, Value.category]) ?_
    exact hret 0 0 L f 17 _ _ (Nat.le_refl _) (Nat.le_refl _) (by decide +kernel) (fun ft hft => by cases hft; rfl) rfl
theorem j_scheck {x z : Int32} (h0 : ¬ x < 0) (h1 : x < z) : eM (l0, D0, cy0, ax0) 3 yJ0_checkIndex_df160 cJ0_checkIndex_df160 2 none (zrm 2 0 0) [.int x, .int z] L f (fun r u => u = (L, f)) := by
  refine eM.mk rfl pnJ0 (Nat.le_of_ble_eq_true rfl) (fun E hE _ hret => ?_)
  refine x_iload_n hE (z := 0) (i := 0) (x := x) (by decide +kernel) rfl (by simp [lv_args, Value.category]) ?_
  refine x_iload_n hE (z := 1) (i := 1) (x := z) (by decide +kernel) rfl (by simp [lv_args, Value.category]) ?_
  refine x_formatter hE q744 (by decide +kernel) (fun t => ?_)
  refine w_jS hE (j_pcheck (q := t) h0 h1) q746 q747 q128 q748 ⟨by decide +kernel, by decide +kernel, pd_pcheck⟩ ⟨by decide, by decide⟩ ⟨Nat.le_refl _, Nat.le_refl _⟩ rfl (by simp [Value.category]) (by decide +kernel) (fun r L' f' ht hp => ?_)
  obtain ⟨v, rfl⟩ : ∃ v, r = some (.int v) := ht
  cases hp
  refine x_pop hE (va := .int v) (by decide +kernel) rfl ?_
  exact hret 0 0 L f 9 _ (Nat.le_refl _) (Nat.le_refl _) (by decide +kernel) rfl
theorem j_lchar {i : Nat} (hi : i < 2) {x : Int32} (hx : vp_in x (zlen.getD i 0)) : eM (l0, D0, cy0, ax0) 0 yJ1_charAt_3b067 cJ1_charAt_3b067 2 (some .char) (zrm 3 0 0) [.ref (ax0.2.1 i), .int x] L f (fun r u => (∃ v : Int32, r = some (.int (v &&& 255))) ∧ u = (L, f)) := by
  refine eM.mk ⟨_, rfl⟩ pnJ1 (Nat.le_of_ble_eq_true rfl) (fun E hE _ hret => ?_)
  have hz : zlen.getD i 0 < 1000 := by
    match i, hi with
    | 0, _ => decide
    | 1, _ => decide
    | i + 2, h => omega
  have hb := vp_in_iff.mp hx
  have e0 : (Int32.ofNat (zlen.getD i 0)).toInt = (zlen.getD i 0 : Int) := by
    show (Int32.ofInt ((zlen.getD i 0 : Nat) : Int)).toInt = _
    exact i32i (by omega) (by omega)
  refine x_iload_n hE (z := 1) (i := 1) (x := x) (by decide +kernel) rfl (by simp [lv_args, Value.category]) ?_
  refine x_aload_n hE (z := 0) (i := 0) (x := ax0.2.1 i) (by decide +kernel) rfl (by simp [lv_args, Value.category]) ?_
  refine x_slen hi hE (by decide +kernel) ?_
  refine w_jS hE (j_scheck (x := x) (z := Int32.ofNat (zlen.getD i 0)) (by rw [Int32.lt_iff_toInt_lt]; show ¬ x.toInt < 0; omega) (by rw [Int32.lt_iff_toInt_lt, e0]; exact hb.2)) q741 q742 q126 q743 ⟨by decide +kernel, by decide +kernel, pd_scheck⟩ ⟨by decide, by decide⟩ ⟨Nat.le_refl _, Nat.le_refl _⟩ rfl (by simp [Value.category]) (by decide +kernel) (fun r L' f' ht hp => ?_)
  obtain rfl : r = none := ht
  cases hp
  refine x_aload_n hE (z := 0) (i := 0) (x := ax0.2.1 i) (by decide +kernel) rfl (by simp [lv_args, Value.category]) ?_
  refine x_iload_n hE (z := 1) (i := 1) (x := x) (by decide +kernel) rfl (by simp [lv_args, Value.category]) ?_
  refine x_sbyte hi hE hx (by decide +kernel) ?_
  refine x_sipush hE (i := 255) (v := 255) (by decide +kernel) (by decide +kernel) ?_
  refine x_iand hE (by decide +kernel) ?_
  refine x_i2c hE (by decide +kernel) ?_
  rw [sc_c2]
  exact hret 0 0 L f 14 _ _ (Nat.le_refl _) (Nat.le_refl _) (by decide +kernel) (fun ft hft => by cases hft; exact sc_nar _) ⟨⟨_, rfl⟩, rfl⟩
theorem j_charAt {i : Nat} (hi : i < 2) {x : Int32} (hx : vp_in x (zlen.getD i 0)) : eM (l0, D0, cy0, ax0) 0 yJ0_charAt_5068e cJ0_charAt_5068e 2 (some .char) (zrm 4 0 0) [.ref (ax0.1 i), .int x] L f (fun r u => (∃ v : Int32, r = some (.int (v &&& 255))) ∧ u = (L, f)) := by
  refine eM.mk ⟨_, rfl⟩ pnJ0 (Nat.le_of_ble_eq_true rfl) (fun E hE _ hret => ?_)
  refine x_aload_n hE (z := 0) (i := 0) (x := ax0.1 i) (by decide +kernel) rfl (by simp [lv_args, Value.category]) ?_
  refine w_jV hi hE (j_isLatin1 hi) q734 q735 q736 q126 q737 ⟨by decide +kernel, by decide +kernel, pd_isLatin1⟩ ⟨by decide, by decide⟩ ⟨Nat.le_refl _, Nat.le_refl _⟩ rfl (by simp [Value.category]) (by decide +kernel) (fun r L' f' _ hp => ?_)
  obtain ⟨rfl, hu⟩ := hp
  cases hu
  refine x_if_eq hE (off := 12) (tgt := 16) (by decide +kernel) rfl (fun h => absurd h (by decide)) (fun _ => ?_)
  refine x_aload_n hE (z := 0) (i := 0) (x := ax0.1 i) (by decide +kernel) rfl (by simp [lv_args, Value.category]) ?_
  refine x_sval hi hE (by decide +kernel) ?_
  refine x_iload_n hE (z := 1) (i := 1) (x := x) (by decide +kernel) rfl (by simp [lv_args, Value.category]) ?_
  refine w_jS hE (j_lchar hi hx) q738 q739 q127 q740 ⟨by decide +kernel, by decide +kernel, pd_lchar⟩ ⟨by decide, by decide⟩ ⟨Nat.le_refl _, Nat.le_refl _⟩ rfl (by simp [Value.category]) (by decide +kernel) (fun r L' f' ht hp => ?_)
  obtain ⟨⟨v, rfl⟩, hu⟩ := hp
  cases hu
  exact hret 0 0 L f 15 _ _ (Nat.le_refl _) (Nat.le_refl _) (by decide +kernel) (fun ft hft => by cases hft; exact sc_nar _) ⟨⟨_, rfl⟩, rfl⟩
theorem j_canEncode {c : Int32} : eM (l0, D0, cy0, ax0) 0 yJ1_canEncode_9a6ad cJ1_canEncode_9a6ad 1 (some .boolean) (zrm 1 0 0) [.int c] L f (fun r u => u = (L, f)) := by
  refine eM.mk ⟨_, rfl⟩ pnJ1 (Nat.le_of_ble_eq_true rfl) (fun E hE _ hret => ?_)
  have no : eW E 0 0 L f 15 (lv_args 0 [.int c]) [] := by
    refine x_iconst hE (i := 0) (v := 0) (by decide +kernel) rfl ?_
    exact hret 0 0 L f 16 _ _ (Nat.le_refl _) (Nat.le_refl _) (by decide +kernel) (fun ft hft => by cases hft; rfl) rfl
  refine x_iload_n hE (z := 0) (i := 0) (x := c) (by decide +kernel) rfl (by simp [lv_args, Value.category]) ?_
  refine x_if_lt hE (off := 14) (tgt := 15) (by decide +kernel) rfl (fun _ => no) (fun _ => ?_)
  refine x_iload_n hE (z := 0) (i := 0) (x := c) (by decide +kernel) rfl (by simp [lv_args, Value.category]) ?_
  refine x_sipush hE (i := 255) (v := 255) (by decide +kernel) (by decide +kernel) ?_
  refine x_icmp_gt hE (off := 7) (tgt := 15) (by decide +kernel) rfl (fun _ => no) (fun _ => ?_)
  refine x_iconst hE (i := 1) (v := 1) (by decide +kernel) rfl ?_
  refine x_goto hE (off := 4) (tgt := 16) (by decide +kernel) rfl ?_
  exact hret 0 0 L f 16 _ _ (Nat.le_refl _) (Nat.le_refl _) (by decide +kernel) (fun ft hft => by cases hft; rfl) rfl
abbrev ixR (r : Option Value) : Prop := ∃ v : Int, r = some (.int (Int32.ofInt v)) ∧ -1 ≤ v ∧ v ≤ 10
theorem j_ixChar {c : Int32} : eM (l0, D0, cy0, ax0) 0 yJ1_indexOfChar_4cfef cJ1_indexOfChar_4cfef 6 (some .int) (zrm 1 0 0) [.ref (ax0.2.1 0), .int c, .int 0, .int 11] L f (fun r u => ixR r ∧ u = (L, f)) := by
  refine eM.mk ⟨_, rfl⟩ pnJ1 (Nat.le_of_ble_eq_true rfl) (fun E hE _ hret => ?_)
  have go : ∀ (N j : Nat) (cb : Int32), j + N = 11 → eW E 0 0 L f 7 [(0, .ref (ax0.2.1 0)), (3, .int 11), (4, .int cb), (5, .int (Int32.ofInt (j : Int)))] [] := by
    intro N
    induction N with
    | zero =>
      intro j cb hj
      have hj11 : j = 11 := by omega
      subst hj11
      refine x_iload hE (i := 5) (x := Int32.ofInt ((11 : Nat) : Int)) (by decide +kernel) (by simp) ?_
      refine x_iload_n hE (z := 3) (i := 3) (x := 11) (by decide +kernel) rfl (by simp) ?_
      refine x_icmp_ge hE (off := 21) (tgt := 31) (by decide +kernel) rfl (fun _ => ?_) (fun hn => absurd (by decide) hn)
      refine x_iconst hE (i := -1) (v := Int32.ofInt (-1)) (by decide +kernel) rfl ?_
      exact hret 0 0 L f 32 _ _ (Nat.le_refl _) (Nat.le_refl _) (by decide +kernel) (fun ft hft => by cases hft; rfl) ⟨⟨-1, rfl, by decide, by decide⟩, rfl⟩
    | succ N ih =>
      intro j cb hj
      have ej : (Int32.ofInt (j : Int)).toInt = j := i32i (by omega) (by omega)
      have e11 : (11 : Int32).toInt = 11 := by decide +kernel
      refine x_iload hE (i := 5) (x := Int32.ofInt (j : Int)) (by decide +kernel) (by simp) ?_
      refine x_iload_n hE (z := 3) (i := 3) (x := 11) (by decide +kernel) rfl (by simp) ?_
      refine x_icmp_ge hE (off := 21) (tgt := 31) (by decide +kernel) rfl (fun hq => ?_) (fun _ => ?_)
      · exfalso
        rw [Int32.le_iff_toInt_le, ej, e11] at hq
        omega
      · refine x_aload_n hE (z := 0) (i := 0) (x := ax0.2.1 0) (by decide +kernel) rfl (by simp) ?_
        refine x_iload hE (i := 5) (x := Int32.ofInt (j : Int)) (by decide +kernel) (by simp) ?_
        refine x_sbyte (i := 0) (by decide) hE (by rw [vp_in_iff, ej]; exact ⟨by omega, by show (j : Int) < 11; omega⟩) (by decide +kernel) ?_
        refine x_iload hE (i := 4) (x := cb) (by decide +kernel) (by simp) ?_
        refine x_icmp_ne hE (off := 6) (tgt := 25) (by decide +kernel) rfl (fun _ => ?_) (fun _ => ?_)
        · refine x_sub (lv' := [(5, .int (Int32.ofInt (j : Int))), (0, .ref (ax0.2.1 0)), (3, .int 11), (4, .int cb)]) (fun q hq => by
            simp only [List.mem_cons, List.not_mem_nil, or_false] at hq
            rcases hq with h | h | h | h <;> simp [h]) ?_
          refine x_iinc hE (i := 5) (z := 1) (x := Int32.ofInt (j : Int)) (v := Int32.ofInt ((j + 1 : Nat) : Int)) (by decide +kernel) 0 rfl ?_ (by decide) rfl ?_
          · apply Int32.toInt_inj.mp
            rw [Int32.toInt_add, ej, i32i (z := (1 : Int)) (by omega) (by omega), i32i (z := ((j + 1 : Nat) : Int)) (by omega) (by omega)]
            exact Int.bmod_eq_of_le (by omega) (by omega)
          · refine x_goto hE (off := -21) (tgt := 7) (by decide +kernel) rfl ?_
            refine x_sub (lv' := [(0, .ref (ax0.2.1 0)), (3, .int 11), (4, .int cb), (5, .int (Int32.ofInt ((j + 1 : Nat) : Int)))]) (fun q hq => by
              simp only [List.mem_cons, List.not_mem_nil, or_false] at hq
              rcases hq with h | h | h | h <;> simp [h, Value.category]) ?_
            exact ih (j + 1) cb (by omega)
        · refine x_iload hE (i := 5) (x := Int32.ofInt (j : Int)) (by decide +kernel) (by simp) ?_
          exact hret 0 0 L f 24 _ _ (Nat.le_refl _) (Nat.le_refl _) (by decide +kernel) (fun ft hft => by cases hft; rfl) ⟨⟨j, rfl, by omega, by omega⟩, rfl⟩
  refine x_iload_n hE (z := 1) (i := 1) (x := c) (by decide +kernel) rfl (by simp [lv_args, Value.category]) ?_
  refine x_i2b hE (by decide +kernel) ?_
  refine x_istore hE (i := 4) (by decide +kernel) (by decide) rfl ?_
  refine x_iload_n hE (z := 2) (i := 2) (x := Int32.ofInt ((0 : Nat) : Int)) (by decide +kernel) rfl (by simp [lv_args, Value.category]) ?_
  refine x_istore hE (i := 5) (by decide +kernel) (by decide) rfl ?_
  refine x_sub (lv' := [(0, .ref (ax0.2.1 0)), (3, .int 11), (4, .int c.toInt8.toInt32), (5, .int (Int32.ofInt ((0 : Nat) : Int)))]) (fun q hq => by
    simp only [List.mem_cons, List.not_mem_nil, or_false] at hq
    rcases hq with h | h | h | h <;> simp [h, Value.category, lv_args]) ?_
  exact go 11 0 _ rfl
theorem j_lix {c : Int32} : eM (l0, D0, cy0, ax0) 0 yJ1_indexOf_4cfef cJ1_indexOf_4cfef 4 (some .int) (zrm 2 0 0) [.ref (ax0.2.1 0), .int c, .int 0, .int 11] L f (fun r u => ixR r ∧ u = (L, f)) := by
  refine eM.mk ⟨_, rfl⟩ pnJ1 (Nat.le_of_ble_eq_true rfl) (fun E hE _ hret => ?_)
  refine x_iload_n hE (z := 1) (i := 1) (x := c) (by decide +kernel) rfl (by simp [lv_args, Value.category]) ?_
  refine w_jS hE (j_canEncode (c := c)) q799 q800 q127 q801 ⟨by decide +kernel, by decide +kernel, pd_canEncode⟩ ⟨by decide, by decide⟩ ⟨Nat.le_refl _, Nat.le_refl _⟩ rfl (by simp [Value.category]) (by decide +kernel) (fun r L' f' ht hp => ?_)
  obtain ⟨v, rfl⟩ : ∃ v, r = some (.int v) := ht
  cases hp
  refine x_if_ne hE (off := 5) (tgt := 9) (by decide +kernel) rfl (fun _ => ?_) (fun _ => ?_)
  · refine x_iload_n hE (z := 2) (i := 2) (x := 0) (by decide +kernel) rfl (by simp [lv_args, Value.category]) ?_
    refine x_iconst hE (i := 0) (v := 0) (by decide +kernel) rfl ?_
    refine x_max hE q802 q803 q130 q804 (by decide) (by decide) (Nat.le_refl _) (Nat.le_refl _) (by decide +kernel) ?_
    refine x_istore_n hE (z := 2) (i := 2) (by decide +kernel) rfl (by decide) rfl ?_
    refine x_iload_n hE (z := 3) (i := 3) (x := 11) (by decide +kernel) rfl (by simp [lv_args, Value.category]) ?_
    refine x_aload_n hE (z := 0) (i := 0) (x := ax0.2.1 0) (by decide +kernel) rfl (by simp [lv_args, Value.category]) ?_
    refine x_slen (i := 0) (by decide) hE (by decide +kernel) ?_
    refine x_min hE q805 q780 q130 q781 (by decide) (by decide) (Nat.le_refl _) (Nat.le_refl _) (by decide +kernel) ?_
    refine x_istore_n hE (z := 3) (i := 3) (by decide +kernel) rfl (by decide) rfl ?_
    refine x_sub (lv' := [(0, .ref (ax0.2.1 0)), (1, .int c), (2, .int 0), (3, .int 11)]) (fun q hq => by
      simp only [List.mem_cons, List.not_mem_nil, or_false] at hq
      rcases hq with h | h | h | h <;> (subst h; simp [Value.category, lv_args]; try decide)) ?_
    refine x_iload_n hE (z := 2) (i := 2) (x := 0) (by decide +kernel) rfl (by simp) ?_
    refine x_iload_n hE (z := 3) (i := 3) (x := 11) (by decide +kernel) rfl (by simp) ?_
    refine x_icmp_lt hE (off := 5) (tgt := 29) (by decide +kernel) rfl (fun _ => ?_) (fun h => absurd (by decide) h)
    refine x_aload_n hE (z := 0) (i := 0) (x := ax0.2.1 0) (by decide +kernel) rfl (by simp) ?_
    refine x_iload_n hE (z := 1) (i := 1) (x := c) (by decide +kernel) rfl (by simp) ?_
    refine x_iload_n hE (z := 2) (i := 2) (x := 0) (by decide +kernel) rfl (by simp) ?_
    refine x_iload_n hE (z := 3) (i := 3) (x := 11) (by decide +kernel) rfl (by simp) ?_
    refine w_jS hE (j_ixChar (c := c)) q806 q807 q127 q808 ⟨by decide +kernel, by decide +kernel, pd_ixChar⟩ ⟨by decide, by decide⟩ ⟨Nat.le_refl _, Nat.le_refl _⟩ rfl (by simp [Value.category]) (by decide +kernel) (fun r L' f' ht hp => ?_)
    obtain ⟨⟨v, rfl, hv⟩, hu⟩ := hp
    cases hu
    exact hret 0 0 L f 36 _ _ (Nat.le_refl _) (Nat.le_refl _) (by decide +kernel) (fun ft hft => by cases hft; rfl) ⟨⟨v, rfl, hv⟩, rfl⟩
  · refine x_iconst hE (i := -1) (v := Int32.ofInt (-1)) (by decide +kernel) rfl ?_
    exact hret 0 0 L f 8 _ _ (Nat.le_refl _) (Nat.le_refl _) (by decide +kernel) (fun ft hft => by cases hft; rfl) ⟨⟨-1, rfl, by decide, by decide⟩, rfl⟩
theorem j_ix2 {c : Int32} : eM (l0, D0, cy0, ax0) 0 yJ0_indexOf_7cf53 cJ0_indexOf_7cf53 3 (some .int) (zrm 3 0 0) [.ref (ax0.1 0), .int c, .int 0] L f (fun r u => ixR r ∧ u = (L, f)) := by
  refine eM.mk ⟨_, rfl⟩ pnJ0 (Nat.le_of_ble_eq_true rfl) (fun E hE _ hret => ?_)
  refine x_aload_n hE (z := 0) (i := 0) (x := ax0.1 0) (by decide +kernel) rfl (by simp [lv_args, Value.category]) ?_
  refine w_jV (i := 0) (by decide) hE (j_isLatin1 (by decide)) q734 q735 q736 q126 q737 ⟨by decide +kernel, by decide +kernel, pd_isLatin1⟩ ⟨by decide, by decide⟩ ⟨Nat.le_refl _, Nat.le_refl _⟩ rfl (by simp [Value.category]) (by decide +kernel) (fun r L' f' _ hp => ?_)
  obtain ⟨rfl, hu⟩ := hp
  cases hu
  refine x_if_eq hE (off := 19) (tgt := 23) (by decide +kernel) rfl (fun h => absurd h (by decide)) (fun _ => ?_)
  refine x_aload_n hE (z := 0) (i := 0) (x := ax0.1 0) (by decide +kernel) rfl (by simp [lv_args, Value.category]) ?_
  refine x_sval (i := 0) (by decide) hE (by decide +kernel) ?_
  refine x_iload_n hE (z := 1) (i := 1) (x := c) (by decide +kernel) rfl (by simp [lv_args, Value.category]) ?_
  refine x_iload_n hE (z := 2) (i := 2) (x := 0) (by decide +kernel) rfl (by simp [lv_args, Value.category]) ?_
  refine x_aload_n hE (z := 0) (i := 0) (x := ax0.1 0) (by decide +kernel) rfl (by simp [lv_args, Value.category]) ?_
  refine w_jV (i := 0) (by decide) hE (j_length (by decide)) q795 q721 q722 q126 q723 ⟨by decide +kernel, by decide +kernel, pd_length⟩ ⟨by decide, by decide⟩ ⟨Nat.le_refl _, Nat.le_refl _⟩ rfl (by simp [Value.category]) (by decide +kernel) (fun r L' f' _ hp => ?_)
  obtain ⟨rfl, hu⟩ := hp
  cases hu
  refine w_jS hE (j_lix (c := c)) q796 q797 q127 q798 ⟨by decide +kernel, by decide +kernel, pd_lix⟩ ⟨by decide, by decide⟩ ⟨Nat.le_refl _, Nat.le_refl _⟩ rfl (by simp [Value.category]) (by decide +kernel) (fun r L' f' ht hp => ?_)
  obtain ⟨⟨v, rfl, hv⟩, hu⟩ := hp
  cases hu
  refine x_goto hE (off := 16) (tgt := 36) (by decide +kernel) rfl ?_
  exact hret 0 0 L f 36 _ _ (Nat.le_refl _) (Nat.le_refl _) (by decide +kernel) (fun ft hft => by cases hft; rfl) ⟨⟨v, rfl, hv⟩, rfl⟩
theorem j_ix1 {c : Int32} : eM (l0, D0, cy0, ax0) 0 yJ0_indexOf_0f7a4 cJ0_indexOf_0f7a4 2 (some .int) (zrm 4 0 0) [.ref (ax0.1 0), .int c] L f (fun r u => ixR r ∧ u = (L, f)) := by
  refine eM.mk ⟨_, rfl⟩ pnJ0 (Nat.le_of_ble_eq_true rfl) (fun E hE _ hret => ?_)
  refine x_aload_n hE (z := 0) (i := 0) (x := ax0.1 0) (by decide +kernel) rfl (by simp [lv_args, Value.category]) ?_
  refine x_iload_n hE (z := 1) (i := 1) (x := c) (by decide +kernel) rfl (by simp [lv_args, Value.category]) ?_
  refine x_iconst hE (i := 0) (v := 0) (by decide +kernel) rfl ?_
  refine w_jV (i := 0) (by decide) hE (j_ix2 (c := c)) q791 q792 q793 q126 q794 ⟨by decide +kernel, by decide +kernel, pd_ix2⟩ ⟨by decide, by decide⟩ ⟨Nat.le_refl _, Nat.le_refl _⟩ rfl (by simp [Value.category]) (by decide +kernel) (fun r L' f' _ hp => ?_)
  obtain ⟨⟨v, rfl, hv⟩, hu⟩ := hp
  cases hu
  exact hret 0 0 L f 6 _ _ (Nat.le_refl _) (Nat.le_refl _) (by decide +kernel) (fun ft hft => by cases hft; rfl) ⟨⟨v, rfl, hv⟩, rfl⟩
end JD
