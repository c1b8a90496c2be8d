/-! The ghost's runs: pure, and one by one. -/
def g_run (own : String) (ax : zAx) (CE : g_E) (cc : ByteArray) : Nat → g_C → Option g_V → g_H → Prop
  | 0, c, r, h => g_rt cc c r h
  | n + 1, c, r, h => ∃ c', g_st own ax CE cc c c' ∧ g_run own ax CE cc n c' r h
theorem g_run_bd {ax : zAx} {CE : g_E} {y : MethodName} {cc : ByteArray} {as : List (Nat × Int)} {h : g_H} {r : Option g_V} {h' : g_H} (hx : g_bd ax CE y cc as h r h') : ∃ (ρ : Nat → Int) (n : Nat), (∀ q ∈ as, ρ q.1 = q.2) ∧ g_run y.cls ax CE cc n (0, ρ, [], h) r h' := by
  obtain ⟨ρ, c, h1, hre, hrt⟩ := hx
  have h2 := hre (fun c' => ∀ n, g_run y.cls ax CE cc n c' r h' → ∃ m, g_run y.cls ax CE cc m (0, ρ, [], h) r h') (fun n hn => ⟨n, hn⟩) (fun c1 c2 hp hs n hn => hp (n + 1) ⟨c2, hs, hn⟩)
  obtain ⟨m, hm⟩ := h2 0 hrt
  exact ⟨ρ, m, h1, hm⟩
theorem g_run_of {ax : zAx} {y : MethodName} {cc : ByteArray} {as : List (Nat × Int)} {h : g_H} {r : Option g_V} {h' : g_H} (hx : g_ex ax y cc as h r h') : ∃ (ρ : Nat → Int) (n : Nat), (∀ q ∈ as, ρ q.1 = q.2) ∧ g_run y.cls ax (g_ex ax) cc n (0, ρ, [], h) r h' := g_run_bd (g_ex_un hx)
/-- over all calls at once: what holds of a call if it holds of those within it -/
theorem g_ind {ax : zAx} {S : g_E} (hS : ∀ y cc as h r h', g_bd ax (fun y cc as h r h' => g_ex ax y cc as h r h' ∧ S y cc as h r h') y cc as h r h' → S y cc as h r h') {y : MethodName} {cc : ByteArray} {as : List (Nat × Int)} {h : g_H} {r : Option g_V} {h' : g_H} (hx : g_ex ax y cc as h r h') : S y cc as h r h' := (hx (fun y cc as h r h' => g_ex ax y cc as h r h' ∧ S y cc as h r h') (fun _ _ _ _ _ _ hb => ⟨g_ex_fold (g_bd_mono (fun _ _ _ _ _ _ h => h.1) hb), hS _ _ _ _ _ _ hb⟩)).2
/-- one plain instruction, worked out: fl the fields' numbers, kt and kl the constants -/
def g_x (fl : Nat → Option (Nat × Nat)) (kt kl : Nat → Option Int) (i : Instr) (len : Nat) (c : g_C) : Option g_C := match c with
  | (pc, ρ, st, L, g) => match i with
    | .iconst z => some (pc + len, ρ, (1, g_i z) :: st, L, g)
    | .bipush z => some (pc + len, ρ, (1, g_i8 z) :: st, L, g)
    | .sipush z => some (pc + len, ρ, (1, g_i16 z) :: st, L, g)
    | .lconst z => some (pc + len, ρ, (2, ((z : Nat) : Int)) :: st, L, g)
    | .ldc k => (kt k).map (fun v => (pc + len, ρ, (1, v) :: st, L, g))
    | .ldc_w k => (kt k).map (fun v => (pc + len, ρ, (1, v) :: st, L, g))
    | .ldc2_w k => (kl k).map (fun v => (pc + len, ρ, (2, v) :: st, L, g))
    | .aconst_null => some (pc + len, ρ, (1, -1) :: st, L, g)
    | .iload_n z => some (pc + len, ρ, (1, ρ (z : Nat)) :: st, L, g)
    | .aload_n z => some (pc + len, ρ, (1, ρ (z : Nat)) :: st, L, g)
    | .lload_n z => some (pc + len, ρ, (2, ρ (z : Nat)) :: st, L, g)
    | .iload z => some (pc + len, ρ, (1, ρ z) :: st, L, g)
    | .aload z => some (pc + len, ρ, (1, ρ z) :: st, L, g)
    | .lload z => some (pc + len, ρ, (2, ρ z) :: st, L, g)
    | .istore_n z => some (pc + len, va_up ρ (z : Nat) (g_t st 0), st.drop 1, L, g)
    | .astore_n z => some (pc + len, va_up ρ (z : Nat) (g_t st 0), st.drop 1, L, g)
    | .istore z => some (pc + len, va_up ρ z (g_t st 0), st.drop 1, L, g)
    | .astore z => some (pc + len, va_up ρ z (g_t st 0), st.drop 1, L, g)
    | .lstore z => some (pc + len, va_up ρ z (g_t st 0), st.drop 1, L, g)
    | .iinc k z => some (pc + len, va_up ρ k (g_i (ρ k + z)), st, L, g)
    | .iadd => some (pc + len, ρ, (1, g_i (g_t st 1 + g_t st 0)) :: st.drop 2, L, g)
    | .isub => some (pc + len, ρ, (1, g_i (g_t st 1 - g_t st 0)) :: st.drop 2, L, g)
    | .imul => some (pc + len, ρ, (1, g_i (g_t st 1 * g_t st 0)) :: st.drop 2, L, g)
    | .iand => some (pc + len, ρ, (1, (Int32.ofInt (g_t st 1) &&& Int32.ofInt (g_t st 0)).toInt) :: st.drop 2, L, g)
    | .ior => some (pc + len, ρ, (1, (Int32.ofInt (g_t st 1) ||| Int32.ofInt (g_t st 0)).toInt) :: st.drop 2, L, g)
    | .ixor => some (pc + len, ρ, (1, (Int32.ofInt (g_t st 1) ^^^ Int32.ofInt (g_t st 0)).toInt) :: st.drop 2, L, g)
    | .ishl => some (pc + len, ρ, (1, (Int32.ofInt (g_t st 1) <<< (Int32.ofInt (g_t st 0) &&& 31)).toInt) :: st.drop 2, L, g)
    | .ishr => some (pc + len, ρ, (1, (Int32.ofInt (g_t st 1) >>> (Int32.ofInt (g_t st 0) &&& 31)).toInt) :: st.drop 2, L, g)
    | .iushr => some (pc + len, ρ, (1, (((Int32.ofInt (g_t st 1)).toUInt32 >>> ((Int32.ofInt (g_t st 0)).toUInt32 &&& Int32.toUInt32 31)).toInt32).toInt) :: st.drop 2, L, g)
    | .idiv => some (pc + len, ρ, (1, g_i ((g_t st 1).tdiv (g_t st 0))) :: st.drop 2, L, g)
    | .irem => some (pc + len, ρ, (1, (g_t st 1).tmod (g_t st 0)) :: st.drop 2, L, g)
    | .ineg => some (pc + len, ρ, (1, g_i (-g_t st 0)) :: st.drop 1, L, g)
    | .ladd => some (pc + len, ρ, (2, g_l (g_t st 1 + g_t st 0)) :: st.drop 2, L, g)
    | .lsub => some (pc + len, ρ, (2, g_l (g_t st 1 - g_t st 0)) :: st.drop 2, L, g)
    | .lmul => some (pc + len, ρ, (2, g_l (g_t st 1 * g_t st 0)) :: st.drop 2, L, g)
    | .land => some (pc + len, ρ, (2, (Int64.ofInt (g_t st 1) &&& Int64.ofInt (g_t st 0)).toInt) :: st.drop 2, L, g)
    | .lor => some (pc + len, ρ, (2, (Int64.ofInt (g_t st 1) ||| Int64.ofInt (g_t st 0)).toInt) :: st.drop 2, L, g)
    | .ldiv => some (pc + len, ρ, (2, g_l ((g_t st 1).tdiv (g_t st 0))) :: st.drop 2, L, g)
    | .lrem => some (pc + len, ρ, (2, (g_t st 1).tmod (g_t st 0)) :: st.drop 2, L, g)
    | .lneg => some (pc + len, ρ, (2, g_l (-g_t st 0)) :: st.drop 1, L, g)
    | .lshl => some (pc + len, ρ, (2, (Int64.ofInt (g_t st 1) <<< ((Int32.ofInt (g_t st 0)).toInt64 &&& 63)).toInt) :: st.drop 2, L, g)
    | .lshr => some (pc + len, ρ, (2, (Int64.ofInt (g_t st 1) >>> ((Int32.ofInt (g_t st 0)).toInt64 &&& 63)).toInt) :: st.drop 2, L, g)
    | .i2l => some (pc + len, ρ, (2, g_t st 0) :: st.drop 1, L, g)
    | .l2i => some (pc + len, ρ, (1, g_i (g_t st 0)) :: st.drop 1, L, g)
    | .i2c => some (pc + len, ρ, (1, (((Int32.ofInt (g_t st 0)).toUInt32 % 65536).toInt32).toInt) :: st.drop 1, L, g)
    | .lcmp => some (pc + len, ρ, (1, (if g_t st 0 < g_t st 1 then 1 else if g_t st 1 = g_t st 0 then 0 else -1)) :: st.drop 2, L, g)
    | .dup => some (pc + len, ρ, st.getD 0 (1, 0) :: st, L, g)
    | .pop => some (pc + len, ρ, st.drop 1, L, g)
    | .dup_x1 => some (pc + len, ρ, st.getD 0 (1, 0) :: st.getD 1 (1, 0) :: st.getD 0 (1, 0) :: st.drop 2, L, g)
    | .dup_x2 => some (pc + len, ρ, st.getD 0 (1, 0) :: st.getD 1 (1, 0) :: st.getD 2 (1, 0) :: st.getD 0 (1, 0) :: st.drop 3, L, g)
    | .dup2 => some (pc + len, ρ, st.getD 0 (1, 0) :: st.getD 1 (1, 0) :: st.getD 0 (1, 0) :: st.getD 1 (1, 0) :: st.drop 2, L, g)
    | .ifCond .eq off => some (if g_t st 0 = 0 then ((pc : Int) + off).toNat else pc + len, ρ, st.drop 1, L, g)
    | .ifCond .ne off => some (if g_t st 0 = 0 then pc + len else ((pc : Int) + off).toNat, ρ, st.drop 1, L, g)
    | .ifCond .lt off => some (if g_t st 0 < 0 then ((pc : Int) + off).toNat else pc + len, ρ, st.drop 1, L, g)
    | .ifCond .ge off => some (if 0 ≤ g_t st 0 then ((pc : Int) + off).toNat else pc + len, ρ, st.drop 1, L, g)
    | .ifCond .gt off => some (if 0 < g_t st 0 then ((pc : Int) + off).toNat else pc + len, ρ, st.drop 1, L, g)
    | .ifCond .le off => some (if g_t st 0 ≤ 0 then ((pc : Int) + off).toNat else pc + len, ρ, st.drop 1, L, g)
    | .if_icmp .eq off => some (if g_t st 1 = g_t st 0 then ((pc : Int) + off).toNat else pc + len, ρ, st.drop 2, L, g)
    | .if_icmp .ne off => some (if g_t st 1 = g_t st 0 then pc + len else ((pc : Int) + off).toNat, ρ, st.drop 2, L, g)
    | .if_icmp .lt off => some (if g_t st 1 < g_t st 0 then ((pc : Int) + off).toNat else pc + len, ρ, st.drop 2, L, g)
    | .if_icmp .ge off => some (if g_t st 0 ≤ g_t st 1 then ((pc : Int) + off).toNat else pc + len, ρ, st.drop 2, L, g)
    | .if_icmp .gt off => some (if g_t st 0 < g_t st 1 then ((pc : Int) + off).toNat else pc + len, ρ, st.drop 2, L, g)
    | .if_icmp .le off => some (if g_t st 1 ≤ g_t st 0 then ((pc : Int) + off).toNat else pc + len, ρ, st.drop 2, L, g)
    | .goto off => some (((pc : Int) + off).toNat, ρ, st, L, g)
    | .ifnull off => some (if g_t st 0 = -1 then ((pc : Int) + off).toNat else pc + len, ρ, st.drop 1, L, g)
    | .ifnonnull off => some (if g_t st 0 = -1 then pc + len else ((pc : Int) + off).toNat, ρ, st.drop 1, L, g)
    | .tableswitch dflt lo hi offs => some (if g_t st 0 < lo ∨ hi < g_t st 0 then ((pc : Int) + dflt).toNat else ((pc : Int) + offs.getD (g_t st 0 - lo).toNat 0).toNat, ρ, st.drop 1, L, g)
    | .getfield idx => (fl idx).map (fun q => (pc + len, ρ, (q.2, g (g_t st 0).toNat q.1) :: st.drop 1, L, g))
    | .putfield idx => (fl idx).map (fun q => (pc + len, ρ, st.drop 2, L, g_up g (g_t st 1).toNat q.1 (g_t st 0)))
    | .iaload => some (pc + len, ρ, (1, g (g_t st 1).toNat (g_t st 0).toNat) :: st.drop 2, L, g)
    | .baload => some (pc + len, ρ, (1, g (g_t st 1).toNat (g_t st 0).toNat) :: st.drop 2, L, g)
    | .aaload => some (pc + len, ρ, (1, g (g_t st 1).toNat (g_t st 0).toNat) :: st.drop 2, L, g)
    | .laload => some (pc + len, ρ, (2, g (g_t st 1).toNat (g_t st 0).toNat) :: st.drop 2, L, g)
    | .iastore => some (pc + len, ρ, st.drop 3, L, g_up g (g_t st 2).toNat (g_t st 1).toNat (g_t st 0))
    | .aastore => some (pc + len, ρ, st.drop 3, L, g_up g (g_t st 2).toNat (g_t st 1).toNat (g_t st 0))
    | .lastore => some (pc + len, ρ, st.drop 3, L, g_up g (g_t st 2).toNat (g_t st 1).toNat (g_t st 0))
    | .bastore => some (pc + len, ρ, st.drop 3, L, g_up g (g_t st 2).toNat (g_t st 1).toNat (vp_nar .boolean (Int32.ofInt (g_t st 0))).toInt)
    | _ => none
/-- the tables tell what the links say -/
def g_tab (own : String) (fl : Nat → Option (Nat × Nat)) (kt kl : Nat → Option Int) : Prop := (∀ idx q, fl idx = some q → ∀ j cat, g_fr own idx j cat → (j, cat) = q) ∧ (∀ k v, kt k = some v → (¬ (own = "OwnRain$Tape" ∧ (k = 61 ∨ k = 68))) ∧ ∀ x, Cond.constant own k x ∈ gtbl → x.toInt = v) ∧ (∀ k v, kl k = some v → ∀ x, Cond.constantLong own k x ∈ gtbl → x.toInt = v)
theorem g_x_ok {own : String} {ax : zAx} {CE : g_E} {fl : Nat → Option (Nat × Nat)} {kt kl : Nat → Option Int} (hT : g_tab own fl kt kl) {i : Instr} {len : Nat} {c c' c2 : g_C} (h : g_in own ax CE i len c c') (hx : g_x fl kt kl i len c = some c2) : c' = c2 := by
  obtain ⟨h1, h2, h3⟩ := hT
  obtain ⟨pc, ρ, st, L, g⟩ := c
  cases i <;> first
    | (cases hx; done)
    | (exact (h : c' = _).trans (Option.some.inj hx))
    | skip
  case ifCond k off => cases k <;> exact (h : c' = _).trans (Option.some.inj hx)
  case if_icmp k off => cases k <;> exact (h : c' = _).trans (Option.some.inj hx)
  case ldc k =>
    cases hk : kt k with
    | none => simp [g_x, hk] at hx
    | some v =>
      simp only [g_x, hk, Option.map_some, Option.some.injEq] at hx
      obtain ⟨n1, n2⟩ := h2 k v hk
      rcases h with ⟨x, hx1, hc⟩ | ⟨ho, j, hj, hc⟩
      · rw [hc, ← hx, n2 x hx1]
      · exact absurd ⟨ho, hj.imp (fun h => h.1) (fun h => h.1)⟩ n1
  case ldc_w k =>
    cases hk : kt k with
    | none => simp [g_x, hk] at hx
    | some v =>
      simp only [g_x, hk, Option.map_some, Option.some.injEq] at hx
      obtain ⟨x, hx1, hc⟩ := h
      rw [hc, ← hx, (h2 k v hk).2 x hx1]
  case ldc2_w k =>
    cases hk : kl k with
    | none => simp [g_x, hk] at hx
    | some v =>
      simp only [g_x, hk, Option.map_some, Option.some.injEq] at hx
      obtain ⟨x, hx1, hc⟩ := h
      rw [hc, ← hx, h3 k v hk x hx1]
  case getfield idx =>
    cases hk : fl idx with
    | none => simp [g_x, hk] at hx
    | some q =>
      simp only [g_x, hk, Option.map_some, Option.some.injEq] at hx
      obtain ⟨j, cat, hf, hc⟩ := h
      have e := h1 idx q hk j cat hf
      rw [hc, ← hx, ← e]
  case putfield idx =>
    cases hk : fl idx with
    | none => simp [g_x, hk] at hx
    | some q =>
      simp only [g_x, hk, Option.map_some, Option.some.injEq] at hx
      obtain ⟨j, cat, hf, hc⟩ := h
      have e := h1 idx q hk j cat hf
      rw [hc, ← hx, ← e]
/-- some plain instructions, one behind the other -/
def g_blk (ins : Nat → Option (Instr × Nat)) (fl : Nat → Option (Nat × Nat)) (kt kl : Nat → Option Int) : Nat → g_C → Option g_C
  | 0, c => some c
  | k + 1, c => match ins c.1 with
    | some q => (match g_x fl kt kl q.1 q.2 c with
      | some c' => g_blk ins fl kt kl k c'
      | none => none)
    | none => none
/-- plain ones aren't the end -/
theorem g_x_end {fl : Nat → Option (Nat × Nat)} {kt kl : Nat → Option Int} {i : Instr} {len : Nat} {c c2 : g_C} (hx : g_x fl kt kl i len c = some c2) : i ≠ .return_ ∧ i ≠ .ireturn ∧ i ≠ .lreturn ∧ i ≠ .areturn := by
  obtain ⟨pc, ρ, st, L, g⟩ := c
  refine ⟨fun e => ?_, fun e => ?_, fun e => ?_, fun e => ?_⟩ <;> (subst e; cases hx)
theorem g_rt_not {cc : ByteArray} {c : g_C} {r : Option g_V} {h : g_H} {i : Instr} {len : Nat} (hd : decode cc c.1 = .ok (i, len)) (hi : i ≠ .return_ ∧ i ≠ .ireturn ∧ i ≠ .lreturn ∧ i ≠ .areturn) (hr : g_rt cc c r h) : False := by
  obtain ⟨hr, -⟩ := hr
  rcases hr with ⟨⟨l, h1⟩, -⟩ | ⟨⟨l, h1⟩, -⟩
  · rw [hd] at h1
    cases h1
    exact hi.1 rfl
  · rcases h1 with h1 | h1 | h1 <;> rw [hd] at h1 <;> cases h1
    · exact hi.2.1 rfl
    · exact hi.2.2.1 rfl
    · exact hi.2.2.2 rfl
theorem g_blk_ok {own : String} {ax : zAx} {CE : g_E} {cc : ByteArray} {ins : Nat → Option (Instr × Nat)} {fl : Nat → Option (Nat × Nat)} {kt kl : Nat → Option Int} (ho : g_triv own = false) (hI : ∀ pc q, ins pc = some q → decode cc pc = .ok q) (hT : g_tab own fl kt kl) {r : Option g_V} {h : g_H} : ∀ (k n : Nat) {c c2 : g_C}, g_run own ax CE cc n c r h → g_blk ins fl kt kl k c = some c2 → ∃ n', n = n' + k ∧ g_run own ax CE cc n' c2 r h := by
  intro k
  induction k with
  | zero => intro n c c2 hr hb; cases hb; exact ⟨n, rfl, hr⟩
  | succ k ih =>
    intro n c c2 hr hb
    unfold g_blk at hb
    split at hb
    · rename_i q hq
      split at hb
      · rename_i c1 hx
        have hd := hI _ _ hq
        cases n with
        | zero => exact (g_rt_not (i := q.1) (len := q.2) hd (g_x_end hx) hr).elim
        | succ n =>
          obtain ⟨c', hs, hr'⟩ := hr
          rcases hs with hs | ⟨i, len, hd2, hs⟩
          · rw [ho] at hs
            cases hs
          · rw [hd] at hd2
            obtain ⟨rfl, rfl⟩ := Prod.mk.inj (Except.ok.inj hd2)
            rw [g_x_ok hT hs hx] at hr'
            obtain ⟨n', e, h2⟩ := ih n hr' hb
            exact ⟨n', by omega, h2⟩
      · cases hb
    · cases hb
