/-! X1_misses (('k', 62), ('n',)) -/
def u50 : List (Nat × TP × EX × Nat × Nat) := [(4, ([(0, (2, 0, (0, []))), (1, (0, 0, (0, [(1, 0)]))), (2, (0, 0, (0, [(1, 1)]))), (3, (0, 0, (0, [(1, 2)])))], [], ([(0, 10), (0, 12), (0, 12)], [(0, [(1, 2), ((-1), 1)])], [], [62], [], [], []), [(0, 2, (0, [])), (0, 3, (0, []))], []), (12, [((-1), 2)]), 0, 0)]
theorem k50 : chk (mkD iX1_misses fX1 lX1 kX1 kkX1 50 [] c50 false 4 u50) 4000 = true := by decide +kernel
theorem m50 {X0 : zC0} (H : ∀ j, j < 50 → CMj X0 j) : CMj X0 50 := by
  obtain ⟨l0, D0, cy0, ax0⟩ := X0
  intro mi c hc
  have e : conAt 50 = some (209, c50) := rfl
  rw [e] at hc
  obtain ⟨rfl, rfl⟩ := Prod.mk.inj (Option.some.inj hc)
  have e2 : mt 209 = (yX1_misses, cX1_misses, 4, (some .int)) := rfl
  rw [e2]
  have h := chk_ok (l0 := l0) (D0 := D0) (cy0 := cy0) (ax0 := ax0) (y := yX1_misses) (cc := cX1_misses) (ret := (some .int)) k50 (mk_ok jX1_misses fX1_ok lX1_ok kX1_ok kkX1_ok H) ⟨_, rfl⟩ pnX1 nrI (fun h => by cases h) rfl
  exact h

/-! X1_falseAlarms (('k', 62), ('n',)) -/
def u51 : List (Nat × TP × EX × Nat × Nat) := [(4, ([(0, (2, 0, (0, []))), (1, (0, 0, (0, [(1, 0)]))), (2, (0, 0, (0, [(1, 1)]))), (3, (0, 0, (0, [(1, 2)])))], [], ([(0, 10), (0, 12), (0, 12)], [(0, [(1, 2), ((-1), 1)])], [], [62], [], [], []), [(0, 2, (0, [])), (0, 3, (0, []))], []), (12, [((-1), 2)]), 0, 0)]
theorem k51 : chk (mkD iX1_falseAlarms fX1 lX1 kX1 kkX1 51 [] c51 false 4 u51) 4000 = true := by decide +kernel
theorem m51 {X0 : zC0} (H : ∀ j, j < 51 → CMj X0 j) : CMj X0 51 := by
  obtain ⟨l0, D0, cy0, ax0⟩ := X0
  intro mi c hc
  have e : conAt 51 = some (208, c51) := rfl
  rw [e] at hc
  obtain ⟨rfl, rfl⟩ := Prod.mk.inj (Option.some.inj hc)
  have e2 : mt 208 = (yX1_falseAlarms, cX1_falseAlarms, 4, (some .int)) := rfl
  rw [e2]
  have h := chk_ok (l0 := l0) (D0 := D0) (cy0 := cy0) (ax0 := ax0) (y := yX1_falseAlarms) (cc := cX1_falseAlarms) (ret := (some .int)) k51 (mk_ok jX1_falseAlarms fX1_ok lX1_ok kX1_ok kkX1_ok H) ⟨_, rfl⟩ pnX1 nrI (fun h => by cases h) rfl
  exact h

/-! X11_bound (('k', 197),) -/
def u52 : List (Nat × TP × EX × Nat × Nat) := [(12, ([(0, (2, 0, (0, []))), (1, (2, 1, (0, []))), (2, (0, 0, (0, [(1, 0)]))), (3, (0, 0, (0, [(1, 1)])))], [], ([(0, 10), (1, 11)], [(0, [(1, 1), ((-1), 0)]), ((-1), [(1, 1), ((-1), 0)])], [], [197, 62], [], [], []), [(0, 2, (0, [])), (0, 3, (0, []))], [(0, 1)]), (11, [((-1), 1)]), 0, 0)]
theorem k52 : chk (mkD iX11_bound fX11 lX11 kX11 kkX11 52 [(20, [50]), (25, [51]), (31, [50]), (36, [51])] c52 false 4 u52) 4000 = true := by decide +kernel
theorem m52 {X0 : zC0} (H : ∀ j, j < 52 → CMj X0 j) : CMj X0 52 := by
  obtain ⟨l0, D0, cy0, ax0⟩ := X0
  intro mi c hc
  have e : conAt 52 = some (23, c52) := rfl
  rw [e] at hc
  obtain ⟨rfl, rfl⟩ := Prod.mk.inj (Option.some.inj hc)
  have e2 : mt 23 = (yX11_bound, cX11_bound, 4, (some .int)) := rfl
  rw [e2]
  have h := chk_ok (l0 := l0) (D0 := D0) (cy0 := cy0) (ax0 := ax0) (y := yX11_bound) (cc := cX11_bound) (ret := (some .int)) k52 (mk_ok jX11_bound fX11_ok lX11_ok kX11_ok kkX11_ok H) ⟨_, rfl⟩ pnX11 nrI (fun h => by cases h) rfl
  exact h

/-! X11_bring (('n',), ('n',), ('n',)) -/
def u53 : List (Nat × TP × EX × Nat × Nat) := []
theorem k53 : chk (mkD iX11_bring fX11 lX11 kX11 kkX11 53 [] c53 false 3 u53) 4000 = true := by decide +kernel
theorem m53 {X0 : zC0} (H : ∀ j, j < 53 → CMj X0 j) : CMj X0 53 := by
  obtain ⟨l0, D0, cy0, ax0⟩ := X0
  intro mi c hc
  have e : conAt 53 = some (24, c53) := rfl
  rw [e] at hc
  obtain ⟨rfl, rfl⟩ := Prod.mk.inj (Option.some.inj hc)
  have e2 : mt 24 = (yX11_bring, cX11_bring, 3, (some .int)) := rfl
  rw [e2]
  have h := chk_ok (l0 := l0) (D0 := D0) (cy0 := cy0) (ax0 := ax0) (y := yX11_bring) (cc := cX11_bring) (ret := (some .int)) k53 (mk_ok jX11_bring fX11_ok lX11_ok kX11_ok kkX11_ok H) ⟨_, rfl⟩ pnX11 nrI (fun h => by cases h) rfl
  exact h

/-! X4_hasText (('k', 40), ('n',)) -/
def u54 : List (Nat × TP × EX × Nat × Nat) := []
theorem k54 : chk (mkD iX4_hasText fX4 lX4 kX4 kkX4 54 [] c54 true 2 u54) 4000 = true := by decide +kernel
theorem m54 {X0 : zC0} (H : ∀ j, j < 54 → CMj X0 j) : CMj X0 54 := by
  obtain ⟨l0, D0, cy0, ax0⟩ := X0
  intro mi c hc
  have e : conAt 54 = some (247, c54) := rfl
  rw [e] at hc
  obtain ⟨rfl, rfl⟩ := Prod.mk.inj (Option.some.inj hc)
  have e2 : mt 247 = (yX4_hasText, cX4_hasText, 2, (some .boolean)) := rfl
  rw [e2]
  have h := chk_ok (l0 := l0) (D0 := D0) (cy0 := cy0) (ax0 := ax0) (y := yX4_hasText) (cc := cX4_hasText) (ret := (some .boolean)) k54 (mk_ok jX4_hasText fX4_ok lX4_ok kX4_ok kkX4_ok H) ⟨_, rfl⟩ pnX4 (fun h => by cases h) (fun _ => rfl) rfl
  exact h

/-! X11_by (('k', 197), ('n',)) -/
def u55 : List (Nat × TP × EX × Nat × Nat) := []
theorem k55 : chk (mkD iX11_by fX11 lX11 kX11 kkX11 55 [(10, [54])] c55 true 2 u55) 4000 = true := by decide +kernel
theorem m55 {X0 : zC0} (H : ∀ j, j < 55 → CMj X0 j) : CMj X0 55 := by
  obtain ⟨l0, D0, cy0, ax0⟩ := X0
  intro mi c hc
  have e : conAt 55 = some (25, c55) := rfl
  rw [e] at hc
  obtain ⟨rfl, rfl⟩ := Prod.mk.inj (Option.some.inj hc)
  have e2 : mt 25 = (yX11_by, cX11_by, 2, (some .boolean)) := rfl
  rw [e2]
  have h := chk_ok (l0 := l0) (D0 := D0) (cy0 := cy0) (ax0 := ax0) (y := yX11_by) (cc := cX11_by) (ret := (some .boolean)) k55 (mk_ok jX11_by fX11_ok lX11_ok kX11_ok kkX11_ok H) ⟨_, rfl⟩ pnX11 (fun h => by cases h) (fun _ => rfl) rfl
  exact h

/-! X11_isWithin (('n',), ('n',), ('n',)) -/
def u56 : List (Nat × TP × EX × Nat × Nat) := []
theorem k56 : chk (mkD iX11_isWithin fX11 lX11 kX11 kkX11 56 [] c56 true 3 u56) 4000 = true := by decide +kernel
theorem m56 {X0 : zC0} (H : ∀ j, j < 56 → CMj X0 j) : CMj X0 56 := by
  obtain ⟨l0, D0, cy0, ax0⟩ := X0
  intro mi c hc
  have e : conAt 56 = some (46, c56) := rfl
  rw [e] at hc
  obtain ⟨rfl, rfl⟩ := Prod.mk.inj (Option.some.inj hc)
  have e2 : mt 46 = (yX11_isWithin, cX11_isWithin, 3, (some .boolean)) := rfl
  rw [e2]
  have h := chk_ok (l0 := l0) (D0 := D0) (cy0 := cy0) (ax0 := ax0) (y := yX11_isWithin) (cc := cX11_isWithin) (ret := (some .boolean)) k56 (mk_ok jX11_isWithin fX11_ok lX11_ok kX11_ok kkX11_ok H) ⟨_, rfl⟩ pnX11 (fun h => by cases h) (fun _ => rfl) rfl
  exact h

/-! X5_keep (('k', 59), ('k', 50), ('n',)) -/
def u57 : List (Nat × TP × EX × Nat × Nat) := []
theorem k57 : chk (mkD iX5_keep fX5 lX5 kX5 kkX5 57 [(10, [10])] c57 false 3 u57) 4000 = true := by decide +kernel
theorem m57 {X0 : zC0} (H : ∀ j, j < 57 → CMj X0 j) : CMj X0 57 := by
  obtain ⟨l0, D0, cy0, ax0⟩ := X0
  intro mi c hc
  have e : conAt 57 = some (252, c57) := rfl
  rw [e] at hc
  obtain ⟨rfl, rfl⟩ := Prod.mk.inj (Option.some.inj hc)
  have e2 : mt 252 = (yX5_keep, cX5_keep, 3, none) := rfl
  rw [e2]
  have h := chk_ok (l0 := l0) (D0 := D0) (cy0 := cy0) (ax0 := ax0) (y := yX5_keep) (cc := cX5_keep) (ret := none) k57 (mk_ok jX5_keep fX5_ok lX5_ok kX5_ok kkX5_ok H) rfl pnX5 nrV (fun h => by cases h) rfl
  exact h

/-! X4_keepStep (('k', 40),) -/
def u58 : List (Nat × TP × EX × Nat × Nat) := []
theorem k58 : chk (mkD iX4_keepStep fX4 lX4 kX4 kkX4 58 [(15, [57])] c58 false 1 u58) 4000 = true := by decide +kernel
theorem m58 {X0 : zC0} (H : ∀ j, j < 58 → CMj X0 j) : CMj X0 58 := by
  obtain ⟨l0, D0, cy0, ax0⟩ := X0
  intro mi c hc
  have e : conAt 58 = some (248, c58) := rfl
  rw [e] at hc
  obtain ⟨rfl, rfl⟩ := Prod.mk.inj (Option.some.inj hc)
  have e2 : mt 248 = (yX4_keepStep, cX4_keepStep, 1, none) := rfl
  rw [e2]
  have h := chk_ok (l0 := l0) (D0 := D0) (cy0 := cy0) (ax0 := ax0) (y := yX4_keepStep) (cc := cX4_keepStep) (ret := none) k58 (mk_ok jX4_keepStep fX4_ok lX4_ok kX4_ok kkX4_ok H) rfl pnX4 nrV (fun h => by cases h) rfl
  exact h

/-! X4_rules (('k', 40),) -/
def u59 : List (Nat × TP × EX × Nat × Nat) := []
theorem k59 : chk (mkD iX4_rules fX4 lX4 kX4 kkX4 59 [(5, [54])] c59 false 1 u59) 4000 = true := by decide +kernel
theorem m59 {X0 : zC0} (H : ∀ j, j < 59 → CMj X0 j) : CMj X0 59 := by
  obtain ⟨l0, D0, cy0, ax0⟩ := X0
  intro mi c hc
  have e : conAt 59 = some (249, c59) := rfl
  rw [e] at hc
  obtain ⟨rfl, rfl⟩ := Prod.mk.inj (Option.some.inj hc)
  have e2 : mt 249 = (yX4_rules, cX4_rules, 1, (some (.object "OwnRain$Text"))) := rfl
  rw [e2]
  have h := chk_ok (l0 := l0) (D0 := D0) (cy0 := cy0) (ax0 := ax0) (y := yX4_rules) (cc := cX4_rules) (ret := (some (.object "OwnRain$Text"))) k59 (mk_ok jX4_rules fX4_ok lX4_ok kX4_ok kkX4_ok H) ⟨_, rfl, Or.inl ⟨_, rfl⟩⟩ pnX4 nrO (fun h => by cases h) rfl
  exact h

/-! X7_hasLaw (('k', 20), ('n',)) -/
def u60 : List (Nat × TP × EX × Nat × Nat) := []
theorem k60 : chk (mkD iX7_hasLaw fX7 lX7 kX7 kkX7 60 [] c60 true 2 u60) 4000 = true := by decide +kernel
theorem m60 {X0 : zC0} (H : ∀ j, j < 60 → CMj X0 j) : CMj X0 60 := by
  obtain ⟨l0, D0, cy0, ax0⟩ := X0
  intro mi c hc
  have e : conAt 60 = some (263, c60) := rfl
  rw [e] at hc
  obtain ⟨rfl, rfl⟩ := Prod.mk.inj (Option.some.inj hc)
  have e2 : mt 263 = (yX7_hasLaw, cX7_hasLaw, 2, (some .boolean)) := rfl
  rw [e2]
  have h := chk_ok (l0 := l0) (D0 := D0) (cy0 := cy0) (ax0 := ax0) (y := yX7_hasLaw) (cc := cX7_hasLaw) (ret := (some .boolean)) k60 (mk_ok jX7_hasLaw fX7_ok lX7_ok kX7_ok kkX7_ok H) ⟨_, rfl⟩ pnX7 (fun h => by cases h) (fun _ => rfl) rfl
  exact h

/-! X9_named (('k', 126), ('n',), ('n',), ('m', 50)) -/
def u61 : List (Nat × TP × EX × Nat × Nat) := []
theorem k61 : chk (mkD iX9_named fX9 lX9 kX9 kkX9 61 [] c61 false 4 u61) 4000 = true := by decide +kernel
theorem m61 {X0 : zC0} (H : ∀ j, j < 61 → CMj X0 j) : CMj X0 61 := by
  obtain ⟨l0, D0, cy0, ax0⟩ := X0
  intro mi c hc
  have e : conAt 61 = some (275, c61) := rfl
  rw [e] at hc
  obtain ⟨rfl, rfl⟩ := Prod.mk.inj (Option.some.inj hc)
  have e2 : mt 275 = (yX9_named, cX9_named, 4, (some .int)) := rfl
  rw [e2]
  have h := chk_ok (l0 := l0) (D0 := D0) (cy0 := cy0) (ax0 := ax0) (y := yX9_named) (cc := cX9_named) (ret := (some .int)) k61 (mk_ok jX9_named fX9_ok lX9_ok kX9_ok kkX9_ok H) ⟨_, rfl⟩ pnX9 nrI (fun h => by cases h) rfl
  exact h

/-! X9_joined (('n',), ('n',), ('n',)) -/
def u62 : List (Nat × TP × EX × Nat × Nat) := []
theorem k62 : chk (mkD iX9_joined fX9 lX9 kX9 kkX9 62 [] c62 false 5 u62) 4000 = true := by decide +kernel
theorem m62 {X0 : zC0} (H : ∀ j, j < 62 → CMj X0 j) : CMj X0 62 := by
  obtain ⟨l0, D0, cy0, ax0⟩ := X0
  intro mi c hc
  have e : conAt 62 = some (272, c62) := rfl
  rw [e] at hc
  obtain ⟨rfl, rfl⟩ := Prod.mk.inj (Option.some.inj hc)
  have e2 : mt 272 = (yX9_joined, cX9_joined, 5, (some .long)) := rfl
  rw [e2]
  have h := chk_ok (l0 := l0) (D0 := D0) (cy0 := cy0) (ax0 := ax0) (y := yX9_joined) (cc := cX9_joined) (ret := (some .long)) k62 (mk_ok jX9_joined fX9_ok lX9_ok kX9_ok kkX9_ok H) rfl pnX9 nrJ (fun h => by cases h) rfl
  exact h

/-! X9_bounded (('n',),) -/
def u63 : List (Nat × TP × EX × Nat × Nat) := []
theorem k63 : chk (mkD iX9_bounded fX9 lX9 kX9 kkX9 63 [] c63 false 2 u63) 4000 = true := by decide +kernel
theorem m63 {X0 : zC0} (H : ∀ j, j < 63 → CMj X0 j) : CMj X0 63 := by
  obtain ⟨l0, D0, cy0, ax0⟩ := X0
  intro mi c hc
  have e : conAt 63 = some (270, c63) := rfl
  rw [e] at hc
  obtain ⟨rfl, rfl⟩ := Prod.mk.inj (Option.some.inj hc)
  have e2 : mt 270 = (yX9_bounded, cX9_bounded, 2, (some .int)) := rfl
  rw [e2]
  have h := chk_ok (l0 := l0) (D0 := D0) (cy0 := cy0) (ax0 := ax0) (y := yX9_bounded) (cc := cX9_bounded) (ret := (some .int)) k63 (mk_ok jX9_bounded fX9_ok lX9_ok kX9_ok kkX9_ok H) ⟨_, rfl⟩ pnX9 nrI (fun h => by cases h) rfl
  exact h

/-! X9_run (('k', 126), ('k', 20), ('n',), ('n',), ('n',), ('m', 50)) -/
def u64 : List (Nat × TP × EX × Nat × Nat) := [(6, ([(0, (2, 0, (0, []))), (1, (2, 1, (0, []))), (2, (0, 0, (0, [(1, 0)]))), (3, (0, 0, (0, [(1, 1)]))), (4, (0, 0, (0, [(1, 2)]))), (5, (0, 0, (0, [(1, 3)]))), (6, (0, 0, (0, [(1, 4)])))], [], ([(0, 300), (0, 300), ((-1), 7), (0, 96), (0, 300)], [(0, [(1, 1), ((-1), 3)]), (0, [(1, 4), ((-1), 0)]), (0, [(1, 4), ((-1), 3)]), (0, [((-1), 3), (1, 4), ((-1), 0)])], [], [126, 20], [((126, (7, [])), (50, []))], [], []), [(0, 5, (0, [])), (0, 6, (0, []))], []), (300, [((-1), 4)]), 0, 0)]
theorem k64 : chk (mkDm iX9_run fX9 lX9 kX9 kkX9 64 [(80, [61]), (236, [62]), (239, [63])] c64 false 9 mac_X9_run u64) 4000 = true := by decide +kernel
theorem m64 {X0 : zC0} (H : ∀ j, j < 64 → CMj X0 j) : CMj X0 64 := by
  obtain ⟨l0, D0, cy0, ax0⟩ := X0
  intro mi c hc
  have e : conAt 64 = some (278, c64) := rfl
  rw [e] at hc
  obtain ⟨rfl, rfl⟩ := Prod.mk.inj (Option.some.inj hc)
  have e2 : mt 278 = (yX9_run, cX9_run, 9, (some .int)) := rfl
  rw [e2]
  have h := chkM_ok (l0 := l0) (D0 := D0) (cy0 := cy0) (ax0 := ax0) (y := yX9_run) (cc := cX9_run) (ret := (some .int)) k64 (mkm_ok jX9_run fX9_ok lX9_ok kX9_ok kkX9_ok H) ⟨_, rfl⟩ pnX9 nrI (fun h => by cases h) (fun E X hE h1 h2 => mac_X9_run_ok hE h1 (by decide))
  exact h

/-! X9_law (('k', 126), ('n',), ('n',), ('k', 50), ('n',), ('n',)) -/
def u65 : List (Nat × TP × EX × Nat × Nat) := [(47, ([(0, (2, 0, (0, []))), (1, (0, 0, (0, [(1, 0)]))), (2, (0, 0, (0, [(1, 1)]))), (3, (2, 1, (0, []))), (4, (0, 0, (0, [(1, 2)]))), (5, (0, 0, (0, [(1, 3)]))), (6, (2, 2, (0, []))), (7, (0, 0, (0, [(1, 4)])))], [], ([(0, 4), ((-2147483648), 2147483647), (0, 5), ((-1), 7), ((-1), 299), (0, 3), (1, 4)], [((-1), [((-1), 5), (1, 6)])], [], [126, 50, 20], [((126, (8, [])), (0, [(1, 2)])), ((126, (7, [])), (50, [])), ((40, (6, [])), (0, [(1, 5)])), ((40, (5, [])), (0, [(1, 6)]))], [], []), [(0, 7, (0, [])), (2, 40, (6, [])), (2, 40, (5, []))], [(0, 6)]), (19, [(10, 4)]), 0, 0), (65, ([(0, (2, 0, (0, []))), (1, (0, 0, (0, [(1, 0)]))), (2, (0, 0, (0, [(1, 1)]))), (3, (2, 1, (0, []))), (4, (0, 0, (0, [(1, 2)]))), (5, (0, 0, (0, [(1, 3)]))), (6, (2, 2, (0, []))), (7, (0, 0, (0, [(1, 4)]))), (8, (0, 0, (0, [(1, 7)]))), (9, (0, 0, (0, [(1, 8)])))], [], ([(0, 4), ((-2147483648), 2147483647), (0, 5), ((-1), 7), (0, 299), (0, 3), (1, 4), ((-2147483648), 2147483647), (0, 8)], [((-1), [(1, 6), ((-1), 5)]), ((-1), [(1, 8), ((-1), 5), (1, 6)])], [], [126, 50, 20], [((126, (8, [])), (0, [(1, 2)])), ((126, (7, [])), (50, [])), ((40, (6, [])), (0, [(1, 5)])), ((40, (5, [])), (0, [(1, 6)]))], [], []), [(0, 7, (0, [])), (2, 40, (6, [])), (2, 40, (5, [])), (0, 8, (0, [])), (0, 9, (0, []))], [(0, 6)]), (18, [((-1), 8), (10, 4)]), 0, 0)]
theorem k65 : chk (mkD iX9_law fX9 lX9 kX9 kkX9 65 [(4, [59]), (17, [60]), (116, [64]), (121, [63]), (166, [64])] c65 false 10 u65) 4000 = true := by decide +kernel
theorem m65 {X0 : zC0} (H : ∀ j, j < 65 → CMj X0 j) : CMj X0 65 := by
  obtain ⟨l0, D0, cy0, ax0⟩ := X0
  intro mi c hc
  have e : conAt 65 = some (273, c65) := rfl
  rw [e] at hc
  obtain ⟨rfl, rfl⟩ := Prod.mk.inj (Option.some.inj hc)
  have e2 : mt 273 = (yX9_law, cX9_law, 10, (some .int)) := rfl
  rw [e2]
  have h := chk_ok (l0 := l0) (D0 := D0) (cy0 := cy0) (ax0 := ax0) (y := yX9_law) (cc := cX9_law) (ret := (some .int)) k65 (mk_ok jX9_law fX9_ok lX9_ok kX9_ok kkX9_ok H) ⟨_, rfl⟩ pnX9 nrI (fun h => by cases h) rfl
  exact h

/-! X9_sweatOf (('k', 126), ('k', 50), ('n',)) -/
def u66 : List (Nat × TP × EX × Nat × Nat) := []
theorem k66 : chk (mkD iX9_sweatOf fX9 lX9 kX9 kkX9 66 [(16, [65]), (24, [53])] c66 false 4 u66) 4000 = true := by decide +kernel
theorem m66 {X0 : zC0} (H : ∀ j, j < 66 → CMj X0 j) : CMj X0 66 := by
  obtain ⟨l0, D0, cy0, ax0⟩ := X0
  intro mi c hc
  have e : conAt 66 = some (279, c66) := rfl
  rw [e] at hc
  obtain ⟨rfl, rfl⟩ := Prod.mk.inj (Option.some.inj hc)
  have e2 : mt 279 = (yX9_sweatOf, cX9_sweatOf, 4, (some .int)) := rfl
  rw [e2]
  have h := chk_ok (l0 := l0) (D0 := D0) (cy0 := cy0) (ax0 := ax0) (y := yX9_sweatOf) (cc := cX9_sweatOf) (ret := (some .int)) k66 (mk_ok jX9_sweatOf fX9_ok lX9_ok kX9_ok kkX9_ok H) ⟨_, rfl⟩ pnX9 nrI (fun h => by cases h) rfl
  exact h

/-! X9_rainFrom (('k', 126), ('k', 50), ('n',)) -/
def u67 : List (Nat × TP × EX × Nat × Nat) := []
theorem k67 : chk (mkD iX9_rainFrom fX9 lX9 kX9 kkX9 67 [(22, [65]), (28, [53]), (54, [65]), (60, [53]), (116, [37])] c67 false 8 u67) 4000 = true := by decide +kernel
theorem m67 {X0 : zC0} (H : ∀ j, j < 67 → CMj X0 j) : CMj X0 67 := by
  obtain ⟨l0, D0, cy0, ax0⟩ := X0
  intro mi c hc
  have e : conAt 67 = some (277, c67) := rfl
  rw [e] at hc
  obtain ⟨rfl, rfl⟩ := Prod.mk.inj (Option.some.inj hc)
  have e2 : mt 277 = (yX9_rainFrom, cX9_rainFrom, 8, none) := rfl
  rw [e2]
  have h := chk_ok (l0 := l0) (D0 := D0) (cy0 := cy0) (ax0 := ax0) (y := yX9_rainFrom) (cc := cX9_rainFrom) (ret := none) k67 (mk_ok jX9_rainFrom fX9_ok lX9_ok kX9_ok kkX9_ok H) rfl pnX9 nrV (fun h => by cases h) rfl
  exact h

/-! X9_closeHour (('k', 126), ('k', 50), ('n',)) -/
def u68 : List (Nat × TP × EX × Nat × Nat) := []
theorem k68 : chk (mkD iX9_closeHour fX9 lX9 kX9 kkX9 68 [(72, [65]), (78, [53])] c68 false 6 u68) 4000 = true := by decide +kernel
theorem m68 {X0 : zC0} (H : ∀ j, j < 68 → CMj X0 j) : CMj X0 68 := by
  obtain ⟨l0, D0, cy0, ax0⟩ := X0
  intro mi c hc
  have e : conAt 68 = some (271, c68) := rfl
  rw [e] at hc
  obtain ⟨rfl, rfl⟩ := Prod.mk.inj (Option.some.inj hc)
  have e2 : mt 271 = (yX9_closeHour, cX9_closeHour, 6, none) := rfl
  rw [e2]
  have h := chk_ok (l0 := l0) (D0 := D0) (cy0 := cy0) (ax0 := ax0) (y := yX9_closeHour) (cc := cX9_closeHour) (ret := none) k68 (mk_ok jX9_closeHour fX9_ok lX9_ok kX9_ok kkX9_ok H) rfl pnX9 nrV (fun h => by cases h) rfl
  exact h

/-! X9_pass (('k', 126), ('k', 50)) -/
def u69 : List (Nat × TP × EX × Nat × Nat) := [(10, ([(0, (2, 0, (0, []))), (1, (2, 1, (0, []))), (2, (2, 2, (0, []))), (3, (0, 0, (0, [(1, 1)])))], [], ([(0, 998), (0, 8)], [], [], [126, 50, 41], [((50, (9, [])), (0, [(1, 0)]))], [], []), [(0, 3, (0, []))], [(0, 2)]), (24, [((-1), 1)]), 0, 0), (73, ([(0, (2, 0, (0, []))), (1, (2, 1, (0, []))), (2, (2, 2, (0, []))), (3, (0, 0, (0, [(1, 2)])))], [], ([(0, 998), (0, 8), (0, 8), (0, 255)], [(0, [(1, 1), ((-1), 2)])], [], [126, 50, 41], [((126, (3, [])), (0, [(1, 3)])), ((41, (1, [])), (0, [(1, 1)])), ((50, (9, [])), (0, [(1, 0)]))], [], []), [(2, 41, (1, [])), (0, 3, (0, [])), (2, 126, (3, []))], [(0, 2)]), (15, [((-1), 2)]), 0, 0), (122, ([(0, (2, 0, (0, []))), (1, (2, 1, (0, []))), (2, (2, 2, (0, []))), (3, (0, 0, (0, [(1, 3)])))], [], ([(0, 998), (0, 255), (0, 8), (0, 6)], [], [], [126, 50, 41], [((126, (3, [])), (0, [(1, 1)])), ((41, (1, [])), (0, [(1, 2)])), ((50, (9, [])), (0, [(1, 0)]))], [], []), [(2, 126, (3, [])), (2, 41, (1, [])), (0, 3, (0, []))], [(0, 2)]), (6, [((-1), 3)]), 0, 0)]
theorem k69 : chk (mkD iX9_pass fX9 lX9 kX9 kkX9 69 [(26, [66]), (111, [67]), (145, [68]), (159, [44]), (176, [0])] c69 false 4 u69) 4000 = true := by decide +kernel
theorem m69 {X0 : zC0} (H : ∀ j, j < 69 → CMj X0 j) : CMj X0 69 := by
  obtain ⟨l0, D0, cy0, ax0⟩ := X0
  intro mi c hc
  have e : conAt 69 = some (276, c69) := rfl
  rw [e] at hc
  obtain ⟨rfl, rfl⟩ := Prod.mk.inj (Option.some.inj hc)
  have e2 : mt 276 = (yX9_pass, cX9_pass, 4, (some .int)) := rfl
  rw [e2]
  have h := chk_ok (l0 := l0) (D0 := D0) (cy0 := cy0) (ax0 := ax0) (y := yX9_pass) (cc := cX9_pass) (ret := (some .int)) k69 (mk_ok jX9_pass fX9_ok lX9_ok kX9_ok kkX9_ok H) ⟨_, rfl⟩ pnX9 nrI (fun h => by cases h) rfl
  exact h

/-! X11_hour (('k', 197), ('n',)) -/
def u70 : List (Nat × TP × EX × Nat × Nat) := [(34, ([(0, (2, 0, (0, []))), (1, (0, 0, (0, [(1, 0)]))), (2, (0, 0, (0, [(1, 2)]))), (3, (0, 0, (0, [(1, 3)])))], [], ([(1, 30), (0, 999), ((-2147483648), 2147483647), (0, 30)], [(0, [(1, 0), ((-1), 3)]), (0, [(1, 1), ((-1), 3)]), (999, [(1, 3), ((-1), 1), ((-1), 0)]), (998, [((-1), 1), (1, 3)])], [], [197], [((50, (9, [])), (0, [(1, 1)]))], [], []), [(2, 50, (9, [])), (0, 2, (0, [])), (0, 3, (0, []))], []), (30, [((-1), 3)]), 0, 0)]
theorem k70 : chk (mkD iX11_hour fX11 lX11 kX11 kkX11 70 [(4, [56]), (43, [58]), (58, [69])] c70 false 4 u70) 4000 = true := by decide +kernel
theorem m70 {X0 : zC0} (H : ∀ j, j < 70 → CMj X0 j) : CMj X0 70 := by
  obtain ⟨l0, D0, cy0, ax0⟩ := X0
  intro mi c hc
  have e : conAt 70 = some (42, c70) := rfl
  rw [e] at hc
  obtain ⟨rfl, rfl⟩ := Prod.mk.inj (Option.some.inj hc)
  have e2 : mt 42 = (yX11_hour, cX11_hour, 4, (some .int)) := rfl
  rw [e2]
  have h := chk_ok (l0 := l0) (D0 := D0) (cy0 := cy0) (ax0 := ax0) (y := yX11_hour) (cc := cX11_hour) (ret := (some .int)) k70 (mk_ok jX11_hour fX11_ok lX11_ok kX11_ok kkX11_ok H) ⟨_, rfl⟩ pnX11 nrI (fun h => by cases h) rfl
  exact h

/-! X11_isWithin (('n',), ('c', 0), ('c', 9)) -/
def u71 : List (Nat × TP × EX × Nat × Nat) := []
theorem k71 : chk (mkD iX11_isWithin fX11 lX11 kX11 kkX11 71 [] c71 true 3 u71) 4000 = true := by decide +kernel
theorem m71 {X0 : zC0} (H : ∀ j, j < 71 → CMj X0 j) : CMj X0 71 := by
  obtain ⟨l0, D0, cy0, ax0⟩ := X0
  intro mi c hc
  have e : conAt 71 = some (46, c71) := rfl
  rw [e] at hc
  obtain ⟨rfl, rfl⟩ := Prod.mk.inj (Option.some.inj hc)
  have e2 : mt 46 = (yX11_isWithin, cX11_isWithin, 3, (some .boolean)) := rfl
  rw [e2]
  have h := chk_ok (l0 := l0) (D0 := D0) (cy0 := cy0) (ax0 := ax0) (y := yX11_isWithin) (cc := cX11_isWithin) (ret := (some .boolean)) k71 (mk_ok jX11_isWithin fX11_ok lX11_ok kX11_ok kkX11_ok H) ⟨_, rfl⟩ pnX11 (fun h => by cases h) (fun _ => rfl) rfl
  exact h

/-! X11_field (('k', 197), ('n',), ('n',), ('n',)) -/
def u72 : List (Nat × TP × EX × Nat × Nat) := []
theorem k72 : chk (mkD iX11_field fX11 lX11 kX11 kkX11 72 [(13, [71]), (24, [56]), (35, [56]), (75, [1])] c72 false 6 u72) 4000 = true := by decide +kernel
theorem m72 {X0 : zC0} (H : ∀ j, j < 72 → CMj X0 j) : CMj X0 72 := by
  obtain ⟨l0, D0, cy0, ax0⟩ := X0
  intro mi c hc
  have e : conAt 72 = some (34, c72) := rfl
  rw [e] at hc
  obtain ⟨rfl, rfl⟩ := Prod.mk.inj (Option.some.inj hc)
  have e2 : mt 34 = (yX11_field, cX11_field, 6, (some .int)) := rfl
  rw [e2]
  have h := chk_ok (l0 := l0) (D0 := D0) (cy0 := cy0) (ax0 := ax0) (y := yX11_field) (cc := cX11_field) (ret := (some .int)) k72 (mk_ok jX11_field fX11_ok lX11_ok kX11_ok kkX11_ok H) ⟨_, rfl⟩ pnX11 nrI (fun h => by cases h) rfl
  exact h

/-! X11_road (('k', 197), ('n',), ('n',)) -/
def u73 : List (Nat × TP × EX × Nat × Nat) := []
theorem k73 : chk (mkD iX11_road fX11 lX11 kX11 kkX11 73 [(10, [6]), (18, [6]), (32, [8]), (43, [3])] c73 true 4 u73) 4000 = true := by decide +kernel
theorem m73 {X0 : zC0} (H : ∀ j, j < 73 → CMj X0 j) : CMj X0 73 := by
  obtain ⟨l0, D0, cy0, ax0⟩ := X0
  intro mi c hc
  have e : conAt 73 = some (60, c73) := rfl
  rw [e] at hc
  obtain ⟨rfl, rfl⟩ := Prod.mk.inj (Option.some.inj hc)
  have e2 : mt 60 = (yX11_road, cX11_road, 4, (some .boolean)) := rfl
  rw [e2]
  have h := chk_ok (l0 := l0) (D0 := D0) (cy0 := cy0) (ax0 := ax0) (y := yX11_road) (cc := cX11_road) (ret := (some .boolean)) k73 (mk_ok jX11_road fX11_ok lX11_ok kX11_ok kkX11_ok H) ⟨_, rfl⟩ pnX11 (fun h => by cases h) (fun _ => rfl) rfl
  exact h

/-! X11_person (('k', 197), ('n',), ('n',), ('n',), ('n',)) -/
def u74 : List (Nat × TP × EX × Nat × Nat) := []
theorem k74 : chk (mkD iX11_person fX11 lX11 kX11 kkX11 74 [(13, [56]), (23, [56]), (32, [6]), (44, [56]), (81, [2]), (98, [28])] c74 false 8 u74) 4000 = true := by decide +kernel
theorem m74 {X0 : zC0} (H : ∀ j, j < 74 → CMj X0 j) : CMj X0 74 := by
  obtain ⟨l0, D0, cy0, ax0⟩ := X0
  intro mi c hc
  have e : conAt 74 = some (55, c74) := rfl
  rw [e] at hc
  obtain ⟨rfl, rfl⟩ := Prod.mk.inj (Option.some.inj hc)
  have e2 : mt 55 = (yX11_person, cX11_person, 8, (some .int)) := rfl
  rw [e2]
  have h := chk_ok (l0 := l0) (D0 := D0) (cy0 := cy0) (ax0 := ax0) (y := yX11_person) (cc := cX11_person) (ret := (some .int)) k74 (mk_ok jX11_person fX11_ok lX11_ok kX11_ok kkX11_ok H) ⟨_, rfl⟩ pnX11 nrI (fun h => by cases h) rfl
  exact h

/-! X11_work (('k', 197), ('n',), ('n',)) -/
def u75 : List (Nat × TP × EX × Nat × Nat) := []
theorem k75 : chk (mkD iX11_work fX11 lX11 kX11 kkX11 75 [(8, [7]), (18, [71]), (46, [58])] c75 true 3 u75) 4000 = true := by decide +kernel
theorem m75 {X0 : zC0} (H : ∀ j, j < 75 → CMj X0 j) : CMj X0 75 := by
  obtain ⟨l0, D0, cy0, ax0⟩ := X0
  intro mi c hc
  have e : conAt 75 = some (69, c75) := rfl
  rw [e] at hc
  obtain ⟨rfl, rfl⟩ := Prod.mk.inj (Option.some.inj hc)
  have e2 : mt 69 = (yX11_work, cX11_work, 3, (some .boolean)) := rfl
  rw [e2]
  have h := chk_ok (l0 := l0) (D0 := D0) (cy0 := cy0) (ax0 := ax0) (y := yX11_work) (cc := cX11_work) (ret := (some .boolean)) k75 (mk_ok jX11_work fX11_ok lX11_ok kX11_ok kkX11_ok H) ⟨_, rfl⟩ pnX11 (fun h => by cases h) (fun _ => rfl) rfl
  exact h

/-! X4_canGo (('k', 40), ('n',), ('n',)) -/
def u76 : List (Nat × TP × EX × Nat × Nat) := []
theorem k76 : chk (mkD iX4_canGo fX4 lX4 kX4 kkX4 76 [(5, [7]), (16, [6]), (36, [8])] c76 true 3 u76) 4000 = true := by decide +kernel
theorem m76 {X0 : zC0} (H : ∀ j, j < 76 → CMj X0 j) : CMj X0 76 := by
  obtain ⟨l0, D0, cy0, ax0⟩ := X0
  intro mi c hc
  have e : conAt 76 = some (243, c76) := rfl
  rw [e] at hc
  obtain ⟨rfl, rfl⟩ := Prod.mk.inj (Option.some.inj hc)
  have e2 : mt 243 = (yX4_canGo, cX4_canGo, 3, (some .boolean)) := rfl
  rw [e2]
  have h := chk_ok (l0 := l0) (D0 := D0) (cy0 := cy0) (ax0 := ax0) (y := yX4_canGo) (cc := cX4_canGo) (ret := (some .boolean)) k76 (mk_ok jX4_canGo fX4_ok lX4_ok kX4_ok kkX4_ok H) ⟨_, rfl⟩ pnX4 (fun h => by cases h) (fun _ => rfl) rfl
  exact h

/-! X11_go (('k', 197), ('n',), ('n',)) -/
def u77 : List (Nat × TP × EX × Nat × Nat) := []
theorem k77 : chk (mkD iX11_go fX11 lX11 kX11 kkX11 77 [(6, [76]), (18, [58])] c77 true 3 u77) 4000 = true := by decide +kernel
theorem m77 {X0 : zC0} (H : ∀ j, j < 77 → CMj X0 j) : CMj X0 77 := by
  obtain ⟨l0, D0, cy0, ax0⟩ := X0
  intro mi c hc
  have e : conAt 77 = some (39, c77) := rfl
  rw [e] at hc
  obtain ⟨rfl, rfl⟩ := Prod.mk.inj (Option.some.inj hc)
  have e2 : mt 39 = (yX11_go, cX11_go, 3, (some .boolean)) := rfl
  rw [e2]
  have h := chk_ok (l0 := l0) (D0 := D0) (cy0 := cy0) (ax0 := ax0) (y := yX11_go) (cc := cX11_go) (ret := (some .boolean)) k77 (mk_ok jX11_go fX11_ok lX11_ok kX11_ok kkX11_ok H) ⟨_, rfl⟩ pnX11 (fun h => by cases h) (fun _ => rfl) rfl
  exact h

/-! X4_canMeet (('k', 40), ('n',), ('n',)) -/
def u78 : List (Nat × TP × EX × Nat × Nat) := []
theorem k78 : chk (mkD iX4_canMeet fX4 lX4 kX4 kkX4 78 [(5, [7]), (16, [7])] c78 true 3 u78) 4000 = true := by decide +kernel
theorem m78 {X0 : zC0} (H : ∀ j, j < 78 → CMj X0 j) : CMj X0 78 := by
  obtain ⟨l0, D0, cy0, ax0⟩ := X0
  intro mi c hc
  have e : conAt 78 = some (244, c78) := rfl
  rw [e] at hc
  obtain ⟨rfl, rfl⟩ := Prod.mk.inj (Option.some.inj hc)
  have e2 : mt 244 = (yX4_canMeet, cX4_canMeet, 3, (some .boolean)) := rfl
  rw [e2]
  have h := chk_ok (l0 := l0) (D0 := D0) (cy0 := cy0) (ax0 := ax0) (y := yX4_canMeet) (cc := cX4_canMeet) (ret := (some .boolean)) k78 (mk_ok jX4_canMeet fX4_ok lX4_ok kX4_ok kkX4_ok H) ⟨_, rfl⟩ pnX4 (fun h => by cases h) (fun _ => rfl) rfl
  exact h

/-! X9_merge (('k', 126), ('k', 50), ('n',), ('n',)) -/
def u79 : List (Nat × TP × EX × Nat × Nat) := []
theorem k79 : chk (mkD iX9_merge fX9 lX9 kX9 kkX9 79 [(33, [65]), (41, [53]), (59, [53])] c79 false 5 u79) 4000 = true := by decide +kernel
theorem m79 {X0 : zC0} (H : ∀ j, j < 79 → CMj X0 j) : CMj X0 79 := by
  obtain ⟨l0, D0, cy0, ax0⟩ := X0
  intro mi c hc
  have e : conAt 79 = some (274, c79) := rfl
  rw [e] at hc
  obtain ⟨rfl, rfl⟩ := Prod.mk.inj (Option.some.inj hc)
  have e2 : mt 274 = (yX9_merge, cX9_merge, 5, none) := rfl
  rw [e2]
  have h := chk_ok (l0 := l0) (D0 := D0) (cy0 := cy0) (ax0 := ax0) (y := yX9_merge) (cc := cX9_merge) (ret := none) k79 (mk_ok jX9_merge fX9_ok lX9_ok kX9_ok kkX9_ok H) rfl pnX9 nrV (fun h => by cases h) rfl
  exact h

/-! X11_shake (('k', 197), ('n',), ('n',)) -/
def u80 : List (Nat × TP × EX × Nat × Nat) := []
theorem k80 : chk (mkD iX11_shake fX11 lX11 kX11 kkX11 80 [(6, [78]), (18, [58]), (34, [79])] c80 false 3 u80) 4000 = true := by decide +kernel
theorem m80 {X0 : zC0} (H : ∀ j, j < 80 → CMj X0 j) : CMj X0 80 := by
  obtain ⟨l0, D0, cy0, ax0⟩ := X0
  intro mi c hc
  have e : conAt 80 = some (61, c80) := rfl
  rw [e] at hc
  obtain ⟨rfl, rfl⟩ := Prod.mk.inj (Option.some.inj hc)
  have e2 : mt 61 = (yX11_shake, cX11_shake, 3, (some .int)) := rfl
  rw [e2]
  have h := chk_ok (l0 := l0) (D0 := D0) (cy0 := cy0) (ax0 := ax0) (y := yX11_shake) (cc := cX11_shake) (ret := (some .int)) k80 (mk_ok jX11_shake fX11_ok lX11_ok kX11_ok kkX11_ok H) ⟨_, rfl⟩ pnX11 nrI (fun h => by cases h) rfl
  exact h

/-! X4_canTake (('k', 40), ('n',), ('n',), ('n',)) -/
def u81 : List (Nat × TP × EX × Nat × Nat) := []
theorem k81 : chk (mkD iX4_canTake fX4 lX4 kX4 kkX4 81 [(3, [78]), (13, [56])] c81 true 4 u81) 4000 = true := by decide +kernel
theorem m81 {X0 : zC0} (H : ∀ j, j < 81 → CMj X0 j) : CMj X0 81 := by
  obtain ⟨l0, D0, cy0, ax0⟩ := X0
  intro mi c hc
  have e : conAt 81 = some (245, c81) := rfl
  rw [e] at hc
  obtain ⟨rfl, rfl⟩ := Prod.mk.inj (Option.some.inj hc)
  have e2 : mt 245 = (yX4_canTake, cX4_canTake, 4, (some .boolean)) := rfl
  rw [e2]
  have h := chk_ok (l0 := l0) (D0 := D0) (cy0 := cy0) (ax0 := ax0) (y := yX4_canTake) (cc := cX4_canTake) (ret := (some .boolean)) k81 (mk_ok jX4_canTake fX4_ok lX4_ok kX4_ok kkX4_ok H) ⟨_, rfl⟩ pnX4 (fun h => by cases h) (fun _ => rfl) rfl
  exact h

/-! X11_steal (('k', 197), ('n',), ('n',), ('n',)) -/
def u82 : List (Nat × TP × EX × Nat × Nat) := []
theorem k82 : chk (mkD iX11_steal fX11 lX11 kX11 kkX11 82 [(7, [81]), (19, [58]), (32, [29])] c82 false 4 u82) 4000 = true := by decide +kernel
theorem m82 {X0 : zC0} (H : ∀ j, j < 82 → CMj X0 j) : CMj X0 82 := by
  obtain ⟨l0, D0, cy0, ax0⟩ := X0
  intro mi c hc
  have e : conAt 82 = some (63, c82) := rfl
  rw [e] at hc
  obtain ⟨rfl, rfl⟩ := Prod.mk.inj (Option.some.inj hc)
  have e2 : mt 63 = (yX11_steal, cX11_steal, 4, (some .int)) := rfl
  rw [e2]
  have h := chk_ok (l0 := l0) (D0 := D0) (cy0 := cy0) (ax0 := ax0) (y := yX11_steal) (cc := cX11_steal) (ret := (some .int)) k82 (mk_ok jX11_steal fX11_ok lX11_ok kX11_ok kkX11_ok H) ⟨_, rfl⟩ pnX11 nrI (fun h => by cases h) rfl
  exact h

/-! X11_pour (('k', 197), ('n',), ('n',)) -/
def u83 : List (Nat × TP × EX × Nat × Nat) := []
theorem k83 : chk (mkD iX11_pour fX11 lX11 kX11 kkX11 83 [(13, [56]), (35, [6]), (47, [58])] c83 false 4 u83) 4000 = true := by decide +kernel
theorem m83 {X0 : zC0} (H : ∀ j, j < 83 → CMj X0 j) : CMj X0 83 := by
  obtain ⟨l0, D0, cy0, ax0⟩ := X0
  intro mi c hc
  have e : conAt 83 = some (58, c83) := rfl
  rw [e] at hc
  obtain ⟨rfl, rfl⟩ := Prod.mk.inj (Option.some.inj hc)
  have e2 : mt 58 = (yX11_pour, cX11_pour, 4, (some .int)) := rfl
  rw [e2]
  have h := chk_ok (l0 := l0) (D0 := D0) (cy0 := cy0) (ax0 := ax0) (y := yX11_pour) (cc := cX11_pour) (ret := (some .int)) k83 (mk_ok jX11_pour fX11_ok lX11_ok kX11_ok kkX11_ok H) ⟨_, rfl⟩ pnX11 nrI (fun h => by cases h) rfl
  exact h

/-! X11_canDo (('k', 197), ('k', 20), ('n',)) -/
def u84 : List (Nat × TP × EX × Nat × Nat) := []
theorem k84 : chk (mkD iX11_canDo fX11 lX11 kX11 kkX11 84 [(90, [72]), (107, [73]), (118, [74]), (135, [75]), (143, [77]), (151, [80]), (170, [82]), (187, [83]), (223, [70])] c84 true 7 u84) 4000 = true := by decide +kernel
theorem m84 {X0 : zC0} (H : ∀ j, j < 84 → CMj X0 j) : CMj X0 84 := by
  obtain ⟨l0, D0, cy0, ax0⟩ := X0
  intro mi c hc
  have e : conAt 84 = some (26, c84) := rfl
  rw [e] at hc
  obtain ⟨rfl, rfl⟩ := Prod.mk.inj (Option.some.inj hc)
  have e2 : mt 26 = (yX11_canDo, cX11_canDo, 7, (some .boolean)) := rfl
  rw [e2]
  have h := chk_ok (l0 := l0) (D0 := D0) (cy0 := cy0) (ax0 := ax0) (y := yX11_canDo) (cc := cX11_canDo) (ret := (some .boolean)) k84 (mk_ok jX11_canDo fX11_ok lX11_ok kX11_ok kkX11_ok H) ⟨_, rfl⟩ pnX11 (fun h => by cases h) (fun _ => rfl) rfl
  exact h

/-! X11_commonDivisor (('n',), ('n',)) -/
def u85 : List (Nat × TP × EX × Nat × Nat) := [(9, ([(0, (1, 0, (0, [(1, 0)]))), (2, (1, 0, (0, [(1, 1)]))), (4, (1, 0, (0, [(1, 2)]))), (6, (1, 0, (0, [(1, 3)]))), (8, (0, 0, (0, [(1, 4)])))], [], ([((-9223372036854775808), 9223372036854775807), ((-9223372036854775808), 9223372036854775807), ((-9223372036854775808), 9223372036854775807), ((-9223372036854775808), 9223372036854775807), (0, 200)], [], [], [], [], [], []), [(0, 4, (0, [])), (0, 6, (0, [])), (0, 8, (0, []))], []), (200, [((-1), 4)]), 0, 0)]
theorem k85 : chk (mkD iX11_commonDivisor fX11 lX11 kX11 kkX11 85 [] c85 false 11 u85) 4000 = true := by decide +kernel
theorem m85 {X0 : zC0} (H : ∀ j, j < 85 → CMj X0 j) : CMj X0 85 := by
  obtain ⟨l0, D0, cy0, ax0⟩ := X0
  intro mi c hc
  have e : conAt 85 = some (27, c85) := rfl
  rw [e] at hc
  obtain ⟨rfl, rfl⟩ := Prod.mk.inj (Option.some.inj hc)
  have e2 : mt 27 = (yX11_commonDivisor, cX11_commonDivisor, 11, (some .long)) := rfl
  rw [e2]
  have h := chk_ok (l0 := l0) (D0 := D0) (cy0 := cy0) (ax0 := ax0) (y := yX11_commonDivisor) (cc := cX11_commonDivisor) (ret := (some .long)) k85 (mk_ok jX11_commonDivisor fX11_ok lX11_ok kX11_ok kkX11_ok H) rfl pnX11 nrJ (fun h => by cases h) rfl
  exact h

/-! X8_nextField (('k', 194), ('n',), ('n',), ('n',)) -/
def u86 : List (Nat × TP × EX × Nat × Nat) := [(3, ([(0, (2, 0, (0, []))), (1, (0, 0, (0, [(1, 0)]))), (2, (0, 0, (0, [(1, 1)]))), (3, (0, 0, (0, [(1, 2)]))), (4, (0, 0, (0, [(1, 3)])))], [], ([(0, 5), (0, 999), ((-7), 5), (0, 6)], [], [], [194], [], [], []), [(0, 4, (0, []))], []), (6, [((-1), 3)]), 0, 0)]
theorem k86 : chk (mkD iX8_nextField fX8 lX8 kX8 kkX8 86 [(39, [8])] c86 false 5 u86) 4000 = true := by decide +kernel
theorem m86 {X0 : zC0} (H : ∀ j, j < 86 → CMj X0 j) : CMj X0 86 := by
  obtain ⟨l0, D0, cy0, ax0⟩ := X0
  intro mi c hc
  have e : conAt 86 = some (267, c86) := rfl
  rw [e] at hc
  obtain ⟨rfl, rfl⟩ := Prod.mk.inj (Option.some.inj hc)
  have e2 : mt 267 = (yX8_nextField, cX8_nextField, 5, (some .int)) := rfl
  rw [e2]
  have h := chk_ok (l0 := l0) (D0 := D0) (cy0 := cy0) (ax0 := ax0) (y := yX8_nextField) (cc := cX8_nextField) (ret := (some .int)) k86 (mk_ok jX8_nextField fX8_ok lX8_ok kX8_ok kkX8_ok H) ⟨_, rfl⟩ pnX8 nrI (fun h => by cases h) rfl
  exact h

/-! X8_measure (('k', 194), ('n',), ('n',)) -/
def u87 : List (Nat × TP × EX × Nat × Nat) := [(14, ([(0, (2, 0, (0, []))), (1, (0, 0, (0, [(1, 0)]))), (2, (0, 0, (0, [(1, 1)]))), (3, (0, 0, (0, [(1, 2)]))), (4, (0, 0, (0, [(1, 3)])))], [], ([(0, 5), (0, 999), (0, 6), (0, 6)], [], [], [194], [((41, (0, [])), (0, [(1, 2)]))], [], []), [(0, 3, (0, [])), (0, 4, (0, []))], []), (54, [((-1), 3)]), 0, 0), (48, ([(0, (2, 0, (0, []))), (1, (0, 0, (0, [(1, 0)]))), (2, (0, 0, (0, [(1, 1)]))), (3, (0, 0, (0, [(1, 2)]))), (4, (0, 0, (0, [(1, 3)])))], [], ([(0, 5), (0, 999), (0, 6), (1, 6)], [(1, [(1, 2), ((-1), 3)])], [], [194], [((41, (0, [])), (0, [(1, 2)]))], [], []), [(0, 3, (0, [])), (0, 4, (0, []))], []), (55, [((-8), 3)]), 0, 0), (57, ([(0, (2, 0, (0, []))), (1, (0, 0, (0, [(1, 0)]))), (2, (0, 0, (0, [(1, 1)]))), (3, (0, 0, (0, [(1, 2)]))), (4, (0, 0, (0, [(1, 3)]))), (5, (0, 0, (0, [(1, 4)])))], [], ([(0, 5), (0, 999), (2, 6), (1, 5), (0, 6)], [((-1), [((-1), 3), (1, 2)]), (0, [(1, 2), ((-1), 4)]), ((-1), [(1, 4), (1, 2), ((-1), 3)])], [], [194], [((41, (0, [])), (0, [(1, 2)]))], [], []), [(0, 3, (0, [])), (0, 4, (0, [])), (0, 5, (0, []))], []), (54, [((-1), 4), ((-8), 3)]), 0, 0)]
theorem k87 : chk (mkD iX8_measure fX8 lX8 kX8 kkX8 87 [(82, [86])] c87 false 6 u87) 4000 = true := by decide +kernel
theorem m87 {X0 : zC0} (H : ∀ j, j < 87 → CMj X0 j) : CMj X0 87 := by
  obtain ⟨l0, D0, cy0, ax0⟩ := X0
  intro mi c hc
  have e : conAt 87 = some (266, c87) := rfl
  rw [e] at hc
  obtain ⟨rfl, rfl⟩ := Prod.mk.inj (Option.some.inj hc)
  have e2 : mt 266 = (yX8_measure, cX8_measure, 6, none) := rfl
  rw [e2]
  have h := chk_ok (l0 := l0) (D0 := D0) (cy0 := cy0) (ax0 := ax0) (y := yX8_measure) (cc := cX8_measure) (ret := none) k87 (mk_ok jX8_measure fX8_ok lX8_ok kX8_ok kkX8_ok H) rfl pnX8 nrV (fun h => by cases h) rfl
  exact h

/-! X8_comeTo (('k', 194), ('n',), ('n',), ('n',)) -/
def u88 : List (Nat × TP × EX × Nat × Nat) := [(6, ([(0, (2, 0, (0, []))), (1, (0, 0, (0, [(1, 0)]))), (2, (0, 0, (0, [(1, 1)]))), (3, (0, 0, (0, [(1, 2)]))), (4, (0, 0, (0, [(1, 3)]))), (5, (0, 0, (0, [(1, 4)])))], [], ([(0, 5), (0, 999), (0, 5), ((-1), 5), (0, 6)], [(1, [(1, 2), ((-1), 4)]), (0, [(1, 4), (1, 3)])], [], [194], [], [], []), [(0, 4, (0, [])), (0, 5, (0, []))], []), (6, [((-1), 4)]), 0, 0)]
theorem k88 : chk (mkD iX8_comeTo fX8 lX8 kX8 kkX8 88 [(33, [86])] c88 false 6 u88) 4000 = true := by decide +kernel
theorem m88 {X0 : zC0} (H : ∀ j, j < 88 → CMj X0 j) : CMj X0 88 := by
  obtain ⟨l0, D0, cy0, ax0⟩ := X0
  intro mi c hc
  have e : conAt 88 = some (265, c88) := rfl
  rw [e] at hc
  obtain ⟨rfl, rfl⟩ := Prod.mk.inj (Option.some.inj hc)
  have e2 : mt 265 = (yX8_comeTo, cX8_comeTo, 6, (some .int)) := rfl
  rw [e2]
  have h := chk_ok (l0 := l0) (D0 := D0) (cy0 := cy0) (ax0 := ax0) (y := yX8_comeTo) (cc := cX8_comeTo) (ret := (some .int)) k88 (mk_ok jX8_comeTo fX8_ok lX8_ok kX8_ok kkX8_ok H) ⟨_, rfl⟩ pnX8 nrI (fun h => by cases h) rfl
  exact h

/-! X11_cross (('k', 197), ('n',), ('n',), ('n',), ('n',)) -/
def u89 : List (Nat × TP × EX × Nat × Nat) := []
theorem k89 : chk (mkD iX11_cross fX11 lX11 kX11 kkX11 89 [(8, [6]), (22, [6]), (33, [56]), (47, [87]), (83, [56]), (97, [88])] c89 false 6 u89) 4000 = true := by decide +kernel
theorem m89 {X0 : zC0} (H : ∀ j, j < 89 → CMj X0 j) : CMj X0 89 := by
  obtain ⟨l0, D0, cy0, ax0⟩ := X0
  intro mi c hc
  have e : conAt 89 = some (28, c89) := rfl
  rw [e] at hc
  obtain ⟨rfl, rfl⟩ := Prod.mk.inj (Option.some.inj hc)
  have e2 : mt 28 = (yX11_cross, cX11_cross, 6, (some .int)) := rfl
  rw [e2]
  have h := chk_ok (l0 := l0) (D0 := D0) (cy0 := cy0) (ax0 := ax0) (y := yX11_cross) (cc := cX11_cross) (ret := (some .int)) k89 (mk_ok jX11_cross fX11_ok lX11_ok kX11_ok kkX11_ok H) ⟨_, rfl⟩ pnX11 nrI (fun h => by cases h) rfl
  exact h

/-! X11_draw (('k', 197),) -/
def u90 : List (Nat × TP × EX × Nat × Nat) := []
theorem k90 : chk (mkD iX11_draw fX11 lX11 kX11 kkX11 90 [(31, [21]), (125, [76]), (149, [78]), (163, [79]), (197, [81]), (209, [29]), (230, [69]), (240, [21])] c90 false 9 u90) 4000 = true := by decide +kernel
theorem m90 {X0 : zC0} (H : ∀ j, j < 90 → CMj X0 j) : CMj X0 90 := by
  obtain ⟨l0, D0, cy0, ax0⟩ := X0
  intro mi c hc
  have e : conAt 90 = some (29, c90) := rfl
  rw [e] at hc
  obtain ⟨rfl, rfl⟩ := Prod.mk.inj (Option.some.inj hc)
  have e2 : mt 29 = (yX11_draw, cX11_draw, 9, (some .int)) := rfl
  rw [e2]
  have h := chk_ok (l0 := l0) (D0 := D0) (cy0 := cy0) (ax0 := ax0) (y := yX11_draw) (cc := cX11_draw) (ret := (some .int)) k90 (mk_ok jX11_draw fX11_ok lX11_ok kX11_ok kkX11_ok H) ⟨_, rfl⟩ pnX11 nrI (fun h => by cases h) rfl
  exact h

/-! X11_end (('k', 197), ('n',)) -/
def u91 : List (Nat × TP × EX × Nat × Nat) := []
theorem k91 : chk (mkD iX11_end fX11 lX11 kX11 kkX11 91 [] c91 false 2 u91) 4000 = true := by decide +kernel
theorem m91 {X0 : zC0} (H : ∀ j, j < 91 → CMj X0 j) : CMj X0 91 := by
  obtain ⟨l0, D0, cy0, ax0⟩ := X0
  intro mi c hc
  have e : conAt 91 = some (30, c91) := rfl
  rw [e] at hc
  obtain ⟨rfl, rfl⟩ := Prod.mk.inj (Option.some.inj hc)
  have e2 : mt 30 = (yX11_end, cX11_end, 2, (some .int)) := rfl
  rw [e2]
  have h := chk_ok (l0 := l0) (D0 := D0) (cy0 := cy0) (ax0 := ax0) (y := yX11_end) (cc := cX11_end) (ret := (some .int)) k91 (mk_ok jX11_end fX11_ok lX11_ok kX11_ok kkX11_ok H) ⟨_, rfl⟩ pnX11 nrI (fun h => by cases h) rfl
  exact h

/-! X11_errors (('k', 197), ('n',), ('n',)) -/
def u92 : List (Nat × TP × EX × Nat × Nat) := []
theorem k92 : chk (mkD iX11_errors fX11 lX11 kX11 kkX11 92 [(4, [56]), (24, [50]), (38, [51])] c92 false 3 u92) 4000 = true := by decide +kernel
theorem m92 {X0 : zC0} (H : ∀ j, j < 92 → CMj X0 j) : CMj X0 92 := by
  obtain ⟨l0, D0, cy0, ax0⟩ := X0
  intro mi c hc
  have e : conAt 92 = some (31, c92) := rfl
  rw [e] at hc
  obtain ⟨rfl, rfl⟩ := Prod.mk.inj (Option.some.inj hc)
  have e2 : mt 31 = (yX11_errors, cX11_errors, 3, (some .int)) := rfl
  rw [e2]
  have h := chk_ok (l0 := l0) (D0 := D0) (cy0 := cy0) (ax0 := ax0) (y := yX11_errors) (cc := cX11_errors) (ret := (some .int)) k92 (mk_ok jX11_errors fX11_ok lX11_ok kX11_ok kkX11_ok H) ⟨_, rfl⟩ pnX11 nrI (fun h => by cases h) rfl
  exact h

/-! X11_fault (('k', 197), ('n',)) -/
def u93 : List (Nat × TP × EX × Nat × Nat) := []
theorem k93 : chk (mkD iX11_fault fX11 lX11 kX11 kkX11 93 [] c93 false 2 u93) 4000 = true := by decide +kernel
theorem m93 {X0 : zC0} (H : ∀ j, j < 93 → CMj X0 j) : CMj X0 93 := by
  obtain ⟨l0, D0, cy0, ax0⟩ := X0
  intro mi c hc
  have e : conAt 93 = some (32, c93) := rfl
  rw [e] at hc
  obtain ⟨rfl, rfl⟩ := Prod.mk.inj (Option.some.inj hc)
  have e2 : mt 32 = (yX11_fault, cX11_fault, 2, (some .int)) := rfl
  rw [e2]
  have h := chk_ok (l0 := l0) (D0 := D0) (cy0 := cy0) (ax0 := ax0) (y := yX11_fault) (cc := cX11_fault) (ret := (some .int)) k93 (mk_ok jX11_fault fX11_ok lX11_ok kX11_ok kkX11_ok H) ⟨_, rfl⟩ pnX11 nrI (fun h => by cases h) rfl
  exact h

/-! X6_append (('k', 120), ('n',)) -/
def u94 : List (Nat × TP × EX × Nat × Nat) := [(3, ([(0, (2, 0, (0, []))), (1, (0, 0, (0, [(1, 0)]))), (2, (0, 0, (0, [(1, 1)])))], [], ([((-2147483648), 2147483647), ((-8), 24)], [], [], [120], [], [], []), [(0, 2, (0, []))], []), (8, [(1, 1)]), 0, 0)]
theorem k94 : chk (mkD iX6_append fX6 lX6 kX6 kkX6 94 [] c94 false 3 u94) 4000 = true := by decide +kernel
theorem m94 {X0 : zC0} (H : ∀ j, j < 94 → CMj X0 j) : CMj X0 94 := by
  obtain ⟨l0, D0, cy0, ax0⟩ := X0
  intro mi c hc
  have e : conAt 94 = some (258, c94) := rfl
  rw [e] at hc
  obtain ⟨rfl, rfl⟩ := Prod.mk.inj (Option.some.inj hc)
  have e2 : mt 258 = (yX6_append, cX6_append, 3, none) := rfl
  rw [e2]
  have h := chk_ok (l0 := l0) (D0 := D0) (cy0 := cy0) (ax0 := ax0) (y := yX6_append) (cc := cX6_append) (ret := none) k94 (mk_ok jX6_append fX6_ok lX6_ok kX6_ok kkX6_ok H) rfl pnX6 nrV (fun h => by cases h) rfl
  exact h

/-! X11_feed (('k', 197), ('n',), ('n',), ('n',), ('n',), ('n',)) -/
def u95 : List (Nat × TP × EX × Nat × Nat) := []
theorem k95 : chk (mkD iX11_feed fX11 lX11 kX11 kkX11 95 [(23, [94]), (31, [94]), (39, [94]), (48, [94]), (57, [94])] c95 false 6 u95) 4000 = true := by decide +kernel
theorem m95 {X0 : zC0} (H : ∀ j, j < 95 → CMj X0 j) : CMj X0 95 := by
  obtain ⟨l0, D0, cy0, ax0⟩ := X0
  intro mi c hc
  have e : conAt 95 = some (33, c95) := rfl
  rw [e] at hc
  obtain ⟨rfl, rfl⟩ := Prod.mk.inj (Option.some.inj hc)
  have e2 : mt 33 = (yX11_feed, cX11_feed, 6, (some .int)) := rfl
  rw [e2]
  have h := chk_ok (l0 := l0) (D0 := D0) (cy0 := cy0) (ax0 := ax0) (y := yX11_feed) (cc := cX11_feed) (ret := (some .int)) k95 (mk_ok jX11_feed fX11_ok lX11_ok kX11_ok kkX11_ok H) ⟨_, rfl⟩ pnX11 nrI (fun h => by cases h) rfl
  exact h

/-! X11_hotHours (('n',), ('n',)) -/
def u96 : List (Nat × TP × EX × Nat × Nat) := [(11, ([(0, (0, 0, (0, [(1, 0)]))), (1, (0, 0, (0, [(1, 1)]))), (2, (2, 0, (0, []))), (3, (0, 0, (0, [(1, 2)])))], [], ([(0, 10), (0, 15), (0, 15)], [(0, [(1, 1), ((-1), 2)])], [], [32], [], [], []), [(0, 3, (0, []))], [(0, 2)]), (271, [((-17), 2)]), 1, 16), (21, ([(0, (0, 0, (0, [(1, 0)]))), (1, (0, 0, (0, [(1, 1)]))), (2, (2, 0, (0, []))), (3, (0, 0, (0, [(1, 2)]))), (4, (0, 0, (0, [(1, 3)])))], [], ([(0, 10), (1, 15), (0, 14), (0, 15)], [((-1), [((-1), 2), (1, 1)]), (0, [(1, 1), ((-1), 3)]), (1, [(1, 2), ((-1), 3)])], [], [32], [], [], []), [(0, 3, (0, [])), (0, 4, (0, []))], [(0, 2)]), (255, [(1, 3), ((-17), 2)]), 1, 16)]
theorem k96 : chk (mkD iX11_hotHours fX11 lX11 kX11 kkX11 96 [] c96 false 5 u96) 4000 = true := by decide +kernel
theorem m96 {X0 : zC0} (H : ∀ j, j < 96 → CMj X0 j) : CMj X0 96 := by
  obtain ⟨l0, D0, cy0, ax0⟩ := X0
  intro mi c hc
  have e : conAt 96 = some (41, c96) := rfl
  rw [e] at hc
  obtain ⟨rfl, rfl⟩ := Prod.mk.inj (Option.some.inj hc)
  have e2 : mt 41 = (yX11_hotHours, cX11_hotHours, 5, (some (.array .long))) := rfl
  rw [e2]
  have h := chk_ok (l0 := l0) (D0 := D0) (cy0 := cy0) (ax0 := ax0) (y := yX11_hotHours) (cc := cX11_hotHours) (ret := (some (.array .long))) k96 (mk_ok jX11_hotHours fX11_ok lX11_ok kX11_ok kkX11_ok H) ⟨_, rfl, Or.inr ⟨_, rfl⟩⟩ pnX11 nrA (fun h => by cases h) rfl
  exact h

/-! X11_filling (('k', 197), ('n',), ('n',), ('n',), ('n',), ('n',), ('n',)) -/
def u97 : List (Nat × TP × EX × Nat × Nat) := [(104, ([(0, (2, 0, (0, []))), (1, (0, 0, (0, [(1, 0)]))), (2, (0, 0, (0, [(1, 1)]))), (3, (0, 0, (0, [(1, 2)]))), (4, (0, 0, (0, [(1, 3)]))), (5, (0, 0, (0, [(1, 4)]))), (6, (0, 0, (0, [(1, 5)]))), (7, (2, 1, (0, []))), (8, (0, 0, (0, [(1, 6)]))), (9, (1, 0, (0, [(1, 10)]))), (11, (1, 0, (0, [(1, 11)]))), (13, (0, 0, (0, [(1, 12)])))], [], ([(0, 7), (0, 10), (0, 99), (0, 99), (0, 15), (0, 1), ((-2147483648), 2147483647), ((-2147483648), 2147483647), ((-2147483648), 2147483647), (1, 8), ((-9223372036854775808), 9223372036854775807), ((-9223372036854775808), 9223372036854775807), (0, 16)], [((-1), [(1, 9), ((-1), 0)]), (1, [(1, 4), ((-1), 12)]), ((-1), [(1, 12), ((-1), 0), (1, 9)])], [], [197, 32], [((54, (0, [(1, 0)])), (0, [(1, 7)])), ((46, (0, [(1, 0)])), (0, [(1, 8)])), ((41, (1, [])), (0, [(1, 9)]))], [], []), [(0, 8, (0, [])), (2, 54, (0, [(1, 0)])), (2, 46, (0, [(1, 0)])), (2, 41, (1, [])), (0, 9, (0, [])), (0, 11, (0, [])), (0, 13, (0, []))], [(0, 7)]), (16, [((-1), 12)]), 1, 16)]
theorem k97 : chk (mkD iX11_filling fX11 lX11 kX11 kkX11 97 [(8, [7]), (18, [56]), (28, [56]), (39, [56]), (50, [56]), (63, [96]), (163, [85])] c97 false 15 u97) 4000 = true := by decide +kernel
theorem m97 {X0 : zC0} (H : ∀ j, j < 97 → CMj X0 j) : CMj X0 97 := by
  obtain ⟨l0, D0, cy0, ax0⟩ := X0
  intro mi c hc
  have e : conAt 97 = some (35, c97) := rfl
  rw [e] at hc
  obtain ⟨rfl, rfl⟩ := Prod.mk.inj (Option.some.inj hc)
  have e2 : mt 35 = (yX11_filling, cX11_filling, 15, (some .long)) := rfl
  rw [e2]
  have h := chk_ok (l0 := l0) (D0 := D0) (cy0 := cy0) (ax0 := ax0) (y := yX11_filling) (cc := cX11_filling) (ret := (some .long)) k97 (mk_ok jX11_filling fX11_ok lX11_ok kX11_ok kkX11_ok H) rfl pnX11 nrJ (fun h => by cases h) rfl
  exact h

/-! X1_addForecast (('k', 62), ('n',), ('n',)) -/
def u98 : List (Nat × TP × EX × Nat × Nat) := []
theorem k98 : chk (mkD iX1_addForecast fX1 lX1 kX1 kkX1 98 [] c98 false 3 u98) 4000 = true := by decide +kernel
theorem m98 {X0 : zC0} (H : ∀ j, j < 98 → CMj X0 j) : CMj X0 98 := by
  obtain ⟨l0, D0, cy0, ax0⟩ := X0
  intro mi c hc
  have e : conAt 98 = some (204, c98) := rfl
  rw [e] at hc
  obtain ⟨rfl, rfl⟩ := Prod.mk.inj (Option.some.inj hc)
  have e2 : mt 204 = (yX1_addForecast, cX1_addForecast, 3, (some .int)) := rfl
  rw [e2]
  have h := chk_ok (l0 := l0) (D0 := D0) (cy0 := cy0) (ax0 := ax0) (y := yX1_addForecast) (cc := cX1_addForecast) (ret := (some .int)) k98 (mk_ok jX1_addForecast fX1_ok lX1_ok kX1_ok kkX1_ok H) ⟨_, rfl⟩ pnX1 nrI (fun h => by cases h) rfl
  exact h

/-! X11_forecast (('k', 197), ('n',), ('n',)) -/
def u99 : List (Nat × TP × EX × Nat × Nat) := []
theorem k99 : chk (mkD iX11_forecast fX11 lX11 kX11 kkX11 99 [(24, [71]), (45, [98])] c99 false 4 u99) 4000 = true := by decide +kernel
theorem m99 {X0 : zC0} (H : ∀ j, j < 99 → CMj X0 j) : CMj X0 99 := by
  obtain ⟨l0, D0, cy0, ax0⟩ := X0
  intro mi c hc
  have e : conAt 99 = some (36, c99) := rfl
  rw [e] at hc
  obtain ⟨rfl, rfl⟩ := Prod.mk.inj (Option.some.inj hc)
  have e2 : mt 36 = (yX11_forecast, cX11_forecast, 4, (some .int)) := rfl
  rw [e2]
  have h := chk_ok (l0 := l0) (D0 := D0) (cy0 := cy0) (ax0 := ax0) (y := yX11_forecast) (cc := cX11_forecast) (ret := (some .int)) k99 (mk_ok jX11_forecast fX11_ok lX11_ok kX11_ok kkX11_ok H) ⟨_, rfl⟩ pnX11 nrI (fun h => by cases h) rfl
  exact h
