/-! X9_pass (('k', 126), ('k', 158)) -/
def u150 : List (Nat × TP × EX × Nat × Nat) := [(10, ([(0, (2, 0, (0, []))), (1, (2, 1, (0, []))), (2, (2, 2, (0, []))), (3, (0, 0, (0, [(1, 1)])))], [], ([(1, 1000), (0, 8)], [], [], [126, 158, 41], [((158, (9, [])), (0, [(1, 0)]))], [(164, 0, 5)], []), [(0, 3, (0, []))], [(0, 2)]), (24, [((-1), 1)]), 0, 0), (73, ([(0, (2, 0, (0, []))), (1, (2, 1, (0, []))), (2, (2, 2, (0, []))), (3, (0, 0, (0, [(1, 2)])))], [], ([(1, 1000), (0, 8), (0, 8), (0, 255)], [(0, [(1, 1), ((-1), 2)])], [], [126, 158, 41], [((126, (3, [])), (0, [(1, 3)])), ((41, (1, [])), (0, [(1, 1)])), ((158, (9, [])), (0, [(1, 0)]))], [(164, 0, 5)], []), [(2, 41, (1, [])), (0, 3, (0, [])), (2, 126, (3, []))], [(0, 2)]), (15, [((-1), 2)]), 0, 0), (122, ([(0, (2, 0, (0, []))), (1, (2, 1, (0, []))), (2, (2, 2, (0, []))), (3, (0, 0, (0, [(1, 3)])))], [], ([(1, 1000), (0, 255), (0, 8), (0, 6)], [], [], [126, 158, 41], [((126, (3, [])), (0, [(1, 1)])), ((41, (1, [])), (0, [(1, 2)])), ((158, (9, [])), (0, [(1, 0)]))], [(164, 0, 5)], []), [(2, 126, (3, [])), (2, 41, (1, [])), (0, 3, (0, []))], [(0, 2)]), (6, [((-1), 3)]), 0, 0)]
theorem k150 : chk (mkD iX9_pass fX9 lX9 kX9 kkX9 150 [(26, [147]), (111, [148]), (145, [149]), (159, [40]), (176, [0])] c150 false 4 u150) 4000 = true := by decide +kernel
theorem m150 {X0 : zC0} (H : ∀ j, j < 150 → CMj X0 j) : CMj X0 150 := by
  obtain ⟨l0, D0, cy0, ax0⟩ := X0
  intro mi c hc
  have e : conAt 150 = some (276, c150) := rfl
  rw [e] at hc
  obtain ⟨rfl, rfl⟩ := Prod.mk.inj (Option.some.inj hc)
  have e2 : mt 276 = (yX9_pass, cX9_pass, 4, (some .int)) := rfl
  rw [e2]
  have h := chk_ok (l0 := l0) (D0 := D0) (cy0 := cy0) (ax0 := ax0) (y := yX9_pass) (cc := cX9_pass) (ret := (some .int)) k150 (mk_ok jX9_pass fX9_ok lX9_ok kX9_ok kkX9_ok H) ⟨_, rfl⟩ pnX9 nrI (fun h => by cases h) rfl
  exact h

/-! X9_named (('k', 126), ('n',), ('n',), ('m', 167)) -/
def u151 : List (Nat × TP × EX × Nat × Nat) := []
theorem k151 : chk (mkD iX9_named fX9 lX9 kX9 kkX9 151 [] c151 false 4 u151) 4000 = true := by decide +kernel
theorem m151 {X0 : zC0} (H : ∀ j, j < 151 → CMj X0 j) : CMj X0 151 := by
  obtain ⟨l0, D0, cy0, ax0⟩ := X0
  intro mi c hc
  have e : conAt 151 = some (275, c151) := rfl
  rw [e] at hc
  obtain ⟨rfl, rfl⟩ := Prod.mk.inj (Option.some.inj hc)
  have e2 : mt 275 = (yX9_named, cX9_named, 4, (some .int)) := rfl
  rw [e2]
  have h := chk_ok (l0 := l0) (D0 := D0) (cy0 := cy0) (ax0 := ax0) (y := yX9_named) (cc := cX9_named) (ret := (some .int)) k151 (mk_ok jX9_named fX9_ok lX9_ok kX9_ok kkX9_ok H) ⟨_, rfl⟩ pnX9 nrI (fun h => by cases h) rfl
  exact h

/-! X9_run (('k', 126), ('k', 20), ('n',), ('n',), ('n',), ('m', 167)) -/
def u152 : List (Nat × TP × EX × Nat × Nat) := [(6, ([(0, (2, 0, (0, []))), (1, (2, 1, (0, []))), (2, (0, 0, (0, [(1, 0)]))), (3, (0, 0, (0, [(1, 1)]))), (4, (0, 0, (0, [(1, 2)]))), (5, (0, 0, (0, [(1, 3)]))), (6, (0, 0, (0, [(1, 4)])))], [], ([(0, 300), (0, 300), ((-1), 7), (0, 96), (0, 300)], [(0, [(1, 1), ((-1), 3)]), (0, [(1, 4), ((-1), 0)]), (0, [(1, 4), ((-1), 3)]), (0, [((-1), 3), (1, 4), ((-1), 0)])], [], [126, 20], [((126, (7, [])), (167, []))], [], []), [(0, 5, (0, [])), (0, 6, (0, []))], []), (300, [((-1), 4)]), 0, 0)]
theorem k152 : chk (mkDm iX9_run fX9 lX9 kX9 kkX9 152 [(80, [151]), (236, [62]), (239, [63])] c152 false 9 mac_X9_run u152) 4000 = true := by decide +kernel
theorem m152 {X0 : zC0} (H : ∀ j, j < 152 → CMj X0 j) : CMj X0 152 := by
  obtain ⟨l0, D0, cy0, ax0⟩ := X0
  intro mi c hc
  have e : conAt 152 = some (278, c152) := rfl
  rw [e] at hc
  obtain ⟨rfl, rfl⟩ := Prod.mk.inj (Option.some.inj hc)
  have e2 : mt 278 = (yX9_run, cX9_run, 9, (some .int)) := rfl
  rw [e2]
  have h := chkM_ok (l0 := l0) (D0 := D0) (cy0 := cy0) (ax0 := ax0) (y := yX9_run) (cc := cX9_run) (ret := (some .int)) k152 (mkm_ok jX9_run fX9_ok lX9_ok kX9_ok kkX9_ok H) ⟨_, rfl⟩ pnX9 nrI (fun h => by cases h) (fun E X hE h1 h2 => mac_X9_run_ok hE h1 (by decide))
  exact h

/-! X9_law (('k', 126), ('n',), ('n',), ('k', 167), ('n',), ('n',)) -/
def u153 : List (Nat × TP × EX × Nat × Nat) := [(47, ([(0, (2, 0, (0, []))), (1, (0, 0, (0, [(1, 0)]))), (2, (0, 0, (0, [(1, 1)]))), (3, (2, 1, (0, []))), (4, (0, 0, (0, [(1, 2)]))), (5, (0, 0, (0, [(1, 3)]))), (6, (2, 2, (0, []))), (7, (0, 0, (0, [(1, 4)])))], [], ([(0, 3), ((-2147483648), 2147483647), (0, 5), ((-1), 7), ((-1), 299), (0, 3), (1, 4)], [((-1), [((-1), 5), (1, 6)])], [], [126, 167, 20], [((126, (8, [])), (0, [(1, 2)])), ((126, (7, [])), (167, [])), ((40, (6, [])), (0, [(1, 5)])), ((40, (5, [])), (0, [(1, 6)]))], [], []), [(0, 7, (0, [])), (2, 40, (6, [])), (2, 40, (5, []))], [(0, 6)]), (19, [(10, 4)]), 0, 0), (65, ([(0, (2, 0, (0, []))), (1, (0, 0, (0, [(1, 0)]))), (2, (0, 0, (0, [(1, 1)]))), (3, (2, 1, (0, []))), (4, (0, 0, (0, [(1, 2)]))), (5, (0, 0, (0, [(1, 3)]))), (6, (2, 2, (0, []))), (7, (0, 0, (0, [(1, 4)]))), (8, (0, 0, (0, [(1, 7)]))), (9, (0, 0, (0, [(1, 8)])))], [], ([(0, 3), ((-2147483648), 2147483647), (0, 5), ((-1), 7), (0, 299), (0, 3), (1, 4), ((-2147483648), 2147483647), (0, 8)], [((-1), [(1, 6), ((-1), 5)]), ((-1), [(1, 8), ((-1), 5), (1, 6)])], [], [126, 167, 20], [((126, (8, [])), (0, [(1, 2)])), ((126, (7, [])), (167, [])), ((40, (6, [])), (0, [(1, 5)])), ((40, (5, [])), (0, [(1, 6)]))], [], []), [(0, 7, (0, [])), (2, 40, (6, [])), (2, 40, (5, [])), (0, 8, (0, [])), (0, 9, (0, []))], [(0, 6)]), (18, [((-1), 8), (10, 4)]), 0, 0)]
theorem k153 : chk (mkD iX9_law fX9 lX9 kX9 kkX9 153 [(4, [59]), (17, [60]), (116, [152]), (121, [63]), (166, [152])] c153 false 10 u153) 4000 = true := by decide +kernel
theorem m153 {X0 : zC0} (H : ∀ j, j < 153 → CMj X0 j) : CMj X0 153 := by
  obtain ⟨l0, D0, cy0, ax0⟩ := X0
  intro mi c hc
  have e : conAt 153 = some (273, c153) := rfl
  rw [e] at hc
  obtain ⟨rfl, rfl⟩ := Prod.mk.inj (Option.some.inj hc)
  have e2 : mt 273 = (yX9_law, cX9_law, 10, (some .int)) := rfl
  rw [e2]
  have h := chk_ok (l0 := l0) (D0 := D0) (cy0 := cy0) (ax0 := ax0) (y := yX9_law) (cc := cX9_law) (ret := (some .int)) k153 (mk_ok jX9_law fX9_ok lX9_ok kX9_ok kkX9_ok H) ⟨_, rfl⟩ pnX9 nrI (fun h => by cases h) rfl
  exact h

/-! X9_sweatOf (('k', 126), ('k', 167), ('n',)) -/
def u154 : List (Nat × TP × EX × Nat × Nat) := []
theorem k154 : chk (mkD iX9_sweatOf fX9 lX9 kX9 kkX9 154 [(16, [153]), (24, [53])] c154 false 4 u154) 4000 = true := by decide +kernel
theorem m154 {X0 : zC0} (H : ∀ j, j < 154 → CMj X0 j) : CMj X0 154 := by
  obtain ⟨l0, D0, cy0, ax0⟩ := X0
  intro mi c hc
  have e : conAt 154 = some (279, c154) := rfl
  rw [e] at hc
  obtain ⟨rfl, rfl⟩ := Prod.mk.inj (Option.some.inj hc)
  have e2 : mt 279 = (yX9_sweatOf, cX9_sweatOf, 4, (some .int)) := rfl
  rw [e2]
  have h := chk_ok (l0 := l0) (D0 := D0) (cy0 := cy0) (ax0 := ax0) (y := yX9_sweatOf) (cc := cX9_sweatOf) (ret := (some .int)) k154 (mk_ok jX9_sweatOf fX9_ok lX9_ok kX9_ok kkX9_ok H) ⟨_, rfl⟩ pnX9 nrI (fun h => by cases h) rfl
  exact h

/-! X9_rainFrom (('k', 126), ('k', 167), ('n',)) -/
def u155 : List (Nat × TP × EX × Nat × Nat) := []
theorem k155 : chk (mkD iX9_rainFrom fX9 lX9 kX9 kkX9 155 [(22, [153]), (28, [53]), (54, [153]), (60, [53]), (116, [34])] c155 false 8 u155) 4000 = true := by decide +kernel
theorem m155 {X0 : zC0} (H : ∀ j, j < 155 → CMj X0 j) : CMj X0 155 := by
  obtain ⟨l0, D0, cy0, ax0⟩ := X0
  intro mi c hc
  have e : conAt 155 = some (277, c155) := rfl
  rw [e] at hc
  obtain ⟨rfl, rfl⟩ := Prod.mk.inj (Option.some.inj hc)
  have e2 : mt 277 = (yX9_rainFrom, cX9_rainFrom, 8, none) := rfl
  rw [e2]
  have h := chk_ok (l0 := l0) (D0 := D0) (cy0 := cy0) (ax0 := ax0) (y := yX9_rainFrom) (cc := cX9_rainFrom) (ret := none) k155 (mk_ok jX9_rainFrom fX9_ok lX9_ok kX9_ok kkX9_ok H) rfl pnX9 nrV (fun h => by cases h) rfl
  exact h

/-! X9_closeHour (('k', 126), ('k', 167), ('n',)) -/
def u156 : List (Nat × TP × EX × Nat × Nat) := []
theorem k156 : chk (mkD iX9_closeHour fX9 lX9 kX9 kkX9 156 [(72, [153]), (78, [53])] c156 false 6 u156) 4000 = true := by decide +kernel
theorem m156 {X0 : zC0} (H : ∀ j, j < 156 → CMj X0 j) : CMj X0 156 := by
  obtain ⟨l0, D0, cy0, ax0⟩ := X0
  intro mi c hc
  have e : conAt 156 = some (271, c156) := rfl
  rw [e] at hc
  obtain ⟨rfl, rfl⟩ := Prod.mk.inj (Option.some.inj hc)
  have e2 : mt 271 = (yX9_closeHour, cX9_closeHour, 6, none) := rfl
  rw [e2]
  have h := chk_ok (l0 := l0) (D0 := D0) (cy0 := cy0) (ax0 := ax0) (y := yX9_closeHour) (cc := cX9_closeHour) (ret := none) k156 (mk_ok jX9_closeHour fX9_ok lX9_ok kX9_ok kkX9_ok H) rfl pnX9 nrV (fun h => by cases h) rfl
  exact h

/-! X9_pass (('k', 126), ('k', 167)) -/
def u157 : List (Nat × TP × EX × Nat × Nat) := [(10, ([(0, (2, 0, (0, []))), (1, (2, 1, (0, []))), (2, (2, 2, (0, []))), (3, (0, 0, (0, [(1, 1)])))], [], ([(2, 1001), (0, 8)], [], [], [126, 167, 41], [((167, (9, [])), (0, [(1, 0)]))], [(173, 0, 5)], []), [(0, 3, (0, []))], [(0, 2)]), (24, [((-1), 1)]), 0, 0), (73, ([(0, (2, 0, (0, []))), (1, (2, 1, (0, []))), (2, (2, 2, (0, []))), (3, (0, 0, (0, [(1, 2)])))], [], ([(2, 1001), (0, 8), (0, 8), (0, 255)], [(0, [(1, 1), ((-1), 2)])], [], [126, 167, 41], [((126, (3, [])), (0, [(1, 3)])), ((41, (1, [])), (0, [(1, 1)])), ((167, (9, [])), (0, [(1, 0)]))], [(173, 0, 5)], []), [(2, 41, (1, [])), (0, 3, (0, [])), (2, 126, (3, []))], [(0, 2)]), (15, [((-1), 2)]), 0, 0), (122, ([(0, (2, 0, (0, []))), (1, (2, 1, (0, []))), (2, (2, 2, (0, []))), (3, (0, 0, (0, [(1, 3)])))], [], ([(2, 1001), (0, 255), (0, 8), (0, 6)], [], [], [126, 167, 41], [((126, (3, [])), (0, [(1, 1)])), ((41, (1, [])), (0, [(1, 2)])), ((167, (9, [])), (0, [(1, 0)]))], [(173, 0, 5)], []), [(2, 126, (3, [])), (2, 41, (1, [])), (0, 3, (0, []))], [(0, 2)]), (6, [((-1), 3)]), 0, 0)]
theorem k157 : chk (mkD iX9_pass fX9 lX9 kX9 kkX9 157 [(26, [154]), (111, [155]), (145, [156]), (159, [41]), (176, [0])] c157 false 4 u157) 4000 = true := by decide +kernel
theorem m157 {X0 : zC0} (H : ∀ j, j < 157 → CMj X0 j) : CMj X0 157 := by
  obtain ⟨l0, D0, cy0, ax0⟩ := X0
  intro mi c hc
  have e : conAt 157 = some (276, c157) := rfl
  rw [e] at hc
  obtain ⟨rfl, rfl⟩ := Prod.mk.inj (Option.some.inj hc)
  have e2 : mt 276 = (yX9_pass, cX9_pass, 4, (some .int)) := rfl
  rw [e2]
  have h := chk_ok (l0 := l0) (D0 := D0) (cy0 := cy0) (ax0 := ax0) (y := yX9_pass) (cc := cX9_pass) (ret := (some .int)) k157 (mk_ok jX9_pass fX9_ok lX9_ok kX9_ok kkX9_ok H) ⟨_, rfl⟩ pnX9 nrI (fun h => by cases h) rfl
  exact h

/-! X9_named (('k', 126), ('n',), ('n',), ('m', 176)) -/
def u158 : List (Nat × TP × EX × Nat × Nat) := []
theorem k158 : chk (mkD iX9_named fX9 lX9 kX9 kkX9 158 [] c158 false 4 u158) 4000 = true := by decide +kernel
theorem m158 {X0 : zC0} (H : ∀ j, j < 158 → CMj X0 j) : CMj X0 158 := by
  obtain ⟨l0, D0, cy0, ax0⟩ := X0
  intro mi c hc
  have e : conAt 158 = some (275, c158) := rfl
  rw [e] at hc
  obtain ⟨rfl, rfl⟩ := Prod.mk.inj (Option.some.inj hc)
  have e2 : mt 275 = (yX9_named, cX9_named, 4, (some .int)) := rfl
  rw [e2]
  have h := chk_ok (l0 := l0) (D0 := D0) (cy0 := cy0) (ax0 := ax0) (y := yX9_named) (cc := cX9_named) (ret := (some .int)) k158 (mk_ok jX9_named fX9_ok lX9_ok kX9_ok kkX9_ok H) ⟨_, rfl⟩ pnX9 nrI (fun h => by cases h) rfl
  exact h

/-! X9_run (('k', 126), ('k', 20), ('n',), ('n',), ('n',), ('m', 176)) -/
def u159 : List (Nat × TP × EX × Nat × Nat) := [(6, ([(0, (2, 0, (0, []))), (1, (2, 1, (0, []))), (2, (0, 0, (0, [(1, 0)]))), (3, (0, 0, (0, [(1, 1)]))), (4, (0, 0, (0, [(1, 2)]))), (5, (0, 0, (0, [(1, 3)]))), (6, (0, 0, (0, [(1, 4)])))], [], ([(0, 300), (0, 300), ((-1), 7), (0, 96), (0, 300)], [(0, [(1, 1), ((-1), 3)]), (0, [(1, 4), ((-1), 0)]), (0, [(1, 4), ((-1), 3)]), (0, [((-1), 3), (1, 4), ((-1), 0)])], [], [126, 20], [((126, (7, [])), (176, []))], [], []), [(0, 5, (0, [])), (0, 6, (0, []))], []), (300, [((-1), 4)]), 0, 0)]
theorem k159 : chk (mkDm iX9_run fX9 lX9 kX9 kkX9 159 [(80, [158]), (236, [62]), (239, [63])] c159 false 9 mac_X9_run u159) 4000 = true := by decide +kernel
theorem m159 {X0 : zC0} (H : ∀ j, j < 159 → CMj X0 j) : CMj X0 159 := by
  obtain ⟨l0, D0, cy0, ax0⟩ := X0
  intro mi c hc
  have e : conAt 159 = some (278, c159) := rfl
  rw [e] at hc
  obtain ⟨rfl, rfl⟩ := Prod.mk.inj (Option.some.inj hc)
  have e2 : mt 278 = (yX9_run, cX9_run, 9, (some .int)) := rfl
  rw [e2]
  have h := chkM_ok (l0 := l0) (D0 := D0) (cy0 := cy0) (ax0 := ax0) (y := yX9_run) (cc := cX9_run) (ret := (some .int)) k159 (mkm_ok jX9_run fX9_ok lX9_ok kX9_ok kkX9_ok H) ⟨_, rfl⟩ pnX9 nrI (fun h => by cases h) (fun E X hE h1 h2 => mac_X9_run_ok hE h1 (by decide))
  exact h

/-! X9_law (('k', 126), ('n',), ('n',), ('k', 176), ('n',), ('n',)) -/
def u160 : List (Nat × TP × EX × Nat × Nat) := [(47, ([(0, (2, 0, (0, []))), (1, (0, 0, (0, [(1, 0)]))), (2, (0, 0, (0, [(1, 1)]))), (3, (2, 1, (0, []))), (4, (0, 0, (0, [(1, 2)]))), (5, (0, 0, (0, [(1, 3)]))), (6, (2, 2, (0, []))), (7, (0, 0, (0, [(1, 4)])))], [], ([(0, 3), ((-2147483648), 2147483647), (0, 5), ((-1), 7), ((-1), 299), (0, 3), (1, 4)], [((-1), [((-1), 5), (1, 6)])], [], [126, 176, 20], [((126, (8, [])), (0, [(1, 2)])), ((126, (7, [])), (176, [])), ((40, (6, [])), (0, [(1, 5)])), ((40, (5, [])), (0, [(1, 6)]))], [], []), [(0, 7, (0, [])), (2, 40, (6, [])), (2, 40, (5, []))], [(0, 6)]), (19, [(10, 4)]), 0, 0), (65, ([(0, (2, 0, (0, []))), (1, (0, 0, (0, [(1, 0)]))), (2, (0, 0, (0, [(1, 1)]))), (3, (2, 1, (0, []))), (4, (0, 0, (0, [(1, 2)]))), (5, (0, 0, (0, [(1, 3)]))), (6, (2, 2, (0, []))), (7, (0, 0, (0, [(1, 4)]))), (8, (0, 0, (0, [(1, 7)]))), (9, (0, 0, (0, [(1, 8)])))], [], ([(0, 3), ((-2147483648), 2147483647), (0, 5), ((-1), 7), (0, 299), (0, 3), (1, 4), ((-2147483648), 2147483647), (0, 8)], [((-1), [(1, 6), ((-1), 5)]), ((-1), [(1, 8), ((-1), 5), (1, 6)])], [], [126, 176, 20], [((126, (8, [])), (0, [(1, 2)])), ((126, (7, [])), (176, [])), ((40, (6, [])), (0, [(1, 5)])), ((40, (5, [])), (0, [(1, 6)]))], [], []), [(0, 7, (0, [])), (2, 40, (6, [])), (2, 40, (5, [])), (0, 8, (0, [])), (0, 9, (0, []))], [(0, 6)]), (18, [((-1), 8), (10, 4)]), 0, 0)]
theorem k160 : chk (mkD iX9_law fX9 lX9 kX9 kkX9 160 [(4, [59]), (17, [60]), (116, [159]), (121, [63]), (166, [159])] c160 false 10 u160) 4000 = true := by decide +kernel
theorem m160 {X0 : zC0} (H : ∀ j, j < 160 → CMj X0 j) : CMj X0 160 := by
  obtain ⟨l0, D0, cy0, ax0⟩ := X0
  intro mi c hc
  have e : conAt 160 = some (273, c160) := rfl
  rw [e] at hc
  obtain ⟨rfl, rfl⟩ := Prod.mk.inj (Option.some.inj hc)
  have e2 : mt 273 = (yX9_law, cX9_law, 10, (some .int)) := rfl
  rw [e2]
  have h := chk_ok (l0 := l0) (D0 := D0) (cy0 := cy0) (ax0 := ax0) (y := yX9_law) (cc := cX9_law) (ret := (some .int)) k160 (mk_ok jX9_law fX9_ok lX9_ok kX9_ok kkX9_ok H) ⟨_, rfl⟩ pnX9 nrI (fun h => by cases h) rfl
  exact h

/-! X9_sweatOf (('k', 126), ('k', 176), ('n',)) -/
def u161 : List (Nat × TP × EX × Nat × Nat) := []
theorem k161 : chk (mkD iX9_sweatOf fX9 lX9 kX9 kkX9 161 [(16, [160]), (24, [53])] c161 false 4 u161) 4000 = true := by decide +kernel
theorem m161 {X0 : zC0} (H : ∀ j, j < 161 → CMj X0 j) : CMj X0 161 := by
  obtain ⟨l0, D0, cy0, ax0⟩ := X0
  intro mi c hc
  have e : conAt 161 = some (279, c161) := rfl
  rw [e] at hc
  obtain ⟨rfl, rfl⟩ := Prod.mk.inj (Option.some.inj hc)
  have e2 : mt 279 = (yX9_sweatOf, cX9_sweatOf, 4, (some .int)) := rfl
  rw [e2]
  have h := chk_ok (l0 := l0) (D0 := D0) (cy0 := cy0) (ax0 := ax0) (y := yX9_sweatOf) (cc := cX9_sweatOf) (ret := (some .int)) k161 (mk_ok jX9_sweatOf fX9_ok lX9_ok kX9_ok kkX9_ok H) ⟨_, rfl⟩ pnX9 nrI (fun h => by cases h) rfl
  exact h

/-! X9_rainFrom (('k', 126), ('k', 176), ('n',)) -/
def u162 : List (Nat × TP × EX × Nat × Nat) := []
theorem k162 : chk (mkD iX9_rainFrom fX9 lX9 kX9 kkX9 162 [(22, [160]), (28, [53]), (54, [160]), (60, [53]), (116, [35])] c162 false 8 u162) 4000 = true := by decide +kernel
theorem m162 {X0 : zC0} (H : ∀ j, j < 162 → CMj X0 j) : CMj X0 162 := by
  obtain ⟨l0, D0, cy0, ax0⟩ := X0
  intro mi c hc
  have e : conAt 162 = some (277, c162) := rfl
  rw [e] at hc
  obtain ⟨rfl, rfl⟩ := Prod.mk.inj (Option.some.inj hc)
  have e2 : mt 277 = (yX9_rainFrom, cX9_rainFrom, 8, none) := rfl
  rw [e2]
  have h := chk_ok (l0 := l0) (D0 := D0) (cy0 := cy0) (ax0 := ax0) (y := yX9_rainFrom) (cc := cX9_rainFrom) (ret := none) k162 (mk_ok jX9_rainFrom fX9_ok lX9_ok kX9_ok kkX9_ok H) rfl pnX9 nrV (fun h => by cases h) rfl
  exact h

/-! X9_closeHour (('k', 126), ('k', 176), ('n',)) -/
def u163 : List (Nat × TP × EX × Nat × Nat) := []
theorem k163 : chk (mkD iX9_closeHour fX9 lX9 kX9 kkX9 163 [(72, [160]), (78, [53])] c163 false 6 u163) 4000 = true := by decide +kernel
theorem m163 {X0 : zC0} (H : ∀ j, j < 163 → CMj X0 j) : CMj X0 163 := by
  obtain ⟨l0, D0, cy0, ax0⟩ := X0
  intro mi c hc
  have e : conAt 163 = some (271, c163) := rfl
  rw [e] at hc
  obtain ⟨rfl, rfl⟩ := Prod.mk.inj (Option.some.inj hc)
  have e2 : mt 271 = (yX9_closeHour, cX9_closeHour, 6, none) := rfl
  rw [e2]
  have h := chk_ok (l0 := l0) (D0 := D0) (cy0 := cy0) (ax0 := ax0) (y := yX9_closeHour) (cc := cX9_closeHour) (ret := none) k163 (mk_ok jX9_closeHour fX9_ok lX9_ok kX9_ok kkX9_ok H) rfl pnX9 nrV (fun h => by cases h) rfl
  exact h

/-! X9_pass (('k', 126), ('k', 176)) -/
def u164 : List (Nat × TP × EX × Nat × Nat) := [(10, ([(0, (2, 0, (0, []))), (1, (2, 1, (0, []))), (2, (2, 2, (0, []))), (3, (0, 0, (0, [(1, 1)])))], [], ([(3, 1002), (0, 8)], [], [], [126, 176, 41], [((176, (9, [])), (0, [(1, 0)]))], [(182, 0, 5)], []), [(0, 3, (0, []))], [(0, 2)]), (24, [((-1), 1)]), 0, 0), (73, ([(0, (2, 0, (0, []))), (1, (2, 1, (0, []))), (2, (2, 2, (0, []))), (3, (0, 0, (0, [(1, 2)])))], [], ([(3, 1002), (0, 8), (0, 8), (0, 255)], [(0, [(1, 1), ((-1), 2)])], [], [126, 176, 41], [((126, (3, [])), (0, [(1, 3)])), ((41, (1, [])), (0, [(1, 1)])), ((176, (9, [])), (0, [(1, 0)]))], [(182, 0, 5)], []), [(2, 41, (1, [])), (0, 3, (0, [])), (2, 126, (3, []))], [(0, 2)]), (15, [((-1), 2)]), 0, 0), (122, ([(0, (2, 0, (0, []))), (1, (2, 1, (0, []))), (2, (2, 2, (0, []))), (3, (0, 0, (0, [(1, 3)])))], [], ([(3, 1002), (0, 255), (0, 8), (0, 6)], [], [], [126, 176, 41], [((126, (3, [])), (0, [(1, 1)])), ((41, (1, [])), (0, [(1, 2)])), ((176, (9, [])), (0, [(1, 0)]))], [(182, 0, 5)], []), [(2, 126, (3, [])), (2, 41, (1, [])), (0, 3, (0, []))], [(0, 2)]), (6, [((-1), 3)]), 0, 0)]
theorem k164 : chk (mkD iX9_pass fX9 lX9 kX9 kkX9 164 [(26, [161]), (111, [162]), (145, [163]), (159, [42]), (176, [0])] c164 false 4 u164) 4000 = true := by decide +kernel
theorem m164 {X0 : zC0} (H : ∀ j, j < 164 → CMj X0 j) : CMj X0 164 := by
  obtain ⟨l0, D0, cy0, ax0⟩ := X0
  intro mi c hc
  have e : conAt 164 = some (276, c164) := rfl
  rw [e] at hc
  obtain ⟨rfl, rfl⟩ := Prod.mk.inj (Option.some.inj hc)
  have e2 : mt 276 = (yX9_pass, cX9_pass, 4, (some .int)) := rfl
  rw [e2]
  have h := chk_ok (l0 := l0) (D0 := D0) (cy0 := cy0) (ax0 := ax0) (y := yX9_pass) (cc := cX9_pass) (ret := (some .int)) k164 (mk_ok jX9_pass fX9_ok lX9_ok kX9_ok kkX9_ok H) ⟨_, rfl⟩ pnX9 nrI (fun h => by cases h) rfl
  exact h

/-! X9_named (('k', 126), ('n',), ('n',), ('m', 185)) -/
def u165 : List (Nat × TP × EX × Nat × Nat) := []
theorem k165 : chk (mkD iX9_named fX9 lX9 kX9 kkX9 165 [] c165 false 4 u165) 4000 = true := by decide +kernel
theorem m165 {X0 : zC0} (H : ∀ j, j < 165 → CMj X0 j) : CMj X0 165 := by
  obtain ⟨l0, D0, cy0, ax0⟩ := X0
  intro mi c hc
  have e : conAt 165 = some (275, c165) := rfl
  rw [e] at hc
  obtain ⟨rfl, rfl⟩ := Prod.mk.inj (Option.some.inj hc)
  have e2 : mt 275 = (yX9_named, cX9_named, 4, (some .int)) := rfl
  rw [e2]
  have h := chk_ok (l0 := l0) (D0 := D0) (cy0 := cy0) (ax0 := ax0) (y := yX9_named) (cc := cX9_named) (ret := (some .int)) k165 (mk_ok jX9_named fX9_ok lX9_ok kX9_ok kkX9_ok H) ⟨_, rfl⟩ pnX9 nrI (fun h => by cases h) rfl
  exact h

/-! X9_run (('k', 126), ('k', 20), ('n',), ('n',), ('n',), ('m', 185)) -/
def u166 : List (Nat × TP × EX × Nat × Nat) := [(6, ([(0, (2, 0, (0, []))), (1, (2, 1, (0, []))), (2, (0, 0, (0, [(1, 0)]))), (3, (0, 0, (0, [(1, 1)]))), (4, (0, 0, (0, [(1, 2)]))), (5, (0, 0, (0, [(1, 3)]))), (6, (0, 0, (0, [(1, 4)])))], [], ([(0, 300), (0, 300), ((-1), 7), (0, 96), (0, 300)], [(0, [(1, 1), ((-1), 3)]), (0, [(1, 4), ((-1), 0)]), (0, [(1, 4), ((-1), 3)]), (0, [((-1), 3), (1, 4), ((-1), 0)])], [], [126, 20], [((126, (7, [])), (185, []))], [], []), [(0, 5, (0, [])), (0, 6, (0, []))], []), (300, [((-1), 4)]), 0, 0)]
theorem k166 : chk (mkDm iX9_run fX9 lX9 kX9 kkX9 166 [(80, [165]), (236, [62]), (239, [63])] c166 false 9 mac_X9_run u166) 4000 = true := by decide +kernel
theorem m166 {X0 : zC0} (H : ∀ j, j < 166 → CMj X0 j) : CMj X0 166 := by
  obtain ⟨l0, D0, cy0, ax0⟩ := X0
  intro mi c hc
  have e : conAt 166 = some (278, c166) := rfl
  rw [e] at hc
  obtain ⟨rfl, rfl⟩ := Prod.mk.inj (Option.some.inj hc)
  have e2 : mt 278 = (yX9_run, cX9_run, 9, (some .int)) := rfl
  rw [e2]
  have h := chkM_ok (l0 := l0) (D0 := D0) (cy0 := cy0) (ax0 := ax0) (y := yX9_run) (cc := cX9_run) (ret := (some .int)) k166 (mkm_ok jX9_run fX9_ok lX9_ok kX9_ok kkX9_ok H) ⟨_, rfl⟩ pnX9 nrI (fun h => by cases h) (fun E X hE h1 h2 => mac_X9_run_ok hE h1 (by decide))
  exact h

/-! X9_law (('k', 126), ('n',), ('n',), ('k', 185), ('n',), ('n',)) -/
def u167 : List (Nat × TP × EX × Nat × Nat) := [(47, ([(0, (2, 0, (0, []))), (1, (0, 0, (0, [(1, 0)]))), (2, (0, 0, (0, [(1, 1)]))), (3, (2, 1, (0, []))), (4, (0, 0, (0, [(1, 2)]))), (5, (0, 0, (0, [(1, 3)]))), (6, (2, 2, (0, []))), (7, (0, 0, (0, [(1, 4)])))], [], ([(0, 3), ((-2147483648), 2147483647), (0, 5), ((-1), 7), ((-1), 299), (0, 3), (1, 4)], [((-1), [((-1), 5), (1, 6)])], [], [126, 185, 20], [((126, (8, [])), (0, [(1, 2)])), ((126, (7, [])), (185, [])), ((40, (6, [])), (0, [(1, 5)])), ((40, (5, [])), (0, [(1, 6)]))], [], []), [(0, 7, (0, [])), (2, 40, (6, [])), (2, 40, (5, []))], [(0, 6)]), (19, [(10, 4)]), 0, 0), (65, ([(0, (2, 0, (0, []))), (1, (0, 0, (0, [(1, 0)]))), (2, (0, 0, (0, [(1, 1)]))), (3, (2, 1, (0, []))), (4, (0, 0, (0, [(1, 2)]))), (5, (0, 0, (0, [(1, 3)]))), (6, (2, 2, (0, []))), (7, (0, 0, (0, [(1, 4)]))), (8, (0, 0, (0, [(1, 7)]))), (9, (0, 0, (0, [(1, 8)])))], [], ([(0, 3), ((-2147483648), 2147483647), (0, 5), ((-1), 7), (0, 299), (0, 3), (1, 4), ((-2147483648), 2147483647), (0, 8)], [((-1), [(1, 6), ((-1), 5)]), ((-1), [(1, 8), ((-1), 5), (1, 6)])], [], [126, 185, 20], [((126, (8, [])), (0, [(1, 2)])), ((126, (7, [])), (185, [])), ((40, (6, [])), (0, [(1, 5)])), ((40, (5, [])), (0, [(1, 6)]))], [], []), [(0, 7, (0, [])), (2, 40, (6, [])), (2, 40, (5, [])), (0, 8, (0, [])), (0, 9, (0, []))], [(0, 6)]), (18, [((-1), 8), (10, 4)]), 0, 0)]
theorem k167 : chk (mkD iX9_law fX9 lX9 kX9 kkX9 167 [(4, [59]), (17, [60]), (116, [166]), (121, [63]), (166, [166])] c167 false 10 u167) 4000 = true := by decide +kernel
theorem m167 {X0 : zC0} (H : ∀ j, j < 167 → CMj X0 j) : CMj X0 167 := by
  obtain ⟨l0, D0, cy0, ax0⟩ := X0
  intro mi c hc
  have e : conAt 167 = some (273, c167) := rfl
  rw [e] at hc
  obtain ⟨rfl, rfl⟩ := Prod.mk.inj (Option.some.inj hc)
  have e2 : mt 273 = (yX9_law, cX9_law, 10, (some .int)) := rfl
  rw [e2]
  have h := chk_ok (l0 := l0) (D0 := D0) (cy0 := cy0) (ax0 := ax0) (y := yX9_law) (cc := cX9_law) (ret := (some .int)) k167 (mk_ok jX9_law fX9_ok lX9_ok kX9_ok kkX9_ok H) ⟨_, rfl⟩ pnX9 nrI (fun h => by cases h) rfl
  exact h

/-! X9_sweatOf (('k', 126), ('k', 185), ('n',)) -/
def u168 : List (Nat × TP × EX × Nat × Nat) := []
theorem k168 : chk (mkD iX9_sweatOf fX9 lX9 kX9 kkX9 168 [(16, [167]), (24, [53])] c168 false 4 u168) 4000 = true := by decide +kernel
theorem m168 {X0 : zC0} (H : ∀ j, j < 168 → CMj X0 j) : CMj X0 168 := by
  obtain ⟨l0, D0, cy0, ax0⟩ := X0
  intro mi c hc
  have e : conAt 168 = some (279, c168) := rfl
  rw [e] at hc
  obtain ⟨rfl, rfl⟩ := Prod.mk.inj (Option.some.inj hc)
  have e2 : mt 279 = (yX9_sweatOf, cX9_sweatOf, 4, (some .int)) := rfl
  rw [e2]
  have h := chk_ok (l0 := l0) (D0 := D0) (cy0 := cy0) (ax0 := ax0) (y := yX9_sweatOf) (cc := cX9_sweatOf) (ret := (some .int)) k168 (mk_ok jX9_sweatOf fX9_ok lX9_ok kX9_ok kkX9_ok H) ⟨_, rfl⟩ pnX9 nrI (fun h => by cases h) rfl
  exact h

/-! X9_rainFrom (('k', 126), ('k', 185), ('n',)) -/
def u169 : List (Nat × TP × EX × Nat × Nat) := []
theorem k169 : chk (mkD iX9_rainFrom fX9 lX9 kX9 kkX9 169 [(22, [167]), (28, [53]), (54, [167]), (60, [53]), (116, [36])] c169 false 8 u169) 4000 = true := by decide +kernel
theorem m169 {X0 : zC0} (H : ∀ j, j < 169 → CMj X0 j) : CMj X0 169 := by
  obtain ⟨l0, D0, cy0, ax0⟩ := X0
  intro mi c hc
  have e : conAt 169 = some (277, c169) := rfl
  rw [e] at hc
  obtain ⟨rfl, rfl⟩ := Prod.mk.inj (Option.some.inj hc)
  have e2 : mt 277 = (yX9_rainFrom, cX9_rainFrom, 8, none) := rfl
  rw [e2]
  have h := chk_ok (l0 := l0) (D0 := D0) (cy0 := cy0) (ax0 := ax0) (y := yX9_rainFrom) (cc := cX9_rainFrom) (ret := none) k169 (mk_ok jX9_rainFrom fX9_ok lX9_ok kX9_ok kkX9_ok H) rfl pnX9 nrV (fun h => by cases h) rfl
  exact h

/-! X9_closeHour (('k', 126), ('k', 185), ('n',)) -/
def u170 : List (Nat × TP × EX × Nat × Nat) := []
theorem k170 : chk (mkD iX9_closeHour fX9 lX9 kX9 kkX9 170 [(72, [167]), (78, [53])] c170 false 6 u170) 4000 = true := by decide +kernel
theorem m170 {X0 : zC0} (H : ∀ j, j < 170 → CMj X0 j) : CMj X0 170 := by
  obtain ⟨l0, D0, cy0, ax0⟩ := X0
  intro mi c hc
  have e : conAt 170 = some (271, c170) := rfl
  rw [e] at hc
  obtain ⟨rfl, rfl⟩ := Prod.mk.inj (Option.some.inj hc)
  have e2 : mt 271 = (yX9_closeHour, cX9_closeHour, 6, none) := rfl
  rw [e2]
  have h := chk_ok (l0 := l0) (D0 := D0) (cy0 := cy0) (ax0 := ax0) (y := yX9_closeHour) (cc := cX9_closeHour) (ret := none) k170 (mk_ok jX9_closeHour fX9_ok lX9_ok kX9_ok kkX9_ok H) rfl pnX9 nrV (fun h => by cases h) rfl
  exact h

/-! X9_pass (('k', 126), ('k', 185)) -/
def u171 : List (Nat × TP × EX × Nat × Nat) := [(10, ([(0, (2, 0, (0, []))), (1, (2, 1, (0, []))), (2, (2, 2, (0, []))), (3, (0, 0, (0, [(1, 1)])))], [], ([(4, 1003), (0, 8)], [], [], [126, 185, 41], [((185, (9, [])), (0, [(1, 0)]))], [(191, 0, 5)], []), [(0, 3, (0, []))], [(0, 2)]), (24, [((-1), 1)]), 0, 0), (73, ([(0, (2, 0, (0, []))), (1, (2, 1, (0, []))), (2, (2, 2, (0, []))), (3, (0, 0, (0, [(1, 2)])))], [], ([(4, 1003), (0, 8), (0, 8), (0, 255)], [(0, [(1, 1), ((-1), 2)])], [], [126, 185, 41], [((126, (3, [])), (0, [(1, 3)])), ((41, (1, [])), (0, [(1, 1)])), ((185, (9, [])), (0, [(1, 0)]))], [(191, 0, 5)], []), [(2, 41, (1, [])), (0, 3, (0, [])), (2, 126, (3, []))], [(0, 2)]), (15, [((-1), 2)]), 0, 0), (122, ([(0, (2, 0, (0, []))), (1, (2, 1, (0, []))), (2, (2, 2, (0, []))), (3, (0, 0, (0, [(1, 3)])))], [], ([(4, 1003), (0, 255), (0, 8), (0, 6)], [], [], [126, 185, 41], [((126, (3, [])), (0, [(1, 1)])), ((41, (1, [])), (0, [(1, 2)])), ((185, (9, [])), (0, [(1, 0)]))], [(191, 0, 5)], []), [(2, 126, (3, [])), (2, 41, (1, [])), (0, 3, (0, []))], [(0, 2)]), (6, [((-1), 3)]), 0, 0)]
theorem k171 : chk (mkD iX9_pass fX9 lX9 kX9 kkX9 171 [(26, [168]), (111, [169]), (145, [170]), (159, [43]), (176, [0])] c171 false 4 u171) 4000 = true := by decide +kernel
theorem m171 {X0 : zC0} (H : ∀ j, j < 171 → CMj X0 j) : CMj X0 171 := by
  obtain ⟨l0, D0, cy0, ax0⟩ := X0
  intro mi c hc
  have e : conAt 171 = some (276, c171) := rfl
  rw [e] at hc
  obtain ⟨rfl, rfl⟩ := Prod.mk.inj (Option.some.inj hc)
  have e2 : mt 276 = (yX9_pass, cX9_pass, 4, (some .int)) := rfl
  rw [e2]
  have h := chk_ok (l0 := l0) (D0 := D0) (cy0 := cy0) (ax0 := ax0) (y := yX9_pass) (cc := cX9_pass) (ret := (some .int)) k171 (mk_ok jX9_pass fX9_ok lX9_ok kX9_ok kkX9_ok H) ⟨_, rfl⟩ pnX9 nrI (fun h => by cases h) rfl
  exact h

/-! X2_tryWork (('k', 131), ('n',), ('n',), ('c', 5), ('n',), ('n',)) -/
def u172 : List (Nat × TP × EX × Nat × Nat) := []
theorem k172 : chk (mkD iX2_tryWork fX2 lX2 kX2 kkX2 172 [] c172 false 11 u172) 4000 = true := by decide +kernel
theorem m172 {X0 : zC0} (H : ∀ j, j < 172 → CMj X0 j) : CMj X0 172 := by
  obtain ⟨l0, D0, cy0, ax0⟩ := X0
  intro mi c hc
  have e : conAt 172 = some (222, c172) := rfl
  rw [e] at hc
  obtain ⟨rfl, rfl⟩ := Prod.mk.inj (Option.some.inj hc)
  have e2 : mt 222 = (yX2_tryWork, cX2_tryWork, 11, none) := rfl
  rw [e2]
  have h := chk_ok (l0 := l0) (D0 := D0) (cy0 := cy0) (ax0 := ax0) (y := yX2_tryWork) (cc := cX2_tryWork) (ret := none) k172 (mk_ok jX2_tryWork fX2_ok lX2_ok kX2_ok kkX2_ok H) rfl pnX2 nrV (fun h => by cases h) rfl
  exact h

/-! X2_tryWork (('k', 131), ('n',), ('n',), ('c', 4), ('n',), ('n',)) -/
def u173 : List (Nat × TP × EX × Nat × Nat) := [(63, ([(0, (2, 0, (0, []))), (1, (0, 0, (0, [(1, 0)]))), (2, (0, 0, (0, [(1, 1)]))), (3, (0, 0, (4, []))), (4, (0, 0, (0, [(1, 2)]))), (5, (0, 0, (0, [(1, 3)]))), (6, (2, 1, (0, []))), (7, (0, 0, (0, [(1, 5)]))), (8, (0, 0, (0, [(1, 6)])))], [], ([(0, 7), (5, 5), ((-2147483648), 2147483647), (0, 1), (4, 1003), (0, 5), (0, 4)], [], [], [131, 185], [((56, (0, [(1, 0)])), (0, [(1, 5)])), ((176, (9, [])), (0, [(1, 4)]))], [(182, 0, 5)], []), [(0, 7, (0, [])), (0, 8, (0, []))], [(0, 6)]), (4, [((-1), 6)]), 0, 0)]
theorem k173 : chk (mkD iX2_tryWork fX2 lX2 kX2 kkX2 173 [(77, [17]), (95, [171]), (204, [172])] c173 false 11 u173) 4000 = true := by decide +kernel
theorem m173 {X0 : zC0} (H : ∀ j, j < 173 → CMj X0 j) : CMj X0 173 := by
  obtain ⟨l0, D0, cy0, ax0⟩ := X0
  intro mi c hc
  have e : conAt 173 = some (222, c173) := rfl
  rw [e] at hc
  obtain ⟨rfl, rfl⟩ := Prod.mk.inj (Option.some.inj hc)
  have e2 : mt 222 = (yX2_tryWork, cX2_tryWork, 11, none) := rfl
  rw [e2]
  have h := chk_ok (l0 := l0) (D0 := D0) (cy0 := cy0) (ax0 := ax0) (y := yX2_tryWork) (cc := cX2_tryWork) (ret := none) k173 (mk_ok jX2_tryWork fX2_ok lX2_ok kX2_ok kkX2_ok H) rfl pnX2 nrV (fun h => by cases h) rfl
  exact h

/-! X2_tryWork (('k', 131), ('n',), ('n',), ('c', 3), ('n',), ('n',)) -/
def u174 : List (Nat × TP × EX × Nat × Nat) := [(63, ([(0, (2, 0, (0, []))), (1, (0, 0, (0, [(1, 0)]))), (2, (0, 0, (0, [(1, 1)]))), (3, (0, 0, (3, []))), (4, (0, 0, (0, [(1, 2)]))), (5, (0, 0, (0, [(1, 3)]))), (6, (2, 1, (0, []))), (7, (0, 0, (0, [(1, 5)]))), (8, (0, 0, (0, [(1, 6)])))], [], ([(0, 7), (4, 5), ((-2147483648), 2147483647), (0, 1), (3, 1002), (0, 5), (0, 4)], [], [], [131, 176], [((56, (0, [(1, 0)])), (0, [(1, 5)])), ((167, (9, [])), (0, [(1, 4)]))], [(173, 0, 5)], []), [(0, 7, (0, [])), (0, 8, (0, []))], [(0, 6)]), (4, [((-1), 6)]), 0, 0)]
theorem k174 : chk (mkD iX2_tryWork fX2 lX2 kX2 kkX2 174 [(77, [16]), (95, [164]), (204, [173])] c174 false 11 u174) 4000 = true := by decide +kernel
theorem m174 {X0 : zC0} (H : ∀ j, j < 174 → CMj X0 j) : CMj X0 174 := by
  obtain ⟨l0, D0, cy0, ax0⟩ := X0
  intro mi c hc
  have e : conAt 174 = some (222, c174) := rfl
  rw [e] at hc
  obtain ⟨rfl, rfl⟩ := Prod.mk.inj (Option.some.inj hc)
  have e2 : mt 222 = (yX2_tryWork, cX2_tryWork, 11, none) := rfl
  rw [e2]
  have h := chk_ok (l0 := l0) (D0 := D0) (cy0 := cy0) (ax0 := ax0) (y := yX2_tryWork) (cc := cX2_tryWork) (ret := none) k174 (mk_ok jX2_tryWork fX2_ok lX2_ok kX2_ok kkX2_ok H) rfl pnX2 nrV (fun h => by cases h) rfl
  exact h

/-! X2_tryWork (('k', 131), ('n',), ('n',), ('c', 2), ('n',), ('n',)) -/
def u175 : List (Nat × TP × EX × Nat × Nat) := [(63, ([(0, (2, 0, (0, []))), (1, (0, 0, (0, [(1, 0)]))), (2, (0, 0, (0, [(1, 1)]))), (3, (0, 0, (2, []))), (4, (0, 0, (0, [(1, 2)]))), (5, (0, 0, (0, [(1, 3)]))), (6, (2, 1, (0, []))), (7, (0, 0, (0, [(1, 5)]))), (8, (0, 0, (0, [(1, 6)])))], [], ([(0, 7), (3, 5), ((-2147483648), 2147483647), (0, 1), (2, 1001), (0, 5), (0, 4)], [], [], [131, 167], [((56, (0, [(1, 0)])), (0, [(1, 5)])), ((158, (9, [])), (0, [(1, 4)]))], [(164, 0, 5)], []), [(0, 7, (0, [])), (0, 8, (0, []))], [(0, 6)]), (4, [((-1), 6)]), 0, 0)]
theorem k175 : chk (mkD iX2_tryWork fX2 lX2 kX2 kkX2 175 [(77, [15]), (95, [157]), (204, [174])] c175 false 11 u175) 4000 = true := by decide +kernel
theorem m175 {X0 : zC0} (H : ∀ j, j < 175 → CMj X0 j) : CMj X0 175 := by
  obtain ⟨l0, D0, cy0, ax0⟩ := X0
  intro mi c hc
  have e : conAt 175 = some (222, c175) := rfl
  rw [e] at hc
  obtain ⟨rfl, rfl⟩ := Prod.mk.inj (Option.some.inj hc)
  have e2 : mt 222 = (yX2_tryWork, cX2_tryWork, 11, none) := rfl
  rw [e2]
  have h := chk_ok (l0 := l0) (D0 := D0) (cy0 := cy0) (ax0 := ax0) (y := yX2_tryWork) (cc := cX2_tryWork) (ret := none) k175 (mk_ok jX2_tryWork fX2_ok lX2_ok kX2_ok kkX2_ok H) rfl pnX2 nrV (fun h => by cases h) rfl
  exact h

/-! X2_tryWork (('k', 131), ('n',), ('n',), ('c', 1), ('n',), ('n',)) -/
def u176 : List (Nat × TP × EX × Nat × Nat) := [(63, ([(0, (2, 0, (0, []))), (1, (0, 0, (0, [(1, 0)]))), (2, (0, 0, (0, [(1, 1)]))), (3, (0, 0, (1, []))), (4, (0, 0, (0, [(1, 2)]))), (5, (0, 0, (0, [(1, 3)]))), (6, (2, 1, (0, []))), (7, (0, 0, (0, [(1, 5)]))), (8, (0, 0, (0, [(1, 6)])))], [], ([(0, 7), (2, 5), ((-2147483648), 2147483647), (0, 1), (1, 1000), (0, 5), (0, 4)], [], [], [131, 158], [((56, (0, [(1, 0)])), (0, [(1, 5)])), ((149, (9, [])), (0, [(1, 4)]))], [(155, 0, 5)], []), [(0, 7, (0, [])), (0, 8, (0, []))], [(0, 6)]), (4, [((-1), 6)]), 0, 0)]
theorem k176 : chk (mkD iX2_tryWork fX2 lX2 kX2 kkX2 176 [(77, [14]), (95, [150]), (204, [175])] c176 false 11 u176) 4000 = true := by decide +kernel
theorem m176 {X0 : zC0} (H : ∀ j, j < 176 → CMj X0 j) : CMj X0 176 := by
  obtain ⟨l0, D0, cy0, ax0⟩ := X0
  intro mi c hc
  have e : conAt 176 = some (222, c176) := rfl
  rw [e] at hc
  obtain ⟨rfl, rfl⟩ := Prod.mk.inj (Option.some.inj hc)
  have e2 : mt 222 = (yX2_tryWork, cX2_tryWork, 11, none) := rfl
  rw [e2]
  have h := chk_ok (l0 := l0) (D0 := D0) (cy0 := cy0) (ax0 := ax0) (y := yX2_tryWork) (cc := cX2_tryWork) (ret := none) k176 (mk_ok jX2_tryWork fX2_ok lX2_ok kX2_ok kkX2_ok H) rfl pnX2 nrV (fun h => by cases h) rfl
  exact h

/-! X2_tryWork (('k', 131), ('n',), ('n',), ('c', 0), ('n',), ('n',)) -/
def u177 : List (Nat × TP × EX × Nat × Nat) := [(63, ([(0, (2, 0, (0, []))), (1, (0, 0, (0, [(1, 0)]))), (2, (0, 0, (0, [(1, 1)]))), (3, (0, 0, (0, []))), (4, (0, 0, (0, [(1, 2)]))), (5, (0, 0, (0, [(1, 3)]))), (6, (2, 1, (0, []))), (7, (0, 0, (0, [(1, 5)]))), (8, (0, 0, (0, [(1, 6)])))], [], ([(0, 7), (1, 5), (0, 0), (0, 0), (0, 999), (0, 5), (0, 4)], [], [], [131, 149], [((56, (0, [(1, 0)])), (0, [(1, 5)])), ((140, (9, [])), (0, [(1, 4)]))], [(146, 0, 5)], []), [(0, 7, (0, [])), (0, 8, (0, []))], [(0, 6)]), (4, [((-1), 6)]), 0, 0)]
theorem k177 : chk (mkD iX2_tryWork fX2 lX2 kX2 kkX2 177 [(77, [13]), (95, [143]), (204, [176])] c177 false 11 u177) 4000 = true := by decide +kernel
theorem m177 {X0 : zC0} (H : ∀ j, j < 177 → CMj X0 j) : CMj X0 177 := by
  obtain ⟨l0, D0, cy0, ax0⟩ := X0
  intro mi c hc
  have e : conAt 177 = some (222, c177) := rfl
  rw [e] at hc
  obtain ⟨rfl, rfl⟩ := Prod.mk.inj (Option.some.inj hc)
  have e2 : mt 222 = (yX2_tryWork, cX2_tryWork, 11, none) := rfl
  rw [e2]
  have h := chk_ok (l0 := l0) (D0 := D0) (cy0 := cy0) (ax0 := ax0) (y := yX2_tryWork) (cc := cX2_tryWork) (ret := none) k177 (mk_ok jX2_tryWork fX2_ok lX2_ok kX2_ok kkX2_ok H) rfl pnX2 nrV (fun h => by cases h) rfl
  exact h

/-! X2_planWork (('k', 131), ('n',), ('n',)) -/
def u178 : List (Nat × TP × EX × Nat × Nat) := []
theorem k178 : chk (mkD iX2_planWork fX2 lX2 kX2 kkX2 178 [(1, [100]), (16, [177])] c178 false 3 u178) 4000 = true := by decide +kernel
theorem m178 {X0 : zC0} (H : ∀ j, j < 178 → CMj X0 j) : CMj X0 178 := by
  obtain ⟨l0, D0, cy0, ax0⟩ := X0
  intro mi c hc
  have e : conAt 178 = some (220, c178) := rfl
  rw [e] at hc
  obtain ⟨rfl, rfl⟩ := Prod.mk.inj (Option.some.inj hc)
  have e2 : mt 220 = (yX2_planWork, cX2_planWork, 3, none) := rfl
  rw [e2]
  have h := chk_ok (l0 := l0) (D0 := D0) (cy0 := cy0) (ax0 := ax0) (y := yX2_planWork) (cc := cX2_planWork) (ret := none) k178 (mk_ok jX2_planWork fX2_ok lX2_ok kX2_ok kkX2_ok H) rfl pnX2 nrV (fun h => by cases h) rfl
  exact h

/-! X11_plan (('k', 197), ('n',), ('n',), ('n',)) -/
def u179 : List (Nat × TP × EX × Nat × Nat) := []
theorem k179 : chk (mkD iX11_plan fX11 lX11 kX11 kkX11 179 [(8, [7]), (17, [56]), (28, [56]), (42, [178])] c179 false 4 u179) 4000 = true := by decide +kernel
theorem m179 {X0 : zC0} (H : ∀ j, j < 179 → CMj X0 j) : CMj X0 179 := by
  obtain ⟨l0, D0, cy0, ax0⟩ := X0
  intro mi c hc
  have e : conAt 179 = some (56, c179) := rfl
  rw [e] at hc
  obtain ⟨rfl, rfl⟩ := Prod.mk.inj (Option.some.inj hc)
  have e2 : mt 56 = (yX11_plan, cX11_plan, 4, (some .int)) := rfl
  rw [e2]
  have h := chk_ok (l0 := l0) (D0 := D0) (cy0 := cy0) (ax0 := ax0) (y := yX11_plan) (cc := cX11_plan) (ret := (some .int)) k179 (mk_ok jX11_plan fX11_ok lX11_ok kX11_ok kkX11_ok H) ⟨_, rfl⟩ pnX11 nrI (fun h => by cases h) rfl
  exact h

/-! X11_played (('k', 197), ('n',)) -/
def u180 : List (Nat × TP × EX × Nat × Nat) := [(26, ([(0, (2, 0, (0, []))), (1, (0, 0, (0, [(1, 0)]))), (2, (2, 1, (0, []))), (3, (0, 0, (0, [(1, 2)])))], [], ([(0, 3), (1, 4), (0, 24)], [((-1), [(1, 1), ((-1), 0)]), ((-1), [(1, 2), ((-1), 0), (1, 1)])], [], [197, 20], [((40, (5, [])), (0, [(1, 1)])), ((71, (0, [(1, 0)])), (20, []))], [], []), [(2, 40, (5, [])), (0, 3, (0, []))], [(0, 2)]), (24, [((-1), 2)]), 0, 0)]
theorem k180 : chk (mkD iX11_played fX11 lX11 kX11 kkX11 180 [(5, [54]), (47, [84])] c180 false 4 u180) 4000 = true := by decide +kernel
theorem m180 {X0 : zC0} (H : ∀ j, j < 180 → CMj X0 j) : CMj X0 180 := by
  obtain ⟨l0, D0, cy0, ax0⟩ := X0
  intro mi c hc
  have e : conAt 180 = some (57, c180) := rfl
  rw [e] at hc
  obtain ⟨rfl, rfl⟩ := Prod.mk.inj (Option.some.inj hc)
  have e2 : mt 57 = (yX11_played, cX11_played, 4, (some .int)) := rfl
  rw [e2]
  have h := chk_ok (l0 := l0) (D0 := D0) (cy0 := cy0) (ax0 := ax0) (y := yX11_played) (cc := cX11_played) (ret := (some .int)) k180 (mk_ok jX11_played fX11_ok lX11_ok kX11_ok kkX11_ok H) ⟨_, rfl⟩ pnX11 nrI (fun h => by cases h) rfl
  exact h

/-! X11_rained (('k', 197), ('n',), ('n',)) -/
def u181 : List (Nat × TP × EX × Nat × Nat) := []
theorem k181 : chk (mkD iX11_rained fX11 lX11 kX11 kkX11 181 [(66, [27]), (72, [26]), (78, [25]), (84, [24])] c181 false 4 u181) 4000 = true := by decide +kernel
theorem m181 {X0 : zC0} (H : ∀ j, j < 181 → CMj X0 j) : CMj X0 181 := by
  obtain ⟨l0, D0, cy0, ax0⟩ := X0
  intro mi c hc
  have e : conAt 181 = some (59, c181) := rfl
  rw [e] at hc
  obtain ⟨rfl, rfl⟩ := Prod.mk.inj (Option.some.inj hc)
  have e2 : mt 59 = (yX11_rained, cX11_rained, 4, (some .int)) := rfl
  rw [e2]
  have h := chk_ok (l0 := l0) (D0 := D0) (cy0 := cy0) (ax0 := ax0) (y := yX11_rained) (cc := cX11_rained) (ret := (some .int)) k181 (mk_ok jX11_rained fX11_ok lX11_ok kX11_ok kkX11_ok H) ⟨_, rfl⟩ pnX11 nrI (fun h => by cases h) rfl
  exact h

/-! X11_shares (('k', 197), ('n',), ('n',), ('n',)) -/
def u182 : List (Nat × TP × EX × Nat × Nat) := [(56, ([(0, (2, 0, (0, []))), (1, (0, 0, (0, [(1, 0)]))), (2, (0, 0, (0, [(1, 1)]))), (3, (0, 0, (0, [(1, 2)]))), (4, (2, 1, (0, []))), (5, (0, 0, (0, [(1, 4)]))), (6, (0, 0, (0, [(1, 5)])))], [], ([((-2147483648), 2147483647), (0, 999), (0, 7), (0, 8), ((-2147483648), 2147483647), (0, 8)], [(0, [(1, 3), ((-1), 5)])], [], [197, 54], [((41, (1, [])), (0, [(1, 3)]))], [], []), [(2, 41, (1, [])), (0, 5, (0, [])), (0, 6, (0, []))], [(0, 4)]), (17, [((-1), 5)]), 0, 0), (128, ([(0, (2, 0, (0, []))), (1, (0, 0, (0, [(1, 0)]))), (2, (0, 0, (0, [(1, 1)]))), (3, (0, 0, (0, [(1, 2)]))), (4, (2, 1, (0, []))), (5, (0, 0, (0, [(1, 3)]))), (6, (0, 0, (0, [(1, 4)]))), (7, (0, 0, (0, [(1, 7)]))), (8, (0, 0, (0, [(1, 8)]))), (9, (0, 0, (0, [(1, 9)])))], [], ([((-2147483648), 2147483647), (0, 999), (0, 7), (1, 2147483647), ((-2147483648), 2147483647), ((-2147483648), 2147483647), (0, 8), ((-2147483648), 2147483647), (0, 8), (0, 8)], [(0, [(1, 6), ((-1), 8)]), (0, [(1, 6), ((-1), 9)]), (0, [(1, 9), ((-1), 8)])], [], [197, 54], [((54, (0, [(1, 2)])), (0, [(1, 5)])), ((41, (1, [])), (0, [(1, 6)]))], [], []), [(0, 5, (0, [])), (0, 6, (0, [])), (2, 54, (0, [(1, 2)])), (2, 41, (1, [])), (0, 7, (0, [])), (0, 8, (0, [])), (0, 9, (0, []))], [(0, 4)]), (8, [((-1), 9)]), 0, 0)]
theorem k182 : chk (mkD iX11_shares fX11 lX11 kX11 kkX11 182 [(11, [120]), (22, [56]), (30, [109]), (76, [109]), (146, [109])] c182 false 11 u182) 4000 = true := by decide +kernel
theorem m182 {X0 : zC0} (H : ∀ j, j < 182 → CMj X0 j) : CMj X0 182 := by
  obtain ⟨l0, D0, cy0, ax0⟩ := X0
  intro mi c hc
  have e : conAt 182 = some (62, c182) := rfl
  rw [e] at hc
  obtain ⟨rfl, rfl⟩ := Prod.mk.inj (Option.some.inj hc)
  have e2 : mt 62 = (yX11_shares, cX11_shares, 11, (some .int)) := rfl
  rw [e2]
  have h := chk_ok (l0 := l0) (D0 := D0) (cy0 := cy0) (ax0 := ax0) (y := yX11_shares) (cc := cX11_shares) (ret := (some .int)) k182 (mk_ok jX11_shares fX11_ok lX11_ok kX11_ok kkX11_ok H) ⟨_, rfl⟩ pnX11 nrI (fun h => by cases h) rfl
  exact h

/-! X6_addToken (('k', 120), ('n',), ('n',)) -/
def u183 : List (Nat × TP × EX × Nat × Nat) := []
theorem k183 : chk (mkD iX6_addToken fX6 lX6 kX6 kkX6 183 [] c183 false 3 u183) 4000 = true := by decide +kernel
theorem m183 {X0 : zC0} (H : ∀ j, j < 183 → CMj X0 j) : CMj X0 183 := by
  obtain ⟨l0, D0, cy0, ax0⟩ := X0
  intro mi c hc
  have e : conAt 183 = some (256, c183) := rfl
  rw [e] at hc
  obtain ⟨rfl, rfl⟩ := Prod.mk.inj (Option.some.inj hc)
  have e2 : mt 256 = (yX6_addToken, cX6_addToken, 3, none) := rfl
  rw [e2]
  have h := chk_ok (l0 := l0) (D0 := D0) (cy0 := cy0) (ax0 := ax0) (y := yX6_addToken) (cc := cX6_addToken) (ret := none) k183 (mk_ok jX6_addToken fX6_ok lX6_ok kX6_ok kkX6_ok H) rfl pnX6 nrV (fun h => by cases h) rfl
  exact h

/-! X6_isLetter (('n',),) -/
def u184 : List (Nat × TP × EX × Nat × Nat) := []
theorem k184 : chk (mkD iX6_isLetter fX6 lX6 kX6 kkX6 184 [(5, [56]), (16, [56])] c184 true 1 u184) 4000 = true := by decide +kernel
theorem m184 {X0 : zC0} (H : ∀ j, j < 184 → CMj X0 j) : CMj X0 184 := by
  obtain ⟨l0, D0, cy0, ax0⟩ := X0
  intro mi c hc
  have e : conAt 184 = some (261, c184) := rfl
  rw [e] at hc
  obtain ⟨rfl, rfl⟩ := Prod.mk.inj (Option.some.inj hc)
  have e2 : mt 261 = (yX6_isLetter, cX6_isLetter, 1, (some .boolean)) := rfl
  rw [e2]
  have h := chk_ok (l0 := l0) (D0 := D0) (cy0 := cy0) (ax0 := ax0) (y := yX6_isLetter) (cc := cX6_isLetter) (ret := (some .boolean)) k184 (mk_ok jX6_isLetter fX6_ok lX6_ok kX6_ok kkX6_ok H) ⟨_, rfl⟩ pnX6 (fun h => by cases h) (fun _ => rfl) rfl
  exact h

/-! X6_isDigit (('n',),) -/
def u185 : List (Nat × TP × EX × Nat × Nat) := []
theorem k185 : chk (mkD iX6_isDigit fX6 lX6 kX6 kkX6 185 [(5, [56])] c185 true 1 u185) 4000 = true := by decide +kernel
theorem m185 {X0 : zC0} (H : ∀ j, j < 185 → CMj X0 j) : CMj X0 185 := by
  obtain ⟨l0, D0, cy0, ax0⟩ := X0
  intro mi c hc
  have e : conAt 185 = some (260, c185) := rfl
  rw [e] at hc
  obtain ⟨rfl, rfl⟩ := Prod.mk.inj (Option.some.inj hc)
  have e2 : mt 260 = (yX6_isDigit, cX6_isDigit, 1, (some .boolean)) := rfl
  rw [e2]
  have h := chk_ok (l0 := l0) (D0 := D0) (cy0 := cy0) (ax0 := ax0) (y := yX6_isDigit) (cc := cX6_isDigit) (ret := (some .boolean)) k185 (mk_ok jX6_isDigit fX6_ok lX6_ok kX6_ok kkX6_ok H) ⟨_, rfl⟩ pnX6 (fun h => by cases h) (fun _ => rfl) rfl
  exact h

/-! X6_addSign (('k', 120), ('n',)) -/
def u186 : List (Nat × TP × EX × Nat × Nat) := []
theorem k186 : chk (mkDm iX6_addSign fX6 lX6 kX6 kkX6 186 [(91, [183])] c186 false 5 mac_X6_addSign u186) 4000 = true := by decide +kernel
theorem m186 {X0 : zC0} (H : ∀ j, j < 186 → CMj X0 j) : CMj X0 186 := by
  obtain ⟨l0, D0, cy0, ax0⟩ := X0
  intro mi c hc
  have e : conAt 186 = some (255, c186) := rfl
  rw [e] at hc
  obtain ⟨rfl, rfl⟩ := Prod.mk.inj (Option.some.inj hc)
  have e2 : mt 255 = (yX6_addSign, cX6_addSign, 5, (some .int)) := rfl
  rw [e2]
  have h := chkM_ok (l0 := l0) (D0 := D0) (cy0 := cy0) (ax0 := ax0) (y := yX6_addSign) (cc := cX6_addSign) (ret := (some .int)) k186 (mkm_ok jX6_addSign fX6_ok lX6_ok kX6_ok kkX6_ok H) ⟨_, rfl⟩ pnX6 nrI (fun h => by cases h) (fun E X hE h1 h2 => mac_X6_addSign_ok hE h1 (by decide))
  exact h

/-! X6_addNumber (('k', 120), ('n',)) -/
def u187 : List (Nat × TP × EX × Nat × Nat) := [(4, ([(0, (2, 0, (0, []))), (1, (0, 0, (0, [(1, 0)]))), (2, (0, 0, (0, [(1, 1)]))), (3, (0, 0, (0, [(1, 2)])))], [], ([(0, 299), (0, 10000), (0, 300)], [(0, [(1, 2), ((-1), 0)])], [], [120], [], [], []), [(0, 2, (0, [])), (0, 3, (0, []))], []), (300, [((-1), 2)]), 0, 0)]
theorem k187 : chk (mkD iX6_addNumber fX6 lX6 kX6 kkX6 187 [(18, [185]), (55, [183])] c187 false 4 u187) 4000 = true := by decide +kernel
theorem m187 {X0 : zC0} (H : ∀ j, j < 187 → CMj X0 j) : CMj X0 187 := by
  obtain ⟨l0, D0, cy0, ax0⟩ := X0
  intro mi c hc
  have e : conAt 187 = some (254, c187) := rfl
  rw [e] at hc
  obtain ⟨rfl, rfl⟩ := Prod.mk.inj (Option.some.inj hc)
  have e2 : mt 254 = (yX6_addNumber, cX6_addNumber, 4, (some .int)) := rfl
  rw [e2]
  have h := chk_ok (l0 := l0) (D0 := D0) (cy0 := cy0) (ax0 := ax0) (y := yX6_addNumber) (cc := cX6_addNumber) (ret := (some .int)) k187 (mk_ok jX6_addNumber fX6_ok lX6_ok kX6_ok kkX6_ok H) ⟨_, rfl⟩ pnX6 nrI (fun h => by cases h) rfl
  exact h

/-! X6_wordOf (('k', 120), ('n',), ('n',)) -/
def u188 : List (Nat × TP × EX × Nat × Nat) := [(11, ([(0, (2, 0, (0, []))), (1, (0, 0, (0, [(1, 0)]))), (2, (0, 0, (0, [(1, 1)]))), (3, (0, 0, (0, [(1, 2)]))), (4, (0, 0, (0, [(1, 3)]))), (5, (0, 0, (0, [(1, 4)]))), (6, (0, 0, (0, [(1, 5)])))], [], ([(0, 299), (0, 300), (0, 185), (0, 484), (0, 1), (0, 185)], [(0, [(1, 3), ((-1), 0)]), (0, [(1, 5), ((-1), 2)]), (1, [((-1), 4), (1, 3), ((-1), 0)]), (0, [((-1), 3), (1, 0), (1, 5)]), ((-1), [(1, 4), (1, 3)]), (299, [((-1), 3), (1, 5)]), ((-1), [(1, 5), (1, 4)])], [], [120], [], [], []), [(0, 3, (0, [])), (0, 4, (0, [])), (0, 5, (0, [])), (0, 6, (0, []))], []), (185, [((-1), 5)]), 0, 0)]
theorem k188 : chk (mkDm iX6_wordOf fX6 lX6 kX6 kkX6 188 [] c188 false 8 mac_X6_wordOf u188) 4000 = true := by decide +kernel
theorem m188 {X0 : zC0} (H : ∀ j, j < 188 → CMj X0 j) : CMj X0 188 := by
  obtain ⟨l0, D0, cy0, ax0⟩ := X0
  intro mi c hc
  have e : conAt 188 = some (262, c188) := rfl
  rw [e] at hc
  obtain ⟨rfl, rfl⟩ := Prod.mk.inj (Option.some.inj hc)
  have e2 : mt 262 = (yX6_wordOf, cX6_wordOf, 8, (some .int)) := rfl
  rw [e2]
  have h := chkM_ok (l0 := l0) (D0 := D0) (cy0 := cy0) (ax0 := ax0) (y := yX6_wordOf) (cc := cX6_wordOf) (ret := (some .int)) k188 (mkm_ok jX6_wordOf fX6_ok lX6_ok kX6_ok kkX6_ok H) ⟨_, rfl⟩ pnX6 nrI (fun h => by cases h) (fun E X hE h1 h2 => mac_X6_wordOf_ok hE h1 (by decide))
  exact h

/-! X6_addWord (('k', 120), ('n',)) -/
def u189 : List (Nat × TP × EX × Nat × Nat) := [(2, ([(0, (2, 0, (0, []))), (1, (0, 0, (0, [(1, 0)]))), (2, (0, 0, (0, [(1, 1)])))], [], ([(0, 299), (0, 300)], [(0, [(1, 1), ((-1), 0)])], [], [120], [], [], []), [(0, 2, (0, []))], []), (300, [((-1), 1)]), 0, 0)]
theorem k189 : chk (mkD iX6_addWord fX6 lX6 kX6 kkX6 189 [(16, [184]), (32, [188]), (36, [183])] c189 false 3 u189) 4000 = true := by decide +kernel
theorem m189 {X0 : zC0} (H : ∀ j, j < 189 → CMj X0 j) : CMj X0 189 := by
  obtain ⟨l0, D0, cy0, ax0⟩ := X0
  intro mi c hc
  have e : conAt 189 = some (257, c189) := rfl
  rw [e] at hc
  obtain ⟨rfl, rfl⟩ := Prod.mk.inj (Option.some.inj hc)
  have e2 : mt 257 = (yX6_addWord, cX6_addWord, 3, (some .int)) := rfl
  rw [e2]
  have h := chk_ok (l0 := l0) (D0 := D0) (cy0 := cy0) (ax0 := ax0) (y := yX6_addWord) (cc := cX6_addWord) (ret := (some .int)) k189 (mk_ok jX6_addWord fX6_ok lX6_ok kX6_ok kkX6_ok H) ⟨_, rfl⟩ pnX6 nrI (fun h => by cases h) rfl
  exact h

/-! X6_findTokens (('k', 120),) -/
def u190 : List (Nat × TP × EX × Nat × Nat) := [(9, ([(0, (2, 0, (0, []))), (1, (0, 0, (0, [(1, 0)]))), (2, (0, 0, (0, [(1, 1)])))], [], ([(0, 300), (0, 300), (0, 301)], [], [], [120], [((120, (1, [])), (0, [(1, 2)]))], [], []), [(0, 1, (0, [])), (0, 2, (0, [])), (2, 120, (1, []))], []), (300, [((-1), 1)]), 0, 0)]
theorem k190 : chk (mkD iX6_findTokens fX6 lX6 kX6 kkX6 190 [(30, [184]), (38, [189]), (51, [185]), (59, [187]), (96, [186]), (113, [183])] c190 false 3 u190) 4000 = true := by decide +kernel
theorem m190 {X0 : zC0} (H : ∀ j, j < 190 → CMj X0 j) : CMj X0 190 := by
  obtain ⟨l0, D0, cy0, ax0⟩ := X0
  intro mi c hc
  have e : conAt 190 = some (259, c190) := rfl
  rw [e] at hc
  obtain ⟨rfl, rfl⟩ := Prod.mk.inj (Option.some.inj hc)
  have e2 : mt 259 = (yX6_findTokens, cX6_findTokens, 3, none) := rfl
  rw [e2]
  have h := chk_ok (l0 := l0) (D0 := D0) (cy0 := cy0) (ax0 := ax0) (y := yX6_findTokens) (cc := cX6_findTokens) (ret := none) k190 (mk_ok jX6_findTokens fX6_ok lX6_ok kX6_ok kkX6_ok H) rfl pnX6 nrV (fun h => by cases h) rfl
  exact h

/-! X3_advance (('k', 125),) -/
def u191 : List (Nat × TP × EX × Nat × Nat) := []
theorem k191 : chk (mkD iX3_advance fX3 lX3 kX3 kkX3 191 [] c191 false 1 u191) 4000 = true := by decide +kernel
theorem m191 {X0 : zC0} (H : ∀ j, j < 191 → CMj X0 j) : CMj X0 191 := by
  obtain ⟨l0, D0, cy0, ax0⟩ := X0
  intro mi c hc
  have e : conAt 191 = some (223, c191) := rfl
  rw [e] at hc
  obtain ⟨rfl, rfl⟩ := Prod.mk.inj (Option.some.inj hc)
  have e2 : mt 223 = (yX3_advance, cX3_advance, 1, none) := rfl
  rw [e2]
  have h := chk_ok (l0 := l0) (D0 := D0) (cy0 := cy0) (ax0 := ax0) (y := yX3_advance) (cc := cX3_advance) (ret := none) k191 (mk_ok jX3_advance fX3_ok lX3_ok kX3_ok kkX3_ok H) rfl pnX3 nrV (fun h => by cases h) rfl
  exact h

/-! X3_fail (('k', 125), ('n',)) -/
def u192 : List (Nat × TP × EX × Nat × Nat) := []
theorem k192 : chk (mkD iX3_fail fX3 lX3 kX3 kkX3 192 [] c192 false 2 u192) 4000 = true := by decide +kernel
theorem m192 {X0 : zC0} (H : ∀ j, j < 192 → CMj X0 j) : CMj X0 192 := by
  obtain ⟨l0, D0, cy0, ax0⟩ := X0
  intro mi c hc
  have e : conAt 192 = some (226, c192) := rfl
  rw [e] at hc
  obtain ⟨rfl, rfl⟩ := Prod.mk.inj (Option.some.inj hc)
  have e2 : mt 226 = (yX3_fail, cX3_fail, 2, none) := rfl
  rw [e2]
  have h := chk_ok (l0 := l0) (D0 := D0) (cy0 := cy0) (ax0 := ax0) (y := yX3_fail) (cc := cX3_fail) (ret := none) k192 (mk_ok jX3_fail fX3_ok lX3_ok kX3_ok kkX3_ok H) rfl pnX3 nrV (fun h => by cases h) rfl
  exact h

/-! X3_expectNumber (('k', 125), ('n',), ('n',)) -/
def u193 : List (Nat × TP × EX × Nat × Nat) := []
theorem k193 : chk (mkD iX3_expectNumber fX3 lX3 kX3 kkX3 193 [(11, [192]), (31, [56]), (39, [192]), (53, [191])] c193 false 3 u193) 4000 = true := by decide +kernel
theorem m193 {X0 : zC0} (H : ∀ j, j < 193 → CMj X0 j) : CMj X0 193 := by
  obtain ⟨l0, D0, cy0, ax0⟩ := X0
  intro mi c hc
  have e : conAt 193 = some (225, c193) := rfl
  rw [e] at hc
  obtain ⟨rfl, rfl⟩ := Prod.mk.inj (Option.some.inj hc)
  have e2 : mt 225 = (yX3_expectNumber, cX3_expectNumber, 3, none) := rfl
  rw [e2]
  have h := chk_ok (l0 := l0) (D0 := D0) (cy0 := cy0) (ax0 := ax0) (y := yX3_expectNumber) (cc := cX3_expectNumber) (ret := none) k193 (mk_ok jX3_expectNumber fX3_ok lX3_ok kX3_ok kkX3_ok H) rfl pnX3 nrV (fun h => by cases h) rfl
  exact h

/-! X3_expect (('k', 125), ('n',)) -/
def u194 : List (Nat × TP × EX × Nat × Nat) := []
theorem k194 : chk (mkD iX3_expect fX3 lX3 kX3 kkX3 194 [(10, [192]), (24, [191])] c194 false 2 u194) 4000 = true := by decide +kernel
theorem m194 {X0 : zC0} (H : ∀ j, j < 194 → CMj X0 j) : CMj X0 194 := by
  obtain ⟨l0, D0, cy0, ax0⟩ := X0
  intro mi c hc
  have e : conAt 194 = some (224, c194) := rfl
  rw [e] at hc
  obtain ⟨rfl, rfl⟩ := Prod.mk.inj (Option.some.inj hc)
  have e2 : mt 224 = (yX3_expect, cX3_expect, 2, none) := rfl
  rw [e2]
  have h := chk_ok (l0 := l0) (D0 := D0) (cy0 := cy0) (ax0 := ax0) (y := yX3_expect) (cc := cX3_expect) (ret := none) k194 (mk_ok jX3_expect fX3_ok lX3_ok kX3_ok kkX3_ok H) rfl pnX3 nrV (fun h => by cases h) rfl
  exact h

/-! X3_readParts (('k', 125), ('n',), ('n',)) -/
def u195 : List (Nat × TP × EX × Nat × Nat) := [(2, ([(0, (2, 0, (0, []))), (1, (0, 0, (0, [(1, 0)]))), (2, (0, 0, (0, [(1, 1)]))), (3, (0, 0, (0, [(1, 2)])))], [], ([(0, 23), (0, 8), (0, 3)], [], [], [125], [((125, (3, [])), (20, []))], [], []), [(0, 3, (0, []))], []), (3, [((-1), 2)]), 0, 0)]
theorem k195 : chk (mkDm iX3_readParts fX3 lX3 kX3 kkX3 195 [(51, [194]), (96, [193])] c195 false 5 mac_X3_readParts u195) 4000 = true := by decide +kernel
theorem m195 {X0 : zC0} (H : ∀ j, j < 195 → CMj X0 j) : CMj X0 195 := by
  obtain ⟨l0, D0, cy0, ax0⟩ := X0
  intro mi c hc
  have e : conAt 195 = some (238, c195) := rfl
  rw [e] at hc
  obtain ⟨rfl, rfl⟩ := Prod.mk.inj (Option.some.inj hc)
  have e2 : mt 238 = (yX3_readParts, cX3_readParts, 5, none) := rfl
  rw [e2]
  have h := chkM_ok (l0 := l0) (D0 := D0) (cy0 := cy0) (ax0 := ax0) (y := yX3_readParts) (cc := cX3_readParts) (ret := none) k195 (mkm_ok jX3_readParts fX3_ok lX3_ok kX3_ok kkX3_ok H) rfl pnX3 nrV (fun h => by cases h) (fun E X hE h1 h2 => mac_X3_readParts_ok hE h1)
  exact h

/-! X3_isOwnName (('n',),) -/
def u196 : List (Nat × TP × EX × Nat × Nat) := []
theorem k196 : chk (mkD iX3_isOwnName fX3 lX3 kX3 kkX3 196 [(11, [56])] c196 true 1 u196) 4000 = true := by decide +kernel
theorem m196 {X0 : zC0} (H : ∀ j, j < 196 → CMj X0 j) : CMj X0 196 := by
  obtain ⟨l0, D0, cy0, ax0⟩ := X0
  intro mi c hc
  have e : conAt 196 = some (228, c196) := rfl
  rw [e] at hc
  obtain ⟨rfl, rfl⟩ := Prod.mk.inj (Option.some.inj hc)
  have e2 : mt 228 = (yX3_isOwnName, cX3_isOwnName, 1, (some .boolean)) := rfl
  rw [e2]
  have h := chk_ok (l0 := l0) (D0 := D0) (cy0 := cy0) (ax0 := ax0) (y := yX3_isOwnName) (cc := cX3_isOwnName) (ret := (some .boolean)) k196 (mk_ok jX3_isOwnName fX3_ok lX3_ok kX3_ok kkX3_ok H) ⟨_, rfl⟩ pnX3 (fun h => by cases h) (fun _ => rfl) rfl
  exact h

/-! X3_isName (('n',),) -/
def u197 : List (Nat × TP × EX × Nat × Nat) := []
theorem k197 : chk (mkD iX3_isName fX3 lX3 kX3 kkX3 197 [(1, [196]), (18, [56])] c197 true 1 u197) 4000 = true := by decide +kernel
theorem m197 {X0 : zC0} (H : ∀ j, j < 197 → CMj X0 j) : CMj X0 197 := by
  obtain ⟨l0, D0, cy0, ax0⟩ := X0
  intro mi c hc
  have e : conAt 197 = some (227, c197) := rfl
  rw [e] at hc
  obtain ⟨rfl, rfl⟩ := Prod.mk.inj (Option.some.inj hc)
  have e2 : mt 227 = (yX3_isName, cX3_isName, 1, (some .boolean)) := rfl
  rw [e2]
  have h := chk_ok (l0 := l0) (D0 := D0) (cy0 := cy0) (ax0 := ax0) (y := yX3_isName) (cc := cX3_isName) (ret := (some .boolean)) k197 (mk_ok jX3_isName fX3_ok lX3_ok kX3_ok kkX3_ok H) ⟨_, rfl⟩ pnX3 (fun h => by cases h) (fun _ => rfl) rfl
  exact h

/-! X3_readName (('k', 125), ('n',)) -/
def u199 : List (Nat × TP × EX × Nat × Nat) := []
theorem k199 : chk (mkD iX3_readName fX3 lX3 kX3 kkX3 199 [(4, [196]), (43, [192]), (57, [198]), (61, [191])] c199 false 3 u199) 4000 = true := by decide +kernel
theorem m199 {X0 : zC0} (H : ∀ j, j < 199 → CMj X0 j) : CMj X0 199 := by
  obtain ⟨l0, D0, cy0, ax0⟩ := X0
  intro mi c hc
  have e : conAt 199 = some (236, c199) := rfl
  rw [e] at hc
  obtain ⟨rfl, rfl⟩ := Prod.mk.inj (Option.some.inj hc)
  have e2 : mt 236 = (yX3_readName, cX3_readName, 3, none) := rfl
  rw [e2]
  have h := chk_ok (l0 := l0) (D0 := D0) (cy0 := cy0) (ax0 := ax0) (y := yX3_readName) (cc := cX3_readName) (ret := none) k199 (mk_ok jX3_readName fX3_ok lX3_ok kX3_ok kkX3_ok H) rfl pnX3 nrV (fun h => by cases h) rfl
  exact h

/-! X3_opens (('k', 125), ('c', 0)) -/
def u200 : List (Nat × TP × EX × Nat × Nat) := []
theorem k200 : chk (mkD iX3_opens fX3 lX3 kX3 kkX3 200 [(21, [191])] c200 true 2 u200) 4000 = true := by decide +kernel
theorem m200 {X0 : zC0} (H : ∀ j, j < 200 → CMj X0 j) : CMj X0 200 := by
  obtain ⟨l0, D0, cy0, ax0⟩ := X0
  intro mi c hc
  have e : conAt 200 = some (229, c200) := rfl
  rw [e] at hc
  obtain ⟨rfl, rfl⟩ := Prod.mk.inj (Option.some.inj hc)
  have e2 : mt 229 = (yX3_opens, cX3_opens, 2, (some .boolean)) := rfl
  rw [e2]
  have h := chk_ok (l0 := l0) (D0 := D0) (cy0 := cy0) (ax0 := ax0) (y := yX3_opens) (cc := cX3_opens) (ret := (some .boolean)) k200 (mk_ok jX3_opens fX3_ok lX3_ok kX3_ok kkX3_ok H) ⟨_, rfl⟩ pnX3 (fun h => by cases h) (fun _ => rfl) rfl
  exact h
