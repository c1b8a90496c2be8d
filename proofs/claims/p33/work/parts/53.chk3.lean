/-! X9_closeHour (('k', 126), ('k', 176), ('n',)) -/
def u151 : List (Nat × TP × EX × Nat × Nat) := []
theorem k151 : chk (mkD iX9_closeHour fX9 lX9 kX9 kkX9 151 [(72, [148]), (78, [53])] c151 false 6 u151) 4000 = true := by decide +kernel
theorem m151 {X0 : zC0} (H : ∀ j, j < 151 → CMj X0 j) : CMj X0 151 := by
  obtain ⟨l0, D0, cy0, ax0⟩ := X0
  intro mi c hc
  have e : conAt 151 = some (227, c151) := rfl
  rw [e] at hc
  obtain ⟨rfl, rfl⟩ := Prod.mk.inj (Option.some.inj hc)
  have e2 : mt 227 = (yX9_closeHour, cX9_closeHour, 6, none) := rfl
  rw [e2]
  have h := chk_ok (l0 := l0) (D0 := D0) (cy0 := cy0) (ax0 := ax0) (y := yX9_closeHour) (cc := cX9_closeHour) (ret := none) k151 (mk_ok jX9_closeHour fX9_ok lX9_ok kX9_ok kkX9_ok H) rfl pnX9 nrV (fun h => by cases h) rfl
  exact h

/-! X9_pass (('k', 126), ('k', 176)) -/
def u152 : List (Nat × TP × EX × Nat × Nat) := [(10, ([(0, (2, 0, (0, []))), (1, (2, 1, (0, []))), (2, (2, 2, (0, []))), (3, (0, 0, (0, [(1, 1)])))], [], ([(3, 1002), (0, 8)], [], [], [126, 176, 41], [((176, (9, [])), (0, [(1, 0)]))], [(182, 0, 5)], []), [(0, 3, (0, []))], [(0, 2)]), (24, [((-1), 1)]), 0, 0), (73, ([(0, (2, 0, (0, []))), (1, (2, 1, (0, []))), (2, (2, 2, (0, []))), (3, (0, 0, (0, [(1, 2)])))], [], ([(3, 1002), (0, 8), (0, 8), (0, 255)], [(0, [(1, 1), ((-1), 2)])], [], [126, 176, 41], [((126, (3, [])), (0, [(1, 3)])), ((41, (1, [])), (0, [(1, 1)])), ((176, (9, [])), (0, [(1, 0)]))], [(182, 0, 5)], []), [(2, 41, (1, [])), (0, 3, (0, [])), (2, 126, (3, []))], [(0, 2)]), (15, [((-1), 2)]), 0, 0), (122, ([(0, (2, 0, (0, []))), (1, (2, 1, (0, []))), (2, (2, 2, (0, []))), (3, (0, 0, (0, [(1, 3)])))], [], ([(3, 1002), (0, 255), (0, 8), (0, 6)], [], [], [126, 176, 41], [((126, (3, [])), (0, [(1, 1)])), ((41, (1, [])), (0, [(1, 2)])), ((176, (9, [])), (0, [(1, 0)]))], [(182, 0, 5)], []), [(2, 126, (3, [])), (2, 41, (1, [])), (0, 3, (0, []))], [(0, 2)]), (6, [((-1), 3)]), 0, 0)]
theorem k152 : chk (mkD iX9_pass fX9 lX9 kX9 kkX9 152 [(26, [149]), (111, [150]), (145, [151]), (159, [42]), (176, [0])] c152 false 4 u152) 4000 = true := by decide +kernel
theorem m152 {X0 : zC0} (H : ∀ j, j < 152 → CMj X0 j) : CMj X0 152 := by
  obtain ⟨l0, D0, cy0, ax0⟩ := X0
  intro mi c hc
  have e : conAt 152 = some (230, c152) := rfl
  rw [e] at hc
  obtain ⟨rfl, rfl⟩ := Prod.mk.inj (Option.some.inj hc)
  have e2 : mt 230 = (yX9_pass, cX9_pass, 4, (some .int)) := rfl
  rw [e2]
  have h := chk_ok (l0 := l0) (D0 := D0) (cy0 := cy0) (ax0 := ax0) (y := yX9_pass) (cc := cX9_pass) (ret := (some .int)) k152 (mk_ok jX9_pass fX9_ok lX9_ok kX9_ok kkX9_ok H) ⟨_, rfl⟩ pnX9 nrI (fun h => by cases h) rfl
  exact h

/-! X9_law (('k', 126), ('n',), ('n',), ('k', 185), ('n',), ('n',)) -/
def u153 : List (Nat × TP × EX × Nat × Nat) := [(47, ([(0, (2, 0, (0, []))), (1, (0, 0, (0, [(1, 0)]))), (2, (0, 0, (0, [(1, 1)]))), (3, (2, 1, (0, []))), (4, (0, 0, (0, [(1, 2)]))), (5, (0, 0, (0, [(1, 3)]))), (6, (2, 2, (0, []))), (7, (0, 0, (0, [(1, 4)])))], [], ([(0, 3), ((-2147483648), 2147483647), (0, 5), ((-1), 7), ((-1), 299), (0, 3), (1, 4)], [((-1), [((-1), 5), (1, 6)])], [], [126, 185, 20], [((126, (8, [])), (0, [(1, 2)])), ((126, (7, [])), (185, [])), ((40, (6, [])), (0, [(1, 5)])), ((40, (5, [])), (0, [(1, 6)]))], [], []), [(0, 7, (0, [])), (2, 40, (6, [])), (2, 40, (5, []))], [(0, 6)]), (19, [(10, 4)]), 0, 0), (65, ([(0, (2, 0, (0, []))), (1, (0, 0, (0, [(1, 0)]))), (2, (0, 0, (0, [(1, 1)]))), (3, (2, 1, (0, []))), (4, (0, 0, (0, [(1, 2)]))), (5, (0, 0, (0, [(1, 3)]))), (6, (2, 2, (0, []))), (7, (0, 0, (0, [(1, 4)]))), (8, (0, 0, (0, [(1, 7)]))), (9, (0, 0, (0, [(1, 8)])))], [], ([(0, 3), ((-2147483648), 2147483647), (0, 5), ((-1), 7), (0, 299), (0, 3), (1, 4), ((-2147483648), 2147483647), (0, 8)], [((-1), [(1, 6), ((-1), 5)]), ((-1), [(1, 8), ((-1), 5), (1, 6)])], [], [126, 185, 20], [((126, (8, [])), (0, [(1, 2)])), ((126, (7, [])), (185, [])), ((40, (6, [])), (0, [(1, 5)])), ((40, (5, [])), (0, [(1, 6)]))], [], []), [(0, 7, (0, [])), (2, 40, (6, [])), (2, 40, (5, [])), (0, 8, (0, [])), (0, 9, (0, []))], [(0, 6)]), (18, [((-1), 8), (10, 4)]), 0, 0)]
theorem k153 : chk (mkD iX9_law fX9 lX9 kX9 kkX9 153 [(4, [59]), (17, [60]), (116, [61]), (121, [62]), (166, [61])] c153 false 10 u153) 4000 = true := by decide +kernel
theorem m153 {X0 : zC0} (H : ∀ j, j < 153 → CMj X0 j) : CMj X0 153 := by
  obtain ⟨l0, D0, cy0, ax0⟩ := X0
  intro mi c hc
  have e : conAt 153 = some (228, c153) := rfl
  rw [e] at hc
  obtain ⟨rfl, rfl⟩ := Prod.mk.inj (Option.some.inj hc)
  have e2 : mt 228 = (yX9_law, cX9_law, 10, (some .int)) := rfl
  rw [e2]
  have h := chk_ok (l0 := l0) (D0 := D0) (cy0 := cy0) (ax0 := ax0) (y := yX9_law) (cc := cX9_law) (ret := (some .int)) k153 (mk_ok jX9_law fX9_ok lX9_ok kX9_ok kkX9_ok H) ⟨_, rfl⟩ pnX9 nrI (fun h => by cases h) rfl
  exact h

/-! X9_sweatOf (('k', 126), ('k', 185), ('n',)) -/
def u154 : List (Nat × TP × EX × Nat × Nat) := []
theorem k154 : chk (mkD iX9_sweatOf fX9 lX9 kX9 kkX9 154 [(16, [153]), (24, [53])] c154 false 4 u154) 4000 = true := by decide +kernel
theorem m154 {X0 : zC0} (H : ∀ j, j < 154 → CMj X0 j) : CMj X0 154 := by
  obtain ⟨l0, D0, cy0, ax0⟩ := X0
  intro mi c hc
  have e : conAt 154 = some (233, c154) := rfl
  rw [e] at hc
  obtain ⟨rfl, rfl⟩ := Prod.mk.inj (Option.some.inj hc)
  have e2 : mt 233 = (yX9_sweatOf, cX9_sweatOf, 4, (some .int)) := rfl
  rw [e2]
  have h := chk_ok (l0 := l0) (D0 := D0) (cy0 := cy0) (ax0 := ax0) (y := yX9_sweatOf) (cc := cX9_sweatOf) (ret := (some .int)) k154 (mk_ok jX9_sweatOf fX9_ok lX9_ok kX9_ok kkX9_ok H) ⟨_, rfl⟩ pnX9 nrI (fun h => by cases h) rfl
  exact h

/-! X9_rainFrom (('k', 126), ('k', 185), ('n',)) -/
def u155 : List (Nat × TP × EX × Nat × Nat) := []
theorem k155 : chk (mkD iX9_rainFrom fX9 lX9 kX9 kkX9 155 [(22, [153]), (28, [53]), (54, [153]), (60, [53]), (116, [36])] c155 false 8 u155) 4000 = true := by decide +kernel
theorem m155 {X0 : zC0} (H : ∀ j, j < 155 → CMj X0 j) : CMj X0 155 := by
  obtain ⟨l0, D0, cy0, ax0⟩ := X0
  intro mi c hc
  have e : conAt 155 = some (231, c155) := rfl
  rw [e] at hc
  obtain ⟨rfl, rfl⟩ := Prod.mk.inj (Option.some.inj hc)
  have e2 : mt 231 = (yX9_rainFrom, cX9_rainFrom, 8, none) := rfl
  rw [e2]
  have h := chk_ok (l0 := l0) (D0 := D0) (cy0 := cy0) (ax0 := ax0) (y := yX9_rainFrom) (cc := cX9_rainFrom) (ret := none) k155 (mk_ok jX9_rainFrom fX9_ok lX9_ok kX9_ok kkX9_ok H) rfl pnX9 nrV (fun h => by cases h) rfl
  exact h

/-! X9_closeHour (('k', 126), ('k', 185), ('n',)) -/
def u156 : List (Nat × TP × EX × Nat × Nat) := []
theorem k156 : chk (mkD iX9_closeHour fX9 lX9 kX9 kkX9 156 [(72, [153]), (78, [53])] c156 false 6 u156) 4000 = true := by decide +kernel
theorem m156 {X0 : zC0} (H : ∀ j, j < 156 → CMj X0 j) : CMj X0 156 := by
  obtain ⟨l0, D0, cy0, ax0⟩ := X0
  intro mi c hc
  have e : conAt 156 = some (227, c156) := rfl
  rw [e] at hc
  obtain ⟨rfl, rfl⟩ := Prod.mk.inj (Option.some.inj hc)
  have e2 : mt 227 = (yX9_closeHour, cX9_closeHour, 6, none) := rfl
  rw [e2]
  have h := chk_ok (l0 := l0) (D0 := D0) (cy0 := cy0) (ax0 := ax0) (y := yX9_closeHour) (cc := cX9_closeHour) (ret := none) k156 (mk_ok jX9_closeHour fX9_ok lX9_ok kX9_ok kkX9_ok H) rfl pnX9 nrV (fun h => by cases h) rfl
  exact h

/-! X9_pass (('k', 126), ('k', 185)) -/
def u157 : List (Nat × TP × EX × Nat × Nat) := [(10, ([(0, (2, 0, (0, []))), (1, (2, 1, (0, []))), (2, (2, 2, (0, []))), (3, (0, 0, (0, [(1, 1)])))], [], ([(4, 1003), (0, 8)], [], [], [126, 185, 41], [((185, (9, [])), (0, [(1, 0)]))], [(191, 0, 5)], []), [(0, 3, (0, []))], [(0, 2)]), (24, [((-1), 1)]), 0, 0), (73, ([(0, (2, 0, (0, []))), (1, (2, 1, (0, []))), (2, (2, 2, (0, []))), (3, (0, 0, (0, [(1, 2)])))], [], ([(4, 1003), (0, 8), (0, 8), (0, 255)], [(0, [(1, 1), ((-1), 2)])], [], [126, 185, 41], [((126, (3, [])), (0, [(1, 3)])), ((41, (1, [])), (0, [(1, 1)])), ((185, (9, [])), (0, [(1, 0)]))], [(191, 0, 5)], []), [(2, 41, (1, [])), (0, 3, (0, [])), (2, 126, (3, []))], [(0, 2)]), (15, [((-1), 2)]), 0, 0), (122, ([(0, (2, 0, (0, []))), (1, (2, 1, (0, []))), (2, (2, 2, (0, []))), (3, (0, 0, (0, [(1, 3)])))], [], ([(4, 1003), (0, 255), (0, 8), (0, 6)], [], [], [126, 185, 41], [((126, (3, [])), (0, [(1, 1)])), ((41, (1, [])), (0, [(1, 2)])), ((185, (9, [])), (0, [(1, 0)]))], [(191, 0, 5)], []), [(2, 126, (3, [])), (2, 41, (1, [])), (0, 3, (0, []))], [(0, 2)]), (6, [((-1), 3)]), 0, 0)]
theorem k157 : chk (mkD iX9_pass fX9 lX9 kX9 kkX9 157 [(26, [154]), (111, [155]), (145, [156]), (159, [43]), (176, [0])] c157 false 4 u157) 4000 = true := by decide +kernel
theorem m157 {X0 : zC0} (H : ∀ j, j < 157 → CMj X0 j) : CMj X0 157 := by
  obtain ⟨l0, D0, cy0, ax0⟩ := X0
  intro mi c hc
  have e : conAt 157 = some (230, c157) := rfl
  rw [e] at hc
  obtain ⟨rfl, rfl⟩ := Prod.mk.inj (Option.some.inj hc)
  have e2 : mt 230 = (yX9_pass, cX9_pass, 4, (some .int)) := rfl
  rw [e2]
  have h := chk_ok (l0 := l0) (D0 := D0) (cy0 := cy0) (ax0 := ax0) (y := yX9_pass) (cc := cX9_pass) (ret := (some .int)) k157 (mk_ok jX9_pass fX9_ok lX9_ok kX9_ok kkX9_ok H) ⟨_, rfl⟩ pnX9 nrI (fun h => by cases h) rfl
  exact h

/-! X2_tryWork (('k', 131), ('n',), ('n',), ('c', 5), ('n',), ('n',)) -/
def u158 : List (Nat × TP × EX × Nat × Nat) := []
theorem k158 : chk (mkD iX2_tryWork fX2 lX2 kX2 kkX2 158 [] c158 false 11 u158) 4000 = true := by decide +kernel
theorem m158 {X0 : zC0} (H : ∀ j, j < 158 → CMj X0 j) : CMj X0 158 := by
  obtain ⟨l0, D0, cy0, ax0⟩ := X0
  intro mi c hc
  have e : conAt 158 = some (178, c158) := rfl
  rw [e] at hc
  obtain ⟨rfl, rfl⟩ := Prod.mk.inj (Option.some.inj hc)
  have e2 : mt 178 = (yX2_tryWork, cX2_tryWork, 11, none) := rfl
  rw [e2]
  have h := chk_ok (l0 := l0) (D0 := D0) (cy0 := cy0) (ax0 := ax0) (y := yX2_tryWork) (cc := cX2_tryWork) (ret := none) k158 (mk_ok jX2_tryWork fX2_ok lX2_ok kX2_ok kkX2_ok H) rfl pnX2 nrV (fun h => by cases h) rfl
  exact h

/-! X2_tryWork (('k', 131), ('n',), ('n',), ('c', 4), ('n',), ('n',)) -/
def u159 : List (Nat × TP × EX × Nat × Nat) := [(63, ([(0, (2, 0, (0, []))), (1, (0, 0, (0, [(1, 0)]))), (2, (0, 0, (0, [(1, 1)]))), (3, (0, 0, (4, []))), (4, (0, 0, (0, [(1, 2)]))), (5, (0, 0, (0, [(1, 3)]))), (6, (2, 1, (0, []))), (7, (0, 0, (0, [(1, 5)]))), (8, (0, 0, (0, [(1, 6)])))], [], ([(0, 7), (5, 5), ((-2147483648), 2147483647), (0, 1), (4, 1003), (0, 5), (0, 4)], [], [], [131, 185], [((56, (0, [(1, 0)])), (0, [(1, 5)])), ((176, (9, [])), (0, [(1, 4)]))], [(182, 0, 5)], []), [(0, 7, (0, [])), (0, 8, (0, []))], [(0, 6)]), (4, [((-1), 6)]), 0, 0)]
theorem k159 : chk (mkD iX2_tryWork fX2 lX2 kX2 kkX2 159 [(77, [17]), (95, [157]), (204, [158])] c159 false 11 u159) 4000 = true := by decide +kernel
theorem m159 {X0 : zC0} (H : ∀ j, j < 159 → CMj X0 j) : CMj X0 159 := by
  obtain ⟨l0, D0, cy0, ax0⟩ := X0
  intro mi c hc
  have e : conAt 159 = some (178, c159) := rfl
  rw [e] at hc
  obtain ⟨rfl, rfl⟩ := Prod.mk.inj (Option.some.inj hc)
  have e2 : mt 178 = (yX2_tryWork, cX2_tryWork, 11, none) := rfl
  rw [e2]
  have h := chk_ok (l0 := l0) (D0 := D0) (cy0 := cy0) (ax0 := ax0) (y := yX2_tryWork) (cc := cX2_tryWork) (ret := none) k159 (mk_ok jX2_tryWork fX2_ok lX2_ok kX2_ok kkX2_ok H) rfl pnX2 nrV (fun h => by cases h) rfl
  exact h

/-! X2_tryWork (('k', 131), ('n',), ('n',), ('c', 3), ('n',), ('n',)) -/
def u160 : List (Nat × TP × EX × Nat × Nat) := [(63, ([(0, (2, 0, (0, []))), (1, (0, 0, (0, [(1, 0)]))), (2, (0, 0, (0, [(1, 1)]))), (3, (0, 0, (3, []))), (4, (0, 0, (0, [(1, 2)]))), (5, (0, 0, (0, [(1, 3)]))), (6, (2, 1, (0, []))), (7, (0, 0, (0, [(1, 5)]))), (8, (0, 0, (0, [(1, 6)])))], [], ([(0, 7), (4, 5), ((-2147483648), 2147483647), (0, 1), (3, 1002), (0, 5), (0, 4)], [], [], [131, 176], [((56, (0, [(1, 0)])), (0, [(1, 5)])), ((167, (9, [])), (0, [(1, 4)]))], [(173, 0, 5)], []), [(0, 7, (0, [])), (0, 8, (0, []))], [(0, 6)]), (4, [((-1), 6)]), 0, 0)]
theorem k160 : chk (mkD iX2_tryWork fX2 lX2 kX2 kkX2 160 [(77, [16]), (95, [152]), (204, [159])] c160 false 11 u160) 4000 = true := by decide +kernel
theorem m160 {X0 : zC0} (H : ∀ j, j < 160 → CMj X0 j) : CMj X0 160 := by
  obtain ⟨l0, D0, cy0, ax0⟩ := X0
  intro mi c hc
  have e : conAt 160 = some (178, c160) := rfl
  rw [e] at hc
  obtain ⟨rfl, rfl⟩ := Prod.mk.inj (Option.some.inj hc)
  have e2 : mt 178 = (yX2_tryWork, cX2_tryWork, 11, none) := rfl
  rw [e2]
  have h := chk_ok (l0 := l0) (D0 := D0) (cy0 := cy0) (ax0 := ax0) (y := yX2_tryWork) (cc := cX2_tryWork) (ret := none) k160 (mk_ok jX2_tryWork fX2_ok lX2_ok kX2_ok kkX2_ok H) rfl pnX2 nrV (fun h => by cases h) rfl
  exact h

/-! X2_tryWork (('k', 131), ('n',), ('n',), ('c', 2), ('n',), ('n',)) -/
def u161 : List (Nat × TP × EX × Nat × Nat) := [(63, ([(0, (2, 0, (0, []))), (1, (0, 0, (0, [(1, 0)]))), (2, (0, 0, (0, [(1, 1)]))), (3, (0, 0, (2, []))), (4, (0, 0, (0, [(1, 2)]))), (5, (0, 0, (0, [(1, 3)]))), (6, (2, 1, (0, []))), (7, (0, 0, (0, [(1, 5)]))), (8, (0, 0, (0, [(1, 6)])))], [], ([(0, 7), (3, 5), ((-2147483648), 2147483647), (0, 1), (2, 1001), (0, 5), (0, 4)], [], [], [131, 167], [((56, (0, [(1, 0)])), (0, [(1, 5)])), ((158, (9, [])), (0, [(1, 4)]))], [(164, 0, 5)], []), [(0, 7, (0, [])), (0, 8, (0, []))], [(0, 6)]), (4, [((-1), 6)]), 0, 0)]
theorem k161 : chk (mkD iX2_tryWork fX2 lX2 kX2 kkX2 161 [(77, [15]), (95, [147]), (204, [160])] c161 false 11 u161) 4000 = true := by decide +kernel
theorem m161 {X0 : zC0} (H : ∀ j, j < 161 → CMj X0 j) : CMj X0 161 := by
  obtain ⟨l0, D0, cy0, ax0⟩ := X0
  intro mi c hc
  have e : conAt 161 = some (178, c161) := rfl
  rw [e] at hc
  obtain ⟨rfl, rfl⟩ := Prod.mk.inj (Option.some.inj hc)
  have e2 : mt 178 = (yX2_tryWork, cX2_tryWork, 11, none) := rfl
  rw [e2]
  have h := chk_ok (l0 := l0) (D0 := D0) (cy0 := cy0) (ax0 := ax0) (y := yX2_tryWork) (cc := cX2_tryWork) (ret := none) k161 (mk_ok jX2_tryWork fX2_ok lX2_ok kX2_ok kkX2_ok H) rfl pnX2 nrV (fun h => by cases h) rfl
  exact h

/-! X2_tryWork (('k', 131), ('n',), ('n',), ('c', 1), ('n',), ('n',)) -/
def u162 : List (Nat × TP × EX × Nat × Nat) := [(63, ([(0, (2, 0, (0, []))), (1, (0, 0, (0, [(1, 0)]))), (2, (0, 0, (0, [(1, 1)]))), (3, (0, 0, (1, []))), (4, (0, 0, (0, [(1, 2)]))), (5, (0, 0, (0, [(1, 3)]))), (6, (2, 1, (0, []))), (7, (0, 0, (0, [(1, 5)]))), (8, (0, 0, (0, [(1, 6)])))], [], ([(0, 7), (2, 5), ((-2147483648), 2147483647), (0, 1), (1, 1000), (0, 5), (0, 4)], [], [], [131, 158], [((56, (0, [(1, 0)])), (0, [(1, 5)])), ((149, (9, [])), (0, [(1, 4)]))], [(155, 0, 5)], []), [(0, 7, (0, [])), (0, 8, (0, []))], [(0, 6)]), (4, [((-1), 6)]), 0, 0)]
theorem k162 : chk (mkD iX2_tryWork fX2 lX2 kX2 kkX2 162 [(77, [14]), (95, [142]), (204, [161])] c162 false 11 u162) 4000 = true := by decide +kernel
theorem m162 {X0 : zC0} (H : ∀ j, j < 162 → CMj X0 j) : CMj X0 162 := by
  obtain ⟨l0, D0, cy0, ax0⟩ := X0
  intro mi c hc
  have e : conAt 162 = some (178, c162) := rfl
  rw [e] at hc
  obtain ⟨rfl, rfl⟩ := Prod.mk.inj (Option.some.inj hc)
  have e2 : mt 178 = (yX2_tryWork, cX2_tryWork, 11, none) := rfl
  rw [e2]
  have h := chk_ok (l0 := l0) (D0 := D0) (cy0 := cy0) (ax0 := ax0) (y := yX2_tryWork) (cc := cX2_tryWork) (ret := none) k162 (mk_ok jX2_tryWork fX2_ok lX2_ok kX2_ok kkX2_ok H) rfl pnX2 nrV (fun h => by cases h) rfl
  exact h

/-! X2_tryWork (('k', 131), ('n',), ('n',), ('c', 0), ('n',), ('n',)) -/
def u163 : List (Nat × TP × EX × Nat × Nat) := [(63, ([(0, (2, 0, (0, []))), (1, (0, 0, (0, [(1, 0)]))), (2, (0, 0, (0, [(1, 1)]))), (3, (0, 0, (0, []))), (4, (0, 0, (0, [(1, 2)]))), (5, (0, 0, (0, [(1, 3)]))), (6, (2, 1, (0, []))), (7, (0, 0, (0, [(1, 5)]))), (8, (0, 0, (0, [(1, 6)])))], [], ([(0, 7), (1, 5), (0, 0), (0, 0), (0, 999), (0, 5), (0, 4)], [], [], [131, 149], [((56, (0, [(1, 0)])), (0, [(1, 5)])), ((140, (9, [])), (0, [(1, 4)]))], [(146, 0, 5)], []), [(0, 7, (0, [])), (0, 8, (0, []))], [(0, 6)]), (4, [((-1), 6)]), 0, 0)]
theorem k163 : chk (mkD iX2_tryWork fX2 lX2 kX2 kkX2 163 [(77, [13]), (95, [137]), (204, [162])] c163 false 11 u163) 4000 = true := by decide +kernel
theorem m163 {X0 : zC0} (H : ∀ j, j < 163 → CMj X0 j) : CMj X0 163 := by
  obtain ⟨l0, D0, cy0, ax0⟩ := X0
  intro mi c hc
  have e : conAt 163 = some (178, c163) := rfl
  rw [e] at hc
  obtain ⟨rfl, rfl⟩ := Prod.mk.inj (Option.some.inj hc)
  have e2 : mt 178 = (yX2_tryWork, cX2_tryWork, 11, none) := rfl
  rw [e2]
  have h := chk_ok (l0 := l0) (D0 := D0) (cy0 := cy0) (ax0 := ax0) (y := yX2_tryWork) (cc := cX2_tryWork) (ret := none) k163 (mk_ok jX2_tryWork fX2_ok lX2_ok kX2_ok kkX2_ok H) rfl pnX2 nrV (fun h => by cases h) rfl
  exact h

/-! X2_planWork (('k', 131), ('n',), ('n',)) -/
def u164 : List (Nat × TP × EX × Nat × Nat) := []
theorem k164 : chk (mkD iX2_planWork fX2 lX2 kX2 kkX2 164 [(1, [98]), (16, [163])] c164 false 3 u164) 4000 = true := by decide +kernel
theorem m164 {X0 : zC0} (H : ∀ j, j < 164 → CMj X0 j) : CMj X0 164 := by
  obtain ⟨l0, D0, cy0, ax0⟩ := X0
  intro mi c hc
  have e : conAt 164 = some (176, c164) := rfl
  rw [e] at hc
  obtain ⟨rfl, rfl⟩ := Prod.mk.inj (Option.some.inj hc)
  have e2 : mt 176 = (yX2_planWork, cX2_planWork, 3, none) := rfl
  rw [e2]
  have h := chk_ok (l0 := l0) (D0 := D0) (cy0 := cy0) (ax0 := ax0) (y := yX2_planWork) (cc := cX2_planWork) (ret := none) k164 (mk_ok jX2_planWork fX2_ok lX2_ok kX2_ok kkX2_ok H) rfl pnX2 nrV (fun h => by cases h) rfl
  exact h

/-! X11_plan (('k', 197), ('n',), ('n',), ('n',)) -/
def u165 : List (Nat × TP × EX × Nat × Nat) := []
theorem k165 : chk (mkD iX11_plan fX11 lX11 kX11 kkX11 165 [(8, [7]), (17, [56]), (28, [56]), (42, [164])] c165 false 4 u165) 4000 = true := by decide +kernel
theorem m165 {X0 : zC0} (H : ∀ j, j < 165 → CMj X0 j) : CMj X0 165 := by
  obtain ⟨l0, D0, cy0, ax0⟩ := X0
  intro mi c hc
  have e : conAt 165 = some (56, c165) := rfl
  rw [e] at hc
  obtain ⟨rfl, rfl⟩ := Prod.mk.inj (Option.some.inj hc)
  have e2 : mt 56 = (yX11_plan, cX11_plan, 4, (some .int)) := rfl
  rw [e2]
  have h := chk_ok (l0 := l0) (D0 := D0) (cy0 := cy0) (ax0 := ax0) (y := yX11_plan) (cc := cX11_plan) (ret := (some .int)) k165 (mk_ok jX11_plan fX11_ok lX11_ok kX11_ok kkX11_ok H) ⟨_, rfl⟩ pnX11 nrI (fun h => by cases h) rfl
  exact h

/-! X11_played (('k', 197), ('n',)) -/
def u166 : List (Nat × TP × EX × Nat × Nat) := [(26, ([(0, (2, 0, (0, []))), (1, (0, 0, (0, [(1, 0)]))), (2, (2, 1, (0, []))), (3, (0, 0, (0, [(1, 2)])))], [], ([(0, 3), (1, 4), (0, 24)], [((-1), [(1, 1), ((-1), 0)]), ((-1), [(1, 2), ((-1), 0), (1, 1)])], [], [197, 20], [((40, (5, [])), (0, [(1, 1)])), ((71, (0, [(1, 0)])), (20, []))], [], []), [(2, 40, (5, [])), (0, 3, (0, []))], [(0, 2)]), (24, [((-1), 2)]), 0, 0)]
theorem k166 : chk (mkD iX11_played fX11 lX11 kX11 kkX11 166 [(5, [54]), (47, [82])] c166 false 4 u166) 4000 = true := by decide +kernel
theorem m166 {X0 : zC0} (H : ∀ j, j < 166 → CMj X0 j) : CMj X0 166 := by
  obtain ⟨l0, D0, cy0, ax0⟩ := X0
  intro mi c hc
  have e : conAt 166 = some (57, c166) := rfl
  rw [e] at hc
  obtain ⟨rfl, rfl⟩ := Prod.mk.inj (Option.some.inj hc)
  have e2 : mt 57 = (yX11_played, cX11_played, 4, (some .int)) := rfl
  rw [e2]
  have h := chk_ok (l0 := l0) (D0 := D0) (cy0 := cy0) (ax0 := ax0) (y := yX11_played) (cc := cX11_played) (ret := (some .int)) k166 (mk_ok jX11_played fX11_ok lX11_ok kX11_ok kkX11_ok H) ⟨_, rfl⟩ pnX11 nrI (fun h => by cases h) rfl
  exact h

/-! X11_rained (('k', 197), ('n',), ('n',)) -/
def u167 : List (Nat × TP × EX × Nat × Nat) := []
theorem k167 : chk (mkD iX11_rained fX11 lX11 kX11 kkX11 167 [(66, [27]), (72, [26]), (78, [25]), (84, [24])] c167 false 4 u167) 4000 = true := by decide +kernel
theorem m167 {X0 : zC0} (H : ∀ j, j < 167 → CMj X0 j) : CMj X0 167 := by
  obtain ⟨l0, D0, cy0, ax0⟩ := X0
  intro mi c hc
  have e : conAt 167 = some (59, c167) := rfl
  rw [e] at hc
  obtain ⟨rfl, rfl⟩ := Prod.mk.inj (Option.some.inj hc)
  have e2 : mt 59 = (yX11_rained, cX11_rained, 4, (some .int)) := rfl
  rw [e2]
  have h := chk_ok (l0 := l0) (D0 := D0) (cy0 := cy0) (ax0 := ax0) (y := yX11_rained) (cc := cX11_rained) (ret := (some .int)) k167 (mk_ok jX11_rained fX11_ok lX11_ok kX11_ok kkX11_ok H) ⟨_, rfl⟩ pnX11 nrI (fun h => by cases h) rfl
  exact h

/-! X11_shares (('k', 197), ('n',), ('n',), ('n',)) -/
def u168 : List (Nat × TP × EX × Nat × Nat) := [(56, ([(0, (2, 0, (0, []))), (1, (0, 0, (0, [(1, 0)]))), (2, (0, 0, (0, [(1, 1)]))), (3, (0, 0, (0, [(1, 2)]))), (4, (2, 1, (0, []))), (5, (0, 0, (0, [(1, 4)]))), (6, (0, 0, (0, [(1, 5)])))], [], ([((-2147483648), 2147483647), (0, 999), (0, 7), (0, 8), ((-2147483648), 2147483647), (0, 8)], [(0, [(1, 3), ((-1), 5)])], [], [197, 54], [((41, (1, [])), (0, [(1, 3)]))], [], []), [(2, 41, (1, [])), (0, 5, (0, [])), (0, 6, (0, []))], [(0, 4)]), (17, [((-1), 5)]), 0, 0), (128, ([(0, (2, 0, (0, []))), (1, (0, 0, (0, [(1, 0)]))), (2, (0, 0, (0, [(1, 1)]))), (3, (0, 0, (0, [(1, 2)]))), (4, (2, 1, (0, []))), (5, (0, 0, (0, [(1, 3)]))), (6, (0, 0, (0, [(1, 4)]))), (7, (0, 0, (0, [(1, 7)]))), (8, (0, 0, (0, [(1, 8)]))), (9, (0, 0, (0, [(1, 9)])))], [], ([((-2147483648), 2147483647), (0, 999), (0, 7), (1, 2147483647), ((-2147483648), 2147483647), ((-2147483648), 2147483647), (0, 8), ((-2147483648), 2147483647), (0, 8), (0, 8)], [(0, [(1, 6), ((-1), 8)]), (0, [(1, 6), ((-1), 9)]), (0, [(1, 9), ((-1), 8)])], [], [197, 54], [((54, (0, [(1, 2)])), (0, [(1, 5)])), ((41, (1, [])), (0, [(1, 6)]))], [], []), [(0, 5, (0, [])), (0, 6, (0, [])), (2, 54, (0, [(1, 2)])), (2, 41, (1, [])), (0, 7, (0, [])), (0, 8, (0, [])), (0, 9, (0, []))], [(0, 4)]), (8, [((-1), 9)]), 0, 0)]
theorem k168 : chk (mkD iX11_shares fX11 lX11 kX11 kkX11 168 [(11, [116]), (22, [56]), (30, [105]), (76, [105]), (146, [105])] c168 false 11 u168) 4000 = true := by decide +kernel
theorem m168 {X0 : zC0} (H : ∀ j, j < 168 → CMj X0 j) : CMj X0 168 := by
  obtain ⟨l0, D0, cy0, ax0⟩ := X0
  intro mi c hc
  have e : conAt 168 = some (62, c168) := rfl
  rw [e] at hc
  obtain ⟨rfl, rfl⟩ := Prod.mk.inj (Option.some.inj hc)
  have e2 : mt 62 = (yX11_shares, cX11_shares, 11, (some .int)) := rfl
  rw [e2]
  have h := chk_ok (l0 := l0) (D0 := D0) (cy0 := cy0) (ax0 := ax0) (y := yX11_shares) (cc := cX11_shares) (ret := (some .int)) k168 (mk_ok jX11_shares fX11_ok lX11_ok kX11_ok kkX11_ok H) ⟨_, rfl⟩ pnX11 nrI (fun h => by cases h) rfl
  exact h

/-! X6_addToken (('k', 120), ('n',), ('n',)) -/
def u169 : List (Nat × TP × EX × Nat × Nat) := []
theorem k169 : chk (mkD iX6_addToken fX6 lX6 kX6 kkX6 169 [] c169 false 3 u169) 4000 = true := by decide +kernel
theorem m169 {X0 : zC0} (H : ∀ j, j < 169 → CMj X0 j) : CMj X0 169 := by
  obtain ⟨l0, D0, cy0, ax0⟩ := X0
  intro mi c hc
  have e : conAt 169 = some (212, c169) := rfl
  rw [e] at hc
  obtain ⟨rfl, rfl⟩ := Prod.mk.inj (Option.some.inj hc)
  have e2 : mt 212 = (yX6_addToken, cX6_addToken, 3, none) := rfl
  rw [e2]
  have h := chk_ok (l0 := l0) (D0 := D0) (cy0 := cy0) (ax0 := ax0) (y := yX6_addToken) (cc := cX6_addToken) (ret := none) k169 (mk_ok jX6_addToken fX6_ok lX6_ok kX6_ok kkX6_ok H) rfl pnX6 nrV (fun h => by cases h) rfl
  exact h

/-! X6_isLetter (('n',),) -/
def u170 : List (Nat × TP × EX × Nat × Nat) := []
theorem k170 : chk (mkD iX6_isLetter fX6 lX6 kX6 kkX6 170 [(5, [56]), (16, [56])] c170 true 1 u170) 4000 = true := by decide +kernel
theorem m170 {X0 : zC0} (H : ∀ j, j < 170 → CMj X0 j) : CMj X0 170 := by
  obtain ⟨l0, D0, cy0, ax0⟩ := X0
  intro mi c hc
  have e : conAt 170 = some (217, c170) := rfl
  rw [e] at hc
  obtain ⟨rfl, rfl⟩ := Prod.mk.inj (Option.some.inj hc)
  have e2 : mt 217 = (yX6_isLetter, cX6_isLetter, 1, (some .boolean)) := rfl
  rw [e2]
  have h := chk_ok (l0 := l0) (D0 := D0) (cy0 := cy0) (ax0 := ax0) (y := yX6_isLetter) (cc := cX6_isLetter) (ret := (some .boolean)) k170 (mk_ok jX6_isLetter fX6_ok lX6_ok kX6_ok kkX6_ok H) ⟨_, rfl⟩ pnX6 (fun h => by cases h) (fun _ => rfl) rfl
  exact h

/-! X6_isDigit (('n',),) -/
def u171 : List (Nat × TP × EX × Nat × Nat) := []
theorem k171 : chk (mkD iX6_isDigit fX6 lX6 kX6 kkX6 171 [(5, [56])] c171 true 1 u171) 4000 = true := by decide +kernel
theorem m171 {X0 : zC0} (H : ∀ j, j < 171 → CMj X0 j) : CMj X0 171 := by
  obtain ⟨l0, D0, cy0, ax0⟩ := X0
  intro mi c hc
  have e : conAt 171 = some (216, c171) := rfl
  rw [e] at hc
  obtain ⟨rfl, rfl⟩ := Prod.mk.inj (Option.some.inj hc)
  have e2 : mt 216 = (yX6_isDigit, cX6_isDigit, 1, (some .boolean)) := rfl
  rw [e2]
  have h := chk_ok (l0 := l0) (D0 := D0) (cy0 := cy0) (ax0 := ax0) (y := yX6_isDigit) (cc := cX6_isDigit) (ret := (some .boolean)) k171 (mk_ok jX6_isDigit fX6_ok lX6_ok kX6_ok kkX6_ok H) ⟨_, rfl⟩ pnX6 (fun h => by cases h) (fun _ => rfl) rfl
  exact h

/-! X6_addNumber (('k', 120), ('n',)) -/
def u173 : List (Nat × TP × EX × Nat × Nat) := [(4, ([(0, (2, 0, (0, []))), (1, (0, 0, (0, [(1, 0)]))), (2, (0, 0, (0, [(1, 1)]))), (3, (0, 0, (0, [(1, 2)])))], [], ([(0, 299), (0, 10000), (0, 300)], [(0, [(1, 2), ((-1), 0)])], [], [120], [], [], []), [(0, 2, (0, [])), (0, 3, (0, []))], []), (300, [((-1), 2)]), 0, 0)]
theorem k173 : chk (mkD iX6_addNumber fX6 lX6 kX6 kkX6 173 [(18, [171]), (55, [169])] c173 false 4 u173) 4000 = true := by decide +kernel
theorem m173 {X0 : zC0} (H : ∀ j, j < 173 → CMj X0 j) : CMj X0 173 := by
  obtain ⟨l0, D0, cy0, ax0⟩ := X0
  intro mi c hc
  have e : conAt 173 = some (210, c173) := rfl
  rw [e] at hc
  obtain ⟨rfl, rfl⟩ := Prod.mk.inj (Option.some.inj hc)
  have e2 : mt 210 = (yX6_addNumber, cX6_addNumber, 4, (some .int)) := rfl
  rw [e2]
  have h := chk_ok (l0 := l0) (D0 := D0) (cy0 := cy0) (ax0 := ax0) (y := yX6_addNumber) (cc := cX6_addNumber) (ret := (some .int)) k173 (mk_ok jX6_addNumber fX6_ok lX6_ok kX6_ok kkX6_ok H) ⟨_, rfl⟩ pnX6 nrI (fun h => by cases h) rfl
  exact h

/-! X6_addWord (('k', 120), ('n',)) -/
def u175 : List (Nat × TP × EX × Nat × Nat) := [(2, ([(0, (2, 0, (0, []))), (1, (0, 0, (0, [(1, 0)]))), (2, (0, 0, (0, [(1, 1)])))], [], ([(0, 299), (0, 300)], [(0, [(1, 1), ((-1), 0)])], [], [120], [], [], []), [(0, 2, (0, []))], []), (300, [((-1), 1)]), 0, 0)]
theorem k175 : chk (mkD iX6_addWord fX6 lX6 kX6 kkX6 175 [(16, [170]), (32, [174]), (36, [169])] c175 false 3 u175) 4000 = true := by decide +kernel
theorem m175 {X0 : zC0} (H : ∀ j, j < 175 → CMj X0 j) : CMj X0 175 := by
  obtain ⟨l0, D0, cy0, ax0⟩ := X0
  intro mi c hc
  have e : conAt 175 = some (213, c175) := rfl
  rw [e] at hc
  obtain ⟨rfl, rfl⟩ := Prod.mk.inj (Option.some.inj hc)
  have e2 : mt 213 = (yX6_addWord, cX6_addWord, 3, (some .int)) := rfl
  rw [e2]
  have h := chk_ok (l0 := l0) (D0 := D0) (cy0 := cy0) (ax0 := ax0) (y := yX6_addWord) (cc := cX6_addWord) (ret := (some .int)) k175 (mk_ok jX6_addWord fX6_ok lX6_ok kX6_ok kkX6_ok H) ⟨_, rfl⟩ pnX6 nrI (fun h => by cases h) rfl
  exact h

/-! X6_findTokens (('k', 120),) -/
def u176 : List (Nat × TP × EX × Nat × Nat) := [(9, ([(0, (2, 0, (0, []))), (1, (0, 0, (0, [(1, 0)]))), (2, (0, 0, (0, [(1, 1)])))], [], ([(0, 300), (0, 300)], [], [], [120], [], [], []), [(0, 1, (0, [])), (0, 2, (0, []))], []), (300, [((-1), 1)]), 0, 0)]
theorem k176 : chk (mkD iX6_findTokens fX6 lX6 kX6 kkX6 176 [(30, [170]), (38, [175]), (51, [171]), (59, [173]), (96, [172]), (113, [169])] c176 false 3 u176) 4000 = true := by decide +kernel
theorem m176 {X0 : zC0} (H : ∀ j, j < 176 → CMj X0 j) : CMj X0 176 := by
  obtain ⟨l0, D0, cy0, ax0⟩ := X0
  intro mi c hc
  have e : conAt 176 = some (215, c176) := rfl
  rw [e] at hc
  obtain ⟨rfl, rfl⟩ := Prod.mk.inj (Option.some.inj hc)
  have e2 : mt 215 = (yX6_findTokens, cX6_findTokens, 3, none) := rfl
  rw [e2]
  have h := chk_ok (l0 := l0) (D0 := D0) (cy0 := cy0) (ax0 := ax0) (y := yX6_findTokens) (cc := cX6_findTokens) (ret := none) k176 (mk_ok jX6_findTokens fX6_ok lX6_ok kX6_ok kkX6_ok H) rfl pnX6 nrV (fun h => by cases h) rfl
  exact h

/-! X3_advance (('k', 125),) -/
def u177 : List (Nat × TP × EX × Nat × Nat) := []
theorem k177 : chk (mkD iX3_advance fX3 lX3 kX3 kkX3 177 [] c177 false 1 u177) 4000 = true := by decide +kernel
theorem m177 {X0 : zC0} (H : ∀ j, j < 177 → CMj X0 j) : CMj X0 177 := by
  obtain ⟨l0, D0, cy0, ax0⟩ := X0
  intro mi c hc
  have e : conAt 177 = some (179, c177) := rfl
  rw [e] at hc
  obtain ⟨rfl, rfl⟩ := Prod.mk.inj (Option.some.inj hc)
  have e2 : mt 179 = (yX3_advance, cX3_advance, 1, none) := rfl
  rw [e2]
  have h := chk_ok (l0 := l0) (D0 := D0) (cy0 := cy0) (ax0 := ax0) (y := yX3_advance) (cc := cX3_advance) (ret := none) k177 (mk_ok jX3_advance fX3_ok lX3_ok kX3_ok kkX3_ok H) rfl pnX3 nrV (fun h => by cases h) rfl
  exact h

/-! X3_fail (('k', 125), ('n',)) -/
def u179 : List (Nat × TP × EX × Nat × Nat) := []
theorem k179 : chk (mkD iX3_fail fX3 lX3 kX3 kkX3 179 [] c179 false 2 u179) 4000 = true := by decide +kernel
theorem m179 {X0 : zC0} (H : ∀ j, j < 179 → CMj X0 j) : CMj X0 179 := by
  obtain ⟨l0, D0, cy0, ax0⟩ := X0
  intro mi c hc
  have e : conAt 179 = some (182, c179) := rfl
  rw [e] at hc
  obtain ⟨rfl, rfl⟩ := Prod.mk.inj (Option.some.inj hc)
  have e2 : mt 182 = (yX3_fail, cX3_fail, 2, none) := rfl
  rw [e2]
  have h := chk_ok (l0 := l0) (D0 := D0) (cy0 := cy0) (ax0 := ax0) (y := yX3_fail) (cc := cX3_fail) (ret := none) k179 (mk_ok jX3_fail fX3_ok lX3_ok kX3_ok kkX3_ok H) rfl pnX3 nrV (fun h => by cases h) rfl
  exact h

/-! X3_expect (('k', 125), ('n',)) -/
def u180 : List (Nat × TP × EX × Nat × Nat) := []
theorem k180 : chk (mkD iX3_expect fX3 lX3 kX3 kkX3 180 [(10, [179]), (24, [177])] c180 false 2 u180) 4000 = true := by decide +kernel
theorem m180 {X0 : zC0} (H : ∀ j, j < 180 → CMj X0 j) : CMj X0 180 := by
  obtain ⟨l0, D0, cy0, ax0⟩ := X0
  intro mi c hc
  have e : conAt 180 = some (180, c180) := rfl
  rw [e] at hc
  obtain ⟨rfl, rfl⟩ := Prod.mk.inj (Option.some.inj hc)
  have e2 : mt 180 = (yX3_expect, cX3_expect, 2, none) := rfl
  rw [e2]
  have h := chk_ok (l0 := l0) (D0 := D0) (cy0 := cy0) (ax0 := ax0) (y := yX3_expect) (cc := cX3_expect) (ret := none) k180 (mk_ok jX3_expect fX3_ok lX3_ok kX3_ok kkX3_ok H) rfl pnX3 nrV (fun h => by cases h) rfl
  exact h

/-! X3_isOwnName (('n',),) -/
def u181 : List (Nat × TP × EX × Nat × Nat) := []
theorem k181 : chk (mkD iX3_isOwnName fX3 lX3 kX3 kkX3 181 [(11, [56])] c181 true 1 u181) 4000 = true := by decide +kernel
theorem m181 {X0 : zC0} (H : ∀ j, j < 181 → CMj X0 j) : CMj X0 181 := by
  obtain ⟨l0, D0, cy0, ax0⟩ := X0
  intro mi c hc
  have e : conAt 181 = some (184, c181) := rfl
  rw [e] at hc
  obtain ⟨rfl, rfl⟩ := Prod.mk.inj (Option.some.inj hc)
  have e2 : mt 184 = (yX3_isOwnName, cX3_isOwnName, 1, (some .boolean)) := rfl
  rw [e2]
  have h := chk_ok (l0 := l0) (D0 := D0) (cy0 := cy0) (ax0 := ax0) (y := yX3_isOwnName) (cc := cX3_isOwnName) (ret := (some .boolean)) k181 (mk_ok jX3_isOwnName fX3_ok lX3_ok kX3_ok kkX3_ok H) ⟨_, rfl⟩ pnX3 (fun h => by cases h) (fun _ => rfl) rfl
  exact h

/-! X3_isName (('n',),) -/
def u182 : List (Nat × TP × EX × Nat × Nat) := []
theorem k182 : chk (mkD iX3_isName fX3 lX3 kX3 kkX3 182 [(1, [181]), (18, [56])] c182 true 1 u182) 4000 = true := by decide +kernel
theorem m182 {X0 : zC0} (H : ∀ j, j < 182 → CMj X0 j) : CMj X0 182 := by
  obtain ⟨l0, D0, cy0, ax0⟩ := X0
  intro mi c hc
  have e : conAt 182 = some (183, c182) := rfl
  rw [e] at hc
  obtain ⟨rfl, rfl⟩ := Prod.mk.inj (Option.some.inj hc)
  have e2 : mt 183 = (yX3_isName, cX3_isName, 1, (some .boolean)) := rfl
  rw [e2]
  have h := chk_ok (l0 := l0) (D0 := D0) (cy0 := cy0) (ax0 := ax0) (y := yX3_isName) (cc := cX3_isName) (ret := (some .boolean)) k182 (mk_ok jX3_isName fX3_ok lX3_ok kX3_ok kkX3_ok H) ⟨_, rfl⟩ pnX3 (fun h => by cases h) (fun _ => rfl) rfl
  exact h

/-! X3_readName (('k', 125), ('n',)) -/
def u184 : List (Nat × TP × EX × Nat × Nat) := []
theorem k184 : chk (mkD iX3_readName fX3 lX3 kX3 kkX3 184 [(4, [181]), (43, [179]), (57, [183]), (61, [177])] c184 false 3 u184) 4000 = true := by decide +kernel
theorem m184 {X0 : zC0} (H : ∀ j, j < 184 → CMj X0 j) : CMj X0 184 := by
  obtain ⟨l0, D0, cy0, ax0⟩ := X0
  intro mi c hc
  have e : conAt 184 = some (192, c184) := rfl
  rw [e] at hc
  obtain ⟨rfl, rfl⟩ := Prod.mk.inj (Option.some.inj hc)
  have e2 : mt 192 = (yX3_readName, cX3_readName, 3, none) := rfl
  rw [e2]
  have h := chk_ok (l0 := l0) (D0 := D0) (cy0 := cy0) (ax0 := ax0) (y := yX3_readName) (cc := cX3_readName) (ret := none) k184 (mk_ok jX3_readName fX3_ok lX3_ok kX3_ok kkX3_ok H) rfl pnX3 nrV (fun h => by cases h) rfl
  exact h

/-! X3_opens (('k', 125), ('c', 0)) -/
def u185 : List (Nat × TP × EX × Nat × Nat) := []
theorem k185 : chk (mkD iX3_opens fX3 lX3 kX3 kkX3 185 [(21, [177])] c185 true 2 u185) 4000 = true := by decide +kernel
theorem m185 {X0 : zC0} (H : ∀ j, j < 185 → CMj X0 j) : CMj X0 185 := by
  obtain ⟨l0, D0, cy0, ax0⟩ := X0
  intro mi c hc
  have e : conAt 185 = some (185, c185) := rfl
  rw [e] at hc
  obtain ⟨rfl, rfl⟩ := Prod.mk.inj (Option.some.inj hc)
  have e2 : mt 185 = (yX3_opens, cX3_opens, 2, (some .boolean)) := rfl
  rw [e2]
  have h := chk_ok (l0 := l0) (D0 := D0) (cy0 := cy0) (ax0 := ax0) (y := yX3_opens) (cc := cX3_opens) (ret := (some .boolean)) k185 (mk_ok jX3_opens fX3_ok lX3_ok kX3_ok kkX3_ok H) ⟨_, rfl⟩ pnX3 (fun h => by cases h) (fun _ => rfl) rfl
  exact h

/-! X3_opens (('k', 125), ('c', 1)) -/
def u187 : List (Nat × TP × EX × Nat × Nat) := []
theorem k187 : chk (mkD iX3_opens fX3 lX3 kX3 kkX3 187 [(21, [177])] c187 true 2 u187) 4000 = true := by decide +kernel
theorem m187 {X0 : zC0} (H : ∀ j, j < 187 → CMj X0 j) : CMj X0 187 := by
  obtain ⟨l0, D0, cy0, ax0⟩ := X0
  intro mi c hc
  have e : conAt 187 = some (185, c187) := rfl
  rw [e] at hc
  obtain ⟨rfl, rfl⟩ := Prod.mk.inj (Option.some.inj hc)
  have e2 : mt 185 = (yX3_opens, cX3_opens, 2, (some .boolean)) := rfl
  rw [e2]
  have h := chk_ok (l0 := l0) (D0 := D0) (cy0 := cy0) (ax0 := ax0) (y := yX3_opens) (cc := cX3_opens) (ret := (some .boolean)) k187 (mk_ok jX3_opens fX3_ok lX3_ok kX3_ok kkX3_ok H) ⟨_, rfl⟩ pnX3 (fun h => by cases h) (fun _ => rfl) rfl
  exact h

/-! X3_opens (('k', 125), ('c', 2)) -/
def u188 : List (Nat × TP × EX × Nat × Nat) := []
theorem k188 : chk (mkD iX3_opens fX3 lX3 kX3 kkX3 188 [(21, [177])] c188 true 2 u188) 4000 = true := by decide +kernel
theorem m188 {X0 : zC0} (H : ∀ j, j < 188 → CMj X0 j) : CMj X0 188 := by
  obtain ⟨l0, D0, cy0, ax0⟩ := X0
  intro mi c hc
  have e : conAt 188 = some (185, c188) := rfl
  rw [e] at hc
  obtain ⟨rfl, rfl⟩ := Prod.mk.inj (Option.some.inj hc)
  have e2 : mt 185 = (yX3_opens, cX3_opens, 2, (some .boolean)) := rfl
  rw [e2]
  have h := chk_ok (l0 := l0) (D0 := D0) (cy0 := cy0) (ax0 := ax0) (y := yX3_opens) (cc := cX3_opens) (ret := (some .boolean)) k188 (mk_ok jX3_opens fX3_ok lX3_ok kX3_ok kkX3_ok H) ⟨_, rfl⟩ pnX3 (fun h => by cases h) (fun _ => rfl) rfl
  exact h

/-! X3_opens (('k', 125), ('c', 3)) -/
def u189 : List (Nat × TP × EX × Nat × Nat) := []
theorem k189 : chk (mkD iX3_opens fX3 lX3 kX3 kkX3 189 [(21, [177])] c189 true 2 u189) 4000 = true := by decide +kernel
theorem m189 {X0 : zC0} (H : ∀ j, j < 189 → CMj X0 j) : CMj X0 189 := by
  obtain ⟨l0, D0, cy0, ax0⟩ := X0
  intro mi c hc
  have e : conAt 189 = some (185, c189) := rfl
  rw [e] at hc
  obtain ⟨rfl, rfl⟩ := Prod.mk.inj (Option.some.inj hc)
  have e2 : mt 185 = (yX3_opens, cX3_opens, 2, (some .boolean)) := rfl
  rw [e2]
  have h := chk_ok (l0 := l0) (D0 := D0) (cy0 := cy0) (ax0 := ax0) (y := yX3_opens) (cc := cX3_opens) (ret := (some .boolean)) k189 (mk_ok jX3_opens fX3_ok lX3_ok kX3_ok kkX3_ok H) ⟨_, rfl⟩ pnX3 (fun h => by cases h) (fun _ => rfl) rfl
  exact h

/-! X3_opens (('k', 125), ('c', 4)) -/
def u190 : List (Nat × TP × EX × Nat × Nat) := []
theorem k190 : chk (mkD iX3_opens fX3 lX3 kX3 kkX3 190 [(21, [177])] c190 true 2 u190) 4000 = true := by decide +kernel
theorem m190 {X0 : zC0} (H : ∀ j, j < 190 → CMj X0 j) : CMj X0 190 := by
  obtain ⟨l0, D0, cy0, ax0⟩ := X0
  intro mi c hc
  have e : conAt 190 = some (185, c190) := rfl
  rw [e] at hc
  obtain ⟨rfl, rfl⟩ := Prod.mk.inj (Option.some.inj hc)
  have e2 : mt 185 = (yX3_opens, cX3_opens, 2, (some .boolean)) := rfl
  rw [e2]
  have h := chk_ok (l0 := l0) (D0 := D0) (cy0 := cy0) (ax0 := ax0) (y := yX3_opens) (cc := cX3_opens) (ret := (some .boolean)) k190 (mk_ok jX3_opens fX3_ok lX3_ok kX3_ok kkX3_ok H) ⟨_, rfl⟩ pnX3 (fun h => by cases h) (fun _ => rfl) rfl
  exact h

/-! X3_opens (('k', 125), ('c', 5)) -/
def u191 : List (Nat × TP × EX × Nat × Nat) := []
theorem k191 : chk (mkD iX3_opens fX3 lX3 kX3 kkX3 191 [(21, [177])] c191 true 2 u191) 4000 = true := by decide +kernel
theorem m191 {X0 : zC0} (H : ∀ j, j < 191 → CMj X0 j) : CMj X0 191 := by
  obtain ⟨l0, D0, cy0, ax0⟩ := X0
  intro mi c hc
  have e : conAt 191 = some (185, c191) := rfl
  rw [e] at hc
  obtain ⟨rfl, rfl⟩ := Prod.mk.inj (Option.some.inj hc)
  have e2 : mt 185 = (yX3_opens, cX3_opens, 2, (some .boolean)) := rfl
  rw [e2]
  have h := chk_ok (l0 := l0) (D0 := D0) (cy0 := cy0) (ax0 := ax0) (y := yX3_opens) (cc := cX3_opens) (ret := (some .boolean)) k191 (mk_ok jX3_opens fX3_ok lX3_ok kX3_ok kkX3_ok H) ⟨_, rfl⟩ pnX3 (fun h => by cases h) (fun _ => rfl) rfl
  exact h

/-! X3_opens (('k', 125), ('c', 6)) -/
def u192 : List (Nat × TP × EX × Nat × Nat) := []
theorem k192 : chk (mkD iX3_opens fX3 lX3 kX3 kkX3 192 [(21, [177])] c192 true 2 u192) 4000 = true := by decide +kernel
theorem m192 {X0 : zC0} (H : ∀ j, j < 192 → CMj X0 j) : CMj X0 192 := by
  obtain ⟨l0, D0, cy0, ax0⟩ := X0
  intro mi c hc
  have e : conAt 192 = some (185, c192) := rfl
  rw [e] at hc
  obtain ⟨rfl, rfl⟩ := Prod.mk.inj (Option.some.inj hc)
  have e2 : mt 185 = (yX3_opens, cX3_opens, 2, (some .boolean)) := rfl
  rw [e2]
  have h := chk_ok (l0 := l0) (D0 := D0) (cy0 := cy0) (ax0 := ax0) (y := yX3_opens) (cc := cX3_opens) (ret := (some .boolean)) k192 (mk_ok jX3_opens fX3_ok lX3_ok kX3_ok kkX3_ok H) ⟨_, rfl⟩ pnX3 (fun h => by cases h) (fun _ => rfl) rfl
  exact h

/-! X3_opens (('k', 125), ('c', 7)) -/
def u193 : List (Nat × TP × EX × Nat × Nat) := []
theorem k193 : chk (mkD iX3_opens fX3 lX3 kX3 kkX3 193 [(21, [177])] c193 true 2 u193) 4000 = true := by decide +kernel
theorem m193 {X0 : zC0} (H : ∀ j, j < 193 → CMj X0 j) : CMj X0 193 := by
  obtain ⟨l0, D0, cy0, ax0⟩ := X0
  intro mi c hc
  have e : conAt 193 = some (185, c193) := rfl
  rw [e] at hc
  obtain ⟨rfl, rfl⟩ := Prod.mk.inj (Option.some.inj hc)
  have e2 : mt 185 = (yX3_opens, cX3_opens, 2, (some .boolean)) := rfl
  rw [e2]
  have h := chk_ok (l0 := l0) (D0 := D0) (cy0 := cy0) (ax0 := ax0) (y := yX3_opens) (cc := cX3_opens) (ret := (some .boolean)) k193 (mk_ok jX3_opens fX3_ok lX3_ok kX3_ok kkX3_ok H) ⟨_, rfl⟩ pnX3 (fun h => by cases h) (fun _ => rfl) rfl
  exact h

/-! X3_opens (('k', 125), ('c', 8)) -/
def u194 : List (Nat × TP × EX × Nat × Nat) := []
theorem k194 : chk (mkD iX3_opens fX3 lX3 kX3 kkX3 194 [(8, [179]), (21, [177])] c194 true 2 u194) 4000 = true := by decide +kernel
theorem m194 {X0 : zC0} (H : ∀ j, j < 194 → CMj X0 j) : CMj X0 194 := by
  obtain ⟨l0, D0, cy0, ax0⟩ := X0
  intro mi c hc
  have e : conAt 194 = some (185, c194) := rfl
  rw [e] at hc
  obtain ⟨rfl, rfl⟩ := Prod.mk.inj (Option.some.inj hc)
  have e2 : mt 185 = (yX3_opens, cX3_opens, 2, (some .boolean)) := rfl
  rw [e2]
  have h := chk_ok (l0 := l0) (D0 := D0) (cy0 := cy0) (ax0 := ax0) (y := yX3_opens) (cc := cX3_opens) (ret := (some .boolean)) k194 (mk_ok jX3_opens fX3_ok lX3_ok kX3_ok kkX3_ok H) ⟨_, rfl⟩ pnX3 (fun h => by cases h) (fun _ => rfl) rfl
  exact h

/-! X3_readGroup (('k', 125), ('c', 8)) -/
def u195 : List (Nat × TP × EX × Nat × Nat) := []
theorem k195 : chk (mkD iX3_readGroup fX3 lX3 kX3 kkX3 195 [(25, [194])] c195 false 4 u195) 4000 = true := by decide +kernel
theorem m195 {X0 : zC0} (H : ∀ j, j < 195 → CMj X0 j) : CMj X0 195 := by
  obtain ⟨l0, D0, cy0, ax0⟩ := X0
  intro mi c hc
  have e : conAt 195 = some (190, c195) := rfl
  rw [e] at hc
  obtain ⟨rfl, rfl⟩ := Prod.mk.inj (Option.some.inj hc)
  have e2 : mt 190 = (yX3_readGroup, cX3_readGroup, 4, none) := rfl
  rw [e2]
  have h := chk_ok (l0 := l0) (D0 := D0) (cy0 := cy0) (ax0 := ax0) (y := yX3_readGroup) (cc := cX3_readGroup) (ret := none) k195 (mk_ok jX3_readGroup fX3_ok lX3_ok kX3_ok kkX3_ok H) rfl pnX3 nrV (fun h => by cases h) rfl
  exact h

/-! X3_expectNumber (('k', 125), ('n',), ('n',)) -/
def u197 : List (Nat × TP × EX × Nat × Nat) := []
theorem k197 : chk (mkD iX3_expectNumber fX3 lX3 kX3 kkX3 197 [(11, [179]), (31, [56]), (39, [179]), (53, [177])] c197 false 3 u197) 4000 = true := by decide +kernel
theorem m197 {X0 : zC0} (H : ∀ j, j < 197 → CMj X0 j) : CMj X0 197 := by
  obtain ⟨l0, D0, cy0, ax0⟩ := X0
  intro mi c hc
  have e : conAt 197 = some (181, c197) := rfl
  rw [e] at hc
  obtain ⟨rfl, rfl⟩ := Prod.mk.inj (Option.some.inj hc)
  have e2 : mt 181 = (yX3_expectNumber, cX3_expectNumber, 3, none) := rfl
  rw [e2]
  have h := chk_ok (l0 := l0) (D0 := D0) (cy0 := cy0) (ax0 := ax0) (y := yX3_expectNumber) (cc := cX3_expectNumber) (ret := none) k197 (mk_ok jX3_expectNumber fX3_ok lX3_ok kX3_ok kkX3_ok H) rfl pnX3 nrV (fun h => by cases h) rfl
  exact h

/-! X3_readOne (('k', 125), ('c', 8), ('n',)) -/
def u198 : List (Nat × TP × EX × Nat × Nat) := []
theorem k198 : chk (mkD iX3_readOne fX3 lX3 kX3 kkX3 198 [(35, [196]), (43, [197]), (53, [182]), (61, [184]), (78, [194]), (112, [194]), (159, [195]), (167, [179])] c198 false 3 u198) 4000 = true := by decide +kernel
theorem m198 {X0 : zC0} (H : ∀ j, j < 198 → CMj X0 j) : CMj X0 198 := by
  obtain ⟨l0, D0, cy0, ax0⟩ := X0
  intro mi c hc
  have e : conAt 198 = some (193, c198) := rfl
  rw [e] at hc
  obtain ⟨rfl, rfl⟩ := Prod.mk.inj (Option.some.inj hc)
  have e2 : mt 193 = (yX3_readOne, cX3_readOne, 3, none) := rfl
  rw [e2]
  have h := chk_ok (l0 := l0) (D0 := D0) (cy0 := cy0) (ax0 := ax0) (y := yX3_readOne) (cc := cX3_readOne) (ret := none) k198 (mk_ok jX3_readOne fX3_ok lX3_ok kX3_ok kkX3_ok H) rfl pnX3 nrV (fun h => by cases h) rfl
  exact h

/-! X3_readProduct (('k', 125), ('c', 8), ('n',)) -/
def u200 : List (Nat × TP × EX × Nat × Nat) := [(8, ([(0, (2, 0, (0, []))), (1, (0, 0, (8, []))), (2, (0, 0, (0, [(1, 0)]))), (3, (0, 0, (0, [(1, 1)])))], [], ([(0, 1), (0, 300)], [], [], [125], [((125, (3, [])), (20, []))], [], []), [(0, 3, (0, []))], []), (300, [((-1), 1)]), 0, 0)]
theorem k200 : chk (mkD iX3_readProduct fX3 lX3 kX3 kkX3 200 [(3, [198]), (47, [177]), (53, [198]), (63, [199])] c200 false 5 u200) 4000 = true := by decide +kernel
theorem m200 {X0 : zC0} (H : ∀ j, j < 200 → CMj X0 j) : CMj X0 200 := by
  obtain ⟨l0, D0, cy0, ax0⟩ := X0
  intro mi c hc
  have e : conAt 200 = some (195, c200) := rfl
  rw [e] at hc
  obtain ⟨rfl, rfl⟩ := Prod.mk.inj (Option.some.inj hc)
  have e2 : mt 195 = (yX3_readProduct, cX3_readProduct, 5, none) := rfl
  rw [e2]
  have h := chk_ok (l0 := l0) (D0 := D0) (cy0 := cy0) (ax0 := ax0) (y := yX3_readProduct) (cc := cX3_readProduct) (ret := none) k200 (mk_ok jX3_readProduct fX3_ok lX3_ok kX3_ok kkX3_ok H) rfl pnX3 nrV (fun h => by cases h) rfl
  exact h

/-! X3_readSum (('k', 125), ('c', 8), ('n',)) -/
def u201 : List (Nat × TP × EX × Nat × Nat) := [(8, ([(0, (2, 0, (0, []))), (1, (0, 0, (8, []))), (2, (0, 0, (0, [(1, 0)]))), (3, (0, 0, (0, [(1, 1)])))], [], ([(0, 1), (0, 300)], [], [], [125], [((125, (3, [])), (20, []))], [], []), [(0, 3, (0, []))], []), (300, [((-1), 1)]), 0, 0)]
theorem k201 : chk (mkD iX3_readSum fX3 lX3 kX3 kkX3 201 [(3, [200]), (47, [177]), (53, [200]), (63, [199])] c201 false 5 u201) 4000 = true := by decide +kernel
theorem m201 {X0 : zC0} (H : ∀ j, j < 201 → CMj X0 j) : CMj X0 201 := by
  obtain ⟨l0, D0, cy0, ax0⟩ := X0
  intro mi c hc
  have e : conAt 201 = some (196, c201) := rfl
  rw [e] at hc
  obtain ⟨rfl, rfl⟩ := Prod.mk.inj (Option.some.inj hc)
  have e2 : mt 196 = (yX3_readSum, cX3_readSum, 5, none) := rfl
  rw [e2]
  have h := chk_ok (l0 := l0) (D0 := D0) (cy0 := cy0) (ax0 := ax0) (y := yX3_readSum) (cc := cX3_readSum) (ret := none) k201 (mk_ok jX3_readSum fX3_ok lX3_ok kX3_ok kkX3_ok H) rfl pnX3 nrV (fun h => by cases h) rfl
  exact h

/-! X3_readAsk (('k', 125), ('c', 8)) -/
def u202 : List (Nat × TP × EX × Nat × Nat) := []
theorem k202 : chk (mkD iX3_readAsk fX3 lX3 kX3 kkX3 202 [(11, [194]), (38, [201]), (84, [180]), (90, [201]), (99, [199]), (107, [179])] c202 false 3 u202) 4000 = true := by decide +kernel
theorem m202 {X0 : zC0} (H : ∀ j, j < 202 → CMj X0 j) : CMj X0 202 := by
  obtain ⟨l0, D0, cy0, ax0⟩ := X0
  intro mi c hc
  have e : conAt 202 = some (186, c202) := rfl
  rw [e] at hc
  obtain ⟨rfl, rfl⟩ := Prod.mk.inj (Option.some.inj hc)
  have e2 : mt 186 = (yX3_readAsk, cX3_readAsk, 3, none) := rfl
  rw [e2]
  have h := chk_ok (l0 := l0) (D0 := D0) (cy0 := cy0) (ax0 := ax0) (y := yX3_readAsk) (cc := cX3_readAsk) (ret := none) k202 (mk_ok jX3_readAsk fX3_ok lX3_ok kX3_ok kkX3_ok H) rfl pnX3 nrV (fun h => by cases h) rfl
  exact h

/-! X3_readBoth (('k', 125), ('c', 8)) -/
def u204 : List (Nat × TP × EX × Nat × Nat) := [(7, ([(0, (2, 0, (0, []))), (1, (0, 0, (8, []))), (2, (0, 0, (0, [(1, 0)])))], [], ([(0, 300)], [], [], [125], [((125, (3, [])), (20, []))], [], []), [(0, 2, (0, []))], []), (300, [((-1), 0)]), 0, 0)]
theorem k204 : chk (mkD iX3_readBoth fX3 lX3 kX3 kkX3 204 [(2, [202]), (31, [177]), (36, [202]), (46, [203])] c204 false 3 u204) 4000 = true := by decide +kernel
theorem m204 {X0 : zC0} (H : ∀ j, j < 204 → CMj X0 j) : CMj X0 204 := by
  obtain ⟨l0, D0, cy0, ax0⟩ := X0
  intro mi c hc
  have e : conAt 204 = some (187, c204) := rfl
  rw [e] at hc
  obtain ⟨rfl, rfl⟩ := Prod.mk.inj (Option.some.inj hc)
  have e2 : mt 187 = (yX3_readBoth, cX3_readBoth, 3, none) := rfl
  rw [e2]
  have h := chk_ok (l0 := l0) (D0 := D0) (cy0 := cy0) (ax0 := ax0) (y := yX3_readBoth) (cc := cX3_readBoth) (ret := none) k204 (mk_ok jX3_readBoth fX3_ok lX3_ok kX3_ok kkX3_ok H) rfl pnX3 nrV (fun h => by cases h) rfl
  exact h

/-! X3_readEither (('k', 125), ('c', 8)) -/
def u206 : List (Nat × TP × EX × Nat × Nat) := [(7, ([(0, (2, 0, (0, []))), (1, (0, 0, (8, []))), (2, (0, 0, (0, [(1, 0)])))], [], ([(0, 300)], [], [], [125], [((125, (3, [])), (20, []))], [], []), [(0, 2, (0, []))], []), (300, [((-1), 0)]), 0, 0)]
theorem k206 : chk (mkD iX3_readEither fX3 lX3 kX3 kkX3 206 [(2, [204]), (31, [177]), (36, [204]), (46, [205])] c206 false 3 u206) 4000 = true := by decide +kernel
theorem m206 {X0 : zC0} (H : ∀ j, j < 206 → CMj X0 j) : CMj X0 206 := by
  obtain ⟨l0, D0, cy0, ax0⟩ := X0
  intro mi c hc
  have e : conAt 206 = some (189, c206) := rfl
  rw [e] at hc
  obtain ⟨rfl, rfl⟩ := Prod.mk.inj (Option.some.inj hc)
  have e2 : mt 189 = (yX3_readEither, cX3_readEither, 3, none) := rfl
  rw [e2]
  have h := chk_ok (l0 := l0) (D0 := D0) (cy0 := cy0) (ax0 := ax0) (y := yX3_readEither) (cc := cX3_readEither) (ret := none) k206 (mk_ok jX3_readEither fX3_ok lX3_ok kX3_ok kkX3_ok H) rfl pnX3 nrV (fun h => by cases h) rfl
  exact h

/-! X3_readGroup (('k', 125), ('c', 7)) -/
def u207 : List (Nat × TP × EX × Nat × Nat) := []
theorem k207 : chk (mkD iX3_readGroup fX3 lX3 kX3 kkX3 207 [(25, [193]), (59, [186]), (86, [206]), (97, [201]), (119, [180])] c207 false 4 u207) 4000 = true := by decide +kernel
theorem m207 {X0 : zC0} (H : ∀ j, j < 207 → CMj X0 j) : CMj X0 207 := by
  obtain ⟨l0, D0, cy0, ax0⟩ := X0
  intro mi c hc
  have e : conAt 207 = some (190, c207) := rfl
  rw [e] at hc
  obtain ⟨rfl, rfl⟩ := Prod.mk.inj (Option.some.inj hc)
  have e2 : mt 190 = (yX3_readGroup, cX3_readGroup, 4, none) := rfl
  rw [e2]
  have h := chk_ok (l0 := l0) (D0 := D0) (cy0 := cy0) (ax0 := ax0) (y := yX3_readGroup) (cc := cX3_readGroup) (ret := none) k207 (mk_ok jX3_readGroup fX3_ok lX3_ok kX3_ok kkX3_ok H) rfl pnX3 nrV (fun h => by cases h) rfl
  exact h

/-! X3_readOne (('k', 125), ('c', 7), ('n',)) -/
def u209 : List (Nat × TP × EX × Nat × Nat) := []
theorem k209 : chk (mkD iX3_readOne fX3 lX3 kX3 kkX3 209 [(35, [196]), (43, [197]), (53, [182]), (61, [184]), (78, [193]), (89, [201]), (95, [180]), (112, [193]), (123, [198]), (133, [208]), (159, [207]), (167, [179])] c209 false 3 u209) 4000 = true := by decide +kernel
theorem m209 {X0 : zC0} (H : ∀ j, j < 209 → CMj X0 j) : CMj X0 209 := by
  obtain ⟨l0, D0, cy0, ax0⟩ := X0
  intro mi c hc
  have e : conAt 209 = some (193, c209) := rfl
  rw [e] at hc
  obtain ⟨rfl, rfl⟩ := Prod.mk.inj (Option.some.inj hc)
  have e2 : mt 193 = (yX3_readOne, cX3_readOne, 3, none) := rfl
  rw [e2]
  have h := chk_ok (l0 := l0) (D0 := D0) (cy0 := cy0) (ax0 := ax0) (y := yX3_readOne) (cc := cX3_readOne) (ret := none) k209 (mk_ok jX3_readOne fX3_ok lX3_ok kX3_ok kkX3_ok H) rfl pnX3 nrV (fun h => by cases h) rfl
  exact h

/-! X3_readProduct (('k', 125), ('c', 7), ('n',)) -/
def u210 : List (Nat × TP × EX × Nat × Nat) := [(8, ([(0, (2, 0, (0, []))), (1, (0, 0, (7, []))), (2, (0, 0, (0, [(1, 0)]))), (3, (0, 0, (0, [(1, 1)])))], [], ([(0, 1), (0, 300)], [], [], [125], [((125, (3, [])), (20, []))], [], []), [(0, 3, (0, []))], []), (300, [((-1), 1)]), 0, 0)]
theorem k210 : chk (mkD iX3_readProduct fX3 lX3 kX3 kkX3 210 [(3, [209]), (47, [177]), (53, [209]), (63, [199])] c210 false 5 u210) 4000 = true := by decide +kernel
theorem m210 {X0 : zC0} (H : ∀ j, j < 210 → CMj X0 j) : CMj X0 210 := by
  obtain ⟨l0, D0, cy0, ax0⟩ := X0
  intro mi c hc
  have e : conAt 210 = some (195, c210) := rfl
  rw [e] at hc
  obtain ⟨rfl, rfl⟩ := Prod.mk.inj (Option.some.inj hc)
  have e2 : mt 195 = (yX3_readProduct, cX3_readProduct, 5, none) := rfl
  rw [e2]
  have h := chk_ok (l0 := l0) (D0 := D0) (cy0 := cy0) (ax0 := ax0) (y := yX3_readProduct) (cc := cX3_readProduct) (ret := none) k210 (mk_ok jX3_readProduct fX3_ok lX3_ok kX3_ok kkX3_ok H) rfl pnX3 nrV (fun h => by cases h) rfl
  exact h
