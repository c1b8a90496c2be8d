/-! X2_freshWorld (('k', 131),) -/
def u100 : List (Nat × TP × EX × Nat × Nat) := []
theorem k100 : chk (mkD iX2_freshWorld fX2 lX2 kX2 kkX2 100 [(13, [12])] c100 false 1 u100) 4000 = true := by decide +kernel
theorem m100 {X0 : zC0} (H : ∀ j, j < 100 → CMj X0 j) : CMj X0 100 := by
  obtain ⟨l0, D0, cy0, ax0⟩ := X0
  intro mi c hc
  have e : conAt 100 = some (214, c100) := rfl
  rw [e] at hc
  obtain ⟨rfl, rfl⟩ := Prod.mk.inj (Option.some.inj hc)
  have e2 : mt 214 = (yX2_freshWorld, cX2_freshWorld, 1, (some (.object "OwnRain$World"))) := rfl
  rw [e2]
  have h := chk_ok (l0 := l0) (D0 := D0) (cy0 := cy0) (ax0 := ax0) (y := yX2_freshWorld) (cc := cX2_freshWorld) (ret := (some (.object "OwnRain$World"))) k100 (mk_ok jX2_freshWorld fX2_ok lX2_ok kX2_ok kkX2_ok H) ⟨_, rfl, Or.inl ⟨_, rfl⟩⟩ pnX2 nrO (fun h => by cases h) rfl
  exact h

/-! X9_named (('k', 126), ('n',), ('n',), ('m', 140)) -/
def u101 : List (Nat × TP × EX × Nat × Nat) := []
theorem k101 : chk (mkD iX9_named fX9 lX9 kX9 kkX9 101 [] c101 false 4 u101) 4000 = true := by decide +kernel
theorem m101 {X0 : zC0} (H : ∀ j, j < 101 → CMj X0 j) : CMj X0 101 := by
  obtain ⟨l0, D0, cy0, ax0⟩ := X0
  intro mi c hc
  have e : conAt 101 = some (275, c101) := rfl
  rw [e] at hc
  obtain ⟨rfl, rfl⟩ := Prod.mk.inj (Option.some.inj hc)
  have e2 : mt 275 = (yX9_named, cX9_named, 4, (some .int)) := rfl
  rw [e2]
  have h := chk_ok (l0 := l0) (D0 := D0) (cy0 := cy0) (ax0 := ax0) (y := yX9_named) (cc := cX9_named) (ret := (some .int)) k101 (mk_ok jX9_named fX9_ok lX9_ok kX9_ok kkX9_ok H) ⟨_, rfl⟩ pnX9 nrI (fun h => by cases h) rfl
  exact h

/-! X9_run (('k', 126), ('k', 20), ('n',), ('n',), ('n',), ('m', 140)) -/
def u102 : List (Nat × TP × EX × Nat × Nat) := [(6, ([(0, (2, 0, (0, []))), (1, (2, 1, (0, []))), (2, (0, 0, (0, [(1, 0)]))), (3, (0, 0, (0, [(1, 1)]))), (4, (0, 0, (0, [(1, 2)]))), (5, (0, 0, (0, [(1, 3)]))), (6, (0, 0, (0, [(1, 4)])))], [], ([(0, 300), (0, 300), ((-1), 7), (0, 96), (0, 300)], [(0, [(1, 1), ((-1), 3)]), (0, [(1, 4), ((-1), 0)]), (0, [(1, 4), ((-1), 3)]), (0, [((-1), 3), (1, 4), ((-1), 0)])], [], [126, 20], [((126, (7, [])), (140, []))], [], []), [(0, 5, (0, [])), (0, 6, (0, []))], []), (300, [((-1), 4)]), 0, 0)]
theorem k102 : chk (mkDm iX9_run fX9 lX9 kX9 kkX9 102 [(80, [101]), (236, [62]), (239, [63])] c102 false 9 mac_X9_run u102) 4000 = true := by decide +kernel
theorem m102 {X0 : zC0} (H : ∀ j, j < 102 → CMj X0 j) : CMj X0 102 := by
  obtain ⟨l0, D0, cy0, ax0⟩ := X0
  intro mi c hc
  have e : conAt 102 = some (278, c102) := rfl
  rw [e] at hc
  obtain ⟨rfl, rfl⟩ := Prod.mk.inj (Option.some.inj hc)
  have e2 : mt 278 = (yX9_run, cX9_run, 9, (some .int)) := rfl
  rw [e2]
  have h := chkM_ok (l0 := l0) (D0 := D0) (cy0 := cy0) (ax0 := ax0) (y := yX9_run) (cc := cX9_run) (ret := (some .int)) k102 (mkm_ok jX9_run fX9_ok lX9_ok kX9_ok kkX9_ok H) ⟨_, rfl⟩ pnX9 nrI (fun h => by cases h) (fun E X hE h1 h2 => mac_X9_run_ok hE h1 (by decide))
  exact h

/-! X9_law (('k', 126), ('n',), ('n',), ('k', 140), ('n',), ('n',)) -/
def u103 : List (Nat × TP × EX × Nat × Nat) := [(47, ([(0, (2, 0, (0, []))), (1, (0, 0, (0, [(1, 0)]))), (2, (0, 0, (0, [(1, 1)]))), (3, (2, 1, (0, []))), (4, (0, 0, (0, [(1, 2)]))), (5, (0, 0, (0, [(1, 3)]))), (6, (2, 2, (0, []))), (7, (0, 0, (0, [(1, 4)])))], [], ([(0, 3), ((-2147483648), 2147483647), (0, 5), ((-1), 7), ((-1), 299), (0, 3), (1, 4)], [((-1), [((-1), 5), (1, 6)])], [], [126, 140, 20], [((126, (8, [])), (0, [(1, 2)])), ((126, (7, [])), (140, [])), ((40, (6, [])), (0, [(1, 5)])), ((40, (5, [])), (0, [(1, 6)]))], [], []), [(0, 7, (0, [])), (2, 40, (6, [])), (2, 40, (5, []))], [(0, 6)]), (19, [(10, 4)]), 0, 0), (65, ([(0, (2, 0, (0, []))), (1, (0, 0, (0, [(1, 0)]))), (2, (0, 0, (0, [(1, 1)]))), (3, (2, 1, (0, []))), (4, (0, 0, (0, [(1, 2)]))), (5, (0, 0, (0, [(1, 3)]))), (6, (2, 2, (0, []))), (7, (0, 0, (0, [(1, 4)]))), (8, (0, 0, (0, [(1, 7)]))), (9, (0, 0, (0, [(1, 8)])))], [], ([(0, 3), ((-2147483648), 2147483647), (0, 5), ((-1), 7), (0, 299), (0, 3), (1, 4), ((-2147483648), 2147483647), (0, 8)], [((-1), [(1, 6), ((-1), 5)]), ((-1), [(1, 8), ((-1), 5), (1, 6)])], [], [126, 140, 20], [((126, (8, [])), (0, [(1, 2)])), ((126, (7, [])), (140, [])), ((40, (6, [])), (0, [(1, 5)])), ((40, (5, [])), (0, [(1, 6)]))], [], []), [(0, 7, (0, [])), (2, 40, (6, [])), (2, 40, (5, [])), (0, 8, (0, [])), (0, 9, (0, []))], [(0, 6)]), (18, [((-1), 8), (10, 4)]), 0, 0)]
theorem k103 : chk (mkD iX9_law fX9 lX9 kX9 kkX9 103 [(4, [59]), (17, [60]), (116, [102]), (121, [63]), (166, [102])] c103 false 10 u103) 4000 = true := by decide +kernel
theorem m103 {X0 : zC0} (H : ∀ j, j < 103 → CMj X0 j) : CMj X0 103 := by
  obtain ⟨l0, D0, cy0, ax0⟩ := X0
  intro mi c hc
  have e : conAt 103 = some (273, c103) := rfl
  rw [e] at hc
  obtain ⟨rfl, rfl⟩ := Prod.mk.inj (Option.some.inj hc)
  have e2 : mt 273 = (yX9_law, cX9_law, 10, (some .int)) := rfl
  rw [e2]
  have h := chk_ok (l0 := l0) (D0 := D0) (cy0 := cy0) (ax0 := ax0) (y := yX9_law) (cc := cX9_law) (ret := (some .int)) k103 (mk_ok jX9_law fX9_ok lX9_ok kX9_ok kkX9_ok H) ⟨_, rfl⟩ pnX9 nrI (fun h => by cases h) rfl
  exact h

/-! X9_sweatOf (('k', 126), ('k', 140), ('n',)) -/
def u104 : List (Nat × TP × EX × Nat × Nat) := []
theorem k104 : chk (mkD iX9_sweatOf fX9 lX9 kX9 kkX9 104 [(16, [103]), (24, [53])] c104 false 4 u104) 4000 = true := by decide +kernel
theorem m104 {X0 : zC0} (H : ∀ j, j < 104 → CMj X0 j) : CMj X0 104 := by
  obtain ⟨l0, D0, cy0, ax0⟩ := X0
  intro mi c hc
  have e : conAt 104 = some (279, c104) := rfl
  rw [e] at hc
  obtain ⟨rfl, rfl⟩ := Prod.mk.inj (Option.some.inj hc)
  have e2 : mt 279 = (yX9_sweatOf, cX9_sweatOf, 4, (some .int)) := rfl
  rw [e2]
  have h := chk_ok (l0 := l0) (D0 := D0) (cy0 := cy0) (ax0 := ax0) (y := yX9_sweatOf) (cc := cX9_sweatOf) (ret := (some .int)) k104 (mk_ok jX9_sweatOf fX9_ok lX9_ok kX9_ok kkX9_ok H) ⟨_, rfl⟩ pnX9 nrI (fun h => by cases h) rfl
  exact h

/-! X9_rainFrom (('k', 126), ('k', 140), ('n',)) -/
def u105 : List (Nat × TP × EX × Nat × Nat) := []
theorem k105 : chk (mkD iX9_rainFrom fX9 lX9 kX9 kkX9 105 [(22, [103]), (28, [53]), (54, [103]), (60, [53]), (116, [31])] c105 false 8 u105) 4000 = true := by decide +kernel
theorem m105 {X0 : zC0} (H : ∀ j, j < 105 → CMj X0 j) : CMj X0 105 := by
  obtain ⟨l0, D0, cy0, ax0⟩ := X0
  intro mi c hc
  have e : conAt 105 = some (277, c105) := rfl
  rw [e] at hc
  obtain ⟨rfl, rfl⟩ := Prod.mk.inj (Option.some.inj hc)
  have e2 : mt 277 = (yX9_rainFrom, cX9_rainFrom, 8, none) := rfl
  rw [e2]
  have h := chk_ok (l0 := l0) (D0 := D0) (cy0 := cy0) (ax0 := ax0) (y := yX9_rainFrom) (cc := cX9_rainFrom) (ret := none) k105 (mk_ok jX9_rainFrom fX9_ok lX9_ok kX9_ok kkX9_ok H) rfl pnX9 nrV (fun h => by cases h) rfl
  exact h

/-! X9_closeHour (('k', 126), ('k', 140), ('n',)) -/
def u106 : List (Nat × TP × EX × Nat × Nat) := []
theorem k106 : chk (mkD iX9_closeHour fX9 lX9 kX9 kkX9 106 [(72, [103]), (78, [53])] c106 false 6 u106) 4000 = true := by decide +kernel
theorem m106 {X0 : zC0} (H : ∀ j, j < 106 → CMj X0 j) : CMj X0 106 := by
  obtain ⟨l0, D0, cy0, ax0⟩ := X0
  intro mi c hc
  have e : conAt 106 = some (271, c106) := rfl
  rw [e] at hc
  obtain ⟨rfl, rfl⟩ := Prod.mk.inj (Option.some.inj hc)
  have e2 : mt 271 = (yX9_closeHour, cX9_closeHour, 6, none) := rfl
  rw [e2]
  have h := chk_ok (l0 := l0) (D0 := D0) (cy0 := cy0) (ax0 := ax0) (y := yX9_closeHour) (cc := cX9_closeHour) (ret := none) k106 (mk_ok jX9_closeHour fX9_ok lX9_ok kX9_ok kkX9_ok H) rfl pnX9 nrV (fun h => by cases h) rfl
  exact h

/-! X9_pass (('k', 126), ('k', 140)) -/
def u107 : List (Nat × TP × EX × Nat × Nat) := [(10, ([(0, (2, 0, (0, []))), (1, (2, 1, (0, []))), (2, (2, 2, (0, []))), (3, (0, 0, (0, [(1, 1)])))], [], ([(0, 1028), (0, 8)], [], [], [126, 140, 41], [((140, (9, [])), (0, [(1, 0)]))], [(146, 0, 5)], []), [(0, 3, (0, []))], [(0, 2)]), (24, [((-1), 1)]), 0, 0), (73, ([(0, (2, 0, (0, []))), (1, (2, 1, (0, []))), (2, (2, 2, (0, []))), (3, (0, 0, (0, [(1, 2)])))], [], ([(0, 1028), (0, 8), (0, 8), (0, 255)], [(0, [(1, 1), ((-1), 2)])], [], [126, 140, 41], [((126, (3, [])), (0, [(1, 3)])), ((41, (1, [])), (0, [(1, 1)])), ((140, (9, [])), (0, [(1, 0)]))], [(146, 0, 5)], []), [(2, 41, (1, [])), (0, 3, (0, [])), (2, 126, (3, []))], [(0, 2)]), (15, [((-1), 2)]), 0, 0), (122, ([(0, (2, 0, (0, []))), (1, (2, 1, (0, []))), (2, (2, 2, (0, []))), (3, (0, 0, (0, [(1, 3)])))], [], ([(0, 1028), (0, 255), (0, 8), (0, 6)], [], [], [126, 140, 41], [((126, (3, [])), (0, [(1, 1)])), ((41, (1, [])), (0, [(1, 2)])), ((140, (9, [])), (0, [(1, 0)]))], [(146, 0, 5)], []), [(2, 126, (3, [])), (2, 41, (1, [])), (0, 3, (0, []))], [(0, 2)]), (6, [((-1), 3)]), 0, 0)]
theorem k107 : chk (mkD iX9_pass fX9 lX9 kX9 kkX9 107 [(26, [104]), (111, [105]), (145, [106]), (159, [38]), (176, [0])] c107 false 4 u107) 4000 = true := by decide +kernel
theorem m107 {X0 : zC0} (H : ∀ j, j < 107 → CMj X0 j) : CMj X0 107 := by
  obtain ⟨l0, D0, cy0, ax0⟩ := X0
  intro mi c hc
  have e : conAt 107 = some (276, c107) := rfl
  rw [e] at hc
  obtain ⟨rfl, rfl⟩ := Prod.mk.inj (Option.some.inj hc)
  have e2 : mt 276 = (yX9_pass, cX9_pass, 4, (some .int)) := rfl
  rw [e2]
  have h := chk_ok (l0 := l0) (D0 := D0) (cy0 := cy0) (ax0 := ax0) (y := yX9_pass) (cc := cX9_pass) (ret := (some .int)) k107 (mk_ok jX9_pass fX9_ok lX9_ok kX9_ok kkX9_ok H) ⟨_, rfl⟩ pnX9 nrI (fun h => by cases h) rfl
  exact h

/-! X2_foretell (('k', 131), ('n',)) -/
def u108 : List (Nat × TP × EX × Nat × Nat) := [(7, ([(0, (2, 0, (0, []))), (1, (0, 0, (0, [(1, 0)]))), (2, (2, 1, (0, []))), (3, (0, 0, (0, [(1, 9)])))], [], ([(1, 30), (0, 39), (0, 40), (0, 30186), (0, 1029), (0, 999), ((-2147483648), 2147483647), ((-2147483648), 2147483647), ((-2147483648), 2147483647), (0, 30)], [(0, [(1, 0), ((-1), 9)]), (0, [(1, 4), ((-1), 5)]), (0, [(1, 4), ((-1), 9)]), (999, [((-1), 4), (1, 9)])], [], [131, 140], [((50, (12, [])), (0, [(1, 1)])), ((50, (11, [])), (0, [(1, 2)])), ((140, (10, [])), (0, [(1, 3)])), ((50, (10, [])), (0, [(1, 3)])), ((140, (9, [])), (0, [(1, 4)])), ((50, (9, [])), (0, [(1, 5)])), ((50, (8, [])), (0, [(1, 6)])), ((50, (7, [])), (0, [(1, 7)])), ((50, (6, [])), (0, [(1, 8)]))], [(146, 0, 5)], []), [(2, 50, (12, [])), (2, 50, (11, [])), (2, 140, (10, [])), (2, 140, (9, [])), (2, 50, (9, [])), (2, 50, (8, [])), (2, 50, (7, [])), (2, 50, (6, [])), (0, 3, (0, []))], [(0, 2)]), (30, [((-1), 9)]), 0, 0)]
theorem k108 : chk (mkD iX2_foretell fX2 lX2 kX2 kkX2 108 [(1, [100]), (17, [107])] c108 false 4 u108) 4000 = true := by decide +kernel
theorem m108 {X0 : zC0} (H : ∀ j, j < 108 → CMj X0 j) : CMj X0 108 := by
  obtain ⟨l0, D0, cy0, ax0⟩ := X0
  intro mi c hc
  have e : conAt 108 = some (213, c108) := rfl
  rw [e] at hc
  obtain ⟨rfl, rfl⟩ := Prod.mk.inj (Option.some.inj hc)
  have e2 : mt 213 = (yX2_foretell, cX2_foretell, 4, (some (.object "OwnRain$World"))) := rfl
  rw [e2]
  have h := chk_ok (l0 := l0) (D0 := D0) (cy0 := cy0) (ax0 := ax0) (y := yX2_foretell) (cc := cX2_foretell) (ret := (some (.object "OwnRain$World"))) k108 (mk_ok jX2_foretell fX2_ok lX2_ok kX2_ok kkX2_ok H) ⟨_, rfl, Or.inl ⟨_, rfl⟩⟩ pnX2 nrO (fun h => by cases h) rfl
  exact h

/-! X11_isOf (('n',), ('n',)) -/
def u109 : List (Nat × TP × EX × Nat × Nat) := []
theorem k109 : chk (mkD iX11_isOf fX11 lX11 kX11 kkX11 109 [(4, [56])] c109 true 2 u109) 4000 = true := by decide +kernel
theorem m109 {X0 : zC0} (H : ∀ j, j < 109 → CMj X0 j) : CMj X0 109 := by
  obtain ⟨l0, D0, cy0, ax0⟩ := X0
  intro mi c hc
  have e : conAt 109 = some (44, c109) := rfl
  rw [e] at hc
  obtain ⟨rfl, rfl⟩ := Prod.mk.inj (Option.some.inj hc)
  have e2 : mt 44 = (yX11_isOf, cX11_isOf, 2, (some .boolean)) := rfl
  rw [e2]
  have h := chk_ok (l0 := l0) (D0 := D0) (cy0 := cy0) (ax0 := ax0) (y := yX11_isOf) (cc := cX11_isOf) (ret := (some .boolean)) k109 (mk_ok jX11_isOf fX11_ok lX11_ok kX11_ok kkX11_ok H) ⟨_, rfl⟩ pnX11 (fun h => by cases h) (fun _ => rfl) rfl
  exact h

/-! X2_firstRain (('k', 131), ('n',), ('n',)) -/
def u110 : List (Nat × TP × EX × Nat × Nat) := [(8, ([(0, (2, 0, (0, []))), (1, (0, 0, (0, [(1, 0)]))), (2, (0, 0, (0, [(1, 1)]))), (3, (2, 1, (0, []))), (4, (0, 0, (0, [(1, 10)])))], [], ([(1, 30), (0, 7), (0, 39), (0, 40), (0, 30186), (0, 1029), (0, 999), ((-2147483648), 2147483647), ((-2147483648), 2147483647), ((-2147483648), 2147483647), (1, 31)], [(1, [(1, 0), ((-1), 10)]), (0, [(1, 5), ((-1), 6)]), (1, [(1, 5), ((-1), 10)]), (998, [((-1), 5), (1, 10)])], [], [131, 140], [((50, (12, [])), (0, [(1, 2)])), ((50, (11, [])), (0, [(1, 3)])), ((140, (10, [])), (0, [(1, 4)])), ((50, (10, [])), (0, [(1, 4)])), ((140, (9, [])), (0, [(1, 5)])), ((50, (9, [])), (0, [(1, 6)])), ((50, (8, [])), (0, [(1, 7)])), ((50, (7, [])), (0, [(1, 8)])), ((50, (6, [])), (0, [(1, 9)]))], [(146, 0, 5)], []), [(2, 50, (12, [])), (2, 50, (11, [])), (2, 140, (10, [])), (2, 140, (9, [])), (2, 50, (9, [])), (2, 50, (8, [])), (2, 50, (7, [])), (2, 50, (6, [])), (0, 4, (0, []))], [(0, 3)]), (31, [((-1), 10)]), 0, 0)]
theorem k110 : chk (mkD iX2_firstRain fX2 lX2 kX2 kkX2 110 [(1, [100]), (19, [107]), (31, [109])] c110 false 5 u110) 4000 = true := by decide +kernel
theorem m110 {X0 : zC0} (H : ∀ j, j < 110 → CMj X0 j) : CMj X0 110 := by
  obtain ⟨l0, D0, cy0, ax0⟩ := X0
  intro mi c hc
  have e : conAt 110 = some (212, c110) := rfl
  rw [e] at hc
  obtain ⟨rfl, rfl⟩ := Prod.mk.inj (Option.some.inj hc)
  have e2 : mt 212 = (yX2_firstRain, cX2_firstRain, 5, (some .int)) := rfl
  rw [e2]
  have h := chk_ok (l0 := l0) (D0 := D0) (cy0 := cy0) (ax0 := ax0) (y := yX2_firstRain) (cc := cX2_firstRain) (ret := (some .int)) k110 (mk_ok jX2_firstRain fX2_ok lX2_ok kX2_ok kkX2_ok H) ⟨_, rfl⟩ pnX2 nrI (fun h => by cases h) rfl
  exact h

/-! X11_foretoldCloud (('k', 197), ('n',), ('n',), ('n',)) -/
def u111 : List (Nat × TP × EX × Nat × Nat) := []
theorem k111 : chk (mkD iX11_foretoldCloud fX11 lX11 kX11 kkX11 111 [(4, [56]), (18, [7]), (36, [110]), (47, [108])] c111 false 4 u111) 4000 = true := by decide +kernel
theorem m111 {X0 : zC0} (H : ∀ j, j < 111 → CMj X0 j) : CMj X0 111 := by
  obtain ⟨l0, D0, cy0, ax0⟩ := X0
  intro mi c hc
  have e : conAt 111 = some (37, c111) := rfl
  rw [e] at hc
  obtain ⟨rfl, rfl⟩ := Prod.mk.inj (Option.some.inj hc)
  have e2 : mt 37 = (yX11_foretoldCloud, cX11_foretoldCloud, 4, (some .int)) := rfl
  rw [e2]
  have h := chk_ok (l0 := l0) (D0 := D0) (cy0 := cy0) (ax0 := ax0) (y := yX11_foretoldCloud) (cc := cX11_foretoldCloud) (ret := (some .int)) k111 (mk_ok jX11_foretoldCloud fX11_ok lX11_ok kX11_ok kkX11_ok H) ⟨_, rfl⟩ pnX11 nrI (fun h => by cases h) rfl
  exact h

/-! X11_foretoldWet (('k', 197), ('n',), ('n',)) -/
def u112 : List (Nat × TP × EX × Nat × Nat) := []
theorem k112 : chk (mkD iX11_foretoldWet fX11 lX11 kX11 kkX11 112 [(4, [56]), (18, [6]), (31, [108])] c112 false 3 u112) 4000 = true := by decide +kernel
theorem m112 {X0 : zC0} (H : ∀ j, j < 112 → CMj X0 j) : CMj X0 112 := by
  obtain ⟨l0, D0, cy0, ax0⟩ := X0
  intro mi c hc
  have e : conAt 112 = some (38, c112) := rfl
  rw [e] at hc
  obtain ⟨rfl, rfl⟩ := Prod.mk.inj (Option.some.inj hc)
  have e2 : mt 38 = (yX11_foretoldWet, cX11_foretoldWet, 3, (some .int)) := rfl
  rw [e2]
  have h := chk_ok (l0 := l0) (D0 := D0) (cy0 := cy0) (ax0 := ax0) (y := yX11_foretoldWet) (cc := cX11_foretoldWet) (ret := (some .int)) k112 (mk_ok jX11_foretoldWet fX11_ok lX11_ok kX11_ok kkX11_ok H) ⟨_, rfl⟩ pnX11 nrI (fun h => by cases h) rfl
  exact h

/-! X2_growsAsMuch (('k', 131), ('k', 140)) -/
def u113 : List (Nat × TP × EX × Nat × Nat) := [(2, ([(0, (2, 0, (0, []))), (1, (2, 1, (0, []))), (2, (0, 0, (0, [(1, 0)])))], [], ([(0, 6)], [], [], [131, 140], [], [], []), [(0, 2, (0, []))], []), (6, [((-1), 0)]), 0, 0)]
theorem k113 : chk (mkD iX2_growsAsMuch fX2 lX2 kX2 kkX2 113 [] c113 true 3 u113) 4000 = true := by decide +kernel
theorem m113 {X0 : zC0} (H : ∀ j, j < 113 → CMj X0 j) : CMj X0 113 := by
  obtain ⟨l0, D0, cy0, ax0⟩ := X0
  intro mi c hc
  have e : conAt 113 = some (215, c113) := rfl
  rw [e] at hc
  obtain ⟨rfl, rfl⟩ := Prod.mk.inj (Option.some.inj hc)
  have e2 : mt 215 = (yX2_growsAsMuch, cX2_growsAsMuch, 3, (some .boolean)) := rfl
  rw [e2]
  have h := chk_ok (l0 := l0) (D0 := D0) (cy0 := cy0) (ax0 := ax0) (y := yX2_growsAsMuch) (cc := cX2_growsAsMuch) (ret := (some .boolean)) k113 (mk_ok jX2_growsAsMuch fX2_ok lX2_ok kX2_ok kkX2_ok H) ⟨_, rfl⟩ pnX2 (fun h => by cases h) (fun _ => rfl) rfl
  exact h

/-! X2_harmlessTax (('k', 131), ('n',)) -/
def u114 : List (Nat × TP × EX × Nat × Nat) := [(32, ([(0, (2, 0, (0, []))), (1, (0, 0, (0, [(1, 0)]))), (2, (0, 0, (0, [(1, 4)]))), (3, (0, 0, (0, [(1, 5)])))], [], ([(1, 30), (0, 999), (1, 1029), (0, 30186), (0, 10), (0, 10), (0, 10)], [(0, [((-1), 0), (1, 2)]), (0, [(1, 2), ((-1), 1)]), (1, [(1, 5), ((-1), 4)]), (1, [(1, 5), ((-1), 6)]), (0, [(1, 6), ((-1), 4)]), (0, [(1, 4), (1, 2), ((-1), 0)]), (10, [((-1), 5), (1, 2), ((-1), 0)]), (0, [(1, 6), (1, 2), ((-1), 0)]), (0, [(1, 4), ((-1), 1), (1, 2)]), (10, [((-1), 5), ((-1), 1), (1, 2)]), (0, [(1, 6), ((-1), 1), (1, 2)])], [], [131], [((50, (9, [])), (0, [(1, 1)])), ((140, (9, [])), (0, [(1, 2)])), ((50, (10, [])), (0, [(1, 3)])), ((140, (10, [])), (0, [(1, 3)])), ((126, (0, [])), (0, [(1, 6)]))], [(146, 0, 5)], []), [(2, 50, (9, [])), (2, 140, (9, [])), (2, 50, (10, [])), (0, 2, (0, [])), (0, 3, (0, [])), (2, 126, (0, []))], []), (0, [(1, 5)]), 0, 0)]
theorem k114 : chk (mkD iX2_harmlessTax fX2 lX2 kX2 kkX2 114 [(10, [108]), (51, [108]), (54, [113])] c114 false 4 u114) 4000 = true := by decide +kernel
theorem m114 {X0 : zC0} (H : ∀ j, j < 114 → CMj X0 j) : CMj X0 114 := by
  obtain ⟨l0, D0, cy0, ax0⟩ := X0
  intro mi c hc
  have e : conAt 114 = some (216, c114) := rfl
  rw [e] at hc
  obtain ⟨rfl, rfl⟩ := Prod.mk.inj (Option.some.inj hc)
  have e2 : mt 216 = (yX2_harmlessTax, cX2_harmlessTax, 4, (some .int)) := rfl
  rw [e2]
  have h := chk_ok (l0 := l0) (D0 := D0) (cy0 := cy0) (ax0 := ax0) (y := yX2_harmlessTax) (cc := cX2_harmlessTax) (ret := (some .int)) k114 (mk_ok jX2_harmlessTax fX2_ok lX2_ok kX2_ok kkX2_ok H) ⟨_, rfl⟩ pnX2 nrI (fun h => by cases h) rfl
  exact h

/-! X11_greatestTax (('k', 197), ('n',)) -/
def u115 : List (Nat × TP × EX × Nat × Nat) := []
theorem k115 : chk (mkD iX11_greatestTax fX11 lX11 kX11 kkX11 115 [(4, [56]), (15, [114])] c115 false 2 u115) 4000 = true := by decide +kernel
theorem m115 {X0 : zC0} (H : ∀ j, j < 115 → CMj X0 j) : CMj X0 115 := by
  obtain ⟨l0, D0, cy0, ax0⟩ := X0
  intro mi c hc
  have e : conAt 115 = some (40, c115) := rfl
  rw [e] at hc
  obtain ⟨rfl, rfl⟩ := Prod.mk.inj (Option.some.inj hc)
  have e2 : mt 40 = (yX11_greatestTax, cX11_greatestTax, 2, (some .int)) := rfl
  rw [e2]
  have h := chk_ok (l0 := l0) (D0 := D0) (cy0 := cy0) (ax0 := ax0) (y := yX11_greatestTax) (cc := cX11_greatestTax) (ret := (some .int)) k115 (mk_ok jX11_greatestTax fX11_ok lX11_ok kX11_ok kkX11_ok H) ⟨_, rfl⟩ pnX11 nrI (fun h => by cases h) rfl
  exact h

/-! X5_copyFrom (('k', 99), ('k', 59)) -/
def u116 : List (Nat × TP × EX × Nat × Nat) := [(18, ([(0, (2, 0, (0, []))), (1, (2, 1, (0, []))), (2, (0, 0, (0, [(1, 2)])))], [], ([(0, 29), (0, 30), (0, 30)], [], [], [99, 59], [((99, (1, [])), (0, [(1, 0)])), ((59, (1, [])), (0, [(1, 0)])), ((99, (0, [])), (0, [(1, 1)])), ((59, (0, [])), (0, [(1, 1)]))], [], []), [(2, 99, (1, [])), (2, 99, (0, [])), (0, 2, (0, []))], []), (30, [((-1), 2)]), 0, 0)]
theorem k116 : chk (mkD iX5_copyFrom fX5 lX5 kX5 kkX5 116 [(36, [11])] c116 false 3 u116) 4000 = true := by decide +kernel
theorem m116 {X0 : zC0} (H : ∀ j, j < 116 → CMj X0 j) : CMj X0 116 := by
  obtain ⟨l0, D0, cy0, ax0⟩ := X0
  intro mi c hc
  have e : conAt 116 = some (251, c116) := rfl
  rw [e] at hc
  obtain ⟨rfl, rfl⟩ := Prod.mk.inj (Option.some.inj hc)
  have e2 : mt 251 = (yX5_copyFrom, cX5_copyFrom, 3, none) := rfl
  rw [e2]
  have h := chk_ok (l0 := l0) (D0 := D0) (cy0 := cy0) (ax0 := ax0) (y := yX5_copyFrom) (cc := cX5_copyFrom) (ret := none) k116 (mk_ok jX5_copyFrom fX5_ok lX5_ok kX5_ok kkX5_ok H) rfl pnX5 nrV (fun h => by cases h) rfl
  exact h

/-! X1_copyFrom (('k', 102), ('k', 62)) -/
def u117 : List (Nat × TP × EX × Nat × Nat) := [(86, ([(0, (2, 0, (0, []))), (1, (2, 1, (0, []))), (2, (0, 0, (0, [(1, 3)])))], [], ([(0, 10), (0, 12), (0, 6), (0, 12)], [], [], [102, 62], [((102, (2, [])), (0, [(1, 0)])), ((62, (2, [])), (0, [(1, 0)])), ((102, (1, [])), (0, [(1, 1)])), ((62, (1, [])), (0, [(1, 1)])), ((102, (0, [])), (0, [(1, 2)])), ((62, (0, [])), (0, [(1, 2)]))], [], []), [(2, 102, (2, [])), (2, 102, (1, [])), (2, 102, (0, [])), (0, 2, (0, []))], []), (23, [((-1), 3)]), 0, 0), (112, ([(0, (2, 0, (0, []))), (1, (2, 1, (0, []))), (2, (0, 0, (0, [(1, 3)])))], [], ([(0, 10), (0, 12), (0, 6), (0, 10)], [], [], [102, 62], [((102, (2, [])), (0, [(1, 0)])), ((62, (2, [])), (0, [(1, 0)])), ((102, (1, [])), (0, [(1, 1)])), ((62, (1, [])), (0, [(1, 1)])), ((102, (0, [])), (0, [(1, 2)])), ((62, (0, [])), (0, [(1, 2)]))], [], []), [(2, 102, (2, [])), (2, 102, (1, [])), (2, 102, (0, [])), (0, 2, (0, []))], []), (10, [((-1), 3)]), 0, 0)]
theorem k117 : chk (mkD iX1_copyFrom fX1 lX1 kX1 kkX1 117 [] c117 false 3 u117) 4000 = true := by decide +kernel
theorem m117 {X0 : zC0} (H : ∀ j, j < 117 → CMj X0 j) : CMj X0 117 := by
  obtain ⟨l0, D0, cy0, ax0⟩ := X0
  intro mi c hc
  have e : conAt 117 = some (207, c117) := rfl
  rw [e] at hc
  obtain ⟨rfl, rfl⟩ := Prod.mk.inj (Option.some.inj hc)
  have e2 : mt 207 = (yX1_copyFrom, cX1_copyFrom, 3, none) := rfl
  rw [e2]
  have h := chk_ok (l0 := l0) (D0 := D0) (cy0 := cy0) (ax0 := ax0) (y := yX1_copyFrom) (cc := cX1_copyFrom) (ret := none) k117 (mk_ok jX1_copyFrom fX1_ok lX1_ok kX1_ok kkX1_ok H) rfl pnX1 nrV (fun h => by cases h) rfl
  exact h

/-! X4_copyFrom (('k', 80), ('k', 40)) -/
def u118 : List (Nat × TP × EX × Nat × Nat) := [(46, ([(0, (2, 0, (0, []))), (1, (2, 1, (0, []))), (2, (0, 0, (0, [(1, 14)])))], [], ([(0, 6), (0, 12), (0, 10), (0, 30), (0, 29), ((-2147483648), 2147483647), ((-2147483648), 2147483647), ((-2147483648), 2147483647), (0, 999), (0, 30186), (0, 40), (0, 39), (0, 6), (0, 8), (0, 4)], [], [], [80, 40], [((62, (0, [])), (0, [(1, 0)])), ((102, (0, [])), (0, [(1, 0)])), ((62, (1, [])), (0, [(1, 1)])), ((102, (1, [])), (0, [(1, 1)])), ((62, (2, [])), (0, [(1, 2)])), ((102, (2, [])), (0, [(1, 2)])), ((59, (0, [])), (0, [(1, 3)])), ((99, (0, [])), (0, [(1, 3)])), ((59, (1, [])), (0, [(1, 4)])), ((99, (1, [])), (0, [(1, 4)])), ((50, (6, [])), (0, [(1, 5)])), ((90, (6, [])), (0, [(1, 5)])), ((50, (7, [])), (0, [(1, 6)])), ((90, (7, [])), (0, [(1, 6)])), ((50, (8, [])), (0, [(1, 7)])), ((90, (8, [])), (0, [(1, 7)])), ((50, (9, [])), (0, [(1, 8)])), ((90, (9, [])), (0, [(1, 8)])), ((50, (10, [])), (0, [(1, 9)])), ((90, (10, [])), (0, [(1, 9)])), ((50, (11, [])), (0, [(1, 10)])), ((90, (11, [])), (0, [(1, 10)])), ((50, (12, [])), (0, [(1, 11)])), ((90, (12, [])), (0, [(1, 11)])), ((41, (0, [])), (0, [(1, 12)])), ((81, (0, [])), (0, [(1, 12)])), ((41, (1, [])), (0, [(1, 13)])), ((81, (1, [])), (0, [(1, 13)]))], [], []), [(2, 62, (0, [])), (2, 62, (1, [])), (2, 62, (2, [])), (2, 59, (0, [])), (2, 59, (1, [])), (2, 50, (6, [])), (2, 50, (7, [])), (2, 50, (8, [])), (2, 50, (9, [])), (2, 50, (10, [])), (2, 50, (11, [])), (2, 50, (12, [])), (2, 41, (0, [])), (2, 41, (1, [])), (0, 2, (0, []))], []), (4, [((-1), 14)]), 0, 0)]
theorem k118 : chk (mkD iX4_copyFrom fX4 lX4 kX4 kkX4 118 [(8, [5]), (19, [20]), (30, [116]), (41, [117])] c118 false 3 u118) 4000 = true := by decide +kernel
theorem m118 {X0 : zC0} (H : ∀ j, j < 118 → CMj X0 j) : CMj X0 118 := by
  obtain ⟨l0, D0, cy0, ax0⟩ := X0
  intro mi c hc
  have e : conAt 118 = some (246, c118) := rfl
  rw [e] at hc
  obtain ⟨rfl, rfl⟩ := Prod.mk.inj (Option.some.inj hc)
  have e2 : mt 246 = (yX4_copyFrom, cX4_copyFrom, 3, none) := rfl
  rw [e2]
  have h := chk_ok (l0 := l0) (D0 := D0) (cy0 := cy0) (ax0 := ax0) (y := yX4_copyFrom) (cc := cX4_copyFrom) (ret := none) k118 (mk_ok jX4_copyFrom fX4_ok lX4_ok kX4_ok kkX4_ok H) rfl pnX4 nrV (fun h => by cases h) rfl
  exact h

/-! X11_image (('k', 197),) -/
def u119 : List (Nat × TP × EX × Nat × Nat) := []
theorem k119 : chk (mkD iX11_image fX11 lX11 kX11 kkX11 119 [(8, [118])] c119 false 1 u119) 4000 = true := by decide +kernel
theorem m119 {X0 : zC0} (H : ∀ j, j < 119 → CMj X0 j) : CMj X0 119 := by
  obtain ⟨l0, D0, cy0, ax0⟩ := X0
  intro mi c hc
  have e : conAt 119 = some (43, c119) := rfl
  rw [e] at hc
  obtain ⟨rfl, rfl⟩ := Prod.mk.inj (Option.some.inj hc)
  have e2 : mt 43 = (yX11_image, cX11_image, 1, (some .int)) := rfl
  rw [e2]
  have h := chk_ok (l0 := l0) (D0 := D0) (cy0 := cy0) (ax0 := ax0) (y := yX11_image) (cc := cX11_image) (ret := (some .int)) k119 (mk_ok jX11_image fX11_ok lX11_ok kX11_ok kkX11_ok H) ⟨_, rfl⟩ pnX11 nrI (fun h => by cases h) rfl
  exact h

/-! X11_isSet (('n',), ('n',)) -/
def u120 : List (Nat × TP × EX × Nat × Nat) := []
theorem k120 : chk (mkD iX11_isSet fX11 lX11 kX11 kkX11 120 [] c120 true 2 u120) 4000 = true := by decide +kernel
theorem m120 {X0 : zC0} (H : ∀ j, j < 120 → CMj X0 j) : CMj X0 120 := by
  obtain ⟨l0, D0, cy0, ax0⟩ := X0
  intro mi c hc
  have e : conAt 120 = some (45, c120) := rfl
  rw [e] at hc
  obtain ⟨rfl, rfl⟩ := Prod.mk.inj (Option.some.inj hc)
  have e2 : mt 45 = (yX11_isSet, cX11_isSet, 2, (some .boolean)) := rfl
  rw [e2]
  have h := chk_ok (l0 := l0) (D0 := D0) (cy0 := cy0) (ax0 := ax0) (y := yX11_isSet) (cc := cX11_isSet) (ret := (some .boolean)) k120 (mk_ok jX11_isSet fX11_ok lX11_ok kX11_ok kkX11_ok H) ⟨_, rfl⟩ pnX11 (fun h => by cases h) (fun _ => rfl) rfl
  exact h

/-! X1_traded (('k', 62), ('n',)) -/
def u121 : List (Nat × TP × EX × Nat × Nat) := [(7, ([(0, (2, 0, (0, []))), (1, (0, 0, (0, [(1, 0)]))), (2, (0, 0, (0, [(1, 1)]))), (3, (0, 0, (0, [(1, 2)]))), (4, (0, 0, (0, [(1, 3)])))], [], ([(0, 99), ((-2147483648), 2147483647), ((-2147483648), 2147483647), (0, 10)], [], [], [62], [], [], []), [(0, 2, (0, [])), (0, 3, (0, [])), (0, 4, (0, []))], []), (10, [((-1), 3)]), 0, 0)]
theorem k121 : chk (mkD iX1_traded fX1 lX1 kX1 kkX1 121 [] c121 false 5 u121) 4000 = true := by decide +kernel
theorem m121 {X0 : zC0} (H : ∀ j, j < 121 → CMj X0 j) : CMj X0 121 := by
  obtain ⟨l0, D0, cy0, ax0⟩ := X0
  intro mi c hc
  have e : conAt 121 = some (210, c121) := rfl
  rw [e] at hc
  obtain ⟨rfl, rfl⟩ := Prod.mk.inj (Option.some.inj hc)
  have e2 : mt 210 = (yX1_traded, cX1_traded, 5, (some .int)) := rfl
  rw [e2]
  have h := chk_ok (l0 := l0) (D0 := D0) (cy0 := cy0) (ax0 := ax0) (y := yX1_traded) (cc := cX1_traded) (ret := (some .int)) k121 (mk_ok jX1_traded fX1_ok lX1_ok kX1_ok kkX1_ok H) ⟨_, rfl⟩ pnX1 nrI (fun h => by cases h) rfl
  exact h

/-! X11_market (('k', 197), ('n',)) -/
def u122 : List (Nat × TP × EX × Nat × Nat) := [(35, ([(0, (2, 0, (0, []))), (1, (0, 0, (0, [(1, 0)]))), (2, (0, 0, (0, [(1, 1)]))), (3, (0, 0, (0, [(1, 2)])))], [], ([((-1), (-1)), (0, 99), (1, 100)], [(0, [(1, 2), ((-1), 1)]), ((-1), [(1, 2), ((-1), 1)])], [], [197], [], [], []), [(0, 2, (0, [])), (0, 3, (0, []))], []), (100, [((-1), 2)]), 0, 0)]
theorem k122 : chk (mkD iX11_market fX11 lX11 kX11 kkX11 122 [(9, [56]), (23, [121]), (49, [121]), (60, [121])] c122 false 4 u122) 4000 = true := by decide +kernel
theorem m122 {X0 : zC0} (H : ∀ j, j < 122 → CMj X0 j) : CMj X0 122 := by
  obtain ⟨l0, D0, cy0, ax0⟩ := X0
  intro mi c hc
  have e : conAt 122 = some (47, c122) := rfl
  rw [e] at hc
  obtain ⟨rfl, rfl⟩ := Prod.mk.inj (Option.some.inj hc)
  have e2 : mt 47 = (yX11_market, cX11_market, 4, (some .int)) := rfl
  rw [e2]
  have h := chk_ok (l0 := l0) (D0 := D0) (cy0 := cy0) (ax0 := ax0) (y := yX11_market) (cc := cX11_market) (ret := (some .int)) k122 (mk_ok jX11_market fX11_ok lX11_ok kX11_ok kkX11_ok H) ⟨_, rfl⟩ pnX11 nrI (fun h => by cases h) rfl
  exact h

/-! X2_sweatAt (('k', 131), ('n',), ('n',)) -/
def u123 : List (Nat × TP × EX × Nat × Nat) := [(8, ([(0, (2, 0, (0, []))), (1, (0, 0, (0, [(1, 0)]))), (2, (0, 0, (0, [(1, 1)]))), (3, (2, 1, (0, []))), (4, (0, 0, (0, [(1, 9)])))], [], ([(0, 7), (0, 5), (0, 39), (0, 40), (0, 30186), (0, 999), ((-2147483648), 2147483647), ((-2147483648), 2147483647), ((-2147483648), 2147483647), (0, 8)], [], [], [131, 140], [((140, (12, [])), (0, [(1, 2)])), ((50, (12, [])), (0, [(1, 2)])), ((140, (11, [])), (0, [(1, 3)])), ((50, (11, [])), (0, [(1, 3)])), ((140, (10, [])), (0, [(1, 4)])), ((50, (10, [])), (0, [(1, 4)])), ((140, (9, [])), (0, [(1, 5)])), ((50, (9, [])), (0, [(1, 5)])), ((140, (8, [])), (0, [(1, 6)])), ((50, (8, [])), (0, [(1, 6)])), ((140, (7, [])), (0, [(1, 7)])), ((50, (7, [])), (0, [(1, 7)])), ((140, (6, [])), (0, [(1, 8)])), ((50, (6, [])), (0, [(1, 8)]))], [], []), [(2, 140, (12, [])), (2, 140, (11, [])), (2, 140, (10, [])), (2, 140, (9, [])), (2, 140, (8, [])), (2, 140, (7, [])), (2, 140, (6, [])), (0, 4, (0, []))], [(0, 3)]), (8, [((-1), 9)]), 0, 0)]
theorem k123 : chk (mkD iX2_sweatAt fX2 lX2 kX2 kkX2 123 [(1, [100]), (50, [104])] c123 false 5 u123) 4000 = true := by decide +kernel
theorem m123 {X0 : zC0} (H : ∀ j, j < 123 → CMj X0 j) : CMj X0 123 := by
  obtain ⟨l0, D0, cy0, ax0⟩ := X0
  intro mi c hc
  have e : conAt 123 = some (221, c123) := rfl
  rw [e] at hc
  obtain ⟨rfl, rfl⟩ := Prod.mk.inj (Option.some.inj hc)
  have e2 : mt 221 = (yX2_sweatAt, cX2_sweatAt, 5, (some .int)) := rfl
  rw [e2]
  have h := chk_ok (l0 := l0) (D0 := D0) (cy0 := cy0) (ax0 := ax0) (y := yX2_sweatAt) (cc := cX2_sweatAt) (ret := (some .int)) k123 (mk_ok jX2_sweatAt fX2_ok lX2_ok kX2_ok kkX2_ok H) ⟨_, rfl⟩ pnX2 nrI (fun h => by cases h) rfl
  exact h

/-! X2_nextOf (('n',), ('n',)) -/
def u124 : List (Nat × TP × EX × Nat × Nat) := [(4, ([(0, (0, 0, (0, [(1, 0)]))), (1, (0, 0, (0, [(1, 1)]))), (2, (0, 0, (0, [(1, 2)]))), (3, (0, 0, (0, [(1, 3)])))], [], ([((-2147483648), 2147483647), (0, 63), (0, 8), (0, 8)], [(0, [(1, 3), ((-1), 2)])], [], [], [], [], []), [(0, 2, (0, [])), (0, 3, (0, []))], []), (8, [((-1), 3)]), 0, 0)]
theorem k124 : chk (mkD iX2_nextOf fX2 lX2 kX2 kkX2 124 [(12, [109])] c124 false 4 u124) 4000 = true := by decide +kernel
theorem m124 {X0 : zC0} (H : ∀ j, j < 124 → CMj X0 j) : CMj X0 124 := by
  obtain ⟨l0, D0, cy0, ax0⟩ := X0
  intro mi c hc
  have e : conAt 124 = some (219, c124) := rfl
  rw [e] at hc
  obtain ⟨rfl, rfl⟩ := Prod.mk.inj (Option.some.inj hc)
  have e2 : mt 219 = (yX2_nextOf, cX2_nextOf, 4, (some .int)) := rfl
  rw [e2]
  have h := chk_ok (l0 := l0) (D0 := D0) (cy0 := cy0) (ax0 := ax0) (y := yX2_nextOf) (cc := cX2_nextOf) (ret := (some .int)) k124 (mk_ok jX2_nextOf fX2_ok lX2_ok kX2_ok kkX2_ok H) ⟨_, rfl⟩ pnX2 nrI (fun h => by cases h) rfl
  exact h

/-! X2_mostBeyond (('k', 131), ('n',), ('n',), ('n',)) -/
def u125 : List (Nat × TP × EX × Nat × Nat) := [(16, ([(0, (2, 0, (0, []))), (1, (0, 0, (0, [(1, 0)]))), (2, (0, 0, (0, [(1, 1)]))), (3, (0, 0, (0, [(1, 2)]))), (4, (0, 0, (0, [(1, 3)]))), (5, (0, 0, (0, [(1, 4)]))), (6, (0, 0, (0, [(1, 5)])))], [], ([((-2147483648), 2147483647), ((-2147483648), 2147483647), (0, 63), ((-1), 7), (0, 2147483647), (0, 6)], [], [], [131], [], [], []), [(0, 4, (0, [])), (0, 5, (0, [])), (0, 6, (0, []))], []), (6, [((-1), 5)]), 0, 0)]
theorem k125 : chk (mkD iX2_mostBeyond fX2 lX2 kX2 kkX2 125 [(2, [0]), (5, [124]), (36, [109])] c125 false 7 u125) 4000 = true := by decide +kernel
theorem m125 {X0 : zC0} (H : ∀ j, j < 125 → CMj X0 j) : CMj X0 125 := by
  obtain ⟨l0, D0, cy0, ax0⟩ := X0
  intro mi c hc
  have e : conAt 125 = some (218, c125) := rfl
  rw [e] at hc
  obtain ⟨rfl, rfl⟩ := Prod.mk.inj (Option.some.inj hc)
  have e2 : mt 218 = (yX2_mostBeyond, cX2_mostBeyond, 7, (some .int)) := rfl
  rw [e2]
  have h := chk_ok (l0 := l0) (D0 := D0) (cy0 := cy0) (ax0 := ax0) (y := yX2_mostBeyond) (cc := cX2_mostBeyond) (ret := (some .int)) k125 (mk_ok jX2_mostBeyond fX2_ok lX2_ok kX2_ok kkX2_ok H) ⟨_, rfl⟩ pnX2 nrI (fun h => by cases h) rfl
  exact h

/-! X2_lowestPlace (('k', 131), ('n',), ('n',), ('n',)) -/
def u126 : List (Nat × TP × EX × Nat × Nat) := [(3, ([(0, (2, 0, (0, []))), (1, (0, 0, (0, [(1, 0)]))), (2, (0, 0, (0, [(1, 1)]))), (3, (0, 0, (0, [(1, 2)]))), (4, (0, 0, (0, [(1, 3)])))], [], ([(0, 7), ((-2147483648), 2147483647), (0, 63), (0, 6)], [], [], [131], [], [], []), [(0, 4, (0, []))], []), (6, [((-1), 3)]), 0, 0)]
theorem k126 : chk (mkD iX2_lowestPlace fX2 lX2 kX2 kkX2 126 [(17, [109])] c126 false 5 u126) 4000 = true := by decide +kernel
theorem m126 {X0 : zC0} (H : ∀ j, j < 126 → CMj X0 j) : CMj X0 126 := by
  obtain ⟨l0, D0, cy0, ax0⟩ := X0
  intro mi c hc
  have e : conAt 126 = some (217, c126) := rfl
  rw [e] at hc
  obtain ⟨rfl, rfl⟩ := Prod.mk.inj (Option.some.inj hc)
  have e2 : mt 217 = (yX2_lowestPlace, cX2_lowestPlace, 5, (some .int)) := rfl
  rw [e2]
  have h := chk_ok (l0 := l0) (D0 := D0) (cy0 := cy0) (ax0 := ax0) (y := yX2_lowestPlace) (cc := cX2_lowestPlace) (ret := (some .int)) k126 (mk_ok jX2_lowestPlace fX2_ok lX2_ok kX2_ok kkX2_ok H) ⟨_, rfl⟩ pnX2 nrI (fun h => by cases h) rfl
  exact h

/-! X2_assign (('k', 131), ('n',), ('n',)) -/
def u127 : List (Nat × TP × EX × Nat × Nat) := [(2, ([(0, (2, 0, (0, []))), (1, (0, 0, (0, [(1, 0)]))), (2, (0, 0, (0, [(1, 1)]))), (3, (0, 0, (0, [(1, 2)])))], [], ([((-2147483648), 2147483647), ((-2147483648), 2147483647), (0, 8)], [], [], [131], [], [], []), [(0, 3, (0, []))], []), (145, [((-8), 2)]), 0, 0), (11, ([(0, (2, 0, (0, []))), (1, (0, 0, (0, [(1, 0)]))), (2, (0, 0, (0, [(1, 1)]))), (3, (0, 0, (0, [(1, 2)]))), (4, (0, 0, (0, [(1, 3)])))], [], ([((-2147483648), 2147483647), ((-2147483648), 2147483647), (0, 7), (0, 6)], [], [], [131], [], [], []), [(0, 3, (0, [])), (0, 4, (0, []))], []), (144, [((-1), 3), ((-8), 2)]), 0, 0), (78, ([(0, (2, 0, (0, []))), (1, (0, 0, (0, [(1, 0)]))), (2, (0, 0, (0, [(1, 1)]))), (3, (0, 0, (0, [(1, 2)])))], [], ([((-2147483648), 2147483647), ((-2147483648), 2147483647), ((-1), 63)], [], [], [131], [], [], []), [(0, 3, (0, []))], []), (10, [(1, 2)]), 0, 0), (106, ([(0, (2, 0, (0, []))), (1, (0, 0, (0, [(1, 0)]))), (2, (0, 0, (0, [(1, 1)]))), (3, (0, 0, (0, [(1, 2)]))), (4, (0, 0, (0, [(1, 3)])))], [], ([((-2147483648), 2147483647), ((-2147483648), 2147483647), (0, 63), (0, 8)], [], [], [131], [], [], []), [(0, 3, (0, [])), (0, 4, (0, []))], []), (8, [((-1), 3)]), 0, 0)]
theorem k127 : chk (mkD iX2_assign fX2 lX2 kX2 kkX2 127 [(31, [109]), (40, [109]), (50, [123]), (91, [125]), (122, [109]), (133, [126])] c127 false 5 u127) 4000 = true := by decide +kernel
theorem m127 {X0 : zC0} (H : ∀ j, j < 127 → CMj X0 j) : CMj X0 127 := by
  obtain ⟨l0, D0, cy0, ax0⟩ := X0
  intro mi c hc
  have e : conAt 127 = some (211, c127) := rfl
  rw [e] at hc
  obtain ⟨rfl, rfl⟩ := Prod.mk.inj (Option.some.inj hc)
  have e2 : mt 211 = (yX2_assign, cX2_assign, 5, (some .int)) := rfl
  rw [e2]
  have h := chk_ok (l0 := l0) (D0 := D0) (cy0 := cy0) (ax0 := ax0) (y := yX2_assign) (cc := cX2_assign) (ret := (some .int)) k127 (mk_ok jX2_assign fX2_ok lX2_ok kX2_ok kkX2_ok H) ⟨_, rfl⟩ pnX2 nrI (fun h => by cases h) rfl
  exact h

/-! X11_match (('k', 197), ('n',), ('n',), ('n',)) -/
def u128 : List (Nat × TP × EX × Nat × Nat) := []
theorem k128 : chk (mkD iX11_match fX11 lX11 kX11 kkX11 128 [(1, [0]), (17, [120]), (34, [120]), (45, [56]), (54, [0]), (68, [127]), (83, [109])] c128 false 6 u128) 4000 = true := by decide +kernel
theorem m128 {X0 : zC0} (H : ∀ j, j < 128 → CMj X0 j) : CMj X0 128 := by
  obtain ⟨l0, D0, cy0, ax0⟩ := X0
  intro mi c hc
  have e : conAt 128 = some (48, c128) := rfl
  rw [e] at hc
  obtain ⟨rfl, rfl⟩ := Prod.mk.inj (Option.some.inj hc)
  have e2 : mt 48 = (yX11_match, cX11_match, 6, (some .int)) := rfl
  rw [e2]
  have h := chk_ok (l0 := l0) (D0 := D0) (cy0 := cy0) (ax0 := ax0) (y := yX11_match) (cc := cX11_match) (ret := (some .int)) k128 (mk_ok jX11_match fX11_ok lX11_ok kX11_ok kkX11_ok H) ⟨_, rfl⟩ pnX11 nrI (fun h => by cases h) rfl
  exact h

/-! X1_addMissing (('k', 62), ('n',), ('n',), ('n',)) -/
def u129 : List (Nat × TP × EX × Nat × Nat) := []
theorem k129 : chk (mkD iX1_addMissing fX1 lX1 kX1 kkX1 129 [] c129 false 4 u129) 4000 = true := by decide +kernel
theorem m129 {X0 : zC0} (H : ∀ j, j < 129 → CMj X0 j) : CMj X0 129 := by
  obtain ⟨l0, D0, cy0, ax0⟩ := X0
  intro mi c hc
  have e : conAt 129 = some (205, c129) := rfl
  rw [e] at hc
  obtain ⟨rfl, rfl⟩ := Prod.mk.inj (Option.some.inj hc)
  have e2 : mt 205 = (yX1_addMissing, cX1_addMissing, 4, (some .int)) := rfl
  rw [e2]
  have h := chk_ok (l0 := l0) (D0 := D0) (cy0 := cy0) (ax0 := ax0) (y := yX1_addMissing) (cc := cX1_addMissing) (ret := (some .int)) k129 (mk_ok jX1_addMissing fX1_ok lX1_ok kX1_ok kkX1_ok H) ⟨_, rfl⟩ pnX1 nrI (fun h => by cases h) rfl
  exact h

/-! X11_missing (('k', 197), ('n',), ('n',), ('n',)) -/
def u130 : List (Nat × TP × EX × Nat × Nat) := []
theorem k130 : chk (mkD iX11_missing fX11 lX11 kX11 kkX11 130 [(30, [7]), (70, [129])] c130 false 5 u130) 4000 = true := by decide +kernel
theorem m130 {X0 : zC0} (H : ∀ j, j < 130 → CMj X0 j) : CMj X0 130 := by
  obtain ⟨l0, D0, cy0, ax0⟩ := X0
  intro mi c hc
  have e : conAt 130 = some (49, c130) := rfl
  rw [e] at hc
  obtain ⟨rfl, rfl⟩ := Prod.mk.inj (Option.some.inj hc)
  have e2 : mt 49 = (yX11_missing, cX11_missing, 5, (some .int)) := rfl
  rw [e2]
  have h := chk_ok (l0 := l0) (D0 := D0) (cy0 := cy0) (ax0 := ax0) (y := yX11_missing) (cc := cX11_missing) (ret := (some .int)) k130 (mk_ok jX11_missing fX11_ok lX11_ok kX11_ok kkX11_ok H) ⟨_, rfl⟩ pnX11 nrI (fun h => by cases h) rfl
  exact h

/-! X11_nearOnes (('k', 197), ('n',)) -/
def u131 : List (Nat × TP × EX × Nat × Nat) := [(75, ([(0, (2, 0, (0, []))), (1, (0, 0, (0, [(1, 0)]))), (2, (2, 1, (0, []))), (3, (0, 0, (0, [(1, 1)]))), (4, (0, 0, (0, [(1, 2)]))), (5, (0, 0, (0, [(1, 3)]))), (6, (0, 0, (0, [(1, 8)]))), (7, (0, 0, (0, [(1, 4)])))], [], ([(0, 5), (0, 7), (0, 999), ((-1), 998), (0, 999), (0, 999), (0, 999), (0, 999), (0, 255)], [(0, [(1, 2), ((-1), 7)]), (0, [(1, 4), ((-1), 2)]), (0, [(1, 4), ((-1), 7)]), (0, [(1, 5), ((-1), 3)]), (0, [(1, 6), ((-1), 3)]), ((-1), [(1, 6), ((-1), 3)])], [], [197, 50], [((65, (0, [(1, 0)])), (0, [(1, 5)])), ((50, (9, [])), (0, [(1, 6)])), ((64, (0, [(1, 0)])), (0, [(1, 7)])), ((63, (0, [(1, 0)])), (0, [(1, 1)]))], [], []), [(0, 3, (0, [])), (0, 4, (0, [])), (0, 5, (0, [])), (0, 7, (0, [])), (2, 65, (0, [(1, 0)])), (2, 50, (9, [])), (2, 64, (0, [(1, 0)])), (0, 6, (0, []))], [(0, 2)]), (9999, [((-10), 4)]), 0, 0), (94, ([(0, (2, 0, (0, []))), (1, (0, 0, (0, [(1, 0)]))), (2, (2, 1, (0, []))), (3, (0, 0, (0, [(1, 1)]))), (4, (0, 0, (0, [(1, 2)]))), (5, (0, 0, (0, [(1, 3)]))), (6, (0, 0, (0, [(1, 4)]))), (7, (0, 0, (0, [(1, 5)]))), (8, (0, 0, (0, [(1, 9)]))), (9, (0, 0, (0, [(1, 10)])))], [], ([(0, 5), (0, 7), (0, 998), (0, 998), (0, 255), (0, 998), (0, 999), (1, 999), (0, 998), ((-1), 6), (0, 8)], [(0, [((-1), 5), (1, 3)]), (0, [((-1), 8), (1, 2)]), (0, [((-1), 2), (1, 5)]), (0, [((-1), 8), (1, 5)]), (0, [((-1), 3), (1, 6)]), (0, [((-1), 3), (1, 7)]), ((-1), [((-1), 3), (1, 7)]), (0, [(1, 3), ((-1), 2)]), (0, [(1, 3), ((-1), 8)]), (0, [(1, 6), ((-1), 5)]), (0, [(1, 7), ((-1), 5)]), ((-1), [(1, 7), ((-1), 5)]), (1, [(1, 9), (1, 3), ((-1), 5)]), (0, [(1, 10), (1, 3), ((-1), 5)]), (1, [(1, 9), (1, 2), ((-1), 8)]), (0, [(1, 10), (1, 2), ((-1), 8)]), (1, [(1, 9), (1, 5), ((-1), 2)]), (0, [(1, 10), (1, 5), ((-1), 2)]), (1, [(1, 9), (1, 5), ((-1), 8)]), (0, [(1, 10), (1, 5), ((-1), 8)]), (1, [(1, 9), (1, 6), ((-1), 3)]), (0, [(1, 10), (1, 6), ((-1), 3)]), (1, [(1, 9), (1, 7), ((-1), 3)]), (0, [(1, 10), (1, 7), ((-1), 3)]), (0, [(1, 9), (1, 7), ((-1), 3)]), ((-1), [(1, 10), (1, 7), ((-1), 3)])], [], [197, 50], [((65, (0, [(1, 0)])), (0, [(1, 6)])), ((50, (9, [])), (0, [(1, 7)])), ((64, (0, [(1, 0)])), (0, [(1, 8)])), ((63, (0, [(1, 0)])), (0, [(1, 1)]))], [], []), [(0, 3, (0, [])), (0, 4, (0, [])), (0, 5, (0, [])), (0, 6, (0, [])), (0, 7, (0, [])), (2, 65, (0, [(1, 0)])), (2, 50, (9, [])), (2, 64, (0, [(1, 0)])), (0, 8, (0, [])), (0, 9, (0, []))], [(0, 2)]), (9998, [((-1), 10), ((-10), 5)]), 0, 0)]
theorem k131 : chk (mkD iX11_nearOnes fX11 lX11 kX11 kkX11 131 [(86, [30]), (126, [30])] c131 false 10 u131) 4000 = true := by decide +kernel
theorem m131 {X0 : zC0} (H : ∀ j, j < 131 → CMj X0 j) : CMj X0 131 := by
  obtain ⟨l0, D0, cy0, ax0⟩ := X0
  intro mi c hc
  have e : conAt 131 = some (51, c131) := rfl
  rw [e] at hc
  obtain ⟨rfl, rfl⟩ := Prod.mk.inj (Option.some.inj hc)
  have e2 : mt 51 = (yX11_nearOnes, cX11_nearOnes, 10, (some .int)) := rfl
  rw [e2]
  have h := chk_ok (l0 := l0) (D0 := D0) (cy0 := cy0) (ax0 := ax0) (y := yX11_nearOnes) (cc := cX11_nearOnes) (ret := (some .int)) k131 (mk_ok jX11_nearOnes fX11_ok lX11_ok kX11_ok kkX11_ok H) ⟨_, rfl⟩ pnX11 nrI (fun h => by cases h) rfl
  exact h

/-! X11_near (('k', 197), ('n',)) -/
def u132 : List (Nat × TP × EX × Nat × Nat) := [(53, ([(0, (2, 0, (0, []))), (1, (0, 0, (0, [(1, 0)]))), (2, (0, 0, (0, [(1, 1)]))), (3, (0, 0, (0, [(1, 3)])))], [], ([((-1), (-1)), ((-1), 255), (0, 8), (0, 6)], [], [], [197], [((41, (1, [])), (0, [(1, 2)]))], [], []), [(0, 2, (0, [])), (2, 41, (1, [])), (0, 3, (0, []))], []), (6, [((-1), 3)]), 0, 0)]
theorem k132 : chk (mkD iX11_near fX11 lX11 kX11 kkX11 132 [(19, [56]), (27, [131]), (70, [131])] c132 false 4 u132) 4000 = true := by decide +kernel
theorem m132 {X0 : zC0} (H : ∀ j, j < 132 → CMj X0 j) : CMj X0 132 := by
  obtain ⟨l0, D0, cy0, ax0⟩ := X0
  intro mi c hc
  have e : conAt 132 = some (50, c132) := rfl
  rw [e] at hc
  obtain ⟨rfl, rfl⟩ := Prod.mk.inj (Option.some.inj hc)
  have e2 : mt 50 = (yX11_near, cX11_near, 4, (some .int)) := rfl
  rw [e2]
  have h := chk_ok (l0 := l0) (D0 := D0) (cy0 := cy0) (ax0 := ax0) (y := yX11_near) (cc := cX11_near) (ret := (some .int)) k132 (mk_ok jX11_near fX11_ok lX11_ok kX11_ok kkX11_ok H) ⟨_, rfl⟩ pnX11 nrI (fun h => by cases h) rfl
  exact h

/-! X11_ofField (('k', 197), ('n',), ('n',)) -/
def u133 : List (Nat × TP × EX × Nat × Nat) := []
theorem k133 : chk (mkD iX11_ofField fX11 lX11 kX11 kkX11 133 [(19, [6]), (128, [22])] c133 false 5 u133) 4000 = true := by decide +kernel
theorem m133 {X0 : zC0} (H : ∀ j, j < 133 → CMj X0 j) : CMj X0 133 := by
  obtain ⟨l0, D0, cy0, ax0⟩ := X0
  intro mi c hc
  have e : conAt 133 = some (52, c133) := rfl
  rw [e] at hc
  obtain ⟨rfl, rfl⟩ := Prod.mk.inj (Option.some.inj hc)
  have e2 : mt 52 = (yX11_ofField, cX11_ofField, 5, (some .int)) := rfl
  rw [e2]
  have h := chk_ok (l0 := l0) (D0 := D0) (cy0 := cy0) (ax0 := ax0) (y := yX11_ofField) (cc := cX11_ofField) (ret := (some .int)) k133 (mk_ok jX11_ofField fX11_ok lX11_ok kX11_ok kkX11_ok H) ⟨_, rfl⟩ pnX11 nrI (fun h => by cases h) rfl
  exact h

/-! X11_ofPerson (('k', 197), ('n',), ('n',)) -/
def u134 : List (Nat × TP × EX × Nat × Nat) := []
theorem k134 : chk (mkD iX11_ofPerson fX11 lX11 kX11 kkX11 134 [(19, [7]), (113, [66]), (123, [56]), (136, [30])] c134 false 5 u134) 4000 = true := by decide +kernel
theorem m134 {X0 : zC0} (H : ∀ j, j < 134 → CMj X0 j) : CMj X0 134 := by
  obtain ⟨l0, D0, cy0, ax0⟩ := X0
  intro mi c hc
  have e : conAt 134 = some (53, c134) := rfl
  rw [e] at hc
  obtain ⟨rfl, rfl⟩ := Prod.mk.inj (Option.some.inj hc)
  have e2 : mt 53 = (yX11_ofPerson, cX11_ofPerson, 5, (some .int)) := rfl
  rw [e2]
  have h := chk_ok (l0 := l0) (D0 := D0) (cy0 := cy0) (ax0 := ax0) (y := yX11_ofPerson) (cc := cX11_ofPerson) (ret := (some .int)) k134 (mk_ok jX11_ofPerson fX11_ok lX11_ok kX11_ok kkX11_ok H) ⟨_, rfl⟩ pnX11 nrI (fun h => by cases h) rfl
  exact h

/-! X1_addOffer (('k', 62), ('n',), ('n',), ('n',)) -/
def u135 : List (Nat × TP × EX × Nat × Nat) := []
theorem k135 : chk (mkD iX1_addOffer fX1 lX1 kX1 kkX1 135 [] c135 false 4 u135) 4000 = true := by decide +kernel
theorem m135 {X0 : zC0} (H : ∀ j, j < 135 → CMj X0 j) : CMj X0 135 := by
  obtain ⟨l0, D0, cy0, ax0⟩ := X0
  intro mi c hc
  have e : conAt 135 = some (206, c135) := rfl
  rw [e] at hc
  obtain ⟨rfl, rfl⟩ := Prod.mk.inj (Option.some.inj hc)
  have e2 : mt 206 = (yX1_addOffer, cX1_addOffer, 4, (some .int)) := rfl
  rw [e2]
  have h := chk_ok (l0 := l0) (D0 := D0) (cy0 := cy0) (ax0 := ax0) (y := yX1_addOffer) (cc := cX1_addOffer) (ret := (some .int)) k135 (mk_ok jX1_addOffer fX1_ok lX1_ok kX1_ok kkX1_ok H) ⟨_, rfl⟩ pnX1 nrI (fun h => by cases h) rfl
  exact h

/-! X11_offer (('k', 197), ('n',), ('n',), ('n',)) -/
def u136 : List (Nat × TP × EX × Nat × Nat) := []
theorem k136 : chk (mkD iX11_offer fX11 lX11 kX11 kkX11 136 [(25, [56]), (35, [56]), (58, [135])] c136 false 5 u136) 4000 = true := by decide +kernel
theorem m136 {X0 : zC0} (H : ∀ j, j < 136 → CMj X0 j) : CMj X0 136 := by
  obtain ⟨l0, D0, cy0, ax0⟩ := X0
  intro mi c hc
  have e : conAt 136 = some (54, c136) := rfl
  rw [e] at hc
  obtain ⟨rfl, rfl⟩ := Prod.mk.inj (Option.some.inj hc)
  have e2 : mt 54 = (yX11_offer, cX11_offer, 5, (some .int)) := rfl
  rw [e2]
  have h := chk_ok (l0 := l0) (D0 := D0) (cy0 := cy0) (ax0 := ax0) (y := yX11_offer) (cc := cX11_offer) (ret := (some .int)) k136 (mk_ok jX11_offer fX11_ok lX11_ok kX11_ok kkX11_ok H) ⟨_, rfl⟩ pnX11 nrI (fun h => by cases h) rfl
  exact h

/-! X9_named (('k', 126), ('n',), ('n',), ('m', 149)) -/
def u137 : List (Nat × TP × EX × Nat × Nat) := []
theorem k137 : chk (mkD iX9_named fX9 lX9 kX9 kkX9 137 [] c137 false 4 u137) 4000 = true := by decide +kernel
theorem m137 {X0 : zC0} (H : ∀ j, j < 137 → CMj X0 j) : CMj X0 137 := by
  obtain ⟨l0, D0, cy0, ax0⟩ := X0
  intro mi c hc
  have e : conAt 137 = some (275, c137) := rfl
  rw [e] at hc
  obtain ⟨rfl, rfl⟩ := Prod.mk.inj (Option.some.inj hc)
  have e2 : mt 275 = (yX9_named, cX9_named, 4, (some .int)) := rfl
  rw [e2]
  have h := chk_ok (l0 := l0) (D0 := D0) (cy0 := cy0) (ax0 := ax0) (y := yX9_named) (cc := cX9_named) (ret := (some .int)) k137 (mk_ok jX9_named fX9_ok lX9_ok kX9_ok kkX9_ok H) ⟨_, rfl⟩ pnX9 nrI (fun h => by cases h) rfl
  exact h

/-! X9_run (('k', 126), ('k', 20), ('n',), ('n',), ('n',), ('m', 149)) -/
def u138 : List (Nat × TP × EX × Nat × Nat) := [(6, ([(0, (2, 0, (0, []))), (1, (2, 1, (0, []))), (2, (0, 0, (0, [(1, 0)]))), (3, (0, 0, (0, [(1, 1)]))), (4, (0, 0, (0, [(1, 2)]))), (5, (0, 0, (0, [(1, 3)]))), (6, (0, 0, (0, [(1, 4)])))], [], ([(0, 300), (0, 300), ((-1), 7), (0, 96), (0, 300)], [(0, [(1, 1), ((-1), 3)]), (0, [(1, 4), ((-1), 0)]), (0, [(1, 4), ((-1), 3)]), (0, [((-1), 3), (1, 4), ((-1), 0)])], [], [126, 20], [((126, (7, [])), (149, []))], [], []), [(0, 5, (0, [])), (0, 6, (0, []))], []), (300, [((-1), 4)]), 0, 0)]
theorem k138 : chk (mkDm iX9_run fX9 lX9 kX9 kkX9 138 [(80, [137]), (236, [62]), (239, [63])] c138 false 9 mac_X9_run u138) 4000 = true := by decide +kernel
theorem m138 {X0 : zC0} (H : ∀ j, j < 138 → CMj X0 j) : CMj X0 138 := by
  obtain ⟨l0, D0, cy0, ax0⟩ := X0
  intro mi c hc
  have e : conAt 138 = some (278, c138) := rfl
  rw [e] at hc
  obtain ⟨rfl, rfl⟩ := Prod.mk.inj (Option.some.inj hc)
  have e2 : mt 278 = (yX9_run, cX9_run, 9, (some .int)) := rfl
  rw [e2]
  have h := chkM_ok (l0 := l0) (D0 := D0) (cy0 := cy0) (ax0 := ax0) (y := yX9_run) (cc := cX9_run) (ret := (some .int)) k138 (mkm_ok jX9_run fX9_ok lX9_ok kX9_ok kkX9_ok H) ⟨_, rfl⟩ pnX9 nrI (fun h => by cases h) (fun E X hE h1 h2 => mac_X9_run_ok hE h1 (by decide))
  exact h

/-! X9_law (('k', 126), ('n',), ('n',), ('k', 149), ('n',), ('n',)) -/
def u139 : List (Nat × TP × EX × Nat × Nat) := [(47, ([(0, (2, 0, (0, []))), (1, (0, 0, (0, [(1, 0)]))), (2, (0, 0, (0, [(1, 1)]))), (3, (2, 1, (0, []))), (4, (0, 0, (0, [(1, 2)]))), (5, (0, 0, (0, [(1, 3)]))), (6, (2, 2, (0, []))), (7, (0, 0, (0, [(1, 4)])))], [], ([(0, 3), ((-2147483648), 2147483647), (0, 5), ((-1), 7), ((-1), 299), (0, 3), (1, 4)], [((-1), [((-1), 5), (1, 6)])], [], [126, 149, 20], [((126, (8, [])), (0, [(1, 2)])), ((126, (7, [])), (149, [])), ((40, (6, [])), (0, [(1, 5)])), ((40, (5, [])), (0, [(1, 6)]))], [], []), [(0, 7, (0, [])), (2, 40, (6, [])), (2, 40, (5, []))], [(0, 6)]), (19, [(10, 4)]), 0, 0), (65, ([(0, (2, 0, (0, []))), (1, (0, 0, (0, [(1, 0)]))), (2, (0, 0, (0, [(1, 1)]))), (3, (2, 1, (0, []))), (4, (0, 0, (0, [(1, 2)]))), (5, (0, 0, (0, [(1, 3)]))), (6, (2, 2, (0, []))), (7, (0, 0, (0, [(1, 4)]))), (8, (0, 0, (0, [(1, 7)]))), (9, (0, 0, (0, [(1, 8)])))], [], ([(0, 3), ((-2147483648), 2147483647), (0, 5), ((-1), 7), (0, 299), (0, 3), (1, 4), ((-2147483648), 2147483647), (0, 8)], [((-1), [(1, 6), ((-1), 5)]), ((-1), [(1, 8), ((-1), 5), (1, 6)])], [], [126, 149, 20], [((126, (8, [])), (0, [(1, 2)])), ((126, (7, [])), (149, [])), ((40, (6, [])), (0, [(1, 5)])), ((40, (5, [])), (0, [(1, 6)]))], [], []), [(0, 7, (0, [])), (2, 40, (6, [])), (2, 40, (5, [])), (0, 8, (0, [])), (0, 9, (0, []))], [(0, 6)]), (18, [((-1), 8), (10, 4)]), 0, 0)]
theorem k139 : chk (mkD iX9_law fX9 lX9 kX9 kkX9 139 [(4, [59]), (17, [60]), (116, [138]), (121, [63]), (166, [138])] c139 false 10 u139) 4000 = true := by decide +kernel
theorem m139 {X0 : zC0} (H : ∀ j, j < 139 → CMj X0 j) : CMj X0 139 := by
  obtain ⟨l0, D0, cy0, ax0⟩ := X0
  intro mi c hc
  have e : conAt 139 = some (273, c139) := rfl
  rw [e] at hc
  obtain ⟨rfl, rfl⟩ := Prod.mk.inj (Option.some.inj hc)
  have e2 : mt 273 = (yX9_law, cX9_law, 10, (some .int)) := rfl
  rw [e2]
  have h := chk_ok (l0 := l0) (D0 := D0) (cy0 := cy0) (ax0 := ax0) (y := yX9_law) (cc := cX9_law) (ret := (some .int)) k139 (mk_ok jX9_law fX9_ok lX9_ok kX9_ok kkX9_ok H) ⟨_, rfl⟩ pnX9 nrI (fun h => by cases h) rfl
  exact h

/-! X9_sweatOf (('k', 126), ('k', 149), ('n',)) -/
def u140 : List (Nat × TP × EX × Nat × Nat) := []
theorem k140 : chk (mkD iX9_sweatOf fX9 lX9 kX9 kkX9 140 [(16, [139]), (24, [53])] c140 false 4 u140) 4000 = true := by decide +kernel
theorem m140 {X0 : zC0} (H : ∀ j, j < 140 → CMj X0 j) : CMj X0 140 := by
  obtain ⟨l0, D0, cy0, ax0⟩ := X0
  intro mi c hc
  have e : conAt 140 = some (279, c140) := rfl
  rw [e] at hc
  obtain ⟨rfl, rfl⟩ := Prod.mk.inj (Option.some.inj hc)
  have e2 : mt 279 = (yX9_sweatOf, cX9_sweatOf, 4, (some .int)) := rfl
  rw [e2]
  have h := chk_ok (l0 := l0) (D0 := D0) (cy0 := cy0) (ax0 := ax0) (y := yX9_sweatOf) (cc := cX9_sweatOf) (ret := (some .int)) k140 (mk_ok jX9_sweatOf fX9_ok lX9_ok kX9_ok kkX9_ok H) ⟨_, rfl⟩ pnX9 nrI (fun h => by cases h) rfl
  exact h

/-! X9_rainFrom (('k', 126), ('k', 149), ('n',)) -/
def u141 : List (Nat × TP × EX × Nat × Nat) := []
theorem k141 : chk (mkD iX9_rainFrom fX9 lX9 kX9 kkX9 141 [(22, [139]), (28, [53]), (54, [139]), (60, [53]), (116, [32])] c141 false 8 u141) 4000 = true := by decide +kernel
theorem m141 {X0 : zC0} (H : ∀ j, j < 141 → CMj X0 j) : CMj X0 141 := by
  obtain ⟨l0, D0, cy0, ax0⟩ := X0
  intro mi c hc
  have e : conAt 141 = some (277, c141) := rfl
  rw [e] at hc
  obtain ⟨rfl, rfl⟩ := Prod.mk.inj (Option.some.inj hc)
  have e2 : mt 277 = (yX9_rainFrom, cX9_rainFrom, 8, none) := rfl
  rw [e2]
  have h := chk_ok (l0 := l0) (D0 := D0) (cy0 := cy0) (ax0 := ax0) (y := yX9_rainFrom) (cc := cX9_rainFrom) (ret := none) k141 (mk_ok jX9_rainFrom fX9_ok lX9_ok kX9_ok kkX9_ok H) rfl pnX9 nrV (fun h => by cases h) rfl
  exact h

/-! X9_closeHour (('k', 126), ('k', 149), ('n',)) -/
def u142 : List (Nat × TP × EX × Nat × Nat) := []
theorem k142 : chk (mkD iX9_closeHour fX9 lX9 kX9 kkX9 142 [(72, [139]), (78, [53])] c142 false 6 u142) 4000 = true := by decide +kernel
theorem m142 {X0 : zC0} (H : ∀ j, j < 142 → CMj X0 j) : CMj X0 142 := by
  obtain ⟨l0, D0, cy0, ax0⟩ := X0
  intro mi c hc
  have e : conAt 142 = some (271, c142) := rfl
  rw [e] at hc
  obtain ⟨rfl, rfl⟩ := Prod.mk.inj (Option.some.inj hc)
  have e2 : mt 271 = (yX9_closeHour, cX9_closeHour, 6, none) := rfl
  rw [e2]
  have h := chk_ok (l0 := l0) (D0 := D0) (cy0 := cy0) (ax0 := ax0) (y := yX9_closeHour) (cc := cX9_closeHour) (ret := none) k142 (mk_ok jX9_closeHour fX9_ok lX9_ok kX9_ok kkX9_ok H) rfl pnX9 nrV (fun h => by cases h) rfl
  exact h

/-! X9_pass (('k', 126), ('k', 149)) -/
def u143 : List (Nat × TP × EX × Nat × Nat) := [(10, ([(0, (2, 0, (0, []))), (1, (2, 1, (0, []))), (2, (2, 2, (0, []))), (3, (0, 0, (0, [(1, 1)])))], [], ([(0, 999), (0, 8)], [], [], [126, 149, 41], [((149, (9, [])), (0, [(1, 0)]))], [(155, 0, 5)], []), [(0, 3, (0, []))], [(0, 2)]), (24, [((-1), 1)]), 0, 0), (73, ([(0, (2, 0, (0, []))), (1, (2, 1, (0, []))), (2, (2, 2, (0, []))), (3, (0, 0, (0, [(1, 2)])))], [], ([(0, 999), (0, 8), (0, 8), (0, 255)], [(0, [(1, 1), ((-1), 2)])], [], [126, 149, 41], [((126, (3, [])), (0, [(1, 3)])), ((41, (1, [])), (0, [(1, 1)])), ((149, (9, [])), (0, [(1, 0)]))], [(155, 0, 5)], []), [(2, 41, (1, [])), (0, 3, (0, [])), (2, 126, (3, []))], [(0, 2)]), (15, [((-1), 2)]), 0, 0), (122, ([(0, (2, 0, (0, []))), (1, (2, 1, (0, []))), (2, (2, 2, (0, []))), (3, (0, 0, (0, [(1, 3)])))], [], ([(0, 999), (0, 255), (0, 8), (0, 6)], [], [], [126, 149, 41], [((126, (3, [])), (0, [(1, 1)])), ((41, (1, [])), (0, [(1, 2)])), ((149, (9, [])), (0, [(1, 0)]))], [(155, 0, 5)], []), [(2, 126, (3, [])), (2, 41, (1, [])), (0, 3, (0, []))], [(0, 2)]), (6, [((-1), 3)]), 0, 0)]
theorem k143 : chk (mkD iX9_pass fX9 lX9 kX9 kkX9 143 [(26, [140]), (111, [141]), (145, [142]), (159, [39]), (176, [0])] c143 false 4 u143) 4000 = true := by decide +kernel
theorem m143 {X0 : zC0} (H : ∀ j, j < 143 → CMj X0 j) : CMj X0 143 := by
  obtain ⟨l0, D0, cy0, ax0⟩ := X0
  intro mi c hc
  have e : conAt 143 = some (276, c143) := rfl
  rw [e] at hc
  obtain ⟨rfl, rfl⟩ := Prod.mk.inj (Option.some.inj hc)
  have e2 : mt 276 = (yX9_pass, cX9_pass, 4, (some .int)) := rfl
  rw [e2]
  have h := chk_ok (l0 := l0) (D0 := D0) (cy0 := cy0) (ax0 := ax0) (y := yX9_pass) (cc := cX9_pass) (ret := (some .int)) k143 (mk_ok jX9_pass fX9_ok lX9_ok kX9_ok kkX9_ok H) ⟨_, rfl⟩ pnX9 nrI (fun h => by cases h) rfl
  exact h

/-! X9_named (('k', 126), ('n',), ('n',), ('m', 158)) -/
def u144 : List (Nat × TP × EX × Nat × Nat) := []
theorem k144 : chk (mkD iX9_named fX9 lX9 kX9 kkX9 144 [] c144 false 4 u144) 4000 = true := by decide +kernel
theorem m144 {X0 : zC0} (H : ∀ j, j < 144 → CMj X0 j) : CMj X0 144 := by
  obtain ⟨l0, D0, cy0, ax0⟩ := X0
  intro mi c hc
  have e : conAt 144 = some (275, c144) := rfl
  rw [e] at hc
  obtain ⟨rfl, rfl⟩ := Prod.mk.inj (Option.some.inj hc)
  have e2 : mt 275 = (yX9_named, cX9_named, 4, (some .int)) := rfl
  rw [e2]
  have h := chk_ok (l0 := l0) (D0 := D0) (cy0 := cy0) (ax0 := ax0) (y := yX9_named) (cc := cX9_named) (ret := (some .int)) k144 (mk_ok jX9_named fX9_ok lX9_ok kX9_ok kkX9_ok H) ⟨_, rfl⟩ pnX9 nrI (fun h => by cases h) rfl
  exact h

/-! X9_run (('k', 126), ('k', 20), ('n',), ('n',), ('n',), ('m', 158)) -/
def u145 : List (Nat × TP × EX × Nat × Nat) := [(6, ([(0, (2, 0, (0, []))), (1, (2, 1, (0, []))), (2, (0, 0, (0, [(1, 0)]))), (3, (0, 0, (0, [(1, 1)]))), (4, (0, 0, (0, [(1, 2)]))), (5, (0, 0, (0, [(1, 3)]))), (6, (0, 0, (0, [(1, 4)])))], [], ([(0, 300), (0, 300), ((-1), 7), (0, 96), (0, 300)], [(0, [(1, 1), ((-1), 3)]), (0, [(1, 4), ((-1), 0)]), (0, [(1, 4), ((-1), 3)]), (0, [((-1), 3), (1, 4), ((-1), 0)])], [], [126, 20], [((126, (7, [])), (158, []))], [], []), [(0, 5, (0, [])), (0, 6, (0, []))], []), (300, [((-1), 4)]), 0, 0)]
theorem k145 : chk (mkDm iX9_run fX9 lX9 kX9 kkX9 145 [(80, [144]), (236, [62]), (239, [63])] c145 false 9 mac_X9_run u145) 4000 = true := by decide +kernel
theorem m145 {X0 : zC0} (H : ∀ j, j < 145 → CMj X0 j) : CMj X0 145 := by
  obtain ⟨l0, D0, cy0, ax0⟩ := X0
  intro mi c hc
  have e : conAt 145 = some (278, c145) := rfl
  rw [e] at hc
  obtain ⟨rfl, rfl⟩ := Prod.mk.inj (Option.some.inj hc)
  have e2 : mt 278 = (yX9_run, cX9_run, 9, (some .int)) := rfl
  rw [e2]
  have h := chkM_ok (l0 := l0) (D0 := D0) (cy0 := cy0) (ax0 := ax0) (y := yX9_run) (cc := cX9_run) (ret := (some .int)) k145 (mkm_ok jX9_run fX9_ok lX9_ok kX9_ok kkX9_ok H) ⟨_, rfl⟩ pnX9 nrI (fun h => by cases h) (fun E X hE h1 h2 => mac_X9_run_ok hE h1 (by decide))
  exact h

/-! X9_law (('k', 126), ('n',), ('n',), ('k', 158), ('n',), ('n',)) -/
def u146 : List (Nat × TP × EX × Nat × Nat) := [(47, ([(0, (2, 0, (0, []))), (1, (0, 0, (0, [(1, 0)]))), (2, (0, 0, (0, [(1, 1)]))), (3, (2, 1, (0, []))), (4, (0, 0, (0, [(1, 2)]))), (5, (0, 0, (0, [(1, 3)]))), (6, (2, 2, (0, []))), (7, (0, 0, (0, [(1, 4)])))], [], ([(0, 3), ((-2147483648), 2147483647), (0, 5), ((-1), 7), ((-1), 299), (0, 3), (1, 4)], [((-1), [((-1), 5), (1, 6)])], [], [126, 158, 20], [((126, (8, [])), (0, [(1, 2)])), ((126, (7, [])), (158, [])), ((40, (6, [])), (0, [(1, 5)])), ((40, (5, [])), (0, [(1, 6)]))], [], []), [(0, 7, (0, [])), (2, 40, (6, [])), (2, 40, (5, []))], [(0, 6)]), (19, [(10, 4)]), 0, 0), (65, ([(0, (2, 0, (0, []))), (1, (0, 0, (0, [(1, 0)]))), (2, (0, 0, (0, [(1, 1)]))), (3, (2, 1, (0, []))), (4, (0, 0, (0, [(1, 2)]))), (5, (0, 0, (0, [(1, 3)]))), (6, (2, 2, (0, []))), (7, (0, 0, (0, [(1, 4)]))), (8, (0, 0, (0, [(1, 7)]))), (9, (0, 0, (0, [(1, 8)])))], [], ([(0, 3), ((-2147483648), 2147483647), (0, 5), ((-1), 7), (0, 299), (0, 3), (1, 4), ((-2147483648), 2147483647), (0, 8)], [((-1), [(1, 6), ((-1), 5)]), ((-1), [(1, 8), ((-1), 5), (1, 6)])], [], [126, 158, 20], [((126, (8, [])), (0, [(1, 2)])), ((126, (7, [])), (158, [])), ((40, (6, [])), (0, [(1, 5)])), ((40, (5, [])), (0, [(1, 6)]))], [], []), [(0, 7, (0, [])), (2, 40, (6, [])), (2, 40, (5, [])), (0, 8, (0, [])), (0, 9, (0, []))], [(0, 6)]), (18, [((-1), 8), (10, 4)]), 0, 0)]
theorem k146 : chk (mkD iX9_law fX9 lX9 kX9 kkX9 146 [(4, [59]), (17, [60]), (116, [145]), (121, [63]), (166, [145])] c146 false 10 u146) 4000 = true := by decide +kernel
theorem m146 {X0 : zC0} (H : ∀ j, j < 146 → CMj X0 j) : CMj X0 146 := by
  obtain ⟨l0, D0, cy0, ax0⟩ := X0
  intro mi c hc
  have e : conAt 146 = some (273, c146) := rfl
  rw [e] at hc
  obtain ⟨rfl, rfl⟩ := Prod.mk.inj (Option.some.inj hc)
  have e2 : mt 273 = (yX9_law, cX9_law, 10, (some .int)) := rfl
  rw [e2]
  have h := chk_ok (l0 := l0) (D0 := D0) (cy0 := cy0) (ax0 := ax0) (y := yX9_law) (cc := cX9_law) (ret := (some .int)) k146 (mk_ok jX9_law fX9_ok lX9_ok kX9_ok kkX9_ok H) ⟨_, rfl⟩ pnX9 nrI (fun h => by cases h) rfl
  exact h

/-! X9_sweatOf (('k', 126), ('k', 158), ('n',)) -/
def u147 : List (Nat × TP × EX × Nat × Nat) := []
theorem k147 : chk (mkD iX9_sweatOf fX9 lX9 kX9 kkX9 147 [(16, [146]), (24, [53])] c147 false 4 u147) 4000 = true := by decide +kernel
theorem m147 {X0 : zC0} (H : ∀ j, j < 147 → CMj X0 j) : CMj X0 147 := by
  obtain ⟨l0, D0, cy0, ax0⟩ := X0
  intro mi c hc
  have e : conAt 147 = some (279, c147) := rfl
  rw [e] at hc
  obtain ⟨rfl, rfl⟩ := Prod.mk.inj (Option.some.inj hc)
  have e2 : mt 279 = (yX9_sweatOf, cX9_sweatOf, 4, (some .int)) := rfl
  rw [e2]
  have h := chk_ok (l0 := l0) (D0 := D0) (cy0 := cy0) (ax0 := ax0) (y := yX9_sweatOf) (cc := cX9_sweatOf) (ret := (some .int)) k147 (mk_ok jX9_sweatOf fX9_ok lX9_ok kX9_ok kkX9_ok H) ⟨_, rfl⟩ pnX9 nrI (fun h => by cases h) rfl
  exact h

/-! X9_rainFrom (('k', 126), ('k', 158), ('n',)) -/
def u148 : List (Nat × TP × EX × Nat × Nat) := []
theorem k148 : chk (mkD iX9_rainFrom fX9 lX9 kX9 kkX9 148 [(22, [146]), (28, [53]), (54, [146]), (60, [53]), (116, [33])] c148 false 8 u148) 4000 = true := by decide +kernel
theorem m148 {X0 : zC0} (H : ∀ j, j < 148 → CMj X0 j) : CMj X0 148 := by
  obtain ⟨l0, D0, cy0, ax0⟩ := X0
  intro mi c hc
  have e : conAt 148 = some (277, c148) := rfl
  rw [e] at hc
  obtain ⟨rfl, rfl⟩ := Prod.mk.inj (Option.some.inj hc)
  have e2 : mt 277 = (yX9_rainFrom, cX9_rainFrom, 8, none) := rfl
  rw [e2]
  have h := chk_ok (l0 := l0) (D0 := D0) (cy0 := cy0) (ax0 := ax0) (y := yX9_rainFrom) (cc := cX9_rainFrom) (ret := none) k148 (mk_ok jX9_rainFrom fX9_ok lX9_ok kX9_ok kkX9_ok H) rfl pnX9 nrV (fun h => by cases h) rfl
  exact h

/-! X9_closeHour (('k', 126), ('k', 158), ('n',)) -/
def u149 : List (Nat × TP × EX × Nat × Nat) := []
theorem k149 : chk (mkD iX9_closeHour fX9 lX9 kX9 kkX9 149 [(72, [146]), (78, [53])] c149 false 6 u149) 4000 = true := by decide +kernel
theorem m149 {X0 : zC0} (H : ∀ j, j < 149 → CMj X0 j) : CMj X0 149 := by
  obtain ⟨l0, D0, cy0, ax0⟩ := X0
  intro mi c hc
  have e : conAt 149 = some (271, c149) := rfl
  rw [e] at hc
  obtain ⟨rfl, rfl⟩ := Prod.mk.inj (Option.some.inj hc)
  have e2 : mt 271 = (yX9_closeHour, cX9_closeHour, 6, none) := rfl
  rw [e2]
  have h := chk_ok (l0 := l0) (D0 := D0) (cy0 := cy0) (ax0 := ax0) (y := yX9_closeHour) (cc := cX9_closeHour) (ret := none) k149 (mk_ok jX9_closeHour fX9_ok lX9_ok kX9_ok kkX9_ok H) rfl pnX9 nrV (fun h => by cases h) rfl
  exact h
