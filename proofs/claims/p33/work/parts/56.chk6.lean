/-! X12_canGo (('k', 200), ('n',), ('n',)) -/
def u316 : List (Nat × TP × EX × Nat × Nat) := []
theorem k316 : chk (mkD iX12_canGo fX12 lX12 kX12 kkX12 316 [(2, [312]), (10, [313]), (20, [283]), (25, [314]), (29, [315])] c316 true 3 u316) 4000 = true := by decide +kernel
theorem m316 {X0 : zC0} (H : ∀ j, j < 316 → CMj X0 j) : CMj X0 316 := by
  obtain ⟨l0, D0, cy0, ax0⟩ := X0
  intro mi c hc
  have e : conAt 316 = some (81, c316) := rfl
  rw [e] at hc
  obtain ⟨rfl, rfl⟩ := Prod.mk.inj (Option.some.inj hc)
  have e2 : mt 81 = (yX12_canGo, cX12_canGo, 3, (some .boolean)) := rfl
  rw [e2]
  have h := chk_ok (l0 := l0) (D0 := D0) (cy0 := cy0) (ax0 := ax0) (y := yX12_canGo) (cc := cX12_canGo) (ret := (some .boolean)) k316 (mk_ok jX12_canGo fX12_ok lX12_ok kX12_ok kkX12_ok H) ⟨_, rfl⟩ pnX12 (fun h => by cases h) (fun _ => rfl) rfl
  exact h

/-! X12_canShake (('k', 200), ('n',), ('n',)) -/
def u317 : List (Nat × TP × EX × Nat × Nat) := []
theorem k317 : chk (mkD iX12_canShake fX12 lX12 kX12 kkX12 317 [(2, [312]), (10, [312]), (24, [283]), (30, [283])] c317 true 3 u317) 4000 = true := by decide +kernel
theorem m317 {X0 : zC0} (H : ∀ j, j < 317 → CMj X0 j) : CMj X0 317 := by
  obtain ⟨l0, D0, cy0, ax0⟩ := X0
  intro mi c hc
  have e : conAt 317 = some (82, c317) := rfl
  rw [e] at hc
  obtain ⟨rfl, rfl⟩ := Prod.mk.inj (Option.some.inj hc)
  have e2 : mt 82 = (yX12_canShake, cX12_canShake, 3, (some .boolean)) := rfl
  rw [e2]
  have h := chk_ok (l0 := l0) (D0 := D0) (cy0 := cy0) (ax0 := ax0) (y := yX12_canShake) (cc := cX12_canShake) (ret := (some .boolean)) k317 (mk_ok jX12_canShake fX12_ok lX12_ok kX12_ok kkX12_ok H) ⟨_, rfl⟩ pnX12 (fun h => by cases h) (fun _ => rfl) rfl
  exact h

/-! X12_canSteal (('k', 200), ('n',), ('n',), ('n',)) -/
def u318 : List (Nat × TP × EX × Nat × Nat) := []
theorem k318 : chk (mkD iX12_canSteal fX12 lX12 kX12 kkX12 318 [(3, [317]), (17, [284]), (26, [284])] c318 true 4 u318) 4000 = true := by decide +kernel
theorem m318 {X0 : zC0} (H : ∀ j, j < 318 → CMj X0 j) : CMj X0 318 := by
  obtain ⟨l0, D0, cy0, ax0⟩ := X0
  intro mi c hc
  have e : conAt 318 = some (83, c318) := rfl
  rw [e] at hc
  obtain ⟨rfl, rfl⟩ := Prod.mk.inj (Option.some.inj hc)
  have e2 : mt 83 = (yX12_canSteal, cX12_canSteal, 4, (some .boolean)) := rfl
  rw [e2]
  have h := chk_ok (l0 := l0) (D0 := D0) (cy0 := cy0) (ax0 := ax0) (y := yX12_canSteal) (cc := cX12_canSteal) (ret := (some .boolean)) k318 (mk_ok jX12_canSteal fX12_ok lX12_ok kX12_ok kkX12_ok H) ⟨_, rfl⟩ pnX12 (fun h => by cases h) (fun _ => rfl) rfl
  exact h

/-! X12_end (('k', 200), ('n',)) -/
def u322 : List (Nat × TP × EX × Nat × Nat) := []
theorem k322 : chk (mkD iX12_end fX12 lX12 kX12 kkX12 322 [(6, [276])] c322 false 2 u322) 4000 = true := by decide +kernel
theorem m322 {X0 : zC0} (H : ∀ j, j < 322 → CMj X0 j) : CMj X0 322 := by
  obtain ⟨l0, D0, cy0, ax0⟩ := X0
  intro mi c hc
  have e : conAt 322 = some (88, c322) := rfl
  rw [e] at hc
  obtain ⟨rfl, rfl⟩ := Prod.mk.inj (Option.some.inj hc)
  have e2 : mt 88 = (yX12_end, cX12_end, 2, (some .int)) := rfl
  rw [e2]
  have h := chk_ok (l0 := l0) (D0 := D0) (cy0 := cy0) (ax0 := ax0) (y := yX12_end) (cc := cX12_end) (ret := (some .int)) k322 (mk_ok jX12_end fX12_ok lX12_ok kX12_ok kkX12_ok H) ⟨_, rfl⟩ pnX12 nrI (fun h => by cases h) rfl
  exact h

/-! X12_errors (('k', 200), ('n',), ('n',)) -/
def u323 : List (Nat × TP × EX × Nat × Nat) := []
theorem k323 : chk (mkD iX12_errors fX12 lX12 kX12 kkX12 323 [(4, [276]), (13, [308])] c323 false 3 u323) 4000 = true := by decide +kernel
theorem m323 {X0 : zC0} (H : ∀ j, j < 323 → CMj X0 j) : CMj X0 323 := by
  obtain ⟨l0, D0, cy0, ax0⟩ := X0
  intro mi c hc
  have e : conAt 323 = some (89, c323) := rfl
  rw [e] at hc
  obtain ⟨rfl, rfl⟩ := Prod.mk.inj (Option.some.inj hc)
  have e2 : mt 89 = (yX12_errors, cX12_errors, 3, (some .int)) := rfl
  rw [e2]
  have h := chk_ok (l0 := l0) (D0 := D0) (cy0 := cy0) (ax0 := ax0) (y := yX12_errors) (cc := cX12_errors) (ret := (some .int)) k323 (mk_ok jX12_errors fX12_ok lX12_ok kX12_ok kkX12_ok H) ⟨_, rfl⟩ pnX12 nrI (fun h => by cases h) rfl
  exact h

/-! X12_fault (('k', 200), ('n',)) -/
def u324 : List (Nat × TP × EX × Nat × Nat) := []
theorem k324 : chk (mkD iX12_fault fX12 lX12 kX12 kkX12 324 [] c324 false 2 u324) 4000 = true := by decide +kernel
theorem m324 {X0 : zC0} (H : ∀ j, j < 324 → CMj X0 j) : CMj X0 324 := by
  obtain ⟨l0, D0, cy0, ax0⟩ := X0
  intro mi c hc
  have e : conAt 324 = some (91, c324) := rfl
  rw [e] at hc
  obtain ⟨rfl, rfl⟩ := Prod.mk.inj (Option.some.inj hc)
  have e2 : mt 91 = (yX12_fault, cX12_fault, 2, (some .int)) := rfl
  rw [e2]
  have h := chk_ok (l0 := l0) (D0 := D0) (cy0 := cy0) (ax0 := ax0) (y := yX12_fault) (cc := cX12_fault) (ret := (some .int)) k324 (mk_ok jX12_fault fX12_ok lX12_ok kX12_ok kkX12_ok H) ⟨_, rfl⟩ pnX12 nrI (fun h => by cases h) rfl
  exact h

/-! X12_four (('k', 200), ('n',)) -/
def u325 : List (Nat × TP × EX × Nat × Nat) := []
theorem k325 : chk (mkD iX12_four fX12 lX12 kX12 kkX12 325 [] c325 false 3 u325) 4000 = true := by decide +kernel
theorem m325 {X0 : zC0} (H : ∀ j, j < 325 → CMj X0 j) : CMj X0 325 := by
  obtain ⟨l0, D0, cy0, ax0⟩ := X0
  intro mi c hc
  have e : conAt 325 = some (101, c325) := rfl
  rw [e] at hc
  obtain ⟨rfl, rfl⟩ := Prod.mk.inj (Option.some.inj hc)
  have e2 : mt 101 = (yX12_four, cX12_four, 3, none) := rfl
  rw [e2]
  have h := chk_ok (l0 := l0) (D0 := D0) (cy0 := cy0) (ax0 := ax0) (y := yX12_four) (cc := cX12_four) (ret := none) k325 (mk_ok jX12_four fX12_ok lX12_ok kX12_ok kkX12_ok H) rfl pnX12 nrV (fun h => by cases h) rfl
  exact h

/-! X12_feed (('k', 200), ('n',), ('n',), ('n',), ('n',), ('n',)) -/
def u326 : List (Nat × TP × EX × Nat × Nat) := []
theorem k326 : chk (mkD iX12_feed fX12 lX12 kX12 kkX12 326 [(17, [325]), (22, [325]), (27, [325]), (33, [325]), (39, [325])] c326 false 6 u326) 4000 = true := by decide +kernel
theorem m326 {X0 : zC0} (H : ∀ j, j < 326 → CMj X0 j) : CMj X0 326 := by
  obtain ⟨l0, D0, cy0, ax0⟩ := X0
  intro mi c hc
  have e : conAt 326 = some (92, c326) := rfl
  rw [e] at hc
  obtain ⟨rfl, rfl⟩ := Prod.mk.inj (Option.some.inj hc)
  have e2 : mt 92 = (yX12_feed, cX12_feed, 6, (some .int)) := rfl
  rw [e2]
  have h := chk_ok (l0 := l0) (D0 := D0) (cy0 := cy0) (ax0 := ax0) (y := yX12_feed) (cc := cX12_feed) (ret := (some .int)) k326 (mk_ok jX12_feed fX12_ok lX12_ok kX12_ok kkX12_ok H) ⟨_, rfl⟩ pnX12 nrI (fun h => by cases h) rfl
  exact h

/-! X12_isIn (('n',), ('c', 0), ('c', 9)) -/
def u327 : List (Nat × TP × EX × Nat × Nat) := []
theorem k327 : chk (mkD iX12_isIn fX12 lX12 kX12 kkX12 327 [] c327 true 3 u327) 4000 = true := by decide +kernel
theorem m327 {X0 : zC0} (H : ∀ j, j < 327 → CMj X0 j) : CMj X0 327 := by
  obtain ⟨l0, D0, cy0, ax0⟩ := X0
  intro mi c hc
  have e : conAt 327 = some (110, c327) := rfl
  rw [e] at hc
  obtain ⟨rfl, rfl⟩ := Prod.mk.inj (Option.some.inj hc)
  have e2 : mt 110 = (yX12_isIn, cX12_isIn, 3, (some .boolean)) := rfl
  rw [e2]
  have h := chk_ok (l0 := l0) (D0 := D0) (cy0 := cy0) (ax0 := ax0) (y := yX12_isIn) (cc := cX12_isIn) (ret := (some .boolean)) k327 (mk_ok jX12_isIn fX12_ok lX12_ok kX12_ok kkX12_ok H) ⟨_, rfl⟩ pnX12 (fun h => by cases h) (fun _ => rfl) rfl
  exact h

/-! X12_field (('k', 200), ('n',), ('n',), ('n',)) -/
def u328 : List (Nat × TP × EX × Nat × Nat) := [(67, ([(0, (2, 0, (0, []))), (1, (0, 0, (0, [(1, 0)]))), (2, (0, 0, (0, [(1, 1)]))), (3, (0, 0, (0, [(1, 2)]))), (4, (0, 0, (16, [(7, 3)]))), (5, (0, 0, (0, [(1, 5)])))], [], ([(0, 9), (0, 998), (1, 999), (0, 5), (0, 8), (0, 7)], [((-1), [((-1), 1), (1, 2)]), ((-1), [(1, 5), (1, 2), ((-1), 1)])], [], [200], [((201, (0, [])), (0, [(1, 3)])), ((201, (1, [])), (0, [(1, 4)]))], [], []), [(0, 5, (0, []))], []), (7, [((-1), 5)]), 0, 0)]
theorem k328 : chk (mkD iX12_field fX12 lX12 kX12 kkX12 328 [(4, [327]), (15, [276]), (26, [276])] c328 false 6 u328) 4000 = true := by decide +kernel
theorem m328 {X0 : zC0} (H : ∀ j, j < 328 → CMj X0 j) : CMj X0 328 := by
  obtain ⟨l0, D0, cy0, ax0⟩ := X0
  intro mi c hc
  have e : conAt 328 = some (93, c328) := rfl
  rw [e] at hc
  obtain ⟨rfl, rfl⟩ := Prod.mk.inj (Option.some.inj hc)
  have e2 : mt 93 = (yX12_field, cX12_field, 6, (some .int)) := rfl
  rw [e2]
  have h := chk_ok (l0 := l0) (D0 := D0) (cy0 := cy0) (ax0 := ax0) (y := yX12_field) (cc := cX12_field) (ret := (some .int)) k328 (mk_ok jX12_field fX12_ok lX12_ok kX12_ok kkX12_ok H) ⟨_, rfl⟩ pnX12 nrI (fun h => by cases h) rfl
  exact h

/-! X12_fieldOf (('k', 200), ('n',), ('n',)) -/
def u329 : List (Nat × TP × EX × Nat × Nat) := []
theorem k329 : chk (mkD iX12_fieldOf fX12 lX12 kX12 kkX12 329 [] c329 false 3 u329) 4000 = true := by decide +kernel
theorem m329 {X0 : zC0} (H : ∀ j, j < 329 → CMj X0 j) : CMj X0 329 := by
  obtain ⟨l0, D0, cy0, ax0⟩ := X0
  intro mi c hc
  have e : conAt 329 = some (94, c329) := rfl
  rw [e] at hc
  obtain ⟨rfl, rfl⟩ := Prod.mk.inj (Option.some.inj hc)
  have e2 : mt 94 = (yX12_fieldOf, cX12_fieldOf, 3, (some .int)) := rfl
  rw [e2]
  have h := chk_ok (l0 := l0) (D0 := D0) (cy0 := cy0) (ax0 := ax0) (y := yX12_fieldOf) (cc := cX12_fieldOf) (ret := (some .int)) k329 (mk_ok jX12_fieldOf fX12_ok lX12_ok kX12_ok kkX12_ok H) ⟨_, rfl⟩ pnX12 nrI (fun h => by cases h) rfl
  exact h

/-! X12_filling (('k', 200), ('n',), ('n',), ('n',), ('n',), ('n',), ('n',)) -/
def u330 : List (Nat × TP × EX × Nat × Nat) := [(57, ([(0, (2, 0, (0, []))), (1, (0, 0, (0, [(1, 0)]))), (2, (0, 0, (0, [(1, 1)]))), (3, (0, 0, (0, [(1, 2)]))), (4, (0, 0, (0, [(1, 3)]))), (5, (0, 0, (0, [(1, 4)]))), (6, (0, 0, (0, [(1, 5)]))), (7, (0, 0, (0, [(1, 7)])))], [], ([(0, 7), (0, 10), (0, 99), (0, 99), (0, 15), (0, 1), (1, 8), (0, 19)], [((-1), [((-1), 0), (1, 6)]), ((-1), [(1, 7), (1, 6), ((-1), 0)])], [], [200], [((201, (1, [])), (0, [(1, 6)]))], [], []), [(2, 201, (1, [])), (0, 7, (0, []))], []), (36, [((-1), 7)]), 0, 0), (184, ([(0, (2, 0, (0, []))), (1, (0, 0, (0, [(1, 0)]))), (2, (0, 0, (0, [(1, 1)]))), (3, (0, 0, (0, [(1, 2)]))), (4, (0, 0, (0, [(1, 3)]))), (5, (0, 0, (0, [(1, 4)]))), (6, (0, 0, (0, [(1, 5)]))), (7, (1, 0, (0, [(1, 7)]))), (9, (1, 0, (0, [(1, 8)]))), (11, (0, 0, (0, [(1, 9)])))], [], ([(0, 7), (0, 10), (0, 99), (0, 99), (0, 15), (0, 1), (1, 8), (1, 1000000000000000), ((-9223372036854775808), 9223372036854775807), (0, 16)], [((-1), [(1, 6), ((-1), 0)]), (1, [(1, 4), ((-1), 9)]), (0, [(1, 7), ((-1), 4)]), ((-1), [(1, 7), ((-1), 4)]), (0, [(1, 7), ((-1), 9)]), ((-2), [(1, 7), ((-1), 0), (1, 6)]), ((-1), [(1, 9), ((-1), 0), (1, 6)]), (18, [((-1), 9), (1, 6), ((-1), 0)])], [], [200], [((201, (1, [])), (0, [(1, 6)]))], [], []), [(2, 201, (1, [])), (0, 7, (0, [])), (0, 9, (0, [])), (0, 11, (0, []))], []), (16, [((-1), 9)]), 0, 0)]
set_option maxRecDepth 1000000 in
theorem k330 : chk (mkD iX12_filling fX12 lX12 kX12 kkX12 330 [(2, [312]), (12, [276]), (22, [276]), (33, [276]), (44, [276]), (196, [284]), (216, [289]), (258, [319])] c330 false 12 u330) 4000 = true := by decide +kernel
theorem m330 {X0 : zC0} (H : ∀ j, j < 330 → CMj X0 j) : CMj X0 330 := by
  obtain ⟨l0, D0, cy0, ax0⟩ := X0
  intro mi c hc
  have e : conAt 330 = some (95, c330) := rfl
  rw [e] at hc
  obtain ⟨rfl, rfl⟩ := Prod.mk.inj (Option.some.inj hc)
  have e2 : mt 95 = (yX12_filling, cX12_filling, 12, (some .long)) := rfl
  rw [e2]
  have h := chk_ok (l0 := l0) (D0 := D0) (cy0 := cy0) (ax0 := ax0) (y := yX12_filling) (cc := cX12_filling) (ret := (some .long)) k330 (mk_ok jX12_filling fX12_ok lX12_ok kX12_ok kkX12_ok H) rfl pnX12 nrJ (fun h => by cases h) rfl
  exact h

/-! X12_findRoads (('k', 200), ('n',), ('n',)) -/
def u331 : List (Nat × TP × EX × Nat × Nat) := [(2, ([(0, (2, 0, (0, []))), (1, (0, 0, (0, [(1, 0)]))), (2, (0, 0, (0, [(1, 1)]))), (3, (0, 0, (0, [(1, 2)])))], [], ([(0, 5), (0, 999), (0, 6)], [], [], [200], [], [], []), [(0, 3, (0, []))], []), (405, [((-1), 2)]), 0, 0), (34, ([(0, (2, 0, (0, []))), (1, (0, 0, (0, [(1, 0)]))), (2, (0, 0, (0, [(1, 1)]))), (3, (0, 0, (0, [(1, 2)])))], [], ([(0, 5), (0, 999), (0, 6)], [], [], [200], [], [], []), [(0, 3, (0, []))], []), (398, [((-57), 2)]), 0, 0), (47, ([(0, (2, 0, (0, []))), (1, (0, 0, (0, [(1, 0)]))), (2, (0, 0, (0, [(1, 1)]))), (3, (0, 0, (0, [(1, 2)]))), (4, (0, 0, (0, [(1, 4)])))], [], ([(0, 5), (0, 999), (0, 5), (1, 6), (0, 6)], [((-1), [((-1), 2), (1, 3)]), (0, [(1, 3), ((-1), 4)]), ((-1), [(1, 4), (1, 3), ((-1), 2)])], [], [200], [((201, (0, [])), (0, [(1, 3)]))], [], []), [(0, 3, (0, [])), (2, 201, (0, [])), (0, 4, (0, []))], []), (397, [((-8), 4), ((-57), 2)]), 0, 0), (61, ([(0, (2, 0, (0, []))), (1, (0, 0, (0, [(1, 0)]))), (2, (0, 0, (0, [(1, 1)]))), (3, (0, 0, (0, [(1, 2)]))), (4, (0, 0, (0, [(1, 3)]))), (5, (0, 0, (0, [(1, 5)])))], [], ([(0, 5), (0, 999), (0, 5), (0, 5), (1, 6), (0, 6)], [((-1), [((-1), 3), (1, 4)]), ((-1), [(1, 4), ((-1), 2)]), ((-1), [((-1), 2), (1, 3), (1, 4)]), (0, [(1, 4), ((-1), 5)]), ((-1), [(1, 5), (1, 4), ((-1), 3)]), ((-1), [(1, 5), ((-1), 2), (1, 4)]), ((-1), [(1, 5), (1, 4), (1, 3), ((-1), 2)])], [], [200], [((201, (0, [])), (0, [(1, 4)]))], [], []), [(0, 3, (0, [])), (0, 4, (0, [])), (2, 201, (0, [])), (0, 5, (0, []))], []), (396, [((-1), 5), ((-8), 3), ((-57), 2)]), 0, 0)]
theorem k331 : chk (mkD iX12_findRoads fX12 lX12 kX12 kkX12 331 [(77, [314]), (82, [315]), (92, [311])] c331 false 6 u331) 4000 = true := by decide +kernel
theorem m331 {X0 : zC0} (H : ∀ j, j < 331 → CMj X0 j) : CMj X0 331 := by
  obtain ⟨l0, D0, cy0, ax0⟩ := X0
  intro mi c hc
  have e : conAt 331 = some (96, c331) := rfl
  rw [e] at hc
  obtain ⟨rfl, rfl⟩ := Prod.mk.inj (Option.some.inj hc)
  have e2 : mt 96 = (yX12_findRoads, cX12_findRoads, 6, none) := rfl
  rw [e2]
  have h := chk_ok (l0 := l0) (D0 := D0) (cy0 := cy0) (ax0 := ax0) (y := yX12_findRoads) (cc := cX12_findRoads) (ret := none) k331 (mk_ok jX12_findRoads fX12_ok lX12_ok kX12_ok kkX12_ok H) rfl pnX12 nrV (fun h => by cases h) rfl
  exact h

/-! X12_findYields (('k', 200), ('n',)) -/
def u332 : List (Nat × TP × EX × Nat × Nat) := [(12, ([(0, (2, 0, (0, []))), (1, (0, 0, (0, [(1, 0)]))), (2, (0, 0, (0, [(1, 2)])))], [], ([(1, 6), (0, 999), (0, 6)], [(0, [(1, 0), ((-1), 2)])], [], [200], [((200, (36, [])), (0, [(1, 1)])), ((201, (2, [])), (0, [(1, 1)]))], [], []), [(2, 200, (36, [])), (0, 2, (0, []))], []), (55, [((-8), 2)]), 0, 0), (29, ([(0, (2, 0, (0, []))), (1, (0, 0, (0, [(1, 0)]))), (2, (0, 0, (0, [(1, 1)]))), (3, (0, 0, (0, [(1, 4)])))], [], ([(1, 6), (0, 5), (0, 7), (0, 999), (0, 6)], [((-1), [((-1), 1), (1, 0)]), (0, [(1, 0), ((-1), 4)]), ((-1), [(1, 4), (1, 0), ((-1), 1)])], [], [200], [((200, (24, [])), (0, [(1, 2)])), ((219, (0, [(1, 1)])), (0, [(1, 2)])), ((200, (36, [])), (0, [(1, 3)])), ((201, (2, [])), (0, [(1, 3)]))], [], []), [(0, 2, (0, [])), (2, 200, (24, [])), (2, 200, (36, [])), (0, 3, (0, []))], []), (54, [((-1), 4), ((-8), 1)]), 0, 0)]
theorem k332 : chk (mkD iX12_findYields fX12 lX12 kX12 kkX12 332 [(63, [292])] c332 false 4 u332) 4000 = true := by decide +kernel
theorem m332 {X0 : zC0} (H : ∀ j, j < 332 → CMj X0 j) : CMj X0 332 := by
  obtain ⟨l0, D0, cy0, ax0⟩ := X0
  intro mi c hc
  have e : conAt 332 = some (97, c332) := rfl
  rw [e] at hc
  obtain ⟨rfl, rfl⟩ := Prod.mk.inj (Option.some.inj hc)
  have e2 : mt 97 = (yX12_findYields, cX12_findYields, 4, none) := rfl
  rw [e2]
  have h := chk_ok (l0 := l0) (D0 := D0) (cy0 := cy0) (ax0 := ax0) (y := yX12_findYields) (cc := cX12_findYields) (ret := none) k332 (mk_ok jX12_findYields fX12_ok lX12_ok kX12_ok kkX12_ok H) rfl pnX12 nrV (fun h => by cases h) rfl
  exact h

/-! X12_forecast (('k', 200), ('n',), ('n',)) -/
def u333 : List (Nat × TP × EX × Nat × Nat) := []
theorem k333 : chk (mkD iX12_forecast fX12 lX12 kX12 kkX12 333 [(19, [327])] c333 false 3 u333) 4000 = true := by decide +kernel
theorem m333 {X0 : zC0} (H : ∀ j, j < 333 → CMj X0 j) : CMj X0 333 := by
  obtain ⟨l0, D0, cy0, ax0⟩ := X0
  intro mi c hc
  have e : conAt 333 = some (98, c333) := rfl
  rw [e] at hc
  obtain ⟨rfl, rfl⟩ := Prod.mk.inj (Option.some.inj hc)
  have e2 : mt 98 = (yX12_forecast, cX12_forecast, 3, (some .int)) := rfl
  rw [e2]
  have h := chk_ok (l0 := l0) (D0 := D0) (cy0 := cy0) (ax0 := ax0) (y := yX12_forecast) (cc := cX12_forecast) (ret := (some .int)) k333 (mk_ok jX12_forecast fX12_ok lX12_ok kX12_ok kkX12_ok H) ⟨_, rfl⟩ pnX12 nrI (fun h => by cases h) rfl
  exact h

/-! X12_passOnward (('k', 200),) -/
def u334 : List (Nat × TP × EX × Nat × Nat) := []
theorem k334 : chk (mkD iX12_passOnward fX12 lX12 kX12 kkX12 334 [(11, [297]), (16, [300])] c334 false 2 u334) 4000 = true := by decide +kernel
theorem m334 {X0 : zC0} (H : ∀ j, j < 334 → CMj X0 j) : CMj X0 334 := by
  obtain ⟨l0, D0, cy0, ax0⟩ := X0
  intro mi c hc
  have e : conAt 334 = some (125, c334) := rfl
  rw [e] at hc
  obtain ⟨rfl, rfl⟩ := Prod.mk.inj (Option.some.inj hc)
  have e2 : mt 125 = (yX12_passOnward, cX12_passOnward, 2, none) := rfl
  rw [e2]
  have h := chk_ok (l0 := l0) (D0 := D0) (cy0 := cy0) (ax0 := ax0) (y := yX12_passOnward) (cc := cX12_passOnward) (ret := none) k334 (mk_ok jX12_passOnward fX12_ok lX12_ok kX12_ok kkX12_ok H) rfl pnX12 nrV (fun h => by cases h) rfl
  exact h

/-! X12_foretoldCloud (('k', 200), ('n',), ('n',), ('n',)) -/
def u336 : List (Nat × TP × EX × Nat × Nat) := [(27, ([(0, (2, 0, (0, []))), (1, (0, 0, (0, [(1, 0)]))), (2, (0, 0, (0, [(1, 1)]))), (3, (0, 0, (0, [(1, 2)]))), (4, (0, 0, (0, [(1, 7)])))], [], ([(1, 30), (0, 7), (0, 1), (0, 2000900000), (0, 12), (1, 8), (0, 6), (0, 30), (0, 2000900240)], [((-1), [((-1), 1), (1, 5)]), (0, [(1, 0), ((-1), 7)]), ((-1), [(1, 7), (1, 5), ((-1), 1)]), (0, [((-1), 8), (1, 3), (8, 7)]), (0, [((-1), 8), (1, 3), (40, 7)]), (0, [((-1), 8), (1, 3), (240, 7)]), (0, [((-1), 8), (1, 3), (8000, 7)]), (240, [(1, 3), ((-1), 8)])], [], [200], [((200, (38, [])), (0, [])), ((201, (11, [])), (0, [(1, 4)])), ((217, (11, [])), (0, [(1, 4)])), ((217, (1, [])), (0, [(1, 5)])), ((201, (0, [])), (0, [(1, 6)])), ((217, (0, [])), (0, [(1, 6)])), ((201, (1, [])), (0, [(1, 5)])), ((0, (0, [])), (0, [(1, 8)]))], [], []), [(2, 201, (11, [])), (2, 217, (1, [])), (2, 201, (0, [])), (0, 4, (0, [])), (2, 0, (0, []))], []), (30, [((-1), 7)]), 0, 0)]
theorem k336 : chk (mkD iX12_foretoldCloud fX12 lX12 kX12 kkX12 336 [(4, [276]), (12, [312]), (21, [306]), (34, [334]), (59, [284]), (65, [335])] c336 false 5 u336) 4000 = true := by decide +kernel
theorem m336 {X0 : zC0} (H : ∀ j, j < 336 → CMj X0 j) : CMj X0 336 := by
  obtain ⟨l0, D0, cy0, ax0⟩ := X0
  intro mi c hc
  have e : conAt 336 = some (99, c336) := rfl
  rw [e] at hc
  obtain ⟨rfl, rfl⟩ := Prod.mk.inj (Option.some.inj hc)
  have e2 : mt 99 = (yX12_foretoldCloud, cX12_foretoldCloud, 5, (some .int)) := rfl
  rw [e2]
  have h := chk_ok (l0 := l0) (D0 := D0) (cy0 := cy0) (ax0 := ax0) (y := yX12_foretoldCloud) (cc := cX12_foretoldCloud) (ret := (some .int)) k336 (mk_ok jX12_foretoldCloud fX12_ok lX12_ok kX12_ok kkX12_ok H) ⟨_, rfl⟩ pnX12 nrI (fun h => by cases h) rfl
  exact h

/-! X12_foretoldWet (('k', 200), ('n',), ('n',)) -/
def u337 : List (Nat × TP × EX × Nat × Nat) := [(26, ([(0, (2, 0, (0, []))), (1, (0, 0, (0, [(1, 0)]))), (2, (0, 0, (0, [(1, 1)]))), (3, (0, 0, (0, [(1, 6)])))], [], ([(1, 30), (0, 5), (0, 2000900000), (0, 12), (0, 8), (1, 6), (0, 30), (0, 2000900240)], [((-1), [((-1), 1), (1, 5)]), (0, [(1, 0), ((-1), 6)]), ((-1), [(1, 6), (1, 5), ((-1), 1)]), (0, [((-1), 7), (1, 2), (8, 6)]), (0, [((-1), 7), (1, 2), (40, 6)]), (0, [((-1), 7), (1, 2), (240, 6)]), (0, [((-1), 7), (1, 2), (8000, 6)]), (240, [(1, 2), ((-1), 7)])], [], [200], [((200, (38, [])), (0, [])), ((201, (11, [])), (0, [(1, 3)])), ((217, (11, [])), (0, [(1, 3)])), ((201, (1, [])), (0, [(1, 4)])), ((217, (1, [])), (0, [(1, 4)])), ((217, (0, [])), (0, [(1, 5)])), ((201, (0, [])), (0, [(1, 5)])), ((0, (0, [])), (0, [(1, 7)]))], [], []), [(2, 201, (11, [])), (2, 201, (1, [])), (2, 217, (0, [])), (0, 3, (0, [])), (2, 0, (0, []))], []), (30, [((-1), 6)]), 0, 0)]
theorem k337 : chk (mkD iX12_foretoldWet fX12 lX12 kX12 kkX12 337 [(4, [276]), (12, [313]), (21, [306]), (32, [334]), (44, [280]), (49, [335])] c337 false 4 u337) 4000 = true := by decide +kernel
theorem m337 {X0 : zC0} (H : ∀ j, j < 337 → CMj X0 j) : CMj X0 337 := by
  obtain ⟨l0, D0, cy0, ax0⟩ := X0
  intro mi c hc
  have e : conAt 337 = some (100, c337) := rfl
  rw [e] at hc
  obtain ⟨rfl, rfl⟩ := Prod.mk.inj (Option.some.inj hc)
  have e2 : mt 100 = (yX12_foretoldWet, cX12_foretoldWet, 4, (some .int)) := rfl
  rw [e2]
  have h := chk_ok (l0 := l0) (D0 := D0) (cy0 := cy0) (ax0 := ax0) (y := yX12_foretoldWet) (cc := cX12_foretoldWet) (ret := (some .int)) k337 (mk_ok jX12_foretoldWet fX12_ok lX12_ok kX12_ok kkX12_ok H) ⟨_, rfl⟩ pnX12 nrI (fun h => by cases h) rfl
  exact h

/-! X12_get (('k', 200), ('n',), ('c', 5)) -/
def u338 : List (Nat × TP × EX × Nat × Nat) := []
theorem k338 : chk (mkD iX12_get fX12 lX12 kX12 kkX12 338 [] c338 false 3 u338) 4000 = true := by decide +kernel
theorem m338 {X0 : zC0} (H : ∀ j, j < 338 → CMj X0 j) : CMj X0 338 := by
  obtain ⟨l0, D0, cy0, ax0⟩ := X0
  intro mi c hc
  have e : conAt 338 = some (102, c338) := rfl
  rw [e] at hc
  obtain ⟨rfl, rfl⟩ := Prod.mk.inj (Option.some.inj hc)
  have e2 : mt 102 = (yX12_get, cX12_get, 3, (some .int)) := rfl
  rw [e2]
  have h := chk_ok (l0 := l0) (D0 := D0) (cy0 := cy0) (ax0 := ax0) (y := yX12_get) (cc := cX12_get) (ret := (some .int)) k338 (mk_ok jX12_get fX12_ok lX12_ok kX12_ok kkX12_ok H) ⟨_, rfl⟩ pnX12 nrI (fun h => by cases h) rfl
  exact h

/-! X12_get (('k', 200), ('n',), ('c', 6)) -/
def u339 : List (Nat × TP × EX × Nat × Nat) := []
theorem k339 : chk (mkD iX12_get fX12 lX12 kX12 kkX12 339 [] c339 false 3 u339) 4000 = true := by decide +kernel
theorem m339 {X0 : zC0} (H : ∀ j, j < 339 → CMj X0 j) : CMj X0 339 := by
  obtain ⟨l0, D0, cy0, ax0⟩ := X0
  intro mi c hc
  have e : conAt 339 = some (102, c339) := rfl
  rw [e] at hc
  obtain ⟨rfl, rfl⟩ := Prod.mk.inj (Option.some.inj hc)
  have e2 : mt 102 = (yX12_get, cX12_get, 3, (some .int)) := rfl
  rw [e2]
  have h := chk_ok (l0 := l0) (D0 := D0) (cy0 := cy0) (ax0 := ax0) (y := yX12_get) (cc := cX12_get) (ret := (some .int)) k339 (mk_ok jX12_get fX12_ok lX12_ok kX12_ok kkX12_ok H) ⟨_, rfl⟩ pnX12 nrI (fun h => by cases h) rfl
  exact h

/-! X12_get (('k', 200), ('n',), ('n',)) -/
def u340 : List (Nat × TP × EX × Nat × Nat) := []
theorem k340 : chk (mkD iX12_get fX12 lX12 kX12 kkX12 340 [] c340 false 3 u340) 4000 = true := by decide +kernel
theorem m340 {X0 : zC0} (H : ∀ j, j < 340 → CMj X0 j) : CMj X0 340 := by
  obtain ⟨l0, D0, cy0, ax0⟩ := X0
  intro mi c hc
  have e : conAt 340 = some (102, c340) := rfl
  rw [e] at hc
  obtain ⟨rfl, rfl⟩ := Prod.mk.inj (Option.some.inj hc)
  have e2 : mt 102 = (yX12_get, cX12_get, 3, (some .int)) := rfl
  rw [e2]
  have h := chk_ok (l0 := l0) (D0 := D0) (cy0 := cy0) (ax0 := ax0) (y := yX12_get) (cc := cX12_get) (ret := (some .int)) k340 (mk_ok jX12_get fX12_ok lX12_ok kX12_ok kkX12_ok H) ⟨_, rfl⟩ pnX12 nrI (fun h => by cases h) rfl
  exact h

/-! X12_set (('k', 200), ('n',), ('c', 2), ('n',)) -/
def u341 : List (Nat × TP × EX × Nat × Nat) := []
theorem k341 : chk (mkD iX12_set fX12 lX12 kX12 kkX12 341 [] c341 false 4 u341) 4000 = true := by decide +kernel
theorem m341 {X0 : zC0} (H : ∀ j, j < 341 → CMj X0 j) : CMj X0 341 := by
  obtain ⟨l0, D0, cy0, ax0⟩ := X0
  intro mi c hc
  have e : conAt 341 = some (139, c341) := rfl
  rw [e] at hc
  obtain ⟨rfl, rfl⟩ := Prod.mk.inj (Option.some.inj hc)
  have e2 : mt 139 = (yX12_set, cX12_set, 4, none) := rfl
  rw [e2]
  have h := chk_ok (l0 := l0) (D0 := D0) (cy0 := cy0) (ax0 := ax0) (y := yX12_set) (cc := cX12_set) (ret := none) k341 (mk_ok jX12_set fX12_ok lX12_ok kX12_ok kkX12_ok H) rfl pnX12 nrV (fun h => by cases h) rfl
  exact h

/-! X12_go (('k', 200), ('n',), ('n',)) -/
def u342 : List (Nat × TP × EX × Nat × Nat) := []
theorem k342 : chk (mkD iX12_go fX12 lX12 kX12 kkX12 342 [(3, [316]), (12, [286]), (19, [341])] c342 true 3 u342) 4000 = true := by decide +kernel
theorem m342 {X0 : zC0} (H : ∀ j, j < 342 → CMj X0 j) : CMj X0 342 := by
  obtain ⟨l0, D0, cy0, ax0⟩ := X0
  intro mi c hc
  have e : conAt 342 = some (103, c342) := rfl
  rw [e] at hc
  obtain ⟨rfl, rfl⟩ := Prod.mk.inj (Option.some.inj hc)
  have e2 : mt 103 = (yX12_go, cX12_go, 3, (some .boolean)) := rfl
  rw [e2]
  have h := chk_ok (l0 := l0) (D0 := D0) (cy0 := cy0) (ax0 := ax0) (y := yX12_go) (cc := cX12_go) (ret := (some .boolean)) k342 (mk_ok jX12_go fX12_ok lX12_ok kX12_ok kkX12_ok H) ⟨_, rfl⟩ pnX12 (fun h => by cases h) (fun _ => rfl) rfl
  exact h

/-! X12_greatestTax (('k', 200), ('n',)) -/
def u343 : List (Nat × TP × EX × Nat × Nat) := [(16, ([(0, (2, 0, (0, []))), (1, (0, 0, (0, [(1, 0)]))), (2, (0, 0, (0, [(1, 2)]))), (3, (0, 0, (0, [(1, 3)])))], [], ([(1, 30), (0, 2000900000), (0, 10), (0, 11), (0, 2000902640)], [(0, [(1, 3), ((-1), 2)]), (0, [((-1), 4), (1, 1), (240, 3)]), (0, [((-1), 4), (1, 1), (8000, 3)]), (2640, [(1, 1), ((-1), 4)])], [], [200], [((0, (0, [])), (0, [(1, 4)]))], [], []), [(0, 2, (0, [])), (0, 3, (0, [])), (2, 0, (0, []))], []), (467, [((-39), 3)]), 0, 0), (34, ([(0, (2, 0, (0, []))), (1, (0, 0, (0, [(1, 0)]))), (2, (0, 0, (0, [(1, 2)]))), (3, (0, 0, (0, [(1, 3)]))), (4, (0, 0, (0, [(1, 8)])))], [], ([(1, 30), (0, 2000900000), (0, 10), (0, 10), (0, 12), (0, 8), (0, 6), (0, 2000902640), (0, 30)], [(0, [((-1), 2), (1, 3)]), (2640, [((-1), 7), (1, 1)]), (0, [(1, 0), ((-1), 8)]), (0, [(1, 8), (1, 3), ((-1), 2)]), (0, [(8, 8), (1, 1), ((-1), 7), (240, 3)]), (0, [(240, 8), (1, 1), ((-1), 7), (240, 3)]), (0, [(8, 8), (1, 1), ((-1), 7), (8000, 3)]), (0, [(240, 8), (1, 1), ((-1), 7), (8000, 3)]), (2640, [(1, 8), (1, 1), ((-1), 7)]), (2640, [(8, 8), (1, 1), ((-1), 7)]), (2640, [(240, 8), (1, 1), ((-1), 7)])], [], [200], [((200, (37, [])), (0, [(1, 3)])), ((200, (38, [])), (0, [])), ((201, (11, [])), (0, [(1, 4)])), ((217, (11, [])), (0, [(1, 4)])), ((201, (1, [])), (0, [(1, 5)])), ((217, (1, [])), (0, [(1, 5)])), ((201, (0, [])), (0, [(1, 6)])), ((217, (0, [])), (0, [(1, 6)])), ((0, (0, [])), (0, [(1, 7)]))], [], []), [(0, 2, (0, [])), (0, 3, (0, [])), (2, 201, (11, [])), (2, 201, (1, [])), (2, 201, (0, [])), (2, 0, (0, [])), (0, 4, (0, []))], []), (466, [((-1), 8), ((-39), 3)]), 0, 0), (56, ([(0, (2, 0, (0, []))), (1, (0, 0, (0, [(1, 0)]))), (2, (0, 0, (0, [(1, 2)]))), (3, (0, 0, (0, [(1, 3)]))), (4, (0, 0, (0, [(1, 8)]))), (5, (0, 0, (0, [(1, 9)])))], [], ([(1, 30), (0, 2000900000), (0, 10), (0, 10), (0, 12), (0, 8), (0, 6), (0, 2000902640), (0, 1), (0, 6)], [(0, [(1, 3), ((-1), 2)]), (2640, [(1, 1), ((-1), 7)]), (240, [(240, 3), (1, 1), ((-1), 7)]), (240, [(8000, 3), (1, 1), ((-1), 7)]), (0, [(1, 6), ((-1), 9)]), (1, [((-1), 8), ((-1), 2), (1, 3)]), (0, [(1, 9), ((-1), 2), (1, 3)]), (2641, [((-1), 8), ((-1), 7), (1, 1)]), (2640, [(1, 9), ((-1), 7), (1, 1)]), (2640, [(8, 9), ((-1), 7), (1, 1)]), (2640, [(240, 9), ((-1), 7), (1, 1)]), (241, [((-1), 8), ((-1), 7), (1, 1), (240, 3)]), (240, [(1, 9), ((-1), 7), (1, 1), (240, 3)]), (240, [(8, 9), ((-1), 7), (1, 1), (240, 3)]), (240, [(240, 9), ((-1), 7), (1, 1), (240, 3)]), (7199, [(1, 8), ((-1), 7), (1, 1), (240, 3)]), (7192, [(8, 8), ((-1), 7), (1, 1), (240, 3)]), (6960, [(240, 8), ((-1), 7), (1, 1), (240, 3)]), (7200, [((-1), 9), ((-1), 7), (1, 1), (240, 3)]), (241, [((-1), 8), ((-1), 7), (1, 1), (8000, 3)]), (240, [(1, 9), ((-1), 7), (1, 1), (8000, 3)]), (240, [(8, 9), ((-1), 7), (1, 1), (8000, 3)]), (240, [(240, 9), ((-1), 7), (1, 1), (8000, 3)]), (7199, [(1, 8), ((-1), 7), (1, 1), (8000, 3)]), (7192, [(8, 8), ((-1), 7), (1, 1), (8000, 3)]), (6960, [(240, 8), ((-1), 7), (1, 1), (8000, 3)]), (7200, [((-1), 9), ((-1), 7), (1, 1), (8000, 3)]), (2669, [(1, 8), (1, 1), ((-1), 7)]), (2662, [(8, 8), (1, 1), ((-1), 7)]), (2670, [((-1), 9), (1, 1), ((-1), 7)]), (2640, [(240, 8), (1, 1), ((-1), 7)]), ((-1), [(1, 8), (1, 6)]), ((-1), [(1, 9), (1, 8)])], [], [200], [((200, (37, [])), (0, [(1, 3)])), ((200, (38, [])), (0, [])), ((201, (11, [])), (0, [(1, 4)])), ((217, (11, [])), (0, [(1, 4)])), ((201, (1, [])), (0, [(1, 5)])), ((217, (1, [])), (0, [(1, 5)])), ((201, (0, [])), (0, [(1, 6)])), ((217, (0, [])), (0, [(1, 6)])), ((0, (0, [])), (0, [(1, 7)]))], [], []), [(0, 2, (0, [])), (0, 3, (0, [])), (2, 201, (11, [])), (2, 201, (1, [])), (2, 201, (0, [])), (2, 0, (0, [])), (0, 4, (0, [])), (0, 5, (0, []))], []), (435, [((-1), 9), ((-39), 3)]), 0, 0)]
theorem k343 : chk (mkD iX12_greatestTax fX12 lX12 kX12 kkX12 343 [(4, [276]), (23, [306]), (41, [334]), (81, [281]), (94, [281]), (121, [335])] c343 false 6 u343) 4000 = true := by decide +kernel
theorem m343 {X0 : zC0} (H : ∀ j, j < 343 → CMj X0 j) : CMj X0 343 := by
  obtain ⟨l0, D0, cy0, ax0⟩ := X0
  intro mi c hc
  have e : conAt 343 = some (104, c343) := rfl
  rw [e] at hc
  obtain ⟨rfl, rfl⟩ := Prod.mk.inj (Option.some.inj hc)
  have e2 : mt 104 = (yX12_greatestTax, cX12_greatestTax, 6, (some .int)) := rfl
  rw [e2]
  have h := chk_ok (l0 := l0) (D0 := D0) (cy0 := cy0) (ax0 := ax0) (y := yX12_greatestTax) (cc := cX12_greatestTax) (ret := (some .int)) k343 (mk_ok jX12_greatestTax fX12_ok lX12_ok kX12_ok kkX12_ok H) ⟨_, rfl⟩ pnX12 nrI (fun h => by cases h) rfl
  exact h

/-! X12_set (('k', 200), ('n',), ('c', 4), ('n',)) -/
def u344 : List (Nat × TP × EX × Nat × Nat) := []
theorem k344 : chk (mkD iX12_set fX12 lX12 kX12 kkX12 344 [] c344 false 4 u344) 4000 = true := by decide +kernel
theorem m344 {X0 : zC0} (H : ∀ j, j < 344 → CMj X0 j) : CMj X0 344 := by
  obtain ⟨l0, D0, cy0, ax0⟩ := X0
  intro mi c hc
  have e : conAt 344 = some (139, c344) := rfl
  rw [e] at hc
  obtain ⟨rfl, rfl⟩ := Prod.mk.inj (Option.some.inj hc)
  have e2 : mt 139 = (yX12_set, cX12_set, 4, none) := rfl
  rw [e2]
  have h := chk_ok (l0 := l0) (D0 := D0) (cy0 := cy0) (ax0 := ax0) (y := yX12_set) (cc := cX12_set) (ret := none) k344 (mk_ok jX12_set fX12_ok lX12_ok kX12_ok kkX12_ok H) rfl pnX12 nrV (fun h => by cases h) rfl
  exact h

/-! X12_set (('k', 200), ('n',), ('c', 3), ('n',)) -/
def u345 : List (Nat × TP × EX × Nat × Nat) := []
theorem k345 : chk (mkD iX12_set fX12 lX12 kX12 kkX12 345 [] c345 false 4 u345) 4000 = true := by decide +kernel
theorem m345 {X0 : zC0} (H : ∀ j, j < 345 → CMj X0 j) : CMj X0 345 := by
  obtain ⟨l0, D0, cy0, ax0⟩ := X0
  intro mi c hc
  have e : conAt 345 = some (139, c345) := rfl
  rw [e] at hc
  obtain ⟨rfl, rfl⟩ := Prod.mk.inj (Option.some.inj hc)
  have e2 : mt 139 = (yX12_set, cX12_set, 4, none) := rfl
  rw [e2]
  have h := chk_ok (l0 := l0) (D0 := D0) (cy0 := cy0) (ax0 := ax0) (y := yX12_set) (cc := cX12_set) (ret := none) k345 (mk_ok jX12_set fX12_ok lX12_ok kX12_ok kkX12_ok H) rfl pnX12 nrV (fun h => by cases h) rfl
  exact h

/-! X12_shakeNow (('k', 200), ('n',), ('n',)) -/
def u346 : List (Nat × TP × EX × Nat × Nat) := []
theorem k346 : chk (mkD iX12_shakeNow fX12 lX12 kX12 kkX12 346 [(3, [284]), (9, [284]), (38, [283]), (46, [292]), (86, [345]), (96, [345])] c346 false 5 u346) 4000 = true := by decide +kernel
theorem m346 {X0 : zC0} (H : ∀ j, j < 346 → CMj X0 j) : CMj X0 346 := by
  obtain ⟨l0, D0, cy0, ax0⟩ := X0
  intro mi c hc
  have e : conAt 346 = some (141, c346) := rfl
  rw [e] at hc
  obtain ⟨rfl, rfl⟩ := Prod.mk.inj (Option.some.inj hc)
  have e2 : mt 141 = (yX12_shakeNow, cX12_shakeNow, 5, none) := rfl
  rw [e2]
  have h := chk_ok (l0 := l0) (D0 := D0) (cy0 := cy0) (ax0 := ax0) (y := yX12_shakeNow) (cc := cX12_shakeNow) (ret := none) k346 (mk_ok jX12_shakeNow fX12_ok lX12_ok kX12_ok kkX12_ok H) rfl pnX12 nrV (fun h => by cases h) rfl
  exact h

/-! X12_stealNow (('k', 200), ('n',), ('n',), ('n',)) -/
def u347 : List (Nat × TP × EX × Nat × Nat) := []
theorem k347 : chk (mkD iX12_stealNow fX12 lX12 kX12 kkX12 347 [(3, [278]), (10, [278])] c347 false 4 u347) 4000 = true := by decide +kernel
theorem m347 {X0 : zC0} (H : ∀ j, j < 347 → CMj X0 j) : CMj X0 347 := by
  obtain ⟨l0, D0, cy0, ax0⟩ := X0
  intro mi c hc
  have e : conAt 347 = some (144, c347) := rfl
  rw [e] at hc
  obtain ⟨rfl, rfl⟩ := Prod.mk.inj (Option.some.inj hc)
  have e2 : mt 144 = (yX12_stealNow, cX12_stealNow, 4, none) := rfl
  rw [e2]
  have h := chk_ok (l0 := l0) (D0 := D0) (cy0 := cy0) (ax0 := ax0) (y := yX12_stealNow) (cc := cX12_stealNow) (ret := none) k347 (mk_ok jX12_stealNow fX12_ok lX12_ok kX12_ok kkX12_ok H) rfl pnX12 nrV (fun h => by cases h) rfl
  exact h

/-! X12_happens (('k', 200), ('n',), ('n',)) -/
def u348 : List (Nat × TP × EX × Nat × Nat) := []
theorem k348 : chk (mkD iX12_happens fX12 lX12 kX12 kkX12 348 [(51, [344]), (66, [316]), (83, [341]), (91, [317]), (100, [346]), (118, [284]), (127, [284]), (142, [318]), (153, [347]), (171, [301])] c348 false 6 u348) 4000 = true := by decide +kernel
theorem m348 {X0 : zC0} (H : ∀ j, j < 348 → CMj X0 j) : CMj X0 348 := by
  obtain ⟨l0, D0, cy0, ax0⟩ := X0
  intro mi c hc
  have e : conAt 348 = some (105, c348) := rfl
  rw [e] at hc
  obtain ⟨rfl, rfl⟩ := Prod.mk.inj (Option.some.inj hc)
  have e2 : mt 105 = (yX12_happens, cX12_happens, 6, (some .int)) := rfl
  rw [e2]
  have h := chk_ok (l0 := l0) (D0 := D0) (cy0 := cy0) (ax0 := ax0) (y := yX12_happens) (cc := cX12_happens) (ret := (some .int)) k348 (mk_ok jX12_happens fX12_ok lX12_ok kX12_ok kkX12_ok H) ⟨_, rfl⟩ pnX12 nrI (fun h => by cases h) rfl
  exact h

/-! X12_hour (('k', 200), ('n',)) -/
def u349 : List (Nat × TP × EX × Nat × Nat) := [(30, ([(0, (2, 0, (0, []))), (1, (0, 0, (0, [(1, 0)]))), (2, (0, 0, (0, [(1, 3)]))), (3, (0, 0, (0, [(1, 4)])))], [], ([(1, 30), (0, 2001500000), (0, 999), ((-2147483648), 2147483647), (0, 30), (0, 2001500240)], [(0, [(1, 0), ((-1), 4)]), (0, [(1, 2), ((-1), 4)]), (999, [(1, 4), ((-1), 2), ((-1), 0)]), (998, [((-1), 2), (1, 4)]), (0, [((-1), 5), (1, 1), (8, 4)]), (0, [((-1), 5), (1, 1), (40, 4)]), (0, [((-1), 5), (1, 1), (240, 4)]), (0, [((-1), 5), (1, 1), (8000, 4)]), (240, [(1, 1), ((-1), 5)])], [], [200], [((201, (2, [])), (0, [(1, 2)])), ((0, (0, [])), (0, [(1, 5)]))], [], []), [(2, 201, (2, [])), (0, 2, (0, [])), (0, 3, (0, [])), (2, 0, (0, []))], []), (30, [((-1), 4)]), 0, 0)]
theorem k349 : chk (mkD iX12_hour fX12 lX12 kX12 kkX12 349 [(4, [276]), (37, [302])] c349 false 4 u349) 4000 = true := by decide +kernel
theorem m349 {X0 : zC0} (H : ∀ j, j < 349 → CMj X0 j) : CMj X0 349 := by
  obtain ⟨l0, D0, cy0, ax0⟩ := X0
  intro mi c hc
  have e : conAt 349 = some (107, c349) := rfl
  rw [e] at hc
  obtain ⟨rfl, rfl⟩ := Prod.mk.inj (Option.some.inj hc)
  have e2 : mt 107 = (yX12_hour, cX12_hour, 4, (some .int)) := rfl
  rw [e2]
  have h := chk_ok (l0 := l0) (D0 := D0) (cy0 := cy0) (ax0 := ax0) (y := yX12_hour) (cc := cX12_hour) (ret := (some .int)) k349 (mk_ok jX12_hour fX12_ok lX12_ok kX12_ok kkX12_ok H) ⟨_, rfl⟩ pnX12 nrI (fun h => by cases h) rfl
  exact h

/-! X12_image (('k', 200),) -/
def u350 : List (Nat × TP × EX × Nat × Nat) := []
theorem k350 : chk (mkD iX12_image fX12 lX12 kX12 kkX12 350 [(8, [320])] c350 false 1 u350) 4000 = true := by decide +kernel
theorem m350 {X0 : zC0} (H : ∀ j, j < 350 → CMj X0 j) : CMj X0 350 := by
  obtain ⟨l0, D0, cy0, ax0⟩ := X0
  intro mi c hc
  have e : conAt 350 = some (108, c350) := rfl
  rw [e] at hc
  obtain ⟨rfl, rfl⟩ := Prod.mk.inj (Option.some.inj hc)
  have e2 : mt 108 = (yX12_image, cX12_image, 1, (some .int)) := rfl
  rw [e2]
  have h := chk_ok (l0 := l0) (D0 := D0) (cy0 := cy0) (ax0 := ax0) (y := yX12_image) (cc := cX12_image) (ret := (some .int)) k350 (mk_ok jX12_image fX12_ok lX12_ok kX12_ok kkX12_ok H) ⟨_, rfl⟩ pnX12 nrI (fun h => by cases h) rfl
  exact h

/-! X12_road (('k', 200), ('n',), ('n',)) -/
def u351 : List (Nat × TP × EX × Nat × Nat) := []
theorem k351 : chk (mkD iX12_road fX12 lX12 kX12 kkX12 351 [(2, [313]), (10, [313]), (25, [314]), (29, [315])] c351 true 3 u351) 4000 = true := by decide +kernel
theorem m351 {X0 : zC0} (H : ∀ j, j < 351 → CMj X0 j) : CMj X0 351 := by
  obtain ⟨l0, D0, cy0, ax0⟩ := X0
  intro mi c hc
  have e : conAt 351 = some (137, c351) := rfl
  rw [e] at hc
  obtain ⟨rfl, rfl⟩ := Prod.mk.inj (Option.some.inj hc)
  have e2 : mt 137 = (yX12_road, cX12_road, 3, (some .boolean)) := rfl
  rw [e2]
  have h := chk_ok (l0 := l0) (D0 := D0) (cy0 := cy0) (ax0 := ax0) (y := yX12_road) (cc := cX12_road) (ret := (some .boolean)) k351 (mk_ok jX12_road fX12_ok lX12_ok kX12_ok kkX12_ok H) ⟨_, rfl⟩ pnX12 (fun h => by cases h) (fun _ => rfl) rfl
  exact h

/-! X12_set (('k', 200), ('n',), ('c', 0), ('n',)) -/
def u352 : List (Nat × TP × EX × Nat × Nat) := []
theorem k352 : chk (mkD iX12_set fX12 lX12 kX12 kkX12 352 [] c352 false 4 u352) 4000 = true := by decide +kernel
theorem m352 {X0 : zC0} (H : ∀ j, j < 352 → CMj X0 j) : CMj X0 352 := by
  obtain ⟨l0, D0, cy0, ax0⟩ := X0
  intro mi c hc
  have e : conAt 352 = some (139, c352) := rfl
  rw [e] at hc
  obtain ⟨rfl, rfl⟩ := Prod.mk.inj (Option.some.inj hc)
  have e2 : mt 139 = (yX12_set, cX12_set, 4, none) := rfl
  rw [e2]
  have h := chk_ok (l0 := l0) (D0 := D0) (cy0 := cy0) (ax0 := ax0) (y := yX12_set) (cc := cX12_set) (ret := none) k352 (mk_ok jX12_set fX12_ok lX12_ok kX12_ok kkX12_ok H) rfl pnX12 nrV (fun h => by cases h) rfl
  exact h

/-! X12_set (('k', 200), ('n',), ('c', 1), ('n',)) -/
def u353 : List (Nat × TP × EX × Nat × Nat) := []
theorem k353 : chk (mkD iX12_set fX12 lX12 kX12 kkX12 353 [] c353 false 4 u353) 4000 = true := by decide +kernel
theorem m353 {X0 : zC0} (H : ∀ j, j < 353 → CMj X0 j) : CMj X0 353 := by
  obtain ⟨l0, D0, cy0, ax0⟩ := X0
  intro mi c hc
  have e : conAt 353 = some (139, c353) := rfl
  rw [e] at hc
  obtain ⟨rfl, rfl⟩ := Prod.mk.inj (Option.some.inj hc)
  have e2 : mt 139 = (yX12_set, cX12_set, 4, none) := rfl
  rw [e2]
  have h := chk_ok (l0 := l0) (D0 := D0) (cy0 := cy0) (ax0 := ax0) (y := yX12_set) (cc := cX12_set) (ret := none) k353 (mk_ok jX12_set fX12_ok lX12_ok kX12_ok kkX12_ok H) rfl pnX12 nrV (fun h => by cases h) rfl
  exact h

/-! X12_set (('k', 200), ('n',), ('c', 5), ('n',)) -/
def u354 : List (Nat × TP × EX × Nat × Nat) := []
theorem k354 : chk (mkD iX12_set fX12 lX12 kX12 kkX12 354 [] c354 false 4 u354) 4000 = true := by decide +kernel
theorem m354 {X0 : zC0} (H : ∀ j, j < 354 → CMj X0 j) : CMj X0 354 := by
  obtain ⟨l0, D0, cy0, ax0⟩ := X0
  intro mi c hc
  have e : conAt 354 = some (139, c354) := rfl
  rw [e] at hc
  obtain ⟨rfl, rfl⟩ := Prod.mk.inj (Option.some.inj hc)
  have e2 : mt 139 = (yX12_set, cX12_set, 4, none) := rfl
  rw [e2]
  have h := chk_ok (l0 := l0) (D0 := D0) (cy0 := cy0) (ax0 := ax0) (y := yX12_set) (cc := cX12_set) (ret := none) k354 (mk_ok jX12_set fX12_ok lX12_ok kX12_ok kkX12_ok H) rfl pnX12 nrV (fun h => by cases h) rfl
  exact h

/-! X12_set (('k', 200), ('n',), ('c', 6), ('n',)) -/
def u355 : List (Nat × TP × EX × Nat × Nat) := []
theorem k355 : chk (mkD iX12_set fX12 lX12 kX12 kkX12 355 [] c355 false 4 u355) 4000 = true := by decide +kernel
theorem m355 {X0 : zC0} (H : ∀ j, j < 355 → CMj X0 j) : CMj X0 355 := by
  obtain ⟨l0, D0, cy0, ax0⟩ := X0
  intro mi c hc
  have e : conAt 355 = some (139, c355) := rfl
  rw [e] at hc
  obtain ⟨rfl, rfl⟩ := Prod.mk.inj (Option.some.inj hc)
  have e2 : mt 139 = (yX12_set, cX12_set, 4, none) := rfl
  rw [e2]
  have h := chk_ok (l0 := l0) (D0 := D0) (cy0 := cy0) (ax0 := ax0) (y := yX12_set) (cc := cX12_set) (ret := none) k355 (mk_ok jX12_set fX12_ok lX12_ok kX12_ok kkX12_ok H) rfl pnX12 nrV (fun h => by cases h) rfl
  exact h

/-! X12_person (('k', 200), ('n',), ('n',), ('n',), ('n',)) -/
def u356 : List (Nat × TP × EX × Nat × Nat) := [(123, ([(0, (2, 0, (0, []))), (1, (0, 0, (0, [(1, 0)]))), (2, (0, 0, (0, [(1, 1)]))), (3, (0, 0, (0, [(1, 2)]))), (4, (0, 0, (0, [(1, 3)]))), (5, (0, 0, (0, [(1, 4)]))), (6, (0, 0, (0, [(1, 6)])))], [], ([(1, 99), (0, 99), (0, 5), (0, 999), (0, 7), (1, 6), (0, 1000)], [((-1), [((-1), 2), (1, 5)]), ((-1), [(1, 6), (1, 5), ((-1), 2)])], [], [200], [((201, (64, [(7, 4)])), (0, [(1, 3)])), ((201, (1, [])), (0, [(1, 4)])), ((201, (0, [])), (0, [(1, 5)]))], [], []), [(0, 5, (0, [])), (2, 201, (0, [])), (0, 6, (0, []))], []), (1000, [((-1), 6)]), 0, 0)]
theorem k356 : chk (mkD iX12_person fX12 lX12 kX12 kkX12 356 [(4, [276]), (14, [276]), (22, [313]), (34, [276]), (66, [352]), (74, [353]), (82, [341]), (91, [345]), (99, [344]), (107, [354]), (117, [355])] c356 false 7 u356) 4000 = true := by decide +kernel
theorem m356 {X0 : zC0} (H : ∀ j, j < 356 → CMj X0 j) : CMj X0 356 := by
  obtain ⟨l0, D0, cy0, ax0⟩ := X0
  intro mi c hc
  have e : conAt 356 = some (128, c356) := rfl
  rw [e] at hc
  obtain ⟨rfl, rfl⟩ := Prod.mk.inj (Option.some.inj hc)
  have e2 : mt 128 = (yX12_person, cX12_person, 7, (some .int)) := rfl
  rw [e2]
  have h := chk_ok (l0 := l0) (D0 := D0) (cy0 := cy0) (ax0 := ax0) (y := yX12_person) (cc := cX12_person) (ret := (some .int)) k356 (mk_ok jX12_person fX12_ok lX12_ok kX12_ok kkX12_ok H) ⟨_, rfl⟩ pnX12 nrI (fun h => by cases h) rfl
  exact h

/-! X12_work (('k', 200), ('n',), ('n',)) -/
def u357 : List (Nat × TP × EX × Nat × Nat) := []
theorem k357 : chk (mkD iX12_work fX12 lX12 kX12 kkX12 357 [(2, [312]), (12, [327]), (21, [285]), (31, [286]), (38, [344])] c357 true 3 u357) 4000 = true := by decide +kernel
theorem m357 {X0 : zC0} (H : ∀ j, j < 357 → CMj X0 j) : CMj X0 357 := by
  obtain ⟨l0, D0, cy0, ax0⟩ := X0
  intro mi c hc
  have e : conAt 357 = some (156, c357) := rfl
  rw [e] at hc
  obtain ⟨rfl, rfl⟩ := Prod.mk.inj (Option.some.inj hc)
  have e2 : mt 156 = (yX12_work, cX12_work, 3, (some .boolean)) := rfl
  rw [e2]
  have h := chk_ok (l0 := l0) (D0 := D0) (cy0 := cy0) (ax0 := ax0) (y := yX12_work) (cc := cX12_work) (ret := (some .boolean)) k357 (mk_ok jX12_work fX12_ok lX12_ok kX12_ok kkX12_ok H) ⟨_, rfl⟩ pnX12 (fun h => by cases h) (fun _ => rfl) rfl
  exact h

/-! X12_shake (('k', 200), ('n',), ('n',)) -/
def u358 : List (Nat × TP × EX × Nat × Nat) := []
theorem k358 : chk (mkD iX12_shake fX12 lX12 kX12 kkX12 358 [(3, [317]), (12, [286]), (18, [346]), (24, [284])] c358 false 3 u358) 4000 = true := by decide +kernel
theorem m358 {X0 : zC0} (H : ∀ j, j < 358 → CMj X0 j) : CMj X0 358 := by
  obtain ⟨l0, D0, cy0, ax0⟩ := X0
  intro mi c hc
  have e : conAt 358 = some (140, c358) := rfl
  rw [e] at hc
  obtain ⟨rfl, rfl⟩ := Prod.mk.inj (Option.some.inj hc)
  have e2 : mt 140 = (yX12_shake, cX12_shake, 3, (some .int)) := rfl
  rw [e2]
  have h := chk_ok (l0 := l0) (D0 := D0) (cy0 := cy0) (ax0 := ax0) (y := yX12_shake) (cc := cX12_shake) (ret := (some .int)) k358 (mk_ok jX12_shake fX12_ok lX12_ok kX12_ok kkX12_ok H) ⟨_, rfl⟩ pnX12 nrI (fun h => by cases h) rfl
  exact h

/-! X12_steal (('k', 200), ('n',), ('n',), ('n',)) -/
def u359 : List (Nat × TP × EX × Nat × Nat) := []
theorem k359 : chk (mkD iX12_steal fX12 lX12 kX12 kkX12 359 [(4, [276]), (14, [318]), (23, [286]), (30, [347]), (36, [284])] c359 false 4 u359) 4000 = true := by decide +kernel
theorem m359 {X0 : zC0} (H : ∀ j, j < 359 → CMj X0 j) : CMj X0 359 := by
  obtain ⟨l0, D0, cy0, ax0⟩ := X0
  intro mi c hc
  have e : conAt 359 = some (143, c359) := rfl
  rw [e] at hc
  obtain ⟨rfl, rfl⟩ := Prod.mk.inj (Option.some.inj hc)
  have e2 : mt 143 = (yX12_steal, cX12_steal, 4, (some .int)) := rfl
  rw [e2]
  have h := chk_ok (l0 := l0) (D0 := D0) (cy0 := cy0) (ax0 := ax0) (y := yX12_steal) (cc := cX12_steal) (ret := (some .int)) k359 (mk_ok jX12_steal fX12_ok lX12_ok kX12_ok kkX12_ok H) ⟨_, rfl⟩ pnX12 nrI (fun h => by cases h) rfl
  exact h

/-! X12_pour (('k', 200), ('n',), ('n',)) -/
def u360 : List (Nat × TP × EX × Nat × Nat) := []
theorem k360 : chk (mkD iX12_pour fX12 lX12 kX12 kkX12 360 [(5, [276]), (23, [313]), (32, [286]), (48, [294]), (54, [280])] c360 false 3 u360) 4000 = true := by decide +kernel
theorem m360 {X0 : zC0} (H : ∀ j, j < 360 → CMj X0 j) : CMj X0 360 := by
  obtain ⟨l0, D0, cy0, ax0⟩ := X0
  intro mi c hc
  have e : conAt 360 = some (131, c360) := rfl
  rw [e] at hc
  obtain ⟨rfl, rfl⟩ := Prod.mk.inj (Option.some.inj hc)
  have e2 : mt 131 = (yX12_pour, cX12_pour, 3, (some .int)) := rfl
  rw [e2]
  have h := chk_ok (l0 := l0) (D0 := D0) (cy0 := cy0) (ax0 := ax0) (y := yX12_pour) (cc := cX12_pour) (ret := (some .int)) k360 (mk_ok jX12_pour fX12_ok lX12_ok kX12_ok kkX12_ok H) ⟨_, rfl⟩ pnX12 nrI (fun h => by cases h) rfl
  exact h

/-! X12_isPlayed (('k', 200), ('n',)) -/
def u361 : List (Nat × TP × EX × Nat × Nat) := []
theorem k361 : chk (mkD iX12_isPlayed fX12 lX12 kX12 kkX12 361 [(89, [328]), (104, [351]), (114, [356]), (129, [357]), (136, [342]), (143, [358]), (160, [359]), (175, [360]), (189, [303])] c361 true 5 u361) 4000 = true := by decide +kernel
theorem m361 {X0 : zC0} (H : ∀ j, j < 361 → CMj X0 j) : CMj X0 361 := by
  obtain ⟨l0, D0, cy0, ax0⟩ := X0
  intro mi c hc
  have e : conAt 361 = some (112, c361) := rfl
  rw [e] at hc
  obtain ⟨rfl, rfl⟩ := Prod.mk.inj (Option.some.inj hc)
  have e2 : mt 112 = (yX12_isPlayed, cX12_isPlayed, 5, (some .boolean)) := rfl
  rw [e2]
  have h := chk_ok (l0 := l0) (D0 := D0) (cy0 := cy0) (ax0 := ax0) (y := yX12_isPlayed) (cc := cX12_isPlayed) (ret := (some .boolean)) k361 (mk_ok jX12_isPlayed fX12_ok lX12_ok kX12_ok kkX12_ok H) ⟨_, rfl⟩ pnX12 (fun h => by cases h) (fun _ => rfl) rfl
  exact h

/-! X12_layWorkers (('k', 200), ('n',), ('n',)) -/
def u362 : List (Nat × TP × EX × Nat × Nat) := [(54, ([(0, (2, 0, (0, []))), (1, (0, 0, (0, [(1, 0)]))), (2, (0, 0, (0, [(1, 1)]))), (3, (0, 0, (0, [(1, 4)]))), (4, (0, 0, (0, [(1, 5)])))], [], ([(1, 255), (1, 63), (0, 6), (0, 8), (0, 8), (0, 8)], [(0, [(8, 2), ((-1), 3)]), (0, [(1, 3), ((-1), 4)]), (0, [(1, 3), ((-1), 5)]), (0, [(1, 5), ((-1), 4)]), (0, [(1, 4), ((-1), 3), (8, 2)]), (0, [(1, 5), ((-1), 3), (8, 2)])], [], [200], [((201, (0, [])), (0, [(1, 2)])), ((201, (1, [])), (0, [(1, 3)]))], [], []), [(2, 201, (0, [])), (2, 201, (1, [])), (0, 3, (0, [])), (0, 4, (0, []))], []), (15, [((-1), 5)]), 0, 0), (99, ([(0, (2, 0, (0, []))), (1, (0, 0, (0, [(1, 0)]))), (2, (0, 0, (0, [(1, 1)]))), (3, (0, 0, (0, [(1, 4)]))), (4, (0, 0, (0, [(1, 5)])))], [], ([(1, 255), (1, 63), (0, 6), (0, 8), (0, 6), (0, 6)], [(0, [((-1), 3), (8, 2)]), (0, [(1, 2), ((-1), 4)]), (0, [(1, 2), ((-1), 5)]), (0, [(1, 5), ((-1), 4)]), (0, [(1, 4), (8, 2), ((-1), 3)]), (0, [(1, 5), (8, 2), ((-1), 3)]), (8, [((-1), 4), ((-1), 3), (8, 2)]), (8, [((-1), 5), ((-1), 3), (8, 2)])], [], [200], [((201, (0, [])), (0, [(1, 2)])), ((201, (1, [])), (0, [(1, 3)]))], [], []), [(2, 201, (0, [])), (2, 201, (1, [])), (0, 3, (0, [])), (0, 4, (0, []))], []), (6, [((-1), 5)]), 0, 0)]
theorem k362 : chk (mkD iX12_layWorkers fX12 lX12 kX12 kkX12 362 [(12, [276]), (30, [276]), (37, [307]), (41, [307]), (68, [315]), (113, [315])] c362 true 5 u362) 4000 = true := by decide +kernel
theorem m362 {X0 : zC0} (H : ∀ j, j < 362 → CMj X0 j) : CMj X0 362 := by
  obtain ⟨l0, D0, cy0, ax0⟩ := X0
  intro mi c hc
  have e : conAt 362 = some (114, c362) := rfl
  rw [e] at hc
  obtain ⟨rfl, rfl⟩ := Prod.mk.inj (Option.some.inj hc)
  have e2 : mt 114 = (yX12_layWorkers, cX12_layWorkers, 5, (some .boolean)) := rfl
  rw [e2]
  have h := chk_ok (l0 := l0) (D0 := D0) (cy0 := cy0) (ax0 := ax0) (y := yX12_layWorkers) (cc := cX12_layWorkers) (ret := (some .boolean)) k362 (mk_ok jX12_layWorkers fX12_ok lX12_ok kX12_ok kkX12_ok H) ⟨_, rfl⟩ pnX12 (fun h => by cases h) (fun _ => rfl) rfl
  exact h

/-! X12_tradedAt (('k', 200), ('n',)) -/
def u363 : List (Nat × TP × EX × Nat × Nat) := [(7, ([(0, (2, 0, (0, []))), (1, (0, 0, (0, [(1, 0)]))), (2, (0, 0, (0, [(1, 1)]))), (3, (0, 0, (0, [(1, 2)]))), (4, (0, 0, (0, [(1, 3)])))], [], ([(0, 99), ((-2147483648), 2147483647), ((-2147483648), 2147483647), (0, 10)], [], [], [200], [], [], []), [(0, 2, (0, [])), (0, 3, (0, [])), (0, 4, (0, []))], []), (10, [((-1), 3)]), 0, 0)]
theorem k363 : chk (mkD iX12_tradedAt fX12 lX12 kX12 kkX12 363 [] c363 false 6 u363) 4000 = true := by decide +kernel
theorem m363 {X0 : zC0} (H : ∀ j, j < 363 → CMj X0 j) : CMj X0 363 := by
  obtain ⟨l0, D0, cy0, ax0⟩ := X0
  intro mi c hc
  have e : conAt 363 = some (150, c363) := rfl
  rw [e] at hc
  obtain ⟨rfl, rfl⟩ := Prod.mk.inj (Option.some.inj hc)
  have e2 : mt 150 = (yX12_tradedAt, cX12_tradedAt, 6, (some .int)) := rfl
  rw [e2]
  have h := chk_ok (l0 := l0) (D0 := D0) (cy0 := cy0) (ax0 := ax0) (y := yX12_tradedAt) (cc := cX12_tradedAt) (ret := (some .int)) k363 (mk_ok jX12_tradedAt fX12_ok lX12_ok kX12_ok kkX12_ok H) ⟨_, rfl⟩ pnX12 nrI (fun h => by cases h) rfl
  exact h

/-! X12_market (('k', 200), ('n',)) -/
def u364 : List (Nat × TP × EX × Nat × Nat) := [(26, ([(0, (2, 0, (0, []))), (1, (0, 0, (0, [(1, 0)]))), (2, (0, 0, (0, [(1, 1)]))), (3, (0, 0, (0, [(1, 2)])))], [], ([((-1), (-1)), (0, 99), (1, 100)], [(0, [(1, 2), ((-1), 1)]), ((-1), [(1, 2), ((-1), 1)])], [], [200], [], [], []), [(0, 2, (0, [])), (0, 3, (0, []))], []), (100, [((-1), 2)]), 0, 0)]
theorem k364 : chk (mkD iX12_market fX12 lX12 kX12 kkX12 364 [(4, [276]), (18, [363]), (34, [363]), (39, [363])] c364 false 4 u364) 4000 = true := by decide +kernel
theorem m364 {X0 : zC0} (H : ∀ j, j < 364 → CMj X0 j) : CMj X0 364 := by
  obtain ⟨l0, D0, cy0, ax0⟩ := X0
  intro mi c hc
  have e : conAt 364 = some (115, c364) := rfl
  rw [e] at hc
  obtain ⟨rfl, rfl⟩ := Prod.mk.inj (Option.some.inj hc)
  have e2 : mt 115 = (yX12_market, cX12_market, 4, (some .int)) := rfl
  rw [e2]
  have h := chk_ok (l0 := l0) (D0 := D0) (cy0 := cy0) (ax0 := ax0) (y := yX12_market) (cc := cX12_market) (ret := (some .int)) k364 (mk_ok jX12_market fX12_ok lX12_ok kX12_ok kkX12_ok H) ⟨_, rfl⟩ pnX12 nrI (fun h => by cases h) rfl
  exact h

/-! X12_missing (('k', 200), ('n',), ('n',), ('n',)) -/
def u366 : List (Nat × TP × EX × Nat × Nat) := []
theorem k366 : chk (mkD iX12_missing fX12 lX12 kX12 kkX12 366 [(17, [312]), (28, [276]), (39, [276])] c366 false 5 u366) 4000 = true := by decide +kernel
theorem m366 {X0 : zC0} (H : ∀ j, j < 366 → CMj X0 j) : CMj X0 366 := by
  obtain ⟨l0, D0, cy0, ax0⟩ := X0
  intro mi c hc
  have e : conAt 366 = some (117, c366) := rfl
  rw [e] at hc
  obtain ⟨rfl, rfl⟩ := Prod.mk.inj (Option.some.inj hc)
  have e2 : mt 117 = (yX12_missing, cX12_missing, 5, (some .int)) := rfl
  rw [e2]
  have h := chk_ok (l0 := l0) (D0 := D0) (cy0 := cy0) (ax0 := ax0) (y := yX12_missing) (cc := cX12_missing) (ret := (some .int)) k366 (mk_ok jX12_missing fX12_ok lX12_ok kX12_ok kkX12_ok H) ⟨_, rfl⟩ pnX12 nrI (fun h => by cases h) rfl
  exact h

/-! X12_wasAt (('k', 200), ('n',), ('n',)) -/
def u367 : List (Nat × TP × EX × Nat × Nat) := []
theorem k367 : chk (mkD iX12_wasAt fX12 lX12 kX12 kkX12 367 [(18, [276])] c367 false 3 u367) 4000 = true := by decide +kernel
theorem m367 {X0 : zC0} (H : ∀ j, j < 367 → CMj X0 j) : CMj X0 367 := by
  obtain ⟨l0, D0, cy0, ax0⟩ := X0
  intro mi c hc
  have e : conAt 367 = some (152, c367) := rfl
  rw [e] at hc
  obtain ⟨rfl, rfl⟩ := Prod.mk.inj (Option.some.inj hc)
  have e2 : mt 152 = (yX12_wasAt, cX12_wasAt, 3, (some .int)) := rfl
  rw [e2]
  have h := chk_ok (l0 := l0) (D0 := D0) (cy0 := cy0) (ax0 := ax0) (y := yX12_wasAt) (cc := cX12_wasAt) (ret := (some .int)) k367 (mk_ok jX12_wasAt fX12_ok lX12_ok kX12_ok kkX12_ok H) ⟨_, rfl⟩ pnX12 nrI (fun h => by cases h) rfl
  exact h

/-! X12_nearOf (('k', 200), ('n',)) -/
def u368 : List (Nat × TP × EX × Nat × Nat) := [(19, ([(0, (2, 0, (0, []))), (1, (0, 0, (0, [(1, 0)]))), (2, (0, 0, (114, [(3, 0)]))), (3, (0, 0, (0, [(1, 3)]))), (4, (0, 0, (0, [(1, 1)])))], [], ([(0, 5), (0, 1000), (0, 999), (0, 255)], [(0, [(1, 1), ((-1), 2)])], [], [200], [((201, (115, [(3, 0)])), (0, [(1, 2)]))], [], []), [(0, 4, (0, [])), (2, 201, (115, [(3, 0)])), (0, 3, (0, []))], []), (10009, [((-10), 1)]), 0, 0), (49, ([(0, (2, 0, (0, []))), (1, (0, 0, (0, [(1, 0)]))), (2, (0, 0, (114, [(3, 0)]))), (3, (0, 0, (0, [(1, 1)]))), (4, (0, 0, (0, [(1, 2)]))), (5, (0, 0, (0, [(1, 6)]))), (6, (0, 0, (0, [(1, 7)])))], [], ([(0, 5), (0, 255), (0, 999), (0, 7), (0, 999), (0, 999), ((-2147483648), 2147483647), (0, 8)], [(0, [((-1), 2), (1, 4)]), (0, [((-1), 5), (1, 2)]), (0, [(1, 4), ((-1), 5)]), (0, [(1, 7), (1, 4), ((-1), 2)]), (0, [(1, 7), (1, 2), ((-1), 5)])], [], [200], [((201, (114, [(3, 0)])), (0, [(1, 3)])), ((201, (116, [(3, 0)])), (0, [(1, 4)])), ((201, (115, [(3, 0)])), (0, [(1, 5)]))], [], []), [(0, 3, (0, [])), (0, 4, (0, [])), (2, 201, (114, [(3, 0)])), (2, 201, (116, [(3, 0)])), (2, 201, (115, [(3, 0)])), (0, 5, (0, [])), (0, 6, (0, []))], []), (10008, [((-1), 7), ((-10), 2)]), 0, 0)]
theorem k368 : chk (mkD iX12_nearOf fX12 lX12 kX12 kkX12 368 [(41, [367]), (82, [367])] c368 false 7 u368) 4000 = true := by decide +kernel
theorem m368 {X0 : zC0} (H : ∀ j, j < 368 → CMj X0 j) : CMj X0 368 := by
  obtain ⟨l0, D0, cy0, ax0⟩ := X0
  intro mi c hc
  have e : conAt 368 = some (120, c368) := rfl
  rw [e] at hc
  obtain ⟨rfl, rfl⟩ := Prod.mk.inj (Option.some.inj hc)
  have e2 : mt 120 = (yX12_nearOf, cX12_nearOf, 7, (some .int)) := rfl
  rw [e2]
  have h := chk_ok (l0 := l0) (D0 := D0) (cy0 := cy0) (ax0 := ax0) (y := yX12_nearOf) (cc := cX12_nearOf) (ret := (some .int)) k368 (mk_ok jX12_nearOf fX12_ok lX12_ok kX12_ok kkX12_ok H) ⟨_, rfl⟩ pnX12 nrI (fun h => by cases h) rfl
  exact h

/-! X12_near (('k', 200), ('n',)) -/
def u369 : List (Nat × TP × EX × Nat × Nat) := [(43, ([(0, (2, 0, (0, []))), (1, (0, 0, (0, [(1, 0)]))), (2, (0, 0, (0, [(1, 1)]))), (3, (0, 0, (0, [(1, 4)])))], [], ([((-1), (-1)), ((-1), 255), (0, 8), (0, 6), (0, 6)], [(0, [(1, 3), ((-1), 4)]), ((-1), [((-1), 4), ((-1), 0), (1, 3)])], [], [200], [((201, (1, [])), (0, [(1, 2)])), ((201, (10, [])), (0, [(1, 3)]))], [], []), [(0, 2, (0, [])), (2, 201, (1, [])), (2, 201, (10, [])), (0, 3, (0, []))], []), (6, [((-1), 4)]), 0, 0)]
theorem k369 : chk (mkD iX12_near fX12 lX12 kX12 kkX12 369 [(11, [276]), (26, [368]), (57, [368])] c369 false 4 u369) 4000 = true := by decide +kernel
theorem m369 {X0 : zC0} (H : ∀ j, j < 369 → CMj X0 j) : CMj X0 369 := by
  obtain ⟨l0, D0, cy0, ax0⟩ := X0
  intro mi c hc
  have e : conAt 369 = some (119, c369) := rfl
  rw [e] at hc
  obtain ⟨rfl, rfl⟩ := Prod.mk.inj (Option.some.inj hc)
  have e2 : mt 119 = (yX12_near, cX12_near, 4, (some .int)) := rfl
  rw [e2]
  have h := chk_ok (l0 := l0) (D0 := D0) (cy0 := cy0) (ax0 := ax0) (y := yX12_near) (cc := cX12_near) (ret := (some .int)) k369 (mk_ok jX12_near fX12_ok lX12_ok kX12_ok kkX12_ok H) ⟨_, rfl⟩ pnX12 nrI (fun h => by cases h) rfl
  exact h

/-! X12_peopleOn (('k', 200), ('n',)) -/
def u370 : List (Nat × TP × EX × Nat × Nat) := [(4, ([(0, (2, 0, (0, []))), (1, (0, 0, (0, [(1, 0)]))), (2, (0, 0, (0, [(1, 1)]))), (3, (0, 0, (0, [(1, 2)])))], [], ([(0, 5), (0, 255), (0, 8)], [], [], [200], [], [], []), [(0, 2, (0, [])), (0, 3, (0, []))], []), (8, [((-1), 2)]), 0, 0)]
theorem k370 : chk (mkD iX12_peopleOn fX12 lX12 kX12 kkX12 370 [(18, [283])] c370 false 4 u370) 4000 = true := by decide +kernel
theorem m370 {X0 : zC0} (H : ∀ j, j < 370 → CMj X0 j) : CMj X0 370 := by
  obtain ⟨l0, D0, cy0, ax0⟩ := X0
  intro mi c hc
  have e : conAt 370 = some (127, c370) := rfl
  rw [e] at hc
  obtain ⟨rfl, rfl⟩ := Prod.mk.inj (Option.some.inj hc)
  have e2 : mt 127 = (yX12_peopleOn, cX12_peopleOn, 4, (some .int)) := rfl
  rw [e2]
  have h := chk_ok (l0 := l0) (D0 := D0) (cy0 := cy0) (ax0 := ax0) (y := yX12_peopleOn) (cc := cX12_peopleOn) (ret := (some .int)) k370 (mk_ok jX12_peopleOn fX12_ok lX12_ok kX12_ok kkX12_ok H) ⟨_, rfl⟩ pnX12 nrI (fun h => by cases h) rfl
  exact h
