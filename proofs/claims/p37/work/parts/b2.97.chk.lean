/-! X12_set (('k', 200), ('n',), ('c', 3), ('n',)) -/
def u365 : List (Nat × TP × EX × Nat × Nat) := []
theorem k365 : chk (mkD iX12_set fX12 lX12 kX12 kkX12 365 [] c365 false 4 u365) 4000 = true := by decide +kernel
theorem m365 {X0 : zC0} (H : ∀ j, j < 365 → CMj X0 j) : CMj X0 365 := by
  obtain ⟨l0, D0, cy0, ax0⟩ := X0
  intro mi c hc
  have e : conAt 365 = some (170, c365) := rfl
  rw [e] at hc
  obtain ⟨rfl, rfl⟩ := Prod.mk.inj (Option.some.inj hc)
  have e2 : mt 170 = (yX12_set, cX12_set, 4, none) := rfl
  rw [e2]
  have h := chk_ok (l0 := l0) (D0 := D0) (cy0 := cy0) (ax0 := ax0) (y := yX12_set) (cc := cX12_set) (ret := none) k365 (mk_ok jX12_set fX12_ok lX12_ok kX12_ok kkX12_ok H) rfl pnX12 nrV (fun h => by cases h) rfl
  exact h

/-! X12_shakeNow (('k', 200), ('n',), ('n',)) -/
def u366 : List (Nat × TP × EX × Nat × Nat) := []
theorem k366 : chk (mkD iX12_shakeNow fX12 lX12 kX12 kkX12 366 [(3, [298]), (9, [298]), (38, [297]), (46, [310]), (86, [365]), (96, [365])] c366 false 5 u366) 4000 = true := by decide +kernel
theorem m366 {X0 : zC0} (H : ∀ j, j < 366 → CMj X0 j) : CMj X0 366 := by
  obtain ⟨l0, D0, cy0, ax0⟩ := X0
  intro mi c hc
  have e : conAt 366 = some (173, c366) := rfl
  rw [e] at hc
  obtain ⟨rfl, rfl⟩ := Prod.mk.inj (Option.some.inj hc)
  have e2 : mt 173 = (yX12_shakeNow, cX12_shakeNow, 5, none) := rfl
  rw [e2]
  have h := chk_ok (l0 := l0) (D0 := D0) (cy0 := cy0) (ax0 := ax0) (y := yX12_shakeNow) (cc := cX12_shakeNow) (ret := none) k366 (mk_ok jX12_shakeNow fX12_ok lX12_ok kX12_ok kkX12_ok H) rfl pnX12 nrV (fun h => by cases h) rfl
  exact h

/-! X12_stealNow (('k', 200), ('n',), ('n',), ('n',)) -/
def u367 : List (Nat × TP × EX × Nat × Nat) := []
theorem k367 : chk (mkD iX12_stealNow fX12 lX12 kX12 kkX12 367 [(3, [292]), (10, [292])] c367 false 4 u367) 4000 = true := by decide +kernel
theorem m367 {X0 : zC0} (H : ∀ j, j < 367 → CMj X0 j) : CMj X0 367 := by
  obtain ⟨l0, D0, cy0, ax0⟩ := X0
  intro mi c hc
  have e : conAt 367 = some (179, c367) := rfl
  rw [e] at hc
  obtain ⟨rfl, rfl⟩ := Prod.mk.inj (Option.some.inj hc)
  have e2 : mt 179 = (yX12_stealNow, cX12_stealNow, 4, none) := rfl
  rw [e2]
  have h := chk_ok (l0 := l0) (D0 := D0) (cy0 := cy0) (ax0 := ax0) (y := yX12_stealNow) (cc := cX12_stealNow) (ret := none) k367 (mk_ok jX12_stealNow fX12_ok lX12_ok kX12_ok kkX12_ok H) rfl pnX12 nrV (fun h => by cases h) rfl
  exact h

/-! X12_happens (('k', 200), ('n',), ('n',)) -/
def u368 : List (Nat × TP × EX × Nat × Nat) := []
theorem k368 : chk (mkD iX12_happens fX12 lX12 kX12 kkX12 368 [(51, [364]), (66, [335]), (83, [361]), (91, [336]), (100, [366]), (118, [298]), (127, [298]), (142, [337]), (153, [367]), (171, [319])] c368 false 6 u368) 4000 = true := by decide +kernel
theorem m368 {X0 : zC0} (H : ∀ j, j < 368 → CMj X0 j) : CMj X0 368 := by
  obtain ⟨l0, D0, cy0, ax0⟩ := X0
  intro mi c hc
  have e : conAt 368 = some (117, c368) := rfl
  rw [e] at hc
  obtain ⟨rfl, rfl⟩ := Prod.mk.inj (Option.some.inj hc)
  have e2 : mt 117 = (yX12_happens, cX12_happens, 6, (some .int)) := rfl
  rw [e2]
  have h := chk_ok (l0 := l0) (D0 := D0) (cy0 := cy0) (ax0 := ax0) (y := yX12_happens) (cc := cX12_happens) (ret := (some .int)) k368 (mk_ok jX12_happens fX12_ok lX12_ok kX12_ok kkX12_ok H) ⟨_, rfl⟩ pnX12 nrI (fun h => by cases h) rfl
  exact h

/-! X12_hour (('k', 200), ('n',)) -/
def u369 : List (Nat × TP × EX × Nat × Nat) := [(30, ([(0, (2, 0, (0, []))), (1, (0, 0, (0, [(1, 0)]))), (2, (0, 0, (0, [(1, 3)]))), (3, (0, 0, (0, [(1, 4)])))], [], ([(1, 30), (0, 2001500000), (0, 999), ((-2147483648), 2147483647), (0, 30), (0, 2001500240)], [(0, [(1, 0), ((-1), 4)]), (0, [(1, 2), ((-1), 4)]), (999, [(1, 4), ((-1), 2), ((-1), 0)]), (998, [((-1), 2), (1, 4)]), (0, [((-1), 5), (1, 1), (8, 4)]), (0, [((-1), 5), (1, 1), (40, 4)]), (0, [((-1), 5), (1, 1), (240, 4)]), (0, [((-1), 5), (1, 1), (8000, 4)]), (240, [(1, 1), ((-1), 5)])], [], [200], [((201, (2, [])), (0, [(1, 2)])), ((0, (0, [])), (0, [(1, 5)]))], [], []), [(2, 201, (2, [])), (0, 2, (0, [])), (0, 3, (0, [])), (2, 0, (0, []))], []), (30, [((-1), 4)]), 0, 0)]
theorem k369 : chk (mkD iX12_hour fX12 lX12 kX12 kkX12 369 [(4, [290]), (37, [320])] c369 false 4 u369) 4000 = true := by decide +kernel
theorem m369 {X0 : zC0} (H : ∀ j, j < 369 → CMj X0 j) : CMj X0 369 := by
  obtain ⟨l0, D0, cy0, ax0⟩ := X0
  intro mi c hc
  have e : conAt 369 = some (119, c369) := rfl
  rw [e] at hc
  obtain ⟨rfl, rfl⟩ := Prod.mk.inj (Option.some.inj hc)
  have e2 : mt 119 = (yX12_hour, cX12_hour, 4, (some .int)) := rfl
  rw [e2]
  have h := chk_ok (l0 := l0) (D0 := D0) (cy0 := cy0) (ax0 := ax0) (y := yX12_hour) (cc := cX12_hour) (ret := (some .int)) k369 (mk_ok jX12_hour fX12_ok lX12_ok kX12_ok kkX12_ok H) ⟨_, rfl⟩ pnX12 nrI (fun h => by cases h) rfl
  exact h

/-! X12_image (('k', 200),) -/
def u370 : List (Nat × TP × EX × Nat × Nat) := []
theorem k370 : chk (mkD iX12_image fX12 lX12 kX12 kkX12 370 [(8, [340])] c370 false 1 u370) 4000 = true := by decide +kernel
theorem m370 {X0 : zC0} (H : ∀ j, j < 370 → CMj X0 j) : CMj X0 370 := by
  obtain ⟨l0, D0, cy0, ax0⟩ := X0
  intro mi c hc
  have e : conAt 370 = some (120, c370) := rfl
  rw [e] at hc
  obtain ⟨rfl, rfl⟩ := Prod.mk.inj (Option.some.inj hc)
  have e2 : mt 120 = (yX12_image, cX12_image, 1, (some .int)) := rfl
  rw [e2]
  have h := chk_ok (l0 := l0) (D0 := D0) (cy0 := cy0) (ax0 := ax0) (y := yX12_image) (cc := cX12_image) (ret := (some .int)) k370 (mk_ok jX12_image fX12_ok lX12_ok kX12_ok kkX12_ok H) ⟨_, rfl⟩ pnX12 nrI (fun h => by cases h) rfl
  exact h

/-! X12_isFigure (('n',),) -/
def u371 : List (Nat × TP × EX × Nat × Nat) := []
theorem k371 : chk (mkD iX12_isFigure fX12 lX12 kX12 kkX12 371 [] c371 true 1 u371) 4000 = true := by decide +kernel
theorem m371 {X0 : zC0} (H : ∀ j, j < 371 → CMj X0 j) : CMj X0 371 := by
  obtain ⟨l0, D0, cy0, ax0⟩ := X0
  intro mi c hc
  have e : conAt 371 = some (125, c371) := rfl
  rw [e] at hc
  obtain ⟨rfl, rfl⟩ := Prod.mk.inj (Option.some.inj hc)
  have e2 : mt 125 = (yX12_isFigure, cX12_isFigure, 1, (some .boolean)) := rfl
  rw [e2]
  have h := chk_ok (l0 := l0) (D0 := D0) (cy0 := cy0) (ax0 := ax0) (y := yX12_isFigure) (cc := cX12_isFigure) (ret := (some .boolean)) k371 (mk_ok jX12_isFigure fX12_ok lX12_ok kX12_ok kkX12_ok H) ⟨_, rfl⟩ pnX12 (fun h => by cases h) (fun _ => rfl) rfl
  exact h

/-! X12_isLetterByte (('n',),) -/
def u372 : List (Nat × TP × EX × Nat × Nat) := []
theorem k372 : chk (mkD iX12_isLetterByte fX12 lX12 kX12 kkX12 372 [] c372 true 1 u372) 4000 = true := by decide +kernel
theorem m372 {X0 : zC0} (H : ∀ j, j < 372 → CMj X0 j) : CMj X0 372 := by
  obtain ⟨l0, D0, cy0, ax0⟩ := X0
  intro mi c hc
  have e : conAt 372 = some (127, c372) := rfl
  rw [e] at hc
  obtain ⟨rfl, rfl⟩ := Prod.mk.inj (Option.some.inj hc)
  have e2 : mt 127 = (yX12_isLetterByte, cX12_isLetterByte, 1, (some .boolean)) := rfl
  rw [e2]
  have h := chk_ok (l0 := l0) (D0 := D0) (cy0 := cy0) (ax0 := ax0) (y := yX12_isLetterByte) (cc := cX12_isLetterByte) (ret := (some .boolean)) k372 (mk_ok jX12_isLetterByte fX12_ok lX12_ok kX12_ok kkX12_ok H) ⟨_, rfl⟩ pnX12 (fun h => by cases h) (fun _ => rfl) rfl
  exact h

/-! X12_isOf (('k', 200), ('n',)) -/
def u373 : List (Nat × TP × EX × Nat × Nat) := []
theorem k373 : chk (mkD iX12_isOf fX12 lX12 kX12 kkX12 373 [] c373 true 2 u373) 4000 = true := by decide +kernel
theorem m373 {X0 : zC0} (H : ∀ j, j < 373 → CMj X0 j) : CMj X0 373 := by
  obtain ⟨l0, D0, cy0, ax0⟩ := X0
  intro mi c hc
  have e : conAt 373 = some (128, c373) := rfl
  rw [e] at hc
  obtain ⟨rfl, rfl⟩ := Prod.mk.inj (Option.some.inj hc)
  have e2 : mt 128 = (yX12_isOf, cX12_isOf, 2, (some .boolean)) := rfl
  rw [e2]
  have h := chk_ok (l0 := l0) (D0 := D0) (cy0 := cy0) (ax0 := ax0) (y := yX12_isOf) (cc := cX12_isOf) (ret := (some .boolean)) k373 (mk_ok jX12_isOf fX12_ok lX12_ok kX12_ok kkX12_ok H) ⟨_, rfl⟩ pnX12 (fun h => by cases h) (fun _ => rfl) rfl
  exact h

/-! X12_road (('k', 200), ('n',), ('n',)) -/
def u374 : List (Nat × TP × EX × Nat × Nat) := []
theorem k374 : chk (mkD iX12_road fX12 lX12 kX12 kkX12 374 [(2, [332]), (10, [332]), (25, [333]), (29, [334])] c374 true 3 u374) 4000 = true := by decide +kernel
theorem m374 {X0 : zC0} (H : ∀ j, j < 374 → CMj X0 j) : CMj X0 374 := by
  obtain ⟨l0, D0, cy0, ax0⟩ := X0
  intro mi c hc
  have e : conAt 374 = some (168, c374) := rfl
  rw [e] at hc
  obtain ⟨rfl, rfl⟩ := Prod.mk.inj (Option.some.inj hc)
  have e2 : mt 168 = (yX12_road, cX12_road, 3, (some .boolean)) := rfl
  rw [e2]
  have h := chk_ok (l0 := l0) (D0 := D0) (cy0 := cy0) (ax0 := ax0) (y := yX12_road) (cc := cX12_road) (ret := (some .boolean)) k374 (mk_ok jX12_road fX12_ok lX12_ok kX12_ok kkX12_ok H) ⟨_, rfl⟩ pnX12 (fun h => by cases h) (fun _ => rfl) rfl
  exact h

/-! X12_set (('k', 200), ('n',), ('c', 0), ('n',)) -/
def u375 : List (Nat × TP × EX × Nat × Nat) := []
theorem k375 : chk (mkD iX12_set fX12 lX12 kX12 kkX12 375 [] c375 false 4 u375) 4000 = true := by decide +kernel
theorem m375 {X0 : zC0} (H : ∀ j, j < 375 → CMj X0 j) : CMj X0 375 := by
  obtain ⟨l0, D0, cy0, ax0⟩ := X0
  intro mi c hc
  have e : conAt 375 = some (170, c375) := rfl
  rw [e] at hc
  obtain ⟨rfl, rfl⟩ := Prod.mk.inj (Option.some.inj hc)
  have e2 : mt 170 = (yX12_set, cX12_set, 4, none) := rfl
  rw [e2]
  have h := chk_ok (l0 := l0) (D0 := D0) (cy0 := cy0) (ax0 := ax0) (y := yX12_set) (cc := cX12_set) (ret := none) k375 (mk_ok jX12_set fX12_ok lX12_ok kX12_ok kkX12_ok H) rfl pnX12 nrV (fun h => by cases h) rfl
  exact h

/-! X12_set (('k', 200), ('n',), ('c', 1), ('n',)) -/
def u376 : List (Nat × TP × EX × Nat × Nat) := []
theorem k376 : chk (mkD iX12_set fX12 lX12 kX12 kkX12 376 [] c376 false 4 u376) 4000 = true := by decide +kernel
theorem m376 {X0 : zC0} (H : ∀ j, j < 376 → CMj X0 j) : CMj X0 376 := by
  obtain ⟨l0, D0, cy0, ax0⟩ := X0
  intro mi c hc
  have e : conAt 376 = some (170, c376) := rfl
  rw [e] at hc
  obtain ⟨rfl, rfl⟩ := Prod.mk.inj (Option.some.inj hc)
  have e2 : mt 170 = (yX12_set, cX12_set, 4, none) := rfl
  rw [e2]
  have h := chk_ok (l0 := l0) (D0 := D0) (cy0 := cy0) (ax0 := ax0) (y := yX12_set) (cc := cX12_set) (ret := none) k376 (mk_ok jX12_set fX12_ok lX12_ok kX12_ok kkX12_ok H) rfl pnX12 nrV (fun h => by cases h) rfl
  exact h

/-! X12_set (('k', 200), ('n',), ('c', 5), ('n',)) -/
def u377 : List (Nat × TP × EX × Nat × Nat) := []
theorem k377 : chk (mkD iX12_set fX12 lX12 kX12 kkX12 377 [] c377 false 4 u377) 4000 = true := by decide +kernel
theorem m377 {X0 : zC0} (H : ∀ j, j < 377 → CMj X0 j) : CMj X0 377 := by
  obtain ⟨l0, D0, cy0, ax0⟩ := X0
  intro mi c hc
  have e : conAt 377 = some (170, c377) := rfl
  rw [e] at hc
  obtain ⟨rfl, rfl⟩ := Prod.mk.inj (Option.some.inj hc)
  have e2 : mt 170 = (yX12_set, cX12_set, 4, none) := rfl
  rw [e2]
  have h := chk_ok (l0 := l0) (D0 := D0) (cy0 := cy0) (ax0 := ax0) (y := yX12_set) (cc := cX12_set) (ret := none) k377 (mk_ok jX12_set fX12_ok lX12_ok kX12_ok kkX12_ok H) rfl pnX12 nrV (fun h => by cases h) rfl
  exact h

/-! X12_set (('k', 200), ('n',), ('c', 6), ('n',)) -/
def u378 : List (Nat × TP × EX × Nat × Nat) := []
theorem k378 : chk (mkD iX12_set fX12 lX12 kX12 kkX12 378 [] c378 false 4 u378) 4000 = true := by decide +kernel
theorem m378 {X0 : zC0} (H : ∀ j, j < 378 → CMj X0 j) : CMj X0 378 := by
  obtain ⟨l0, D0, cy0, ax0⟩ := X0
  intro mi c hc
  have e : conAt 378 = some (170, c378) := rfl
  rw [e] at hc
  obtain ⟨rfl, rfl⟩ := Prod.mk.inj (Option.some.inj hc)
  have e2 : mt 170 = (yX12_set, cX12_set, 4, none) := rfl
  rw [e2]
  have h := chk_ok (l0 := l0) (D0 := D0) (cy0 := cy0) (ax0 := ax0) (y := yX12_set) (cc := cX12_set) (ret := none) k378 (mk_ok jX12_set fX12_ok lX12_ok kX12_ok kkX12_ok H) rfl pnX12 nrV (fun h => by cases h) rfl
  exact h

/-! X12_person (('k', 200), ('n',), ('n',), ('n',), ('n',)) -/
def u379 : List (Nat × TP × EX × Nat × Nat) := [(123, ([(0, (2, 0, (0, []))), (1, (0, 0, (0, [(1, 0)]))), (2, (0, 0, (0, [(1, 1)]))), (3, (0, 0, (0, [(1, 2)]))), (4, (0, 0, (0, [(1, 3)]))), (5, (0, 0, (0, [(1, 4)]))), (6, (0, 0, (0, [(1, 6)])))], [], ([(1, 99), (0, 99), (0, 5), (0, 999), (0, 7), (1, 6), (0, 1000)], [((-1), [((-1), 2), (1, 5)]), ((-1), [(1, 6), (1, 5), ((-1), 2)])], [], [200], [((201, (64, [(7, 4)])), (0, [(1, 3)])), ((201, (1, [])), (0, [(1, 4)])), ((201, (0, [])), (0, [(1, 5)]))], [], []), [(0, 5, (0, [])), (2, 201, (0, [])), (0, 6, (0, []))], []), (1000, [((-1), 6)]), 0, 0)]
theorem k379 : chk (mkD iX12_person fX12 lX12 kX12 kkX12 379 [(4, [290]), (14, [290]), (22, [332]), (34, [290]), (66, [375]), (74, [376]), (82, [361]), (91, [365]), (99, [364]), (107, [377]), (117, [378])] c379 false 7 u379) 4000 = true := by decide +kernel
theorem m379 {X0 : zC0} (H : ∀ j, j < 379 → CMj X0 j) : CMj X0 379 := by
  obtain ⟨l0, D0, cy0, ax0⟩ := X0
  intro mi c hc
  have e : conAt 379 = some (158, c379) := rfl
  rw [e] at hc
  obtain ⟨rfl, rfl⟩ := Prod.mk.inj (Option.some.inj hc)
  have e2 : mt 158 = (yX12_person, cX12_person, 7, (some .int)) := rfl
  rw [e2]
  have h := chk_ok (l0 := l0) (D0 := D0) (cy0 := cy0) (ax0 := ax0) (y := yX12_person) (cc := cX12_person) (ret := (some .int)) k379 (mk_ok jX12_person fX12_ok lX12_ok kX12_ok kkX12_ok H) ⟨_, rfl⟩ pnX12 nrI (fun h => by cases h) rfl
  exact h

/-! X12_work (('k', 200), ('n',), ('n',)) -/
def u380 : List (Nat × TP × EX × Nat × Nat) := []
theorem k380 : chk (mkD iX12_work fX12 lX12 kX12 kkX12 380 [(2, [331]), (12, [348]), (21, [299]), (31, [300]), (38, [364])] c380 true 3 u380) 4000 = true := by decide +kernel
theorem m380 {X0 : zC0} (H : ∀ j, j < 380 → CMj X0 j) : CMj X0 380 := by
  obtain ⟨l0, D0, cy0, ax0⟩ := X0
  intro mi c hc
  have e : conAt 380 = some (200, c380) := rfl
  rw [e] at hc
  obtain ⟨rfl, rfl⟩ := Prod.mk.inj (Option.some.inj hc)
  have e2 : mt 200 = (yX12_work, cX12_work, 3, (some .boolean)) := rfl
  rw [e2]
  have h := chk_ok (l0 := l0) (D0 := D0) (cy0 := cy0) (ax0 := ax0) (y := yX12_work) (cc := cX12_work) (ret := (some .boolean)) k380 (mk_ok jX12_work fX12_ok lX12_ok kX12_ok kkX12_ok H) ⟨_, rfl⟩ pnX12 (fun h => by cases h) (fun _ => rfl) rfl
  exact h

/-! X12_shake (('k', 200), ('n',), ('n',)) -/
def u381 : List (Nat × TP × EX × Nat × Nat) := []
theorem k381 : chk (mkD iX12_shake fX12 lX12 kX12 kkX12 381 [(3, [336]), (12, [300]), (18, [366]), (24, [298])] c381 false 3 u381) 4000 = true := by decide +kernel
theorem m381 {X0 : zC0} (H : ∀ j, j < 381 → CMj X0 j) : CMj X0 381 := by
  obtain ⟨l0, D0, cy0, ax0⟩ := X0
  intro mi c hc
  have e : conAt 381 = some (172, c381) := rfl
  rw [e] at hc
  obtain ⟨rfl, rfl⟩ := Prod.mk.inj (Option.some.inj hc)
  have e2 : mt 172 = (yX12_shake, cX12_shake, 3, (some .int)) := rfl
  rw [e2]
  have h := chk_ok (l0 := l0) (D0 := D0) (cy0 := cy0) (ax0 := ax0) (y := yX12_shake) (cc := cX12_shake) (ret := (some .int)) k381 (mk_ok jX12_shake fX12_ok lX12_ok kX12_ok kkX12_ok H) ⟨_, rfl⟩ pnX12 nrI (fun h => by cases h) rfl
  exact h

/-! X12_steal (('k', 200), ('n',), ('n',), ('n',)) -/
def u382 : List (Nat × TP × EX × Nat × Nat) := []
theorem k382 : chk (mkD iX12_steal fX12 lX12 kX12 kkX12 382 [(4, [290]), (14, [337]), (23, [300]), (30, [367]), (36, [298])] c382 false 4 u382) 4000 = true := by decide +kernel
theorem m382 {X0 : zC0} (H : ∀ j, j < 382 → CMj X0 j) : CMj X0 382 := by
  obtain ⟨l0, D0, cy0, ax0⟩ := X0
  intro mi c hc
  have e : conAt 382 = some (177, c382) := rfl
  rw [e] at hc
  obtain ⟨rfl, rfl⟩ := Prod.mk.inj (Option.some.inj hc)
  have e2 : mt 177 = (yX12_steal, cX12_steal, 4, (some .int)) := rfl
  rw [e2]
  have h := chk_ok (l0 := l0) (D0 := D0) (cy0 := cy0) (ax0 := ax0) (y := yX12_steal) (cc := cX12_steal) (ret := (some .int)) k382 (mk_ok jX12_steal fX12_ok lX12_ok kX12_ok kkX12_ok H) ⟨_, rfl⟩ pnX12 nrI (fun h => by cases h) rfl
  exact h

/-! X12_pour (('k', 200), ('n',), ('n',)) -/
def u383 : List (Nat × TP × EX × Nat × Nat) := []
theorem k383 : chk (mkD iX12_pour fX12 lX12 kX12 kkX12 383 [(5, [290]), (23, [332]), (32, [300]), (48, [312]), (54, [294])] c383 false 3 u383) 4000 = true := by decide +kernel
theorem m383 {X0 : zC0} (H : ∀ j, j < 383 → CMj X0 j) : CMj X0 383 := by
  obtain ⟨l0, D0, cy0, ax0⟩ := X0
  intro mi c hc
  have e : conAt 383 = some (161, c383) := rfl
  rw [e] at hc
  obtain ⟨rfl, rfl⟩ := Prod.mk.inj (Option.some.inj hc)
  have e2 : mt 161 = (yX12_pour, cX12_pour, 3, (some .int)) := rfl
  rw [e2]
  have h := chk_ok (l0 := l0) (D0 := D0) (cy0 := cy0) (ax0 := ax0) (y := yX12_pour) (cc := cX12_pour) (ret := (some .int)) k383 (mk_ok jX12_pour fX12_ok lX12_ok kX12_ok kkX12_ok H) ⟨_, rfl⟩ pnX12 nrI (fun h => by cases h) rfl
  exact h

/-! X12_isPlayed (('k', 200), ('n',)) -/
def u384 : List (Nat × TP × EX × Nat × Nat) := []
theorem k384 : chk (mkD iX12_isPlayed fX12 lX12 kX12 kkX12 384 [(89, [349]), (104, [374]), (114, [379]), (129, [380]), (136, [362]), (143, [381]), (160, [382]), (175, [383]), (189, [321])] c384 true 5 u384) 4000 = true := by decide +kernel
theorem m384 {X0 : zC0} (H : ∀ j, j < 384 → CMj X0 j) : CMj X0 384 := by
  obtain ⟨l0, D0, cy0, ax0⟩ := X0
  intro mi c hc
  have e : conAt 384 = some (130, c384) := rfl
  rw [e] at hc
  obtain ⟨rfl, rfl⟩ := Prod.mk.inj (Option.some.inj hc)
  have e2 : mt 130 = (yX12_isPlayed, cX12_isPlayed, 5, (some .boolean)) := rfl
  rw [e2]
  have h := chk_ok (l0 := l0) (D0 := D0) (cy0 := cy0) (ax0 := ax0) (y := yX12_isPlayed) (cc := cX12_isPlayed) (ret := (some .boolean)) k384 (mk_ok jX12_isPlayed fX12_ok lX12_ok kX12_ok kkX12_ok H) ⟨_, rfl⟩ pnX12 (fun h => by cases h) (fun _ => rfl) rfl
  exact h

/-! X12_isSign (('n',),) -/
def u385 : List (Nat × TP × EX × Nat × Nat) := []
theorem k385 : chk (mkD iX12_isSign fX12 lX12 kX12 kkX12 385 [] c385 true 1 u385) 4000 = true := by decide +kernel
theorem m385 {X0 : zC0} (H : ∀ j, j < 385 → CMj X0 j) : CMj X0 385 := by
  obtain ⟨l0, D0, cy0, ax0⟩ := X0
  intro mi c hc
  have e : conAt 385 = some (131, c385) := rfl
  rw [e] at hc
  obtain ⟨rfl, rfl⟩ := Prod.mk.inj (Option.some.inj hc)
  have e2 : mt 131 = (yX12_isSign, cX12_isSign, 1, (some .boolean)) := rfl
  rw [e2]
  have h := chk_ok (l0 := l0) (D0 := D0) (cy0 := cy0) (ax0 := ax0) (y := yX12_isSign) (cc := cX12_isSign) (ret := (some .boolean)) k385 (mk_ok jX12_isSign fX12_ok lX12_ok kX12_ok kkX12_ok H) ⟨_, rfl⟩ pnX12 (fun h => by cases h) (fun _ => rfl) rfl
  exact h

/-! X12_isWord (('k', 200), ('n',)) -/
def u386 : List (Nat × TP × EX × Nat × Nat) := []
theorem k386 : chk (mkD iX12_isWord fX12 lX12 kX12 kkX12 386 [] c386 true 3 u386) 4000 = true := by decide +kernel
theorem m386 {X0 : zC0} (H : ∀ j, j < 386 → CMj X0 j) : CMj X0 386 := by
  obtain ⟨l0, D0, cy0, ax0⟩ := X0
  intro mi c hc
  have e : conAt 386 = some (132, c386) := rfl
  rw [e] at hc
  obtain ⟨rfl, rfl⟩ := Prod.mk.inj (Option.some.inj hc)
  have e2 : mt 132 = (yX12_isWord, cX12_isWord, 3, (some .boolean)) := rfl
  rw [e2]
  have h := chk_ok (l0 := l0) (D0 := D0) (cy0 := cy0) (ax0 := ax0) (y := yX12_isWord) (cc := cX12_isWord) (ret := (some .boolean)) k386 (mk_ok jX12_isWord fX12_ok lX12_ok kX12_ok kkX12_ok H) ⟨_, rfl⟩ pnX12 (fun h => by cases h) (fun _ => rfl) rfl
  exact h

/-! X12_layWorkers (('k', 200), ('n',), ('n',)) -/
def u387 : List (Nat × TP × EX × Nat × Nat) := [(54, ([(0, (2, 0, (0, []))), (1, (0, 0, (0, [(1, 0)]))), (2, (0, 0, (0, [(1, 1)]))), (3, (0, 0, (0, [(1, 4)]))), (4, (0, 0, (0, [(1, 5)])))], [], ([(1, 255), (1, 63), (0, 6), (0, 8), (0, 8), (0, 8)], [(0, [(8, 2), ((-1), 3)]), (0, [(1, 3), ((-1), 4)]), (0, [(1, 3), ((-1), 5)]), (0, [(1, 5), ((-1), 4)]), (0, [(1, 4), ((-1), 3), (8, 2)]), (0, [(1, 5), ((-1), 3), (8, 2)])], [], [200], [((201, (0, [])), (0, [(1, 2)])), ((201, (1, [])), (0, [(1, 3)]))], [], []), [(2, 201, (0, [])), (2, 201, (1, [])), (0, 3, (0, [])), (0, 4, (0, []))], []), (15, [((-1), 5)]), 0, 0), (99, ([(0, (2, 0, (0, []))), (1, (0, 0, (0, [(1, 0)]))), (2, (0, 0, (0, [(1, 1)]))), (3, (0, 0, (0, [(1, 4)]))), (4, (0, 0, (0, [(1, 5)])))], [], ([(1, 255), (1, 63), (0, 6), (0, 8), (0, 6), (0, 6)], [(0, [((-1), 3), (8, 2)]), (0, [(1, 2), ((-1), 4)]), (0, [(1, 2), ((-1), 5)]), (0, [(1, 5), ((-1), 4)]), (0, [(1, 4), (8, 2), ((-1), 3)]), (0, [(1, 5), (8, 2), ((-1), 3)]), (8, [((-1), 4), ((-1), 3), (8, 2)]), (8, [((-1), 5), ((-1), 3), (8, 2)])], [], [200], [((201, (0, [])), (0, [(1, 2)])), ((201, (1, [])), (0, [(1, 3)]))], [], []), [(2, 201, (0, [])), (2, 201, (1, [])), (0, 3, (0, [])), (0, 4, (0, []))], []), (6, [((-1), 5)]), 0, 0)]
theorem k387 : chk (mkD iX12_layWorkers fX12 lX12 kX12 kkX12 387 [(12, [290]), (30, [290]), (37, [325]), (41, [325]), (68, [334]), (113, [334])] c387 true 5 u387) 4000 = true := by decide +kernel
theorem m387 {X0 : zC0} (H : ∀ j, j < 387 → CMj X0 j) : CMj X0 387 := by
  obtain ⟨l0, D0, cy0, ax0⟩ := X0
  intro mi c hc
  have e : conAt 387 = some (135, c387) := rfl
  rw [e] at hc
  obtain ⟨rfl, rfl⟩ := Prod.mk.inj (Option.some.inj hc)
  have e2 : mt 135 = (yX12_layWorkers, cX12_layWorkers, 5, (some .boolean)) := rfl
  rw [e2]
  have h := chk_ok (l0 := l0) (D0 := D0) (cy0 := cy0) (ax0 := ax0) (y := yX12_layWorkers) (cc := cX12_layWorkers) (ret := (some .boolean)) k387 (mk_ok jX12_layWorkers fX12_ok lX12_ok kX12_ok kkX12_ok H) ⟨_, rfl⟩ pnX12 (fun h => by cases h) (fun _ => rfl) rfl
  exact h

/-! X12_tradedAt (('k', 200), ('n',)) -/
def u388 : List (Nat × TP × EX × Nat × Nat) := [(7, ([(0, (2, 0, (0, []))), (1, (0, 0, (0, [(1, 0)]))), (2, (0, 0, (0, [(1, 1)]))), (3, (0, 0, (0, [(1, 2)]))), (4, (0, 0, (0, [(1, 3)])))], [], ([(0, 99), ((-2147483648), 2147483647), ((-2147483648), 2147483647), (0, 10)], [], [], [200], [], [], []), [(0, 2, (0, [])), (0, 3, (0, [])), (0, 4, (0, []))], []), (10, [((-1), 3)]), 0, 0)]
theorem k388 : chk (mkD iX12_tradedAt fX12 lX12 kX12 kkX12 388 [] c388 false 6 u388) 4000 = true := by decide +kernel
theorem m388 {X0 : zC0} (H : ∀ j, j < 388 → CMj X0 j) : CMj X0 388 := by
  obtain ⟨l0, D0, cy0, ax0⟩ := X0
  intro mi c hc
  have e : conAt 388 = some (187, c388) := rfl
  rw [e] at hc
  obtain ⟨rfl, rfl⟩ := Prod.mk.inj (Option.some.inj hc)
  have e2 : mt 187 = (yX12_tradedAt, cX12_tradedAt, 6, (some .int)) := rfl
  rw [e2]
  have h := chk_ok (l0 := l0) (D0 := D0) (cy0 := cy0) (ax0 := ax0) (y := yX12_tradedAt) (cc := cX12_tradedAt) (ret := (some .int)) k388 (mk_ok jX12_tradedAt fX12_ok lX12_ok kX12_ok kkX12_ok H) ⟨_, rfl⟩ pnX12 nrI (fun h => by cases h) rfl
  exact h

/-! X12_market (('k', 200), ('n',)) -/
def u389 : List (Nat × TP × EX × Nat × Nat) := [(26, ([(0, (2, 0, (0, []))), (1, (0, 0, (0, [(1, 0)]))), (2, (0, 0, (0, [(1, 1)]))), (3, (0, 0, (0, [(1, 2)])))], [], ([((-1), (-1)), (0, 99), (1, 100)], [(0, [(1, 2), ((-1), 1)]), ((-1), [(1, 2), ((-1), 1)])], [], [200], [], [], []), [(0, 2, (0, [])), (0, 3, (0, []))], []), (100, [((-1), 2)]), 0, 0)]
theorem k389 : chk (mkD iX12_market fX12 lX12 kX12 kkX12 389 [(4, [290]), (18, [388]), (34, [388]), (39, [388])] c389 false 4 u389) 4000 = true := by decide +kernel
theorem m389 {X0 : zC0} (H : ∀ j, j < 389 → CMj X0 j) : CMj X0 389 := by
  obtain ⟨l0, D0, cy0, ax0⟩ := X0
  intro mi c hc
  have e : conAt 389 = some (136, c389) := rfl
  rw [e] at hc
  obtain ⟨rfl, rfl⟩ := Prod.mk.inj (Option.some.inj hc)
  have e2 : mt 136 = (yX12_market, cX12_market, 4, (some .int)) := rfl
  rw [e2]
  have h := chk_ok (l0 := l0) (D0 := D0) (cy0 := cy0) (ax0 := ax0) (y := yX12_market) (cc := cX12_market) (ret := (some .int)) k389 (mk_ok jX12_market fX12_ok lX12_ok kX12_ok kkX12_ok H) ⟨_, rfl⟩ pnX12 nrI (fun h => by cases h) rfl
  exact h

/-! X12_missing (('k', 200), ('n',), ('n',), ('n',)) -/
def u391 : List (Nat × TP × EX × Nat × Nat) := []
theorem k391 : chk (mkD iX12_missing fX12 lX12 kX12 kkX12 391 [(17, [331]), (28, [290]), (39, [290])] c391 false 5 u391) 4000 = true := by decide +kernel
theorem m391 {X0 : zC0} (H : ∀ j, j < 391 → CMj X0 j) : CMj X0 391 := by
  obtain ⟨l0, D0, cy0, ax0⟩ := X0
  intro mi c hc
  have e : conAt 391 = some (138, c391) := rfl
  rw [e] at hc
  obtain ⟨rfl, rfl⟩ := Prod.mk.inj (Option.some.inj hc)
  have e2 : mt 138 = (yX12_missing, cX12_missing, 5, (some .int)) := rfl
  rw [e2]
  have h := chk_ok (l0 := l0) (D0 := D0) (cy0 := cy0) (ax0 := ax0) (y := yX12_missing) (cc := cX12_missing) (ret := (some .int)) k391 (mk_ok jX12_missing fX12_ok lX12_ok kX12_ok kkX12_ok H) ⟨_, rfl⟩ pnX12 nrI (fun h => by cases h) rfl
  exact h

/-! X12_w2 (('n',), ('n',)) -/
def u392 : List (Nat × TP × EX × Nat × Nat) := []
theorem k392 : chk (mkD iX12_w2 fX12 lX12 kX12 kkX12 392 [] c392 false 2 u392) 4000 = true := by decide +kernel
theorem m392 {X0 : zC0} (H : ∀ j, j < 392 → CMj X0 j) : CMj X0 392 := by
  obtain ⟨l0, D0, cy0, ax0⟩ := X0
  intro mi c hc
  have e : conAt 392 = some (190, c392) := rfl
  rw [e] at hc
  obtain ⟨rfl, rfl⟩ := Prod.mk.inj (Option.some.inj hc)
  have e2 : mt 190 = (yX12_w2, cX12_w2, 2, (some .long)) := rfl
  rw [e2]
  have h := chk_ok (l0 := l0) (D0 := D0) (cy0 := cy0) (ax0 := ax0) (y := yX12_w2) (cc := cX12_w2) (ret := (some .long)) k392 (mk_ok jX12_w2 fX12_ok lX12_ok kX12_ok kkX12_ok H) rfl pnX12 nrJ (fun h => by cases h) rfl
  exact h

/-! X12_w3 (('n',), ('n',), ('n',)) -/
def u393 : List (Nat × TP × EX × Nat × Nat) := []
theorem k393 : chk (mkD iX12_w3 fX12 lX12 kX12 kkX12 393 [(2, [392])] c393 false 3 u393) 4000 = true := by decide +kernel
theorem m393 {X0 : zC0} (H : ∀ j, j < 393 → CMj X0 j) : CMj X0 393 := by
  obtain ⟨l0, D0, cy0, ax0⟩ := X0
  intro mi c hc
  have e : conAt 393 = some (191, c393) := rfl
  rw [e] at hc
  obtain ⟨rfl, rfl⟩ := Prod.mk.inj (Option.some.inj hc)
  have e2 : mt 191 = (yX12_w3, cX12_w3, 3, (some .long)) := rfl
  rw [e2]
  have h := chk_ok (l0 := l0) (D0 := D0) (cy0 := cy0) (ax0 := ax0) (y := yX12_w3) (cc := cX12_w3) (ret := (some .long)) k393 (mk_ok jX12_w3 fX12_ok lX12_ok kX12_ok kkX12_ok H) rfl pnX12 nrJ (fun h => by cases h) rfl
  exact h

/-! X12_w4 (('n',), ('n',), ('n',), ('n',)) -/
def u394 : List (Nat × TP × EX × Nat × Nat) := []
theorem k394 : chk (mkD iX12_w4 fX12 lX12 kX12 kkX12 394 [(3, [393])] c394 false 4 u394) 4000 = true := by decide +kernel
theorem m394 {X0 : zC0} (H : ∀ j, j < 394 → CMj X0 j) : CMj X0 394 := by
  obtain ⟨l0, D0, cy0, ax0⟩ := X0
  intro mi c hc
  have e : conAt 394 = some (192, c394) := rfl
  rw [e] at hc
  obtain ⟨rfl, rfl⟩ := Prod.mk.inj (Option.some.inj hc)
  have e2 : mt 192 = (yX12_w4, cX12_w4, 4, (some .long)) := rfl
  rw [e2]
  have h := chk_ok (l0 := l0) (D0 := D0) (cy0 := cy0) (ax0 := ax0) (y := yX12_w4) (cc := cX12_w4) (ret := (some .long)) k394 (mk_ok jX12_w4 fX12_ok lX12_ok kX12_ok kkX12_ok H) rfl pnX12 nrJ (fun h => by cases h) rfl
  exact h

/-! X12_w5 (('n',), ('n',), ('n',), ('n',), ('n',)) -/
def u395 : List (Nat × TP × EX × Nat × Nat) := []
theorem k395 : chk (mkD iX12_w5 fX12 lX12 kX12 kkX12 395 [(4, [394])] c395 false 5 u395) 4000 = true := by decide +kernel
theorem m395 {X0 : zC0} (H : ∀ j, j < 395 → CMj X0 j) : CMj X0 395 := by
  obtain ⟨l0, D0, cy0, ax0⟩ := X0
  intro mi c hc
  have e : conAt 395 = some (193, c395) := rfl
  rw [e] at hc
  obtain ⟨rfl, rfl⟩ := Prod.mk.inj (Option.some.inj hc)
  have e2 : mt 193 = (yX12_w5, cX12_w5, 5, (some .long)) := rfl
  rw [e2]
  have h := chk_ok (l0 := l0) (D0 := D0) (cy0 := cy0) (ax0 := ax0) (y := yX12_w5) (cc := cX12_w5) (ret := (some .long)) k395 (mk_ok jX12_w5 fX12_ok lX12_ok kX12_ok kkX12_ok H) rfl pnX12 nrJ (fun h => by cases h) rfl
  exact h

/-! X12_nameOf (('k', 200),) -/
def u396 : List (Nat × TP × EX × Nat × Nat) := []
theorem k396 : chk (mkD iX12_nameOf fX12 lX12 kX12 kkX12 396 [(22, [394]), (43, [394]), (62, [393]), (83, [394]), (102, [393]), (121, [393]), (142, [394]), (166, [395]), (188, [394]), (208, [393]), (232, [394])] c396 false 1 u396) 4000 = true := by decide +kernel
theorem m396 {X0 : zC0} (H : ∀ j, j < 396 → CMj X0 j) : CMj X0 396 := by
  obtain ⟨l0, D0, cy0, ax0⟩ := X0
  intro mi c hc
  have e : conAt 396 = some (140, c396) := rfl
  rw [e] at hc
  obtain ⟨rfl, rfl⟩ := Prod.mk.inj (Option.some.inj hc)
  have e2 : mt 140 = (yX12_nameOf, cX12_nameOf, 1, (some .int)) := rfl
  rw [e2]
  have h := chk_ok (l0 := l0) (D0 := D0) (cy0 := cy0) (ax0 := ax0) (y := yX12_nameOf) (cc := cX12_nameOf) (ret := (some .int)) k396 (mk_ok jX12_nameOf fX12_ok lX12_ok kX12_ok kkX12_ok H) ⟨_, rfl⟩ pnX12 nrI (fun h => by cases h) rfl
  exact h

/-! X12_wasAt (('k', 200), ('n',), ('n',)) -/
def u397 : List (Nat × TP × EX × Nat × Nat) := []
theorem k397 : chk (mkD iX12_wasAt fX12 lX12 kX12 kkX12 397 [(18, [290])] c397 false 3 u397) 4000 = true := by decide +kernel
theorem m397 {X0 : zC0} (H : ∀ j, j < 397 → CMj X0 j) : CMj X0 397 := by
  obtain ⟨l0, D0, cy0, ax0⟩ := X0
  intro mi c hc
  have e : conAt 397 = some (195, c397) := rfl
  rw [e] at hc
  obtain ⟨rfl, rfl⟩ := Prod.mk.inj (Option.some.inj hc)
  have e2 : mt 195 = (yX12_wasAt, cX12_wasAt, 3, (some .int)) := rfl
  rw [e2]
  have h := chk_ok (l0 := l0) (D0 := D0) (cy0 := cy0) (ax0 := ax0) (y := yX12_wasAt) (cc := cX12_wasAt) (ret := (some .int)) k397 (mk_ok jX12_wasAt fX12_ok lX12_ok kX12_ok kkX12_ok H) ⟨_, rfl⟩ pnX12 nrI (fun h => by cases h) rfl
  exact h

/-! X12_nearOf (('k', 200), ('n',)) -/
def u398 : List (Nat × TP × EX × Nat × Nat) := [(19, ([(0, (2, 0, (0, []))), (1, (0, 0, (0, [(1, 0)]))), (2, (0, 0, (114, [(3, 0)]))), (3, (0, 0, (0, [(1, 3)]))), (4, (0, 0, (0, [(1, 1)])))], [], ([(0, 5), (0, 1000), (0, 999), (0, 255)], [(0, [(1, 1), ((-1), 2)])], [], [200], [((201, (115, [(3, 0)])), (0, [(1, 2)]))], [], []), [(0, 4, (0, [])), (2, 201, (115, [(3, 0)])), (0, 3, (0, []))], []), (10009, [((-10), 1)]), 0, 0), (49, ([(0, (2, 0, (0, []))), (1, (0, 0, (0, [(1, 0)]))), (2, (0, 0, (114, [(3, 0)]))), (3, (0, 0, (0, [(1, 1)]))), (4, (0, 0, (0, [(1, 2)]))), (5, (0, 0, (0, [(1, 6)]))), (6, (0, 0, (0, [(1, 7)])))], [], ([(0, 5), (0, 255), (0, 999), (0, 7), (0, 999), (0, 999), ((-2147483648), 2147483647), (0, 8)], [(0, [((-1), 2), (1, 4)]), (0, [((-1), 5), (1, 2)]), (0, [(1, 4), ((-1), 5)]), (0, [(1, 7), (1, 4), ((-1), 2)]), (0, [(1, 7), (1, 2), ((-1), 5)])], [], [200], [((201, (114, [(3, 0)])), (0, [(1, 3)])), ((201, (116, [(3, 0)])), (0, [(1, 4)])), ((201, (115, [(3, 0)])), (0, [(1, 5)]))], [], []), [(0, 3, (0, [])), (0, 4, (0, [])), (2, 201, (114, [(3, 0)])), (2, 201, (116, [(3, 0)])), (2, 201, (115, [(3, 0)])), (0, 5, (0, [])), (0, 6, (0, []))], []), (10008, [((-1), 7), ((-10), 2)]), 0, 0)]
theorem k398 : chk (mkD iX12_nearOf fX12 lX12 kX12 kkX12 398 [(41, [397]), (82, [397])] c398 false 7 u398) 4000 = true := by decide +kernel
theorem m398 {X0 : zC0} (H : ∀ j, j < 398 → CMj X0 j) : CMj X0 398 := by
  obtain ⟨l0, D0, cy0, ax0⟩ := X0
  intro mi c hc
  have e : conAt 398 = some (142, c398) := rfl
  rw [e] at hc
  obtain ⟨rfl, rfl⟩ := Prod.mk.inj (Option.some.inj hc)
  have e2 : mt 142 = (yX12_nearOf, cX12_nearOf, 7, (some .int)) := rfl
  rw [e2]
  have h := chk_ok (l0 := l0) (D0 := D0) (cy0 := cy0) (ax0 := ax0) (y := yX12_nearOf) (cc := cX12_nearOf) (ret := (some .int)) k398 (mk_ok jX12_nearOf fX12_ok lX12_ok kX12_ok kkX12_ok H) ⟨_, rfl⟩ pnX12 nrI (fun h => by cases h) rfl
  exact h

/-! X12_near (('k', 200), ('n',)) -/
def u399 : List (Nat × TP × EX × Nat × Nat) := [(43, ([(0, (2, 0, (0, []))), (1, (0, 0, (0, [(1, 0)]))), (2, (0, 0, (0, [(1, 1)]))), (3, (0, 0, (0, [(1, 4)])))], [], ([((-1), (-1)), ((-1), 255), (0, 8), (0, 6), (0, 6)], [(0, [(1, 3), ((-1), 4)]), ((-1), [((-1), 4), ((-1), 0), (1, 3)])], [], [200], [((201, (1, [])), (0, [(1, 2)])), ((201, (10, [])), (0, [(1, 3)]))], [], []), [(0, 2, (0, [])), (2, 201, (1, [])), (2, 201, (10, [])), (0, 3, (0, []))], []), (6, [((-1), 4)]), 0, 0)]
theorem k399 : chk (mkD iX12_near fX12 lX12 kX12 kkX12 399 [(11, [290]), (26, [398]), (57, [398])] c399 false 4 u399) 4000 = true := by decide +kernel
theorem m399 {X0 : zC0} (H : ∀ j, j < 399 → CMj X0 j) : CMj X0 399 := by
  obtain ⟨l0, D0, cy0, ax0⟩ := X0
  intro mi c hc
  have e : conAt 399 = some (141, c399) := rfl
  rw [e] at hc
  obtain ⟨rfl, rfl⟩ := Prod.mk.inj (Option.some.inj hc)
  have e2 : mt 141 = (yX12_near, cX12_near, 4, (some .int)) := rfl
  rw [e2]
  have h := chk_ok (l0 := l0) (D0 := D0) (cy0 := cy0) (ax0 := ax0) (y := yX12_near) (cc := cX12_near) (ret := (some .int)) k399 (mk_ok jX12_near fX12_ok lX12_ok kX12_ok kkX12_ok H) ⟨_, rfl⟩ pnX12 nrI (fun h => by cases h) rfl
  exact h

/-! X12_nextToken (('k', 200),) -/
def u400 : List (Nat × TP × EX × Nat × Nat) := [(0, ([(0, (2, 0, (0, [])))], [], ([(0, 299), (1, 300), (10, 32), (1, 300)], [((-1), [(1, 1), ((-1), 0)]), (0, [(1, 1), ((-1), 3)]), (0, [(1, 3), ((-1), 0)]), ((-1), [(1, 3), ((-1), 0)])], [], [200], [((200, (7, [])), (0, [(1, 3)])), ((200, (4, [])), (0, [(1, 1)])), ((204, (0, [(1, 0)])), (0, [(1, 2)]))], [], []), [(2, 200, (4, [])), (2, 204, (0, [(1, 0)])), (2, 200, (7, []))], []), (900, [((-1), 3)]), 0, 0), (99, ([(0, (2, 0, (0, []))), (1, (0, 0, (0, [(1, 1)])))], [], ([(0, 299), (48, 57), (1, 300), (10, 57), ((-2147483648), 2147483647), (0, 299), (0, 299)], [((-1), [(1, 2), ((-1), 0)]), (0, [(1, 1), ((-1), 3)]), (0, [(1, 2), ((-1), 5)]), ((-1), [(1, 2), ((-1), 5)]), (0, [(1, 2), ((-1), 6)]), ((-1), [(1, 2), ((-1), 6)]), (0, [(1, 5), ((-1), 0)]), (0, [(1, 6), ((-1), 0)]), (0, [(1, 6), ((-1), 5)])], [], [200], [((200, (10, [])), (0, [(1, 4)])), ((200, (9, [])), (1, [])), ((200, (8, [])), (0, [(1, 5)])), ((200, (4, [])), (0, [(1, 2)])), ((204, (0, [(1, 0)])), (0, [(1, 3)])), ((200, (7, [])), (0, [(1, 6)]))], [], []), [(0, 1, (0, [])), (2, 200, (4, [])), (2, 204, (0, [(1, 0)])), (2, 200, (10, [])), (2, 200, (8, [])), (2, 200, (7, []))], []), (599, [((-1), 6)]), 0, 0), (182, ([(0, (2, 0, (0, []))), (1, (0, 0, (0, [(1, 1)])))], [], ([(0, 299), (65, 122), (1, 300), (10, 122), (0, 299), (0, 299)], [((-1), [(1, 2), ((-1), 0)]), (0, [(1, 1), ((-1), 3)]), (0, [(1, 2), ((-1), 4)]), ((-1), [(1, 2), ((-1), 4)]), (0, [(1, 2), ((-1), 5)]), ((-1), [(1, 2), ((-1), 5)]), (0, [(1, 4), ((-1), 0)]), (0, [(1, 5), ((-1), 0)]), (0, [(1, 5), ((-1), 4)])], [], [200], [((200, (9, [])), (2, [])), ((200, (8, [])), (0, [(1, 4)])), ((200, (4, [])), (0, [(1, 2)])), ((204, (0, [(1, 0)])), (0, [(1, 3)])), ((200, (7, [])), (0, [(1, 5)]))], [], []), [(0, 1, (0, [])), (2, 200, (4, [])), (2, 204, (0, [(1, 0)])), (2, 200, (8, [])), (2, 200, (7, []))], []), (299, [((-1), 5)]), 0, 0)]
theorem k400 : chk (mkD iX12_nextToken fX12 lX12 kX12 kkX12 400 [(5, [329]), (18, [329]), (52, [329]), (69, [371]), (90, [329]), (93, [371]), (128, [329]), (152, [372]), (173, [329]), (176, [372]), (213, [329]), (236, [385]), (277, [329])] c400 false 2 u400) 4000 = true := by decide +kernel
theorem m400 {X0 : zC0} (H : ∀ j, j < 400 → CMj X0 j) : CMj X0 400 := by
  obtain ⟨l0, D0, cy0, ax0⟩ := X0
  intro mi c hc
  have e : conAt 400 = some (146, c400) := rfl
  rw [e] at hc
  obtain ⟨rfl, rfl⟩ := Prod.mk.inj (Option.some.inj hc)
  have e2 : mt 146 = (yX12_nextToken, cX12_nextToken, 2, none) := rfl
  rw [e2]
  have h := chk_ok (l0 := l0) (D0 := D0) (cy0 := cy0) (ax0 := ax0) (y := yX12_nextToken) (cc := cX12_nextToken) (ret := none) k400 (mk_ok jX12_nextToken fX12_ok lX12_ok kX12_ok kkX12_ok H) rfl pnX12 nrV (fun h => by cases h) rfl
  exact h

/-! X12_peopleOn (('k', 200), ('n',)) -/
def u401 : List (Nat × TP × EX × Nat × Nat) := [(4, ([(0, (2, 0, (0, []))), (1, (0, 0, (0, [(1, 0)]))), (2, (0, 0, (0, [(1, 1)]))), (3, (0, 0, (0, [(1, 2)])))], [], ([(0, 5), (0, 255), (0, 8)], [], [], [200], [], [], []), [(0, 2, (0, [])), (0, 3, (0, []))], []), (8, [((-1), 2)]), 0, 0)]
theorem k401 : chk (mkD iX12_peopleOn fX12 lX12 kX12 kkX12 401 [(18, [297])] c401 false 4 u401) 4000 = true := by decide +kernel
theorem m401 {X0 : zC0} (H : ∀ j, j < 401 → CMj X0 j) : CMj X0 401 := by
  obtain ⟨l0, D0, cy0, ax0⟩ := X0
  intro mi c hc
  have e : conAt 401 = some (157, c401) := rfl
  rw [e] at hc
  obtain ⟨rfl, rfl⟩ := Prod.mk.inj (Option.some.inj hc)
  have e2 : mt 157 = (yX12_peopleOn, cX12_peopleOn, 4, (some .int)) := rfl
  rw [e2]
  have h := chk_ok (l0 := l0) (D0 := D0) (cy0 := cy0) (ax0 := ax0) (y := yX12_peopleOn) (cc := cX12_peopleOn) (ret := (some .int)) k401 (mk_ok jX12_peopleOn fX12_ok lX12_ok kX12_ok kkX12_ok H) ⟨_, rfl⟩ pnX12 nrI (fun h => by cases h) rfl
  exact h

/-! X12_ofField (('k', 200), ('n',), ('n',)) -/
def u402 : List (Nat × TP × EX × Nat × Nat) := []
theorem k402 : chk (mkD iX12_ofField fX12 lX12 kX12 kkX12 402 [(2, [332]), (12, [290]), (28, [401]), (48, [333, 341])] c402 false 3 u402) 4000 = true := by decide +kernel
theorem m402 {X0 : zC0} (H : ∀ j, j < 402 → CMj X0 j) : CMj X0 402 := by
  obtain ⟨l0, D0, cy0, ax0⟩ := X0
  intro mi c hc
  have e : conAt 402 = some (147, c402) := rfl
  rw [e] at hc
  obtain ⟨rfl, rfl⟩ := Prod.mk.inj (Option.some.inj hc)
  have e2 : mt 147 = (yX12_ofField, cX12_ofField, 3, (some .int)) := rfl
  rw [e2]
  have h := chk_ok (l0 := l0) (D0 := D0) (cy0 := cy0) (ax0 := ax0) (y := yX12_ofField) (cc := cX12_ofField) (ret := (some .int)) k402 (mk_ok jX12_ofField fX12_ok lX12_ok kX12_ok kkX12_ok H) ⟨_, rfl⟩ pnX12 nrI (fun h => by cases h) rfl
  exact h

/-! X12_ofPerson (('k', 200), ('n',), ('n',)) -/
def u403 : List (Nat × TP × EX × Nat × Nat) := []
theorem k403 : chk (mkD iX12_ofPerson fX12 lX12 kX12 kkX12 403 [(2, [331]), (14, [290]), (23, [360]), (47, [297]), (50, [311]), (60, [290]), (72, [397])] c403 false 3 u403) 4000 = true := by decide +kernel
theorem m403 {X0 : zC0} (H : ∀ j, j < 403 → CMj X0 j) : CMj X0 403 := by
  obtain ⟨l0, D0, cy0, ax0⟩ := X0
  intro mi c hc
  have e : conAt 403 = some (148, c403) := rfl
  rw [e] at hc
  obtain ⟨rfl, rfl⟩ := Prod.mk.inj (Option.some.inj hc)
  have e2 : mt 148 = (yX12_ofPerson, cX12_ofPerson, 3, (some .int)) := rfl
  rw [e2]
  have h := chk_ok (l0 := l0) (D0 := D0) (cy0 := cy0) (ax0 := ax0) (y := yX12_ofPerson) (cc := cX12_ofPerson) (ret := (some .int)) k403 (mk_ok jX12_ofPerson fX12_ok lX12_ok kX12_ok kkX12_ok H) ⟨_, rfl⟩ pnX12 nrI (fun h => by cases h) rfl
  exact h

/-! X12_offer (('k', 200), ('n',), ('n',), ('n',)) -/
def u404 : List (Nat × TP × EX × Nat × Nat) := []
theorem k404 : chk (mkD iX12_offer fX12 lX12 kX12 kkX12 404 [(18, [290]), (28, [290])] c404 false 5 u404) 4000 = true := by decide +kernel
theorem m404 {X0 : zC0} (H : ∀ j, j < 404 → CMj X0 j) : CMj X0 404 := by
  obtain ⟨l0, D0, cy0, ax0⟩ := X0
  intro mi c hc
  have e : conAt 404 = some (149, c404) := rfl
  rw [e] at hc
  obtain ⟨rfl, rfl⟩ := Prod.mk.inj (Option.some.inj hc)
  have e2 : mt 149 = (yX12_offer, cX12_offer, 5, (some .int)) := rfl
  rw [e2]
  have h := chk_ok (l0 := l0) (D0 := D0) (cy0 := cy0) (ax0 := ax0) (y := yX12_offer) (cc := cX12_offer) (ret := (some .int)) k404 (mk_ok jX12_offer fX12_ok lX12_ok kX12_ok kkX12_ok H) ⟨_, rfl⟩ pnX12 nrI (fun h => by cases h) rfl
  exact h

/-! X12_sweatAllFor (('k', 200), ('n',)) -/
def u405 : List (Nat × TP × EX × Nat × Nat) := [(4, ([(0, (2, 0, (0, []))), (1, (0, 0, (0, [(1, 0)]))), (2, (0, 0, (0, [(1, 2)]))), (3, (0, 0, (0, [(1, 3)])))], [], ([(0, 7), (0, 2002400000), ((-2147483648), 2147483647), (0, 8)], [], [], [200], [((0, (0, [])), (0, [(1, 1)]))], [], []), [(0, 2, (0, [])), (0, 3, (0, []))], []), (17, [((-1), 3)]), 0, 0), (56, ([(0, (2, 0, (0, []))), (1, (0, 0, (0, [(1, 0)]))), (2, (0, 0, (0, [(1, 2)]))), (3, (0, 0, (0, [(1, 4)])))], [], ([(0, 7), (0, 2002400000), ((-2147483648), 2147483647), (0, 8), (0, 8), (0, 2002400008)], [(0, [(1, 3), ((-1), 4)]), (0, [((-1), 5), (1, 1), (1, 4)]), (2002400000, [((-1), 5), (1, 4)]), (0, [((-1), 5), (1, 1), (8, 4)]), (0, [((-1), 5), (1, 1), (40, 4)]), (0, [((-1), 5), (1, 1), (240, 4)]), (0, [((-1), 5), (1, 1), (8000, 4)]), (8, [(1, 1), ((-1), 5)])], [], [200], [((201, (1, [])), (0, [(1, 3)])), ((0, (0, [])), (0, [(1, 5)]))], [], []), [(0, 2, (0, [])), (2, 201, (1, [])), (0, 3, (0, [])), (2, 0, (0, []))], []), (8, [((-1), 4)]), 0, 0)]
theorem k405 : chk (mkD iX12_sweatAllFor fX12 lX12 kX12 kkX12 405 [(19, [297]), (22, [311]), (31, [292]), (69, [298]), (75, [303]), (83, [314])] c405 false 5 u405) 4000 = true := by decide +kernel
theorem m405 {X0 : zC0} (H : ∀ j, j < 405 → CMj X0 j) : CMj X0 405 := by
  obtain ⟨l0, D0, cy0, ax0⟩ := X0
  intro mi c hc
  have e : conAt 405 = some (181, c405) := rfl
  rw [e] at hc
  obtain ⟨rfl, rfl⟩ := Prod.mk.inj (Option.some.inj hc)
  have e2 : mt 181 = (yX12_sweatAllFor, cX12_sweatAllFor, 5, (some .int)) := rfl
  rw [e2]
  have h := chk_ok (l0 := l0) (D0 := D0) (cy0 := cy0) (ax0 := ax0) (y := yX12_sweatAllFor) (cc := cX12_sweatAllFor) (ret := (some .int)) k405 (mk_ok jX12_sweatAllFor fX12_ok lX12_ok kX12_ok kkX12_ok H) ⟨_, rfl⟩ pnX12 nrI (fun h => by cases h) rfl
  exact h

/-! X12_sweatBy (('k', 200), ('n',), ('n',), ('n',)) -/
def u406 : List (Nat × TP × EX × Nat × Nat) := [(24, ([(0, (2, 0, (0, []))), (1, (0, 0, (0, [(1, 0)]))), (2, (0, 0, (0, [(1, 1)]))), (3, (0, 0, (0, [(1, 2)]))), (4, (0, 0, (0, [(1, 4)]))), (5, (0, 0, (0, [(1, 9)]))), (6, (0, 0, (0, [(1, 10)]))), (7, (0, 0, (0, [(1, 11)]))), (8, (0, 0, (0, [(1, 12)])))], [], ([(0, 7), (1, 5), (0, 1746), (0, 2001500000), (0, 5), (0, 10), (0, 12), (0, 8), (0, 6), ((-2147483648), 2147483647), (0, 1), (0, 1), (0, 5), (0, 2001500040)], [(0, [(1, 1), ((-1), 12)]), (0, [(1, 12), ((-1), 10)]), (0, [(1, 12), ((-1), 11)]), (0, [((-1), 13), (1, 3), (8, 12)]), (0, [((-1), 13), (1, 3), (40, 12)]), (0, [((-1), 13), (1, 3), (240, 12)]), (0, [((-1), 13), (1, 3), (8000, 12)]), (40, [(1, 3), ((-1), 13)])], [], [200], [((200, (38, [])), (0, [])), ((201, (12, [])), (0, [(1, 5)])), ((217, (12, [])), (0, [(1, 5)])), ((201, (11, [])), (0, [(1, 6)])), ((217, (11, [])), (0, [(1, 6)])), ((201, (1, [])), (0, [(1, 7)])), ((217, (1, [])), (0, [(1, 7)])), ((201, (0, [])), (0, [(1, 8)])), ((217, (0, [])), (0, [(1, 8)])), ((0, (0, [])), (0, [(1, 13)]))], [], []), [(0, 4, (0, [])), (2, 201, (12, [])), (2, 201, (11, [])), (2, 201, (1, [])), (2, 201, (0, [])), (0, 5, (0, [])), (0, 6, (0, [])), (0, 7, (0, [])), (0, 8, (0, [])), (2, 0, (0, []))], []), (5, [((-1), 12)]), 0, 0)]
theorem k406 : chk (mkD iX12_sweatBy fX12 lX12 kX12 kkX12 406 [(1, [324]), (7, [297]), (50, [364]), (67, [405]), (77, [294]), (93, [317]), (112, [316]), (126, [318]), (146, [355])] c406 false 10 u406) 4000 = true := by decide +kernel
theorem m406 {X0 : zC0} (H : ∀ j, j < 406 → CMj X0 j) : CMj X0 406 := by
  obtain ⟨l0, D0, cy0, ax0⟩ := X0
  intro mi c hc
  have e : conAt 406 = some (182, c406) := rfl
  rw [e] at hc
  obtain ⟨rfl, rfl⟩ := Prod.mk.inj (Option.some.inj hc)
  have e2 : mt 182 = (yX12_sweatBy, cX12_sweatBy, 10, (some .int)) := rfl
  rw [e2]
  have h := chk_ok (l0 := l0) (D0 := D0) (cy0 := cy0) (ax0 := ax0) (y := yX12_sweatBy) (cc := cX12_sweatBy) (ret := (some .int)) k406 (mk_ok jX12_sweatBy fX12_ok lX12_ok kX12_ok kkX12_ok H) ⟨_, rfl⟩ pnX12 nrI (fun h => by cases h) rfl
  exact h

/-! X12_plan (('k', 200), ('n',), ('n',), ('n',)) -/
def u407 : List (Nat × TP × EX × Nat × Nat) := [(41, ([(0, (2, 0, (0, []))), (1, (0, 0, (0, [(1, 0)]))), (2, (0, 0, (0, [(1, 1)]))), (3, (0, 0, (0, [(1, 2)]))), (4, (0, 0, (0, [(1, 5)]))), (5, (0, 0, (0, [(1, 6)]))), (6, (0, 0, (0, [(1, 7)])))], [], ([(0, 7), (1, 5), ((-1), 4), (0, 2000900000), (1, 8), ((-1), 1745), (0, 1000000), (0, 1746), (0, 2000940960)], [((-1), [(1, 1), ((-1), 2)]), ((-1), [((-1), 0), (1, 4)]), (0, [(1, 7), ((-1), 5)]), ((-1), [(1, 7), ((-1), 5)]), (0, [(1, 5), ((-1), 2), (1, 1)]), (999999, [((-1), 6), ((-1), 2), (1, 1)]), ((-1), [(1, 7), ((-1), 2), (1, 1)]), (0, [(1, 5), (1, 4), ((-1), 0)]), (999999, [((-1), 6), (1, 4), ((-1), 0)]), ((-1), [(1, 7), (1, 4), ((-1), 0)]), (0, [((-1), 8), (1, 3), (40, 7)]), (0, [((-1), 8), (1, 3), (240, 7)]), (0, [((-1), 8), (1, 3), (8000, 7)]), (40960, [(1, 3), ((-1), 8)])], [], [200], [((201, (1, [])), (0, [(1, 4)])), ((0, (0, [])), (0, [(1, 8)]))], [], []), [(2, 201, (1, [])), (0, 4, (0, [])), (0, 5, (0, [])), (0, 6, (0, [])), (2, 0, (0, []))], []), (1746, [((-1), 7)]), 0, 0)]
theorem k407 : chk (mkD iX12_plan fX12 lX12 kX12 kkX12 407 [(2, [331]), (11, [290]), (22, [290]), (56, [406])] c407 false 8 u407) 4000 = true := by decide +kernel
theorem m407 {X0 : zC0} (H : ∀ j, j < 407 → CMj X0 j) : CMj X0 407 := by
  obtain ⟨l0, D0, cy0, ax0⟩ := X0
  intro mi c hc
  have e : conAt 407 = some (159, c407) := rfl
  rw [e] at hc
  obtain ⟨rfl, rfl⟩ := Prod.mk.inj (Option.some.inj hc)
  have e2 : mt 159 = (yX12_plan, cX12_plan, 8, (some .int)) := rfl
  rw [e2]
  have h := chk_ok (l0 := l0) (D0 := D0) (cy0 := cy0) (ax0 := ax0) (y := yX12_plan) (cc := cX12_plan) (ret := (some .int)) k407 (mk_ok jX12_plan fX12_ok lX12_ok kX12_ok kkX12_ok H) ⟨_, rfl⟩ pnX12 nrI (fun h => by cases h) rfl
  exact h

/-! X12_played (('k', 200), ('n',)) -/
def u408 : List (Nat × TP × EX × Nat × Nat) := [(22, ([(0, (2, 0, (0, []))), (1, (0, 0, (0, [(1, 0)]))), (2, (0, 0, (0, [(1, 3)])))], [], ([(0, 3), (0, 2000900000), (1, 4), (0, 24), (0, 2001092000)], [((-1), [(1, 2), ((-1), 0)]), ((-1), [(1, 3), ((-1), 0), (1, 2)]), (0, [((-1), 4), (1, 1), (8000, 3)]), (192000, [(1, 1), ((-1), 4)])], [], [200], [((201, (7, [])), (0, [(1, 2)])), ((0, (0, [])), (0, [(1, 4)]))], [], []), [(2, 201, (7, [])), (0, 2, (0, [])), (2, 0, (0, []))], []), (24, [((-1), 3)]), 0, 0)]
theorem k408 : chk (mkD iX12_played fX12 lX12 kX12 kkX12 408 [(11, [290]), (48, [384])] c408 false 3 u408) 4000 = true := by decide +kernel
theorem m408 {X0 : zC0} (H : ∀ j, j < 408 → CMj X0 j) : CMj X0 408 := by
  obtain ⟨l0, D0, cy0, ax0⟩ := X0
  intro mi c hc
  have e : conAt 408 = some (160, c408) := rfl
  rw [e] at hc
  obtain ⟨rfl, rfl⟩ := Prod.mk.inj (Option.some.inj hc)
  have e2 : mt 160 = (yX12_played, cX12_played, 3, (some .int)) := rfl
  rw [e2]
  have h := chk_ok (l0 := l0) (D0 := D0) (cy0 := cy0) (ax0 := ax0) (y := yX12_played) (cc := cX12_played) (ret := (some .int)) k408 (mk_ok jX12_played fX12_ok lX12_ok kX12_ok kkX12_ok H) ⟨_, rfl⟩ pnX12 nrI (fun h => by cases h) rfl
  exact h

/-! X12_rained (('k', 200), ('n',), ('n',)) -/
def u409 : List (Nat × TP × EX × Nat × Nat) := []
theorem k409 : chk (mkD iX12_rained fX12 lX12 kX12 kkX12 409 [(37, [290]), (46, [290])] c409 false 5 u409) 4000 = true := by decide +kernel
theorem m409 {X0 : zC0} (H : ∀ j, j < 409 → CMj X0 j) : CMj X0 409 := by
  obtain ⟨l0, D0, cy0, ax0⟩ := X0
  intro mi c hc
  have e : conAt 409 = some (165, c409) := rfl
  rw [e] at hc
  obtain ⟨rfl, rfl⟩ := Prod.mk.inj (Option.some.inj hc)
  have e2 : mt 165 = (yX12_rained, cX12_rained, 5, (some .int)) := rfl
  rw [e2]
  have h := chk_ok (l0 := l0) (D0 := D0) (cy0 := cy0) (ax0 := ax0) (y := yX12_rained) (cc := cX12_rained) (ret := (some .int)) k409 (mk_ok jX12_rained fX12_ok lX12_ok kX12_ok kkX12_ok H) ⟨_, rfl⟩ pnX12 nrI (fun h => by cases h) rfl
  exact h

/-! X12_sortOf (('k', 200),) -/
def u410 : List (Nat × TP × EX × Nat × Nat) := []
theorem k410 : chk (mkD iX12_sortOf fX12 lX12 kX12 kkX12 410 [(11, [395]), (14, [386]), (31, [394]), (34, [386]), (49, [393]), (52, [386]), (71, [395]), (74, [386]), (93, [395]), (96, [386]), (115, [395]), (118, [386]), (135, [394]), (138, [386]), (154, [393]), (157, [386]), (175, [394]), (178, [386]), (192, [392]), (195, [386]), (215, [395]), (218, [386]), (238, [395]), (241, [386]), (259, [394]), (262, [386]), (282, [394]), (285, [386])] c410 false 1 u410) 4000 = true := by decide +kernel
theorem m410 {X0 : zC0} (H : ∀ j, j < 410 → CMj X0 j) : CMj X0 410 := by
  obtain ⟨l0, D0, cy0, ax0⟩ := X0
  intro mi c hc
  have e : conAt 410 = some (176, c410) := rfl
  rw [e] at hc
  obtain ⟨rfl, rfl⟩ := Prod.mk.inj (Option.some.inj hc)
  have e2 : mt 176 = (yX12_sortOf, cX12_sortOf, 1, (some .int)) := rfl
  rw [e2]
  have h := chk_ok (l0 := l0) (D0 := D0) (cy0 := cy0) (ax0 := ax0) (y := yX12_sortOf) (cc := cX12_sortOf) (ret := (some .int)) k410 (mk_ok jX12_sortOf fX12_ok lX12_ok kX12_ok kkX12_ok H) ⟨_, rfl⟩ pnX12 nrI (fun h => by cases h) rfl
  exact h

/-! X12_w6 (('n',), ('n',), ('n',), ('n',), ('n',), ('n',)) -/
def u411 : List (Nat × TP × EX × Nat × Nat) := []
theorem k411 : chk (mkD iX12_w6 fX12 lX12 kX12 kkX12 411 [(6, [395])] c411 false 6 u411) 4000 = true := by decide +kernel
theorem m411 {X0 : zC0} (H : ∀ j, j < 411 → CMj X0 j) : CMj X0 411 := by
  obtain ⟨l0, D0, cy0, ax0⟩ := X0
  intro mi c hc
  have e : conAt 411 = some (194, c411) := rfl
  rw [e] at hc
  obtain ⟨rfl, rfl⟩ := Prod.mk.inj (Option.some.inj hc)
  have e2 : mt 194 = (yX12_w6, cX12_w6, 6, (some .long)) := rfl
  rw [e2]
  have h := chk_ok (l0 := l0) (D0 := D0) (cy0 := cy0) (ax0 := ax0) (y := yX12_w6) (cc := cX12_w6) (ret := (some .long)) k411 (mk_ok jX12_w6 fX12_ok lX12_ok kX12_ok kkX12_ok H) rfl pnX12 nrJ (fun h => by cases h) rfl
  exact h

/-! X12_shares (('k', 200), ('n',), ('n',), ('n',)) -/
def u413 : List (Nat × TP × EX × Nat × Nat) := [(53, ([(0, (2, 0, (0, []))), (1, (0, 0, (0, [(1, 0)]))), (2, (0, 0, (0, [(1, 1)]))), (3, (0, 0, (0, [(1, 2)]))), (4, (0, 0, (0, [(1, 4)]))), (5, (0, 0, (0, [(1, 5)])))], [], ([(1, 255), (0, 999), (0, 7), (1, 8), ((-2147483648), 2147483647), (0, 8)], [((-1), [((-1), 2), (1, 3)]), (0, [(1, 3), ((-1), 5)]), ((-1), [(1, 5), (1, 3), ((-1), 2)])], [], [200], [((201, (1, [])), (0, [(1, 3)]))], [], []), [(2, 201, (1, [])), (0, 4, (0, [])), (0, 5, (0, []))], []), (19327352849, [((-1), 5)]), 0, 0), (108, ([(0, (2, 0, (0, []))), (1, (0, 0, (0, [(1, 0)]))), (2, (0, 0, (0, [(1, 1)]))), (3, (0, 0, (0, [(1, 2)]))), (4, (0, 0, (0, [(1, 3)]))), (5, (0, 0, (0, [(1, 5)]))), (6, (0, 0, (0, [(1, 6)])))], [], ([(1, 255), (0, 999), (0, 7), ((-2147483648), 2147483647), (1, 8), ((-2147483648), 2147483647), (0, 8)], [((-1), [(1, 4), ((-1), 2)]), (0, [(1, 4), ((-1), 6)]), ((-1), [(1, 6), ((-1), 2), (1, 4)]), (7, [((-1), 6), (1, 4), ((-1), 2)])], [(0, [(1, 3)])], [200], [((201, (1, [])), (0, [(1, 4)]))], [], []), [(0, 4, (0, [])), (2, 201, (1, [])), (0, 5, (0, [])), (0, 6, (0, []))], []), (19327352840, [((-1), 6)]), 0, 0), (204, ([(0, (2, 0, (0, []))), (1, (0, 0, (0, [(1, 0)]))), (2, (0, 0, (0, [(1, 1)]))), (3, (0, 0, (0, [(1, 2)]))), (4, (0, 0, (0, [(1, 3)]))), (5, (0, 0, (0, [(1, 4)]))), (6, (0, 0, (0, [(1, 6)])))], [], ([(1, 255), (0, 999), (0, 7), ((-2147483648), 2147483647), ((-2147483648), 2147483647), (1, 8), (0, 2147483647)], [((-1), [((-1), 2), (1, 5)]), ((-1), [(1, 6), (1, 5), ((-1), 2)]), (2147483648, [((-1), 6), (1, 4)])], [(0, [(1, 3)])], [200], [((201, (1, [])), (0, [(1, 5)]))], [], []), [(0, 4, (0, [])), (0, 5, (0, [])), (2, 201, (1, [])), (0, 6, (0, []))], []), (19327352831, [((-9), 6)]), 0, 0), (217, ([(0, (2, 0, (0, []))), (1, (0, 0, (0, [(1, 0)]))), (2, (0, 0, (0, [(1, 1)]))), (3, (0, 0, (0, [(1, 2)]))), (4, (0, 0, (0, [(1, 3)]))), (5, (0, 0, (0, [(1, 4)]))), (6, (0, 0, (0, [(1, 5)]))), (7, (0, 0, (0, [(1, 7)]))), (8, (0, 0, (0, [(1, 8)])))], [], ([(1, 255), (0, 999), (0, 7), ((-2147483648), 2147483647), (1, 2147483647), (0, 2147483646), (1, 8), (0, 7), (1, 8)], [((-1), [((-1), 5), (1, 4)]), ((-1), [(1, 6), ((-1), 2)]), ((-1), [((-1), 2), (1, 5), (1, 6)]), (0, [(1, 6), ((-1), 7)]), ((-1), [(1, 6), ((-1), 7)]), (0, [(1, 6), ((-1), 8)]), (0, [(1, 8), ((-1), 7)]), ((-1), [(1, 8), ((-1), 7)]), ((-1), [(1, 7), (1, 4), ((-1), 5)]), ((-2), [(1, 8), (1, 4), ((-1), 5)]), ((-1), [(1, 7), ((-1), 2), (1, 6)]), ((-2), [(1, 8), ((-1), 2), (1, 6)]), ((-1), [(1, 7), (1, 6), (1, 5), ((-1), 2)]), ((-2), [(1, 8), (1, 6), (1, 5), ((-1), 2)]), (2147483648, [((-1), 7), ((-1), 5), (1, 4)]), (2147483649, [((-1), 8), ((-1), 5), (1, 4)]), (2147483646, [((-1), 5), (1, 7)]), (2147483645, [((-1), 5), (1, 8)])], [(0, [(1, 3)])], [200], [((201, (1, [])), (0, [(1, 6)]))], [], []), [(0, 4, (0, [])), (0, 5, (0, [])), (0, 6, (0, [])), (2, 201, (1, [])), (0, 7, (0, [])), (0, 8, (0, []))], []), (19327352831, [((-1), 8), ((-9), 5)]), 0, 0)]
theorem k413 : chk (mkD iX12_shares fX12 lX12 kX12 kkX12 413 [(12, [290]), (23, [290]), (31, [331]), (39, [334]), (69, [334]), (79, [298]), (128, [334]), (139, [298]), (160, [334]), (171, [298])] c413 false 9 u413) 4000 = true := by decide +kernel
theorem m413 {X0 : zC0} (H : ∀ j, j < 413 → CMj X0 j) : CMj X0 413 := by
  obtain ⟨l0, D0, cy0, ax0⟩ := X0
  intro mi c hc
  have e : conAt 413 = some (174, c413) := rfl
  rw [e] at hc
  obtain ⟨rfl, rfl⟩ := Prod.mk.inj (Option.some.inj hc)
  have e2 : mt 174 = (yX12_shares, cX12_shares, 9, (some .int)) := rfl
  rw [e2]
  have h := chk_ok (l0 := l0) (D0 := D0) (cy0 := cy0) (ax0 := ax0) (y := yX12_shares) (cc := cX12_shares) (ret := (some .int)) k413 (mk_ok jX12_shares fX12_ok lX12_ok kX12_ok kkX12_ok H) ⟨_, rfl⟩ pnX12 nrI (fun h => by cases h) rfl
  exact h

/-! X12_text (('k', 200),) -/
def u414 : List (Nat × TP × EX × Nat × Nat) := []
theorem k414 : chk (mkD iX12_text fX12 lX12 kX12 kkX12 414 [(15, [412])] c414 false 1 u414) 4000 = true := by decide +kernel
theorem m414 {X0 : zC0} (H : ∀ j, j < 414 → CMj X0 j) : CMj X0 414 := by
  obtain ⟨l0, D0, cy0, ax0⟩ := X0
  intro mi c hc
  have e : conAt 414 = some (185, c414) := rfl
  rw [e] at hc
  obtain ⟨rfl, rfl⟩ := Prod.mk.inj (Option.some.inj hc)
  have e2 : mt 185 = (yX12_text, cX12_text, 1, (some .int)) := rfl
  rw [e2]
  have h := chk_ok (l0 := l0) (D0 := D0) (cy0 := cy0) (ax0 := ax0) (y := yX12_text) (cc := cX12_text) (ret := (some .int)) k414 (mk_ok jX12_text fX12_ok lX12_ok kX12_ok kkX12_ok H) ⟨_, rfl⟩ pnX12 nrI (fun h => by cases h) rfl
  exact h

/-! X12_thieves (('k', 200),) -/
def u415 : List (Nat × TP × EX × Nat × Nat) := [(4, ([(0, (2, 0, (0, []))), (1, (0, 0, ((-1), []))), (2, (0, 0, (0, [(1, 0)])))], [], ([(0, 6)], [], [], [200], [], [], []), [(0, 2, (0, []))], []), (2062, [((-1), 0)]), 0, 0), (34, ([(0, (2, 0, (0, []))), (1, (0, 0, (0, [(1, 1)]))), (2, (0, 0, (0, [(1, 2)])))], [], ([(0, 6), ((-1), 255), (0, 256)], [(0, [(1, 2), ((-1), 1)]), ((-1), [(1, 2), ((-1), 1)])], [], [200], [((201, (10, [])), (0, [(1, 0)]))], [], []), [(2, 201, (10, [])), (0, 1, (0, [])), (0, 2, (0, []))], []), (2055, [((-8), 2)]), 0, 0), (70, ([(0, (2, 0, (0, []))), (1, (0, 0, (0, [(1, 0)]))), (2, (0, 0, (0, [(1, 1)]))), (3, (0, 0, (0, [(1, 4)]))), (4, (0, 0, (0, [(1, 5)])))], [], ([((-1), 254), (0, 255), (0, 8), (0, 6), (0, 1), (0, 6)], [(0, [((-1), 0), (1, 1)]), ((-1), [((-1), 0), (1, 1)]), (0, [(1, 3), ((-1), 5)]), ((-1), [(1, 4), (1, 1), ((-1), 0)]), (1, [((-1), 4), (1, 1), ((-1), 0)]), (0, [(1, 5), (1, 1), ((-1), 0)]), (0, [((-1), 4), (1, 1), ((-1), 0)]), ((-1), [(1, 5), (1, 1), ((-1), 0)])], [], [200], [((201, (1, [])), (0, [(1, 2)])), ((201, (10, [])), (0, [(1, 3)]))], [], []), [(0, 1, (0, [])), (0, 2, (0, [])), (2, 201, (1, [])), (2, 201, (10, [])), (0, 3, (0, [])), (0, 4, (0, []))], []), (2054, [((-1), 5), ((-8), 1)]), 0, 0)]
theorem k415 : chk (mkD iX12_thieves fX12 lX12 kX12 kkX12 415 [(22, [398]), (51, [325]), (55, [325])] c415 false 5 u415) 4000 = true := by decide +kernel
theorem m415 {X0 : zC0} (H : ∀ j, j < 415 → CMj X0 j) : CMj X0 415 := by
  obtain ⟨l0, D0, cy0, ax0⟩ := X0
  intro mi c hc
  have e : conAt 415 = some (186, c415) := rfl
  rw [e] at hc
  obtain ⟨rfl, rfl⟩ := Prod.mk.inj (Option.some.inj hc)
  have e2 : mt 186 = (yX12_thieves, cX12_thieves, 5, (some .int)) := rfl
  rw [e2]
  have h := chk_ok (l0 := l0) (D0 := D0) (cy0 := cy0) (ax0 := ax0) (y := yX12_thieves) (cc := cX12_thieves) (ret := (some .int)) k415 (mk_ok jX12_thieves fX12_ok lX12_ok kX12_ok kkX12_ok H) ⟨_, rfl⟩ pnX12 nrI (fun h => by cases h) rfl
  exact h

/-! X12_undo (('k', 200),) -/
def u416 : List (Nat × TP × EX × Nat × Nat) := [(87, ([(0, (2, 0, (0, []))), (1, (0, 0, (186, [(52, 7)]))), (2, (0, 0, (0, [(1, 8)])))], [], ([(0, 2002700000), (0, 2002700000), ((-2147483648), 2147483647), ((-2147483648), 2147483647), ((-2147483648), 2147483647), ((-2147483648), 2147483647), (0, 999), (0, 29), (0, 6)], [], [], [200], [((201, (13, [])), (0, [(1, 1)])), ((201, (193, [(52, 7)])), (0, [(1, 1)])), ((201, (6, [])), (0, [(1, 2)])), ((201, (192, [(52, 7)])), (0, [(1, 2)])), ((201, (5, [])), (0, [(1, 3)])), ((201, (191, [(52, 7)])), (0, [(1, 3)])), ((201, (4, [])), (0, [(1, 4)])), ((201, (190, [(52, 7)])), (0, [(1, 4)])), ((201, (3, [])), (0, [(1, 5)])), ((201, (189, [(52, 7)])), (0, [(1, 5)])), ((201, (2, [])), (0, [(1, 6)])), ((201, (188, [(52, 7)])), (0, [(1, 6)])), ((201, (9, [])), (0, [(1, 7)])), ((0, (0, [])), (0, [(1, 0)]))], [], []), [(2, 201, (13, [])), (2, 201, (6, [])), (2, 201, (5, [])), (2, 201, (4, [])), (2, 201, (3, [])), (2, 201, (2, [])), (2, 201, (9, [])), (0, 2, (0, []))], []), (9024, [((-1), 8)]), 0, 0), (163, ([(0, (2, 0, (0, []))), (1, (0, 0, (186, [(52, 8)]))), (2, (0, 0, (0, [(1, 9)])))], [], ([(0, 2002700000), (0, 6), (0, 2002700000), ((-2147483648), 2147483647), ((-2147483648), 2147483647), ((-2147483648), 2147483647), ((-2147483648), 2147483647), (0, 999), (0, 29), (0, 8)], [], [], [200], [((201, (0, [])), (0, [(1, 1)])), ((201, (13, [])), (0, [(1, 2)])), ((201, (193, [(52, 8)])), (0, [(1, 2)])), ((201, (6, [])), (0, [(1, 3)])), ((201, (192, [(52, 8)])), (0, [(1, 3)])), ((201, (5, [])), (0, [(1, 4)])), ((201, (191, [(52, 8)])), (0, [(1, 4)])), ((201, (4, [])), (0, [(1, 5)])), ((201, (190, [(52, 8)])), (0, [(1, 5)])), ((201, (3, [])), (0, [(1, 6)])), ((201, (189, [(52, 8)])), (0, [(1, 6)])), ((201, (2, [])), (0, [(1, 7)])), ((201, (188, [(52, 8)])), (0, [(1, 7)])), ((201, (9, [])), (0, [(1, 8)])), ((0, (0, [])), (0, [(1, 0)]))], [], []), [(2, 201, (0, [])), (2, 201, (13, [])), (2, 201, (6, [])), (2, 201, (5, [])), (2, 201, (4, [])), (2, 201, (3, [])), (2, 201, (2, [])), (2, 201, (9, [])), (0, 2, (0, []))], []), (9017, [((-1002), 9)]), 0, 0), (286, ([(0, (2, 0, (0, []))), (1, (0, 0, (186, [(52, 10)]))), (2, (0, 0, (0, [(1, 1)]))), (3, (0, 0, (0, [(1, 11)]))), (4, (0, 0, (0, [(1, 12)])))], [], ([(0, 2002700000), (0, 7), (1, 8), (0, 6), (0, 2002700000), ((-2147483648), 2147483647), ((-2147483648), 2147483647), ((-2147483648), 2147483647), ((-2147483648), 2147483647), (0, 999), (0, 29), (0, 1), (0, 1000), ((-2147483648), 2147483647), ((-2147483648), 2147483647)], [((-1), [((-1), 1), (1, 2)]), (0, [(8, 3), ((-1), 2)]), ((-1), [(1, 11), (1, 2), ((-1), 1)]), ((-1), [(1, 12), (1, 2), ((-1), 1)]), (0, [(1, 11), ((-1), 2), (8, 3)]), (0, [(1, 12), ((-1), 2), (8, 3)]), (2147483648, [((-1), 11), (1, 14)]), (2147483648, [(1, 13), (1, 14)]), (2147483648, [((-1), 13), (1, 14)])], [], [200], [((201, (62, [(7, 1)])), (0, [(1, 13)])), ((201, (187, [(52, 10)])), (0, [(1, 14)])), ((201, (1, [])), (0, [(1, 2)])), ((201, (0, [])), (0, [(1, 3)])), ((201, (13, [])), (0, [(1, 4)])), ((201, (193, [(52, 10)])), (0, [(1, 4)])), ((201, (6, [])), (0, [(1, 5)])), ((201, (192, [(52, 10)])), (0, [(1, 5)])), ((201, (5, [])), (0, [(1, 6)])), ((201, (191, [(52, 10)])), (0, [(1, 6)])), ((201, (4, [])), (0, [(1, 7)])), ((201, (190, [(52, 10)])), (0, [(1, 7)])), ((201, (3, [])), (0, [(1, 8)])), ((201, (189, [(52, 10)])), (0, [(1, 8)])), ((201, (2, [])), (0, [(1, 9)])), ((201, (188, [(52, 10)])), (0, [(1, 9)])), ((201, (9, [])), (0, [(1, 10)])), ((0, (0, [])), (0, [(1, 0)]))], [], []), [(0, 2, (0, [])), (2, 201, (1, [])), (2, 201, (0, [])), (2, 201, (13, [])), (2, 201, (6, [])), (2, 201, (5, [])), (2, 201, (4, [])), (2, 201, (3, [])), (2, 201, (2, [])), (2, 201, (9, [])), (0, 3, (0, [])), (0, 4, (0, [])), (2, 201, (62, [(7, 1)])), (2, 201, (187, [(52, 10)]))], []), (9016, [((-1), 12), ((-1002), 1)]), 0, 0)]
theorem k416 : chk (mkD iX12_undo fX12 lX12 kX12 kkX12 416 [(217, [358]), (220, [361]), (250, [359]), (253, [365]), (280, [364])] c416 false 5 u416) 4000 = true := by decide +kernel
theorem m416 {X0 : zC0} (H : ∀ j, j < 416 → CMj X0 j) : CMj X0 416 := by
  obtain ⟨l0, D0, cy0, ax0⟩ := X0
  intro mi c hc
  have e : conAt 416 = some (189, c416) := rfl
  rw [e] at hc
  obtain ⟨rfl, rfl⟩ := Prod.mk.inj (Option.some.inj hc)
  have e2 : mt 189 = (yX12_undo, cX12_undo, 5, (some .int)) := rfl
  rw [e2]
  have h := chk_ok (l0 := l0) (D0 := D0) (cy0 := cy0) (ax0 := ax0) (y := yX12_undo) (cc := cX12_undo) (ret := (some .int)) k416 (mk_ok jX12_undo fX12_ok lX12_ok kX12_ok kkX12_ok H) ⟨_, rfl⟩ pnX12 nrI (fun h => by cases h) rfl
  exact h
