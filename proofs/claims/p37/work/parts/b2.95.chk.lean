/-! X3_readGroup (('k', 125), ('c', 2)) -/
def u258 : List (Nat × TP × EX × Nat × Nat) := []
theorem k258 : chk (mkD iX3_readGroup fX3 lX3 kX3 kkX3 258 [(25, [203]), (59, [201]), (86, [257]), (97, [254]), (119, [194])] c258 false 4 u258) 4000 = true := by decide +kernel
theorem m258 {X0 : zC0} (H : ∀ j, j < 258 → CMj X0 j) : CMj X0 258 := by
  obtain ⟨l0, D0, cy0, ax0⟩ := X0
  intro mi c hc
  have e : conAt 258 = some (234, c258) := rfl
  rw [e] at hc
  obtain ⟨rfl, rfl⟩ := Prod.mk.inj (Option.some.inj hc)
  have e2 : mt 234 = (yX3_readGroup, cX3_readGroup, 4, none) := rfl
  rw [e2]
  have h := chk_ok (l0 := l0) (D0 := D0) (cy0 := cy0) (ax0 := ax0) (y := yX3_readGroup) (cc := cX3_readGroup) (ret := none) k258 (mk_ok jX3_readGroup fX3_ok lX3_ok kX3_ok kkX3_ok H) rfl pnX3 nrV (fun h => by cases h) rfl
  exact h

/-! X3_readOne (('k', 125), ('c', 2), ('n',)) -/
def u259 : List (Nat × TP × EX × Nat × Nat) := []
theorem k259 : chk (mkD iX3_readOne fX3 lX3 kX3 kkX3 259 [(35, [211]), (43, [193]), (53, [197]), (61, [199]), (78, [203]), (89, [254]), (95, [194]), (112, [203]), (123, [252]), (133, [222]), (159, [258]), (167, [192])] c259 false 3 u259) 4000 = true := by decide +kernel
theorem m259 {X0 : zC0} (H : ∀ j, j < 259 → CMj X0 j) : CMj X0 259 := by
  obtain ⟨l0, D0, cy0, ax0⟩ := X0
  intro mi c hc
  have e : conAt 259 = some (237, c259) := rfl
  rw [e] at hc
  obtain ⟨rfl, rfl⟩ := Prod.mk.inj (Option.some.inj hc)
  have e2 : mt 237 = (yX3_readOne, cX3_readOne, 3, none) := rfl
  rw [e2]
  have h := chk_ok (l0 := l0) (D0 := D0) (cy0 := cy0) (ax0 := ax0) (y := yX3_readOne) (cc := cX3_readOne) (ret := none) k259 (mk_ok jX3_readOne fX3_ok lX3_ok kX3_ok kkX3_ok H) rfl pnX3 nrV (fun h => by cases h) rfl
  exact h

/-! X3_readProduct (('k', 125), ('c', 2), ('n',)) -/
def u260 : List (Nat × TP × EX × Nat × Nat) := [(8, ([(0, (2, 0, (0, []))), (1, (0, 0, (2, []))), (2, (0, 0, (0, [(1, 0)]))), (3, (0, 0, (0, [(1, 1)])))], [], ([(0, 1), (0, 300)], [], [], [125], [((125, (3, [])), (20, []))], [], []), [(0, 3, (0, []))], []), (300, [((-1), 1)]), 0, 0)]
theorem k260 : chk (mkD iX3_readProduct fX3 lX3 kX3 kkX3 260 [(3, [259]), (47, [191]), (53, [259]), (63, [213])] c260 false 5 u260) 4000 = true := by decide +kernel
theorem m260 {X0 : zC0} (H : ∀ j, j < 260 → CMj X0 j) : CMj X0 260 := by
  obtain ⟨l0, D0, cy0, ax0⟩ := X0
  intro mi c hc
  have e : conAt 260 = some (239, c260) := rfl
  rw [e] at hc
  obtain ⟨rfl, rfl⟩ := Prod.mk.inj (Option.some.inj hc)
  have e2 : mt 239 = (yX3_readProduct, cX3_readProduct, 5, none) := rfl
  rw [e2]
  have h := chk_ok (l0 := l0) (D0 := D0) (cy0 := cy0) (ax0 := ax0) (y := yX3_readProduct) (cc := cX3_readProduct) (ret := none) k260 (mk_ok jX3_readProduct fX3_ok lX3_ok kX3_ok kkX3_ok H) rfl pnX3 nrV (fun h => by cases h) rfl
  exact h

/-! X3_readSum (('k', 125), ('c', 2), ('n',)) -/
def u261 : List (Nat × TP × EX × Nat × Nat) := [(8, ([(0, (2, 0, (0, []))), (1, (0, 0, (2, []))), (2, (0, 0, (0, [(1, 0)]))), (3, (0, 0, (0, [(1, 1)])))], [], ([(0, 1), (0, 300)], [], [], [125], [((125, (3, [])), (20, []))], [], []), [(0, 3, (0, []))], []), (300, [((-1), 1)]), 0, 0)]
theorem k261 : chk (mkD iX3_readSum fX3 lX3 kX3 kkX3 261 [(3, [260]), (47, [191]), (53, [260]), (63, [213])] c261 false 5 u261) 4000 = true := by decide +kernel
theorem m261 {X0 : zC0} (H : ∀ j, j < 261 → CMj X0 j) : CMj X0 261 := by
  obtain ⟨l0, D0, cy0, ax0⟩ := X0
  intro mi c hc
  have e : conAt 261 = some (240, c261) := rfl
  rw [e] at hc
  obtain ⟨rfl, rfl⟩ := Prod.mk.inj (Option.some.inj hc)
  have e2 : mt 240 = (yX3_readSum, cX3_readSum, 5, none) := rfl
  rw [e2]
  have h := chk_ok (l0 := l0) (D0 := D0) (cy0 := cy0) (ax0 := ax0) (y := yX3_readSum) (cc := cX3_readSum) (ret := none) k261 (mk_ok jX3_readSum fX3_ok lX3_ok kX3_ok kkX3_ok H) rfl pnX3 nrV (fun h => by cases h) rfl
  exact h

/-! X3_readAsk (('k', 125), ('c', 2)) -/
def u262 : List (Nat × TP × EX × Nat × Nat) := []
theorem k262 : chk (mkD iX3_readAsk fX3 lX3 kX3 kkX3 262 [(11, [203]), (21, [255]), (31, [226]), (38, [261]), (84, [194]), (90, [261]), (99, [213]), (107, [192])] c262 false 3 u262) 4000 = true := by decide +kernel
theorem m262 {X0 : zC0} (H : ∀ j, j < 262 → CMj X0 j) : CMj X0 262 := by
  obtain ⟨l0, D0, cy0, ax0⟩ := X0
  intro mi c hc
  have e : conAt 262 = some (230, c262) := rfl
  rw [e] at hc
  obtain ⟨rfl, rfl⟩ := Prod.mk.inj (Option.some.inj hc)
  have e2 : mt 230 = (yX3_readAsk, cX3_readAsk, 3, none) := rfl
  rw [e2]
  have h := chk_ok (l0 := l0) (D0 := D0) (cy0 := cy0) (ax0 := ax0) (y := yX3_readAsk) (cc := cX3_readAsk) (ret := none) k262 (mk_ok jX3_readAsk fX3_ok lX3_ok kX3_ok kkX3_ok H) rfl pnX3 nrV (fun h => by cases h) rfl
  exact h

/-! X3_readBoth (('k', 125), ('c', 2)) -/
def u263 : List (Nat × TP × EX × Nat × Nat) := [(7, ([(0, (2, 0, (0, []))), (1, (0, 0, (2, []))), (2, (0, 0, (0, [(1, 0)])))], [], ([(0, 300)], [], [], [125], [((125, (3, [])), (20, []))], [], []), [(0, 2, (0, []))], []), (300, [((-1), 0)]), 0, 0)]
theorem k263 : chk (mkD iX3_readBoth fX3 lX3 kX3 kkX3 263 [(2, [262]), (31, [191]), (36, [262]), (46, [217])] c263 false 3 u263) 4000 = true := by decide +kernel
theorem m263 {X0 : zC0} (H : ∀ j, j < 263 → CMj X0 j) : CMj X0 263 := by
  obtain ⟨l0, D0, cy0, ax0⟩ := X0
  intro mi c hc
  have e : conAt 263 = some (231, c263) := rfl
  rw [e] at hc
  obtain ⟨rfl, rfl⟩ := Prod.mk.inj (Option.some.inj hc)
  have e2 : mt 231 = (yX3_readBoth, cX3_readBoth, 3, none) := rfl
  rw [e2]
  have h := chk_ok (l0 := l0) (D0 := D0) (cy0 := cy0) (ax0 := ax0) (y := yX3_readBoth) (cc := cX3_readBoth) (ret := none) k263 (mk_ok jX3_readBoth fX3_ok lX3_ok kX3_ok kkX3_ok H) rfl pnX3 nrV (fun h => by cases h) rfl
  exact h

/-! X3_readEither (('k', 125), ('c', 2)) -/
def u264 : List (Nat × TP × EX × Nat × Nat) := [(7, ([(0, (2, 0, (0, []))), (1, (0, 0, (2, []))), (2, (0, 0, (0, [(1, 0)])))], [], ([(0, 300)], [], [], [125], [((125, (3, [])), (20, []))], [], []), [(0, 2, (0, []))], []), (300, [((-1), 0)]), 0, 0)]
theorem k264 : chk (mkD iX3_readEither fX3 lX3 kX3 kkX3 264 [(2, [263]), (31, [191]), (36, [263]), (46, [219])] c264 false 3 u264) 4000 = true := by decide +kernel
theorem m264 {X0 : zC0} (H : ∀ j, j < 264 → CMj X0 j) : CMj X0 264 := by
  obtain ⟨l0, D0, cy0, ax0⟩ := X0
  intro mi c hc
  have e : conAt 264 = some (233, c264) := rfl
  rw [e] at hc
  obtain ⟨rfl, rfl⟩ := Prod.mk.inj (Option.some.inj hc)
  have e2 : mt 233 = (yX3_readEither, cX3_readEither, 3, none) := rfl
  rw [e2]
  have h := chk_ok (l0 := l0) (D0 := D0) (cy0 := cy0) (ax0 := ax0) (y := yX3_readEither) (cc := cX3_readEither) (ret := none) k264 (mk_ok jX3_readEither fX3_ok lX3_ok kX3_ok kkX3_ok H) rfl pnX3 nrV (fun h => by cases h) rfl
  exact h

/-! X3_readGroup (('k', 125), ('c', 1)) -/
def u265 : List (Nat × TP × EX × Nat × Nat) := []
theorem k265 : chk (mkD iX3_readGroup fX3 lX3 kX3 kkX3 265 [(25, [202]), (59, [201]), (86, [264]), (97, [261]), (119, [194])] c265 false 4 u265) 4000 = true := by decide +kernel
theorem m265 {X0 : zC0} (H : ∀ j, j < 265 → CMj X0 j) : CMj X0 265 := by
  obtain ⟨l0, D0, cy0, ax0⟩ := X0
  intro mi c hc
  have e : conAt 265 = some (234, c265) := rfl
  rw [e] at hc
  obtain ⟨rfl, rfl⟩ := Prod.mk.inj (Option.some.inj hc)
  have e2 : mt 234 = (yX3_readGroup, cX3_readGroup, 4, none) := rfl
  rw [e2]
  have h := chk_ok (l0 := l0) (D0 := D0) (cy0 := cy0) (ax0 := ax0) (y := yX3_readGroup) (cc := cX3_readGroup) (ret := none) k265 (mk_ok jX3_readGroup fX3_ok lX3_ok kX3_ok kkX3_ok H) rfl pnX3 nrV (fun h => by cases h) rfl
  exact h

/-! X3_readOne (('k', 125), ('c', 1), ('n',)) -/
def u266 : List (Nat × TP × EX × Nat × Nat) := []
theorem k266 : chk (mkD iX3_readOne fX3 lX3 kX3 kkX3 266 [(35, [211]), (43, [193]), (53, [197]), (61, [199]), (78, [202]), (89, [261]), (95, [194]), (112, [202]), (123, [259]), (133, [222]), (159, [265]), (167, [192])] c266 false 3 u266) 4000 = true := by decide +kernel
theorem m266 {X0 : zC0} (H : ∀ j, j < 266 → CMj X0 j) : CMj X0 266 := by
  obtain ⟨l0, D0, cy0, ax0⟩ := X0
  intro mi c hc
  have e : conAt 266 = some (237, c266) := rfl
  rw [e] at hc
  obtain ⟨rfl, rfl⟩ := Prod.mk.inj (Option.some.inj hc)
  have e2 : mt 237 = (yX3_readOne, cX3_readOne, 3, none) := rfl
  rw [e2]
  have h := chk_ok (l0 := l0) (D0 := D0) (cy0 := cy0) (ax0 := ax0) (y := yX3_readOne) (cc := cX3_readOne) (ret := none) k266 (mk_ok jX3_readOne fX3_ok lX3_ok kX3_ok kkX3_ok H) rfl pnX3 nrV (fun h => by cases h) rfl
  exact h

/-! X3_readProduct (('k', 125), ('c', 1), ('n',)) -/
def u267 : List (Nat × TP × EX × Nat × Nat) := [(8, ([(0, (2, 0, (0, []))), (1, (0, 0, (1, []))), (2, (0, 0, (0, [(1, 0)]))), (3, (0, 0, (0, [(1, 1)])))], [], ([(0, 1), (0, 300)], [], [], [125], [((125, (3, [])), (20, []))], [], []), [(0, 3, (0, []))], []), (300, [((-1), 1)]), 0, 0)]
theorem k267 : chk (mkD iX3_readProduct fX3 lX3 kX3 kkX3 267 [(3, [266]), (47, [191]), (53, [266]), (63, [213])] c267 false 5 u267) 4000 = true := by decide +kernel
theorem m267 {X0 : zC0} (H : ∀ j, j < 267 → CMj X0 j) : CMj X0 267 := by
  obtain ⟨l0, D0, cy0, ax0⟩ := X0
  intro mi c hc
  have e : conAt 267 = some (239, c267) := rfl
  rw [e] at hc
  obtain ⟨rfl, rfl⟩ := Prod.mk.inj (Option.some.inj hc)
  have e2 : mt 239 = (yX3_readProduct, cX3_readProduct, 5, none) := rfl
  rw [e2]
  have h := chk_ok (l0 := l0) (D0 := D0) (cy0 := cy0) (ax0 := ax0) (y := yX3_readProduct) (cc := cX3_readProduct) (ret := none) k267 (mk_ok jX3_readProduct fX3_ok lX3_ok kX3_ok kkX3_ok H) rfl pnX3 nrV (fun h => by cases h) rfl
  exact h

/-! X3_readSum (('k', 125), ('c', 1), ('n',)) -/
def u268 : List (Nat × TP × EX × Nat × Nat) := [(8, ([(0, (2, 0, (0, []))), (1, (0, 0, (1, []))), (2, (0, 0, (0, [(1, 0)]))), (3, (0, 0, (0, [(1, 1)])))], [], ([(0, 1), (0, 300)], [], [], [125], [((125, (3, [])), (20, []))], [], []), [(0, 3, (0, []))], []), (300, [((-1), 1)]), 0, 0)]
theorem k268 : chk (mkD iX3_readSum fX3 lX3 kX3 kkX3 268 [(3, [267]), (47, [191]), (53, [267]), (63, [213])] c268 false 5 u268) 4000 = true := by decide +kernel
theorem m268 {X0 : zC0} (H : ∀ j, j < 268 → CMj X0 j) : CMj X0 268 := by
  obtain ⟨l0, D0, cy0, ax0⟩ := X0
  intro mi c hc
  have e : conAt 268 = some (240, c268) := rfl
  rw [e] at hc
  obtain ⟨rfl, rfl⟩ := Prod.mk.inj (Option.some.inj hc)
  have e2 : mt 240 = (yX3_readSum, cX3_readSum, 5, none) := rfl
  rw [e2]
  have h := chk_ok (l0 := l0) (D0 := D0) (cy0 := cy0) (ax0 := ax0) (y := yX3_readSum) (cc := cX3_readSum) (ret := none) k268 (mk_ok jX3_readSum fX3_ok lX3_ok kX3_ok kkX3_ok H) rfl pnX3 nrV (fun h => by cases h) rfl
  exact h

/-! X3_readAsk (('k', 125), ('c', 1)) -/
def u269 : List (Nat × TP × EX × Nat × Nat) := []
theorem k269 : chk (mkD iX3_readAsk fX3 lX3 kX3 kkX3 269 [(11, [202]), (21, [262]), (31, [226]), (38, [268]), (84, [194]), (90, [268]), (99, [213]), (107, [192])] c269 false 3 u269) 4000 = true := by decide +kernel
theorem m269 {X0 : zC0} (H : ∀ j, j < 269 → CMj X0 j) : CMj X0 269 := by
  obtain ⟨l0, D0, cy0, ax0⟩ := X0
  intro mi c hc
  have e : conAt 269 = some (230, c269) := rfl
  rw [e] at hc
  obtain ⟨rfl, rfl⟩ := Prod.mk.inj (Option.some.inj hc)
  have e2 : mt 230 = (yX3_readAsk, cX3_readAsk, 3, none) := rfl
  rw [e2]
  have h := chk_ok (l0 := l0) (D0 := D0) (cy0 := cy0) (ax0 := ax0) (y := yX3_readAsk) (cc := cX3_readAsk) (ret := none) k269 (mk_ok jX3_readAsk fX3_ok lX3_ok kX3_ok kkX3_ok H) rfl pnX3 nrV (fun h => by cases h) rfl
  exact h

/-! X3_readBoth (('k', 125), ('c', 1)) -/
def u270 : List (Nat × TP × EX × Nat × Nat) := [(7, ([(0, (2, 0, (0, []))), (1, (0, 0, (1, []))), (2, (0, 0, (0, [(1, 0)])))], [], ([(0, 300)], [], [], [125], [((125, (3, [])), (20, []))], [], []), [(0, 2, (0, []))], []), (300, [((-1), 0)]), 0, 0)]
theorem k270 : chk (mkD iX3_readBoth fX3 lX3 kX3 kkX3 270 [(2, [269]), (31, [191]), (36, [269]), (46, [217])] c270 false 3 u270) 4000 = true := by decide +kernel
theorem m270 {X0 : zC0} (H : ∀ j, j < 270 → CMj X0 j) : CMj X0 270 := by
  obtain ⟨l0, D0, cy0, ax0⟩ := X0
  intro mi c hc
  have e : conAt 270 = some (231, c270) := rfl
  rw [e] at hc
  obtain ⟨rfl, rfl⟩ := Prod.mk.inj (Option.some.inj hc)
  have e2 : mt 231 = (yX3_readBoth, cX3_readBoth, 3, none) := rfl
  rw [e2]
  have h := chk_ok (l0 := l0) (D0 := D0) (cy0 := cy0) (ax0 := ax0) (y := yX3_readBoth) (cc := cX3_readBoth) (ret := none) k270 (mk_ok jX3_readBoth fX3_ok lX3_ok kX3_ok kkX3_ok H) rfl pnX3 nrV (fun h => by cases h) rfl
  exact h

/-! X3_readEither (('k', 125), ('c', 1)) -/
def u271 : List (Nat × TP × EX × Nat × Nat) := [(7, ([(0, (2, 0, (0, []))), (1, (0, 0, (1, []))), (2, (0, 0, (0, [(1, 0)])))], [], ([(0, 300)], [], [], [125], [((125, (3, [])), (20, []))], [], []), [(0, 2, (0, []))], []), (300, [((-1), 0)]), 0, 0)]
theorem k271 : chk (mkD iX3_readEither fX3 lX3 kX3 kkX3 271 [(2, [270]), (31, [191]), (36, [270]), (46, [219])] c271 false 3 u271) 4000 = true := by decide +kernel
theorem m271 {X0 : zC0} (H : ∀ j, j < 271 → CMj X0 j) : CMj X0 271 := by
  obtain ⟨l0, D0, cy0, ax0⟩ := X0
  intro mi c hc
  have e : conAt 271 = some (233, c271) := rfl
  rw [e] at hc
  obtain ⟨rfl, rfl⟩ := Prod.mk.inj (Option.some.inj hc)
  have e2 : mt 233 = (yX3_readEither, cX3_readEither, 3, none) := rfl
  rw [e2]
  have h := chk_ok (l0 := l0) (D0 := D0) (cy0 := cy0) (ax0 := ax0) (y := yX3_readEither) (cc := cX3_readEither) (ret := none) k271 (mk_ok jX3_readEither fX3_ok lX3_ok kX3_ok kkX3_ok H) rfl pnX3 nrV (fun h => by cases h) rfl
  exact h

/-! X3_readGroup (('k', 125), ('c', 0)) -/
def u272 : List (Nat × TP × EX × Nat × Nat) := []
theorem k272 : chk (mkD iX3_readGroup fX3 lX3 kX3 kkX3 272 [(25, [200]), (59, [201]), (86, [271]), (97, [268]), (119, [194])] c272 false 4 u272) 4000 = true := by decide +kernel
theorem m272 {X0 : zC0} (H : ∀ j, j < 272 → CMj X0 j) : CMj X0 272 := by
  obtain ⟨l0, D0, cy0, ax0⟩ := X0
  intro mi c hc
  have e : conAt 272 = some (234, c272) := rfl
  rw [e] at hc
  obtain ⟨rfl, rfl⟩ := Prod.mk.inj (Option.some.inj hc)
  have e2 : mt 234 = (yX3_readGroup, cX3_readGroup, 4, none) := rfl
  rw [e2]
  have h := chk_ok (l0 := l0) (D0 := D0) (cy0 := cy0) (ax0 := ax0) (y := yX3_readGroup) (cc := cX3_readGroup) (ret := none) k272 (mk_ok jX3_readGroup fX3_ok lX3_ok kX3_ok kkX3_ok H) rfl pnX3 nrV (fun h => by cases h) rfl
  exact h

/-! X3_readOne (('k', 125), ('c', 0), ('n',)) -/
def u273 : List (Nat × TP × EX × Nat × Nat) := []
theorem k273 : chk (mkD iX3_readOne fX3 lX3 kX3 kkX3 273 [(35, [211]), (43, [193]), (53, [197]), (61, [199]), (78, [200]), (89, [268]), (95, [194]), (112, [200]), (123, [266]), (133, [222]), (159, [272]), (167, [192])] c273 false 3 u273) 4000 = true := by decide +kernel
theorem m273 {X0 : zC0} (H : ∀ j, j < 273 → CMj X0 j) : CMj X0 273 := by
  obtain ⟨l0, D0, cy0, ax0⟩ := X0
  intro mi c hc
  have e : conAt 273 = some (237, c273) := rfl
  rw [e] at hc
  obtain ⟨rfl, rfl⟩ := Prod.mk.inj (Option.some.inj hc)
  have e2 : mt 237 = (yX3_readOne, cX3_readOne, 3, none) := rfl
  rw [e2]
  have h := chk_ok (l0 := l0) (D0 := D0) (cy0 := cy0) (ax0 := ax0) (y := yX3_readOne) (cc := cX3_readOne) (ret := none) k273 (mk_ok jX3_readOne fX3_ok lX3_ok kX3_ok kkX3_ok H) rfl pnX3 nrV (fun h => by cases h) rfl
  exact h

/-! X3_readProduct (('k', 125), ('c', 0), ('n',)) -/
def u274 : List (Nat × TP × EX × Nat × Nat) := [(8, ([(0, (2, 0, (0, []))), (1, (0, 0, (0, []))), (2, (0, 0, (0, [(1, 0)]))), (3, (0, 0, (0, [(1, 1)])))], [], ([(0, 1), (0, 300)], [], [], [125], [((125, (3, [])), (20, []))], [], []), [(0, 3, (0, []))], []), (300, [((-1), 1)]), 0, 0)]
theorem k274 : chk (mkD iX3_readProduct fX3 lX3 kX3 kkX3 274 [(3, [273]), (47, [191]), (53, [273]), (63, [213])] c274 false 5 u274) 4000 = true := by decide +kernel
theorem m274 {X0 : zC0} (H : ∀ j, j < 274 → CMj X0 j) : CMj X0 274 := by
  obtain ⟨l0, D0, cy0, ax0⟩ := X0
  intro mi c hc
  have e : conAt 274 = some (239, c274) := rfl
  rw [e] at hc
  obtain ⟨rfl, rfl⟩ := Prod.mk.inj (Option.some.inj hc)
  have e2 : mt 239 = (yX3_readProduct, cX3_readProduct, 5, none) := rfl
  rw [e2]
  have h := chk_ok (l0 := l0) (D0 := D0) (cy0 := cy0) (ax0 := ax0) (y := yX3_readProduct) (cc := cX3_readProduct) (ret := none) k274 (mk_ok jX3_readProduct fX3_ok lX3_ok kX3_ok kkX3_ok H) rfl pnX3 nrV (fun h => by cases h) rfl
  exact h

/-! X3_readSum (('k', 125), ('c', 0), ('n',)) -/
def u275 : List (Nat × TP × EX × Nat × Nat) := [(8, ([(0, (2, 0, (0, []))), (1, (0, 0, (0, []))), (2, (0, 0, (0, [(1, 0)]))), (3, (0, 0, (0, [(1, 1)])))], [], ([(0, 1), (0, 300)], [], [], [125], [((125, (3, [])), (20, []))], [], []), [(0, 3, (0, []))], []), (300, [((-1), 1)]), 0, 0)]
theorem k275 : chk (mkD iX3_readSum fX3 lX3 kX3 kkX3 275 [(3, [274]), (47, [191]), (53, [274]), (63, [213])] c275 false 5 u275) 4000 = true := by decide +kernel
theorem m275 {X0 : zC0} (H : ∀ j, j < 275 → CMj X0 j) : CMj X0 275 := by
  obtain ⟨l0, D0, cy0, ax0⟩ := X0
  intro mi c hc
  have e : conAt 275 = some (240, c275) := rfl
  rw [e] at hc
  obtain ⟨rfl, rfl⟩ := Prod.mk.inj (Option.some.inj hc)
  have e2 : mt 240 = (yX3_readSum, cX3_readSum, 5, none) := rfl
  rw [e2]
  have h := chk_ok (l0 := l0) (D0 := D0) (cy0 := cy0) (ax0 := ax0) (y := yX3_readSum) (cc := cX3_readSum) (ret := none) k275 (mk_ok jX3_readSum fX3_ok lX3_ok kX3_ok kkX3_ok H) rfl pnX3 nrV (fun h => by cases h) rfl
  exact h

/-! X3_readLaw (('k', 125), ('n',)) -/
def u276 : List (Nat × TP × EX × Nat × Nat) := []
theorem k276 : chk (mkD iX3_readLaw fX3 lX3 kX3 kkX3 276 [(49, [275])] c276 false 2 u276) 4000 = true := by decide +kernel
theorem m276 {X0 : zC0} (H : ∀ j, j < 276 → CMj X0 j) : CMj X0 276 := by
  obtain ⟨l0, D0, cy0, ax0⟩ := X0
  intro mi c hc
  have e : conAt 276 = some (235, c276) := rfl
  rw [e] at hc
  obtain ⟨rfl, rfl⟩ := Prod.mk.inj (Option.some.inj hc)
  have e2 : mt 235 = (yX3_readLaw, cX3_readLaw, 2, none) := rfl
  rw [e2]
  have h := chk_ok (l0 := l0) (D0 := D0) (cy0 := cy0) (ax0 := ax0) (y := yX3_readLaw) (cc := cX3_readLaw) (ret := none) k276 (mk_ok jX3_readLaw fX3_ok lX3_ok kX3_ok kkX3_ok H) rfl pnX3 nrV (fun h => by cases h) rfl
  exact h

/-! X3_readClause (('k', 125), ('n',)) -/
def u277 : List (Nat × TP × EX × Nat × Nat) := []
theorem k277 : chk (mkD iX3_readClause fX3 lX3 kX3 kkX3 277 [(13, [192]), (29, [60]), (37, [192]), (52, [192]), (79, [191]), (89, [276]), (100, [195]), (106, [194])] c277 false 3 u277) 4000 = true := by decide +kernel
theorem m277 {X0 : zC0} (H : ∀ j, j < 277 → CMj X0 j) : CMj X0 277 := by
  obtain ⟨l0, D0, cy0, ax0⟩ := X0
  intro mi c hc
  have e : conAt 277 = some (232, c277) := rfl
  rw [e] at hc
  obtain ⟨rfl, rfl⟩ := Prod.mk.inj (Option.some.inj hc)
  have e2 : mt 232 = (yX3_readClause, cX3_readClause, 3, none) := rfl
  rw [e2]
  have h := chk_ok (l0 := l0) (D0 := D0) (cy0 := cy0) (ax0 := ax0) (y := yX3_readClause) (cc := cX3_readClause) (ret := none) k277 (mk_ok jX3_readClause fX3_ok lX3_ok kX3_ok kkX3_ok H) rfl pnX3 nrV (fun h => by cases h) rfl
  exact h

/-! X3_readTape (('k', 125),) -/
def u278 : List (Nat × TP × EX × Nat × Nat) := [(48, ([(0, (2, 0, (0, []))), (1, (0, 0, (0, [(1, 2)])))], [], ([(0, 1000), (1, 301), (0, 28)], [], [], [125], [((121, (0, [])), (0, [(1, 0)])), ((120, (1, [])), (0, [(1, 1)])), ((125, (3, [])), (20, []))], [], []), [(2, 121, (0, [])), (2, 120, (1, [])), (0, 1, (0, []))], []), (28, [((-1), 2)]), 11, 1329)]
theorem k278 : chk (mkDm iX3_readTape fX3 lX3 kX3 kkX3 278 [(25, [190]), (72, [277])] c278 false 2 mac_X3_readTape u278) 4000 = true := by decide +kernel
theorem m278 {X0 : zC0} (H : ∀ j, j < 278 → CMj X0 j) : CMj X0 278 := by
  obtain ⟨l0, D0, cy0, ax0⟩ := X0
  intro mi c hc
  have e : conAt 278 = some (241, c278) := rfl
  rw [e] at hc
  obtain ⟨rfl, rfl⟩ := Prod.mk.inj (Option.some.inj hc)
  have e2 : mt 241 = (yX3_readTape, cX3_readTape, 2, (some (.object "OwnRain$Text"))) := rfl
  rw [e2]
  have h := chkM_ok (l0 := l0) (D0 := D0) (cy0 := cy0) (ax0 := ax0) (y := yX3_readTape) (cc := cX3_readTape) (ret := (some (.object "OwnRain$Text"))) k278 (mkm_ok jX3_readTape fX3_ok lX3_ok kX3_ok kkX3_ok H) ⟨_, rfl, Or.inl ⟨_, rfl⟩⟩ pnX3 nrO (fun h => by cases h) (fun E X hE h1 h2 => mac_X3_readTape_ok hE h1 (by decide))
  exact h

/-! X4_addText (('k', 40), ('k', 20)) -/
def u279 : List (Nat × TP × EX × Nat × Nat) := []
theorem k279 : chk (mkD iX4_addText fX4 lX4 kX4 kkX4 279 [] c279 false 2 u279) 4000 = true := by decide +kernel
theorem m279 {X0 : zC0} (H : ∀ j, j < 279 → CMj X0 j) : CMj X0 279 := by
  obtain ⟨l0, D0, cy0, ax0⟩ := X0
  intro mi c hc
  have e : conAt 279 = some (242, c279) := rfl
  rw [e] at hc
  obtain ⟨rfl, rfl⟩ := Prod.mk.inj (Option.some.inj hc)
  have e2 : mt 242 = (yX4_addText, cX4_addText, 2, (some .int)) := rfl
  rw [e2]
  have h := chk_ok (l0 := l0) (D0 := D0) (cy0 := cy0) (ax0 := ax0) (y := yX4_addText) (cc := cX4_addText) (ret := (some .int)) k279 (mk_ok jX4_addText fX4_ok lX4_ok kX4_ok kkX4_ok H) ⟨_, rfl⟩ pnX4 nrI (fun h => by cases h) rfl
  exact h

/-! X11_text (('k', 197),) -/
def u280 : List (Nat × TP × EX × Nat × Nat) := []
theorem k280 : chk (mkD iX11_text fX11 lX11 kX11 kkX11 280 [(17, [278]), (32, [279])] c280 false 2 u280) 4000 = true := by decide +kernel
theorem m280 {X0 : zC0} (H : ∀ j, j < 280 → CMj X0 j) : CMj X0 280 := by
  obtain ⟨l0, D0, cy0, ax0⟩ := X0
  intro mi c hc
  have e : conAt 280 = some (64, c280) := rfl
  rw [e] at hc
  obtain ⟨rfl, rfl⟩ := Prod.mk.inj (Option.some.inj hc)
  have e2 : mt 64 = (yX11_text, cX11_text, 2, (some .int)) := rfl
  rw [e2]
  have h := chk_ok (l0 := l0) (D0 := D0) (cy0 := cy0) (ax0 := ax0) (y := yX11_text) (cc := cX11_text) (ret := (some .int)) k280 (mk_ok jX11_text fX11_ok lX11_ok kX11_ok kkX11_ok H) ⟨_, rfl⟩ pnX11 nrI (fun h => by cases h) rfl
  exact h

/-! X11_thieves (('k', 197),) -/
def u281 : List (Nat × TP × EX × Nat × Nat) := [(7, ([(0, (2, 0, (0, []))), (1, (2, 1, (0, []))), (2, (0, 0, (0, [(1, 0)])))], [], ([(0, 6)], [], [], [197, 31], [], [], []), [(0, 2, (0, []))], [(0, 1)]), (2062, [((-1), 0)]), 1, 6), (39, ([(0, (2, 0, (0, []))), (1, (2, 1, (0, []))), (2, (0, 0, (0, [(1, 1)]))), (3, (0, 0, (0, [(1, 2)])))], [], ([(0, 6), ((-1), 255), (0, 256)], [(0, [(1, 2), ((-1), 1)]), ((-1), [(1, 2), ((-1), 1)])], [], [197, 31], [((62, (0, [])), (0, [(1, 0)]))], [], []), [(2, 62, (0, [])), (0, 2, (0, [])), (0, 3, (0, []))], [(0, 1)]), (2055, [((-8), 2)]), 1, 6), (81, ([(0, (2, 0, (0, []))), (1, (2, 1, (0, []))), (2, (0, 0, (0, [(1, 0)]))), (3, (0, 0, (0, [(1, 1)]))), (4, (0, 0, (0, [(1, 4)]))), (5, (0, 0, (0, [(1, 5)])))], [], ([((-1), 254), (0, 255), (0, 8), (0, 6), (0, 1), (0, 6)], [(0, [((-1), 0), (1, 1)]), ((-1), [((-1), 0), (1, 1)]), (0, [(1, 3), ((-1), 5)]), ((-1), [(1, 4), (1, 1), ((-1), 0)]), (1, [((-1), 4), (1, 1), ((-1), 0)]), (0, [(1, 5), (1, 1), ((-1), 0)]), (0, [((-1), 4), (1, 1), ((-1), 0)]), ((-1), [(1, 5), (1, 1), ((-1), 0)])], [], [197, 31], [((41, (1, [])), (0, [(1, 2)])), ((62, (0, [])), (0, [(1, 3)]))], [], []), [(0, 2, (0, [])), (0, 3, (0, [])), (2, 41, (1, [])), (2, 62, (0, [])), (0, 4, (0, [])), (0, 5, (0, []))], [(0, 1)]), (2054, [((-1), 5), ((-8), 1)]), 1, 6)]
theorem k281 : chk (mkD iX11_thieves fX11 lX11 kX11 kkX11 281 [(25, [131]), (61, [0]), (65, [0])] c281 false 6 u281) 4000 = true := by decide +kernel
theorem m281 {X0 : zC0} (H : ∀ j, j < 281 → CMj X0 j) : CMj X0 281 := by
  obtain ⟨l0, D0, cy0, ax0⟩ := X0
  intro mi c hc
  have e : conAt 281 = some (65, c281) := rfl
  rw [e] at hc
  obtain ⟨rfl, rfl⟩ := Prod.mk.inj (Option.some.inj hc)
  have e2 : mt 65 = (yX11_thieves, cX11_thieves, 6, (some .int)) := rfl
  rw [e2]
  have h := chk_ok (l0 := l0) (D0 := D0) (cy0 := cy0) (ax0 := ax0) (y := yX11_thieves) (cc := cX11_thieves) (ret := (some .int)) k281 (mk_ok jX11_thieves fX11_ok lX11_ok kX11_ok kkX11_ok H) ⟨_, rfl⟩ pnX11 nrI (fun h => by cases h) rfl
  exact h

/-! X5_takeBack (('k', 59), ('k', 50)) -/
def u282 : List (Nat × TP × EX × Nat × Nat) := []
theorem k282 : chk (mkD iX5_takeBack fX5 lX5 kX5 kkX5 282 [(36, [18])] c282 false 2 u282) 4000 = true := by decide +kernel
theorem m282 {X0 : zC0} (H : ∀ j, j < 282 → CMj X0 j) : CMj X0 282 := by
  obtain ⟨l0, D0, cy0, ax0⟩ := X0
  intro mi c hc
  have e : conAt 282 = some (253, c282) := rfl
  rw [e] at hc
  obtain ⟨rfl, rfl⟩ := Prod.mk.inj (Option.some.inj hc)
  have e2 : mt 253 = (yX5_takeBack, cX5_takeBack, 2, (some .int)) := rfl
  rw [e2]
  have h := chk_ok (l0 := l0) (D0 := D0) (cy0 := cy0) (ax0 := ax0) (y := yX5_takeBack) (cc := cX5_takeBack) (ret := (some .int)) k282 (mk_ok jX5_takeBack fX5_ok lX5_ok kX5_ok kkX5_ok H) ⟨_, rfl⟩ pnX5 nrI (fun h => by cases h) rfl
  exact h

/-! X4_takeBack (('k', 40),) -/
def u283 : List (Nat × TP × EX × Nat × Nat) := [(27, ([(0, (2, 0, (0, []))), (1, (0, 0, (0, [(1, 0)]))), (2, (0, 0, (0, [(1, 1)])))], [], ([(0, 8), (0, 8), (0, 29)], [(0, [(1, 1), ((-1), 0)])], [], [40], [((59, (0, [])), (0, [(1, 2)]))], [], []), [(0, 1, (0, [])), (0, 2, (0, [])), (2, 59, (0, []))], []), (8, [((-1), 1)]), 0, 0)]
theorem k283 : chk (mkD iX4_takeBack fX4 lX4 kX4 kkX4 283 [(21, [282]), (61, [28])] c283 false 3 u283) 4000 = true := by decide +kernel
theorem m283 {X0 : zC0} (H : ∀ j, j < 283 → CMj X0 j) : CMj X0 283 := by
  obtain ⟨l0, D0, cy0, ax0⟩ := X0
  intro mi c hc
  have e : conAt 283 = some (250, c283) := rfl
  rw [e] at hc
  obtain ⟨rfl, rfl⟩ := Prod.mk.inj (Option.some.inj hc)
  have e2 : mt 250 = (yX4_takeBack, cX4_takeBack, 3, (some .int)) := rfl
  rw [e2]
  have h := chk_ok (l0 := l0) (D0 := D0) (cy0 := cy0) (ax0 := ax0) (y := yX4_takeBack) (cc := cX4_takeBack) (ret := (some .int)) k283 (mk_ok jX4_takeBack fX4_ok lX4_ok kX4_ok kkX4_ok H) ⟨_, rfl⟩ pnX4 nrI (fun h => by cases h) rfl
  exact h

/-! X11_undo (('k', 197),) -/
def u284 : List (Nat × TP × EX × Nat × Nat) := []
theorem k284 : chk (mkD iX11_undo fX11 lX11 kX11 kkX11 284 [(4, [283])] c284 false 1 u284) 4000 = true := by decide +kernel
theorem m284 {X0 : zC0} (H : ∀ j, j < 284 → CMj X0 j) : CMj X0 284 := by
  obtain ⟨l0, D0, cy0, ax0⟩ := X0
  intro mi c hc
  have e : conAt 284 = some (66, c284) := rfl
  rw [e] at hc
  obtain ⟨rfl, rfl⟩ := Prod.mk.inj (Option.some.inj hc)
  have e2 : mt 66 = (yX11_undo, cX11_undo, 1, (some .int)) := rfl
  rw [e2]
  have h := chk_ok (l0 := l0) (D0 := D0) (cy0 := cy0) (ax0 := ax0) (y := yX11_undo) (cc := cX11_undo) (ret := (some .int)) k284 (mk_ok jX11_undo fX11_ok lX11_ok kX11_ok kkX11_ok H) ⟨_, rfl⟩ pnX11 nrI (fun h => by cases h) rfl
  exact h

/-! X11_water (('k', 197),) -/
def u285 : List (Nat × TP × EX × Nat × Nat) := [(25, ([(0, (2, 0, (0, []))), (1, (2, 1, (0, []))), (2, (0, 0, (0, [(1, 0)]))), (3, (0, 0, (0, [(1, 4)])))], [], ([((-2147483648), 2147483647), ((-2147483648), 2147483647), ((-2147483648), 2147483647), ((-2147483648), 2147483647), (0, 8)], [], [], [197, 50], [((50, (7, [])), (0, [(1, 1)])), ((50, (8, [])), (0, [(1, 2)])), ((50, (6, [])), (0, [(1, 3)]))], [], []), [(0, 2, (0, [])), (2, 50, (7, [])), (2, 50, (8, [])), (2, 50, (6, [])), (0, 3, (0, []))], [(0, 1)]), (15, [((-1), 4)]), 0, 0), (56, ([(0, (2, 0, (0, []))), (1, (2, 1, (0, []))), (2, (0, 0, (0, [(1, 0)]))), (3, (0, 0, (0, [(1, 5)])))], [], ([((-2147483648), 2147483647), (0, 8), ((-2147483648), 2147483647), ((-2147483648), 2147483647), ((-2147483648), 2147483647), (0, 6)], [], [], [197, 50], [((41, (1, [])), (0, [(1, 1)])), ((50, (7, [])), (0, [(1, 2)])), ((50, (8, [])), (0, [(1, 3)])), ((50, (6, [])), (0, [(1, 4)]))], [], []), [(0, 2, (0, [])), (2, 41, (1, [])), (2, 50, (7, [])), (2, 50, (8, [])), (2, 50, (6, [])), (0, 3, (0, []))], [(0, 1)]), (6, [((-1), 5)]), 0, 0)]
theorem k285 : chk (mkD iX11_water fX11 lX11 kX11 kkX11 285 [] c285 false 4 u285) 4000 = true := by decide +kernel
theorem m285 {X0 : zC0} (H : ∀ j, j < 285 → CMj X0 j) : CMj X0 285 := by
  obtain ⟨l0, D0, cy0, ax0⟩ := X0
  intro mi c hc
  have e : conAt 285 = some (67, c285) := rfl
  rw [e] at hc
  obtain ⟨rfl, rfl⟩ := Prod.mk.inj (Option.some.inj hc)
  have e2 : mt 67 = (yX11_water, cX11_water, 4, (some .int)) := rfl
  rw [e2]
  have h := chk_ok (l0 := l0) (D0 := D0) (cy0 := cy0) (ax0 := ax0) (y := yX11_water) (cc := cX11_water) (ret := (some .int)) k285 (mk_ok jX11_water fX11_ok lX11_ok kX11_ok kkX11_ok H) ⟨_, rfl⟩ pnX11 nrI (fun h => by cases h) rfl
  exact h

/-! X8_widen (('k', 194), ('n',)) -/
def u286 : List (Nat × TP × EX × Nat × Nat) := [(2, ([(0, (2, 0, (0, []))), (1, (0, 0, (0, [(1, 0)]))), (2, (0, 0, (0, [(1, 1)])))], [], ([(0, 5), (0, 6)], [], [], [194], [], [], []), [(0, 2, (0, []))], []), (6, [((-1), 1)]), 0, 0)]
theorem k286 : chk (mkD iX8_widen fX8 lX8 kX8 kkX8 286 [(25, [8])] c286 false 3 u286) 4000 = true := by decide +kernel
theorem m286 {X0 : zC0} (H : ∀ j, j < 286 → CMj X0 j) : CMj X0 286 := by
  obtain ⟨l0, D0, cy0, ax0⟩ := X0
  intro mi c hc
  have e : conAt 286 = some (268, c286) := rfl
  rw [e] at hc
  obtain ⟨rfl, rfl⟩ := Prod.mk.inj (Option.some.inj hc)
  have e2 : mt 268 = (yX8_widen, cX8_widen, 3, none) := rfl
  rw [e2]
  have h := chk_ok (l0 := l0) (D0 := D0) (cy0 := cy0) (ax0 := ax0) (y := yX8_widen) (cc := cX8_widen) (ret := none) k286 (mk_ok jX8_widen fX8_ok lX8_ok kX8_ok kkX8_ok H) rfl pnX8 nrV (fun h => by cases h) rfl
  exact h

/-! X8_width (('k', 194), ('n',), ('n',)) -/
def u287 : List (Nat × TP × EX × Nat × Nat) := [(14, ([(0, (2, 0, (0, []))), (1, (0, 0, (0, [(1, 0)]))), (2, (0, 0, (0, [(1, 1)]))), (3, (0, 0, (0, [(1, 2)]))), (4, (0, 0, (0, [(1, 3)])))], [], ([(0, 5), (0, 5), (0, 6), (0, 6)], [], [], [194], [((41, (0, [])), (0, [(1, 2)]))], [], []), [(0, 3, (0, [])), (0, 4, (0, []))], []), (54, [((-1), 3)]), 0, 0), (50, ([(0, (2, 0, (0, []))), (1, (0, 0, (0, [(1, 0)]))), (2, (0, 0, (0, [(1, 1)]))), (3, (0, 0, (0, [(1, 2)]))), (4, (0, 0, (0, [(1, 3)])))], [], ([(0, 5), (0, 5), (0, 6), (1, 6)], [(1, [(1, 2), ((-1), 3)])], [], [194], [((41, (0, [])), (0, [(1, 2)]))], [], []), [(0, 3, (0, [])), (0, 4, (0, []))], []), (55, [((-8), 3)]), 0, 0), (59, ([(0, (2, 0, (0, []))), (1, (0, 0, (0, [(1, 0)]))), (2, (0, 0, (0, [(1, 1)]))), (3, (0, 0, (0, [(1, 2)]))), (4, (0, 0, (0, [(1, 3)]))), (5, (0, 0, (0, [(1, 4)])))], [], ([(0, 5), (0, 5), (2, 6), (1, 5), (0, 6)], [((-1), [((-1), 3), (1, 2)]), (0, [(1, 2), ((-1), 4)]), ((-1), [(1, 4), (1, 2), ((-1), 3)])], [], [194], [((41, (0, [])), (0, [(1, 2)]))], [], []), [(0, 3, (0, [])), (0, 4, (0, [])), (0, 5, (0, []))], []), (54, [((-1), 4), ((-8), 3)]), 0, 0)]
theorem k287 : chk (mkD iX8_width fX8 lX8 kX8 kkX8 287 [(68, [286])] c287 false 6 u287) 4000 = true := by decide +kernel
theorem m287 {X0 : zC0} (H : ∀ j, j < 287 → CMj X0 j) : CMj X0 287 := by
  obtain ⟨l0, D0, cy0, ax0⟩ := X0
  intro mi c hc
  have e : conAt 287 = some (269, c287) := rfl
  rw [e] at hc
  obtain ⟨rfl, rfl⟩ := Prod.mk.inj (Option.some.inj hc)
  have e2 : mt 269 = (yX8_width, cX8_width, 6, (some .int)) := rfl
  rw [e2]
  have h := chk_ok (l0 := l0) (D0 := D0) (cy0 := cy0) (ax0 := ax0) (y := yX8_width) (cc := cX8_width) (ret := (some .int)) k287 (mk_ok jX8_width fX8_ok lX8_ok kX8_ok kkX8_ok H) ⟨_, rfl⟩ pnX8 nrI (fun h => by cases h) rfl
  exact h

/-! X11_widest (('k', 197), ('n',), ('n',)) -/
def u288 : List (Nat × TP × EX × Nat × Nat) := []
theorem k288 : chk (mkD iX11_widest fX11 lX11 kX11 kkX11 288 [(8, [6]), (22, [6]), (36, [287])] c288 false 3 u288) 4000 = true := by decide +kernel
theorem m288 {X0 : zC0} (H : ∀ j, j < 288 → CMj X0 j) : CMj X0 288 := by
  obtain ⟨l0, D0, cy0, ax0⟩ := X0
  intro mi c hc
  have e : conAt 288 = some (68, c288) := rfl
  rw [e] at hc
  obtain ⟨rfl, rfl⟩ := Prod.mk.inj (Option.some.inj hc)
  have e2 : mt 68 = (yX11_widest, cX11_widest, 3, (some .int)) := rfl
  rw [e2]
  have h := chk_ok (l0 := l0) (D0 := D0) (cy0 := cy0) (ax0 := ax0) (y := yX11_widest) (cc := cX11_widest) (ret := (some .int)) k288 (mk_ok jX11_widest fX11_ok lX11_ok kX11_ok kkX11_ok H) ⟨_, rfl⟩ pnX11 nrI (fun h => by cases h) rfl
  exact h

/-! X11_year (('k', 197), ('n',), ('n',)) -/
def u289 : List (Nat × TP × EX × Nat × Nat) := [(65, ([(0, (2, 0, (0, []))), (1, (0, 0, (0, [(1, 0)]))), (2, (0, 0, (0, [(1, 1)]))), (3, (0, 0, (0, [(1, 4)]))), (4, (0, 0, (0, [(1, 5)])))], [], ([(0, 9999), (1, 30), (1, 30), (1, 8), ((-2147483648), 2147483647), (0, 30)], [(0, [(1, 1), ((-1), 5)])], [], [197], [((59, (0, [])), (0, [(1, 2)])), ((41, (1, [])), (0, [(1, 3)]))], [], []), [(2, 59, (0, [])), (2, 41, (1, [])), (0, 3, (0, [])), (0, 4, (0, []))], []), (30, [((-1), 5)]), 0, 0)]
theorem k289 : chk (mkD iX11_year fX11 lX11 kX11 kkX11 289 [(5, [56]), (15, [56]), (41, [58]), (73, [90])] c289 false 5 u289) 4000 = true := by decide +kernel
theorem m289 {X0 : zC0} (H : ∀ j, j < 289 → CMj X0 j) : CMj X0 289 := by
  obtain ⟨l0, D0, cy0, ax0⟩ := X0
  intro mi c hc
  have e : conAt 289 = some (70, c289) := rfl
  rw [e] at hc
  obtain ⟨rfl, rfl⟩ := Prod.mk.inj (Option.some.inj hc)
  have e2 : mt 70 = (yX11_year, cX11_year, 5, (some .int)) := rfl
  rw [e2]
  have h := chk_ok (l0 := l0) (D0 := D0) (cy0 := cy0) (ax0 := ax0) (y := yX11_year) (cc := cX11_year) (ret := (some .int)) k289 (mk_ok jX11_year fX11_ok lX11_ok kX11_ok kkX11_ok H) ⟨_, rfl⟩ pnX11 nrI (fun h => by cases h) rfl
  exact h

/-! X12_isIn (('n',), ('n',), ('n',)) -/
def u290 : List (Nat × TP × EX × Nat × Nat) := []
theorem k290 : chk (mkD iX12_isIn fX12 lX12 kX12 kkX12 290 [] c290 true 3 u290) 4000 = true := by decide +kernel
theorem m290 {X0 : zC0} (H : ∀ j, j < 290 → CMj X0 j) : CMj X0 290 := by
  obtain ⟨l0, D0, cy0, ax0⟩ := X0
  intro mi c hc
  have e : conAt 290 = some (126, c290) := rfl
  rw [e] at hc
  obtain ⟨rfl, rfl⟩ := Prod.mk.inj (Option.some.inj hc)
  have e2 : mt 126 = (yX12_isIn, cX12_isIn, 3, (some .boolean)) := rfl
  rw [e2]
  have h := chk_ok (l0 := l0) (D0 := D0) (cy0 := cy0) (ax0 := ax0) (y := yX12_isIn) (cc := cX12_isIn) (ret := (some .boolean)) k290 (mk_ok jX12_isIn fX12_ok lX12_ok kX12_ok kkX12_ok H) ⟨_, rfl⟩ pnX12 (fun h => by cases h) (fun _ => rfl) rfl
  exact h

/-! X12_about (('k', 200), ('n',)) -/
def u291 : List (Nat × TP × EX × Nat × Nat) := []
theorem k291 : chk (mkD iX12_about fX12 lX12 kX12 kkX12 291 [(4, [290])] c291 false 2 u291) 4000 = true := by decide +kernel
theorem m291 {X0 : zC0} (H : ∀ j, j < 291 → CMj X0 j) : CMj X0 291 := by
  obtain ⟨l0, D0, cy0, ax0⟩ := X0
  intro mi c hc
  have e : conAt 291 = some (71, c291) := rfl
  rw [e] at hc
  obtain ⟨rfl, rfl⟩ := Prod.mk.inj (Option.some.inj hc)
  have e2 : mt 71 = (yX12_about, cX12_about, 2, (some .int)) := rfl
  rw [e2]
  have h := chk_ok (l0 := l0) (D0 := D0) (cy0 := cy0) (ax0 := ax0) (y := yX12_about) (cc := cX12_about) (ret := (some .int)) k291 (mk_ok jX12_about fX12_ok lX12_ok kX12_ok kkX12_ok H) ⟨_, rfl⟩ pnX12 nrI (fun h => by cases h) rfl
  exact h

/-! X12_addTo (('k', 200), ('n',), ('n',)) -/
def u292 : List (Nat × TP × EX × Nat × Nat) := []
theorem k292 : chk (mkD iX12_addTo fX12 lX12 kX12 kkX12 292 [] c292 false 3 u292) 4000 = true := by decide +kernel
theorem m292 {X0 : zC0} (H : ∀ j, j < 292 → CMj X0 j) : CMj X0 292 := by
  obtain ⟨l0, D0, cy0, ax0⟩ := X0
  intro mi c hc
  have e : conAt 292 = some (72, c292) := rfl
  rw [e] at hc
  obtain ⟨rfl, rfl⟩ := Prod.mk.inj (Option.some.inj hc)
  have e2 : mt 72 = (yX12_addTo, cX12_addTo, 3, none) := rfl
  rw [e2]
  have h := chk_ok (l0 := l0) (D0 := D0) (cy0 := cy0) (ax0 := ax0) (y := yX12_addTo) (cc := cX12_addTo) (ret := none) k292 (mk_ok jX12_addTo fX12_ok lX12_ok kX12_ok kkX12_ok H) rfl pnX12 nrV (fun h => by cases h) rfl
  exact h

/-! X12_anew (('n',),) -/
def u293 : List (Nat × TP × EX × Nat × Nat) := []
theorem k293 : chk (mkD iX12_anew fX12 lX12 kX12 kkX12 293 [] c293 false 1 u293) 4000 = true := by decide +kernel
theorem m293 {X0 : zC0} (H : ∀ j, j < 293 → CMj X0 j) : CMj X0 293 := by
  obtain ⟨l0, D0, cy0, ax0⟩ := X0
  intro mi c hc
  have e : conAt 293 = some (73, c293) := rfl
  rw [e] at hc
  obtain ⟨rfl, rfl⟩ := Prod.mk.inj (Option.some.inj hc)
  have e2 : mt 73 = (yX12_anew, cX12_anew, 1, (some .int)) := rfl
  rw [e2]
  have h := chk_ok (l0 := l0) (D0 := D0) (cy0 := cy0) (ax0 := ax0) (y := yX12_anew) (cc := cX12_anew) (ret := (some .int)) k293 (mk_ok jX12_anew fX12_ok lX12_ok kX12_ok kkX12_ok H) ⟨_, rfl⟩ pnX12 nrI (fun h => by cases h) rfl
  exact h

/-! X12_fieldOf (('k', 200), ('n',), ('c', 3)) -/
def u294 : List (Nat × TP × EX × Nat × Nat) := []
theorem k294 : chk (mkD iX12_fieldOf fX12 lX12 kX12 kkX12 294 [] c294 false 3 u294) 4000 = true := by decide +kernel
theorem m294 {X0 : zC0} (H : ∀ j, j < 294 → CMj X0 j) : CMj X0 294 := by
  obtain ⟨l0, D0, cy0, ax0⟩ := X0
  intro mi c hc
  have e : conAt 294 = some (105, c294) := rfl
  rw [e] at hc
  obtain ⟨rfl, rfl⟩ := Prod.mk.inj (Option.some.inj hc)
  have e2 : mt 105 = (yX12_fieldOf, cX12_fieldOf, 3, (some .int)) := rfl
  rw [e2]
  have h := chk_ok (l0 := l0) (D0 := D0) (cy0 := cy0) (ax0 := ax0) (y := yX12_fieldOf) (cc := cX12_fieldOf) (ret := (some .int)) k294 (mk_ok jX12_fieldOf fX12_ok lX12_ok kX12_ok kkX12_ok H) ⟨_, rfl⟩ pnX12 nrI (fun h => by cases h) rfl
  exact h

/-! X12_fieldOf (('k', 200), ('n',), ('c', 4)) -/
def u295 : List (Nat × TP × EX × Nat × Nat) := []
theorem k295 : chk (mkD iX12_fieldOf fX12 lX12 kX12 kkX12 295 [] c295 false 3 u295) 4000 = true := by decide +kernel
theorem m295 {X0 : zC0} (H : ∀ j, j < 295 → CMj X0 j) : CMj X0 295 := by
  obtain ⟨l0, D0, cy0, ax0⟩ := X0
  intro mi c hc
  have e : conAt 295 = some (105, c295) := rfl
  rw [e] at hc
  obtain ⟨rfl, rfl⟩ := Prod.mk.inj (Option.some.inj hc)
  have e2 : mt 105 = (yX12_fieldOf, cX12_fieldOf, 3, (some .int)) := rfl
  rw [e2]
  have h := chk_ok (l0 := l0) (D0 := D0) (cy0 := cy0) (ax0 := ax0) (y := yX12_fieldOf) (cc := cX12_fieldOf) (ret := (some .int)) k295 (mk_ok jX12_fieldOf fX12_ok lX12_ok kX12_ok kkX12_ok H) ⟨_, rfl⟩ pnX12 nrI (fun h => by cases h) rfl
  exact h

/-! X12_fieldOf (('k', 200), ('n',), ('c', 5)) -/
def u296 : List (Nat × TP × EX × Nat × Nat) := []
theorem k296 : chk (mkD iX12_fieldOf fX12 lX12 kX12 kkX12 296 [] c296 false 3 u296) 4000 = true := by decide +kernel
theorem m296 {X0 : zC0} (H : ∀ j, j < 296 → CMj X0 j) : CMj X0 296 := by
  obtain ⟨l0, D0, cy0, ax0⟩ := X0
  intro mi c hc
  have e : conAt 296 = some (105, c296) := rfl
  rw [e] at hc
  obtain ⟨rfl, rfl⟩ := Prod.mk.inj (Option.some.inj hc)
  have e2 : mt 105 = (yX12_fieldOf, cX12_fieldOf, 3, (some .int)) := rfl
  rw [e2]
  have h := chk_ok (l0 := l0) (D0 := D0) (cy0 := cy0) (ax0 := ax0) (y := yX12_fieldOf) (cc := cX12_fieldOf) (ret := (some .int)) k296 (mk_ok jX12_fieldOf fX12_ok lX12_ok kX12_ok kkX12_ok H) ⟨_, rfl⟩ pnX12 nrI (fun h => by cases h) rfl
  exact h

/-! X12_get (('k', 200), ('n',), ('c', 2)) -/
def u297 : List (Nat × TP × EX × Nat × Nat) := []
theorem k297 : chk (mkD iX12_get fX12 lX12 kX12 kkX12 297 [] c297 false 3 u297) 4000 = true := by decide +kernel
theorem m297 {X0 : zC0} (H : ∀ j, j < 297 → CMj X0 j) : CMj X0 297 := by
  obtain ⟨l0, D0, cy0, ax0⟩ := X0
  intro mi c hc
  have e : conAt 297 = some (114, c297) := rfl
  rw [e] at hc
  obtain ⟨rfl, rfl⟩ := Prod.mk.inj (Option.some.inj hc)
  have e2 : mt 114 = (yX12_get, cX12_get, 3, (some .int)) := rfl
  rw [e2]
  have h := chk_ok (l0 := l0) (D0 := D0) (cy0 := cy0) (ax0 := ax0) (y := yX12_get) (cc := cX12_get) (ret := (some .int)) k297 (mk_ok jX12_get fX12_ok lX12_ok kX12_ok kkX12_ok H) ⟨_, rfl⟩ pnX12 nrI (fun h => by cases h) rfl
  exact h

/-! X12_get (('k', 200), ('n',), ('c', 3)) -/
def u298 : List (Nat × TP × EX × Nat × Nat) := []
theorem k298 : chk (mkD iX12_get fX12 lX12 kX12 kkX12 298 [] c298 false 3 u298) 4000 = true := by decide +kernel
theorem m298 {X0 : zC0} (H : ∀ j, j < 298 → CMj X0 j) : CMj X0 298 := by
  obtain ⟨l0, D0, cy0, ax0⟩ := X0
  intro mi c hc
  have e : conAt 298 = some (114, c298) := rfl
  rw [e] at hc
  obtain ⟨rfl, rfl⟩ := Prod.mk.inj (Option.some.inj hc)
  have e2 : mt 114 = (yX12_get, cX12_get, 3, (some .int)) := rfl
  rw [e2]
  have h := chk_ok (l0 := l0) (D0 := D0) (cy0 := cy0) (ax0 := ax0) (y := yX12_get) (cc := cX12_get) (ret := (some .int)) k298 (mk_ok jX12_get fX12_ok lX12_ok kX12_ok kkX12_ok H) ⟨_, rfl⟩ pnX12 nrI (fun h => by cases h) rfl
  exact h

/-! X12_get (('k', 200), ('n',), ('c', 4)) -/
def u299 : List (Nat × TP × EX × Nat × Nat) := []
theorem k299 : chk (mkD iX12_get fX12 lX12 kX12 kkX12 299 [] c299 false 3 u299) 4000 = true := by decide +kernel
theorem m299 {X0 : zC0} (H : ∀ j, j < 299 → CMj X0 j) : CMj X0 299 := by
  obtain ⟨l0, D0, cy0, ax0⟩ := X0
  intro mi c hc
  have e : conAt 299 = some (114, c299) := rfl
  rw [e] at hc
  obtain ⟨rfl, rfl⟩ := Prod.mk.inj (Option.some.inj hc)
  have e2 : mt 114 = (yX12_get, cX12_get, 3, (some .int)) := rfl
  rw [e2]
  have h := chk_ok (l0 := l0) (D0 := D0) (cy0 := cy0) (ax0 := ax0) (y := yX12_get) (cc := cX12_get) (ret := (some .int)) k299 (mk_ok jX12_get fX12_ok lX12_ok kX12_ok kkX12_ok H) ⟨_, rfl⟩ pnX12 nrI (fun h => by cases h) rfl
  exact h

/-! X12_keep (('k', 200),) -/
def u300 : List (Nat × TP × EX × Nat × Nat) := [(14, ([(0, (2, 0, (0, []))), (1, (0, 0, (0, [(1, 2)])))], [], ([(0, 2002700000), (30, 30), (0, 1746)], [], [], [200], [((201, (9, [])), (0, [(1, 1)])), ((0, (0, [])), (0, [(1, 0)]))], [], []), [(2, 201, (9, [])), (0, 1, (0, []))], []), (1762, [((-1), 2)]), 0, 0), (148, ([(0, (2, 0, (0, []))), (1, (0, 0, (186, [(52, 9)]))), (2, (0, 0, (0, [(1, 10)])))], [], ([(0, 2002700000), (0, 2002700000), ((-2147483648), 2147483647), ((-2147483648), 2147483647), ((-2147483648), 2147483647), ((-2147483648), 2147483647), (0, 999), (0, 8), (0, 6), (0, 29), (0, 6)], [(0, [(8, 8), ((-1), 7)]), (0, [(1, 10), ((-1), 7), (8, 8)])], [], [200], [((201, (193, [(52, 9)])), (0, [(1, 1)])), ((201, (13, [])), (0, [(1, 1)])), ((201, (192, [(52, 9)])), (0, [(1, 2)])), ((201, (6, [])), (0, [(1, 2)])), ((201, (191, [(52, 9)])), (0, [(1, 3)])), ((201, (5, [])), (0, [(1, 3)])), ((201, (190, [(52, 9)])), (0, [(1, 4)])), ((201, (4, [])), (0, [(1, 4)])), ((201, (189, [(52, 9)])), (0, [(1, 5)])), ((201, (3, [])), (0, [(1, 5)])), ((201, (188, [(52, 9)])), (0, [(1, 6)])), ((201, (2, [])), (0, [(1, 6)])), ((201, (187, [(52, 9)])), (0, [(1, 7)])), ((201, (1, [])), (0, [(1, 7)])), ((201, (186, [(52, 9)])), (0, [(1, 8)])), ((201, (0, [])), (0, [(1, 8)])), ((201, (9, [])), (0, [(1, 9)])), ((0, (0, [])), (0, [(1, 0)]))], [], []), [(2, 201, (13, [])), (2, 201, (6, [])), (2, 201, (5, [])), (2, 201, (4, [])), (2, 201, (3, [])), (2, 201, (2, [])), (2, 201, (1, [])), (2, 201, (0, [])), (2, 201, (9, [])), (0, 2, (0, []))], []), (15, [((-1), 10)]), 0, 0), (198, ([(0, (2, 0, (0, []))), (1, (0, 0, (186, [(52, 9)]))), (2, (0, 0, (0, [(1, 10)])))], [], ([(0, 2002700000), (0, 2002700000), ((-2147483648), 2147483647), ((-2147483648), 2147483647), ((-2147483648), 2147483647), ((-2147483648), 2147483647), (0, 999), (0, 8), (0, 6), (0, 29), (0, 8)], [(0, [((-1), 7), (8, 8)]), (0, [(1, 10), (8, 8), ((-1), 7)])], [], [200], [((201, (193, [(52, 9)])), (0, [(1, 1)])), ((201, (13, [])), (0, [(1, 1)])), ((201, (192, [(52, 9)])), (0, [(1, 2)])), ((201, (6, [])), (0, [(1, 2)])), ((201, (191, [(52, 9)])), (0, [(1, 3)])), ((201, (5, [])), (0, [(1, 3)])), ((201, (190, [(52, 9)])), (0, [(1, 4)])), ((201, (4, [])), (0, [(1, 4)])), ((201, (189, [(52, 9)])), (0, [(1, 5)])), ((201, (3, [])), (0, [(1, 5)])), ((201, (188, [(52, 9)])), (0, [(1, 6)])), ((201, (2, [])), (0, [(1, 6)])), ((201, (187, [(52, 9)])), (0, [(1, 7)])), ((201, (1, [])), (0, [(1, 7)])), ((201, (186, [(52, 9)])), (0, [(1, 8)])), ((201, (0, [])), (0, [(1, 8)])), ((201, (9, [])), (0, [(1, 9)])), ((0, (0, [])), (0, [(1, 0)]))], [], []), [(2, 201, (13, [])), (2, 201, (6, [])), (2, 201, (5, [])), (2, 201, (4, [])), (2, 201, (3, [])), (2, 201, (2, [])), (2, 201, (1, [])), (2, 201, (0, [])), (2, 201, (9, [])), (0, 2, (0, []))], []), (8, [((-1), 10)]), 0, 0)]
set_option maxRecDepth 1000000 in
theorem k300 : chk (mkD iX12_keep fX12 lX12 kX12 kkX12 300 [(180, [294, 295, 296]), (230, [297, 298, 299])] c300 false 4 u300) 4000 = true := by decide +kernel
theorem m300 {X0 : zC0} (H : ∀ j, j < 300 → CMj X0 j) : CMj X0 300 := by
  obtain ⟨l0, D0, cy0, ax0⟩ := X0
  intro mi c hc
  have e : conAt 300 = some (133, c300) := rfl
  rw [e] at hc
  obtain ⟨rfl, rfl⟩ := Prod.mk.inj (Option.some.inj hc)
  have e2 : mt 133 = (yX12_keep, cX12_keep, 4, none) := rfl
  rw [e2]
  have h := chk_ok (l0 := l0) (D0 := D0) (cy0 := cy0) (ax0 := ax0) (y := yX12_keep) (cc := cX12_keep) (ret := none) k300 (mk_ok jX12_keep fX12_ok lX12_ok kX12_ok kkX12_ok H) rfl pnX12 nrV (fun h => by cases h) rfl
  exact h

/-! X12_fieldOf (('k', 200), ('n',), ('c', 0)) -/
def u301 : List (Nat × TP × EX × Nat × Nat) := []
theorem k301 : chk (mkD iX12_fieldOf fX12 lX12 kX12 kkX12 301 [] c301 false 3 u301) 4000 = true := by decide +kernel
theorem m301 {X0 : zC0} (H : ∀ j, j < 301 → CMj X0 j) : CMj X0 301 := by
  obtain ⟨l0, D0, cy0, ax0⟩ := X0
  intro mi c hc
  have e : conAt 301 = some (105, c301) := rfl
  rw [e] at hc
  obtain ⟨rfl, rfl⟩ := Prod.mk.inj (Option.some.inj hc)
  have e2 : mt 105 = (yX12_fieldOf, cX12_fieldOf, 3, (some .int)) := rfl
  rw [e2]
  have h := chk_ok (l0 := l0) (D0 := D0) (cy0 := cy0) (ax0 := ax0) (y := yX12_fieldOf) (cc := cX12_fieldOf) (ret := (some .int)) k301 (mk_ok jX12_fieldOf fX12_ok lX12_ok kX12_ok kkX12_ok H) ⟨_, rfl⟩ pnX12 nrI (fun h => by cases h) rfl
  exact h

/-! X12_get (('k', 200), ('n',), ('c', 1)) -/
def u302 : List (Nat × TP × EX × Nat × Nat) := []
theorem k302 : chk (mkD iX12_get fX12 lX12 kX12 kkX12 302 [] c302 false 3 u302) 4000 = true := by decide +kernel
theorem m302 {X0 : zC0} (H : ∀ j, j < 302 → CMj X0 j) : CMj X0 302 := by
  obtain ⟨l0, D0, cy0, ax0⟩ := X0
  intro mi c hc
  have e : conAt 302 = some (114, c302) := rfl
  rw [e] at hc
  obtain ⟨rfl, rfl⟩ := Prod.mk.inj (Option.some.inj hc)
  have e2 : mt 114 = (yX12_get, cX12_get, 3, (some .int)) := rfl
  rw [e2]
  have h := chk_ok (l0 := l0) (D0 := D0) (cy0 := cy0) (ax0 := ax0) (y := yX12_get) (cc := cX12_get) (ret := (some .int)) k302 (mk_ok jX12_get fX12_ok lX12_ok kX12_ok kkX12_ok H) ⟨_, rfl⟩ pnX12 nrI (fun h => by cases h) rfl
  exact h

/-! X12_get (('k', 200), ('n',), ('c', 0)) -/
def u303 : List (Nat × TP × EX × Nat × Nat) := []
theorem k303 : chk (mkD iX12_get fX12 lX12 kX12 kkX12 303 [] c303 false 3 u303) 4000 = true := by decide +kernel
theorem m303 {X0 : zC0} (H : ∀ j, j < 303 → CMj X0 j) : CMj X0 303 := by
  obtain ⟨l0, D0, cy0, ax0⟩ := X0
  intro mi c hc
  have e : conAt 303 = some (114, c303) := rfl
  rw [e] at hc
  obtain ⟨rfl, rfl⟩ := Prod.mk.inj (Option.some.inj hc)
  have e2 : mt 114 = (yX12_get, cX12_get, 3, (some .int)) := rfl
  rw [e2]
  have h := chk_ok (l0 := l0) (D0 := D0) (cy0 := cy0) (ax0 := ax0) (y := yX12_get) (cc := cX12_get) (ret := (some .int)) k303 (mk_ok jX12_get fX12_ok lX12_ok kX12_ok kkX12_ok H) ⟨_, rfl⟩ pnX12 nrI (fun h => by cases h) rfl
  exact h

/-! X12_name (('k', 200), ('n',)) -/
def u304 : List (Nat × TP × EX × Nat × Nat) := []
theorem k304 : chk (mkD iX12_name fX12 lX12 kX12 kkX12 304 [(25, [302]), (38, [303]), (51, [298]), (72, [299]), (90, [302])] c304 false 2 u304) 4000 = true := by decide +kernel
theorem m304 {X0 : zC0} (H : ∀ j, j < 304 → CMj X0 j) : CMj X0 304 := by
  obtain ⟨l0, D0, cy0, ax0⟩ := X0
  intro mi c hc
  have e : conAt 304 = some (139, c304) := rfl
  rw [e] at hc
  obtain ⟨rfl, rfl⟩ := Prod.mk.inj (Option.some.inj hc)
  have e2 : mt 139 = (yX12_name, cX12_name, 2, none) := rfl
  rw [e2]
  have h := chk_ok (l0 := l0) (D0 := D0) (cy0 := cy0) (ax0 := ax0) (y := yX12_name) (cc := cX12_name) (ret := none) k304 (mk_ok jX12_name fX12_ok lX12_ok kX12_ok kkX12_ok H) rfl pnX12 nrV (fun h => by cases h) rfl
  exact h

/-! X12_isAsked (('n',), ('n',), ('n',)) -/
def u305 : List (Nat × TP × EX × Nat × Nat) := []
theorem k305 : chk (mkD iX12_isAsked fX12 lX12 kX12 kkX12 305 [] c305 true 5 u305) 4000 = true := by decide +kernel
theorem m305 {X0 : zC0} (H : ∀ j, j < 305 → CMj X0 j) : CMj X0 305 := by
  obtain ⟨l0, D0, cy0, ax0⟩ := X0
  intro mi c hc
  have e : conAt 305 = some (122, c305) := rfl
  rw [e] at hc
  obtain ⟨rfl, rfl⟩ := Prod.mk.inj (Option.some.inj hc)
  have e2 : mt 122 = (yX12_isAsked, cX12_isAsked, 5, (some .boolean)) := rfl
  rw [e2]
  have h := chk_ok (l0 := l0) (D0 := D0) (cy0 := cy0) (ax0 := ax0) (y := yX12_isAsked) (cc := cX12_isAsked) (ret := (some .boolean)) k305 (mk_ok jX12_isAsked fX12_ok lX12_ok kX12_ok kkX12_ok H) ⟨_, rfl⟩ pnX12 (fun h => by cases h) (fun _ => rfl) rfl
  exact h

/-! X12_nextThere (('k', 200), ('n',)) -/
def u306 : List (Nat × TP × EX × Nat × Nat) := [(4, ([(0, (2, 0, (0, []))), (1, (0, 0, (0, [(1, 0)]))), (2, (0, 0, (0, [(1, 1)])))], [], ([((-1), 7), (0, 8)], [(0, [(1, 1), ((-1), 0)]), ((-1), [(1, 1), ((-1), 0)])], [], [200], [], [], []), [(0, 2, (0, []))], []), (8, [((-1), 1)]), 0, 0)]
theorem k306 : chk (mkD iX12_nextThere fX12 lX12 kX12 kkX12 306 [(25, [297])] c306 false 3 u306) 4000 = true := by decide +kernel
theorem m306 {X0 : zC0} (H : ∀ j, j < 306 → CMj X0 j) : CMj X0 306 := by
  obtain ⟨l0, D0, cy0, ax0⟩ := X0
  intro mi c hc
  have e : conAt 306 = some (145, c306) := rfl
  rw [e] at hc
  obtain ⟨rfl, rfl⟩ := Prod.mk.inj (Option.some.inj hc)
  have e2 : mt 145 = (yX12_nextThere, cX12_nextThere, 3, (some .int)) := rfl
  rw [e2]
  have h := chk_ok (l0 := l0) (D0 := D0) (cy0 := cy0) (ax0 := ax0) (y := yX12_nextThere) (cc := cX12_nextThere) (ret := (some .int)) k306 (mk_ok jX12_nextThere fX12_ok lX12_ok kX12_ok kkX12_ok H) ⟨_, rfl⟩ pnX12 nrI (fun h => by cases h) rfl
  exact h

/-! X12_clip (('n',),) -/
def u307 : List (Nat × TP × EX × Nat × Nat) := []
theorem k307 : chk (mkD iX12_clip fX12 lX12 kX12 kkX12 307 [] c307 false 2 u307) 4000 = true := by decide +kernel
theorem m307 {X0 : zC0} (H : ∀ j, j < 307 → CMj X0 j) : CMj X0 307 := by
  obtain ⟨l0, D0, cy0, ax0⟩ := X0
  intro mi c hc
  have e : conAt 307 = some (90, c307) := rfl
  rw [e] at hc
  obtain ⟨rfl, rfl⟩ := Prod.mk.inj (Option.some.inj hc)
  have e2 : mt 90 = (yX12_clip, cX12_clip, 2, (some .long)) := rfl
  rw [e2]
  have h := chk_ok (l0 := l0) (D0 := D0) (cy0 := cy0) (ax0 := ax0) (y := yX12_clip) (cc := cX12_clip) (ret := (some .long)) k307 (mk_ok jX12_clip fX12_ok lX12_ok kX12_ok kkX12_ok H) rfl pnX12 nrJ (fun h => by cases h) rfl
  exact h
