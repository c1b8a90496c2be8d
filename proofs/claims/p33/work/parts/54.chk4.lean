/-! X3_readSum (('k', 125), ('c', 7), ('n',)) -/
def u211 : List (Nat × TP × EX × Nat × Nat) := [(8, ([(0, (2, 0, (0, []))), (1, (0, 0, (7, []))), (2, (0, 0, (0, [(1, 0)]))), (3, (0, 0, (0, [(1, 1)])))], [], ([(0, 1), (0, 300)], [], [], [125], [((125, (3, [])), (20, []))], [], []), [(0, 3, (0, []))], []), (300, [((-1), 1)]), 0, 0)]
theorem k211 : chk (mkD iX3_readSum fX3 lX3 kX3 kkX3 211 [(3, [210]), (47, [177]), (53, [210]), (63, [199])] c211 false 5 u211) 4000 = true := by decide +kernel
theorem m211 {X0 : zC0} (H : ∀ j, j < 211 → CMj X0 j) : CMj X0 211 := by
  obtain ⟨l0, D0, cy0, ax0⟩ := X0
  intro mi c hc
  have e : conAt 211 = some (196, c211) := rfl
  rw [e] at hc
  obtain ⟨rfl, rfl⟩ := Prod.mk.inj (Option.some.inj hc)
  have e2 : mt 196 = (yX3_readSum, cX3_readSum, 5, none) := rfl
  rw [e2]
  have h := chk_ok (l0 := l0) (D0 := D0) (cy0 := cy0) (ax0 := ax0) (y := yX3_readSum) (cc := cX3_readSum) (ret := none) k211 (mk_ok jX3_readSum fX3_ok lX3_ok kX3_ok kkX3_ok H) rfl pnX3 nrV (fun h => by cases h) rfl
  exact h

/-! X3_readAsk (('k', 125), ('c', 7)) -/
def u213 : List (Nat × TP × EX × Nat × Nat) := []
theorem k213 : chk (mkD iX3_readAsk fX3 lX3 kX3 kkX3 213 [(11, [193]), (21, [202]), (31, [212]), (38, [211]), (84, [180]), (90, [211]), (99, [199]), (107, [179])] c213 false 3 u213) 4000 = true := by decide +kernel
theorem m213 {X0 : zC0} (H : ∀ j, j < 213 → CMj X0 j) : CMj X0 213 := by
  obtain ⟨l0, D0, cy0, ax0⟩ := X0
  intro mi c hc
  have e : conAt 213 = some (186, c213) := rfl
  rw [e] at hc
  obtain ⟨rfl, rfl⟩ := Prod.mk.inj (Option.some.inj hc)
  have e2 : mt 186 = (yX3_readAsk, cX3_readAsk, 3, none) := rfl
  rw [e2]
  have h := chk_ok (l0 := l0) (D0 := D0) (cy0 := cy0) (ax0 := ax0) (y := yX3_readAsk) (cc := cX3_readAsk) (ret := none) k213 (mk_ok jX3_readAsk fX3_ok lX3_ok kX3_ok kkX3_ok H) rfl pnX3 nrV (fun h => by cases h) rfl
  exact h

/-! X3_readBoth (('k', 125), ('c', 7)) -/
def u214 : List (Nat × TP × EX × Nat × Nat) := [(7, ([(0, (2, 0, (0, []))), (1, (0, 0, (7, []))), (2, (0, 0, (0, [(1, 0)])))], [], ([(0, 300)], [], [], [125], [((125, (3, [])), (20, []))], [], []), [(0, 2, (0, []))], []), (300, [((-1), 0)]), 0, 0)]
theorem k214 : chk (mkD iX3_readBoth fX3 lX3 kX3 kkX3 214 [(2, [213]), (31, [177]), (36, [213]), (46, [203])] c214 false 3 u214) 4000 = true := by decide +kernel
theorem m214 {X0 : zC0} (H : ∀ j, j < 214 → CMj X0 j) : CMj X0 214 := by
  obtain ⟨l0, D0, cy0, ax0⟩ := X0
  intro mi c hc
  have e : conAt 214 = some (187, c214) := rfl
  rw [e] at hc
  obtain ⟨rfl, rfl⟩ := Prod.mk.inj (Option.some.inj hc)
  have e2 : mt 187 = (yX3_readBoth, cX3_readBoth, 3, none) := rfl
  rw [e2]
  have h := chk_ok (l0 := l0) (D0 := D0) (cy0 := cy0) (ax0 := ax0) (y := yX3_readBoth) (cc := cX3_readBoth) (ret := none) k214 (mk_ok jX3_readBoth fX3_ok lX3_ok kX3_ok kkX3_ok H) rfl pnX3 nrV (fun h => by cases h) rfl
  exact h

/-! X3_readEither (('k', 125), ('c', 7)) -/
def u215 : List (Nat × TP × EX × Nat × Nat) := [(7, ([(0, (2, 0, (0, []))), (1, (0, 0, (7, []))), (2, (0, 0, (0, [(1, 0)])))], [], ([(0, 300)], [], [], [125], [((125, (3, [])), (20, []))], [], []), [(0, 2, (0, []))], []), (300, [((-1), 0)]), 0, 0)]
theorem k215 : chk (mkD iX3_readEither fX3 lX3 kX3 kkX3 215 [(2, [214]), (31, [177]), (36, [214]), (46, [205])] c215 false 3 u215) 4000 = true := by decide +kernel
theorem m215 {X0 : zC0} (H : ∀ j, j < 215 → CMj X0 j) : CMj X0 215 := by
  obtain ⟨l0, D0, cy0, ax0⟩ := X0
  intro mi c hc
  have e : conAt 215 = some (189, c215) := rfl
  rw [e] at hc
  obtain ⟨rfl, rfl⟩ := Prod.mk.inj (Option.some.inj hc)
  have e2 : mt 189 = (yX3_readEither, cX3_readEither, 3, none) := rfl
  rw [e2]
  have h := chk_ok (l0 := l0) (D0 := D0) (cy0 := cy0) (ax0 := ax0) (y := yX3_readEither) (cc := cX3_readEither) (ret := none) k215 (mk_ok jX3_readEither fX3_ok lX3_ok kX3_ok kkX3_ok H) rfl pnX3 nrV (fun h => by cases h) rfl
  exact h

/-! X3_readGroup (('k', 125), ('c', 6)) -/
def u216 : List (Nat × TP × EX × Nat × Nat) := []
theorem k216 : chk (mkD iX3_readGroup fX3 lX3 kX3 kkX3 216 [(25, [192]), (59, [186]), (86, [215]), (97, [211]), (119, [180])] c216 false 4 u216) 4000 = true := by decide +kernel
theorem m216 {X0 : zC0} (H : ∀ j, j < 216 → CMj X0 j) : CMj X0 216 := by
  obtain ⟨l0, D0, cy0, ax0⟩ := X0
  intro mi c hc
  have e : conAt 216 = some (190, c216) := rfl
  rw [e] at hc
  obtain ⟨rfl, rfl⟩ := Prod.mk.inj (Option.some.inj hc)
  have e2 : mt 190 = (yX3_readGroup, cX3_readGroup, 4, none) := rfl
  rw [e2]
  have h := chk_ok (l0 := l0) (D0 := D0) (cy0 := cy0) (ax0 := ax0) (y := yX3_readGroup) (cc := cX3_readGroup) (ret := none) k216 (mk_ok jX3_readGroup fX3_ok lX3_ok kX3_ok kkX3_ok H) rfl pnX3 nrV (fun h => by cases h) rfl
  exact h

/-! X3_readOne (('k', 125), ('c', 6), ('n',)) -/
def u217 : List (Nat × TP × EX × Nat × Nat) := []
theorem k217 : chk (mkD iX3_readOne fX3 lX3 kX3 kkX3 217 [(35, [196]), (43, [197]), (53, [182]), (61, [184]), (78, [192]), (89, [211]), (95, [180]), (112, [192]), (123, [209]), (133, [208]), (159, [216]), (167, [179])] c217 false 3 u217) 4000 = true := by decide +kernel
theorem m217 {X0 : zC0} (H : ∀ j, j < 217 → CMj X0 j) : CMj X0 217 := by
  obtain ⟨l0, D0, cy0, ax0⟩ := X0
  intro mi c hc
  have e : conAt 217 = some (193, c217) := rfl
  rw [e] at hc
  obtain ⟨rfl, rfl⟩ := Prod.mk.inj (Option.some.inj hc)
  have e2 : mt 193 = (yX3_readOne, cX3_readOne, 3, none) := rfl
  rw [e2]
  have h := chk_ok (l0 := l0) (D0 := D0) (cy0 := cy0) (ax0 := ax0) (y := yX3_readOne) (cc := cX3_readOne) (ret := none) k217 (mk_ok jX3_readOne fX3_ok lX3_ok kX3_ok kkX3_ok H) rfl pnX3 nrV (fun h => by cases h) rfl
  exact h

/-! X3_readProduct (('k', 125), ('c', 6), ('n',)) -/
def u218 : List (Nat × TP × EX × Nat × Nat) := [(8, ([(0, (2, 0, (0, []))), (1, (0, 0, (6, []))), (2, (0, 0, (0, [(1, 0)]))), (3, (0, 0, (0, [(1, 1)])))], [], ([(0, 1), (0, 300)], [], [], [125], [((125, (3, [])), (20, []))], [], []), [(0, 3, (0, []))], []), (300, [((-1), 1)]), 0, 0)]
theorem k218 : chk (mkD iX3_readProduct fX3 lX3 kX3 kkX3 218 [(3, [217]), (47, [177]), (53, [217]), (63, [199])] c218 false 5 u218) 4000 = true := by decide +kernel
theorem m218 {X0 : zC0} (H : ∀ j, j < 218 → CMj X0 j) : CMj X0 218 := by
  obtain ⟨l0, D0, cy0, ax0⟩ := X0
  intro mi c hc
  have e : conAt 218 = some (195, c218) := rfl
  rw [e] at hc
  obtain ⟨rfl, rfl⟩ := Prod.mk.inj (Option.some.inj hc)
  have e2 : mt 195 = (yX3_readProduct, cX3_readProduct, 5, none) := rfl
  rw [e2]
  have h := chk_ok (l0 := l0) (D0 := D0) (cy0 := cy0) (ax0 := ax0) (y := yX3_readProduct) (cc := cX3_readProduct) (ret := none) k218 (mk_ok jX3_readProduct fX3_ok lX3_ok kX3_ok kkX3_ok H) rfl pnX3 nrV (fun h => by cases h) rfl
  exact h

/-! X3_readSum (('k', 125), ('c', 6), ('n',)) -/
def u219 : List (Nat × TP × EX × Nat × Nat) := [(8, ([(0, (2, 0, (0, []))), (1, (0, 0, (6, []))), (2, (0, 0, (0, [(1, 0)]))), (3, (0, 0, (0, [(1, 1)])))], [], ([(0, 1), (0, 300)], [], [], [125], [((125, (3, [])), (20, []))], [], []), [(0, 3, (0, []))], []), (300, [((-1), 1)]), 0, 0)]
theorem k219 : chk (mkD iX3_readSum fX3 lX3 kX3 kkX3 219 [(3, [218]), (47, [177]), (53, [218]), (63, [199])] c219 false 5 u219) 4000 = true := by decide +kernel
theorem m219 {X0 : zC0} (H : ∀ j, j < 219 → CMj X0 j) : CMj X0 219 := by
  obtain ⟨l0, D0, cy0, ax0⟩ := X0
  intro mi c hc
  have e : conAt 219 = some (196, c219) := rfl
  rw [e] at hc
  obtain ⟨rfl, rfl⟩ := Prod.mk.inj (Option.some.inj hc)
  have e2 : mt 196 = (yX3_readSum, cX3_readSum, 5, none) := rfl
  rw [e2]
  have h := chk_ok (l0 := l0) (D0 := D0) (cy0 := cy0) (ax0 := ax0) (y := yX3_readSum) (cc := cX3_readSum) (ret := none) k219 (mk_ok jX3_readSum fX3_ok lX3_ok kX3_ok kkX3_ok H) rfl pnX3 nrV (fun h => by cases h) rfl
  exact h

/-! X3_readAsk (('k', 125), ('c', 6)) -/
def u220 : List (Nat × TP × EX × Nat × Nat) := []
theorem k220 : chk (mkD iX3_readAsk fX3 lX3 kX3 kkX3 220 [(11, [192]), (21, [213]), (31, [212]), (38, [219]), (84, [180]), (90, [219]), (99, [199]), (107, [179])] c220 false 3 u220) 4000 = true := by decide +kernel
theorem m220 {X0 : zC0} (H : ∀ j, j < 220 → CMj X0 j) : CMj X0 220 := by
  obtain ⟨l0, D0, cy0, ax0⟩ := X0
  intro mi c hc
  have e : conAt 220 = some (186, c220) := rfl
  rw [e] at hc
  obtain ⟨rfl, rfl⟩ := Prod.mk.inj (Option.some.inj hc)
  have e2 : mt 186 = (yX3_readAsk, cX3_readAsk, 3, none) := rfl
  rw [e2]
  have h := chk_ok (l0 := l0) (D0 := D0) (cy0 := cy0) (ax0 := ax0) (y := yX3_readAsk) (cc := cX3_readAsk) (ret := none) k220 (mk_ok jX3_readAsk fX3_ok lX3_ok kX3_ok kkX3_ok H) rfl pnX3 nrV (fun h => by cases h) rfl
  exact h

/-! X3_readBoth (('k', 125), ('c', 6)) -/
def u221 : List (Nat × TP × EX × Nat × Nat) := [(7, ([(0, (2, 0, (0, []))), (1, (0, 0, (6, []))), (2, (0, 0, (0, [(1, 0)])))], [], ([(0, 300)], [], [], [125], [((125, (3, [])), (20, []))], [], []), [(0, 2, (0, []))], []), (300, [((-1), 0)]), 0, 0)]
theorem k221 : chk (mkD iX3_readBoth fX3 lX3 kX3 kkX3 221 [(2, [220]), (31, [177]), (36, [220]), (46, [203])] c221 false 3 u221) 4000 = true := by decide +kernel
theorem m221 {X0 : zC0} (H : ∀ j, j < 221 → CMj X0 j) : CMj X0 221 := by
  obtain ⟨l0, D0, cy0, ax0⟩ := X0
  intro mi c hc
  have e : conAt 221 = some (187, c221) := rfl
  rw [e] at hc
  obtain ⟨rfl, rfl⟩ := Prod.mk.inj (Option.some.inj hc)
  have e2 : mt 187 = (yX3_readBoth, cX3_readBoth, 3, none) := rfl
  rw [e2]
  have h := chk_ok (l0 := l0) (D0 := D0) (cy0 := cy0) (ax0 := ax0) (y := yX3_readBoth) (cc := cX3_readBoth) (ret := none) k221 (mk_ok jX3_readBoth fX3_ok lX3_ok kX3_ok kkX3_ok H) rfl pnX3 nrV (fun h => by cases h) rfl
  exact h

/-! X3_readEither (('k', 125), ('c', 6)) -/
def u222 : List (Nat × TP × EX × Nat × Nat) := [(7, ([(0, (2, 0, (0, []))), (1, (0, 0, (6, []))), (2, (0, 0, (0, [(1, 0)])))], [], ([(0, 300)], [], [], [125], [((125, (3, [])), (20, []))], [], []), [(0, 2, (0, []))], []), (300, [((-1), 0)]), 0, 0)]
theorem k222 : chk (mkD iX3_readEither fX3 lX3 kX3 kkX3 222 [(2, [221]), (31, [177]), (36, [221]), (46, [205])] c222 false 3 u222) 4000 = true := by decide +kernel
theorem m222 {X0 : zC0} (H : ∀ j, j < 222 → CMj X0 j) : CMj X0 222 := by
  obtain ⟨l0, D0, cy0, ax0⟩ := X0
  intro mi c hc
  have e : conAt 222 = some (189, c222) := rfl
  rw [e] at hc
  obtain ⟨rfl, rfl⟩ := Prod.mk.inj (Option.some.inj hc)
  have e2 : mt 189 = (yX3_readEither, cX3_readEither, 3, none) := rfl
  rw [e2]
  have h := chk_ok (l0 := l0) (D0 := D0) (cy0 := cy0) (ax0 := ax0) (y := yX3_readEither) (cc := cX3_readEither) (ret := none) k222 (mk_ok jX3_readEither fX3_ok lX3_ok kX3_ok kkX3_ok H) rfl pnX3 nrV (fun h => by cases h) rfl
  exact h

/-! X3_readGroup (('k', 125), ('c', 5)) -/
def u223 : List (Nat × TP × EX × Nat × Nat) := []
theorem k223 : chk (mkD iX3_readGroup fX3 lX3 kX3 kkX3 223 [(25, [191]), (59, [186]), (86, [222]), (97, [219]), (119, [180])] c223 false 4 u223) 4000 = true := by decide +kernel
theorem m223 {X0 : zC0} (H : ∀ j, j < 223 → CMj X0 j) : CMj X0 223 := by
  obtain ⟨l0, D0, cy0, ax0⟩ := X0
  intro mi c hc
  have e : conAt 223 = some (190, c223) := rfl
  rw [e] at hc
  obtain ⟨rfl, rfl⟩ := Prod.mk.inj (Option.some.inj hc)
  have e2 : mt 190 = (yX3_readGroup, cX3_readGroup, 4, none) := rfl
  rw [e2]
  have h := chk_ok (l0 := l0) (D0 := D0) (cy0 := cy0) (ax0 := ax0) (y := yX3_readGroup) (cc := cX3_readGroup) (ret := none) k223 (mk_ok jX3_readGroup fX3_ok lX3_ok kX3_ok kkX3_ok H) rfl pnX3 nrV (fun h => by cases h) rfl
  exact h

/-! X3_readOne (('k', 125), ('c', 5), ('n',)) -/
def u224 : List (Nat × TP × EX × Nat × Nat) := []
theorem k224 : chk (mkD iX3_readOne fX3 lX3 kX3 kkX3 224 [(35, [196]), (43, [197]), (53, [182]), (61, [184]), (78, [191]), (89, [219]), (95, [180]), (112, [191]), (123, [217]), (133, [208]), (159, [223]), (167, [179])] c224 false 3 u224) 4000 = true := by decide +kernel
theorem m224 {X0 : zC0} (H : ∀ j, j < 224 → CMj X0 j) : CMj X0 224 := by
  obtain ⟨l0, D0, cy0, ax0⟩ := X0
  intro mi c hc
  have e : conAt 224 = some (193, c224) := rfl
  rw [e] at hc
  obtain ⟨rfl, rfl⟩ := Prod.mk.inj (Option.some.inj hc)
  have e2 : mt 193 = (yX3_readOne, cX3_readOne, 3, none) := rfl
  rw [e2]
  have h := chk_ok (l0 := l0) (D0 := D0) (cy0 := cy0) (ax0 := ax0) (y := yX3_readOne) (cc := cX3_readOne) (ret := none) k224 (mk_ok jX3_readOne fX3_ok lX3_ok kX3_ok kkX3_ok H) rfl pnX3 nrV (fun h => by cases h) rfl
  exact h

/-! X3_readProduct (('k', 125), ('c', 5), ('n',)) -/
def u225 : List (Nat × TP × EX × Nat × Nat) := [(8, ([(0, (2, 0, (0, []))), (1, (0, 0, (5, []))), (2, (0, 0, (0, [(1, 0)]))), (3, (0, 0, (0, [(1, 1)])))], [], ([(0, 1), (0, 300)], [], [], [125], [((125, (3, [])), (20, []))], [], []), [(0, 3, (0, []))], []), (300, [((-1), 1)]), 0, 0)]
theorem k225 : chk (mkD iX3_readProduct fX3 lX3 kX3 kkX3 225 [(3, [224]), (47, [177]), (53, [224]), (63, [199])] c225 false 5 u225) 4000 = true := by decide +kernel
theorem m225 {X0 : zC0} (H : ∀ j, j < 225 → CMj X0 j) : CMj X0 225 := by
  obtain ⟨l0, D0, cy0, ax0⟩ := X0
  intro mi c hc
  have e : conAt 225 = some (195, c225) := rfl
  rw [e] at hc
  obtain ⟨rfl, rfl⟩ := Prod.mk.inj (Option.some.inj hc)
  have e2 : mt 195 = (yX3_readProduct, cX3_readProduct, 5, none) := rfl
  rw [e2]
  have h := chk_ok (l0 := l0) (D0 := D0) (cy0 := cy0) (ax0 := ax0) (y := yX3_readProduct) (cc := cX3_readProduct) (ret := none) k225 (mk_ok jX3_readProduct fX3_ok lX3_ok kX3_ok kkX3_ok H) rfl pnX3 nrV (fun h => by cases h) rfl
  exact h

/-! X3_readSum (('k', 125), ('c', 5), ('n',)) -/
def u226 : List (Nat × TP × EX × Nat × Nat) := [(8, ([(0, (2, 0, (0, []))), (1, (0, 0, (5, []))), (2, (0, 0, (0, [(1, 0)]))), (3, (0, 0, (0, [(1, 1)])))], [], ([(0, 1), (0, 300)], [], [], [125], [((125, (3, [])), (20, []))], [], []), [(0, 3, (0, []))], []), (300, [((-1), 1)]), 0, 0)]
theorem k226 : chk (mkD iX3_readSum fX3 lX3 kX3 kkX3 226 [(3, [225]), (47, [177]), (53, [225]), (63, [199])] c226 false 5 u226) 4000 = true := by decide +kernel
theorem m226 {X0 : zC0} (H : ∀ j, j < 226 → CMj X0 j) : CMj X0 226 := by
  obtain ⟨l0, D0, cy0, ax0⟩ := X0
  intro mi c hc
  have e : conAt 226 = some (196, c226) := rfl
  rw [e] at hc
  obtain ⟨rfl, rfl⟩ := Prod.mk.inj (Option.some.inj hc)
  have e2 : mt 196 = (yX3_readSum, cX3_readSum, 5, none) := rfl
  rw [e2]
  have h := chk_ok (l0 := l0) (D0 := D0) (cy0 := cy0) (ax0 := ax0) (y := yX3_readSum) (cc := cX3_readSum) (ret := none) k226 (mk_ok jX3_readSum fX3_ok lX3_ok kX3_ok kkX3_ok H) rfl pnX3 nrV (fun h => by cases h) rfl
  exact h

/-! X3_readAsk (('k', 125), ('c', 5)) -/
def u227 : List (Nat × TP × EX × Nat × Nat) := []
theorem k227 : chk (mkD iX3_readAsk fX3 lX3 kX3 kkX3 227 [(11, [191]), (21, [220]), (31, [212]), (38, [226]), (84, [180]), (90, [226]), (99, [199]), (107, [179])] c227 false 3 u227) 4000 = true := by decide +kernel
theorem m227 {X0 : zC0} (H : ∀ j, j < 227 → CMj X0 j) : CMj X0 227 := by
  obtain ⟨l0, D0, cy0, ax0⟩ := X0
  intro mi c hc
  have e : conAt 227 = some (186, c227) := rfl
  rw [e] at hc
  obtain ⟨rfl, rfl⟩ := Prod.mk.inj (Option.some.inj hc)
  have e2 : mt 186 = (yX3_readAsk, cX3_readAsk, 3, none) := rfl
  rw [e2]
  have h := chk_ok (l0 := l0) (D0 := D0) (cy0 := cy0) (ax0 := ax0) (y := yX3_readAsk) (cc := cX3_readAsk) (ret := none) k227 (mk_ok jX3_readAsk fX3_ok lX3_ok kX3_ok kkX3_ok H) rfl pnX3 nrV (fun h => by cases h) rfl
  exact h

/-! X3_readBoth (('k', 125), ('c', 5)) -/
def u228 : List (Nat × TP × EX × Nat × Nat) := [(7, ([(0, (2, 0, (0, []))), (1, (0, 0, (5, []))), (2, (0, 0, (0, [(1, 0)])))], [], ([(0, 300)], [], [], [125], [((125, (3, [])), (20, []))], [], []), [(0, 2, (0, []))], []), (300, [((-1), 0)]), 0, 0)]
theorem k228 : chk (mkD iX3_readBoth fX3 lX3 kX3 kkX3 228 [(2, [227]), (31, [177]), (36, [227]), (46, [203])] c228 false 3 u228) 4000 = true := by decide +kernel
theorem m228 {X0 : zC0} (H : ∀ j, j < 228 → CMj X0 j) : CMj X0 228 := by
  obtain ⟨l0, D0, cy0, ax0⟩ := X0
  intro mi c hc
  have e : conAt 228 = some (187, c228) := rfl
  rw [e] at hc
  obtain ⟨rfl, rfl⟩ := Prod.mk.inj (Option.some.inj hc)
  have e2 : mt 187 = (yX3_readBoth, cX3_readBoth, 3, none) := rfl
  rw [e2]
  have h := chk_ok (l0 := l0) (D0 := D0) (cy0 := cy0) (ax0 := ax0) (y := yX3_readBoth) (cc := cX3_readBoth) (ret := none) k228 (mk_ok jX3_readBoth fX3_ok lX3_ok kX3_ok kkX3_ok H) rfl pnX3 nrV (fun h => by cases h) rfl
  exact h

/-! X3_readEither (('k', 125), ('c', 5)) -/
def u229 : List (Nat × TP × EX × Nat × Nat) := [(7, ([(0, (2, 0, (0, []))), (1, (0, 0, (5, []))), (2, (0, 0, (0, [(1, 0)])))], [], ([(0, 300)], [], [], [125], [((125, (3, [])), (20, []))], [], []), [(0, 2, (0, []))], []), (300, [((-1), 0)]), 0, 0)]
theorem k229 : chk (mkD iX3_readEither fX3 lX3 kX3 kkX3 229 [(2, [228]), (31, [177]), (36, [228]), (46, [205])] c229 false 3 u229) 4000 = true := by decide +kernel
theorem m229 {X0 : zC0} (H : ∀ j, j < 229 → CMj X0 j) : CMj X0 229 := by
  obtain ⟨l0, D0, cy0, ax0⟩ := X0
  intro mi c hc
  have e : conAt 229 = some (189, c229) := rfl
  rw [e] at hc
  obtain ⟨rfl, rfl⟩ := Prod.mk.inj (Option.some.inj hc)
  have e2 : mt 189 = (yX3_readEither, cX3_readEither, 3, none) := rfl
  rw [e2]
  have h := chk_ok (l0 := l0) (D0 := D0) (cy0 := cy0) (ax0 := ax0) (y := yX3_readEither) (cc := cX3_readEither) (ret := none) k229 (mk_ok jX3_readEither fX3_ok lX3_ok kX3_ok kkX3_ok H) rfl pnX3 nrV (fun h => by cases h) rfl
  exact h

/-! X3_readGroup (('k', 125), ('c', 4)) -/
def u230 : List (Nat × TP × EX × Nat × Nat) := []
theorem k230 : chk (mkD iX3_readGroup fX3 lX3 kX3 kkX3 230 [(25, [190]), (59, [186]), (86, [229]), (97, [226]), (119, [180])] c230 false 4 u230) 4000 = true := by decide +kernel
theorem m230 {X0 : zC0} (H : ∀ j, j < 230 → CMj X0 j) : CMj X0 230 := by
  obtain ⟨l0, D0, cy0, ax0⟩ := X0
  intro mi c hc
  have e : conAt 230 = some (190, c230) := rfl
  rw [e] at hc
  obtain ⟨rfl, rfl⟩ := Prod.mk.inj (Option.some.inj hc)
  have e2 : mt 190 = (yX3_readGroup, cX3_readGroup, 4, none) := rfl
  rw [e2]
  have h := chk_ok (l0 := l0) (D0 := D0) (cy0 := cy0) (ax0 := ax0) (y := yX3_readGroup) (cc := cX3_readGroup) (ret := none) k230 (mk_ok jX3_readGroup fX3_ok lX3_ok kX3_ok kkX3_ok H) rfl pnX3 nrV (fun h => by cases h) rfl
  exact h

/-! X3_readOne (('k', 125), ('c', 4), ('n',)) -/
def u231 : List (Nat × TP × EX × Nat × Nat) := []
theorem k231 : chk (mkD iX3_readOne fX3 lX3 kX3 kkX3 231 [(35, [196]), (43, [197]), (53, [182]), (61, [184]), (78, [190]), (89, [226]), (95, [180]), (112, [190]), (123, [224]), (133, [208]), (159, [230]), (167, [179])] c231 false 3 u231) 4000 = true := by decide +kernel
theorem m231 {X0 : zC0} (H : ∀ j, j < 231 → CMj X0 j) : CMj X0 231 := by
  obtain ⟨l0, D0, cy0, ax0⟩ := X0
  intro mi c hc
  have e : conAt 231 = some (193, c231) := rfl
  rw [e] at hc
  obtain ⟨rfl, rfl⟩ := Prod.mk.inj (Option.some.inj hc)
  have e2 : mt 193 = (yX3_readOne, cX3_readOne, 3, none) := rfl
  rw [e2]
  have h := chk_ok (l0 := l0) (D0 := D0) (cy0 := cy0) (ax0 := ax0) (y := yX3_readOne) (cc := cX3_readOne) (ret := none) k231 (mk_ok jX3_readOne fX3_ok lX3_ok kX3_ok kkX3_ok H) rfl pnX3 nrV (fun h => by cases h) rfl
  exact h

/-! X3_readProduct (('k', 125), ('c', 4), ('n',)) -/
def u232 : List (Nat × TP × EX × Nat × Nat) := [(8, ([(0, (2, 0, (0, []))), (1, (0, 0, (4, []))), (2, (0, 0, (0, [(1, 0)]))), (3, (0, 0, (0, [(1, 1)])))], [], ([(0, 1), (0, 300)], [], [], [125], [((125, (3, [])), (20, []))], [], []), [(0, 3, (0, []))], []), (300, [((-1), 1)]), 0, 0)]
theorem k232 : chk (mkD iX3_readProduct fX3 lX3 kX3 kkX3 232 [(3, [231]), (47, [177]), (53, [231]), (63, [199])] c232 false 5 u232) 4000 = true := by decide +kernel
theorem m232 {X0 : zC0} (H : ∀ j, j < 232 → CMj X0 j) : CMj X0 232 := by
  obtain ⟨l0, D0, cy0, ax0⟩ := X0
  intro mi c hc
  have e : conAt 232 = some (195, c232) := rfl
  rw [e] at hc
  obtain ⟨rfl, rfl⟩ := Prod.mk.inj (Option.some.inj hc)
  have e2 : mt 195 = (yX3_readProduct, cX3_readProduct, 5, none) := rfl
  rw [e2]
  have h := chk_ok (l0 := l0) (D0 := D0) (cy0 := cy0) (ax0 := ax0) (y := yX3_readProduct) (cc := cX3_readProduct) (ret := none) k232 (mk_ok jX3_readProduct fX3_ok lX3_ok kX3_ok kkX3_ok H) rfl pnX3 nrV (fun h => by cases h) rfl
  exact h

/-! X3_readSum (('k', 125), ('c', 4), ('n',)) -/
def u233 : List (Nat × TP × EX × Nat × Nat) := [(8, ([(0, (2, 0, (0, []))), (1, (0, 0, (4, []))), (2, (0, 0, (0, [(1, 0)]))), (3, (0, 0, (0, [(1, 1)])))], [], ([(0, 1), (0, 300)], [], [], [125], [((125, (3, [])), (20, []))], [], []), [(0, 3, (0, []))], []), (300, [((-1), 1)]), 0, 0)]
theorem k233 : chk (mkD iX3_readSum fX3 lX3 kX3 kkX3 233 [(3, [232]), (47, [177]), (53, [232]), (63, [199])] c233 false 5 u233) 4000 = true := by decide +kernel
theorem m233 {X0 : zC0} (H : ∀ j, j < 233 → CMj X0 j) : CMj X0 233 := by
  obtain ⟨l0, D0, cy0, ax0⟩ := X0
  intro mi c hc
  have e : conAt 233 = some (196, c233) := rfl
  rw [e] at hc
  obtain ⟨rfl, rfl⟩ := Prod.mk.inj (Option.some.inj hc)
  have e2 : mt 196 = (yX3_readSum, cX3_readSum, 5, none) := rfl
  rw [e2]
  have h := chk_ok (l0 := l0) (D0 := D0) (cy0 := cy0) (ax0 := ax0) (y := yX3_readSum) (cc := cX3_readSum) (ret := none) k233 (mk_ok jX3_readSum fX3_ok lX3_ok kX3_ok kkX3_ok H) rfl pnX3 nrV (fun h => by cases h) rfl
  exact h

/-! X3_readAsk (('k', 125), ('c', 4)) -/
def u234 : List (Nat × TP × EX × Nat × Nat) := []
theorem k234 : chk (mkD iX3_readAsk fX3 lX3 kX3 kkX3 234 [(11, [190]), (21, [227]), (31, [212]), (38, [233]), (84, [180]), (90, [233]), (99, [199]), (107, [179])] c234 false 3 u234) 4000 = true := by decide +kernel
theorem m234 {X0 : zC0} (H : ∀ j, j < 234 → CMj X0 j) : CMj X0 234 := by
  obtain ⟨l0, D0, cy0, ax0⟩ := X0
  intro mi c hc
  have e : conAt 234 = some (186, c234) := rfl
  rw [e] at hc
  obtain ⟨rfl, rfl⟩ := Prod.mk.inj (Option.some.inj hc)
  have e2 : mt 186 = (yX3_readAsk, cX3_readAsk, 3, none) := rfl
  rw [e2]
  have h := chk_ok (l0 := l0) (D0 := D0) (cy0 := cy0) (ax0 := ax0) (y := yX3_readAsk) (cc := cX3_readAsk) (ret := none) k234 (mk_ok jX3_readAsk fX3_ok lX3_ok kX3_ok kkX3_ok H) rfl pnX3 nrV (fun h => by cases h) rfl
  exact h

/-! X3_readBoth (('k', 125), ('c', 4)) -/
def u235 : List (Nat × TP × EX × Nat × Nat) := [(7, ([(0, (2, 0, (0, []))), (1, (0, 0, (4, []))), (2, (0, 0, (0, [(1, 0)])))], [], ([(0, 300)], [], [], [125], [((125, (3, [])), (20, []))], [], []), [(0, 2, (0, []))], []), (300, [((-1), 0)]), 0, 0)]
theorem k235 : chk (mkD iX3_readBoth fX3 lX3 kX3 kkX3 235 [(2, [234]), (31, [177]), (36, [234]), (46, [203])] c235 false 3 u235) 4000 = true := by decide +kernel
theorem m235 {X0 : zC0} (H : ∀ j, j < 235 → CMj X0 j) : CMj X0 235 := by
  obtain ⟨l0, D0, cy0, ax0⟩ := X0
  intro mi c hc
  have e : conAt 235 = some (187, c235) := rfl
  rw [e] at hc
  obtain ⟨rfl, rfl⟩ := Prod.mk.inj (Option.some.inj hc)
  have e2 : mt 187 = (yX3_readBoth, cX3_readBoth, 3, none) := rfl
  rw [e2]
  have h := chk_ok (l0 := l0) (D0 := D0) (cy0 := cy0) (ax0 := ax0) (y := yX3_readBoth) (cc := cX3_readBoth) (ret := none) k235 (mk_ok jX3_readBoth fX3_ok lX3_ok kX3_ok kkX3_ok H) rfl pnX3 nrV (fun h => by cases h) rfl
  exact h

/-! X3_readEither (('k', 125), ('c', 4)) -/
def u236 : List (Nat × TP × EX × Nat × Nat) := [(7, ([(0, (2, 0, (0, []))), (1, (0, 0, (4, []))), (2, (0, 0, (0, [(1, 0)])))], [], ([(0, 300)], [], [], [125], [((125, (3, [])), (20, []))], [], []), [(0, 2, (0, []))], []), (300, [((-1), 0)]), 0, 0)]
theorem k236 : chk (mkD iX3_readEither fX3 lX3 kX3 kkX3 236 [(2, [235]), (31, [177]), (36, [235]), (46, [205])] c236 false 3 u236) 4000 = true := by decide +kernel
theorem m236 {X0 : zC0} (H : ∀ j, j < 236 → CMj X0 j) : CMj X0 236 := by
  obtain ⟨l0, D0, cy0, ax0⟩ := X0
  intro mi c hc
  have e : conAt 236 = some (189, c236) := rfl
  rw [e] at hc
  obtain ⟨rfl, rfl⟩ := Prod.mk.inj (Option.some.inj hc)
  have e2 : mt 189 = (yX3_readEither, cX3_readEither, 3, none) := rfl
  rw [e2]
  have h := chk_ok (l0 := l0) (D0 := D0) (cy0 := cy0) (ax0 := ax0) (y := yX3_readEither) (cc := cX3_readEither) (ret := none) k236 (mk_ok jX3_readEither fX3_ok lX3_ok kX3_ok kkX3_ok H) rfl pnX3 nrV (fun h => by cases h) rfl
  exact h

/-! X3_readGroup (('k', 125), ('c', 3)) -/
def u237 : List (Nat × TP × EX × Nat × Nat) := []
theorem k237 : chk (mkD iX3_readGroup fX3 lX3 kX3 kkX3 237 [(25, [189]), (59, [186]), (86, [236]), (97, [233]), (119, [180])] c237 false 4 u237) 4000 = true := by decide +kernel
theorem m237 {X0 : zC0} (H : ∀ j, j < 237 → CMj X0 j) : CMj X0 237 := by
  obtain ⟨l0, D0, cy0, ax0⟩ := X0
  intro mi c hc
  have e : conAt 237 = some (190, c237) := rfl
  rw [e] at hc
  obtain ⟨rfl, rfl⟩ := Prod.mk.inj (Option.some.inj hc)
  have e2 : mt 190 = (yX3_readGroup, cX3_readGroup, 4, none) := rfl
  rw [e2]
  have h := chk_ok (l0 := l0) (D0 := D0) (cy0 := cy0) (ax0 := ax0) (y := yX3_readGroup) (cc := cX3_readGroup) (ret := none) k237 (mk_ok jX3_readGroup fX3_ok lX3_ok kX3_ok kkX3_ok H) rfl pnX3 nrV (fun h => by cases h) rfl
  exact h

/-! X3_readOne (('k', 125), ('c', 3), ('n',)) -/
def u238 : List (Nat × TP × EX × Nat × Nat) := []
theorem k238 : chk (mkD iX3_readOne fX3 lX3 kX3 kkX3 238 [(35, [196]), (43, [197]), (53, [182]), (61, [184]), (78, [189]), (89, [233]), (95, [180]), (112, [189]), (123, [231]), (133, [208]), (159, [237]), (167, [179])] c238 false 3 u238) 4000 = true := by decide +kernel
theorem m238 {X0 : zC0} (H : ∀ j, j < 238 → CMj X0 j) : CMj X0 238 := by
  obtain ⟨l0, D0, cy0, ax0⟩ := X0
  intro mi c hc
  have e : conAt 238 = some (193, c238) := rfl
  rw [e] at hc
  obtain ⟨rfl, rfl⟩ := Prod.mk.inj (Option.some.inj hc)
  have e2 : mt 193 = (yX3_readOne, cX3_readOne, 3, none) := rfl
  rw [e2]
  have h := chk_ok (l0 := l0) (D0 := D0) (cy0 := cy0) (ax0 := ax0) (y := yX3_readOne) (cc := cX3_readOne) (ret := none) k238 (mk_ok jX3_readOne fX3_ok lX3_ok kX3_ok kkX3_ok H) rfl pnX3 nrV (fun h => by cases h) rfl
  exact h

/-! X3_readProduct (('k', 125), ('c', 3), ('n',)) -/
def u239 : List (Nat × TP × EX × Nat × Nat) := [(8, ([(0, (2, 0, (0, []))), (1, (0, 0, (3, []))), (2, (0, 0, (0, [(1, 0)]))), (3, (0, 0, (0, [(1, 1)])))], [], ([(0, 1), (0, 300)], [], [], [125], [((125, (3, [])), (20, []))], [], []), [(0, 3, (0, []))], []), (300, [((-1), 1)]), 0, 0)]
theorem k239 : chk (mkD iX3_readProduct fX3 lX3 kX3 kkX3 239 [(3, [238]), (47, [177]), (53, [238]), (63, [199])] c239 false 5 u239) 4000 = true := by decide +kernel
theorem m239 {X0 : zC0} (H : ∀ j, j < 239 → CMj X0 j) : CMj X0 239 := by
  obtain ⟨l0, D0, cy0, ax0⟩ := X0
  intro mi c hc
  have e : conAt 239 = some (195, c239) := rfl
  rw [e] at hc
  obtain ⟨rfl, rfl⟩ := Prod.mk.inj (Option.some.inj hc)
  have e2 : mt 195 = (yX3_readProduct, cX3_readProduct, 5, none) := rfl
  rw [e2]
  have h := chk_ok (l0 := l0) (D0 := D0) (cy0 := cy0) (ax0 := ax0) (y := yX3_readProduct) (cc := cX3_readProduct) (ret := none) k239 (mk_ok jX3_readProduct fX3_ok lX3_ok kX3_ok kkX3_ok H) rfl pnX3 nrV (fun h => by cases h) rfl
  exact h

/-! X3_readSum (('k', 125), ('c', 3), ('n',)) -/
def u240 : List (Nat × TP × EX × Nat × Nat) := [(8, ([(0, (2, 0, (0, []))), (1, (0, 0, (3, []))), (2, (0, 0, (0, [(1, 0)]))), (3, (0, 0, (0, [(1, 1)])))], [], ([(0, 1), (0, 300)], [], [], [125], [((125, (3, [])), (20, []))], [], []), [(0, 3, (0, []))], []), (300, [((-1), 1)]), 0, 0)]
theorem k240 : chk (mkD iX3_readSum fX3 lX3 kX3 kkX3 240 [(3, [239]), (47, [177]), (53, [239]), (63, [199])] c240 false 5 u240) 4000 = true := by decide +kernel
theorem m240 {X0 : zC0} (H : ∀ j, j < 240 → CMj X0 j) : CMj X0 240 := by
  obtain ⟨l0, D0, cy0, ax0⟩ := X0
  intro mi c hc
  have e : conAt 240 = some (196, c240) := rfl
  rw [e] at hc
  obtain ⟨rfl, rfl⟩ := Prod.mk.inj (Option.some.inj hc)
  have e2 : mt 196 = (yX3_readSum, cX3_readSum, 5, none) := rfl
  rw [e2]
  have h := chk_ok (l0 := l0) (D0 := D0) (cy0 := cy0) (ax0 := ax0) (y := yX3_readSum) (cc := cX3_readSum) (ret := none) k240 (mk_ok jX3_readSum fX3_ok lX3_ok kX3_ok kkX3_ok H) rfl pnX3 nrV (fun h => by cases h) rfl
  exact h

/-! X3_readAsk (('k', 125), ('c', 3)) -/
def u241 : List (Nat × TP × EX × Nat × Nat) := []
theorem k241 : chk (mkD iX3_readAsk fX3 lX3 kX3 kkX3 241 [(11, [189]), (21, [234]), (31, [212]), (38, [240]), (84, [180]), (90, [240]), (99, [199]), (107, [179])] c241 false 3 u241) 4000 = true := by decide +kernel
theorem m241 {X0 : zC0} (H : ∀ j, j < 241 → CMj X0 j) : CMj X0 241 := by
  obtain ⟨l0, D0, cy0, ax0⟩ := X0
  intro mi c hc
  have e : conAt 241 = some (186, c241) := rfl
  rw [e] at hc
  obtain ⟨rfl, rfl⟩ := Prod.mk.inj (Option.some.inj hc)
  have e2 : mt 186 = (yX3_readAsk, cX3_readAsk, 3, none) := rfl
  rw [e2]
  have h := chk_ok (l0 := l0) (D0 := D0) (cy0 := cy0) (ax0 := ax0) (y := yX3_readAsk) (cc := cX3_readAsk) (ret := none) k241 (mk_ok jX3_readAsk fX3_ok lX3_ok kX3_ok kkX3_ok H) rfl pnX3 nrV (fun h => by cases h) rfl
  exact h

/-! X3_readBoth (('k', 125), ('c', 3)) -/
def u242 : List (Nat × TP × EX × Nat × Nat) := [(7, ([(0, (2, 0, (0, []))), (1, (0, 0, (3, []))), (2, (0, 0, (0, [(1, 0)])))], [], ([(0, 300)], [], [], [125], [((125, (3, [])), (20, []))], [], []), [(0, 2, (0, []))], []), (300, [((-1), 0)]), 0, 0)]
theorem k242 : chk (mkD iX3_readBoth fX3 lX3 kX3 kkX3 242 [(2, [241]), (31, [177]), (36, [241]), (46, [203])] c242 false 3 u242) 4000 = true := by decide +kernel
theorem m242 {X0 : zC0} (H : ∀ j, j < 242 → CMj X0 j) : CMj X0 242 := by
  obtain ⟨l0, D0, cy0, ax0⟩ := X0
  intro mi c hc
  have e : conAt 242 = some (187, c242) := rfl
  rw [e] at hc
  obtain ⟨rfl, rfl⟩ := Prod.mk.inj (Option.some.inj hc)
  have e2 : mt 187 = (yX3_readBoth, cX3_readBoth, 3, none) := rfl
  rw [e2]
  have h := chk_ok (l0 := l0) (D0 := D0) (cy0 := cy0) (ax0 := ax0) (y := yX3_readBoth) (cc := cX3_readBoth) (ret := none) k242 (mk_ok jX3_readBoth fX3_ok lX3_ok kX3_ok kkX3_ok H) rfl pnX3 nrV (fun h => by cases h) rfl
  exact h

/-! X3_readEither (('k', 125), ('c', 3)) -/
def u243 : List (Nat × TP × EX × Nat × Nat) := [(7, ([(0, (2, 0, (0, []))), (1, (0, 0, (3, []))), (2, (0, 0, (0, [(1, 0)])))], [], ([(0, 300)], [], [], [125], [((125, (3, [])), (20, []))], [], []), [(0, 2, (0, []))], []), (300, [((-1), 0)]), 0, 0)]
theorem k243 : chk (mkD iX3_readEither fX3 lX3 kX3 kkX3 243 [(2, [242]), (31, [177]), (36, [242]), (46, [205])] c243 false 3 u243) 4000 = true := by decide +kernel
theorem m243 {X0 : zC0} (H : ∀ j, j < 243 → CMj X0 j) : CMj X0 243 := by
  obtain ⟨l0, D0, cy0, ax0⟩ := X0
  intro mi c hc
  have e : conAt 243 = some (189, c243) := rfl
  rw [e] at hc
  obtain ⟨rfl, rfl⟩ := Prod.mk.inj (Option.some.inj hc)
  have e2 : mt 189 = (yX3_readEither, cX3_readEither, 3, none) := rfl
  rw [e2]
  have h := chk_ok (l0 := l0) (D0 := D0) (cy0 := cy0) (ax0 := ax0) (y := yX3_readEither) (cc := cX3_readEither) (ret := none) k243 (mk_ok jX3_readEither fX3_ok lX3_ok kX3_ok kkX3_ok H) rfl pnX3 nrV (fun h => by cases h) rfl
  exact h

/-! X3_readGroup (('k', 125), ('c', 2)) -/
def u244 : List (Nat × TP × EX × Nat × Nat) := []
theorem k244 : chk (mkD iX3_readGroup fX3 lX3 kX3 kkX3 244 [(25, [188]), (59, [186]), (86, [243]), (97, [240]), (119, [180])] c244 false 4 u244) 4000 = true := by decide +kernel
theorem m244 {X0 : zC0} (H : ∀ j, j < 244 → CMj X0 j) : CMj X0 244 := by
  obtain ⟨l0, D0, cy0, ax0⟩ := X0
  intro mi c hc
  have e : conAt 244 = some (190, c244) := rfl
  rw [e] at hc
  obtain ⟨rfl, rfl⟩ := Prod.mk.inj (Option.some.inj hc)
  have e2 : mt 190 = (yX3_readGroup, cX3_readGroup, 4, none) := rfl
  rw [e2]
  have h := chk_ok (l0 := l0) (D0 := D0) (cy0 := cy0) (ax0 := ax0) (y := yX3_readGroup) (cc := cX3_readGroup) (ret := none) k244 (mk_ok jX3_readGroup fX3_ok lX3_ok kX3_ok kkX3_ok H) rfl pnX3 nrV (fun h => by cases h) rfl
  exact h

/-! X3_readOne (('k', 125), ('c', 2), ('n',)) -/
def u245 : List (Nat × TP × EX × Nat × Nat) := []
theorem k245 : chk (mkD iX3_readOne fX3 lX3 kX3 kkX3 245 [(35, [196]), (43, [197]), (53, [182]), (61, [184]), (78, [188]), (89, [240]), (95, [180]), (112, [188]), (123, [238]), (133, [208]), (159, [244]), (167, [179])] c245 false 3 u245) 4000 = true := by decide +kernel
theorem m245 {X0 : zC0} (H : ∀ j, j < 245 → CMj X0 j) : CMj X0 245 := by
  obtain ⟨l0, D0, cy0, ax0⟩ := X0
  intro mi c hc
  have e : conAt 245 = some (193, c245) := rfl
  rw [e] at hc
  obtain ⟨rfl, rfl⟩ := Prod.mk.inj (Option.some.inj hc)
  have e2 : mt 193 = (yX3_readOne, cX3_readOne, 3, none) := rfl
  rw [e2]
  have h := chk_ok (l0 := l0) (D0 := D0) (cy0 := cy0) (ax0 := ax0) (y := yX3_readOne) (cc := cX3_readOne) (ret := none) k245 (mk_ok jX3_readOne fX3_ok lX3_ok kX3_ok kkX3_ok H) rfl pnX3 nrV (fun h => by cases h) rfl
  exact h

/-! X3_readProduct (('k', 125), ('c', 2), ('n',)) -/
def u246 : List (Nat × TP × EX × Nat × Nat) := [(8, ([(0, (2, 0, (0, []))), (1, (0, 0, (2, []))), (2, (0, 0, (0, [(1, 0)]))), (3, (0, 0, (0, [(1, 1)])))], [], ([(0, 1), (0, 300)], [], [], [125], [((125, (3, [])), (20, []))], [], []), [(0, 3, (0, []))], []), (300, [((-1), 1)]), 0, 0)]
theorem k246 : chk (mkD iX3_readProduct fX3 lX3 kX3 kkX3 246 [(3, [245]), (47, [177]), (53, [245]), (63, [199])] c246 false 5 u246) 4000 = true := by decide +kernel
theorem m246 {X0 : zC0} (H : ∀ j, j < 246 → CMj X0 j) : CMj X0 246 := by
  obtain ⟨l0, D0, cy0, ax0⟩ := X0
  intro mi c hc
  have e : conAt 246 = some (195, c246) := rfl
  rw [e] at hc
  obtain ⟨rfl, rfl⟩ := Prod.mk.inj (Option.some.inj hc)
  have e2 : mt 195 = (yX3_readProduct, cX3_readProduct, 5, none) := rfl
  rw [e2]
  have h := chk_ok (l0 := l0) (D0 := D0) (cy0 := cy0) (ax0 := ax0) (y := yX3_readProduct) (cc := cX3_readProduct) (ret := none) k246 (mk_ok jX3_readProduct fX3_ok lX3_ok kX3_ok kkX3_ok H) rfl pnX3 nrV (fun h => by cases h) rfl
  exact h

/-! X3_readSum (('k', 125), ('c', 2), ('n',)) -/
def u247 : List (Nat × TP × EX × Nat × Nat) := [(8, ([(0, (2, 0, (0, []))), (1, (0, 0, (2, []))), (2, (0, 0, (0, [(1, 0)]))), (3, (0, 0, (0, [(1, 1)])))], [], ([(0, 1), (0, 300)], [], [], [125], [((125, (3, [])), (20, []))], [], []), [(0, 3, (0, []))], []), (300, [((-1), 1)]), 0, 0)]
theorem k247 : chk (mkD iX3_readSum fX3 lX3 kX3 kkX3 247 [(3, [246]), (47, [177]), (53, [246]), (63, [199])] c247 false 5 u247) 4000 = true := by decide +kernel
theorem m247 {X0 : zC0} (H : ∀ j, j < 247 → CMj X0 j) : CMj X0 247 := by
  obtain ⟨l0, D0, cy0, ax0⟩ := X0
  intro mi c hc
  have e : conAt 247 = some (196, c247) := rfl
  rw [e] at hc
  obtain ⟨rfl, rfl⟩ := Prod.mk.inj (Option.some.inj hc)
  have e2 : mt 196 = (yX3_readSum, cX3_readSum, 5, none) := rfl
  rw [e2]
  have h := chk_ok (l0 := l0) (D0 := D0) (cy0 := cy0) (ax0 := ax0) (y := yX3_readSum) (cc := cX3_readSum) (ret := none) k247 (mk_ok jX3_readSum fX3_ok lX3_ok kX3_ok kkX3_ok H) rfl pnX3 nrV (fun h => by cases h) rfl
  exact h

/-! X3_readAsk (('k', 125), ('c', 2)) -/
def u248 : List (Nat × TP × EX × Nat × Nat) := []
theorem k248 : chk (mkD iX3_readAsk fX3 lX3 kX3 kkX3 248 [(11, [188]), (21, [241]), (31, [212]), (38, [247]), (84, [180]), (90, [247]), (99, [199]), (107, [179])] c248 false 3 u248) 4000 = true := by decide +kernel
theorem m248 {X0 : zC0} (H : ∀ j, j < 248 → CMj X0 j) : CMj X0 248 := by
  obtain ⟨l0, D0, cy0, ax0⟩ := X0
  intro mi c hc
  have e : conAt 248 = some (186, c248) := rfl
  rw [e] at hc
  obtain ⟨rfl, rfl⟩ := Prod.mk.inj (Option.some.inj hc)
  have e2 : mt 186 = (yX3_readAsk, cX3_readAsk, 3, none) := rfl
  rw [e2]
  have h := chk_ok (l0 := l0) (D0 := D0) (cy0 := cy0) (ax0 := ax0) (y := yX3_readAsk) (cc := cX3_readAsk) (ret := none) k248 (mk_ok jX3_readAsk fX3_ok lX3_ok kX3_ok kkX3_ok H) rfl pnX3 nrV (fun h => by cases h) rfl
  exact h

/-! X3_readBoth (('k', 125), ('c', 2)) -/
def u249 : List (Nat × TP × EX × Nat × Nat) := [(7, ([(0, (2, 0, (0, []))), (1, (0, 0, (2, []))), (2, (0, 0, (0, [(1, 0)])))], [], ([(0, 300)], [], [], [125], [((125, (3, [])), (20, []))], [], []), [(0, 2, (0, []))], []), (300, [((-1), 0)]), 0, 0)]
theorem k249 : chk (mkD iX3_readBoth fX3 lX3 kX3 kkX3 249 [(2, [248]), (31, [177]), (36, [248]), (46, [203])] c249 false 3 u249) 4000 = true := by decide +kernel
theorem m249 {X0 : zC0} (H : ∀ j, j < 249 → CMj X0 j) : CMj X0 249 := by
  obtain ⟨l0, D0, cy0, ax0⟩ := X0
  intro mi c hc
  have e : conAt 249 = some (187, c249) := rfl
  rw [e] at hc
  obtain ⟨rfl, rfl⟩ := Prod.mk.inj (Option.some.inj hc)
  have e2 : mt 187 = (yX3_readBoth, cX3_readBoth, 3, none) := rfl
  rw [e2]
  have h := chk_ok (l0 := l0) (D0 := D0) (cy0 := cy0) (ax0 := ax0) (y := yX3_readBoth) (cc := cX3_readBoth) (ret := none) k249 (mk_ok jX3_readBoth fX3_ok lX3_ok kX3_ok kkX3_ok H) rfl pnX3 nrV (fun h => by cases h) rfl
  exact h

/-! X3_readEither (('k', 125), ('c', 2)) -/
def u250 : List (Nat × TP × EX × Nat × Nat) := [(7, ([(0, (2, 0, (0, []))), (1, (0, 0, (2, []))), (2, (0, 0, (0, [(1, 0)])))], [], ([(0, 300)], [], [], [125], [((125, (3, [])), (20, []))], [], []), [(0, 2, (0, []))], []), (300, [((-1), 0)]), 0, 0)]
theorem k250 : chk (mkD iX3_readEither fX3 lX3 kX3 kkX3 250 [(2, [249]), (31, [177]), (36, [249]), (46, [205])] c250 false 3 u250) 4000 = true := by decide +kernel
theorem m250 {X0 : zC0} (H : ∀ j, j < 250 → CMj X0 j) : CMj X0 250 := by
  obtain ⟨l0, D0, cy0, ax0⟩ := X0
  intro mi c hc
  have e : conAt 250 = some (189, c250) := rfl
  rw [e] at hc
  obtain ⟨rfl, rfl⟩ := Prod.mk.inj (Option.some.inj hc)
  have e2 : mt 189 = (yX3_readEither, cX3_readEither, 3, none) := rfl
  rw [e2]
  have h := chk_ok (l0 := l0) (D0 := D0) (cy0 := cy0) (ax0 := ax0) (y := yX3_readEither) (cc := cX3_readEither) (ret := none) k250 (mk_ok jX3_readEither fX3_ok lX3_ok kX3_ok kkX3_ok H) rfl pnX3 nrV (fun h => by cases h) rfl
  exact h

/-! X3_readGroup (('k', 125), ('c', 1)) -/
def u251 : List (Nat × TP × EX × Nat × Nat) := []
theorem k251 : chk (mkD iX3_readGroup fX3 lX3 kX3 kkX3 251 [(25, [187]), (59, [186]), (86, [250]), (97, [247]), (119, [180])] c251 false 4 u251) 4000 = true := by decide +kernel
theorem m251 {X0 : zC0} (H : ∀ j, j < 251 → CMj X0 j) : CMj X0 251 := by
  obtain ⟨l0, D0, cy0, ax0⟩ := X0
  intro mi c hc
  have e : conAt 251 = some (190, c251) := rfl
  rw [e] at hc
  obtain ⟨rfl, rfl⟩ := Prod.mk.inj (Option.some.inj hc)
  have e2 : mt 190 = (yX3_readGroup, cX3_readGroup, 4, none) := rfl
  rw [e2]
  have h := chk_ok (l0 := l0) (D0 := D0) (cy0 := cy0) (ax0 := ax0) (y := yX3_readGroup) (cc := cX3_readGroup) (ret := none) k251 (mk_ok jX3_readGroup fX3_ok lX3_ok kX3_ok kkX3_ok H) rfl pnX3 nrV (fun h => by cases h) rfl
  exact h

/-! X3_readOne (('k', 125), ('c', 1), ('n',)) -/
def u252 : List (Nat × TP × EX × Nat × Nat) := []
theorem k252 : chk (mkD iX3_readOne fX3 lX3 kX3 kkX3 252 [(35, [196]), (43, [197]), (53, [182]), (61, [184]), (78, [187]), (89, [247]), (95, [180]), (112, [187]), (123, [245]), (133, [208]), (159, [251]), (167, [179])] c252 false 3 u252) 4000 = true := by decide +kernel
theorem m252 {X0 : zC0} (H : ∀ j, j < 252 → CMj X0 j) : CMj X0 252 := by
  obtain ⟨l0, D0, cy0, ax0⟩ := X0
  intro mi c hc
  have e : conAt 252 = some (193, c252) := rfl
  rw [e] at hc
  obtain ⟨rfl, rfl⟩ := Prod.mk.inj (Option.some.inj hc)
  have e2 : mt 193 = (yX3_readOne, cX3_readOne, 3, none) := rfl
  rw [e2]
  have h := chk_ok (l0 := l0) (D0 := D0) (cy0 := cy0) (ax0 := ax0) (y := yX3_readOne) (cc := cX3_readOne) (ret := none) k252 (mk_ok jX3_readOne fX3_ok lX3_ok kX3_ok kkX3_ok H) rfl pnX3 nrV (fun h => by cases h) rfl
  exact h

/-! X3_readProduct (('k', 125), ('c', 1), ('n',)) -/
def u253 : List (Nat × TP × EX × Nat × Nat) := [(8, ([(0, (2, 0, (0, []))), (1, (0, 0, (1, []))), (2, (0, 0, (0, [(1, 0)]))), (3, (0, 0, (0, [(1, 1)])))], [], ([(0, 1), (0, 300)], [], [], [125], [((125, (3, [])), (20, []))], [], []), [(0, 3, (0, []))], []), (300, [((-1), 1)]), 0, 0)]
theorem k253 : chk (mkD iX3_readProduct fX3 lX3 kX3 kkX3 253 [(3, [252]), (47, [177]), (53, [252]), (63, [199])] c253 false 5 u253) 4000 = true := by decide +kernel
theorem m253 {X0 : zC0} (H : ∀ j, j < 253 → CMj X0 j) : CMj X0 253 := by
  obtain ⟨l0, D0, cy0, ax0⟩ := X0
  intro mi c hc
  have e : conAt 253 = some (195, c253) := rfl
  rw [e] at hc
  obtain ⟨rfl, rfl⟩ := Prod.mk.inj (Option.some.inj hc)
  have e2 : mt 195 = (yX3_readProduct, cX3_readProduct, 5, none) := rfl
  rw [e2]
  have h := chk_ok (l0 := l0) (D0 := D0) (cy0 := cy0) (ax0 := ax0) (y := yX3_readProduct) (cc := cX3_readProduct) (ret := none) k253 (mk_ok jX3_readProduct fX3_ok lX3_ok kX3_ok kkX3_ok H) rfl pnX3 nrV (fun h => by cases h) rfl
  exact h

/-! X3_readSum (('k', 125), ('c', 1), ('n',)) -/
def u254 : List (Nat × TP × EX × Nat × Nat) := [(8, ([(0, (2, 0, (0, []))), (1, (0, 0, (1, []))), (2, (0, 0, (0, [(1, 0)]))), (3, (0, 0, (0, [(1, 1)])))], [], ([(0, 1), (0, 300)], [], [], [125], [((125, (3, [])), (20, []))], [], []), [(0, 3, (0, []))], []), (300, [((-1), 1)]), 0, 0)]
theorem k254 : chk (mkD iX3_readSum fX3 lX3 kX3 kkX3 254 [(3, [253]), (47, [177]), (53, [253]), (63, [199])] c254 false 5 u254) 4000 = true := by decide +kernel
theorem m254 {X0 : zC0} (H : ∀ j, j < 254 → CMj X0 j) : CMj X0 254 := by
  obtain ⟨l0, D0, cy0, ax0⟩ := X0
  intro mi c hc
  have e : conAt 254 = some (196, c254) := rfl
  rw [e] at hc
  obtain ⟨rfl, rfl⟩ := Prod.mk.inj (Option.some.inj hc)
  have e2 : mt 196 = (yX3_readSum, cX3_readSum, 5, none) := rfl
  rw [e2]
  have h := chk_ok (l0 := l0) (D0 := D0) (cy0 := cy0) (ax0 := ax0) (y := yX3_readSum) (cc := cX3_readSum) (ret := none) k254 (mk_ok jX3_readSum fX3_ok lX3_ok kX3_ok kkX3_ok H) rfl pnX3 nrV (fun h => by cases h) rfl
  exact h

/-! X3_readAsk (('k', 125), ('c', 1)) -/
def u255 : List (Nat × TP × EX × Nat × Nat) := []
theorem k255 : chk (mkD iX3_readAsk fX3 lX3 kX3 kkX3 255 [(11, [187]), (21, [248]), (31, [212]), (38, [254]), (84, [180]), (90, [254]), (99, [199]), (107, [179])] c255 false 3 u255) 4000 = true := by decide +kernel
theorem m255 {X0 : zC0} (H : ∀ j, j < 255 → CMj X0 j) : CMj X0 255 := by
  obtain ⟨l0, D0, cy0, ax0⟩ := X0
  intro mi c hc
  have e : conAt 255 = some (186, c255) := rfl
  rw [e] at hc
  obtain ⟨rfl, rfl⟩ := Prod.mk.inj (Option.some.inj hc)
  have e2 : mt 186 = (yX3_readAsk, cX3_readAsk, 3, none) := rfl
  rw [e2]
  have h := chk_ok (l0 := l0) (D0 := D0) (cy0 := cy0) (ax0 := ax0) (y := yX3_readAsk) (cc := cX3_readAsk) (ret := none) k255 (mk_ok jX3_readAsk fX3_ok lX3_ok kX3_ok kkX3_ok H) rfl pnX3 nrV (fun h => by cases h) rfl
  exact h

/-! X3_readBoth (('k', 125), ('c', 1)) -/
def u256 : List (Nat × TP × EX × Nat × Nat) := [(7, ([(0, (2, 0, (0, []))), (1, (0, 0, (1, []))), (2, (0, 0, (0, [(1, 0)])))], [], ([(0, 300)], [], [], [125], [((125, (3, [])), (20, []))], [], []), [(0, 2, (0, []))], []), (300, [((-1), 0)]), 0, 0)]
theorem k256 : chk (mkD iX3_readBoth fX3 lX3 kX3 kkX3 256 [(2, [255]), (31, [177]), (36, [255]), (46, [203])] c256 false 3 u256) 4000 = true := by decide +kernel
theorem m256 {X0 : zC0} (H : ∀ j, j < 256 → CMj X0 j) : CMj X0 256 := by
  obtain ⟨l0, D0, cy0, ax0⟩ := X0
  intro mi c hc
  have e : conAt 256 = some (187, c256) := rfl
  rw [e] at hc
  obtain ⟨rfl, rfl⟩ := Prod.mk.inj (Option.some.inj hc)
  have e2 : mt 187 = (yX3_readBoth, cX3_readBoth, 3, none) := rfl
  rw [e2]
  have h := chk_ok (l0 := l0) (D0 := D0) (cy0 := cy0) (ax0 := ax0) (y := yX3_readBoth) (cc := cX3_readBoth) (ret := none) k256 (mk_ok jX3_readBoth fX3_ok lX3_ok kX3_ok kkX3_ok H) rfl pnX3 nrV (fun h => by cases h) rfl
  exact h

/-! X3_readEither (('k', 125), ('c', 1)) -/
def u257 : List (Nat × TP × EX × Nat × Nat) := [(7, ([(0, (2, 0, (0, []))), (1, (0, 0, (1, []))), (2, (0, 0, (0, [(1, 0)])))], [], ([(0, 300)], [], [], [125], [((125, (3, [])), (20, []))], [], []), [(0, 2, (0, []))], []), (300, [((-1), 0)]), 0, 0)]
theorem k257 : chk (mkD iX3_readEither fX3 lX3 kX3 kkX3 257 [(2, [256]), (31, [177]), (36, [256]), (46, [205])] c257 false 3 u257) 4000 = true := by decide +kernel
theorem m257 {X0 : zC0} (H : ∀ j, j < 257 → CMj X0 j) : CMj X0 257 := by
  obtain ⟨l0, D0, cy0, ax0⟩ := X0
  intro mi c hc
  have e : conAt 257 = some (189, c257) := rfl
  rw [e] at hc
  obtain ⟨rfl, rfl⟩ := Prod.mk.inj (Option.some.inj hc)
  have e2 : mt 189 = (yX3_readEither, cX3_readEither, 3, none) := rfl
  rw [e2]
  have h := chk_ok (l0 := l0) (D0 := D0) (cy0 := cy0) (ax0 := ax0) (y := yX3_readEither) (cc := cX3_readEither) (ret := none) k257 (mk_ok jX3_readEither fX3_ok lX3_ok kX3_ok kkX3_ok H) rfl pnX3 nrV (fun h => by cases h) rfl
  exact h

/-! X3_readGroup (('k', 125), ('c', 0)) -/
def u258 : List (Nat × TP × EX × Nat × Nat) := []
theorem k258 : chk (mkD iX3_readGroup fX3 lX3 kX3 kkX3 258 [(25, [185]), (59, [186]), (86, [257]), (97, [254]), (119, [180])] c258 false 4 u258) 4000 = true := by decide +kernel
theorem m258 {X0 : zC0} (H : ∀ j, j < 258 → CMj X0 j) : CMj X0 258 := by
  obtain ⟨l0, D0, cy0, ax0⟩ := X0
  intro mi c hc
  have e : conAt 258 = some (190, c258) := rfl
  rw [e] at hc
  obtain ⟨rfl, rfl⟩ := Prod.mk.inj (Option.some.inj hc)
  have e2 : mt 190 = (yX3_readGroup, cX3_readGroup, 4, none) := rfl
  rw [e2]
  have h := chk_ok (l0 := l0) (D0 := D0) (cy0 := cy0) (ax0 := ax0) (y := yX3_readGroup) (cc := cX3_readGroup) (ret := none) k258 (mk_ok jX3_readGroup fX3_ok lX3_ok kX3_ok kkX3_ok H) rfl pnX3 nrV (fun h => by cases h) rfl
  exact h

/-! X3_readOne (('k', 125), ('c', 0), ('n',)) -/
def u259 : List (Nat × TP × EX × Nat × Nat) := []
theorem k259 : chk (mkD iX3_readOne fX3 lX3 kX3 kkX3 259 [(35, [196]), (43, [197]), (53, [182]), (61, [184]), (78, [185]), (89, [254]), (95, [180]), (112, [185]), (123, [252]), (133, [208]), (159, [258]), (167, [179])] c259 false 3 u259) 4000 = true := by decide +kernel
theorem m259 {X0 : zC0} (H : ∀ j, j < 259 → CMj X0 j) : CMj X0 259 := by
  obtain ⟨l0, D0, cy0, ax0⟩ := X0
  intro mi c hc
  have e : conAt 259 = some (193, c259) := rfl
  rw [e] at hc
  obtain ⟨rfl, rfl⟩ := Prod.mk.inj (Option.some.inj hc)
  have e2 : mt 193 = (yX3_readOne, cX3_readOne, 3, none) := rfl
  rw [e2]
  have h := chk_ok (l0 := l0) (D0 := D0) (cy0 := cy0) (ax0 := ax0) (y := yX3_readOne) (cc := cX3_readOne) (ret := none) k259 (mk_ok jX3_readOne fX3_ok lX3_ok kX3_ok kkX3_ok H) rfl pnX3 nrV (fun h => by cases h) rfl
  exact h

/-! X3_readProduct (('k', 125), ('c', 0), ('n',)) -/
def u260 : List (Nat × TP × EX × Nat × Nat) := [(8, ([(0, (2, 0, (0, []))), (1, (0, 0, (0, []))), (2, (0, 0, (0, [(1, 0)]))), (3, (0, 0, (0, [(1, 1)])))], [], ([(0, 1), (0, 300)], [], [], [125], [((125, (3, [])), (20, []))], [], []), [(0, 3, (0, []))], []), (300, [((-1), 1)]), 0, 0)]
theorem k260 : chk (mkD iX3_readProduct fX3 lX3 kX3 kkX3 260 [(3, [259]), (47, [177]), (53, [259]), (63, [199])] c260 false 5 u260) 4000 = true := by decide +kernel
theorem m260 {X0 : zC0} (H : ∀ j, j < 260 → CMj X0 j) : CMj X0 260 := by
  obtain ⟨l0, D0, cy0, ax0⟩ := X0
  intro mi c hc
  have e : conAt 260 = some (195, c260) := rfl
  rw [e] at hc
  obtain ⟨rfl, rfl⟩ := Prod.mk.inj (Option.some.inj hc)
  have e2 : mt 195 = (yX3_readProduct, cX3_readProduct, 5, none) := rfl
  rw [e2]
  have h := chk_ok (l0 := l0) (D0 := D0) (cy0 := cy0) (ax0 := ax0) (y := yX3_readProduct) (cc := cX3_readProduct) (ret := none) k260 (mk_ok jX3_readProduct fX3_ok lX3_ok kX3_ok kkX3_ok H) rfl pnX3 nrV (fun h => by cases h) rfl
  exact h

/-! X3_readSum (('k', 125), ('c', 0), ('n',)) -/
def u261 : List (Nat × TP × EX × Nat × Nat) := [(8, ([(0, (2, 0, (0, []))), (1, (0, 0, (0, []))), (2, (0, 0, (0, [(1, 0)]))), (3, (0, 0, (0, [(1, 1)])))], [], ([(0, 1), (0, 300)], [], [], [125], [((125, (3, [])), (20, []))], [], []), [(0, 3, (0, []))], []), (300, [((-1), 1)]), 0, 0)]
theorem k261 : chk (mkD iX3_readSum fX3 lX3 kX3 kkX3 261 [(3, [260]), (47, [177]), (53, [260]), (63, [199])] c261 false 5 u261) 4000 = true := by decide +kernel
theorem m261 {X0 : zC0} (H : ∀ j, j < 261 → CMj X0 j) : CMj X0 261 := by
  obtain ⟨l0, D0, cy0, ax0⟩ := X0
  intro mi c hc
  have e : conAt 261 = some (196, c261) := rfl
  rw [e] at hc
  obtain ⟨rfl, rfl⟩ := Prod.mk.inj (Option.some.inj hc)
  have e2 : mt 196 = (yX3_readSum, cX3_readSum, 5, none) := rfl
  rw [e2]
  have h := chk_ok (l0 := l0) (D0 := D0) (cy0 := cy0) (ax0 := ax0) (y := yX3_readSum) (cc := cX3_readSum) (ret := none) k261 (mk_ok jX3_readSum fX3_ok lX3_ok kX3_ok kkX3_ok H) rfl pnX3 nrV (fun h => by cases h) rfl
  exact h
