/-! X3_opens (('k', 125), ('c', 1)) -/
def u202 : List (Nat × TP × EX × Nat × Nat) := []
theorem k202 : chk (mkD iX3_opens fX3 lX3 kX3 kkX3 202 [(21, [191])] c202 true 2 u202) 4000 = true := by decide +kernel
theorem m202 {X0 : zC0} (H : ∀ j, j < 202 → CMj X0 j) : CMj X0 202 := by
  obtain ⟨l0, D0, cy0, ax0⟩ := X0
  intro mi c hc
  have e : conAt 202 = some (229, c202) := rfl
  rw [e] at hc
  obtain ⟨rfl, rfl⟩ := Prod.mk.inj (Option.some.inj hc)
  have e2 : mt 229 = (yX3_opens, cX3_opens, 2, (some .boolean)) := rfl
  rw [e2]
  have h := chk_ok (l0 := l0) (D0 := D0) (cy0 := cy0) (ax0 := ax0) (y := yX3_opens) (cc := cX3_opens) (ret := (some .boolean)) k202 (mk_ok jX3_opens fX3_ok lX3_ok kX3_ok kkX3_ok H) ⟨_, rfl⟩ pnX3 (fun h => by cases h) (fun _ => rfl) rfl
  exact h

/-! X3_opens (('k', 125), ('c', 2)) -/
def u203 : List (Nat × TP × EX × Nat × Nat) := []
theorem k203 : chk (mkD iX3_opens fX3 lX3 kX3 kkX3 203 [(21, [191])] c203 true 2 u203) 4000 = true := by decide +kernel
theorem m203 {X0 : zC0} (H : ∀ j, j < 203 → CMj X0 j) : CMj X0 203 := by
  obtain ⟨l0, D0, cy0, ax0⟩ := X0
  intro mi c hc
  have e : conAt 203 = some (229, c203) := rfl
  rw [e] at hc
  obtain ⟨rfl, rfl⟩ := Prod.mk.inj (Option.some.inj hc)
  have e2 : mt 229 = (yX3_opens, cX3_opens, 2, (some .boolean)) := rfl
  rw [e2]
  have h := chk_ok (l0 := l0) (D0 := D0) (cy0 := cy0) (ax0 := ax0) (y := yX3_opens) (cc := cX3_opens) (ret := (some .boolean)) k203 (mk_ok jX3_opens fX3_ok lX3_ok kX3_ok kkX3_ok H) ⟨_, rfl⟩ pnX3 (fun h => by cases h) (fun _ => rfl) rfl
  exact h

/-! X3_opens (('k', 125), ('c', 3)) -/
def u204 : List (Nat × TP × EX × Nat × Nat) := []
theorem k204 : chk (mkD iX3_opens fX3 lX3 kX3 kkX3 204 [(21, [191])] c204 true 2 u204) 4000 = true := by decide +kernel
theorem m204 {X0 : zC0} (H : ∀ j, j < 204 → CMj X0 j) : CMj X0 204 := by
  obtain ⟨l0, D0, cy0, ax0⟩ := X0
  intro mi c hc
  have e : conAt 204 = some (229, c204) := rfl
  rw [e] at hc
  obtain ⟨rfl, rfl⟩ := Prod.mk.inj (Option.some.inj hc)
  have e2 : mt 229 = (yX3_opens, cX3_opens, 2, (some .boolean)) := rfl
  rw [e2]
  have h := chk_ok (l0 := l0) (D0 := D0) (cy0 := cy0) (ax0 := ax0) (y := yX3_opens) (cc := cX3_opens) (ret := (some .boolean)) k204 (mk_ok jX3_opens fX3_ok lX3_ok kX3_ok kkX3_ok H) ⟨_, rfl⟩ pnX3 (fun h => by cases h) (fun _ => rfl) rfl
  exact h

/-! X3_opens (('k', 125), ('c', 4)) -/
def u205 : List (Nat × TP × EX × Nat × Nat) := []
theorem k205 : chk (mkD iX3_opens fX3 lX3 kX3 kkX3 205 [(21, [191])] c205 true 2 u205) 4000 = true := by decide +kernel
theorem m205 {X0 : zC0} (H : ∀ j, j < 205 → CMj X0 j) : CMj X0 205 := by
  obtain ⟨l0, D0, cy0, ax0⟩ := X0
  intro mi c hc
  have e : conAt 205 = some (229, c205) := rfl
  rw [e] at hc
  obtain ⟨rfl, rfl⟩ := Prod.mk.inj (Option.some.inj hc)
  have e2 : mt 229 = (yX3_opens, cX3_opens, 2, (some .boolean)) := rfl
  rw [e2]
  have h := chk_ok (l0 := l0) (D0 := D0) (cy0 := cy0) (ax0 := ax0) (y := yX3_opens) (cc := cX3_opens) (ret := (some .boolean)) k205 (mk_ok jX3_opens fX3_ok lX3_ok kX3_ok kkX3_ok H) ⟨_, rfl⟩ pnX3 (fun h => by cases h) (fun _ => rfl) rfl
  exact h

/-! X3_opens (('k', 125), ('c', 5)) -/
def u206 : List (Nat × TP × EX × Nat × Nat) := []
theorem k206 : chk (mkD iX3_opens fX3 lX3 kX3 kkX3 206 [(21, [191])] c206 true 2 u206) 4000 = true := by decide +kernel
theorem m206 {X0 : zC0} (H : ∀ j, j < 206 → CMj X0 j) : CMj X0 206 := by
  obtain ⟨l0, D0, cy0, ax0⟩ := X0
  intro mi c hc
  have e : conAt 206 = some (229, c206) := rfl
  rw [e] at hc
  obtain ⟨rfl, rfl⟩ := Prod.mk.inj (Option.some.inj hc)
  have e2 : mt 229 = (yX3_opens, cX3_opens, 2, (some .boolean)) := rfl
  rw [e2]
  have h := chk_ok (l0 := l0) (D0 := D0) (cy0 := cy0) (ax0 := ax0) (y := yX3_opens) (cc := cX3_opens) (ret := (some .boolean)) k206 (mk_ok jX3_opens fX3_ok lX3_ok kX3_ok kkX3_ok H) ⟨_, rfl⟩ pnX3 (fun h => by cases h) (fun _ => rfl) rfl
  exact h

/-! X3_opens (('k', 125), ('c', 6)) -/
def u207 : List (Nat × TP × EX × Nat × Nat) := []
theorem k207 : chk (mkD iX3_opens fX3 lX3 kX3 kkX3 207 [(21, [191])] c207 true 2 u207) 4000 = true := by decide +kernel
theorem m207 {X0 : zC0} (H : ∀ j, j < 207 → CMj X0 j) : CMj X0 207 := by
  obtain ⟨l0, D0, cy0, ax0⟩ := X0
  intro mi c hc
  have e : conAt 207 = some (229, c207) := rfl
  rw [e] at hc
  obtain ⟨rfl, rfl⟩ := Prod.mk.inj (Option.some.inj hc)
  have e2 : mt 229 = (yX3_opens, cX3_opens, 2, (some .boolean)) := rfl
  rw [e2]
  have h := chk_ok (l0 := l0) (D0 := D0) (cy0 := cy0) (ax0 := ax0) (y := yX3_opens) (cc := cX3_opens) (ret := (some .boolean)) k207 (mk_ok jX3_opens fX3_ok lX3_ok kX3_ok kkX3_ok H) ⟨_, rfl⟩ pnX3 (fun h => by cases h) (fun _ => rfl) rfl
  exact h

/-! X3_opens (('k', 125), ('c', 7)) -/
def u208 : List (Nat × TP × EX × Nat × Nat) := []
theorem k208 : chk (mkD iX3_opens fX3 lX3 kX3 kkX3 208 [(21, [191])] c208 true 2 u208) 4000 = true := by decide +kernel
theorem m208 {X0 : zC0} (H : ∀ j, j < 208 → CMj X0 j) : CMj X0 208 := by
  obtain ⟨l0, D0, cy0, ax0⟩ := X0
  intro mi c hc
  have e : conAt 208 = some (229, c208) := rfl
  rw [e] at hc
  obtain ⟨rfl, rfl⟩ := Prod.mk.inj (Option.some.inj hc)
  have e2 : mt 229 = (yX3_opens, cX3_opens, 2, (some .boolean)) := rfl
  rw [e2]
  have h := chk_ok (l0 := l0) (D0 := D0) (cy0 := cy0) (ax0 := ax0) (y := yX3_opens) (cc := cX3_opens) (ret := (some .boolean)) k208 (mk_ok jX3_opens fX3_ok lX3_ok kX3_ok kkX3_ok H) ⟨_, rfl⟩ pnX3 (fun h => by cases h) (fun _ => rfl) rfl
  exact h

/-! X3_opens (('k', 125), ('c', 8)) -/
def u209 : List (Nat × TP × EX × Nat × Nat) := []
theorem k209 : chk (mkD iX3_opens fX3 lX3 kX3 kkX3 209 [(8, [192]), (21, [191])] c209 true 2 u209) 4000 = true := by decide +kernel
theorem m209 {X0 : zC0} (H : ∀ j, j < 209 → CMj X0 j) : CMj X0 209 := by
  obtain ⟨l0, D0, cy0, ax0⟩ := X0
  intro mi c hc
  have e : conAt 209 = some (229, c209) := rfl
  rw [e] at hc
  obtain ⟨rfl, rfl⟩ := Prod.mk.inj (Option.some.inj hc)
  have e2 : mt 229 = (yX3_opens, cX3_opens, 2, (some .boolean)) := rfl
  rw [e2]
  have h := chk_ok (l0 := l0) (D0 := D0) (cy0 := cy0) (ax0 := ax0) (y := yX3_opens) (cc := cX3_opens) (ret := (some .boolean)) k209 (mk_ok jX3_opens fX3_ok lX3_ok kX3_ok kkX3_ok H) ⟨_, rfl⟩ pnX3 (fun h => by cases h) (fun _ => rfl) rfl
  exact h

/-! X3_readGroup (('k', 125), ('c', 8)) -/
def u210 : List (Nat × TP × EX × Nat × Nat) := []
theorem k210 : chk (mkD iX3_readGroup fX3 lX3 kX3 kkX3 210 [(25, [209])] c210 false 4 u210) 4000 = true := by decide +kernel
theorem m210 {X0 : zC0} (H : ∀ j, j < 210 → CMj X0 j) : CMj X0 210 := by
  obtain ⟨l0, D0, cy0, ax0⟩ := X0
  intro mi c hc
  have e : conAt 210 = some (234, c210) := rfl
  rw [e] at hc
  obtain ⟨rfl, rfl⟩ := Prod.mk.inj (Option.some.inj hc)
  have e2 : mt 234 = (yX3_readGroup, cX3_readGroup, 4, none) := rfl
  rw [e2]
  have h := chk_ok (l0 := l0) (D0 := D0) (cy0 := cy0) (ax0 := ax0) (y := yX3_readGroup) (cc := cX3_readGroup) (ret := none) k210 (mk_ok jX3_readGroup fX3_ok lX3_ok kX3_ok kkX3_ok H) rfl pnX3 nrV (fun h => by cases h) rfl
  exact h

/-! X3_readOne (('k', 125), ('c', 8), ('n',)) -/
def u212 : List (Nat × TP × EX × Nat × Nat) := []
theorem k212 : chk (mkD iX3_readOne fX3 lX3 kX3 kkX3 212 [(35, [211]), (43, [193]), (53, [197]), (61, [199]), (78, [209]), (112, [209]), (159, [210]), (167, [192])] c212 false 3 u212) 4000 = true := by decide +kernel
theorem m212 {X0 : zC0} (H : ∀ j, j < 212 → CMj X0 j) : CMj X0 212 := by
  obtain ⟨l0, D0, cy0, ax0⟩ := X0
  intro mi c hc
  have e : conAt 212 = some (237, c212) := rfl
  rw [e] at hc
  obtain ⟨rfl, rfl⟩ := Prod.mk.inj (Option.some.inj hc)
  have e2 : mt 237 = (yX3_readOne, cX3_readOne, 3, none) := rfl
  rw [e2]
  have h := chk_ok (l0 := l0) (D0 := D0) (cy0 := cy0) (ax0 := ax0) (y := yX3_readOne) (cc := cX3_readOne) (ret := none) k212 (mk_ok jX3_readOne fX3_ok lX3_ok kX3_ok kkX3_ok H) rfl pnX3 nrV (fun h => by cases h) rfl
  exact h

/-! X3_readProduct (('k', 125), ('c', 8), ('n',)) -/
def u214 : List (Nat × TP × EX × Nat × Nat) := [(8, ([(0, (2, 0, (0, []))), (1, (0, 0, (8, []))), (2, (0, 0, (0, [(1, 0)]))), (3, (0, 0, (0, [(1, 1)])))], [], ([(0, 1), (0, 300)], [], [], [125], [((125, (3, [])), (20, []))], [], []), [(0, 3, (0, []))], []), (300, [((-1), 1)]), 0, 0)]
theorem k214 : chk (mkD iX3_readProduct fX3 lX3 kX3 kkX3 214 [(3, [212]), (47, [191]), (53, [212]), (63, [213])] c214 false 5 u214) 4000 = true := by decide +kernel
theorem m214 {X0 : zC0} (H : ∀ j, j < 214 → CMj X0 j) : CMj X0 214 := by
  obtain ⟨l0, D0, cy0, ax0⟩ := X0
  intro mi c hc
  have e : conAt 214 = some (239, c214) := rfl
  rw [e] at hc
  obtain ⟨rfl, rfl⟩ := Prod.mk.inj (Option.some.inj hc)
  have e2 : mt 239 = (yX3_readProduct, cX3_readProduct, 5, none) := rfl
  rw [e2]
  have h := chk_ok (l0 := l0) (D0 := D0) (cy0 := cy0) (ax0 := ax0) (y := yX3_readProduct) (cc := cX3_readProduct) (ret := none) k214 (mk_ok jX3_readProduct fX3_ok lX3_ok kX3_ok kkX3_ok H) rfl pnX3 nrV (fun h => by cases h) rfl
  exact h

/-! X3_readSum (('k', 125), ('c', 8), ('n',)) -/
def u215 : List (Nat × TP × EX × Nat × Nat) := [(8, ([(0, (2, 0, (0, []))), (1, (0, 0, (8, []))), (2, (0, 0, (0, [(1, 0)]))), (3, (0, 0, (0, [(1, 1)])))], [], ([(0, 1), (0, 300)], [], [], [125], [((125, (3, [])), (20, []))], [], []), [(0, 3, (0, []))], []), (300, [((-1), 1)]), 0, 0)]
theorem k215 : chk (mkD iX3_readSum fX3 lX3 kX3 kkX3 215 [(3, [214]), (47, [191]), (53, [214]), (63, [213])] c215 false 5 u215) 4000 = true := by decide +kernel
theorem m215 {X0 : zC0} (H : ∀ j, j < 215 → CMj X0 j) : CMj X0 215 := by
  obtain ⟨l0, D0, cy0, ax0⟩ := X0
  intro mi c hc
  have e : conAt 215 = some (240, c215) := rfl
  rw [e] at hc
  obtain ⟨rfl, rfl⟩ := Prod.mk.inj (Option.some.inj hc)
  have e2 : mt 240 = (yX3_readSum, cX3_readSum, 5, none) := rfl
  rw [e2]
  have h := chk_ok (l0 := l0) (D0 := D0) (cy0 := cy0) (ax0 := ax0) (y := yX3_readSum) (cc := cX3_readSum) (ret := none) k215 (mk_ok jX3_readSum fX3_ok lX3_ok kX3_ok kkX3_ok H) rfl pnX3 nrV (fun h => by cases h) rfl
  exact h

/-! X3_readAsk (('k', 125), ('c', 8)) -/
def u216 : List (Nat × TP × EX × Nat × Nat) := []
theorem k216 : chk (mkD iX3_readAsk fX3 lX3 kX3 kkX3 216 [(11, [209]), (38, [215]), (84, [194]), (90, [215]), (99, [213]), (107, [192])] c216 false 3 u216) 4000 = true := by decide +kernel
theorem m216 {X0 : zC0} (H : ∀ j, j < 216 → CMj X0 j) : CMj X0 216 := by
  obtain ⟨l0, D0, cy0, ax0⟩ := X0
  intro mi c hc
  have e : conAt 216 = some (230, c216) := rfl
  rw [e] at hc
  obtain ⟨rfl, rfl⟩ := Prod.mk.inj (Option.some.inj hc)
  have e2 : mt 230 = (yX3_readAsk, cX3_readAsk, 3, none) := rfl
  rw [e2]
  have h := chk_ok (l0 := l0) (D0 := D0) (cy0 := cy0) (ax0 := ax0) (y := yX3_readAsk) (cc := cX3_readAsk) (ret := none) k216 (mk_ok jX3_readAsk fX3_ok lX3_ok kX3_ok kkX3_ok H) rfl pnX3 nrV (fun h => by cases h) rfl
  exact h

/-! X3_readBoth (('k', 125), ('c', 8)) -/
def u218 : List (Nat × TP × EX × Nat × Nat) := [(7, ([(0, (2, 0, (0, []))), (1, (0, 0, (8, []))), (2, (0, 0, (0, [(1, 0)])))], [], ([(0, 300)], [], [], [125], [((125, (3, [])), (20, []))], [], []), [(0, 2, (0, []))], []), (300, [((-1), 0)]), 0, 0)]
theorem k218 : chk (mkD iX3_readBoth fX3 lX3 kX3 kkX3 218 [(2, [216]), (31, [191]), (36, [216]), (46, [217])] c218 false 3 u218) 4000 = true := by decide +kernel
theorem m218 {X0 : zC0} (H : ∀ j, j < 218 → CMj X0 j) : CMj X0 218 := by
  obtain ⟨l0, D0, cy0, ax0⟩ := X0
  intro mi c hc
  have e : conAt 218 = some (231, c218) := rfl
  rw [e] at hc
  obtain ⟨rfl, rfl⟩ := Prod.mk.inj (Option.some.inj hc)
  have e2 : mt 231 = (yX3_readBoth, cX3_readBoth, 3, none) := rfl
  rw [e2]
  have h := chk_ok (l0 := l0) (D0 := D0) (cy0 := cy0) (ax0 := ax0) (y := yX3_readBoth) (cc := cX3_readBoth) (ret := none) k218 (mk_ok jX3_readBoth fX3_ok lX3_ok kX3_ok kkX3_ok H) rfl pnX3 nrV (fun h => by cases h) rfl
  exact h

/-! X3_readEither (('k', 125), ('c', 8)) -/
def u220 : List (Nat × TP × EX × Nat × Nat) := [(7, ([(0, (2, 0, (0, []))), (1, (0, 0, (8, []))), (2, (0, 0, (0, [(1, 0)])))], [], ([(0, 300)], [], [], [125], [((125, (3, [])), (20, []))], [], []), [(0, 2, (0, []))], []), (300, [((-1), 0)]), 0, 0)]
theorem k220 : chk (mkD iX3_readEither fX3 lX3 kX3 kkX3 220 [(2, [218]), (31, [191]), (36, [218]), (46, [219])] c220 false 3 u220) 4000 = true := by decide +kernel
theorem m220 {X0 : zC0} (H : ∀ j, j < 220 → CMj X0 j) : CMj X0 220 := by
  obtain ⟨l0, D0, cy0, ax0⟩ := X0
  intro mi c hc
  have e : conAt 220 = some (233, c220) := rfl
  rw [e] at hc
  obtain ⟨rfl, rfl⟩ := Prod.mk.inj (Option.some.inj hc)
  have e2 : mt 233 = (yX3_readEither, cX3_readEither, 3, none) := rfl
  rw [e2]
  have h := chk_ok (l0 := l0) (D0 := D0) (cy0 := cy0) (ax0 := ax0) (y := yX3_readEither) (cc := cX3_readEither) (ret := none) k220 (mk_ok jX3_readEither fX3_ok lX3_ok kX3_ok kkX3_ok H) rfl pnX3 nrV (fun h => by cases h) rfl
  exact h

/-! X3_readGroup (('k', 125), ('c', 7)) -/
def u221 : List (Nat × TP × EX × Nat × Nat) := []
theorem k221 : chk (mkD iX3_readGroup fX3 lX3 kX3 kkX3 221 [(25, [208]), (59, [201]), (86, [220]), (97, [215]), (119, [194])] c221 false 4 u221) 4000 = true := by decide +kernel
theorem m221 {X0 : zC0} (H : ∀ j, j < 221 → CMj X0 j) : CMj X0 221 := by
  obtain ⟨l0, D0, cy0, ax0⟩ := X0
  intro mi c hc
  have e : conAt 221 = some (234, c221) := rfl
  rw [e] at hc
  obtain ⟨rfl, rfl⟩ := Prod.mk.inj (Option.some.inj hc)
  have e2 : mt 234 = (yX3_readGroup, cX3_readGroup, 4, none) := rfl
  rw [e2]
  have h := chk_ok (l0 := l0) (D0 := D0) (cy0 := cy0) (ax0 := ax0) (y := yX3_readGroup) (cc := cX3_readGroup) (ret := none) k221 (mk_ok jX3_readGroup fX3_ok lX3_ok kX3_ok kkX3_ok H) rfl pnX3 nrV (fun h => by cases h) rfl
  exact h

/-! X3_readOne (('k', 125), ('c', 7), ('n',)) -/
def u223 : List (Nat × TP × EX × Nat × Nat) := []
theorem k223 : chk (mkD iX3_readOne fX3 lX3 kX3 kkX3 223 [(35, [211]), (43, [193]), (53, [197]), (61, [199]), (78, [208]), (89, [215]), (95, [194]), (112, [208]), (123, [212]), (133, [222]), (159, [221]), (167, [192])] c223 false 3 u223) 4000 = true := by decide +kernel
theorem m223 {X0 : zC0} (H : ∀ j, j < 223 → CMj X0 j) : CMj X0 223 := by
  obtain ⟨l0, D0, cy0, ax0⟩ := X0
  intro mi c hc
  have e : conAt 223 = some (237, c223) := rfl
  rw [e] at hc
  obtain ⟨rfl, rfl⟩ := Prod.mk.inj (Option.some.inj hc)
  have e2 : mt 237 = (yX3_readOne, cX3_readOne, 3, none) := rfl
  rw [e2]
  have h := chk_ok (l0 := l0) (D0 := D0) (cy0 := cy0) (ax0 := ax0) (y := yX3_readOne) (cc := cX3_readOne) (ret := none) k223 (mk_ok jX3_readOne fX3_ok lX3_ok kX3_ok kkX3_ok H) rfl pnX3 nrV (fun h => by cases h) rfl
  exact h

/-! X3_readProduct (('k', 125), ('c', 7), ('n',)) -/
def u224 : List (Nat × TP × EX × Nat × Nat) := [(8, ([(0, (2, 0, (0, []))), (1, (0, 0, (7, []))), (2, (0, 0, (0, [(1, 0)]))), (3, (0, 0, (0, [(1, 1)])))], [], ([(0, 1), (0, 300)], [], [], [125], [((125, (3, [])), (20, []))], [], []), [(0, 3, (0, []))], []), (300, [((-1), 1)]), 0, 0)]
theorem k224 : chk (mkD iX3_readProduct fX3 lX3 kX3 kkX3 224 [(3, [223]), (47, [191]), (53, [223]), (63, [213])] c224 false 5 u224) 4000 = true := by decide +kernel
theorem m224 {X0 : zC0} (H : ∀ j, j < 224 → CMj X0 j) : CMj X0 224 := by
  obtain ⟨l0, D0, cy0, ax0⟩ := X0
  intro mi c hc
  have e : conAt 224 = some (239, c224) := rfl
  rw [e] at hc
  obtain ⟨rfl, rfl⟩ := Prod.mk.inj (Option.some.inj hc)
  have e2 : mt 239 = (yX3_readProduct, cX3_readProduct, 5, none) := rfl
  rw [e2]
  have h := chk_ok (l0 := l0) (D0 := D0) (cy0 := cy0) (ax0 := ax0) (y := yX3_readProduct) (cc := cX3_readProduct) (ret := none) k224 (mk_ok jX3_readProduct fX3_ok lX3_ok kX3_ok kkX3_ok H) rfl pnX3 nrV (fun h => by cases h) rfl
  exact h

/-! X3_readSum (('k', 125), ('c', 7), ('n',)) -/
def u225 : List (Nat × TP × EX × Nat × Nat) := [(8, ([(0, (2, 0, (0, []))), (1, (0, 0, (7, []))), (2, (0, 0, (0, [(1, 0)]))), (3, (0, 0, (0, [(1, 1)])))], [], ([(0, 1), (0, 300)], [], [], [125], [((125, (3, [])), (20, []))], [], []), [(0, 3, (0, []))], []), (300, [((-1), 1)]), 0, 0)]
theorem k225 : chk (mkD iX3_readSum fX3 lX3 kX3 kkX3 225 [(3, [224]), (47, [191]), (53, [224]), (63, [213])] c225 false 5 u225) 4000 = true := by decide +kernel
theorem m225 {X0 : zC0} (H : ∀ j, j < 225 → CMj X0 j) : CMj X0 225 := by
  obtain ⟨l0, D0, cy0, ax0⟩ := X0
  intro mi c hc
  have e : conAt 225 = some (240, c225) := rfl
  rw [e] at hc
  obtain ⟨rfl, rfl⟩ := Prod.mk.inj (Option.some.inj hc)
  have e2 : mt 240 = (yX3_readSum, cX3_readSum, 5, none) := rfl
  rw [e2]
  have h := chk_ok (l0 := l0) (D0 := D0) (cy0 := cy0) (ax0 := ax0) (y := yX3_readSum) (cc := cX3_readSum) (ret := none) k225 (mk_ok jX3_readSum fX3_ok lX3_ok kX3_ok kkX3_ok H) rfl pnX3 nrV (fun h => by cases h) rfl
  exact h

/-! X3_readAsk (('k', 125), ('c', 7)) -/
def u227 : List (Nat × TP × EX × Nat × Nat) := []
theorem k227 : chk (mkD iX3_readAsk fX3 lX3 kX3 kkX3 227 [(11, [208]), (21, [216]), (31, [226]), (38, [225]), (84, [194]), (90, [225]), (99, [213]), (107, [192])] c227 false 3 u227) 4000 = true := by decide +kernel
theorem m227 {X0 : zC0} (H : ∀ j, j < 227 → CMj X0 j) : CMj X0 227 := by
  obtain ⟨l0, D0, cy0, ax0⟩ := X0
  intro mi c hc
  have e : conAt 227 = some (230, c227) := rfl
  rw [e] at hc
  obtain ⟨rfl, rfl⟩ := Prod.mk.inj (Option.some.inj hc)
  have e2 : mt 230 = (yX3_readAsk, cX3_readAsk, 3, none) := rfl
  rw [e2]
  have h := chk_ok (l0 := l0) (D0 := D0) (cy0 := cy0) (ax0 := ax0) (y := yX3_readAsk) (cc := cX3_readAsk) (ret := none) k227 (mk_ok jX3_readAsk fX3_ok lX3_ok kX3_ok kkX3_ok H) rfl pnX3 nrV (fun h => by cases h) rfl
  exact h

/-! X3_readBoth (('k', 125), ('c', 7)) -/
def u228 : List (Nat × TP × EX × Nat × Nat) := [(7, ([(0, (2, 0, (0, []))), (1, (0, 0, (7, []))), (2, (0, 0, (0, [(1, 0)])))], [], ([(0, 300)], [], [], [125], [((125, (3, [])), (20, []))], [], []), [(0, 2, (0, []))], []), (300, [((-1), 0)]), 0, 0)]
theorem k228 : chk (mkD iX3_readBoth fX3 lX3 kX3 kkX3 228 [(2, [227]), (31, [191]), (36, [227]), (46, [217])] c228 false 3 u228) 4000 = true := by decide +kernel
theorem m228 {X0 : zC0} (H : ∀ j, j < 228 → CMj X0 j) : CMj X0 228 := by
  obtain ⟨l0, D0, cy0, ax0⟩ := X0
  intro mi c hc
  have e : conAt 228 = some (231, c228) := rfl
  rw [e] at hc
  obtain ⟨rfl, rfl⟩ := Prod.mk.inj (Option.some.inj hc)
  have e2 : mt 231 = (yX3_readBoth, cX3_readBoth, 3, none) := rfl
  rw [e2]
  have h := chk_ok (l0 := l0) (D0 := D0) (cy0 := cy0) (ax0 := ax0) (y := yX3_readBoth) (cc := cX3_readBoth) (ret := none) k228 (mk_ok jX3_readBoth fX3_ok lX3_ok kX3_ok kkX3_ok H) rfl pnX3 nrV (fun h => by cases h) rfl
  exact h

/-! X3_readEither (('k', 125), ('c', 7)) -/
def u229 : List (Nat × TP × EX × Nat × Nat) := [(7, ([(0, (2, 0, (0, []))), (1, (0, 0, (7, []))), (2, (0, 0, (0, [(1, 0)])))], [], ([(0, 300)], [], [], [125], [((125, (3, [])), (20, []))], [], []), [(0, 2, (0, []))], []), (300, [((-1), 0)]), 0, 0)]
theorem k229 : chk (mkD iX3_readEither fX3 lX3 kX3 kkX3 229 [(2, [228]), (31, [191]), (36, [228]), (46, [219])] c229 false 3 u229) 4000 = true := by decide +kernel
theorem m229 {X0 : zC0} (H : ∀ j, j < 229 → CMj X0 j) : CMj X0 229 := by
  obtain ⟨l0, D0, cy0, ax0⟩ := X0
  intro mi c hc
  have e : conAt 229 = some (233, c229) := rfl
  rw [e] at hc
  obtain ⟨rfl, rfl⟩ := Prod.mk.inj (Option.some.inj hc)
  have e2 : mt 233 = (yX3_readEither, cX3_readEither, 3, none) := rfl
  rw [e2]
  have h := chk_ok (l0 := l0) (D0 := D0) (cy0 := cy0) (ax0 := ax0) (y := yX3_readEither) (cc := cX3_readEither) (ret := none) k229 (mk_ok jX3_readEither fX3_ok lX3_ok kX3_ok kkX3_ok H) rfl pnX3 nrV (fun h => by cases h) rfl
  exact h

/-! X3_readGroup (('k', 125), ('c', 6)) -/
def u230 : List (Nat × TP × EX × Nat × Nat) := []
theorem k230 : chk (mkD iX3_readGroup fX3 lX3 kX3 kkX3 230 [(25, [207]), (59, [201]), (86, [229]), (97, [225]), (119, [194])] c230 false 4 u230) 4000 = true := by decide +kernel
theorem m230 {X0 : zC0} (H : ∀ j, j < 230 → CMj X0 j) : CMj X0 230 := by
  obtain ⟨l0, D0, cy0, ax0⟩ := X0
  intro mi c hc
  have e : conAt 230 = some (234, c230) := rfl
  rw [e] at hc
  obtain ⟨rfl, rfl⟩ := Prod.mk.inj (Option.some.inj hc)
  have e2 : mt 234 = (yX3_readGroup, cX3_readGroup, 4, none) := rfl
  rw [e2]
  have h := chk_ok (l0 := l0) (D0 := D0) (cy0 := cy0) (ax0 := ax0) (y := yX3_readGroup) (cc := cX3_readGroup) (ret := none) k230 (mk_ok jX3_readGroup fX3_ok lX3_ok kX3_ok kkX3_ok H) rfl pnX3 nrV (fun h => by cases h) rfl
  exact h

/-! X3_readOne (('k', 125), ('c', 6), ('n',)) -/
def u231 : List (Nat × TP × EX × Nat × Nat) := []
theorem k231 : chk (mkD iX3_readOne fX3 lX3 kX3 kkX3 231 [(35, [211]), (43, [193]), (53, [197]), (61, [199]), (78, [207]), (89, [225]), (95, [194]), (112, [207]), (123, [223]), (133, [222]), (159, [230]), (167, [192])] c231 false 3 u231) 4000 = true := by decide +kernel
theorem m231 {X0 : zC0} (H : ∀ j, j < 231 → CMj X0 j) : CMj X0 231 := by
  obtain ⟨l0, D0, cy0, ax0⟩ := X0
  intro mi c hc
  have e : conAt 231 = some (237, c231) := rfl
  rw [e] at hc
  obtain ⟨rfl, rfl⟩ := Prod.mk.inj (Option.some.inj hc)
  have e2 : mt 237 = (yX3_readOne, cX3_readOne, 3, none) := rfl
  rw [e2]
  have h := chk_ok (l0 := l0) (D0 := D0) (cy0 := cy0) (ax0 := ax0) (y := yX3_readOne) (cc := cX3_readOne) (ret := none) k231 (mk_ok jX3_readOne fX3_ok lX3_ok kX3_ok kkX3_ok H) rfl pnX3 nrV (fun h => by cases h) rfl
  exact h

/-! X3_readProduct (('k', 125), ('c', 6), ('n',)) -/
def u232 : List (Nat × TP × EX × Nat × Nat) := [(8, ([(0, (2, 0, (0, []))), (1, (0, 0, (6, []))), (2, (0, 0, (0, [(1, 0)]))), (3, (0, 0, (0, [(1, 1)])))], [], ([(0, 1), (0, 300)], [], [], [125], [((125, (3, [])), (20, []))], [], []), [(0, 3, (0, []))], []), (300, [((-1), 1)]), 0, 0)]
theorem k232 : chk (mkD iX3_readProduct fX3 lX3 kX3 kkX3 232 [(3, [231]), (47, [191]), (53, [231]), (63, [213])] c232 false 5 u232) 4000 = true := by decide +kernel
theorem m232 {X0 : zC0} (H : ∀ j, j < 232 → CMj X0 j) : CMj X0 232 := by
  obtain ⟨l0, D0, cy0, ax0⟩ := X0
  intro mi c hc
  have e : conAt 232 = some (239, c232) := rfl
  rw [e] at hc
  obtain ⟨rfl, rfl⟩ := Prod.mk.inj (Option.some.inj hc)
  have e2 : mt 239 = (yX3_readProduct, cX3_readProduct, 5, none) := rfl
  rw [e2]
  have h := chk_ok (l0 := l0) (D0 := D0) (cy0 := cy0) (ax0 := ax0) (y := yX3_readProduct) (cc := cX3_readProduct) (ret := none) k232 (mk_ok jX3_readProduct fX3_ok lX3_ok kX3_ok kkX3_ok H) rfl pnX3 nrV (fun h => by cases h) rfl
  exact h

/-! X3_readSum (('k', 125), ('c', 6), ('n',)) -/
def u233 : List (Nat × TP × EX × Nat × Nat) := [(8, ([(0, (2, 0, (0, []))), (1, (0, 0, (6, []))), (2, (0, 0, (0, [(1, 0)]))), (3, (0, 0, (0, [(1, 1)])))], [], ([(0, 1), (0, 300)], [], [], [125], [((125, (3, [])), (20, []))], [], []), [(0, 3, (0, []))], []), (300, [((-1), 1)]), 0, 0)]
theorem k233 : chk (mkD iX3_readSum fX3 lX3 kX3 kkX3 233 [(3, [232]), (47, [191]), (53, [232]), (63, [213])] c233 false 5 u233) 4000 = true := by decide +kernel
theorem m233 {X0 : zC0} (H : ∀ j, j < 233 → CMj X0 j) : CMj X0 233 := by
  obtain ⟨l0, D0, cy0, ax0⟩ := X0
  intro mi c hc
  have e : conAt 233 = some (240, c233) := rfl
  rw [e] at hc
  obtain ⟨rfl, rfl⟩ := Prod.mk.inj (Option.some.inj hc)
  have e2 : mt 240 = (yX3_readSum, cX3_readSum, 5, none) := rfl
  rw [e2]
  have h := chk_ok (l0 := l0) (D0 := D0) (cy0 := cy0) (ax0 := ax0) (y := yX3_readSum) (cc := cX3_readSum) (ret := none) k233 (mk_ok jX3_readSum fX3_ok lX3_ok kX3_ok kkX3_ok H) rfl pnX3 nrV (fun h => by cases h) rfl
  exact h

/-! X3_readAsk (('k', 125), ('c', 6)) -/
def u234 : List (Nat × TP × EX × Nat × Nat) := []
theorem k234 : chk (mkD iX3_readAsk fX3 lX3 kX3 kkX3 234 [(11, [207]), (21, [227]), (31, [226]), (38, [233]), (84, [194]), (90, [233]), (99, [213]), (107, [192])] c234 false 3 u234) 4000 = true := by decide +kernel
theorem m234 {X0 : zC0} (H : ∀ j, j < 234 → CMj X0 j) : CMj X0 234 := by
  obtain ⟨l0, D0, cy0, ax0⟩ := X0
  intro mi c hc
  have e : conAt 234 = some (230, c234) := rfl
  rw [e] at hc
  obtain ⟨rfl, rfl⟩ := Prod.mk.inj (Option.some.inj hc)
  have e2 : mt 230 = (yX3_readAsk, cX3_readAsk, 3, none) := rfl
  rw [e2]
  have h := chk_ok (l0 := l0) (D0 := D0) (cy0 := cy0) (ax0 := ax0) (y := yX3_readAsk) (cc := cX3_readAsk) (ret := none) k234 (mk_ok jX3_readAsk fX3_ok lX3_ok kX3_ok kkX3_ok H) rfl pnX3 nrV (fun h => by cases h) rfl
  exact h

/-! X3_readBoth (('k', 125), ('c', 6)) -/
def u235 : List (Nat × TP × EX × Nat × Nat) := [(7, ([(0, (2, 0, (0, []))), (1, (0, 0, (6, []))), (2, (0, 0, (0, [(1, 0)])))], [], ([(0, 300)], [], [], [125], [((125, (3, [])), (20, []))], [], []), [(0, 2, (0, []))], []), (300, [((-1), 0)]), 0, 0)]
theorem k235 : chk (mkD iX3_readBoth fX3 lX3 kX3 kkX3 235 [(2, [234]), (31, [191]), (36, [234]), (46, [217])] c235 false 3 u235) 4000 = true := by decide +kernel
theorem m235 {X0 : zC0} (H : ∀ j, j < 235 → CMj X0 j) : CMj X0 235 := by
  obtain ⟨l0, D0, cy0, ax0⟩ := X0
  intro mi c hc
  have e : conAt 235 = some (231, c235) := rfl
  rw [e] at hc
  obtain ⟨rfl, rfl⟩ := Prod.mk.inj (Option.some.inj hc)
  have e2 : mt 231 = (yX3_readBoth, cX3_readBoth, 3, none) := rfl
  rw [e2]
  have h := chk_ok (l0 := l0) (D0 := D0) (cy0 := cy0) (ax0 := ax0) (y := yX3_readBoth) (cc := cX3_readBoth) (ret := none) k235 (mk_ok jX3_readBoth fX3_ok lX3_ok kX3_ok kkX3_ok H) rfl pnX3 nrV (fun h => by cases h) rfl
  exact h

/-! X3_readEither (('k', 125), ('c', 6)) -/
def u236 : List (Nat × TP × EX × Nat × Nat) := [(7, ([(0, (2, 0, (0, []))), (1, (0, 0, (6, []))), (2, (0, 0, (0, [(1, 0)])))], [], ([(0, 300)], [], [], [125], [((125, (3, [])), (20, []))], [], []), [(0, 2, (0, []))], []), (300, [((-1), 0)]), 0, 0)]
theorem k236 : chk (mkD iX3_readEither fX3 lX3 kX3 kkX3 236 [(2, [235]), (31, [191]), (36, [235]), (46, [219])] c236 false 3 u236) 4000 = true := by decide +kernel
theorem m236 {X0 : zC0} (H : ∀ j, j < 236 → CMj X0 j) : CMj X0 236 := by
  obtain ⟨l0, D0, cy0, ax0⟩ := X0
  intro mi c hc
  have e : conAt 236 = some (233, c236) := rfl
  rw [e] at hc
  obtain ⟨rfl, rfl⟩ := Prod.mk.inj (Option.some.inj hc)
  have e2 : mt 233 = (yX3_readEither, cX3_readEither, 3, none) := rfl
  rw [e2]
  have h := chk_ok (l0 := l0) (D0 := D0) (cy0 := cy0) (ax0 := ax0) (y := yX3_readEither) (cc := cX3_readEither) (ret := none) k236 (mk_ok jX3_readEither fX3_ok lX3_ok kX3_ok kkX3_ok H) rfl pnX3 nrV (fun h => by cases h) rfl
  exact h

/-! X3_readGroup (('k', 125), ('c', 5)) -/
def u237 : List (Nat × TP × EX × Nat × Nat) := []
theorem k237 : chk (mkD iX3_readGroup fX3 lX3 kX3 kkX3 237 [(25, [206]), (59, [201]), (86, [236]), (97, [233]), (119, [194])] c237 false 4 u237) 4000 = true := by decide +kernel
theorem m237 {X0 : zC0} (H : ∀ j, j < 237 → CMj X0 j) : CMj X0 237 := by
  obtain ⟨l0, D0, cy0, ax0⟩ := X0
  intro mi c hc
  have e : conAt 237 = some (234, c237) := rfl
  rw [e] at hc
  obtain ⟨rfl, rfl⟩ := Prod.mk.inj (Option.some.inj hc)
  have e2 : mt 234 = (yX3_readGroup, cX3_readGroup, 4, none) := rfl
  rw [e2]
  have h := chk_ok (l0 := l0) (D0 := D0) (cy0 := cy0) (ax0 := ax0) (y := yX3_readGroup) (cc := cX3_readGroup) (ret := none) k237 (mk_ok jX3_readGroup fX3_ok lX3_ok kX3_ok kkX3_ok H) rfl pnX3 nrV (fun h => by cases h) rfl
  exact h

/-! X3_readOne (('k', 125), ('c', 5), ('n',)) -/
def u238 : List (Nat × TP × EX × Nat × Nat) := []
theorem k238 : chk (mkD iX3_readOne fX3 lX3 kX3 kkX3 238 [(35, [211]), (43, [193]), (53, [197]), (61, [199]), (78, [206]), (89, [233]), (95, [194]), (112, [206]), (123, [231]), (133, [222]), (159, [237]), (167, [192])] c238 false 3 u238) 4000 = true := by decide +kernel
theorem m238 {X0 : zC0} (H : ∀ j, j < 238 → CMj X0 j) : CMj X0 238 := by
  obtain ⟨l0, D0, cy0, ax0⟩ := X0
  intro mi c hc
  have e : conAt 238 = some (237, c238) := rfl
  rw [e] at hc
  obtain ⟨rfl, rfl⟩ := Prod.mk.inj (Option.some.inj hc)
  have e2 : mt 237 = (yX3_readOne, cX3_readOne, 3, none) := rfl
  rw [e2]
  have h := chk_ok (l0 := l0) (D0 := D0) (cy0 := cy0) (ax0 := ax0) (y := yX3_readOne) (cc := cX3_readOne) (ret := none) k238 (mk_ok jX3_readOne fX3_ok lX3_ok kX3_ok kkX3_ok H) rfl pnX3 nrV (fun h => by cases h) rfl
  exact h

/-! X3_readProduct (('k', 125), ('c', 5), ('n',)) -/
def u239 : List (Nat × TP × EX × Nat × Nat) := [(8, ([(0, (2, 0, (0, []))), (1, (0, 0, (5, []))), (2, (0, 0, (0, [(1, 0)]))), (3, (0, 0, (0, [(1, 1)])))], [], ([(0, 1), (0, 300)], [], [], [125], [((125, (3, [])), (20, []))], [], []), [(0, 3, (0, []))], []), (300, [((-1), 1)]), 0, 0)]
theorem k239 : chk (mkD iX3_readProduct fX3 lX3 kX3 kkX3 239 [(3, [238]), (47, [191]), (53, [238]), (63, [213])] c239 false 5 u239) 4000 = true := by decide +kernel
theorem m239 {X0 : zC0} (H : ∀ j, j < 239 → CMj X0 j) : CMj X0 239 := by
  obtain ⟨l0, D0, cy0, ax0⟩ := X0
  intro mi c hc
  have e : conAt 239 = some (239, c239) := rfl
  rw [e] at hc
  obtain ⟨rfl, rfl⟩ := Prod.mk.inj (Option.some.inj hc)
  have e2 : mt 239 = (yX3_readProduct, cX3_readProduct, 5, none) := rfl
  rw [e2]
  have h := chk_ok (l0 := l0) (D0 := D0) (cy0 := cy0) (ax0 := ax0) (y := yX3_readProduct) (cc := cX3_readProduct) (ret := none) k239 (mk_ok jX3_readProduct fX3_ok lX3_ok kX3_ok kkX3_ok H) rfl pnX3 nrV (fun h => by cases h) rfl
  exact h

/-! X3_readSum (('k', 125), ('c', 5), ('n',)) -/
def u240 : List (Nat × TP × EX × Nat × Nat) := [(8, ([(0, (2, 0, (0, []))), (1, (0, 0, (5, []))), (2, (0, 0, (0, [(1, 0)]))), (3, (0, 0, (0, [(1, 1)])))], [], ([(0, 1), (0, 300)], [], [], [125], [((125, (3, [])), (20, []))], [], []), [(0, 3, (0, []))], []), (300, [((-1), 1)]), 0, 0)]
theorem k240 : chk (mkD iX3_readSum fX3 lX3 kX3 kkX3 240 [(3, [239]), (47, [191]), (53, [239]), (63, [213])] c240 false 5 u240) 4000 = true := by decide +kernel
theorem m240 {X0 : zC0} (H : ∀ j, j < 240 → CMj X0 j) : CMj X0 240 := by
  obtain ⟨l0, D0, cy0, ax0⟩ := X0
  intro mi c hc
  have e : conAt 240 = some (240, c240) := rfl
  rw [e] at hc
  obtain ⟨rfl, rfl⟩ := Prod.mk.inj (Option.some.inj hc)
  have e2 : mt 240 = (yX3_readSum, cX3_readSum, 5, none) := rfl
  rw [e2]
  have h := chk_ok (l0 := l0) (D0 := D0) (cy0 := cy0) (ax0 := ax0) (y := yX3_readSum) (cc := cX3_readSum) (ret := none) k240 (mk_ok jX3_readSum fX3_ok lX3_ok kX3_ok kkX3_ok H) rfl pnX3 nrV (fun h => by cases h) rfl
  exact h

/-! X3_readAsk (('k', 125), ('c', 5)) -/
def u241 : List (Nat × TP × EX × Nat × Nat) := []
theorem k241 : chk (mkD iX3_readAsk fX3 lX3 kX3 kkX3 241 [(11, [206]), (21, [234]), (31, [226]), (38, [240]), (84, [194]), (90, [240]), (99, [213]), (107, [192])] c241 false 3 u241) 4000 = true := by decide +kernel
theorem m241 {X0 : zC0} (H : ∀ j, j < 241 → CMj X0 j) : CMj X0 241 := by
  obtain ⟨l0, D0, cy0, ax0⟩ := X0
  intro mi c hc
  have e : conAt 241 = some (230, c241) := rfl
  rw [e] at hc
  obtain ⟨rfl, rfl⟩ := Prod.mk.inj (Option.some.inj hc)
  have e2 : mt 230 = (yX3_readAsk, cX3_readAsk, 3, none) := rfl
  rw [e2]
  have h := chk_ok (l0 := l0) (D0 := D0) (cy0 := cy0) (ax0 := ax0) (y := yX3_readAsk) (cc := cX3_readAsk) (ret := none) k241 (mk_ok jX3_readAsk fX3_ok lX3_ok kX3_ok kkX3_ok H) rfl pnX3 nrV (fun h => by cases h) rfl
  exact h

/-! X3_readBoth (('k', 125), ('c', 5)) -/
def u242 : List (Nat × TP × EX × Nat × Nat) := [(7, ([(0, (2, 0, (0, []))), (1, (0, 0, (5, []))), (2, (0, 0, (0, [(1, 0)])))], [], ([(0, 300)], [], [], [125], [((125, (3, [])), (20, []))], [], []), [(0, 2, (0, []))], []), (300, [((-1), 0)]), 0, 0)]
theorem k242 : chk (mkD iX3_readBoth fX3 lX3 kX3 kkX3 242 [(2, [241]), (31, [191]), (36, [241]), (46, [217])] c242 false 3 u242) 4000 = true := by decide +kernel
theorem m242 {X0 : zC0} (H : ∀ j, j < 242 → CMj X0 j) : CMj X0 242 := by
  obtain ⟨l0, D0, cy0, ax0⟩ := X0
  intro mi c hc
  have e : conAt 242 = some (231, c242) := rfl
  rw [e] at hc
  obtain ⟨rfl, rfl⟩ := Prod.mk.inj (Option.some.inj hc)
  have e2 : mt 231 = (yX3_readBoth, cX3_readBoth, 3, none) := rfl
  rw [e2]
  have h := chk_ok (l0 := l0) (D0 := D0) (cy0 := cy0) (ax0 := ax0) (y := yX3_readBoth) (cc := cX3_readBoth) (ret := none) k242 (mk_ok jX3_readBoth fX3_ok lX3_ok kX3_ok kkX3_ok H) rfl pnX3 nrV (fun h => by cases h) rfl
  exact h

/-! X3_readEither (('k', 125), ('c', 5)) -/
def u243 : List (Nat × TP × EX × Nat × Nat) := [(7, ([(0, (2, 0, (0, []))), (1, (0, 0, (5, []))), (2, (0, 0, (0, [(1, 0)])))], [], ([(0, 300)], [], [], [125], [((125, (3, [])), (20, []))], [], []), [(0, 2, (0, []))], []), (300, [((-1), 0)]), 0, 0)]
theorem k243 : chk (mkD iX3_readEither fX3 lX3 kX3 kkX3 243 [(2, [242]), (31, [191]), (36, [242]), (46, [219])] c243 false 3 u243) 4000 = true := by decide +kernel
theorem m243 {X0 : zC0} (H : ∀ j, j < 243 → CMj X0 j) : CMj X0 243 := by
  obtain ⟨l0, D0, cy0, ax0⟩ := X0
  intro mi c hc
  have e : conAt 243 = some (233, c243) := rfl
  rw [e] at hc
  obtain ⟨rfl, rfl⟩ := Prod.mk.inj (Option.some.inj hc)
  have e2 : mt 233 = (yX3_readEither, cX3_readEither, 3, none) := rfl
  rw [e2]
  have h := chk_ok (l0 := l0) (D0 := D0) (cy0 := cy0) (ax0 := ax0) (y := yX3_readEither) (cc := cX3_readEither) (ret := none) k243 (mk_ok jX3_readEither fX3_ok lX3_ok kX3_ok kkX3_ok H) rfl pnX3 nrV (fun h => by cases h) rfl
  exact h

/-! X3_readGroup (('k', 125), ('c', 4)) -/
def u244 : List (Nat × TP × EX × Nat × Nat) := []
theorem k244 : chk (mkD iX3_readGroup fX3 lX3 kX3 kkX3 244 [(25, [205]), (59, [201]), (86, [243]), (97, [240]), (119, [194])] c244 false 4 u244) 4000 = true := by decide +kernel
theorem m244 {X0 : zC0} (H : ∀ j, j < 244 → CMj X0 j) : CMj X0 244 := by
  obtain ⟨l0, D0, cy0, ax0⟩ := X0
  intro mi c hc
  have e : conAt 244 = some (234, c244) := rfl
  rw [e] at hc
  obtain ⟨rfl, rfl⟩ := Prod.mk.inj (Option.some.inj hc)
  have e2 : mt 234 = (yX3_readGroup, cX3_readGroup, 4, none) := rfl
  rw [e2]
  have h := chk_ok (l0 := l0) (D0 := D0) (cy0 := cy0) (ax0 := ax0) (y := yX3_readGroup) (cc := cX3_readGroup) (ret := none) k244 (mk_ok jX3_readGroup fX3_ok lX3_ok kX3_ok kkX3_ok H) rfl pnX3 nrV (fun h => by cases h) rfl
  exact h

/-! X3_readOne (('k', 125), ('c', 4), ('n',)) -/
def u245 : List (Nat × TP × EX × Nat × Nat) := []
theorem k245 : chk (mkD iX3_readOne fX3 lX3 kX3 kkX3 245 [(35, [211]), (43, [193]), (53, [197]), (61, [199]), (78, [205]), (89, [240]), (95, [194]), (112, [205]), (123, [238]), (133, [222]), (159, [244]), (167, [192])] c245 false 3 u245) 4000 = true := by decide +kernel
theorem m245 {X0 : zC0} (H : ∀ j, j < 245 → CMj X0 j) : CMj X0 245 := by
  obtain ⟨l0, D0, cy0, ax0⟩ := X0
  intro mi c hc
  have e : conAt 245 = some (237, c245) := rfl
  rw [e] at hc
  obtain ⟨rfl, rfl⟩ := Prod.mk.inj (Option.some.inj hc)
  have e2 : mt 237 = (yX3_readOne, cX3_readOne, 3, none) := rfl
  rw [e2]
  have h := chk_ok (l0 := l0) (D0 := D0) (cy0 := cy0) (ax0 := ax0) (y := yX3_readOne) (cc := cX3_readOne) (ret := none) k245 (mk_ok jX3_readOne fX3_ok lX3_ok kX3_ok kkX3_ok H) rfl pnX3 nrV (fun h => by cases h) rfl
  exact h

/-! X3_readProduct (('k', 125), ('c', 4), ('n',)) -/
def u246 : List (Nat × TP × EX × Nat × Nat) := [(8, ([(0, (2, 0, (0, []))), (1, (0, 0, (4, []))), (2, (0, 0, (0, [(1, 0)]))), (3, (0, 0, (0, [(1, 1)])))], [], ([(0, 1), (0, 300)], [], [], [125], [((125, (3, [])), (20, []))], [], []), [(0, 3, (0, []))], []), (300, [((-1), 1)]), 0, 0)]
theorem k246 : chk (mkD iX3_readProduct fX3 lX3 kX3 kkX3 246 [(3, [245]), (47, [191]), (53, [245]), (63, [213])] c246 false 5 u246) 4000 = true := by decide +kernel
theorem m246 {X0 : zC0} (H : ∀ j, j < 246 → CMj X0 j) : CMj X0 246 := by
  obtain ⟨l0, D0, cy0, ax0⟩ := X0
  intro mi c hc
  have e : conAt 246 = some (239, c246) := rfl
  rw [e] at hc
  obtain ⟨rfl, rfl⟩ := Prod.mk.inj (Option.some.inj hc)
  have e2 : mt 239 = (yX3_readProduct, cX3_readProduct, 5, none) := rfl
  rw [e2]
  have h := chk_ok (l0 := l0) (D0 := D0) (cy0 := cy0) (ax0 := ax0) (y := yX3_readProduct) (cc := cX3_readProduct) (ret := none) k246 (mk_ok jX3_readProduct fX3_ok lX3_ok kX3_ok kkX3_ok H) rfl pnX3 nrV (fun h => by cases h) rfl
  exact h

/-! X3_readSum (('k', 125), ('c', 4), ('n',)) -/
def u247 : List (Nat × TP × EX × Nat × Nat) := [(8, ([(0, (2, 0, (0, []))), (1, (0, 0, (4, []))), (2, (0, 0, (0, [(1, 0)]))), (3, (0, 0, (0, [(1, 1)])))], [], ([(0, 1), (0, 300)], [], [], [125], [((125, (3, [])), (20, []))], [], []), [(0, 3, (0, []))], []), (300, [((-1), 1)]), 0, 0)]
theorem k247 : chk (mkD iX3_readSum fX3 lX3 kX3 kkX3 247 [(3, [246]), (47, [191]), (53, [246]), (63, [213])] c247 false 5 u247) 4000 = true := by decide +kernel
theorem m247 {X0 : zC0} (H : ∀ j, j < 247 → CMj X0 j) : CMj X0 247 := by
  obtain ⟨l0, D0, cy0, ax0⟩ := X0
  intro mi c hc
  have e : conAt 247 = some (240, c247) := rfl
  rw [e] at hc
  obtain ⟨rfl, rfl⟩ := Prod.mk.inj (Option.some.inj hc)
  have e2 : mt 240 = (yX3_readSum, cX3_readSum, 5, none) := rfl
  rw [e2]
  have h := chk_ok (l0 := l0) (D0 := D0) (cy0 := cy0) (ax0 := ax0) (y := yX3_readSum) (cc := cX3_readSum) (ret := none) k247 (mk_ok jX3_readSum fX3_ok lX3_ok kX3_ok kkX3_ok H) rfl pnX3 nrV (fun h => by cases h) rfl
  exact h

/-! X3_readAsk (('k', 125), ('c', 4)) -/
def u248 : List (Nat × TP × EX × Nat × Nat) := []
theorem k248 : chk (mkD iX3_readAsk fX3 lX3 kX3 kkX3 248 [(11, [205]), (21, [241]), (31, [226]), (38, [247]), (84, [194]), (90, [247]), (99, [213]), (107, [192])] c248 false 3 u248) 4000 = true := by decide +kernel
theorem m248 {X0 : zC0} (H : ∀ j, j < 248 → CMj X0 j) : CMj X0 248 := by
  obtain ⟨l0, D0, cy0, ax0⟩ := X0
  intro mi c hc
  have e : conAt 248 = some (230, c248) := rfl
  rw [e] at hc
  obtain ⟨rfl, rfl⟩ := Prod.mk.inj (Option.some.inj hc)
  have e2 : mt 230 = (yX3_readAsk, cX3_readAsk, 3, none) := rfl
  rw [e2]
  have h := chk_ok (l0 := l0) (D0 := D0) (cy0 := cy0) (ax0 := ax0) (y := yX3_readAsk) (cc := cX3_readAsk) (ret := none) k248 (mk_ok jX3_readAsk fX3_ok lX3_ok kX3_ok kkX3_ok H) rfl pnX3 nrV (fun h => by cases h) rfl
  exact h

/-! X3_readBoth (('k', 125), ('c', 4)) -/
def u249 : List (Nat × TP × EX × Nat × Nat) := [(7, ([(0, (2, 0, (0, []))), (1, (0, 0, (4, []))), (2, (0, 0, (0, [(1, 0)])))], [], ([(0, 300)], [], [], [125], [((125, (3, [])), (20, []))], [], []), [(0, 2, (0, []))], []), (300, [((-1), 0)]), 0, 0)]
theorem k249 : chk (mkD iX3_readBoth fX3 lX3 kX3 kkX3 249 [(2, [248]), (31, [191]), (36, [248]), (46, [217])] c249 false 3 u249) 4000 = true := by decide +kernel
theorem m249 {X0 : zC0} (H : ∀ j, j < 249 → CMj X0 j) : CMj X0 249 := by
  obtain ⟨l0, D0, cy0, ax0⟩ := X0
  intro mi c hc
  have e : conAt 249 = some (231, c249) := rfl
  rw [e] at hc
  obtain ⟨rfl, rfl⟩ := Prod.mk.inj (Option.some.inj hc)
  have e2 : mt 231 = (yX3_readBoth, cX3_readBoth, 3, none) := rfl
  rw [e2]
  have h := chk_ok (l0 := l0) (D0 := D0) (cy0 := cy0) (ax0 := ax0) (y := yX3_readBoth) (cc := cX3_readBoth) (ret := none) k249 (mk_ok jX3_readBoth fX3_ok lX3_ok kX3_ok kkX3_ok H) rfl pnX3 nrV (fun h => by cases h) rfl
  exact h

/-! X3_readEither (('k', 125), ('c', 4)) -/
def u250 : List (Nat × TP × EX × Nat × Nat) := [(7, ([(0, (2, 0, (0, []))), (1, (0, 0, (4, []))), (2, (0, 0, (0, [(1, 0)])))], [], ([(0, 300)], [], [], [125], [((125, (3, [])), (20, []))], [], []), [(0, 2, (0, []))], []), (300, [((-1), 0)]), 0, 0)]
theorem k250 : chk (mkD iX3_readEither fX3 lX3 kX3 kkX3 250 [(2, [249]), (31, [191]), (36, [249]), (46, [219])] c250 false 3 u250) 4000 = true := by decide +kernel
theorem m250 {X0 : zC0} (H : ∀ j, j < 250 → CMj X0 j) : CMj X0 250 := by
  obtain ⟨l0, D0, cy0, ax0⟩ := X0
  intro mi c hc
  have e : conAt 250 = some (233, c250) := rfl
  rw [e] at hc
  obtain ⟨rfl, rfl⟩ := Prod.mk.inj (Option.some.inj hc)
  have e2 : mt 233 = (yX3_readEither, cX3_readEither, 3, none) := rfl
  rw [e2]
  have h := chk_ok (l0 := l0) (D0 := D0) (cy0 := cy0) (ax0 := ax0) (y := yX3_readEither) (cc := cX3_readEither) (ret := none) k250 (mk_ok jX3_readEither fX3_ok lX3_ok kX3_ok kkX3_ok H) rfl pnX3 nrV (fun h => by cases h) rfl
  exact h

/-! X3_readGroup (('k', 125), ('c', 3)) -/
def u251 : List (Nat × TP × EX × Nat × Nat) := []
theorem k251 : chk (mkD iX3_readGroup fX3 lX3 kX3 kkX3 251 [(25, [204]), (59, [201]), (86, [250]), (97, [247]), (119, [194])] c251 false 4 u251) 4000 = true := by decide +kernel
theorem m251 {X0 : zC0} (H : ∀ j, j < 251 → CMj X0 j) : CMj X0 251 := by
  obtain ⟨l0, D0, cy0, ax0⟩ := X0
  intro mi c hc
  have e : conAt 251 = some (234, c251) := rfl
  rw [e] at hc
  obtain ⟨rfl, rfl⟩ := Prod.mk.inj (Option.some.inj hc)
  have e2 : mt 234 = (yX3_readGroup, cX3_readGroup, 4, none) := rfl
  rw [e2]
  have h := chk_ok (l0 := l0) (D0 := D0) (cy0 := cy0) (ax0 := ax0) (y := yX3_readGroup) (cc := cX3_readGroup) (ret := none) k251 (mk_ok jX3_readGroup fX3_ok lX3_ok kX3_ok kkX3_ok H) rfl pnX3 nrV (fun h => by cases h) rfl
  exact h

/-! X3_readOne (('k', 125), ('c', 3), ('n',)) -/
def u252 : List (Nat × TP × EX × Nat × Nat) := []
theorem k252 : chk (mkD iX3_readOne fX3 lX3 kX3 kkX3 252 [(35, [211]), (43, [193]), (53, [197]), (61, [199]), (78, [204]), (89, [247]), (95, [194]), (112, [204]), (123, [245]), (133, [222]), (159, [251]), (167, [192])] c252 false 3 u252) 4000 = true := by decide +kernel
theorem m252 {X0 : zC0} (H : ∀ j, j < 252 → CMj X0 j) : CMj X0 252 := by
  obtain ⟨l0, D0, cy0, ax0⟩ := X0
  intro mi c hc
  have e : conAt 252 = some (237, c252) := rfl
  rw [e] at hc
  obtain ⟨rfl, rfl⟩ := Prod.mk.inj (Option.some.inj hc)
  have e2 : mt 237 = (yX3_readOne, cX3_readOne, 3, none) := rfl
  rw [e2]
  have h := chk_ok (l0 := l0) (D0 := D0) (cy0 := cy0) (ax0 := ax0) (y := yX3_readOne) (cc := cX3_readOne) (ret := none) k252 (mk_ok jX3_readOne fX3_ok lX3_ok kX3_ok kkX3_ok H) rfl pnX3 nrV (fun h => by cases h) rfl
  exact h

/-! X3_readProduct (('k', 125), ('c', 3), ('n',)) -/
def u253 : List (Nat × TP × EX × Nat × Nat) := [(8, ([(0, (2, 0, (0, []))), (1, (0, 0, (3, []))), (2, (0, 0, (0, [(1, 0)]))), (3, (0, 0, (0, [(1, 1)])))], [], ([(0, 1), (0, 300)], [], [], [125], [((125, (3, [])), (20, []))], [], []), [(0, 3, (0, []))], []), (300, [((-1), 1)]), 0, 0)]
theorem k253 : chk (mkD iX3_readProduct fX3 lX3 kX3 kkX3 253 [(3, [252]), (47, [191]), (53, [252]), (63, [213])] c253 false 5 u253) 4000 = true := by decide +kernel
theorem m253 {X0 : zC0} (H : ∀ j, j < 253 → CMj X0 j) : CMj X0 253 := by
  obtain ⟨l0, D0, cy0, ax0⟩ := X0
  intro mi c hc
  have e : conAt 253 = some (239, c253) := rfl
  rw [e] at hc
  obtain ⟨rfl, rfl⟩ := Prod.mk.inj (Option.some.inj hc)
  have e2 : mt 239 = (yX3_readProduct, cX3_readProduct, 5, none) := rfl
  rw [e2]
  have h := chk_ok (l0 := l0) (D0 := D0) (cy0 := cy0) (ax0 := ax0) (y := yX3_readProduct) (cc := cX3_readProduct) (ret := none) k253 (mk_ok jX3_readProduct fX3_ok lX3_ok kX3_ok kkX3_ok H) rfl pnX3 nrV (fun h => by cases h) rfl
  exact h

/-! X3_readSum (('k', 125), ('c', 3), ('n',)) -/
def u254 : List (Nat × TP × EX × Nat × Nat) := [(8, ([(0, (2, 0, (0, []))), (1, (0, 0, (3, []))), (2, (0, 0, (0, [(1, 0)]))), (3, (0, 0, (0, [(1, 1)])))], [], ([(0, 1), (0, 300)], [], [], [125], [((125, (3, [])), (20, []))], [], []), [(0, 3, (0, []))], []), (300, [((-1), 1)]), 0, 0)]
theorem k254 : chk (mkD iX3_readSum fX3 lX3 kX3 kkX3 254 [(3, [253]), (47, [191]), (53, [253]), (63, [213])] c254 false 5 u254) 4000 = true := by decide +kernel
theorem m254 {X0 : zC0} (H : ∀ j, j < 254 → CMj X0 j) : CMj X0 254 := by
  obtain ⟨l0, D0, cy0, ax0⟩ := X0
  intro mi c hc
  have e : conAt 254 = some (240, c254) := rfl
  rw [e] at hc
  obtain ⟨rfl, rfl⟩ := Prod.mk.inj (Option.some.inj hc)
  have e2 : mt 240 = (yX3_readSum, cX3_readSum, 5, none) := rfl
  rw [e2]
  have h := chk_ok (l0 := l0) (D0 := D0) (cy0 := cy0) (ax0 := ax0) (y := yX3_readSum) (cc := cX3_readSum) (ret := none) k254 (mk_ok jX3_readSum fX3_ok lX3_ok kX3_ok kkX3_ok H) rfl pnX3 nrV (fun h => by cases h) rfl
  exact h

/-! X3_readAsk (('k', 125), ('c', 3)) -/
def u255 : List (Nat × TP × EX × Nat × Nat) := []
theorem k255 : chk (mkD iX3_readAsk fX3 lX3 kX3 kkX3 255 [(11, [204]), (21, [248]), (31, [226]), (38, [254]), (84, [194]), (90, [254]), (99, [213]), (107, [192])] c255 false 3 u255) 4000 = true := by decide +kernel
theorem m255 {X0 : zC0} (H : ∀ j, j < 255 → CMj X0 j) : CMj X0 255 := by
  obtain ⟨l0, D0, cy0, ax0⟩ := X0
  intro mi c hc
  have e : conAt 255 = some (230, c255) := rfl
  rw [e] at hc
  obtain ⟨rfl, rfl⟩ := Prod.mk.inj (Option.some.inj hc)
  have e2 : mt 230 = (yX3_readAsk, cX3_readAsk, 3, none) := rfl
  rw [e2]
  have h := chk_ok (l0 := l0) (D0 := D0) (cy0 := cy0) (ax0 := ax0) (y := yX3_readAsk) (cc := cX3_readAsk) (ret := none) k255 (mk_ok jX3_readAsk fX3_ok lX3_ok kX3_ok kkX3_ok H) rfl pnX3 nrV (fun h => by cases h) rfl
  exact h

/-! X3_readBoth (('k', 125), ('c', 3)) -/
def u256 : List (Nat × TP × EX × Nat × Nat) := [(7, ([(0, (2, 0, (0, []))), (1, (0, 0, (3, []))), (2, (0, 0, (0, [(1, 0)])))], [], ([(0, 300)], [], [], [125], [((125, (3, [])), (20, []))], [], []), [(0, 2, (0, []))], []), (300, [((-1), 0)]), 0, 0)]
theorem k256 : chk (mkD iX3_readBoth fX3 lX3 kX3 kkX3 256 [(2, [255]), (31, [191]), (36, [255]), (46, [217])] c256 false 3 u256) 4000 = true := by decide +kernel
theorem m256 {X0 : zC0} (H : ∀ j, j < 256 → CMj X0 j) : CMj X0 256 := by
  obtain ⟨l0, D0, cy0, ax0⟩ := X0
  intro mi c hc
  have e : conAt 256 = some (231, c256) := rfl
  rw [e] at hc
  obtain ⟨rfl, rfl⟩ := Prod.mk.inj (Option.some.inj hc)
  have e2 : mt 231 = (yX3_readBoth, cX3_readBoth, 3, none) := rfl
  rw [e2]
  have h := chk_ok (l0 := l0) (D0 := D0) (cy0 := cy0) (ax0 := ax0) (y := yX3_readBoth) (cc := cX3_readBoth) (ret := none) k256 (mk_ok jX3_readBoth fX3_ok lX3_ok kX3_ok kkX3_ok H) rfl pnX3 nrV (fun h => by cases h) rfl
  exact h

/-! X3_readEither (('k', 125), ('c', 3)) -/
def u257 : List (Nat × TP × EX × Nat × Nat) := [(7, ([(0, (2, 0, (0, []))), (1, (0, 0, (3, []))), (2, (0, 0, (0, [(1, 0)])))], [], ([(0, 300)], [], [], [125], [((125, (3, [])), (20, []))], [], []), [(0, 2, (0, []))], []), (300, [((-1), 0)]), 0, 0)]
theorem k257 : chk (mkD iX3_readEither fX3 lX3 kX3 kkX3 257 [(2, [256]), (31, [191]), (36, [256]), (46, [219])] c257 false 3 u257) 4000 = true := by decide +kernel
theorem m257 {X0 : zC0} (H : ∀ j, j < 257 → CMj X0 j) : CMj X0 257 := by
  obtain ⟨l0, D0, cy0, ax0⟩ := X0
  intro mi c hc
  have e : conAt 257 = some (233, c257) := rfl
  rw [e] at hc
  obtain ⟨rfl, rfl⟩ := Prod.mk.inj (Option.some.inj hc)
  have e2 : mt 233 = (yX3_readEither, cX3_readEither, 3, none) := rfl
  rw [e2]
  have h := chk_ok (l0 := l0) (D0 := D0) (cy0 := cy0) (ax0 := ax0) (y := yX3_readEither) (cc := cX3_readEither) (ret := none) k257 (mk_ok jX3_readEither fX3_ok lX3_ok kX3_ok kkX3_ok H) rfl pnX3 nrV (fun h => by cases h) rfl
  exact h
