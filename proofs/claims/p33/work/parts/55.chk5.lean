/-! X3_readLaw (('k', 125), ('n',)) -/
def u262 : List (Nat × TP × EX × Nat × Nat) := []
theorem k262 : chk (mkD iX3_readLaw fX3 lX3 kX3 kkX3 262 [(49, [261])] c262 false 2 u262) 4000 = true := by decide +kernel
theorem m262 {X0 : zC0} (H : ∀ j, j < 262 → CMj X0 j) : CMj X0 262 := by
  obtain ⟨l0, D0, cy0, ax0⟩ := X0
  intro mi c hc
  have e : conAt 262 = some (191, c262) := rfl
  rw [e] at hc
  obtain ⟨rfl, rfl⟩ := Prod.mk.inj (Option.some.inj hc)
  have e2 : mt 191 = (yX3_readLaw, cX3_readLaw, 2, none) := rfl
  rw [e2]
  have h := chk_ok (l0 := l0) (D0 := D0) (cy0 := cy0) (ax0 := ax0) (y := yX3_readLaw) (cc := cX3_readLaw) (ret := none) k262 (mk_ok jX3_readLaw fX3_ok lX3_ok kX3_ok kkX3_ok H) rfl pnX3 nrV (fun h => by cases h) rfl
  exact h

/-! X3_readClause (('k', 125), ('n',)) -/
def u263 : List (Nat × TP × EX × Nat × Nat) := []
theorem k263 : chk (mkD iX3_readClause fX3 lX3 kX3 kkX3 263 [(13, [179]), (29, [60]), (37, [179]), (52, [179]), (79, [177]), (89, [262]), (100, [178]), (106, [180])] c263 false 3 u263) 4000 = true := by decide +kernel
theorem m263 {X0 : zC0} (H : ∀ j, j < 263 → CMj X0 j) : CMj X0 263 := by
  obtain ⟨l0, D0, cy0, ax0⟩ := X0
  intro mi c hc
  have e : conAt 263 = some (188, c263) := rfl
  rw [e] at hc
  obtain ⟨rfl, rfl⟩ := Prod.mk.inj (Option.some.inj hc)
  have e2 : mt 188 = (yX3_readClause, cX3_readClause, 3, none) := rfl
  rw [e2]
  have h := chk_ok (l0 := l0) (D0 := D0) (cy0 := cy0) (ax0 := ax0) (y := yX3_readClause) (cc := cX3_readClause) (ret := none) k263 (mk_ok jX3_readClause fX3_ok lX3_ok kX3_ok kkX3_ok H) rfl pnX3 nrV (fun h => by cases h) rfl
  exact h

/-! X4_addText (('k', 40), ('k', 20)) -/
def u265 : List (Nat × TP × EX × Nat × Nat) := []
theorem k265 : chk (mkD iX4_addText fX4 lX4 kX4 kkX4 265 [] c265 false 2 u265) 4000 = true := by decide +kernel
theorem m265 {X0 : zC0} (H : ∀ j, j < 265 → CMj X0 j) : CMj X0 265 := by
  obtain ⟨l0, D0, cy0, ax0⟩ := X0
  intro mi c hc
  have e : conAt 265 = some (198, c265) := rfl
  rw [e] at hc
  obtain ⟨rfl, rfl⟩ := Prod.mk.inj (Option.some.inj hc)
  have e2 : mt 198 = (yX4_addText, cX4_addText, 2, (some .int)) := rfl
  rw [e2]
  have h := chk_ok (l0 := l0) (D0 := D0) (cy0 := cy0) (ax0 := ax0) (y := yX4_addText) (cc := cX4_addText) (ret := (some .int)) k265 (mk_ok jX4_addText fX4_ok lX4_ok kX4_ok kkX4_ok H) ⟨_, rfl⟩ pnX4 nrI (fun h => by cases h) rfl
  exact h

/-! X11_text (('k', 197),) -/
def u266 : List (Nat × TP × EX × Nat × Nat) := []
theorem k266 : chk (mkD iX11_text fX11 lX11 kX11 kkX11 266 [(17, [264]), (32, [265])] c266 false 2 u266) 4000 = true := by decide +kernel
theorem m266 {X0 : zC0} (H : ∀ j, j < 266 → CMj X0 j) : CMj X0 266 := by
  obtain ⟨l0, D0, cy0, ax0⟩ := X0
  intro mi c hc
  have e : conAt 266 = some (64, c266) := rfl
  rw [e] at hc
  obtain ⟨rfl, rfl⟩ := Prod.mk.inj (Option.some.inj hc)
  have e2 : mt 64 = (yX11_text, cX11_text, 2, (some .int)) := rfl
  rw [e2]
  have h := chk_ok (l0 := l0) (D0 := D0) (cy0 := cy0) (ax0 := ax0) (y := yX11_text) (cc := cX11_text) (ret := (some .int)) k266 (mk_ok jX11_text fX11_ok lX11_ok kX11_ok kkX11_ok H) ⟨_, rfl⟩ pnX11 nrI (fun h => by cases h) rfl
  exact h

/-! X11_thieves (('k', 197),) -/
def u267 : List (Nat × TP × EX × Nat × Nat) := [(7, ([(0, (2, 0, (0, []))), (1, (2, 1, (0, []))), (2, (0, 0, (0, [(1, 0)])))], [], ([(0, 6)], [], [], [197, 31], [], [], []), [(0, 2, (0, []))], [(0, 1)]), (2062, [((-1), 0)]), 1, 6), (39, ([(0, (2, 0, (0, []))), (1, (2, 1, (0, []))), (2, (0, 0, (0, [(1, 1)]))), (3, (0, 0, (0, [(1, 2)])))], [], ([(0, 6), ((-1), 255), (0, 256)], [(0, [(1, 2), ((-1), 1)]), ((-1), [(1, 2), ((-1), 1)])], [], [197, 31], [((62, (0, [])), (0, [(1, 0)]))], [], []), [(2, 62, (0, [])), (0, 2, (0, [])), (0, 3, (0, []))], [(0, 1)]), (2055, [((-8), 2)]), 1, 6), (81, ([(0, (2, 0, (0, []))), (1, (2, 1, (0, []))), (2, (0, 0, (0, [(1, 0)]))), (3, (0, 0, (0, [(1, 1)]))), (4, (0, 0, (0, [(1, 4)]))), (5, (0, 0, (0, [(1, 5)])))], [], ([((-1), 254), (0, 255), (0, 8), (0, 6), (0, 1), (0, 6)], [(0, [((-1), 0), (1, 1)]), ((-1), [((-1), 0), (1, 1)]), (0, [(1, 3), ((-1), 5)]), ((-1), [(1, 4), (1, 1), ((-1), 0)]), (1, [((-1), 4), (1, 1), ((-1), 0)]), (0, [(1, 5), (1, 1), ((-1), 0)]), (0, [((-1), 4), (1, 1), ((-1), 0)]), ((-1), [(1, 5), (1, 1), ((-1), 0)])], [], [197, 31], [((41, (1, [])), (0, [(1, 2)])), ((62, (0, [])), (0, [(1, 3)]))], [], []), [(0, 2, (0, [])), (0, 3, (0, [])), (2, 41, (1, [])), (2, 62, (0, [])), (0, 4, (0, [])), (0, 5, (0, []))], [(0, 1)]), (2054, [((-1), 5), ((-8), 1)]), 1, 6)]
theorem k267 : chk (mkD iX11_thieves fX11 lX11 kX11 kkX11 267 [(25, [127]), (61, [0]), (65, [0])] c267 false 6 u267) 4000 = true := by decide +kernel
theorem m267 {X0 : zC0} (H : ∀ j, j < 267 → CMj X0 j) : CMj X0 267 := by
  obtain ⟨l0, D0, cy0, ax0⟩ := X0
  intro mi c hc
  have e : conAt 267 = some (65, c267) := rfl
  rw [e] at hc
  obtain ⟨rfl, rfl⟩ := Prod.mk.inj (Option.some.inj hc)
  have e2 : mt 65 = (yX11_thieves, cX11_thieves, 6, (some .int)) := rfl
  rw [e2]
  have h := chk_ok (l0 := l0) (D0 := D0) (cy0 := cy0) (ax0 := ax0) (y := yX11_thieves) (cc := cX11_thieves) (ret := (some .int)) k267 (mk_ok jX11_thieves fX11_ok lX11_ok kX11_ok kkX11_ok H) ⟨_, rfl⟩ pnX11 nrI (fun h => by cases h) rfl
  exact h

/-! X5_takeBack (('k', 59), ('k', 50)) -/
def u268 : List (Nat × TP × EX × Nat × Nat) := []
theorem k268 : chk (mkD iX5_takeBack fX5 lX5 kX5 kkX5 268 [(36, [18])] c268 false 2 u268) 4000 = true := by decide +kernel
theorem m268 {X0 : zC0} (H : ∀ j, j < 268 → CMj X0 j) : CMj X0 268 := by
  obtain ⟨l0, D0, cy0, ax0⟩ := X0
  intro mi c hc
  have e : conAt 268 = some (209, c268) := rfl
  rw [e] at hc
  obtain ⟨rfl, rfl⟩ := Prod.mk.inj (Option.some.inj hc)
  have e2 : mt 209 = (yX5_takeBack, cX5_takeBack, 2, (some .int)) := rfl
  rw [e2]
  have h := chk_ok (l0 := l0) (D0 := D0) (cy0 := cy0) (ax0 := ax0) (y := yX5_takeBack) (cc := cX5_takeBack) (ret := (some .int)) k268 (mk_ok jX5_takeBack fX5_ok lX5_ok kX5_ok kkX5_ok H) ⟨_, rfl⟩ pnX5 nrI (fun h => by cases h) rfl
  exact h

/-! X4_takeBack (('k', 40),) -/
def u269 : List (Nat × TP × EX × Nat × Nat) := [(27, ([(0, (2, 0, (0, []))), (1, (0, 0, (0, [(1, 0)]))), (2, (0, 0, (0, [(1, 1)])))], [], ([(0, 8), (0, 8), (0, 29)], [(0, [(1, 1), ((-1), 0)])], [], [40], [((59, (0, [])), (0, [(1, 2)]))], [], []), [(0, 1, (0, [])), (0, 2, (0, [])), (2, 59, (0, []))], []), (8, [((-1), 1)]), 0, 0)]
theorem k269 : chk (mkD iX4_takeBack fX4 lX4 kX4 kkX4 269 [(21, [268]), (61, [28])] c269 false 3 u269) 4000 = true := by decide +kernel
theorem m269 {X0 : zC0} (H : ∀ j, j < 269 → CMj X0 j) : CMj X0 269 := by
  obtain ⟨l0, D0, cy0, ax0⟩ := X0
  intro mi c hc
  have e : conAt 269 = some (206, c269) := rfl
  rw [e] at hc
  obtain ⟨rfl, rfl⟩ := Prod.mk.inj (Option.some.inj hc)
  have e2 : mt 206 = (yX4_takeBack, cX4_takeBack, 3, (some .int)) := rfl
  rw [e2]
  have h := chk_ok (l0 := l0) (D0 := D0) (cy0 := cy0) (ax0 := ax0) (y := yX4_takeBack) (cc := cX4_takeBack) (ret := (some .int)) k269 (mk_ok jX4_takeBack fX4_ok lX4_ok kX4_ok kkX4_ok H) ⟨_, rfl⟩ pnX4 nrI (fun h => by cases h) rfl
  exact h

/-! X11_undo (('k', 197),) -/
def u270 : List (Nat × TP × EX × Nat × Nat) := []
theorem k270 : chk (mkD iX11_undo fX11 lX11 kX11 kkX11 270 [(4, [269])] c270 false 1 u270) 4000 = true := by decide +kernel
theorem m270 {X0 : zC0} (H : ∀ j, j < 270 → CMj X0 j) : CMj X0 270 := by
  obtain ⟨l0, D0, cy0, ax0⟩ := X0
  intro mi c hc
  have e : conAt 270 = some (66, c270) := rfl
  rw [e] at hc
  obtain ⟨rfl, rfl⟩ := Prod.mk.inj (Option.some.inj hc)
  have e2 : mt 66 = (yX11_undo, cX11_undo, 1, (some .int)) := rfl
  rw [e2]
  have h := chk_ok (l0 := l0) (D0 := D0) (cy0 := cy0) (ax0 := ax0) (y := yX11_undo) (cc := cX11_undo) (ret := (some .int)) k270 (mk_ok jX11_undo fX11_ok lX11_ok kX11_ok kkX11_ok H) ⟨_, rfl⟩ pnX11 nrI (fun h => by cases h) rfl
  exact h

/-! X11_water (('k', 197),) -/
def u271 : List (Nat × TP × EX × Nat × Nat) := [(25, ([(0, (2, 0, (0, []))), (1, (2, 1, (0, []))), (2, (0, 0, (0, [(1, 0)]))), (3, (0, 0, (0, [(1, 4)])))], [], ([((-2147483648), 2147483647), ((-2147483648), 2147483647), ((-2147483648), 2147483647), ((-2147483648), 2147483647), (0, 8)], [], [], [197, 50], [((50, (7, [])), (0, [(1, 1)])), ((50, (8, [])), (0, [(1, 2)])), ((50, (6, [])), (0, [(1, 3)]))], [], []), [(0, 2, (0, [])), (2, 50, (7, [])), (2, 50, (8, [])), (2, 50, (6, [])), (0, 3, (0, []))], [(0, 1)]), (15, [((-1), 4)]), 0, 0), (56, ([(0, (2, 0, (0, []))), (1, (2, 1, (0, []))), (2, (0, 0, (0, [(1, 0)]))), (3, (0, 0, (0, [(1, 5)])))], [], ([((-2147483648), 2147483647), (0, 8), ((-2147483648), 2147483647), ((-2147483648), 2147483647), ((-2147483648), 2147483647), (0, 6)], [], [], [197, 50], [((41, (1, [])), (0, [(1, 1)])), ((50, (7, [])), (0, [(1, 2)])), ((50, (8, [])), (0, [(1, 3)])), ((50, (6, [])), (0, [(1, 4)]))], [], []), [(0, 2, (0, [])), (2, 41, (1, [])), (2, 50, (7, [])), (2, 50, (8, [])), (2, 50, (6, [])), (0, 3, (0, []))], [(0, 1)]), (6, [((-1), 5)]), 0, 0)]
theorem k271 : chk (mkD iX11_water fX11 lX11 kX11 kkX11 271 [] c271 false 4 u271) 4000 = true := by decide +kernel
theorem m271 {X0 : zC0} (H : ∀ j, j < 271 → CMj X0 j) : CMj X0 271 := by
  obtain ⟨l0, D0, cy0, ax0⟩ := X0
  intro mi c hc
  have e : conAt 271 = some (67, c271) := rfl
  rw [e] at hc
  obtain ⟨rfl, rfl⟩ := Prod.mk.inj (Option.some.inj hc)
  have e2 : mt 67 = (yX11_water, cX11_water, 4, (some .int)) := rfl
  rw [e2]
  have h := chk_ok (l0 := l0) (D0 := D0) (cy0 := cy0) (ax0 := ax0) (y := yX11_water) (cc := cX11_water) (ret := (some .int)) k271 (mk_ok jX11_water fX11_ok lX11_ok kX11_ok kkX11_ok H) ⟨_, rfl⟩ pnX11 nrI (fun h => by cases h) rfl
  exact h

/-! X8_widen (('k', 194), ('n',)) -/
def u272 : List (Nat × TP × EX × Nat × Nat) := [(2, ([(0, (2, 0, (0, []))), (1, (0, 0, (0, [(1, 0)]))), (2, (0, 0, (0, [(1, 1)])))], [], ([(0, 5), (0, 6)], [], [], [194], [], [], []), [(0, 2, (0, []))], []), (6, [((-1), 1)]), 0, 0)]
theorem k272 : chk (mkD iX8_widen fX8 lX8 kX8 kkX8 272 [(25, [8])] c272 false 3 u272) 4000 = true := by decide +kernel
theorem m272 {X0 : zC0} (H : ∀ j, j < 272 → CMj X0 j) : CMj X0 272 := by
  obtain ⟨l0, D0, cy0, ax0⟩ := X0
  intro mi c hc
  have e : conAt 272 = some (224, c272) := rfl
  rw [e] at hc
  obtain ⟨rfl, rfl⟩ := Prod.mk.inj (Option.some.inj hc)
  have e2 : mt 224 = (yX8_widen, cX8_widen, 3, none) := rfl
  rw [e2]
  have h := chk_ok (l0 := l0) (D0 := D0) (cy0 := cy0) (ax0 := ax0) (y := yX8_widen) (cc := cX8_widen) (ret := none) k272 (mk_ok jX8_widen fX8_ok lX8_ok kX8_ok kkX8_ok H) rfl pnX8 nrV (fun h => by cases h) rfl
  exact h

/-! X8_width (('k', 194), ('n',), ('n',)) -/
def u273 : List (Nat × TP × EX × Nat × Nat) := [(14, ([(0, (2, 0, (0, []))), (1, (0, 0, (0, [(1, 0)]))), (2, (0, 0, (0, [(1, 1)]))), (3, (0, 0, (0, [(1, 2)]))), (4, (0, 0, (0, [(1, 3)])))], [], ([(0, 5), (0, 5), (0, 6), (0, 6)], [], [], [194], [((41, (0, [])), (0, [(1, 2)]))], [], []), [(0, 3, (0, [])), (0, 4, (0, []))], []), (54, [((-1), 3)]), 0, 0), (50, ([(0, (2, 0, (0, []))), (1, (0, 0, (0, [(1, 0)]))), (2, (0, 0, (0, [(1, 1)]))), (3, (0, 0, (0, [(1, 2)]))), (4, (0, 0, (0, [(1, 3)])))], [], ([(0, 5), (0, 5), (0, 6), (1, 6)], [(1, [(1, 2), ((-1), 3)])], [], [194], [((41, (0, [])), (0, [(1, 2)]))], [], []), [(0, 3, (0, [])), (0, 4, (0, []))], []), (55, [((-8), 3)]), 0, 0), (59, ([(0, (2, 0, (0, []))), (1, (0, 0, (0, [(1, 0)]))), (2, (0, 0, (0, [(1, 1)]))), (3, (0, 0, (0, [(1, 2)]))), (4, (0, 0, (0, [(1, 3)]))), (5, (0, 0, (0, [(1, 4)])))], [], ([(0, 5), (0, 5), (2, 6), (1, 5), (0, 6)], [((-1), [((-1), 3), (1, 2)]), (0, [(1, 2), ((-1), 4)]), ((-1), [(1, 4), (1, 2), ((-1), 3)])], [], [194], [((41, (0, [])), (0, [(1, 2)]))], [], []), [(0, 3, (0, [])), (0, 4, (0, [])), (0, 5, (0, []))], []), (54, [((-1), 4), ((-8), 3)]), 0, 0)]
theorem k273 : chk (mkD iX8_width fX8 lX8 kX8 kkX8 273 [(68, [272])] c273 false 6 u273) 4000 = true := by decide +kernel
theorem m273 {X0 : zC0} (H : ∀ j, j < 273 → CMj X0 j) : CMj X0 273 := by
  obtain ⟨l0, D0, cy0, ax0⟩ := X0
  intro mi c hc
  have e : conAt 273 = some (225, c273) := rfl
  rw [e] at hc
  obtain ⟨rfl, rfl⟩ := Prod.mk.inj (Option.some.inj hc)
  have e2 : mt 225 = (yX8_width, cX8_width, 6, (some .int)) := rfl
  rw [e2]
  have h := chk_ok (l0 := l0) (D0 := D0) (cy0 := cy0) (ax0 := ax0) (y := yX8_width) (cc := cX8_width) (ret := (some .int)) k273 (mk_ok jX8_width fX8_ok lX8_ok kX8_ok kkX8_ok H) ⟨_, rfl⟩ pnX8 nrI (fun h => by cases h) rfl
  exact h

/-! X11_widest (('k', 197), ('n',), ('n',)) -/
def u274 : List (Nat × TP × EX × Nat × Nat) := []
theorem k274 : chk (mkD iX11_widest fX11 lX11 kX11 kkX11 274 [(8, [6]), (22, [6]), (36, [273])] c274 false 3 u274) 4000 = true := by decide +kernel
theorem m274 {X0 : zC0} (H : ∀ j, j < 274 → CMj X0 j) : CMj X0 274 := by
  obtain ⟨l0, D0, cy0, ax0⟩ := X0
  intro mi c hc
  have e : conAt 274 = some (68, c274) := rfl
  rw [e] at hc
  obtain ⟨rfl, rfl⟩ := Prod.mk.inj (Option.some.inj hc)
  have e2 : mt 68 = (yX11_widest, cX11_widest, 3, (some .int)) := rfl
  rw [e2]
  have h := chk_ok (l0 := l0) (D0 := D0) (cy0 := cy0) (ax0 := ax0) (y := yX11_widest) (cc := cX11_widest) (ret := (some .int)) k274 (mk_ok jX11_widest fX11_ok lX11_ok kX11_ok kkX11_ok H) ⟨_, rfl⟩ pnX11 nrI (fun h => by cases h) rfl
  exact h

/-! X11_year (('k', 197), ('n',), ('n',)) -/
def u275 : List (Nat × TP × EX × Nat × Nat) := [(65, ([(0, (2, 0, (0, []))), (1, (0, 0, (0, [(1, 0)]))), (2, (0, 0, (0, [(1, 1)]))), (3, (0, 0, (0, [(1, 4)]))), (4, (0, 0, (0, [(1, 5)])))], [], ([(0, 9999), (1, 30), (1, 30), (1, 8), ((-2147483648), 2147483647), (0, 30)], [(0, [(1, 1), ((-1), 5)])], [], [197], [((59, (0, [])), (0, [(1, 2)])), ((41, (1, [])), (0, [(1, 3)]))], [], []), [(2, 59, (0, [])), (2, 41, (1, [])), (0, 3, (0, [])), (0, 4, (0, []))], []), (30, [((-1), 5)]), 0, 0)]
theorem k275 : chk (mkD iX11_year fX11 lX11 kX11 kkX11 275 [(5, [56]), (15, [56]), (41, [58]), (73, [88])] c275 false 5 u275) 4000 = true := by decide +kernel
theorem m275 {X0 : zC0} (H : ∀ j, j < 275 → CMj X0 j) : CMj X0 275 := by
  obtain ⟨l0, D0, cy0, ax0⟩ := X0
  intro mi c hc
  have e : conAt 275 = some (70, c275) := rfl
  rw [e] at hc
  obtain ⟨rfl, rfl⟩ := Prod.mk.inj (Option.some.inj hc)
  have e2 : mt 70 = (yX11_year, cX11_year, 5, (some .int)) := rfl
  rw [e2]
  have h := chk_ok (l0 := l0) (D0 := D0) (cy0 := cy0) (ax0 := ax0) (y := yX11_year) (cc := cX11_year) (ret := (some .int)) k275 (mk_ok jX11_year fX11_ok lX11_ok kX11_ok kkX11_ok H) ⟨_, rfl⟩ pnX11 nrI (fun h => by cases h) rfl
  exact h

/-! X12_isIn (('n',), ('n',), ('n',)) -/
def u276 : List (Nat × TP × EX × Nat × Nat) := []
theorem k276 : chk (mkD iX12_isIn fX12 lX12 kX12 kkX12 276 [] c276 true 3 u276) 4000 = true := by decide +kernel
theorem m276 {X0 : zC0} (H : ∀ j, j < 276 → CMj X0 j) : CMj X0 276 := by
  obtain ⟨l0, D0, cy0, ax0⟩ := X0
  intro mi c hc
  have e : conAt 276 = some (110, c276) := rfl
  rw [e] at hc
  obtain ⟨rfl, rfl⟩ := Prod.mk.inj (Option.some.inj hc)
  have e2 : mt 110 = (yX12_isIn, cX12_isIn, 3, (some .boolean)) := rfl
  rw [e2]
  have h := chk_ok (l0 := l0) (D0 := D0) (cy0 := cy0) (ax0 := ax0) (y := yX12_isIn) (cc := cX12_isIn) (ret := (some .boolean)) k276 (mk_ok jX12_isIn fX12_ok lX12_ok kX12_ok kkX12_ok H) ⟨_, rfl⟩ pnX12 (fun h => by cases h) (fun _ => rfl) rfl
  exact h

/-! X12_about (('k', 200), ('n',)) -/
def u277 : List (Nat × TP × EX × Nat × Nat) := []
theorem k277 : chk (mkD iX12_about fX12 lX12 kX12 kkX12 277 [(4, [276])] c277 false 2 u277) 4000 = true := by decide +kernel
theorem m277 {X0 : zC0} (H : ∀ j, j < 277 → CMj X0 j) : CMj X0 277 := by
  obtain ⟨l0, D0, cy0, ax0⟩ := X0
  intro mi c hc
  have e : conAt 277 = some (71, c277) := rfl
  rw [e] at hc
  obtain ⟨rfl, rfl⟩ := Prod.mk.inj (Option.some.inj hc)
  have e2 : mt 71 = (yX12_about, cX12_about, 2, (some .int)) := rfl
  rw [e2]
  have h := chk_ok (l0 := l0) (D0 := D0) (cy0 := cy0) (ax0 := ax0) (y := yX12_about) (cc := cX12_about) (ret := (some .int)) k277 (mk_ok jX12_about fX12_ok lX12_ok kX12_ok kkX12_ok H) ⟨_, rfl⟩ pnX12 nrI (fun h => by cases h) rfl
  exact h

/-! X12_addTo (('k', 200), ('n',), ('n',)) -/
def u278 : List (Nat × TP × EX × Nat × Nat) := []
theorem k278 : chk (mkD iX12_addTo fX12 lX12 kX12 kkX12 278 [] c278 false 3 u278) 4000 = true := by decide +kernel
theorem m278 {X0 : zC0} (H : ∀ j, j < 278 → CMj X0 j) : CMj X0 278 := by
  obtain ⟨l0, D0, cy0, ax0⟩ := X0
  intro mi c hc
  have e : conAt 278 = some (72, c278) := rfl
  rw [e] at hc
  obtain ⟨rfl, rfl⟩ := Prod.mk.inj (Option.some.inj hc)
  have e2 : mt 72 = (yX12_addTo, cX12_addTo, 3, none) := rfl
  rw [e2]
  have h := chk_ok (l0 := l0) (D0 := D0) (cy0 := cy0) (ax0 := ax0) (y := yX12_addTo) (cc := cX12_addTo) (ret := none) k278 (mk_ok jX12_addTo fX12_ok lX12_ok kX12_ok kkX12_ok H) rfl pnX12 nrV (fun h => by cases h) rfl
  exact h

/-! X12_anew (('n',),) -/
def u279 : List (Nat × TP × EX × Nat × Nat) := []
theorem k279 : chk (mkD iX12_anew fX12 lX12 kX12 kkX12 279 [] c279 false 1 u279) 4000 = true := by decide +kernel
theorem m279 {X0 : zC0} (H : ∀ j, j < 279 → CMj X0 j) : CMj X0 279 := by
  obtain ⟨l0, D0, cy0, ax0⟩ := X0
  intro mi c hc
  have e : conAt 279 = some (73, c279) := rfl
  rw [e] at hc
  obtain ⟨rfl, rfl⟩ := Prod.mk.inj (Option.some.inj hc)
  have e2 : mt 73 = (yX12_anew, cX12_anew, 1, (some .int)) := rfl
  rw [e2]
  have h := chk_ok (l0 := l0) (D0 := D0) (cy0 := cy0) (ax0 := ax0) (y := yX12_anew) (cc := cX12_anew) (ret := (some .int)) k279 (mk_ok jX12_anew fX12_ok lX12_ok kX12_ok kkX12_ok H) ⟨_, rfl⟩ pnX12 nrI (fun h => by cases h) rfl
  exact h

/-! X12_fieldOf (('k', 200), ('n',), ('c', 3)) -/
def u280 : List (Nat × TP × EX × Nat × Nat) := []
theorem k280 : chk (mkD iX12_fieldOf fX12 lX12 kX12 kkX12 280 [] c280 false 3 u280) 4000 = true := by decide +kernel
theorem m280 {X0 : zC0} (H : ∀ j, j < 280 → CMj X0 j) : CMj X0 280 := by
  obtain ⟨l0, D0, cy0, ax0⟩ := X0
  intro mi c hc
  have e : conAt 280 = some (94, c280) := rfl
  rw [e] at hc
  obtain ⟨rfl, rfl⟩ := Prod.mk.inj (Option.some.inj hc)
  have e2 : mt 94 = (yX12_fieldOf, cX12_fieldOf, 3, (some .int)) := rfl
  rw [e2]
  have h := chk_ok (l0 := l0) (D0 := D0) (cy0 := cy0) (ax0 := ax0) (y := yX12_fieldOf) (cc := cX12_fieldOf) (ret := (some .int)) k280 (mk_ok jX12_fieldOf fX12_ok lX12_ok kX12_ok kkX12_ok H) ⟨_, rfl⟩ pnX12 nrI (fun h => by cases h) rfl
  exact h

/-! X12_fieldOf (('k', 200), ('n',), ('c', 4)) -/
def u281 : List (Nat × TP × EX × Nat × Nat) := []
theorem k281 : chk (mkD iX12_fieldOf fX12 lX12 kX12 kkX12 281 [] c281 false 3 u281) 4000 = true := by decide +kernel
theorem m281 {X0 : zC0} (H : ∀ j, j < 281 → CMj X0 j) : CMj X0 281 := by
  obtain ⟨l0, D0, cy0, ax0⟩ := X0
  intro mi c hc
  have e : conAt 281 = some (94, c281) := rfl
  rw [e] at hc
  obtain ⟨rfl, rfl⟩ := Prod.mk.inj (Option.some.inj hc)
  have e2 : mt 94 = (yX12_fieldOf, cX12_fieldOf, 3, (some .int)) := rfl
  rw [e2]
  have h := chk_ok (l0 := l0) (D0 := D0) (cy0 := cy0) (ax0 := ax0) (y := yX12_fieldOf) (cc := cX12_fieldOf) (ret := (some .int)) k281 (mk_ok jX12_fieldOf fX12_ok lX12_ok kX12_ok kkX12_ok H) ⟨_, rfl⟩ pnX12 nrI (fun h => by cases h) rfl
  exact h

/-! X12_fieldOf (('k', 200), ('n',), ('c', 5)) -/
def u282 : List (Nat × TP × EX × Nat × Nat) := []
theorem k282 : chk (mkD iX12_fieldOf fX12 lX12 kX12 kkX12 282 [] c282 false 3 u282) 4000 = true := by decide +kernel
theorem m282 {X0 : zC0} (H : ∀ j, j < 282 → CMj X0 j) : CMj X0 282 := by
  obtain ⟨l0, D0, cy0, ax0⟩ := X0
  intro mi c hc
  have e : conAt 282 = some (94, c282) := rfl
  rw [e] at hc
  obtain ⟨rfl, rfl⟩ := Prod.mk.inj (Option.some.inj hc)
  have e2 : mt 94 = (yX12_fieldOf, cX12_fieldOf, 3, (some .int)) := rfl
  rw [e2]
  have h := chk_ok (l0 := l0) (D0 := D0) (cy0 := cy0) (ax0 := ax0) (y := yX12_fieldOf) (cc := cX12_fieldOf) (ret := (some .int)) k282 (mk_ok jX12_fieldOf fX12_ok lX12_ok kX12_ok kkX12_ok H) ⟨_, rfl⟩ pnX12 nrI (fun h => by cases h) rfl
  exact h

/-! X12_get (('k', 200), ('n',), ('c', 2)) -/
def u283 : List (Nat × TP × EX × Nat × Nat) := []
theorem k283 : chk (mkD iX12_get fX12 lX12 kX12 kkX12 283 [] c283 false 3 u283) 4000 = true := by decide +kernel
theorem m283 {X0 : zC0} (H : ∀ j, j < 283 → CMj X0 j) : CMj X0 283 := by
  obtain ⟨l0, D0, cy0, ax0⟩ := X0
  intro mi c hc
  have e : conAt 283 = some (102, c283) := rfl
  rw [e] at hc
  obtain ⟨rfl, rfl⟩ := Prod.mk.inj (Option.some.inj hc)
  have e2 : mt 102 = (yX12_get, cX12_get, 3, (some .int)) := rfl
  rw [e2]
  have h := chk_ok (l0 := l0) (D0 := D0) (cy0 := cy0) (ax0 := ax0) (y := yX12_get) (cc := cX12_get) (ret := (some .int)) k283 (mk_ok jX12_get fX12_ok lX12_ok kX12_ok kkX12_ok H) ⟨_, rfl⟩ pnX12 nrI (fun h => by cases h) rfl
  exact h

/-! X12_get (('k', 200), ('n',), ('c', 3)) -/
def u284 : List (Nat × TP × EX × Nat × Nat) := []
theorem k284 : chk (mkD iX12_get fX12 lX12 kX12 kkX12 284 [] c284 false 3 u284) 4000 = true := by decide +kernel
theorem m284 {X0 : zC0} (H : ∀ j, j < 284 → CMj X0 j) : CMj X0 284 := by
  obtain ⟨l0, D0, cy0, ax0⟩ := X0
  intro mi c hc
  have e : conAt 284 = some (102, c284) := rfl
  rw [e] at hc
  obtain ⟨rfl, rfl⟩ := Prod.mk.inj (Option.some.inj hc)
  have e2 : mt 102 = (yX12_get, cX12_get, 3, (some .int)) := rfl
  rw [e2]
  have h := chk_ok (l0 := l0) (D0 := D0) (cy0 := cy0) (ax0 := ax0) (y := yX12_get) (cc := cX12_get) (ret := (some .int)) k284 (mk_ok jX12_get fX12_ok lX12_ok kX12_ok kkX12_ok H) ⟨_, rfl⟩ pnX12 nrI (fun h => by cases h) rfl
  exact h

/-! X12_get (('k', 200), ('n',), ('c', 4)) -/
def u285 : List (Nat × TP × EX × Nat × Nat) := []
theorem k285 : chk (mkD iX12_get fX12 lX12 kX12 kkX12 285 [] c285 false 3 u285) 4000 = true := by decide +kernel
theorem m285 {X0 : zC0} (H : ∀ j, j < 285 → CMj X0 j) : CMj X0 285 := by
  obtain ⟨l0, D0, cy0, ax0⟩ := X0
  intro mi c hc
  have e : conAt 285 = some (102, c285) := rfl
  rw [e] at hc
  obtain ⟨rfl, rfl⟩ := Prod.mk.inj (Option.some.inj hc)
  have e2 : mt 102 = (yX12_get, cX12_get, 3, (some .int)) := rfl
  rw [e2]
  have h := chk_ok (l0 := l0) (D0 := D0) (cy0 := cy0) (ax0 := ax0) (y := yX12_get) (cc := cX12_get) (ret := (some .int)) k285 (mk_ok jX12_get fX12_ok lX12_ok kX12_ok kkX12_ok H) ⟨_, rfl⟩ pnX12 nrI (fun h => by cases h) rfl
  exact h

/-! X12_keep (('k', 200),) -/
def u286 : List (Nat × TP × EX × Nat × Nat) := [(14, ([(0, (2, 0, (0, []))), (1, (0, 0, (0, [(1, 2)])))], [], ([(0, 2002700000), (30, 30), (0, 1746)], [], [], [200], [((201, (9, [])), (0, [(1, 1)])), ((0, (0, [])), (0, [(1, 0)]))], [], []), [(2, 201, (9, [])), (0, 1, (0, []))], []), (1762, [((-1), 2)]), 0, 0), (148, ([(0, (2, 0, (0, []))), (1, (0, 0, (186, [(52, 9)]))), (2, (0, 0, (0, [(1, 10)])))], [], ([(0, 2002700000), (0, 2002700000), ((-2147483648), 2147483647), ((-2147483648), 2147483647), ((-2147483648), 2147483647), ((-2147483648), 2147483647), (0, 999), (0, 8), (0, 6), (0, 29), (0, 6)], [(0, [(8, 8), ((-1), 7)]), (0, [(1, 10), ((-1), 7), (8, 8)])], [], [200], [((201, (193, [(52, 9)])), (0, [(1, 1)])), ((201, (13, [])), (0, [(1, 1)])), ((201, (192, [(52, 9)])), (0, [(1, 2)])), ((201, (6, [])), (0, [(1, 2)])), ((201, (191, [(52, 9)])), (0, [(1, 3)])), ((201, (5, [])), (0, [(1, 3)])), ((201, (190, [(52, 9)])), (0, [(1, 4)])), ((201, (4, [])), (0, [(1, 4)])), ((201, (189, [(52, 9)])), (0, [(1, 5)])), ((201, (3, [])), (0, [(1, 5)])), ((201, (188, [(52, 9)])), (0, [(1, 6)])), ((201, (2, [])), (0, [(1, 6)])), ((201, (187, [(52, 9)])), (0, [(1, 7)])), ((201, (1, [])), (0, [(1, 7)])), ((201, (186, [(52, 9)])), (0, [(1, 8)])), ((201, (0, [])), (0, [(1, 8)])), ((201, (9, [])), (0, [(1, 9)])), ((0, (0, [])), (0, [(1, 0)]))], [], []), [(2, 201, (13, [])), (2, 201, (6, [])), (2, 201, (5, [])), (2, 201, (4, [])), (2, 201, (3, [])), (2, 201, (2, [])), (2, 201, (1, [])), (2, 201, (0, [])), (2, 201, (9, [])), (0, 2, (0, []))], []), (15, [((-1), 10)]), 0, 0), (198, ([(0, (2, 0, (0, []))), (1, (0, 0, (186, [(52, 9)]))), (2, (0, 0, (0, [(1, 10)])))], [], ([(0, 2002700000), (0, 2002700000), ((-2147483648), 2147483647), ((-2147483648), 2147483647), ((-2147483648), 2147483647), ((-2147483648), 2147483647), (0, 999), (0, 8), (0, 6), (0, 29), (0, 8)], [(0, [((-1), 7), (8, 8)]), (0, [(1, 10), (8, 8), ((-1), 7)])], [], [200], [((201, (193, [(52, 9)])), (0, [(1, 1)])), ((201, (13, [])), (0, [(1, 1)])), ((201, (192, [(52, 9)])), (0, [(1, 2)])), ((201, (6, [])), (0, [(1, 2)])), ((201, (191, [(52, 9)])), (0, [(1, 3)])), ((201, (5, [])), (0, [(1, 3)])), ((201, (190, [(52, 9)])), (0, [(1, 4)])), ((201, (4, [])), (0, [(1, 4)])), ((201, (189, [(52, 9)])), (0, [(1, 5)])), ((201, (3, [])), (0, [(1, 5)])), ((201, (188, [(52, 9)])), (0, [(1, 6)])), ((201, (2, [])), (0, [(1, 6)])), ((201, (187, [(52, 9)])), (0, [(1, 7)])), ((201, (1, [])), (0, [(1, 7)])), ((201, (186, [(52, 9)])), (0, [(1, 8)])), ((201, (0, [])), (0, [(1, 8)])), ((201, (9, [])), (0, [(1, 9)])), ((0, (0, [])), (0, [(1, 0)]))], [], []), [(2, 201, (13, [])), (2, 201, (6, [])), (2, 201, (5, [])), (2, 201, (4, [])), (2, 201, (3, [])), (2, 201, (2, [])), (2, 201, (1, [])), (2, 201, (0, [])), (2, 201, (9, [])), (0, 2, (0, []))], []), (8, [((-1), 10)]), 0, 0)]
set_option maxRecDepth 1000000 in
theorem k286 : chk (mkD iX12_keep fX12 lX12 kX12 kkX12 286 [(180, [280, 281, 282]), (230, [283, 284, 285])] c286 false 4 u286) 4000 = true := by decide +kernel
theorem m286 {X0 : zC0} (H : ∀ j, j < 286 → CMj X0 j) : CMj X0 286 := by
  obtain ⟨l0, D0, cy0, ax0⟩ := X0
  intro mi c hc
  have e : conAt 286 = some (113, c286) := rfl
  rw [e] at hc
  obtain ⟨rfl, rfl⟩ := Prod.mk.inj (Option.some.inj hc)
  have e2 : mt 113 = (yX12_keep, cX12_keep, 4, none) := rfl
  rw [e2]
  have h := chk_ok (l0 := l0) (D0 := D0) (cy0 := cy0) (ax0 := ax0) (y := yX12_keep) (cc := cX12_keep) (ret := none) k286 (mk_ok jX12_keep fX12_ok lX12_ok kX12_ok kkX12_ok H) rfl pnX12 nrV (fun h => by cases h) rfl
  exact h

/-! X12_fieldOf (('k', 200), ('n',), ('c', 0)) -/
def u287 : List (Nat × TP × EX × Nat × Nat) := []
theorem k287 : chk (mkD iX12_fieldOf fX12 lX12 kX12 kkX12 287 [] c287 false 3 u287) 4000 = true := by decide +kernel
theorem m287 {X0 : zC0} (H : ∀ j, j < 287 → CMj X0 j) : CMj X0 287 := by
  obtain ⟨l0, D0, cy0, ax0⟩ := X0
  intro mi c hc
  have e : conAt 287 = some (94, c287) := rfl
  rw [e] at hc
  obtain ⟨rfl, rfl⟩ := Prod.mk.inj (Option.some.inj hc)
  have e2 : mt 94 = (yX12_fieldOf, cX12_fieldOf, 3, (some .int)) := rfl
  rw [e2]
  have h := chk_ok (l0 := l0) (D0 := D0) (cy0 := cy0) (ax0 := ax0) (y := yX12_fieldOf) (cc := cX12_fieldOf) (ret := (some .int)) k287 (mk_ok jX12_fieldOf fX12_ok lX12_ok kX12_ok kkX12_ok H) ⟨_, rfl⟩ pnX12 nrI (fun h => by cases h) rfl
  exact h

/-! X12_get (('k', 200), ('n',), ('c', 1)) -/
def u288 : List (Nat × TP × EX × Nat × Nat) := []
theorem k288 : chk (mkD iX12_get fX12 lX12 kX12 kkX12 288 [] c288 false 3 u288) 4000 = true := by decide +kernel
theorem m288 {X0 : zC0} (H : ∀ j, j < 288 → CMj X0 j) : CMj X0 288 := by
  obtain ⟨l0, D0, cy0, ax0⟩ := X0
  intro mi c hc
  have e : conAt 288 = some (102, c288) := rfl
  rw [e] at hc
  obtain ⟨rfl, rfl⟩ := Prod.mk.inj (Option.some.inj hc)
  have e2 : mt 102 = (yX12_get, cX12_get, 3, (some .int)) := rfl
  rw [e2]
  have h := chk_ok (l0 := l0) (D0 := D0) (cy0 := cy0) (ax0 := ax0) (y := yX12_get) (cc := cX12_get) (ret := (some .int)) k288 (mk_ok jX12_get fX12_ok lX12_ok kX12_ok kkX12_ok H) ⟨_, rfl⟩ pnX12 nrI (fun h => by cases h) rfl
  exact h

/-! X12_get (('k', 200), ('n',), ('c', 0)) -/
def u289 : List (Nat × TP × EX × Nat × Nat) := []
theorem k289 : chk (mkD iX12_get fX12 lX12 kX12 kkX12 289 [] c289 false 3 u289) 4000 = true := by decide +kernel
theorem m289 {X0 : zC0} (H : ∀ j, j < 289 → CMj X0 j) : CMj X0 289 := by
  obtain ⟨l0, D0, cy0, ax0⟩ := X0
  intro mi c hc
  have e : conAt 289 = some (102, c289) := rfl
  rw [e] at hc
  obtain ⟨rfl, rfl⟩ := Prod.mk.inj (Option.some.inj hc)
  have e2 : mt 102 = (yX12_get, cX12_get, 3, (some .int)) := rfl
  rw [e2]
  have h := chk_ok (l0 := l0) (D0 := D0) (cy0 := cy0) (ax0 := ax0) (y := yX12_get) (cc := cX12_get) (ret := (some .int)) k289 (mk_ok jX12_get fX12_ok lX12_ok kX12_ok kkX12_ok H) ⟨_, rfl⟩ pnX12 nrI (fun h => by cases h) rfl
  exact h

/-! X12_name (('k', 200), ('n',)) -/
def u290 : List (Nat × TP × EX × Nat × Nat) := []
theorem k290 : chk (mkD iX12_name fX12 lX12 kX12 kkX12 290 [(25, [288]), (38, [289]), (51, [284]), (72, [285]), (90, [288])] c290 false 2 u290) 4000 = true := by decide +kernel
theorem m290 {X0 : zC0} (H : ∀ j, j < 290 → CMj X0 j) : CMj X0 290 := by
  obtain ⟨l0, D0, cy0, ax0⟩ := X0
  intro mi c hc
  have e : conAt 290 = some (118, c290) := rfl
  rw [e] at hc
  obtain ⟨rfl, rfl⟩ := Prod.mk.inj (Option.some.inj hc)
  have e2 : mt 118 = (yX12_name, cX12_name, 2, none) := rfl
  rw [e2]
  have h := chk_ok (l0 := l0) (D0 := D0) (cy0 := cy0) (ax0 := ax0) (y := yX12_name) (cc := cX12_name) (ret := none) k290 (mk_ok jX12_name fX12_ok lX12_ok kX12_ok kkX12_ok H) rfl pnX12 nrV (fun h => by cases h) rfl
  exact h

/-! X12_says (('k', 200), ('n',), ('n',), ('n',), ('n',), ('n',), ('n',)) -/
def u292 : List (Nat × TP × EX × Nat × Nat) := [(3, ([(0, (2, 0, (0, []))), (1, (0, 0, (0, [(1, 0)]))), (2, (0, 0, (0, [(1, 1)]))), (3, (0, 0, (0, [(1, 2)]))), (4, (0, 0, (0, [(1, 3)]))), (5, (0, 0, (0, [(1, 4)]))), (6, (0, 0, (0, [(1, 5)]))), (7, (0, 0, (0, [(1, 6)])))], [], ([(0, 4), ((-1), 7), (0, 5), ((-2147483648), 2147483647), (0, 0), ((-2147483648), 2147483647), (0, 24)], [], [], [200], [], [], []), [(0, 7, (0, []))], []), (24, [((-1), 6)]), 0, 0)]
theorem k292 : chk (mkD iX12_says fX12 lX12 kX12 kkX12 292 [(84, [287]), (96, [280]), (112, [290]), (118, [291])] c292 false 9 u292) 4000 = true := by decide +kernel
theorem m292 {X0 : zC0} (H : ∀ j, j < 292 → CMj X0 j) : CMj X0 292 := by
  obtain ⟨l0, D0, cy0, ax0⟩ := X0
  intro mi c hc
  have e : conAt 292 = some (138, c292) := rfl
  rw [e] at hc
  obtain ⟨rfl, rfl⟩ := Prod.mk.inj (Option.some.inj hc)
  have e2 : mt 138 = (yX12_says, cX12_says, 9, (some .int)) := rfl
  rw [e2]
  have h := chk_ok (l0 := l0) (D0 := D0) (cy0 := cy0) (ax0 := ax0) (y := yX12_says) (cc := cX12_says) (ret := (some .int)) k292 (mk_ok jX12_says fX12_ok lX12_ok kX12_ok kkX12_ok H) ⟨_, rfl⟩ pnX12 nrI (fun h => by cases h) rfl
  exact h

/-! X12_sweatOf (('k', 200), ('n',), ('n',)) -/
def u293 : List (Nat × TP × EX × Nat × Nat) := []
theorem k293 : chk (mkD iX12_sweatOf fX12 lX12 kX12 kkX12 293 [(7, [285]), (13, [292]), (20, [284]), (37, [284])] c293 false 4 u293) 4000 = true := by decide +kernel
theorem m293 {X0 : zC0} (H : ∀ j, j < 293 → CMj X0 j) : CMj X0 293 := by
  obtain ⟨l0, D0, cy0, ax0⟩ := X0
  intro mi c hc
  have e : conAt 293 = some (147, c293) := rfl
  rw [e] at hc
  obtain ⟨rfl, rfl⟩ := Prod.mk.inj (Option.some.inj hc)
  have e2 : mt 147 = (yX12_sweatOf, cX12_sweatOf, 4, (some .int)) := rfl
  rw [e2]
  have h := chk_ok (l0 := l0) (D0 := D0) (cy0 := cy0) (ax0 := ax0) (y := yX12_sweatOf) (cc := cX12_sweatOf) (ret := (some .int)) k293 (mk_ok jX12_sweatOf fX12_ok lX12_ok kX12_ok kkX12_ok H) ⟨_, rfl⟩ pnX12 nrI (fun h => by cases h) rfl
  exact h

/-! X12_wet (('k', 200), ('n',), ('n',)) -/
def u294 : List (Nat × TP × EX × Nat × Nat) := []
theorem k294 : chk (mkD iX12_wet fX12 lX12 kX12 kkX12 294 [] c294 false 3 u294) 4000 = true := by decide +kernel
theorem m294 {X0 : zC0} (H : ∀ j, j < 294 → CMj X0 j) : CMj X0 294 := by
  obtain ⟨l0, D0, cy0, ax0⟩ := X0
  intro mi c hc
  have e : conAt 294 = some (154, c294) := rfl
  rw [e] at hc
  obtain ⟨rfl, rfl⟩ := Prod.mk.inj (Option.some.inj hc)
  have e2 : mt 154 = (yX12_wet, cX12_wet, 3, none) := rfl
  rw [e2]
  have h := chk_ok (l0 := l0) (D0 := D0) (cy0 := cy0) (ax0 := ax0) (y := yX12_wet) (cc := cX12_wet) (ret := none) k294 (mk_ok jX12_wet fX12_ok lX12_ok kX12_ok kkX12_ok H) rfl pnX12 nrV (fun h => by cases h) rfl
  exact h

/-! X12_write (('k', 200), ('n',), ('n',)) -/
def u295 : List (Nat × TP × EX × Nat × Nat) := []
theorem k295 : chk (mkD iX12_write fX12 lX12 kX12 kkX12 295 [(37, [283])] c295 false 3 u295) 4000 = true := by decide +kernel
theorem m295 {X0 : zC0} (H : ∀ j, j < 295 → CMj X0 j) : CMj X0 295 := by
  obtain ⟨l0, D0, cy0, ax0⟩ := X0
  intro mi c hc
  have e : conAt 295 = some (158, c295) := rfl
  rw [e] at hc
  obtain ⟨rfl, rfl⟩ := Prod.mk.inj (Option.some.inj hc)
  have e2 : mt 158 = (yX12_write, cX12_write, 3, none) := rfl
  rw [e2]
  have h := chk_ok (l0 := l0) (D0 := D0) (cy0 := cy0) (ax0 := ax0) (y := yX12_write) (cc := cX12_write) (ret := none) k295 (mk_ok jX12_write fX12_ok lX12_ok kX12_ok kkX12_ok H) rfl pnX12 nrV (fun h => by cases h) rfl
  exact h

/-! X12_rainOf (('k', 200), ('n',)) -/
def u296 : List (Nat × TP × EX × Nat × Nat) := []
theorem k296 : chk (mkD iX12_rainOf fX12 lX12 kX12 kkX12 296 [(3, [283]), (14, [284]), (21, [284]), (24, [292]), (44, [292]), (83, [294]), (90, [278]), (103, [295])] c296 false 5 u296) 4000 = true := by decide +kernel
theorem m296 {X0 : zC0} (H : ∀ j, j < 296 → CMj X0 j) : CMj X0 296 := by
  obtain ⟨l0, D0, cy0, ax0⟩ := X0
  intro mi c hc
  have e : conAt 296 = some (134, c296) := rfl
  rw [e] at hc
  obtain ⟨rfl, rfl⟩ := Prod.mk.inj (Option.some.inj hc)
  have e2 : mt 134 = (yX12_rainOf, cX12_rainOf, 5, none) := rfl
  rw [e2]
  have h := chk_ok (l0 := l0) (D0 := D0) (cy0 := cy0) (ax0 := ax0) (y := yX12_rainOf) (cc := cX12_rainOf) (ret := none) k296 (mk_ok jX12_rainOf fX12_ok lX12_ok kX12_ok kkX12_ok H) rfl pnX12 nrV (fun h => by cases h) rfl
  exact h

/-! X12_rainAll (('k', 200),) -/
def u297 : List (Nat × TP × EX × Nat × Nat) := [(26, ([(0, (2, 0, (0, []))), (1, (0, 0, (0, [(1, 3)])))], [], ([(0, 2002400000), ((-2147483648), 2147483647), (0, 1), (0, 8)], [], [], [200], [((200, (36, [])), (0, [(1, 1)])), ((200, (38, [])), (0, [(1, 2)])), ((0, (0, [])), (0, [(1, 0)]))], [], []), [(2, 200, (36, [])), (2, 200, (38, [])), (0, 1, (0, []))], []), (17, [((-1), 3)]), 0, 0), (74, ([(0, (2, 0, (0, []))), (1, (0, 0, (0, [(1, 4)]))), (2, (0, 0, (0, [(1, 5)])))], [], ([(0, 2002400000), (0, 8), ((-2147483648), 2147483647), (0, 1), (0, 8), (0, 8), (0, 2002400008)], [(0, [(1, 1), ((-1), 4)]), (0, [(1, 1), ((-1), 5)]), (0, [(1, 5), ((-1), 4)]), (0, [((-1), 6), (1, 0), (1, 4)]), (0, [((-1), 6), (1, 0), (1, 5)]), (2002400000, [((-1), 6), (1, 4)]), (2002400000, [((-1), 6), (1, 5)]), (0, [((-1), 6), (1, 0), (8, 4)]), (0, [((-1), 6), (1, 0), (40, 4)]), (0, [((-1), 6), (1, 0), (240, 4)]), (0, [((-1), 6), (1, 0), (8000, 4)]), (0, [((-1), 6), (1, 0), (8, 5)]), (0, [((-1), 6), (1, 0), (40, 5)]), (0, [((-1), 6), (1, 0), (240, 5)]), (0, [((-1), 6), (1, 0), (8000, 5)]), (8, [(1, 0), ((-1), 6)])], [], [200], [((201, (1, [])), (0, [(1, 1)])), ((200, (36, [])), (0, [(1, 2)])), ((200, (38, [])), (0, [(1, 3)])), ((0, (0, [])), (0, [(1, 6)]))], [], []), [(2, 201, (1, [])), (2, 200, (36, [])), (2, 200, (38, [])), (0, 1, (0, [])), (0, 2, (0, [])), (2, 0, (0, []))], []), (8, [((-1), 5)]), 0, 0)]
theorem k297 : chk (mkD iX12_rainAll fX12 lX12 kX12 kkX12 297 [(41, [283]), (44, [293]), (51, [278]), (87, [284]), (93, [289]), (104, [296])] c297 false 3 u297) 4000 = true := by decide +kernel
theorem m297 {X0 : zC0} (H : ∀ j, j < 297 → CMj X0 j) : CMj X0 297 := by
  obtain ⟨l0, D0, cy0, ax0⟩ := X0
  intro mi c hc
  have e : conAt 297 = some (133, c297) := rfl
  rw [e] at hc
  obtain ⟨rfl, rfl⟩ := Prod.mk.inj (Option.some.inj hc)
  have e2 : mt 133 = (yX12_rainAll, cX12_rainAll, 3, (some .int)) := rfl
  rw [e2]
  have h := chk_ok (l0 := l0) (D0 := D0) (cy0 := cy0) (ax0 := ax0) (y := yX12_rainAll) (cc := cX12_rainAll) (ret := (some .int)) k297 (mk_ok jX12_rainAll fX12_ok lX12_ok kX12_ok kkX12_ok H) ⟨_, rfl⟩ pnX12 nrI (fun h => by cases h) rfl
  exact h

/-! X12_fieldOf (('k', 200), ('n',), ('c', 2)) -/
def u298 : List (Nat × TP × EX × Nat × Nat) := []
theorem k298 : chk (mkD iX12_fieldOf fX12 lX12 kX12 kkX12 298 [] c298 false 3 u298) 4000 = true := by decide +kernel
theorem m298 {X0 : zC0} (H : ∀ j, j < 298 → CMj X0 j) : CMj X0 298 := by
  obtain ⟨l0, D0, cy0, ax0⟩ := X0
  intro mi c hc
  have e : conAt 298 = some (94, c298) := rfl
  rw [e] at hc
  obtain ⟨rfl, rfl⟩ := Prod.mk.inj (Option.some.inj hc)
  have e2 : mt 94 = (yX12_fieldOf, cX12_fieldOf, 3, (some .int)) := rfl
  rw [e2]
  have h := chk_ok (l0 := l0) (D0 := D0) (cy0 := cy0) (ax0 := ax0) (y := yX12_fieldOf) (cc := cX12_fieldOf) (ret := (some .int)) k298 (mk_ok jX12_fieldOf fX12_ok lX12_ok kX12_ok kkX12_ok H) ⟨_, rfl⟩ pnX12 nrI (fun h => by cases h) rfl
  exact h

/-! X12_fieldOf (('k', 200), ('n',), ('c', 1)) -/
def u299 : List (Nat × TP × EX × Nat × Nat) := []
theorem k299 : chk (mkD iX12_fieldOf fX12 lX12 kX12 kkX12 299 [] c299 false 3 u299) 4000 = true := by decide +kernel
theorem m299 {X0 : zC0} (H : ∀ j, j < 299 → CMj X0 j) : CMj X0 299 := by
  obtain ⟨l0, D0, cy0, ax0⟩ := X0
  intro mi c hc
  have e : conAt 299 = some (94, c299) := rfl
  rw [e] at hc
  obtain ⟨rfl, rfl⟩ := Prod.mk.inj (Option.some.inj hc)
  have e2 : mt 94 = (yX12_fieldOf, cX12_fieldOf, 3, (some .int)) := rfl
  rw [e2]
  have h := chk_ok (l0 := l0) (D0 := D0) (cy0 := cy0) (ax0 := ax0) (y := yX12_fieldOf) (cc := cX12_fieldOf) (ret := (some .int)) k299 (mk_ok jX12_fieldOf fX12_ok lX12_ok kX12_ok kkX12_ok H) ⟨_, rfl⟩ pnX12 nrI (fun h => by cases h) rfl
  exact h

/-! X12_dryAll (('k', 200),) -/
def u300 : List (Nat × TP × EX × Nat × Nat) := [(2, ([(0, (2, 0, (0, []))), (1, (0, 0, (0, [(1, 0)])))], [], ([(0, 6)], [], [], [200], [], [], []), [(0, 1, (0, []))], []), (13, [((-1), 0)]), 0, 0), (86, ([(0, (2, 0, (0, []))), (1, (0, 0, (0, [(1, 1)])))], [], ([(0, 6), (0, 6)], [(0, [(1, 0), ((-1), 1)])], [], [200], [((201, (0, [])), (0, [(1, 0)]))], [], []), [(2, 201, (0, [])), (0, 1, (0, []))], []), (6, [((-1), 1)]), 0, 0)]
theorem k300 : chk (mkD iX12_dryAll fX12 lX12 kX12 kkX12 300 [(15, [280]), (23, [298]), (54, [299]), (99, [280]), (110, [287]), (120, [287]), (129, [292]), (137, [294])] c300 false 4 u300) 4000 = true := by decide +kernel
theorem m300 {X0 : zC0} (H : ∀ j, j < 300 → CMj X0 j) : CMj X0 300 := by
  obtain ⟨l0, D0, cy0, ax0⟩ := X0
  intro mi c hc
  have e : conAt 300 = some (87, c300) := rfl
  rw [e] at hc
  obtain ⟨rfl, rfl⟩ := Prod.mk.inj (Option.some.inj hc)
  have e2 : mt 87 = (yX12_dryAll, cX12_dryAll, 4, none) := rfl
  rw [e2]
  have h := chk_ok (l0 := l0) (D0 := D0) (cy0 := cy0) (ax0 := ax0) (y := yX12_dryAll) (cc := cX12_dryAll) (ret := none) k300 (mk_ok jX12_dryAll fX12_ok lX12_ok kX12_ok kkX12_ok H) rfl pnX12 nrV (fun h => by cases h) rfl
  exact h

/-! X12_pass (('k', 200),) -/
def u301 : List (Nat × TP × EX × Nat × Nat) := [(16, ([(0, (2, 0, (0, []))), (1, (0, 0, (0, [(1, 2)]))), (2, (0, 0, (0, [(1, 5)])))], [], ([(0, 2002100000), (0, 998), (0, 8), (0, 2002100008), (0, 8), (0, 8)], [(0, [(1, 0), (8000, 2), ((-1), 3)]), (0, [(1, 0), (240, 2), ((-1), 3)]), (0, [(1, 0), (40, 2), ((-1), 3)]), (0, [(1, 0), (8, 2), ((-1), 3)]), (8, [((-1), 3), (1, 0)]), (0, [(1, 0), (1, 2), ((-1), 3)]), (0, [(1, 4), ((-1), 2)]), (0, [(1, 5), ((-1), 3), (8000, 2), (1, 0)]), (0, [(8, 5), ((-1), 3), (8000, 2), (1, 0)]), (0, [(240, 5), ((-1), 3), (8000, 2), (1, 0)]), (0, [(1, 5), ((-1), 3), (240, 2), (1, 0)]), (0, [(8, 5), ((-1), 3), (240, 2), (1, 0)]), (0, [(240, 5), ((-1), 3), (240, 2), (1, 0)]), (0, [(1, 5), ((-1), 3), (40, 2), (1, 0)]), (0, [(8, 5), ((-1), 3), (40, 2), (1, 0)]), (0, [(240, 5), ((-1), 3), (40, 2), (1, 0)]), (0, [(1, 5), ((-1), 3), (8, 2), (1, 0)]), (0, [(8, 5), ((-1), 3), (8, 2), (1, 0)]), (0, [(240, 5), ((-1), 3), (8, 2), (1, 0)]), (8, [(1, 5), (1, 0), ((-1), 3)]), (8, [(8, 5), (1, 0), ((-1), 3)]), (8, [(240, 5), (1, 0), ((-1), 3)]), (0, [(1, 5), ((-1), 3), (1, 2), (1, 0)]), (0, [(8, 5), ((-1), 3), (1, 2), (1, 0)]), (0, [(240, 5), ((-1), 3), (1, 2), (1, 0)]), (0, [(1, 5), ((-1), 2), (1, 4)])], [], [200], [((0, (0, [])), (0, [(1, 3)])), ((201, (1, [])), (0, [(1, 4)])), ((200, (38, [])), (1, [])), ((201, (2, [])), (0, [(1, 1)]))], [], []), [(0, 1, (0, [])), (2, 0, (0, [])), (2, 201, (1, [])), (0, 2, (0, []))], []), (8, [((-1), 5)]), 0, 0)]
theorem k301 : chk (mkD iX12_pass fX12 lX12 kX12 kkX12 301 [(6, [297]), (11, [300]), (54, [283])] c301 false 3 u301) 4000 = true := by decide +kernel
theorem m301 {X0 : zC0} (H : ∀ j, j < 301 → CMj X0 j) : CMj X0 301 := by
  obtain ⟨l0, D0, cy0, ax0⟩ := X0
  intro mi c hc
  have e : conAt 301 = some (124, c301) := rfl
  rw [e] at hc
  obtain ⟨rfl, rfl⟩ := Prod.mk.inj (Option.some.inj hc)
  have e2 : mt 124 = (yX12_pass, cX12_pass, 3, (some .int)) := rfl
  rw [e2]
  have h := chk_ok (l0 := l0) (D0 := D0) (cy0 := cy0) (ax0 := ax0) (y := yX12_pass) (cc := cX12_pass) (ret := (some .int)) k301 (mk_ok jX12_pass fX12_ok lX12_ok kX12_ok kkX12_ok H) ⟨_, rfl⟩ pnX12 nrI (fun h => by cases h) rfl
  exact h

/-! X12_passStep (('k', 200),) -/
def u302 : List (Nat × TP × EX × Nat × Nat) := []
theorem k302 : chk (mkD iX12_passStep fX12 lX12 kX12 kkX12 302 [(15, [286]), (19, [301])] c302 false 1 u302) 4000 = true := by decide +kernel
theorem m302 {X0 : zC0} (H : ∀ j, j < 302 → CMj X0 j) : CMj X0 302 := by
  obtain ⟨l0, D0, cy0, ax0⟩ := X0
  intro mi c hc
  have e : conAt 302 = some (126, c302) := rfl
  rw [e] at hc
  obtain ⟨rfl, rfl⟩ := Prod.mk.inj (Option.some.inj hc)
  have e2 : mt 126 = (yX12_passStep, cX12_passStep, 1, (some .int)) := rfl
  rw [e2]
  have h := chk_ok (l0 := l0) (D0 := D0) (cy0 := cy0) (ax0 := ax0) (y := yX12_passStep) (cc := cX12_passStep) (ret := (some .int)) k302 (mk_ok jX12_passStep fX12_ok lX12_ok kX12_ok kkX12_ok H) ⟨_, rfl⟩ pnX12 nrI (fun h => by cases h) rfl
  exact h

/-! X12_areHours (('k', 200), ('n',)) -/
def u303 : List (Nat × TP × EX × Nat × Nat) := [(2, ([(0, (2, 0, (0, []))), (1, (0, 0, (0, [(1, 0)]))), (2, (0, 0, (0, [(1, 3)])))], [], ([((-2147483648), 2147483647), (0, 2001500000), (0, 999), (0, 999), (0, 2001507992), (0, 999)], [(0, [(1, 5), ((-1), 2)]), (0, [(1, 5), ((-1), 3)]), (0, [((-1), 3), (1, 5), ((-1), 2)]), (0, [((-1), 5), (1, 2), (1, 3)]), (2147483648, [((-1), 3), (1, 0)]), (0, [((-1), 4), (1, 1), (8, 3)]), (0, [((-1), 4), (1, 1), (40, 3)]), (0, [((-1), 4), (1, 1), (240, 3)]), (0, [((-1), 4), (1, 1), (8000, 3)]), (8000, [(1, 1), ((-1), 4)])], [], [200], [((0, (0, [])), (0, [(1, 4)])), ((201, (2, [])), (0, [(1, 5)]))], [], []), [(0, 2, (0, [])), (2, 0, (0, [])), (2, 201, (2, []))], []), (999, [((-1), 3)]), 0, 0)]
theorem k303 : chk (mkD iX12_areHours fX12 lX12 kX12 kkX12 303 [(8, [302])] c303 true 3 u303) 4000 = true := by decide +kernel
theorem m303 {X0 : zC0} (H : ∀ j, j < 303 → CMj X0 j) : CMj X0 303 := by
  obtain ⟨l0, D0, cy0, ax0⟩ := X0
  intro mi c hc
  have e : conAt 303 = some (74, c303) := rfl
  rw [e] at hc
  obtain ⟨rfl, rfl⟩ := Prod.mk.inj (Option.some.inj hc)
  have e2 : mt 74 = (yX12_areHours, cX12_areHours, 3, (some .boolean)) := rfl
  rw [e2]
  have h := chk_ok (l0 := l0) (D0 := D0) (cy0 := cy0) (ax0 := ax0) (y := yX12_areHours) (cc := cX12_areHours) (ret := (some .boolean)) k303 (mk_ok jX12_areHours fX12_ok lX12_ok kX12_ok kkX12_ok H) ⟨_, rfl⟩ pnX12 (fun h => by cases h) (fun _ => rfl) rfl
  exact h

/-! X12_back (('k', 200),) -/
def u305 : List (Nat × TP × EX × Nat × Nat) := []
theorem k305 : chk (mkD iX12_back fX12 lX12 kX12 kkX12 305 [(8, [304])] c305 false 1 u305) 4000 = true := by decide +kernel
theorem m305 {X0 : zC0} (H : ∀ j, j < 305 → CMj X0 j) : CMj X0 305 := by
  obtain ⟨l0, D0, cy0, ax0⟩ := X0
  intro mi c hc
  have e : conAt 305 = some (75, c305) := rfl
  rw [e] at hc
  obtain ⟨rfl, rfl⟩ := Prod.mk.inj (Option.some.inj hc)
  have e2 : mt 75 = (yX12_back, cX12_back, 1, (some .int)) := rfl
  rw [e2]
  have h := chk_ok (l0 := l0) (D0 := D0) (cy0 := cy0) (ax0 := ax0) (y := yX12_back) (cc := cX12_back) (ret := (some .int)) k305 (mk_ok jX12_back fX12_ok lX12_ok kX12_ok kkX12_ok H) ⟨_, rfl⟩ pnX12 nrI (fun h => by cases h) rfl
  exact h

/-! X12_bits (('n',),) -/
def u307 : List (Nat × TP × EX × Nat × Nat) := [(4, ([(0, (0, 0, (0, [(1, 0)]))), (1, (0, 0, (0, [(1, 1)]))), (2, (0, 0, (0, [(1, 2)])))], [], ([(0, 255), (0, 12), (0, 12)], [(0, [(1, 2), ((-1), 1)])], [], [], [], [], []), [(0, 1, (0, [])), (0, 2, (0, []))], []), (12, [((-1), 2)]), 0, 0)]
theorem k307 : chk (mkD iX12_bits fX12 lX12 kX12 kkX12 307 [] c307 false 3 u307) 4000 = true := by decide +kernel
theorem m307 {X0 : zC0} (H : ∀ j, j < 307 → CMj X0 j) : CMj X0 307 := by
  obtain ⟨l0, D0, cy0, ax0⟩ := X0
  intro mi c hc
  have e : conAt 307 = some (77, c307) := rfl
  rw [e] at hc
  obtain ⟨rfl, rfl⟩ := Prod.mk.inj (Option.some.inj hc)
  have e2 : mt 77 = (yX12_bits, cX12_bits, 3, (some .int)) := rfl
  rw [e2]
  have h := chk_ok (l0 := l0) (D0 := D0) (cy0 := cy0) (ax0 := ax0) (y := yX12_bits) (cc := cX12_bits) (ret := (some .int)) k307 (mk_ok jX12_bits fX12_ok lX12_ok kX12_ok kkX12_ok H) ⟨_, rfl⟩ pnX12 nrI (fun h => by cases h) rfl
  exact h

/-! X12_errorsOf (('k', 200), ('n',), ('n',)) -/
def u308 : List (Nat × TP × EX × Nat × Nat) := [(5, ([(0, (2, 0, (0, []))), (1, (0, 0, (0, [(1, 0)]))), (2, (0, 0, (0, [(1, 1)]))), (3, (0, 0, (0, [(1, 2)]))), (4, (0, 0, (0, [(1, 3)])))], [], ([(0, 10), (0, 1), (0, 12), (0, 12)], [(0, [(1, 3), ((-1), 2)])], [], [200], [], [], []), [(0, 3, (0, [])), (0, 4, (0, []))], []), (12, [((-1), 3)]), 0, 0)]
theorem k308 : chk (mkD iX12_errorsOf fX12 lX12 kX12 kkX12 308 [] c308 false 7 u308) 4000 = true := by decide +kernel
theorem m308 {X0 : zC0} (H : ∀ j, j < 308 → CMj X0 j) : CMj X0 308 := by
  obtain ⟨l0, D0, cy0, ax0⟩ := X0
  intro mi c hc
  have e : conAt 308 = some (90, c308) := rfl
  rw [e] at hc
  obtain ⟨rfl, rfl⟩ := Prod.mk.inj (Option.some.inj hc)
  have e2 : mt 90 = (yX12_errorsOf, cX12_errorsOf, 7, (some .int)) := rfl
  rw [e2]
  have h := chk_ok (l0 := l0) (D0 := D0) (cy0 := cy0) (ax0 := ax0) (y := yX12_errorsOf) (cc := cX12_errorsOf) (ret := (some .int)) k308 (mk_ok jX12_errorsOf fX12_ok lX12_ok kX12_ok kkX12_ok H) ⟨_, rfl⟩ pnX12 nrI (fun h => by cases h) rfl
  exact h

/-! X12_bound (('k', 200),) -/
def u309 : List (Nat × TP × EX × Nat × Nat) := [(4, ([(0, (2, 0, (0, []))), (1, (0, 0, (0, [(1, 0)]))), (2, (0, 0, (0, [(1, 1)])))], [], ([(0, 10), (1, 11)], [(0, [(1, 1), ((-1), 0)]), ((-1), [(1, 1), ((-1), 0)])], [], [200], [], [], []), [(0, 1, (0, [])), (0, 2, (0, []))], []), (11, [((-1), 1)]), 0, 0)]
theorem k309 : chk (mkD iX12_bound fX12 lX12 kX12 kkX12 309 [(13, [308]), (19, [308]), (26, [308]), (32, [308])] c309 false 3 u309) 4000 = true := by decide +kernel
theorem m309 {X0 : zC0} (H : ∀ j, j < 309 → CMj X0 j) : CMj X0 309 := by
  obtain ⟨l0, D0, cy0, ax0⟩ := X0
  intro mi c hc
  have e : conAt 309 = some (78, c309) := rfl
  rw [e] at hc
  obtain ⟨rfl, rfl⟩ := Prod.mk.inj (Option.some.inj hc)
  have e2 : mt 78 = (yX12_bound, cX12_bound, 3, (some .int)) := rfl
  rw [e2]
  have h := chk_ok (l0 := l0) (D0 := D0) (cy0 := cy0) (ax0 := ax0) (y := yX12_bound) (cc := cX12_bound) (ret := (some .int)) k309 (mk_ok jX12_bound fX12_ok lX12_ok kX12_ok kkX12_ok H) ⟨_, rfl⟩ pnX12 nrI (fun h => by cases h) rfl
  exact h

/-! X12_by (('k', 200), ('n',)) -/
def u310 : List (Nat × TP × EX × Nat × Nat) := []
theorem k310 : chk (mkD iX12_by fX12 lX12 kX12 kkX12 310 [(11, [276])] c310 true 2 u310) 4000 = true := by decide +kernel
theorem m310 {X0 : zC0} (H : ∀ j, j < 310 → CMj X0 j) : CMj X0 310 := by
  obtain ⟨l0, D0, cy0, ax0⟩ := X0
  intro mi c hc
  have e : conAt 310 = some (79, c310) := rfl
  rw [e] at hc
  obtain ⟨rfl, rfl⟩ := Prod.mk.inj (Option.some.inj hc)
  have e2 : mt 79 = (yX12_by, cX12_by, 2, (some .boolean)) := rfl
  rw [e2]
  have h := chk_ok (l0 := l0) (D0 := D0) (cy0 := cy0) (ax0 := ax0) (y := yX12_by) (cc := cX12_by) (ret := (some .boolean)) k310 (mk_ok jX12_by fX12_ok lX12_ok kX12_ok kkX12_ok H) ⟨_, rfl⟩ pnX12 (fun h => by cases h) (fun _ => rfl) rfl
  exact h

/-! X12_canCome (('k', 200), ('n',), ('n',)) -/
def u311 : List (Nat × TP × EX × Nat × Nat) := []
theorem k311 : chk (mkD iX12_canCome fX12 lX12 kX12 kkX12 311 [(3, [280])] c311 true 3 u311) 4000 = true := by decide +kernel
theorem m311 {X0 : zC0} (H : ∀ j, j < 311 → CMj X0 j) : CMj X0 311 := by
  obtain ⟨l0, D0, cy0, ax0⟩ := X0
  intro mi c hc
  have e : conAt 311 = some (80, c311) := rfl
  rw [e] at hc
  obtain ⟨rfl, rfl⟩ := Prod.mk.inj (Option.some.inj hc)
  have e2 : mt 80 = (yX12_canCome, cX12_canCome, 3, (some .boolean)) := rfl
  rw [e2]
  have h := chk_ok (l0 := l0) (D0 := D0) (cy0 := cy0) (ax0 := ax0) (y := yX12_canCome) (cc := cX12_canCome) (ret := (some .boolean)) k311 (mk_ok jX12_canCome fX12_ok lX12_ok kX12_ok kkX12_ok H) ⟨_, rfl⟩ pnX12 (fun h => by cases h) (fun _ => rfl) rfl
  exact h

/-! X12_isPerson (('k', 200), ('n',)) -/
def u312 : List (Nat × TP × EX × Nat × Nat) := []
theorem k312 : chk (mkD iX12_isPerson fX12 lX12 kX12 kkX12 312 [(10, [276])] c312 true 2 u312) 4000 = true := by decide +kernel
theorem m312 {X0 : zC0} (H : ∀ j, j < 312 → CMj X0 j) : CMj X0 312 := by
  obtain ⟨l0, D0, cy0, ax0⟩ := X0
  intro mi c hc
  have e : conAt 312 = some (111, c312) := rfl
  rw [e] at hc
  obtain ⟨rfl, rfl⟩ := Prod.mk.inj (Option.some.inj hc)
  have e2 : mt 111 = (yX12_isPerson, cX12_isPerson, 2, (some .boolean)) := rfl
  rw [e2]
  have h := chk_ok (l0 := l0) (D0 := D0) (cy0 := cy0) (ax0 := ax0) (y := yX12_isPerson) (cc := cX12_isPerson) (ret := (some .boolean)) k312 (mk_ok jX12_isPerson fX12_ok lX12_ok kX12_ok kkX12_ok H) ⟨_, rfl⟩ pnX12 (fun h => by cases h) (fun _ => rfl) rfl
  exact h

/-! X12_isField (('k', 200), ('n',)) -/
def u313 : List (Nat × TP × EX × Nat × Nat) := []
theorem k313 : chk (mkD iX12_isField fX12 lX12 kX12 kkX12 313 [(10, [276])] c313 true 2 u313) 4000 = true := by decide +kernel
theorem m313 {X0 : zC0} (H : ∀ j, j < 313 → CMj X0 j) : CMj X0 313 := by
  obtain ⟨l0, D0, cy0, ax0⟩ := X0
  intro mi c hc
  have e : conAt 313 = some (109, c313) := rfl
  rw [e] at hc
  obtain ⟨rfl, rfl⟩ := Prod.mk.inj (Option.some.inj hc)
  have e2 : mt 109 = (yX12_isField, cX12_isField, 2, (some .boolean)) := rfl
  rw [e2]
  have h := chk_ok (l0 := l0) (D0 := D0) (cy0 := cy0) (ax0 := ax0) (y := yX12_isField) (cc := cX12_isField) (ret := (some .boolean)) k313 (mk_ok jX12_isField fX12_ok lX12_ok kX12_ok kkX12_ok H) ⟨_, rfl⟩ pnX12 (fun h => by cases h) (fun _ => rfl) rfl
  exact h

/-! X12_fieldOf (('k', 200), ('n',), ('c', 6)) -/
def u314 : List (Nat × TP × EX × Nat × Nat) := []
theorem k314 : chk (mkD iX12_fieldOf fX12 lX12 kX12 kkX12 314 [] c314 false 3 u314) 4000 = true := by decide +kernel
theorem m314 {X0 : zC0} (H : ∀ j, j < 314 → CMj X0 j) : CMj X0 314 := by
  obtain ⟨l0, D0, cy0, ax0⟩ := X0
  intro mi c hc
  have e : conAt 314 = some (94, c314) := rfl
  rw [e] at hc
  obtain ⟨rfl, rfl⟩ := Prod.mk.inj (Option.some.inj hc)
  have e2 : mt 94 = (yX12_fieldOf, cX12_fieldOf, 3, (some .int)) := rfl
  rw [e2]
  have h := chk_ok (l0 := l0) (D0 := D0) (cy0 := cy0) (ax0 := ax0) (y := yX12_fieldOf) (cc := cX12_fieldOf) (ret := (some .int)) k314 (mk_ok jX12_fieldOf fX12_ok lX12_ok kX12_ok kkX12_ok H) ⟨_, rfl⟩ pnX12 nrI (fun h => by cases h) rfl
  exact h

/-! X12_has (('n',), ('n',)) -/
def u315 : List (Nat × TP × EX × Nat × Nat) := []
theorem k315 : chk (mkD iX12_has fX12 lX12 kX12 kkX12 315 [] c315 true 2 u315) 4000 = true := by decide +kernel
theorem m315 {X0 : zC0} (H : ∀ j, j < 315 → CMj X0 j) : CMj X0 315 := by
  obtain ⟨l0, D0, cy0, ax0⟩ := X0
  intro mi c hc
  have e : conAt 315 = some (106, c315) := rfl
  rw [e] at hc
  obtain ⟨rfl, rfl⟩ := Prod.mk.inj (Option.some.inj hc)
  have e2 : mt 106 = (yX12_has, cX12_has, 2, (some .boolean)) := rfl
  rw [e2]
  have h := chk_ok (l0 := l0) (D0 := D0) (cy0 := cy0) (ax0 := ax0) (y := yX12_has) (cc := cX12_has) (ret := (some .boolean)) k315 (mk_ok jX12_has fX12_ok lX12_ok kX12_ok kkX12_ok H) ⟨_, rfl⟩ pnX12 (fun h => by cases h) (fun _ => rfl) rfl
  exact h
