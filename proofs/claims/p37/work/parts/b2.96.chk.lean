/-! X12_two (('n',), ('n',), ('n',)) -/
def u308 : List (Nat × TP × EX × Nat × Nat) := []
theorem k308 : chk (mkD iX12_two fX12 lX12 kX12 kkX12 308 [(31, [307]), (38, [307]), (45, [307]), (62, [307])] c308 false 5 u308) 4000 = true := by decide +kernel
theorem m308 {X0 : zC0} (H : ∀ j, j < 308 → CMj X0 j) : CMj X0 308 := by
  obtain ⟨l0, D0, cy0, ax0⟩ := X0
  intro mi c hc
  have e : conAt 308 = some (188, c308) := rfl
  rw [e] at hc
  obtain ⟨rfl, rfl⟩ := Prod.mk.inj (Option.some.inj hc)
  have e2 : mt 188 = (yX12_two, cX12_two, 5, (some .long)) := rfl
  rw [e2]
  have h := chk_ok (l0 := l0) (D0 := D0) (cy0 := cy0) (ax0 := ax0) (y := yX12_two) (cc := cX12_two) (ret := (some .long)) k308 (mk_ok jX12_two fX12_ok lX12_ok kX12_ok kkX12_ok H) rfl pnX12 nrJ (fun h => by cases h) rfl
  exact h

/-! X12_says (('k', 200), ('n',), ('n',), ('n',), ('n',), ('n',), ('n',)) -/
def u310 : List (Nat × TP × EX × Nat × Nat) := [(3, ([(0, (2, 0, (0, []))), (1, (0, 0, (0, [(1, 0)]))), (2, (0, 0, (0, [(1, 1)]))), (3, (0, 0, (0, [(1, 2)]))), (4, (0, 0, (0, [(1, 3)]))), (5, (0, 0, (0, [(1, 4)]))), (6, (0, 0, (0, [(1, 5)]))), (7, (0, 0, (0, [(1, 6)])))], [], ([(0, 4), ((-1), 7), (0, 5), ((-2147483648), 2147483647), (0, 0), ((-2147483648), 2147483647), (0, 24)], [], [], [200], [], [], []), [(0, 7, (0, []))], []), (24, [((-1), 6)]), 0, 0)]
theorem k310 : chk (mkD iX12_says fX12 lX12 kX12 kkX12 310 [(84, [301]), (96, [294]), (112, [304]), (118, [309])] c310 false 9 u310) 4000 = true := by decide +kernel
theorem m310 {X0 : zC0} (H : ∀ j, j < 310 → CMj X0 j) : CMj X0 310 := by
  obtain ⟨l0, D0, cy0, ax0⟩ := X0
  intro mi c hc
  have e : conAt 310 = some (169, c310) := rfl
  rw [e] at hc
  obtain ⟨rfl, rfl⟩ := Prod.mk.inj (Option.some.inj hc)
  have e2 : mt 169 = (yX12_says, cX12_says, 9, (some .int)) := rfl
  rw [e2]
  have h := chk_ok (l0 := l0) (D0 := D0) (cy0 := cy0) (ax0 := ax0) (y := yX12_says) (cc := cX12_says) (ret := (some .int)) k310 (mk_ok jX12_says fX12_ok lX12_ok kX12_ok kkX12_ok H) ⟨_, rfl⟩ pnX12 nrI (fun h => by cases h) rfl
  exact h

/-! X12_sweatOf (('k', 200), ('n',), ('n',)) -/
def u311 : List (Nat × TP × EX × Nat × Nat) := []
theorem k311 : chk (mkD iX12_sweatOf fX12 lX12 kX12 kkX12 311 [(7, [299]), (13, [310]), (20, [298]), (37, [298])] c311 false 4 u311) 4000 = true := by decide +kernel
theorem m311 {X0 : zC0} (H : ∀ j, j < 311 → CMj X0 j) : CMj X0 311 := by
  obtain ⟨l0, D0, cy0, ax0⟩ := X0
  intro mi c hc
  have e : conAt 311 = some (183, c311) := rfl
  rw [e] at hc
  obtain ⟨rfl, rfl⟩ := Prod.mk.inj (Option.some.inj hc)
  have e2 : mt 183 = (yX12_sweatOf, cX12_sweatOf, 4, (some .int)) := rfl
  rw [e2]
  have h := chk_ok (l0 := l0) (D0 := D0) (cy0 := cy0) (ax0 := ax0) (y := yX12_sweatOf) (cc := cX12_sweatOf) (ret := (some .int)) k311 (mk_ok jX12_sweatOf fX12_ok lX12_ok kX12_ok kkX12_ok H) ⟨_, rfl⟩ pnX12 nrI (fun h => by cases h) rfl
  exact h

/-! X12_wet (('k', 200), ('n',), ('n',)) -/
def u312 : List (Nat × TP × EX × Nat × Nat) := []
theorem k312 : chk (mkD iX12_wet fX12 lX12 kX12 kkX12 312 [] c312 false 3 u312) 4000 = true := by decide +kernel
theorem m312 {X0 : zC0} (H : ∀ j, j < 312 → CMj X0 j) : CMj X0 312 := by
  obtain ⟨l0, D0, cy0, ax0⟩ := X0
  intro mi c hc
  have e : conAt 312 = some (197, c312) := rfl
  rw [e] at hc
  obtain ⟨rfl, rfl⟩ := Prod.mk.inj (Option.some.inj hc)
  have e2 : mt 197 = (yX12_wet, cX12_wet, 3, none) := rfl
  rw [e2]
  have h := chk_ok (l0 := l0) (D0 := D0) (cy0 := cy0) (ax0 := ax0) (y := yX12_wet) (cc := cX12_wet) (ret := none) k312 (mk_ok jX12_wet fX12_ok lX12_ok kX12_ok kkX12_ok H) rfl pnX12 nrV (fun h => by cases h) rfl
  exact h

/-! X12_write (('k', 200), ('n',), ('n',)) -/
def u313 : List (Nat × TP × EX × Nat × Nat) := []
theorem k313 : chk (mkD iX12_write fX12 lX12 kX12 kkX12 313 [(37, [297])] c313 false 3 u313) 4000 = true := by decide +kernel
theorem m313 {X0 : zC0} (H : ∀ j, j < 313 → CMj X0 j) : CMj X0 313 := by
  obtain ⟨l0, D0, cy0, ax0⟩ := X0
  intro mi c hc
  have e : conAt 313 = some (202, c313) := rfl
  rw [e] at hc
  obtain ⟨rfl, rfl⟩ := Prod.mk.inj (Option.some.inj hc)
  have e2 : mt 202 = (yX12_write, cX12_write, 3, none) := rfl
  rw [e2]
  have h := chk_ok (l0 := l0) (D0 := D0) (cy0 := cy0) (ax0 := ax0) (y := yX12_write) (cc := cX12_write) (ret := none) k313 (mk_ok jX12_write fX12_ok lX12_ok kX12_ok kkX12_ok H) rfl pnX12 nrV (fun h => by cases h) rfl
  exact h

/-! X12_rainOf (('k', 200), ('n',)) -/
def u314 : List (Nat × TP × EX × Nat × Nat) := []
theorem k314 : chk (mkD iX12_rainOf fX12 lX12 kX12 kkX12 314 [(3, [297]), (14, [298]), (21, [298]), (24, [310]), (44, [310]), (83, [312]), (90, [292]), (103, [313])] c314 false 5 u314) 4000 = true := by decide +kernel
theorem m314 {X0 : zC0} (H : ∀ j, j < 314 → CMj X0 j) : CMj X0 314 := by
  obtain ⟨l0, D0, cy0, ax0⟩ := X0
  intro mi c hc
  have e : conAt 314 = some (164, c314) := rfl
  rw [e] at hc
  obtain ⟨rfl, rfl⟩ := Prod.mk.inj (Option.some.inj hc)
  have e2 : mt 164 = (yX12_rainOf, cX12_rainOf, 5, none) := rfl
  rw [e2]
  have h := chk_ok (l0 := l0) (D0 := D0) (cy0 := cy0) (ax0 := ax0) (y := yX12_rainOf) (cc := cX12_rainOf) (ret := none) k314 (mk_ok jX12_rainOf fX12_ok lX12_ok kX12_ok kkX12_ok H) rfl pnX12 nrV (fun h => by cases h) rfl
  exact h

/-! X12_rainAll (('k', 200),) -/
def u315 : List (Nat × TP × EX × Nat × Nat) := [(26, ([(0, (2, 0, (0, []))), (1, (0, 0, (0, [(1, 3)])))], [], ([(0, 2002400000), ((-2147483648), 2147483647), (0, 1), (0, 8)], [], [], [200], [((200, (36, [])), (0, [(1, 1)])), ((200, (38, [])), (0, [(1, 2)])), ((0, (0, [])), (0, [(1, 0)]))], [], []), [(2, 200, (36, [])), (2, 200, (38, [])), (0, 1, (0, []))], []), (17, [((-1), 3)]), 0, 0), (74, ([(0, (2, 0, (0, []))), (1, (0, 0, (0, [(1, 4)]))), (2, (0, 0, (0, [(1, 5)])))], [], ([(0, 2002400000), (0, 8), ((-2147483648), 2147483647), (0, 1), (0, 8), (0, 8), (0, 2002400008)], [(0, [(1, 1), ((-1), 4)]), (0, [(1, 1), ((-1), 5)]), (0, [(1, 5), ((-1), 4)]), (0, [((-1), 6), (1, 0), (1, 4)]), (0, [((-1), 6), (1, 0), (1, 5)]), (2002400000, [((-1), 6), (1, 4)]), (2002400000, [((-1), 6), (1, 5)]), (0, [((-1), 6), (1, 0), (8, 4)]), (0, [((-1), 6), (1, 0), (40, 4)]), (0, [((-1), 6), (1, 0), (240, 4)]), (0, [((-1), 6), (1, 0), (8000, 4)]), (0, [((-1), 6), (1, 0), (8, 5)]), (0, [((-1), 6), (1, 0), (40, 5)]), (0, [((-1), 6), (1, 0), (240, 5)]), (0, [((-1), 6), (1, 0), (8000, 5)]), (8, [(1, 0), ((-1), 6)])], [], [200], [((201, (1, [])), (0, [(1, 1)])), ((200, (36, [])), (0, [(1, 2)])), ((200, (38, [])), (0, [(1, 3)])), ((0, (0, [])), (0, [(1, 6)]))], [], []), [(2, 201, (1, [])), (2, 200, (36, [])), (2, 200, (38, [])), (0, 1, (0, [])), (0, 2, (0, [])), (2, 0, (0, []))], []), (8, [((-1), 5)]), 0, 0)]
theorem k315 : chk (mkD iX12_rainAll fX12 lX12 kX12 kkX12 315 [(41, [297]), (44, [311]), (51, [292]), (87, [298]), (93, [303]), (104, [314])] c315 false 3 u315) 4000 = true := by decide +kernel
theorem m315 {X0 : zC0} (H : ∀ j, j < 315 → CMj X0 j) : CMj X0 315 := by
  obtain ⟨l0, D0, cy0, ax0⟩ := X0
  intro mi c hc
  have e : conAt 315 = some (163, c315) := rfl
  rw [e] at hc
  obtain ⟨rfl, rfl⟩ := Prod.mk.inj (Option.some.inj hc)
  have e2 : mt 163 = (yX12_rainAll, cX12_rainAll, 3, (some .int)) := rfl
  rw [e2]
  have h := chk_ok (l0 := l0) (D0 := D0) (cy0 := cy0) (ax0 := ax0) (y := yX12_rainAll) (cc := cX12_rainAll) (ret := (some .int)) k315 (mk_ok jX12_rainAll fX12_ok lX12_ok kX12_ok kkX12_ok H) ⟨_, rfl⟩ pnX12 nrI (fun h => by cases h) rfl
  exact h

/-! X12_fieldOf (('k', 200), ('n',), ('c', 2)) -/
def u316 : List (Nat × TP × EX × Nat × Nat) := []
theorem k316 : chk (mkD iX12_fieldOf fX12 lX12 kX12 kkX12 316 [] c316 false 3 u316) 4000 = true := by decide +kernel
theorem m316 {X0 : zC0} (H : ∀ j, j < 316 → CMj X0 j) : CMj X0 316 := by
  obtain ⟨l0, D0, cy0, ax0⟩ := X0
  intro mi c hc
  have e : conAt 316 = some (105, c316) := rfl
  rw [e] at hc
  obtain ⟨rfl, rfl⟩ := Prod.mk.inj (Option.some.inj hc)
  have e2 : mt 105 = (yX12_fieldOf, cX12_fieldOf, 3, (some .int)) := rfl
  rw [e2]
  have h := chk_ok (l0 := l0) (D0 := D0) (cy0 := cy0) (ax0 := ax0) (y := yX12_fieldOf) (cc := cX12_fieldOf) (ret := (some .int)) k316 (mk_ok jX12_fieldOf fX12_ok lX12_ok kX12_ok kkX12_ok H) ⟨_, rfl⟩ pnX12 nrI (fun h => by cases h) rfl
  exact h

/-! X12_fieldOf (('k', 200), ('n',), ('c', 1)) -/
def u317 : List (Nat × TP × EX × Nat × Nat) := []
theorem k317 : chk (mkD iX12_fieldOf fX12 lX12 kX12 kkX12 317 [] c317 false 3 u317) 4000 = true := by decide +kernel
theorem m317 {X0 : zC0} (H : ∀ j, j < 317 → CMj X0 j) : CMj X0 317 := by
  obtain ⟨l0, D0, cy0, ax0⟩ := X0
  intro mi c hc
  have e : conAt 317 = some (105, c317) := rfl
  rw [e] at hc
  obtain ⟨rfl, rfl⟩ := Prod.mk.inj (Option.some.inj hc)
  have e2 : mt 105 = (yX12_fieldOf, cX12_fieldOf, 3, (some .int)) := rfl
  rw [e2]
  have h := chk_ok (l0 := l0) (D0 := D0) (cy0 := cy0) (ax0 := ax0) (y := yX12_fieldOf) (cc := cX12_fieldOf) (ret := (some .int)) k317 (mk_ok jX12_fieldOf fX12_ok lX12_ok kX12_ok kkX12_ok H) ⟨_, rfl⟩ pnX12 nrI (fun h => by cases h) rfl
  exact h

/-! X12_dryAll (('k', 200),) -/
def u318 : List (Nat × TP × EX × Nat × Nat) := [(2, ([(0, (2, 0, (0, []))), (1, (0, 0, (0, [(1, 0)])))], [], ([(0, 6)], [], [], [200], [], [], []), [(0, 1, (0, []))], []), (13, [((-1), 0)]), 0, 0), (86, ([(0, (2, 0, (0, []))), (1, (0, 0, (0, [(1, 1)])))], [], ([(0, 6), (0, 6)], [(0, [(1, 0), ((-1), 1)])], [], [200], [((201, (0, [])), (0, [(1, 0)]))], [], []), [(2, 201, (0, [])), (0, 1, (0, []))], []), (6, [((-1), 1)]), 0, 0)]
theorem k318 : chk (mkD iX12_dryAll fX12 lX12 kX12 kkX12 318 [(15, [294]), (23, [316]), (54, [317]), (99, [294]), (110, [301]), (120, [301]), (129, [310]), (137, [312])] c318 false 4 u318) 4000 = true := by decide +kernel
theorem m318 {X0 : zC0} (H : ∀ j, j < 318 → CMj X0 j) : CMj X0 318 := by
  obtain ⟨l0, D0, cy0, ax0⟩ := X0
  intro mi c hc
  have e : conAt 318 = some (95, c318) := rfl
  rw [e] at hc
  obtain ⟨rfl, rfl⟩ := Prod.mk.inj (Option.some.inj hc)
  have e2 : mt 95 = (yX12_dryAll, cX12_dryAll, 4, none) := rfl
  rw [e2]
  have h := chk_ok (l0 := l0) (D0 := D0) (cy0 := cy0) (ax0 := ax0) (y := yX12_dryAll) (cc := cX12_dryAll) (ret := none) k318 (mk_ok jX12_dryAll fX12_ok lX12_ok kX12_ok kkX12_ok H) rfl pnX12 nrV (fun h => by cases h) rfl
  exact h

/-! X12_pass (('k', 200),) -/
def u319 : List (Nat × TP × EX × Nat × Nat) := [(16, ([(0, (2, 0, (0, []))), (1, (0, 0, (0, [(1, 2)]))), (2, (0, 0, (0, [(1, 5)])))], [], ([(0, 2002100000), (0, 998), (0, 8), (0, 2002100008), (0, 8), (0, 8)], [(0, [(1, 0), (8000, 2), ((-1), 3)]), (0, [(1, 0), (240, 2), ((-1), 3)]), (0, [(1, 0), (40, 2), ((-1), 3)]), (0, [(1, 0), (8, 2), ((-1), 3)]), (8, [((-1), 3), (1, 0)]), (0, [(1, 0), (1, 2), ((-1), 3)]), (0, [(1, 4), ((-1), 2)]), (0, [(1, 5), ((-1), 3), (8000, 2), (1, 0)]), (0, [(8, 5), ((-1), 3), (8000, 2), (1, 0)]), (0, [(240, 5), ((-1), 3), (8000, 2), (1, 0)]), (0, [(1, 5), ((-1), 3), (240, 2), (1, 0)]), (0, [(8, 5), ((-1), 3), (240, 2), (1, 0)]), (0, [(240, 5), ((-1), 3), (240, 2), (1, 0)]), (0, [(1, 5), ((-1), 3), (40, 2), (1, 0)]), (0, [(8, 5), ((-1), 3), (40, 2), (1, 0)]), (0, [(240, 5), ((-1), 3), (40, 2), (1, 0)]), (0, [(1, 5), ((-1), 3), (8, 2), (1, 0)]), (0, [(8, 5), ((-1), 3), (8, 2), (1, 0)]), (0, [(240, 5), ((-1), 3), (8, 2), (1, 0)]), (8, [(1, 5), (1, 0), ((-1), 3)]), (8, [(8, 5), (1, 0), ((-1), 3)]), (8, [(240, 5), (1, 0), ((-1), 3)]), (0, [(1, 5), ((-1), 3), (1, 2), (1, 0)]), (0, [(8, 5), ((-1), 3), (1, 2), (1, 0)]), (0, [(240, 5), ((-1), 3), (1, 2), (1, 0)]), (0, [(1, 5), ((-1), 2), (1, 4)])], [], [200], [((0, (0, [])), (0, [(1, 3)])), ((201, (1, [])), (0, [(1, 4)])), ((200, (38, [])), (1, [])), ((201, (2, [])), (0, [(1, 1)]))], [], []), [(0, 1, (0, [])), (2, 0, (0, [])), (2, 201, (1, [])), (0, 2, (0, []))], []), (8, [((-1), 5)]), 0, 0)]
theorem k319 : chk (mkD iX12_pass fX12 lX12 kX12 kkX12 319 [(6, [315]), (11, [318]), (54, [297])] c319 false 3 u319) 4000 = true := by decide +kernel
theorem m319 {X0 : zC0} (H : ∀ j, j < 319 → CMj X0 j) : CMj X0 319 := by
  obtain ⟨l0, D0, cy0, ax0⟩ := X0
  intro mi c hc
  have e : conAt 319 = some (154, c319) := rfl
  rw [e] at hc
  obtain ⟨rfl, rfl⟩ := Prod.mk.inj (Option.some.inj hc)
  have e2 : mt 154 = (yX12_pass, cX12_pass, 3, (some .int)) := rfl
  rw [e2]
  have h := chk_ok (l0 := l0) (D0 := D0) (cy0 := cy0) (ax0 := ax0) (y := yX12_pass) (cc := cX12_pass) (ret := (some .int)) k319 (mk_ok jX12_pass fX12_ok lX12_ok kX12_ok kkX12_ok H) ⟨_, rfl⟩ pnX12 nrI (fun h => by cases h) rfl
  exact h

/-! X12_passStep (('k', 200),) -/
def u320 : List (Nat × TP × EX × Nat × Nat) := []
theorem k320 : chk (mkD iX12_passStep fX12 lX12 kX12 kkX12 320 [(15, [300]), (19, [319])] c320 false 1 u320) 4000 = true := by decide +kernel
theorem m320 {X0 : zC0} (H : ∀ j, j < 320 → CMj X0 j) : CMj X0 320 := by
  obtain ⟨l0, D0, cy0, ax0⟩ := X0
  intro mi c hc
  have e : conAt 320 = some (156, c320) := rfl
  rw [e] at hc
  obtain ⟨rfl, rfl⟩ := Prod.mk.inj (Option.some.inj hc)
  have e2 : mt 156 = (yX12_passStep, cX12_passStep, 1, (some .int)) := rfl
  rw [e2]
  have h := chk_ok (l0 := l0) (D0 := D0) (cy0 := cy0) (ax0 := ax0) (y := yX12_passStep) (cc := cX12_passStep) (ret := (some .int)) k320 (mk_ok jX12_passStep fX12_ok lX12_ok kX12_ok kkX12_ok H) ⟨_, rfl⟩ pnX12 nrI (fun h => by cases h) rfl
  exact h

/-! X12_areHours (('k', 200), ('n',)) -/
def u321 : List (Nat × TP × EX × Nat × Nat) := [(2, ([(0, (2, 0, (0, []))), (1, (0, 0, (0, [(1, 0)]))), (2, (0, 0, (0, [(1, 3)])))], [], ([((-2147483648), 2147483647), (0, 2001500000), (0, 999), (0, 999), (0, 2001507992), (0, 999)], [(0, [(1, 5), ((-1), 2)]), (0, [(1, 5), ((-1), 3)]), (0, [((-1), 3), (1, 5), ((-1), 2)]), (0, [((-1), 5), (1, 2), (1, 3)]), (2147483648, [((-1), 3), (1, 0)]), (0, [((-1), 4), (1, 1), (8, 3)]), (0, [((-1), 4), (1, 1), (40, 3)]), (0, [((-1), 4), (1, 1), (240, 3)]), (0, [((-1), 4), (1, 1), (8000, 3)]), (8000, [(1, 1), ((-1), 4)])], [], [200], [((0, (0, [])), (0, [(1, 4)])), ((201, (2, [])), (0, [(1, 5)]))], [], []), [(0, 2, (0, [])), (2, 0, (0, [])), (2, 201, (2, []))], []), (999, [((-1), 3)]), 0, 0)]
theorem k321 : chk (mkD iX12_areHours fX12 lX12 kX12 kkX12 321 [(8, [320])] c321 true 3 u321) 4000 = true := by decide +kernel
theorem m321 {X0 : zC0} (H : ∀ j, j < 321 → CMj X0 j) : CMj X0 321 := by
  obtain ⟨l0, D0, cy0, ax0⟩ := X0
  intro mi c hc
  have e : conAt 321 = some (74, c321) := rfl
  rw [e] at hc
  obtain ⟨rfl, rfl⟩ := Prod.mk.inj (Option.some.inj hc)
  have e2 : mt 74 = (yX12_areHours, cX12_areHours, 3, (some .boolean)) := rfl
  rw [e2]
  have h := chk_ok (l0 := l0) (D0 := D0) (cy0 := cy0) (ax0 := ax0) (y := yX12_areHours) (cc := cX12_areHours) (ret := (some .boolean)) k321 (mk_ok jX12_areHours fX12_ok lX12_ok kX12_ok kkX12_ok H) ⟨_, rfl⟩ pnX12 (fun h => by cases h) (fun _ => rfl) rfl
  exact h

/-! X12_back (('k', 200),) -/
def u323 : List (Nat × TP × EX × Nat × Nat) := []
theorem k323 : chk (mkD iX12_back fX12 lX12 kX12 kkX12 323 [(8, [322])] c323 false 1 u323) 4000 = true := by decide +kernel
theorem m323 {X0 : zC0} (H : ∀ j, j < 323 → CMj X0 j) : CMj X0 323 := by
  obtain ⟨l0, D0, cy0, ax0⟩ := X0
  intro mi c hc
  have e : conAt 323 = some (75, c323) := rfl
  rw [e] at hc
  obtain ⟨rfl, rfl⟩ := Prod.mk.inj (Option.some.inj hc)
  have e2 : mt 75 = (yX12_back, cX12_back, 1, (some .int)) := rfl
  rw [e2]
  have h := chk_ok (l0 := l0) (D0 := D0) (cy0 := cy0) (ax0 := ax0) (y := yX12_back) (cc := cX12_back) (ret := (some .int)) k323 (mk_ok jX12_back fX12_ok lX12_ok kX12_ok kkX12_ok H) ⟨_, rfl⟩ pnX12 nrI (fun h => by cases h) rfl
  exact h

/-! X12_bits (('n',),) -/
def u325 : List (Nat × TP × EX × Nat × Nat) := [(4, ([(0, (0, 0, (0, [(1, 0)]))), (1, (0, 0, (0, [(1, 1)]))), (2, (0, 0, (0, [(1, 2)])))], [], ([(0, 255), (0, 12), (0, 12)], [(0, [(1, 2), ((-1), 1)])], [], [], [], [], []), [(0, 1, (0, [])), (0, 2, (0, []))], []), (12, [((-1), 2)]), 0, 0)]
theorem k325 : chk (mkD iX12_bits fX12 lX12 kX12 kkX12 325 [] c325 false 3 u325) 4000 = true := by decide +kernel
theorem m325 {X0 : zC0} (H : ∀ j, j < 325 → CMj X0 j) : CMj X0 325 := by
  obtain ⟨l0, D0, cy0, ax0⟩ := X0
  intro mi c hc
  have e : conAt 325 = some (80, c325) := rfl
  rw [e] at hc
  obtain ⟨rfl, rfl⟩ := Prod.mk.inj (Option.some.inj hc)
  have e2 : mt 80 = (yX12_bits, cX12_bits, 3, (some .int)) := rfl
  rw [e2]
  have h := chk_ok (l0 := l0) (D0 := D0) (cy0 := cy0) (ax0 := ax0) (y := yX12_bits) (cc := cX12_bits) (ret := (some .int)) k325 (mk_ok jX12_bits fX12_ok lX12_ok kX12_ok kkX12_ok H) ⟨_, rfl⟩ pnX12 nrI (fun h => by cases h) rfl
  exact h

/-! X12_errorsOf (('k', 200), ('n',), ('n',)) -/
def u326 : List (Nat × TP × EX × Nat × Nat) := [(5, ([(0, (2, 0, (0, []))), (1, (0, 0, (0, [(1, 0)]))), (2, (0, 0, (0, [(1, 1)]))), (3, (0, 0, (0, [(1, 2)]))), (4, (0, 0, (0, [(1, 3)])))], [], ([(0, 10), (0, 1), (0, 12), (0, 12)], [(0, [(1, 3), ((-1), 2)])], [], [200], [], [], []), [(0, 3, (0, [])), (0, 4, (0, []))], []), (12, [((-1), 3)]), 0, 0)]
theorem k326 : chk (mkD iX12_errorsOf fX12 lX12 kX12 kkX12 326 [] c326 false 7 u326) 4000 = true := by decide +kernel
theorem m326 {X0 : zC0} (H : ∀ j, j < 326 → CMj X0 j) : CMj X0 326 := by
  obtain ⟨l0, D0, cy0, ax0⟩ := X0
  intro mi c hc
  have e : conAt 326 = some (100, c326) := rfl
  rw [e] at hc
  obtain ⟨rfl, rfl⟩ := Prod.mk.inj (Option.some.inj hc)
  have e2 : mt 100 = (yX12_errorsOf, cX12_errorsOf, 7, (some .int)) := rfl
  rw [e2]
  have h := chk_ok (l0 := l0) (D0 := D0) (cy0 := cy0) (ax0 := ax0) (y := yX12_errorsOf) (cc := cX12_errorsOf) (ret := (some .int)) k326 (mk_ok jX12_errorsOf fX12_ok lX12_ok kX12_ok kkX12_ok H) ⟨_, rfl⟩ pnX12 nrI (fun h => by cases h) rfl
  exact h

/-! X12_bound (('k', 200),) -/
def u327 : List (Nat × TP × EX × Nat × Nat) := [(4, ([(0, (2, 0, (0, []))), (1, (0, 0, (0, [(1, 0)]))), (2, (0, 0, (0, [(1, 1)])))], [], ([(0, 10), (1, 11)], [(0, [(1, 1), ((-1), 0)]), ((-1), [(1, 1), ((-1), 0)])], [], [200], [], [], []), [(0, 1, (0, [])), (0, 2, (0, []))], []), (11, [((-1), 1)]), 0, 0)]
theorem k327 : chk (mkD iX12_bound fX12 lX12 kX12 kkX12 327 [(13, [326]), (19, [326]), (26, [326]), (32, [326])] c327 false 3 u327) 4000 = true := by decide +kernel
theorem m327 {X0 : zC0} (H : ∀ j, j < 327 → CMj X0 j) : CMj X0 327 := by
  obtain ⟨l0, D0, cy0, ax0⟩ := X0
  intro mi c hc
  have e : conAt 327 = some (82, c327) := rfl
  rw [e] at hc
  obtain ⟨rfl, rfl⟩ := Prod.mk.inj (Option.some.inj hc)
  have e2 : mt 82 = (yX12_bound, cX12_bound, 3, (some .int)) := rfl
  rw [e2]
  have h := chk_ok (l0 := l0) (D0 := D0) (cy0 := cy0) (ax0 := ax0) (y := yX12_bound) (cc := cX12_bound) (ret := (some .int)) k327 (mk_ok jX12_bound fX12_ok lX12_ok kX12_ok kkX12_ok H) ⟨_, rfl⟩ pnX12 nrI (fun h => by cases h) rfl
  exact h

/-! X12_by (('k', 200), ('n',)) -/
def u328 : List (Nat × TP × EX × Nat × Nat) := []
theorem k328 : chk (mkD iX12_by fX12 lX12 kX12 kkX12 328 [(11, [290])] c328 true 2 u328) 4000 = true := by decide +kernel
theorem m328 {X0 : zC0} (H : ∀ j, j < 328 → CMj X0 j) : CMj X0 328 := by
  obtain ⟨l0, D0, cy0, ax0⟩ := X0
  intro mi c hc
  have e : conAt 328 = some (83, c328) := rfl
  rw [e] at hc
  obtain ⟨rfl, rfl⟩ := Prod.mk.inj (Option.some.inj hc)
  have e2 : mt 83 = (yX12_by, cX12_by, 2, (some .boolean)) := rfl
  rw [e2]
  have h := chk_ok (l0 := l0) (D0 := D0) (cy0 := cy0) (ax0 := ax0) (y := yX12_by) (cc := cX12_by) (ret := (some .boolean)) k328 (mk_ok jX12_by fX12_ok lX12_ok kX12_ok kkX12_ok H) ⟨_, rfl⟩ pnX12 (fun h => by cases h) (fun _ => rfl) rfl
  exact h

/-! X12_byteAt (('k', 200), ('n',)) -/
def u329 : List (Nat × TP × EX × Nat × Nat) := []
theorem k329 : chk (mkD iX12_byteAt fX12 lX12 kX12 kkX12 329 [] c329 false 2 u329) 4000 = true := by decide +kernel
theorem m329 {X0 : zC0} (H : ∀ j, j < 329 → CMj X0 j) : CMj X0 329 := by
  obtain ⟨l0, D0, cy0, ax0⟩ := X0
  intro mi c hc
  have e : conAt 329 = some (84, c329) := rfl
  rw [e] at hc
  obtain ⟨rfl, rfl⟩ := Prod.mk.inj (Option.some.inj hc)
  have e2 : mt 84 = (yX12_byteAt, cX12_byteAt, 2, (some .int)) := rfl
  rw [e2]
  have h := chk_ok (l0 := l0) (D0 := D0) (cy0 := cy0) (ax0 := ax0) (y := yX12_byteAt) (cc := cX12_byteAt) (ret := (some .int)) k329 (mk_ok jX12_byteAt fX12_ok lX12_ok kX12_ok kkX12_ok H) ⟨_, rfl⟩ pnX12 nrI (fun h => by cases h) rfl
  exact h

/-! X12_canCome (('k', 200), ('n',), ('n',)) -/
def u330 : List (Nat × TP × EX × Nat × Nat) := []
theorem k330 : chk (mkD iX12_canCome fX12 lX12 kX12 kkX12 330 [(3, [294])] c330 true 3 u330) 4000 = true := by decide +kernel
theorem m330 {X0 : zC0} (H : ∀ j, j < 330 → CMj X0 j) : CMj X0 330 := by
  obtain ⟨l0, D0, cy0, ax0⟩ := X0
  intro mi c hc
  have e : conAt 330 = some (85, c330) := rfl
  rw [e] at hc
  obtain ⟨rfl, rfl⟩ := Prod.mk.inj (Option.some.inj hc)
  have e2 : mt 85 = (yX12_canCome, cX12_canCome, 3, (some .boolean)) := rfl
  rw [e2]
  have h := chk_ok (l0 := l0) (D0 := D0) (cy0 := cy0) (ax0 := ax0) (y := yX12_canCome) (cc := cX12_canCome) (ret := (some .boolean)) k330 (mk_ok jX12_canCome fX12_ok lX12_ok kX12_ok kkX12_ok H) ⟨_, rfl⟩ pnX12 (fun h => by cases h) (fun _ => rfl) rfl
  exact h

/-! X12_isPerson (('k', 200), ('n',)) -/
def u331 : List (Nat × TP × EX × Nat × Nat) := []
theorem k331 : chk (mkD iX12_isPerson fX12 lX12 kX12 kkX12 331 [(10, [290])] c331 true 2 u331) 4000 = true := by decide +kernel
theorem m331 {X0 : zC0} (H : ∀ j, j < 331 → CMj X0 j) : CMj X0 331 := by
  obtain ⟨l0, D0, cy0, ax0⟩ := X0
  intro mi c hc
  have e : conAt 331 = some (129, c331) := rfl
  rw [e] at hc
  obtain ⟨rfl, rfl⟩ := Prod.mk.inj (Option.some.inj hc)
  have e2 : mt 129 = (yX12_isPerson, cX12_isPerson, 2, (some .boolean)) := rfl
  rw [e2]
  have h := chk_ok (l0 := l0) (D0 := D0) (cy0 := cy0) (ax0 := ax0) (y := yX12_isPerson) (cc := cX12_isPerson) (ret := (some .boolean)) k331 (mk_ok jX12_isPerson fX12_ok lX12_ok kX12_ok kkX12_ok H) ⟨_, rfl⟩ pnX12 (fun h => by cases h) (fun _ => rfl) rfl
  exact h

/-! X12_isField (('k', 200), ('n',)) -/
def u332 : List (Nat × TP × EX × Nat × Nat) := []
theorem k332 : chk (mkD iX12_isField fX12 lX12 kX12 kkX12 332 [(10, [290])] c332 true 2 u332) 4000 = true := by decide +kernel
theorem m332 {X0 : zC0} (H : ∀ j, j < 332 → CMj X0 j) : CMj X0 332 := by
  obtain ⟨l0, D0, cy0, ax0⟩ := X0
  intro mi c hc
  have e : conAt 332 = some (124, c332) := rfl
  rw [e] at hc
  obtain ⟨rfl, rfl⟩ := Prod.mk.inj (Option.some.inj hc)
  have e2 : mt 124 = (yX12_isField, cX12_isField, 2, (some .boolean)) := rfl
  rw [e2]
  have h := chk_ok (l0 := l0) (D0 := D0) (cy0 := cy0) (ax0 := ax0) (y := yX12_isField) (cc := cX12_isField) (ret := (some .boolean)) k332 (mk_ok jX12_isField fX12_ok lX12_ok kX12_ok kkX12_ok H) ⟨_, rfl⟩ pnX12 (fun h => by cases h) (fun _ => rfl) rfl
  exact h

/-! X12_fieldOf (('k', 200), ('n',), ('c', 6)) -/
def u333 : List (Nat × TP × EX × Nat × Nat) := []
theorem k333 : chk (mkD iX12_fieldOf fX12 lX12 kX12 kkX12 333 [] c333 false 3 u333) 4000 = true := by decide +kernel
theorem m333 {X0 : zC0} (H : ∀ j, j < 333 → CMj X0 j) : CMj X0 333 := by
  obtain ⟨l0, D0, cy0, ax0⟩ := X0
  intro mi c hc
  have e : conAt 333 = some (105, c333) := rfl
  rw [e] at hc
  obtain ⟨rfl, rfl⟩ := Prod.mk.inj (Option.some.inj hc)
  have e2 : mt 105 = (yX12_fieldOf, cX12_fieldOf, 3, (some .int)) := rfl
  rw [e2]
  have h := chk_ok (l0 := l0) (D0 := D0) (cy0 := cy0) (ax0 := ax0) (y := yX12_fieldOf) (cc := cX12_fieldOf) (ret := (some .int)) k333 (mk_ok jX12_fieldOf fX12_ok lX12_ok kX12_ok kkX12_ok H) ⟨_, rfl⟩ pnX12 nrI (fun h => by cases h) rfl
  exact h

/-! X12_has (('n',), ('n',)) -/
def u334 : List (Nat × TP × EX × Nat × Nat) := []
theorem k334 : chk (mkD iX12_has fX12 lX12 kX12 kkX12 334 [] c334 true 2 u334) 4000 = true := by decide +kernel
theorem m334 {X0 : zC0} (H : ∀ j, j < 334 → CMj X0 j) : CMj X0 334 := by
  obtain ⟨l0, D0, cy0, ax0⟩ := X0
  intro mi c hc
  have e : conAt 334 = some (118, c334) := rfl
  rw [e] at hc
  obtain ⟨rfl, rfl⟩ := Prod.mk.inj (Option.some.inj hc)
  have e2 : mt 118 = (yX12_has, cX12_has, 2, (some .boolean)) := rfl
  rw [e2]
  have h := chk_ok (l0 := l0) (D0 := D0) (cy0 := cy0) (ax0 := ax0) (y := yX12_has) (cc := cX12_has) (ret := (some .boolean)) k334 (mk_ok jX12_has fX12_ok lX12_ok kX12_ok kkX12_ok H) ⟨_, rfl⟩ pnX12 (fun h => by cases h) (fun _ => rfl) rfl
  exact h

/-! X12_canGo (('k', 200), ('n',), ('n',)) -/
def u335 : List (Nat × TP × EX × Nat × Nat) := []
theorem k335 : chk (mkD iX12_canGo fX12 lX12 kX12 kkX12 335 [(2, [331]), (10, [332]), (20, [297]), (25, [333]), (29, [334])] c335 true 3 u335) 4000 = true := by decide +kernel
theorem m335 {X0 : zC0} (H : ∀ j, j < 335 → CMj X0 j) : CMj X0 335 := by
  obtain ⟨l0, D0, cy0, ax0⟩ := X0
  intro mi c hc
  have e : conAt 335 = some (86, c335) := rfl
  rw [e] at hc
  obtain ⟨rfl, rfl⟩ := Prod.mk.inj (Option.some.inj hc)
  have e2 : mt 86 = (yX12_canGo, cX12_canGo, 3, (some .boolean)) := rfl
  rw [e2]
  have h := chk_ok (l0 := l0) (D0 := D0) (cy0 := cy0) (ax0 := ax0) (y := yX12_canGo) (cc := cX12_canGo) (ret := (some .boolean)) k335 (mk_ok jX12_canGo fX12_ok lX12_ok kX12_ok kkX12_ok H) ⟨_, rfl⟩ pnX12 (fun h => by cases h) (fun _ => rfl) rfl
  exact h

/-! X12_canShake (('k', 200), ('n',), ('n',)) -/
def u336 : List (Nat × TP × EX × Nat × Nat) := []
theorem k336 : chk (mkD iX12_canShake fX12 lX12 kX12 kkX12 336 [(2, [331]), (10, [331]), (24, [297]), (30, [297])] c336 true 3 u336) 4000 = true := by decide +kernel
theorem m336 {X0 : zC0} (H : ∀ j, j < 336 → CMj X0 j) : CMj X0 336 := by
  obtain ⟨l0, D0, cy0, ax0⟩ := X0
  intro mi c hc
  have e : conAt 336 = some (87, c336) := rfl
  rw [e] at hc
  obtain ⟨rfl, rfl⟩ := Prod.mk.inj (Option.some.inj hc)
  have e2 : mt 87 = (yX12_canShake, cX12_canShake, 3, (some .boolean)) := rfl
  rw [e2]
  have h := chk_ok (l0 := l0) (D0 := D0) (cy0 := cy0) (ax0 := ax0) (y := yX12_canShake) (cc := cX12_canShake) (ret := (some .boolean)) k336 (mk_ok jX12_canShake fX12_ok lX12_ok kX12_ok kkX12_ok H) ⟨_, rfl⟩ pnX12 (fun h => by cases h) (fun _ => rfl) rfl
  exact h

/-! X12_canSteal (('k', 200), ('n',), ('n',), ('n',)) -/
def u337 : List (Nat × TP × EX × Nat × Nat) := []
theorem k337 : chk (mkD iX12_canSteal fX12 lX12 kX12 kkX12 337 [(3, [336]), (17, [298]), (26, [298])] c337 true 4 u337) 4000 = true := by decide +kernel
theorem m337 {X0 : zC0} (H : ∀ j, j < 337 → CMj X0 j) : CMj X0 337 := by
  obtain ⟨l0, D0, cy0, ax0⟩ := X0
  intro mi c hc
  have e : conAt 337 = some (88, c337) := rfl
  rw [e] at hc
  obtain ⟨rfl, rfl⟩ := Prod.mk.inj (Option.some.inj hc)
  have e2 : mt 88 = (yX12_canSteal, cX12_canSteal, 4, (some .boolean)) := rfl
  rw [e2]
  have h := chk_ok (l0 := l0) (D0 := D0) (cy0 := cy0) (ax0 := ax0) (y := yX12_canSteal) (cc := cX12_canSteal) (ret := (some .boolean)) k337 (mk_ok jX12_canSteal fX12_ok lX12_ok kX12_ok kkX12_ok H) ⟨_, rfl⟩ pnX12 (fun h => by cases h) (fun _ => rfl) rfl
  exact h

/-! X12_compareOf (('k', 200),) -/
def u339 : List (Nat × TP × EX × Nat × Nat) := []
theorem k339 : chk (mkD iX12_compareOf fX12 lX12 kX12 kkX12 339 [] c339 false 1 u339) 4000 = true := by decide +kernel
theorem m339 {X0 : zC0} (H : ∀ j, j < 339 → CMj X0 j) : CMj X0 339 := by
  obtain ⟨l0, D0, cy0, ax0⟩ := X0
  intro mi c hc
  have e : conAt 339 = some (92, c339) := rfl
  rw [e] at hc
  obtain ⟨rfl, rfl⟩ := Prod.mk.inj (Option.some.inj hc)
  have e2 : mt 92 = (yX12_compareOf, cX12_compareOf, 1, (some .int)) := rfl
  rw [e2]
  have h := chk_ok (l0 := l0) (D0 := D0) (cy0 := cy0) (ax0 := ax0) (y := yX12_compareOf) (cc := cX12_compareOf) (ret := (some .int)) k339 (mk_ok jX12_compareOf fX12_ok lX12_ok kX12_ok kkX12_ok H) ⟨_, rfl⟩ pnX12 nrI (fun h => by cases h) rfl
  exact h

/-! X12_fieldOf (('k', 200), ('n',), ('n',)) -/
def u341 : List (Nat × TP × EX × Nat × Nat) := []
theorem k341 : chk (mkD iX12_fieldOf fX12 lX12 kX12 kkX12 341 [] c341 false 3 u341) 4000 = true := by decide +kernel
theorem m341 {X0 : zC0} (H : ∀ j, j < 341 → CMj X0 j) : CMj X0 341 := by
  obtain ⟨l0, D0, cy0, ax0⟩ := X0
  intro mi c hc
  have e : conAt 341 = some (105, c341) := rfl
  rw [e] at hc
  obtain ⟨rfl, rfl⟩ := Prod.mk.inj (Option.some.inj hc)
  have e2 : mt 105 = (yX12_fieldOf, cX12_fieldOf, 3, (some .int)) := rfl
  rw [e2]
  have h := chk_ok (l0 := l0) (D0 := D0) (cy0 := cy0) (ax0 := ax0) (y := yX12_fieldOf) (cc := cX12_fieldOf) (ret := (some .int)) k341 (mk_ok jX12_fieldOf fX12_ok lX12_ok kX12_ok kkX12_ok H) ⟨_, rfl⟩ pnX12 nrI (fun h => by cases h) rfl
  exact h

/-! X12_end (('k', 200), ('n',)) -/
def u343 : List (Nat × TP × EX × Nat × Nat) := []
theorem k343 : chk (mkD iX12_end fX12 lX12 kX12 kkX12 343 [(6, [290])] c343 false 2 u343) 4000 = true := by decide +kernel
theorem m343 {X0 : zC0} (H : ∀ j, j < 343 → CMj X0 j) : CMj X0 343 := by
  obtain ⟨l0, D0, cy0, ax0⟩ := X0
  intro mi c hc
  have e : conAt 343 = some (97, c343) := rfl
  rw [e] at hc
  obtain ⟨rfl, rfl⟩ := Prod.mk.inj (Option.some.inj hc)
  have e2 : mt 97 = (yX12_end, cX12_end, 2, (some .int)) := rfl
  rw [e2]
  have h := chk_ok (l0 := l0) (D0 := D0) (cy0 := cy0) (ax0 := ax0) (y := yX12_end) (cc := cX12_end) (ret := (some .int)) k343 (mk_ok jX12_end fX12_ok lX12_ok kX12_ok kkX12_ok H) ⟨_, rfl⟩ pnX12 nrI (fun h => by cases h) rfl
  exact h

/-! X12_errors (('k', 200), ('n',), ('n',)) -/
def u344 : List (Nat × TP × EX × Nat × Nat) := []
theorem k344 : chk (mkD iX12_errors fX12 lX12 kX12 kkX12 344 [(4, [290]), (13, [326])] c344 false 3 u344) 4000 = true := by decide +kernel
theorem m344 {X0 : zC0} (H : ∀ j, j < 344 → CMj X0 j) : CMj X0 344 := by
  obtain ⟨l0, D0, cy0, ax0⟩ := X0
  intro mi c hc
  have e : conAt 344 = some (99, c344) := rfl
  rw [e] at hc
  obtain ⟨rfl, rfl⟩ := Prod.mk.inj (Option.some.inj hc)
  have e2 : mt 99 = (yX12_errors, cX12_errors, 3, (some .int)) := rfl
  rw [e2]
  have h := chk_ok (l0 := l0) (D0 := D0) (cy0 := cy0) (ax0 := ax0) (y := yX12_errors) (cc := cX12_errors) (ret := (some .int)) k344 (mk_ok jX12_errors fX12_ok lX12_ok kX12_ok kkX12_ok H) ⟨_, rfl⟩ pnX12 nrI (fun h => by cases h) rfl
  exact h

/-! X12_fault (('k', 200), ('n',)) -/
def u345 : List (Nat × TP × EX × Nat × Nat) := []
theorem k345 : chk (mkD iX12_fault fX12 lX12 kX12 kkX12 345 [] c345 false 2 u345) 4000 = true := by decide +kernel
theorem m345 {X0 : zC0} (H : ∀ j, j < 345 → CMj X0 j) : CMj X0 345 := by
  obtain ⟨l0, D0, cy0, ax0⟩ := X0
  intro mi c hc
  have e : conAt 345 = some (101, c345) := rfl
  rw [e] at hc
  obtain ⟨rfl, rfl⟩ := Prod.mk.inj (Option.some.inj hc)
  have e2 : mt 101 = (yX12_fault, cX12_fault, 2, (some .int)) := rfl
  rw [e2]
  have h := chk_ok (l0 := l0) (D0 := D0) (cy0 := cy0) (ax0 := ax0) (y := yX12_fault) (cc := cX12_fault) (ret := (some .int)) k345 (mk_ok jX12_fault fX12_ok lX12_ok kX12_ok kkX12_ok H) ⟨_, rfl⟩ pnX12 nrI (fun h => by cases h) rfl
  exact h

/-! X12_four (('k', 200), ('n',)) -/
def u346 : List (Nat × TP × EX × Nat × Nat) := []
theorem k346 : chk (mkD iX12_four fX12 lX12 kX12 kkX12 346 [] c346 false 3 u346) 4000 = true := by decide +kernel
theorem m346 {X0 : zC0} (H : ∀ j, j < 346 → CMj X0 j) : CMj X0 346 := by
  obtain ⟨l0, D0, cy0, ax0⟩ := X0
  intro mi c hc
  have e : conAt 346 = some (113, c346) := rfl
  rw [e] at hc
  obtain ⟨rfl, rfl⟩ := Prod.mk.inj (Option.some.inj hc)
  have e2 : mt 113 = (yX12_four, cX12_four, 3, none) := rfl
  rw [e2]
  have h := chk_ok (l0 := l0) (D0 := D0) (cy0 := cy0) (ax0 := ax0) (y := yX12_four) (cc := cX12_four) (ret := none) k346 (mk_ok jX12_four fX12_ok lX12_ok kX12_ok kkX12_ok H) rfl pnX12 nrV (fun h => by cases h) rfl
  exact h

/-! X12_feed (('k', 200), ('n',), ('n',), ('n',), ('n',), ('n',)) -/
def u347 : List (Nat × TP × EX × Nat × Nat) := []
theorem k347 : chk (mkD iX12_feed fX12 lX12 kX12 kkX12 347 [(17, [346]), (22, [346]), (27, [346]), (33, [346]), (39, [346])] c347 false 6 u347) 4000 = true := by decide +kernel
theorem m347 {X0 : zC0} (H : ∀ j, j < 347 → CMj X0 j) : CMj X0 347 := by
  obtain ⟨l0, D0, cy0, ax0⟩ := X0
  intro mi c hc
  have e : conAt 347 = some (102, c347) := rfl
  rw [e] at hc
  obtain ⟨rfl, rfl⟩ := Prod.mk.inj (Option.some.inj hc)
  have e2 : mt 102 = (yX12_feed, cX12_feed, 6, (some .int)) := rfl
  rw [e2]
  have h := chk_ok (l0 := l0) (D0 := D0) (cy0 := cy0) (ax0 := ax0) (y := yX12_feed) (cc := cX12_feed) (ret := (some .int)) k347 (mk_ok jX12_feed fX12_ok lX12_ok kX12_ok kkX12_ok H) ⟨_, rfl⟩ pnX12 nrI (fun h => by cases h) rfl
  exact h

/-! X12_isIn (('n',), ('c', 0), ('c', 9)) -/
def u348 : List (Nat × TP × EX × Nat × Nat) := []
theorem k348 : chk (mkD iX12_isIn fX12 lX12 kX12 kkX12 348 [] c348 true 3 u348) 4000 = true := by decide +kernel
theorem m348 {X0 : zC0} (H : ∀ j, j < 348 → CMj X0 j) : CMj X0 348 := by
  obtain ⟨l0, D0, cy0, ax0⟩ := X0
  intro mi c hc
  have e : conAt 348 = some (126, c348) := rfl
  rw [e] at hc
  obtain ⟨rfl, rfl⟩ := Prod.mk.inj (Option.some.inj hc)
  have e2 : mt 126 = (yX12_isIn, cX12_isIn, 3, (some .boolean)) := rfl
  rw [e2]
  have h := chk_ok (l0 := l0) (D0 := D0) (cy0 := cy0) (ax0 := ax0) (y := yX12_isIn) (cc := cX12_isIn) (ret := (some .boolean)) k348 (mk_ok jX12_isIn fX12_ok lX12_ok kX12_ok kkX12_ok H) ⟨_, rfl⟩ pnX12 (fun h => by cases h) (fun _ => rfl) rfl
  exact h

/-! X12_field (('k', 200), ('n',), ('n',), ('n',)) -/
def u349 : List (Nat × TP × EX × Nat × Nat) := [(67, ([(0, (2, 0, (0, []))), (1, (0, 0, (0, [(1, 0)]))), (2, (0, 0, (0, [(1, 1)]))), (3, (0, 0, (0, [(1, 2)]))), (4, (0, 0, (16, [(7, 3)]))), (5, (0, 0, (0, [(1, 5)])))], [], ([(0, 9), (0, 998), (1, 999), (0, 5), (0, 8), (0, 7)], [((-1), [((-1), 1), (1, 2)]), ((-1), [(1, 5), (1, 2), ((-1), 1)])], [], [200], [((201, (0, [])), (0, [(1, 3)])), ((201, (1, [])), (0, [(1, 4)]))], [], []), [(0, 5, (0, []))], []), (7, [((-1), 5)]), 0, 0)]
theorem k349 : chk (mkD iX12_field fX12 lX12 kX12 kkX12 349 [(4, [348]), (15, [290]), (26, [290])] c349 false 6 u349) 4000 = true := by decide +kernel
theorem m349 {X0 : zC0} (H : ∀ j, j < 349 → CMj X0 j) : CMj X0 349 := by
  obtain ⟨l0, D0, cy0, ax0⟩ := X0
  intro mi c hc
  have e : conAt 349 = some (103, c349) := rfl
  rw [e] at hc
  obtain ⟨rfl, rfl⟩ := Prod.mk.inj (Option.some.inj hc)
  have e2 : mt 103 = (yX12_field, cX12_field, 6, (some .int)) := rfl
  rw [e2]
  have h := chk_ok (l0 := l0) (D0 := D0) (cy0 := cy0) (ax0 := ax0) (y := yX12_field) (cc := cX12_field) (ret := (some .int)) k349 (mk_ok jX12_field fX12_ok lX12_ok kX12_ok kkX12_ok H) ⟨_, rfl⟩ pnX12 nrI (fun h => by cases h) rfl
  exact h

/-! X12_filling (('k', 200), ('n',), ('n',), ('n',), ('n',), ('n',), ('n',)) -/
def u350 : List (Nat × TP × EX × Nat × Nat) := [(57, ([(0, (2, 0, (0, []))), (1, (0, 0, (0, [(1, 0)]))), (2, (0, 0, (0, [(1, 1)]))), (3, (0, 0, (0, [(1, 2)]))), (4, (0, 0, (0, [(1, 3)]))), (5, (0, 0, (0, [(1, 4)]))), (6, (0, 0, (0, [(1, 5)]))), (7, (0, 0, (0, [(1, 7)])))], [], ([(0, 7), (0, 10), (0, 99), (0, 99), (0, 15), (0, 1), (1, 8), (0, 19)], [((-1), [((-1), 0), (1, 6)]), ((-1), [(1, 7), (1, 6), ((-1), 0)])], [], [200], [((201, (1, [])), (0, [(1, 6)]))], [], []), [(2, 201, (1, [])), (0, 7, (0, []))], []), (36, [((-1), 7)]), 0, 0), (184, ([(0, (2, 0, (0, []))), (1, (0, 0, (0, [(1, 0)]))), (2, (0, 0, (0, [(1, 1)]))), (3, (0, 0, (0, [(1, 2)]))), (4, (0, 0, (0, [(1, 3)]))), (5, (0, 0, (0, [(1, 4)]))), (6, (0, 0, (0, [(1, 5)]))), (7, (1, 0, (0, [(1, 7)]))), (9, (1, 0, (0, [(1, 8)]))), (11, (0, 0, (0, [(1, 9)])))], [], ([(0, 7), (0, 10), (0, 99), (0, 99), (0, 15), (0, 1), (1, 8), (1, 1000000000000000), ((-9223372036854775808), 9223372036854775807), (0, 16)], [((-1), [(1, 6), ((-1), 0)]), (1, [(1, 4), ((-1), 9)]), (0, [(1, 7), ((-1), 4)]), ((-1), [(1, 7), ((-1), 4)]), (0, [(1, 7), ((-1), 9)]), ((-2), [(1, 7), ((-1), 0), (1, 6)]), ((-1), [(1, 9), ((-1), 0), (1, 6)]), (18, [((-1), 9), (1, 6), ((-1), 0)])], [], [200], [((201, (1, [])), (0, [(1, 6)]))], [], []), [(2, 201, (1, [])), (0, 7, (0, [])), (0, 9, (0, [])), (0, 11, (0, []))], []), (16, [((-1), 9)]), 0, 0)]
set_option maxRecDepth 1000000 in
theorem k350 : chk (mkD iX12_filling fX12 lX12 kX12 kkX12 350 [(2, [331]), (12, [290]), (22, [290]), (33, [290]), (44, [290]), (196, [298]), (216, [303]), (258, [338])] c350 false 12 u350) 4000 = true := by decide +kernel
theorem m350 {X0 : zC0} (H : ∀ j, j < 350 → CMj X0 j) : CMj X0 350 := by
  obtain ⟨l0, D0, cy0, ax0⟩ := X0
  intro mi c hc
  have e : conAt 350 = some (107, c350) := rfl
  rw [e] at hc
  obtain ⟨rfl, rfl⟩ := Prod.mk.inj (Option.some.inj hc)
  have e2 : mt 107 = (yX12_filling, cX12_filling, 12, (some .long)) := rfl
  rw [e2]
  have h := chk_ok (l0 := l0) (D0 := D0) (cy0 := cy0) (ax0 := ax0) (y := yX12_filling) (cc := cX12_filling) (ret := (some .long)) k350 (mk_ok jX12_filling fX12_ok lX12_ok kX12_ok kkX12_ok H) rfl pnX12 nrJ (fun h => by cases h) rfl
  exact h

/-! X12_findRoads (('k', 200), ('n',), ('n',)) -/
def u351 : List (Nat × TP × EX × Nat × Nat) := [(2, ([(0, (2, 0, (0, []))), (1, (0, 0, (0, [(1, 0)]))), (2, (0, 0, (0, [(1, 1)]))), (3, (0, 0, (0, [(1, 2)])))], [], ([(0, 5), (0, 999), (0, 6)], [], [], [200], [], [], []), [(0, 3, (0, []))], []), (405, [((-1), 2)]), 0, 0), (34, ([(0, (2, 0, (0, []))), (1, (0, 0, (0, [(1, 0)]))), (2, (0, 0, (0, [(1, 1)]))), (3, (0, 0, (0, [(1, 2)])))], [], ([(0, 5), (0, 999), (0, 6)], [], [], [200], [], [], []), [(0, 3, (0, []))], []), (398, [((-57), 2)]), 0, 0), (47, ([(0, (2, 0, (0, []))), (1, (0, 0, (0, [(1, 0)]))), (2, (0, 0, (0, [(1, 1)]))), (3, (0, 0, (0, [(1, 2)]))), (4, (0, 0, (0, [(1, 4)])))], [], ([(0, 5), (0, 999), (0, 5), (1, 6), (0, 6)], [((-1), [((-1), 2), (1, 3)]), (0, [(1, 3), ((-1), 4)]), ((-1), [(1, 4), (1, 3), ((-1), 2)])], [], [200], [((201, (0, [])), (0, [(1, 3)]))], [], []), [(0, 3, (0, [])), (2, 201, (0, [])), (0, 4, (0, []))], []), (397, [((-8), 4), ((-57), 2)]), 0, 0), (61, ([(0, (2, 0, (0, []))), (1, (0, 0, (0, [(1, 0)]))), (2, (0, 0, (0, [(1, 1)]))), (3, (0, 0, (0, [(1, 2)]))), (4, (0, 0, (0, [(1, 3)]))), (5, (0, 0, (0, [(1, 5)])))], [], ([(0, 5), (0, 999), (0, 5), (0, 5), (1, 6), (0, 6)], [((-1), [((-1), 3), (1, 4)]), ((-1), [(1, 4), ((-1), 2)]), ((-1), [((-1), 2), (1, 3), (1, 4)]), (0, [(1, 4), ((-1), 5)]), ((-1), [(1, 5), (1, 4), ((-1), 3)]), ((-1), [(1, 5), ((-1), 2), (1, 4)]), ((-1), [(1, 5), (1, 4), (1, 3), ((-1), 2)])], [], [200], [((201, (0, [])), (0, [(1, 4)]))], [], []), [(0, 3, (0, [])), (0, 4, (0, [])), (2, 201, (0, [])), (0, 5, (0, []))], []), (396, [((-1), 5), ((-8), 3), ((-57), 2)]), 0, 0)]
theorem k351 : chk (mkD iX12_findRoads fX12 lX12 kX12 kkX12 351 [(77, [333]), (82, [334]), (92, [330])] c351 false 6 u351) 4000 = true := by decide +kernel
theorem m351 {X0 : zC0} (H : ∀ j, j < 351 → CMj X0 j) : CMj X0 351 := by
  obtain ⟨l0, D0, cy0, ax0⟩ := X0
  intro mi c hc
  have e : conAt 351 = some (108, c351) := rfl
  rw [e] at hc
  obtain ⟨rfl, rfl⟩ := Prod.mk.inj (Option.some.inj hc)
  have e2 : mt 108 = (yX12_findRoads, cX12_findRoads, 6, none) := rfl
  rw [e2]
  have h := chk_ok (l0 := l0) (D0 := D0) (cy0 := cy0) (ax0 := ax0) (y := yX12_findRoads) (cc := cX12_findRoads) (ret := none) k351 (mk_ok jX12_findRoads fX12_ok lX12_ok kX12_ok kkX12_ok H) rfl pnX12 nrV (fun h => by cases h) rfl
  exact h

/-! X12_findYields (('k', 200), ('n',)) -/
def u352 : List (Nat × TP × EX × Nat × Nat) := [(12, ([(0, (2, 0, (0, []))), (1, (0, 0, (0, [(1, 0)]))), (2, (0, 0, (0, [(1, 2)])))], [], ([(1, 6), (0, 999), (0, 6)], [(0, [(1, 0), ((-1), 2)])], [], [200], [((200, (36, [])), (0, [(1, 1)])), ((201, (2, [])), (0, [(1, 1)]))], [], []), [(2, 200, (36, [])), (0, 2, (0, []))], []), (55, [((-8), 2)]), 0, 0), (29, ([(0, (2, 0, (0, []))), (1, (0, 0, (0, [(1, 0)]))), (2, (0, 0, (0, [(1, 1)]))), (3, (0, 0, (0, [(1, 4)])))], [], ([(1, 6), (0, 5), (0, 7), (0, 999), (0, 6)], [((-1), [((-1), 1), (1, 0)]), (0, [(1, 0), ((-1), 4)]), ((-1), [(1, 4), (1, 0), ((-1), 1)])], [], [200], [((200, (24, [])), (0, [(1, 2)])), ((219, (0, [(1, 1)])), (0, [(1, 2)])), ((200, (36, [])), (0, [(1, 3)])), ((201, (2, [])), (0, [(1, 3)]))], [], []), [(0, 2, (0, [])), (2, 200, (24, [])), (2, 200, (36, [])), (0, 3, (0, []))], []), (54, [((-1), 4), ((-8), 1)]), 0, 0)]
theorem k352 : chk (mkD iX12_findYields fX12 lX12 kX12 kkX12 352 [(63, [310])] c352 false 4 u352) 4000 = true := by decide +kernel
theorem m352 {X0 : zC0} (H : ∀ j, j < 352 → CMj X0 j) : CMj X0 352 := by
  obtain ⟨l0, D0, cy0, ax0⟩ := X0
  intro mi c hc
  have e : conAt 352 = some (109, c352) := rfl
  rw [e] at hc
  obtain ⟨rfl, rfl⟩ := Prod.mk.inj (Option.some.inj hc)
  have e2 : mt 109 = (yX12_findYields, cX12_findYields, 4, none) := rfl
  rw [e2]
  have h := chk_ok (l0 := l0) (D0 := D0) (cy0 := cy0) (ax0 := ax0) (y := yX12_findYields) (cc := cX12_findYields) (ret := none) k352 (mk_ok jX12_findYields fX12_ok lX12_ok kX12_ok kkX12_ok H) rfl pnX12 nrV (fun h => by cases h) rfl
  exact h

/-! X12_forecast (('k', 200), ('n',), ('n',)) -/
def u353 : List (Nat × TP × EX × Nat × Nat) := []
theorem k353 : chk (mkD iX12_forecast fX12 lX12 kX12 kkX12 353 [(19, [348])] c353 false 3 u353) 4000 = true := by decide +kernel
theorem m353 {X0 : zC0} (H : ∀ j, j < 353 → CMj X0 j) : CMj X0 353 := by
  obtain ⟨l0, D0, cy0, ax0⟩ := X0
  intro mi c hc
  have e : conAt 353 = some (110, c353) := rfl
  rw [e] at hc
  obtain ⟨rfl, rfl⟩ := Prod.mk.inj (Option.some.inj hc)
  have e2 : mt 110 = (yX12_forecast, cX12_forecast, 3, (some .int)) := rfl
  rw [e2]
  have h := chk_ok (l0 := l0) (D0 := D0) (cy0 := cy0) (ax0 := ax0) (y := yX12_forecast) (cc := cX12_forecast) (ret := (some .int)) k353 (mk_ok jX12_forecast fX12_ok lX12_ok kX12_ok kkX12_ok H) ⟨_, rfl⟩ pnX12 nrI (fun h => by cases h) rfl
  exact h

/-! X12_passOnward (('k', 200),) -/
def u354 : List (Nat × TP × EX × Nat × Nat) := []
theorem k354 : chk (mkD iX12_passOnward fX12 lX12 kX12 kkX12 354 [(11, [315]), (16, [318])] c354 false 2 u354) 4000 = true := by decide +kernel
theorem m354 {X0 : zC0} (H : ∀ j, j < 354 → CMj X0 j) : CMj X0 354 := by
  obtain ⟨l0, D0, cy0, ax0⟩ := X0
  intro mi c hc
  have e : conAt 354 = some (155, c354) := rfl
  rw [e] at hc
  obtain ⟨rfl, rfl⟩ := Prod.mk.inj (Option.some.inj hc)
  have e2 : mt 155 = (yX12_passOnward, cX12_passOnward, 2, none) := rfl
  rw [e2]
  have h := chk_ok (l0 := l0) (D0 := D0) (cy0 := cy0) (ax0 := ax0) (y := yX12_passOnward) (cc := cX12_passOnward) (ret := none) k354 (mk_ok jX12_passOnward fX12_ok lX12_ok kX12_ok kkX12_ok H) rfl pnX12 nrV (fun h => by cases h) rfl
  exact h

/-! X12_foretoldCloud (('k', 200), ('n',), ('n',), ('n',)) -/
def u356 : List (Nat × TP × EX × Nat × Nat) := [(27, ([(0, (2, 0, (0, []))), (1, (0, 0, (0, [(1, 0)]))), (2, (0, 0, (0, [(1, 1)]))), (3, (0, 0, (0, [(1, 2)]))), (4, (0, 0, (0, [(1, 8)])))], [], ([(1, 30), (0, 7), (0, 1), (0, 2000900000), (0, 10), (0, 12), (1, 8), (0, 6), (0, 30), (0, 2000900240)], [((-1), [((-1), 1), (1, 6)]), (0, [(1, 0), ((-1), 8)]), ((-1), [(1, 8), (1, 6), ((-1), 1)]), (0, [((-1), 9), (1, 3), (8, 8)]), (0, [((-1), 9), (1, 3), (40, 8)]), (0, [((-1), 9), (1, 3), (240, 8)]), (0, [((-1), 9), (1, 3), (8000, 8)]), (240, [(1, 3), ((-1), 9)])], [], [200], [((200, (38, [])), (0, [])), ((201, (12, [])), (0, [(1, 4)])), ((217, (12, [])), (0, [(1, 4)])), ((201, (11, [])), (0, [(1, 5)])), ((217, (11, [])), (0, [(1, 5)])), ((217, (1, [])), (0, [(1, 6)])), ((201, (0, [])), (0, [(1, 7)])), ((217, (0, [])), (0, [(1, 7)])), ((201, (1, [])), (0, [(1, 6)])), ((0, (0, [])), (0, [(1, 9)]))], [], []), [(2, 201, (12, [])), (2, 201, (11, [])), (2, 217, (1, [])), (2, 201, (0, [])), (0, 4, (0, [])), (2, 0, (0, []))], []), (30, [((-1), 8)]), 0, 0)]
theorem k356 : chk (mkD iX12_foretoldCloud fX12 lX12 kX12 kkX12 356 [(4, [290]), (12, [331]), (21, [324]), (34, [354]), (59, [298]), (65, [355])] c356 false 5 u356) 4000 = true := by decide +kernel
theorem m356 {X0 : zC0} (H : ∀ j, j < 356 → CMj X0 j) : CMj X0 356 := by
  obtain ⟨l0, D0, cy0, ax0⟩ := X0
  intro mi c hc
  have e : conAt 356 = some (111, c356) := rfl
  rw [e] at hc
  obtain ⟨rfl, rfl⟩ := Prod.mk.inj (Option.some.inj hc)
  have e2 : mt 111 = (yX12_foretoldCloud, cX12_foretoldCloud, 5, (some .int)) := rfl
  rw [e2]
  have h := chk_ok (l0 := l0) (D0 := D0) (cy0 := cy0) (ax0 := ax0) (y := yX12_foretoldCloud) (cc := cX12_foretoldCloud) (ret := (some .int)) k356 (mk_ok jX12_foretoldCloud fX12_ok lX12_ok kX12_ok kkX12_ok H) ⟨_, rfl⟩ pnX12 nrI (fun h => by cases h) rfl
  exact h

/-! X12_foretoldWet (('k', 200), ('n',), ('n',)) -/
def u357 : List (Nat × TP × EX × Nat × Nat) := [(26, ([(0, (2, 0, (0, []))), (1, (0, 0, (0, [(1, 0)]))), (2, (0, 0, (0, [(1, 1)]))), (3, (0, 0, (0, [(1, 7)])))], [], ([(1, 30), (0, 5), (0, 2000900000), (0, 10), (0, 12), (0, 8), (1, 6), (0, 30), (0, 2000900240)], [((-1), [((-1), 1), (1, 6)]), (0, [(1, 0), ((-1), 7)]), ((-1), [(1, 7), (1, 6), ((-1), 1)]), (0, [((-1), 8), (1, 2), (8, 7)]), (0, [((-1), 8), (1, 2), (40, 7)]), (0, [((-1), 8), (1, 2), (240, 7)]), (0, [((-1), 8), (1, 2), (8000, 7)]), (240, [(1, 2), ((-1), 8)])], [], [200], [((200, (38, [])), (0, [])), ((201, (12, [])), (0, [(1, 3)])), ((217, (12, [])), (0, [(1, 3)])), ((201, (11, [])), (0, [(1, 4)])), ((217, (11, [])), (0, [(1, 4)])), ((201, (1, [])), (0, [(1, 5)])), ((217, (1, [])), (0, [(1, 5)])), ((217, (0, [])), (0, [(1, 6)])), ((201, (0, [])), (0, [(1, 6)])), ((0, (0, [])), (0, [(1, 8)]))], [], []), [(2, 201, (12, [])), (2, 201, (11, [])), (2, 201, (1, [])), (2, 217, (0, [])), (0, 3, (0, [])), (2, 0, (0, []))], []), (30, [((-1), 7)]), 0, 0)]
theorem k357 : chk (mkD iX12_foretoldWet fX12 lX12 kX12 kkX12 357 [(4, [290]), (12, [332]), (21, [324]), (32, [354]), (44, [294]), (49, [355])] c357 false 4 u357) 4000 = true := by decide +kernel
theorem m357 {X0 : zC0} (H : ∀ j, j < 357 → CMj X0 j) : CMj X0 357 := by
  obtain ⟨l0, D0, cy0, ax0⟩ := X0
  intro mi c hc
  have e : conAt 357 = some (112, c357) := rfl
  rw [e] at hc
  obtain ⟨rfl, rfl⟩ := Prod.mk.inj (Option.some.inj hc)
  have e2 : mt 112 = (yX12_foretoldWet, cX12_foretoldWet, 4, (some .int)) := rfl
  rw [e2]
  have h := chk_ok (l0 := l0) (D0 := D0) (cy0 := cy0) (ax0 := ax0) (y := yX12_foretoldWet) (cc := cX12_foretoldWet) (ret := (some .int)) k357 (mk_ok jX12_foretoldWet fX12_ok lX12_ok kX12_ok kkX12_ok H) ⟨_, rfl⟩ pnX12 nrI (fun h => by cases h) rfl
  exact h

/-! X12_get (('k', 200), ('n',), ('c', 5)) -/
def u358 : List (Nat × TP × EX × Nat × Nat) := []
theorem k358 : chk (mkD iX12_get fX12 lX12 kX12 kkX12 358 [] c358 false 3 u358) 4000 = true := by decide +kernel
theorem m358 {X0 : zC0} (H : ∀ j, j < 358 → CMj X0 j) : CMj X0 358 := by
  obtain ⟨l0, D0, cy0, ax0⟩ := X0
  intro mi c hc
  have e : conAt 358 = some (114, c358) := rfl
  rw [e] at hc
  obtain ⟨rfl, rfl⟩ := Prod.mk.inj (Option.some.inj hc)
  have e2 : mt 114 = (yX12_get, cX12_get, 3, (some .int)) := rfl
  rw [e2]
  have h := chk_ok (l0 := l0) (D0 := D0) (cy0 := cy0) (ax0 := ax0) (y := yX12_get) (cc := cX12_get) (ret := (some .int)) k358 (mk_ok jX12_get fX12_ok lX12_ok kX12_ok kkX12_ok H) ⟨_, rfl⟩ pnX12 nrI (fun h => by cases h) rfl
  exact h

/-! X12_get (('k', 200), ('n',), ('c', 6)) -/
def u359 : List (Nat × TP × EX × Nat × Nat) := []
theorem k359 : chk (mkD iX12_get fX12 lX12 kX12 kkX12 359 [] c359 false 3 u359) 4000 = true := by decide +kernel
theorem m359 {X0 : zC0} (H : ∀ j, j < 359 → CMj X0 j) : CMj X0 359 := by
  obtain ⟨l0, D0, cy0, ax0⟩ := X0
  intro mi c hc
  have e : conAt 359 = some (114, c359) := rfl
  rw [e] at hc
  obtain ⟨rfl, rfl⟩ := Prod.mk.inj (Option.some.inj hc)
  have e2 : mt 114 = (yX12_get, cX12_get, 3, (some .int)) := rfl
  rw [e2]
  have h := chk_ok (l0 := l0) (D0 := D0) (cy0 := cy0) (ax0 := ax0) (y := yX12_get) (cc := cX12_get) (ret := (some .int)) k359 (mk_ok jX12_get fX12_ok lX12_ok kX12_ok kkX12_ok H) ⟨_, rfl⟩ pnX12 nrI (fun h => by cases h) rfl
  exact h

/-! X12_get (('k', 200), ('n',), ('n',)) -/
def u360 : List (Nat × TP × EX × Nat × Nat) := []
theorem k360 : chk (mkD iX12_get fX12 lX12 kX12 kkX12 360 [] c360 false 3 u360) 4000 = true := by decide +kernel
theorem m360 {X0 : zC0} (H : ∀ j, j < 360 → CMj X0 j) : CMj X0 360 := by
  obtain ⟨l0, D0, cy0, ax0⟩ := X0
  intro mi c hc
  have e : conAt 360 = some (114, c360) := rfl
  rw [e] at hc
  obtain ⟨rfl, rfl⟩ := Prod.mk.inj (Option.some.inj hc)
  have e2 : mt 114 = (yX12_get, cX12_get, 3, (some .int)) := rfl
  rw [e2]
  have h := chk_ok (l0 := l0) (D0 := D0) (cy0 := cy0) (ax0 := ax0) (y := yX12_get) (cc := cX12_get) (ret := (some .int)) k360 (mk_ok jX12_get fX12_ok lX12_ok kX12_ok kkX12_ok H) ⟨_, rfl⟩ pnX12 nrI (fun h => by cases h) rfl
  exact h

/-! X12_set (('k', 200), ('n',), ('c', 2), ('n',)) -/
def u361 : List (Nat × TP × EX × Nat × Nat) := []
theorem k361 : chk (mkD iX12_set fX12 lX12 kX12 kkX12 361 [] c361 false 4 u361) 4000 = true := by decide +kernel
theorem m361 {X0 : zC0} (H : ∀ j, j < 361 → CMj X0 j) : CMj X0 361 := by
  obtain ⟨l0, D0, cy0, ax0⟩ := X0
  intro mi c hc
  have e : conAt 361 = some (170, c361) := rfl
  rw [e] at hc
  obtain ⟨rfl, rfl⟩ := Prod.mk.inj (Option.some.inj hc)
  have e2 : mt 170 = (yX12_set, cX12_set, 4, none) := rfl
  rw [e2]
  have h := chk_ok (l0 := l0) (D0 := D0) (cy0 := cy0) (ax0 := ax0) (y := yX12_set) (cc := cX12_set) (ret := none) k361 (mk_ok jX12_set fX12_ok lX12_ok kX12_ok kkX12_ok H) rfl pnX12 nrV (fun h => by cases h) rfl
  exact h

/-! X12_go (('k', 200), ('n',), ('n',)) -/
def u362 : List (Nat × TP × EX × Nat × Nat) := []
theorem k362 : chk (mkD iX12_go fX12 lX12 kX12 kkX12 362 [(3, [335]), (12, [300]), (19, [361])] c362 true 3 u362) 4000 = true := by decide +kernel
theorem m362 {X0 : zC0} (H : ∀ j, j < 362 → CMj X0 j) : CMj X0 362 := by
  obtain ⟨l0, D0, cy0, ax0⟩ := X0
  intro mi c hc
  have e : conAt 362 = some (115, c362) := rfl
  rw [e] at hc
  obtain ⟨rfl, rfl⟩ := Prod.mk.inj (Option.some.inj hc)
  have e2 : mt 115 = (yX12_go, cX12_go, 3, (some .boolean)) := rfl
  rw [e2]
  have h := chk_ok (l0 := l0) (D0 := D0) (cy0 := cy0) (ax0 := ax0) (y := yX12_go) (cc := cX12_go) (ret := (some .boolean)) k362 (mk_ok jX12_go fX12_ok lX12_ok kX12_ok kkX12_ok H) ⟨_, rfl⟩ pnX12 (fun h => by cases h) (fun _ => rfl) rfl
  exact h

/-! X12_greatestTax (('k', 200), ('n',)) -/
def u363 : List (Nat × TP × EX × Nat × Nat) := [(16, ([(0, (2, 0, (0, []))), (1, (0, 0, (0, [(1, 0)]))), (2, (0, 0, (0, [(1, 2)]))), (3, (0, 0, (0, [(1, 3)])))], [], ([(1, 30), (0, 2000900000), (0, 10), (0, 11), (0, 2000902640)], [(0, [(1, 3), ((-1), 2)]), (0, [((-1), 4), (1, 1), (240, 3)]), (0, [((-1), 4), (1, 1), (8000, 3)]), (2640, [(1, 1), ((-1), 4)])], [], [200], [((0, (0, [])), (0, [(1, 4)]))], [], []), [(0, 2, (0, [])), (0, 3, (0, [])), (2, 0, (0, []))], []), (467, [((-39), 3)]), 0, 0), (34, ([(0, (2, 0, (0, []))), (1, (0, 0, (0, [(1, 0)]))), (2, (0, 0, (0, [(1, 2)]))), (3, (0, 0, (0, [(1, 3)]))), (4, (0, 0, (0, [(1, 9)])))], [], ([(1, 30), (0, 2000900000), (0, 10), (0, 10), (0, 10), (0, 12), (0, 8), (0, 6), (0, 2000902640), (0, 30)], [(0, [((-1), 2), (1, 3)]), (2640, [((-1), 8), (1, 1)]), (0, [(1, 0), ((-1), 9)]), (0, [(1, 9), (1, 3), ((-1), 2)]), (0, [(8, 9), (1, 1), ((-1), 8), (240, 3)]), (0, [(240, 9), (1, 1), ((-1), 8), (240, 3)]), (0, [(8, 9), (1, 1), ((-1), 8), (8000, 3)]), (0, [(240, 9), (1, 1), ((-1), 8), (8000, 3)]), (2640, [(1, 9), (1, 1), ((-1), 8)]), (2640, [(8, 9), (1, 1), ((-1), 8)]), (2640, [(240, 9), (1, 1), ((-1), 8)])], [], [200], [((200, (37, [])), (0, [(1, 3)])), ((200, (38, [])), (0, [])), ((201, (12, [])), (0, [(1, 4)])), ((217, (12, [])), (0, [(1, 4)])), ((201, (11, [])), (0, [(1, 5)])), ((217, (11, [])), (0, [(1, 5)])), ((201, (1, [])), (0, [(1, 6)])), ((217, (1, [])), (0, [(1, 6)])), ((201, (0, [])), (0, [(1, 7)])), ((217, (0, [])), (0, [(1, 7)])), ((0, (0, [])), (0, [(1, 8)]))], [], []), [(0, 2, (0, [])), (0, 3, (0, [])), (2, 201, (12, [])), (2, 201, (11, [])), (2, 201, (1, [])), (2, 201, (0, [])), (2, 0, (0, [])), (0, 4, (0, []))], []), (466, [((-1), 9), ((-39), 3)]), 0, 0), (56, ([(0, (2, 0, (0, []))), (1, (0, 0, (0, [(1, 0)]))), (2, (0, 0, (0, [(1, 2)]))), (3, (0, 0, (0, [(1, 3)]))), (4, (0, 0, (0, [(1, 9)]))), (5, (0, 0, (0, [(1, 10)])))], [], ([(1, 30), (0, 2000900000), (0, 10), (0, 10), (0, 10), (0, 12), (0, 8), (0, 6), (0, 2000902640), (0, 1), (0, 6)], [(0, [(1, 3), ((-1), 2)]), (2640, [(1, 1), ((-1), 8)]), (240, [(240, 3), (1, 1), ((-1), 8)]), (240, [(8000, 3), (1, 1), ((-1), 8)]), (0, [(1, 7), ((-1), 10)]), (1, [((-1), 9), ((-1), 2), (1, 3)]), (0, [(1, 10), ((-1), 2), (1, 3)]), (2641, [((-1), 9), ((-1), 8), (1, 1)]), (2640, [(1, 10), ((-1), 8), (1, 1)]), (2640, [(8, 10), ((-1), 8), (1, 1)]), (2640, [(240, 10), ((-1), 8), (1, 1)]), (241, [((-1), 9), ((-1), 8), (1, 1), (240, 3)]), (240, [(1, 10), ((-1), 8), (1, 1), (240, 3)]), (240, [(8, 10), ((-1), 8), (1, 1), (240, 3)]), (240, [(240, 10), ((-1), 8), (1, 1), (240, 3)]), (7199, [(1, 9), ((-1), 8), (1, 1), (240, 3)]), (7192, [(8, 9), ((-1), 8), (1, 1), (240, 3)]), (6960, [(240, 9), ((-1), 8), (1, 1), (240, 3)]), (7200, [((-1), 10), ((-1), 8), (1, 1), (240, 3)]), (239, [(1, 9), ((-1), 8), (1, 1), (8000, 3)]), (241, [((-1), 9), ((-1), 8), (1, 1), (8000, 3)]), (232, [(8, 9), ((-1), 8), (1, 1), (8000, 3)]), (0, [(240, 9), ((-1), 8), (1, 1), (8000, 3)]), (240, [(1, 10), ((-1), 8), (1, 1), (8000, 3)]), (240, [(8, 10), ((-1), 8), (1, 1), (8000, 3)]), (240, [(240, 10), ((-1), 8), (1, 1), (8000, 3)]), (7200, [((-1), 10), ((-1), 8), (1, 1), (8000, 3)]), (2669, [(1, 9), (1, 1), ((-1), 8)]), (2662, [(8, 9), (1, 1), ((-1), 8)]), (2670, [((-1), 10), (1, 1), ((-1), 8)]), (2640, [(240, 9), (1, 1), ((-1), 8)]), ((-1), [(1, 9), (1, 3)]), ((-1), [(1, 9), (1, 7)]), ((-1), [(1, 10), (1, 9)])], [], [200], [((200, (37, [])), (0, [(1, 3)])), ((200, (38, [])), (0, [])), ((201, (12, [])), (0, [(1, 4)])), ((217, (12, [])), (0, [(1, 4)])), ((201, (11, [])), (0, [(1, 5)])), ((217, (11, [])), (0, [(1, 5)])), ((201, (1, [])), (0, [(1, 6)])), ((217, (1, [])), (0, [(1, 6)])), ((201, (0, [])), (0, [(1, 7)])), ((217, (0, [])), (0, [(1, 7)])), ((0, (0, [])), (0, [(1, 8)]))], [], []), [(0, 2, (0, [])), (0, 3, (0, [])), (2, 201, (12, [])), (2, 201, (11, [])), (2, 201, (1, [])), (2, 201, (0, [])), (2, 0, (0, [])), (0, 4, (0, [])), (0, 5, (0, []))], []), (435, [((-1), 10), ((-39), 3)]), 0, 0)]
theorem k363 : chk (mkD iX12_greatestTax fX12 lX12 kX12 kkX12 363 [(4, [290]), (23, [324]), (41, [354]), (81, [295]), (94, [295]), (121, [355])] c363 false 6 u363) 4000 = true := by decide +kernel
theorem m363 {X0 : zC0} (H : ∀ j, j < 363 → CMj X0 j) : CMj X0 363 := by
  obtain ⟨l0, D0, cy0, ax0⟩ := X0
  intro mi c hc
  have e : conAt 363 = some (116, c363) := rfl
  rw [e] at hc
  obtain ⟨rfl, rfl⟩ := Prod.mk.inj (Option.some.inj hc)
  have e2 : mt 116 = (yX12_greatestTax, cX12_greatestTax, 6, (some .int)) := rfl
  rw [e2]
  have h := chk_ok (l0 := l0) (D0 := D0) (cy0 := cy0) (ax0 := ax0) (y := yX12_greatestTax) (cc := cX12_greatestTax) (ret := (some .int)) k363 (mk_ok jX12_greatestTax fX12_ok lX12_ok kX12_ok kkX12_ok H) ⟨_, rfl⟩ pnX12 nrI (fun h => by cases h) rfl
  exact h

/-! X12_set (('k', 200), ('n',), ('c', 4), ('n',)) -/
def u364 : List (Nat × TP × EX × Nat × Nat) := []
theorem k364 : chk (mkD iX12_set fX12 lX12 kX12 kkX12 364 [] c364 false 4 u364) 4000 = true := by decide +kernel
theorem m364 {X0 : zC0} (H : ∀ j, j < 364 → CMj X0 j) : CMj X0 364 := by
  obtain ⟨l0, D0, cy0, ax0⟩ := X0
  intro mi c hc
  have e : conAt 364 = some (170, c364) := rfl
  rw [e] at hc
  obtain ⟨rfl, rfl⟩ := Prod.mk.inj (Option.some.inj hc)
  have e2 : mt 170 = (yX12_set, cX12_set, 4, none) := rfl
  rw [e2]
  have h := chk_ok (l0 := l0) (D0 := D0) (cy0 := cy0) (ax0 := ax0) (y := yX12_set) (cc := cX12_set) (ret := none) k364 (mk_ok jX12_set fX12_ok lX12_ok kX12_ok kkX12_ok H) rfl pnX12 nrV (fun h => by cases h) rfl
  exact h
