/-! X12_water (('k', 200),) -/
def u417 : List (Nat × TP × EX × Nat × Nat) := [(23, ([(0, (2, 0, (0, []))), (1, (0, 0, (0, [(1, 0)]))), (2, (0, 0, (0, [(1, 4)])))], [], ([((-2147483648), 2147483647), ((-2147483648), 2147483647), ((-2147483648), 2147483647), ((-2147483648), 2147483647), (0, 8)], [], [], [200], [((201, (4, [])), (0, [(1, 1)])), ((201, (5, [])), (0, [(1, 2)])), ((201, (3, [])), (0, [(1, 3)]))], [], []), [(0, 1, (0, [])), (2, 201, (4, [])), (2, 201, (5, [])), (2, 201, (3, [])), (0, 2, (0, []))], []), (15, [((-1), 4)]), 0, 0), (50, ([(0, (2, 0, (0, []))), (1, (0, 0, (0, [(1, 0)]))), (2, (0, 0, (0, [(1, 5)])))], [], ([((-2147483648), 2147483647), (0, 8), ((-2147483648), 2147483647), ((-2147483648), 2147483647), ((-2147483648), 2147483647), (0, 6)], [], [], [200], [((201, (1, [])), (0, [(1, 1)])), ((201, (4, [])), (0, [(1, 2)])), ((201, (5, [])), (0, [(1, 3)])), ((201, (3, [])), (0, [(1, 4)]))], [], []), [(0, 1, (0, [])), (2, 201, (1, [])), (2, 201, (4, [])), (2, 201, (5, [])), (2, 201, (3, [])), (0, 2, (0, []))], []), (6, [((-1), 5)]), 0, 0)]
theorem k417 : chk (mkD iX12_water fX12 lX12 kX12 kkX12 417 [(37, [298]), (64, [294])] c417 false 3 u417) 4000 = true := by decide +kernel
theorem m417 {X0 : zC0} (H : ∀ j, j < 417 → CMj X0 j) : CMj X0 417 := by
  obtain ⟨l0, D0, cy0, ax0⟩ := X0
  intro mi c hc
  have e : conAt 417 = some (196, c417) := rfl
  rw [e] at hc
  obtain ⟨rfl, rfl⟩ := Prod.mk.inj (Option.some.inj hc)
  have e2 : mt 196 = (yX12_water, cX12_water, 3, (some .int)) := rfl
  rw [e2]
  have h := chk_ok (l0 := l0) (D0 := D0) (cy0 := cy0) (ax0 := ax0) (y := yX12_water) (cc := cX12_water) (ret := (some .int)) k417 (mk_ok jX12_water fX12_ok lX12_ok kX12_ok kkX12_ok H) ⟨_, rfl⟩ pnX12 nrI (fun h => by cases h) rfl
  exact h

/-! X12_widest (('k', 200), ('n',), ('n',)) -/
def u418 : List (Nat × TP × EX × Nat × Nat) := [(22, ([(0, (2, 0, (0, []))), (1, (0, 0, (0, [(1, 0)]))), (2, (0, 0, (0, [(1, 1)]))), (3, (0, 0, (0, [(1, 3)])))], [], ([(0, 5), (0, 5), (1, 6), ((-1), 999)], [((-1), [((-1), 1), (1, 2)]), ((-1), [((-1), 0), (1, 2)]), (998, [((-1), 3), (1, 2), ((-1), 1)]), (998, [((-1), 3), (1, 2), ((-1), 0)])], [], [200], [((201, (0, [])), (0, [(1, 2)]))], [], []), [(2, 201, (0, [])), (0, 3, (0, []))], []), (1, [(1, 3)]), 0, 0)]
theorem k418 : chk (mkD iX12_widest fX12 lX12 kX12 kkX12 418 [(2, [332]), (10, [332]), (29, [351])] c418 false 4 u418) 4000 = true := by decide +kernel
theorem m418 {X0 : zC0} (H : ∀ j, j < 418 → CMj X0 j) : CMj X0 418 := by
  obtain ⟨l0, D0, cy0, ax0⟩ := X0
  intro mi c hc
  have e : conAt 418 = some (198, c418) := rfl
  rw [e] at hc
  obtain ⟨rfl, rfl⟩ := Prod.mk.inj (Option.some.inj hc)
  have e2 : mt 198 = (yX12_widest, cX12_widest, 4, (some .int)) := rfl
  rw [e2]
  have h := chk_ok (l0 := l0) (D0 := D0) (cy0 := cy0) (ax0 := ax0) (y := yX12_widest) (cc := cX12_widest) (ret := (some .int)) k418 (mk_ok jX12_widest fX12_ok lX12_ok kX12_ok kkX12_ok H) ⟨_, rfl⟩ pnX12 nrI (fun h => by cases h) rfl
  exact h

/-! X12_year (('k', 200), ('n',), ('n',)) -/
def u419 : List (Nat × TP × EX × Nat × Nat) := [(49, ([(0, (2, 0, (0, []))), (1, (0, 0, (0, [(1, 0)]))), (2, (0, 0, (0, [(1, 1)]))), (3, (0, 0, (0, [(1, 7)]))), (4, (0, 0, (0, [(1, 8)]))), (5, (0, 0, (0, [(1, 9)])))], [], ([(0, 9999), (1, 30), (0, 2001500000), (1, 6), ((-2147483648), 2147483647), (1, 30), (1, 8), (0, 30186), ((-2147483648), 2147483647), (0, 30), (0, 2001500240)], [(0, [(1, 1), ((-1), 9)]), (0, [((-1), 10), (1, 2), (8, 9)]), (0, [((-1), 10), (1, 2), (40, 9)]), (0, [((-1), 10), (1, 2), (240, 9)]), (0, [((-1), 10), (1, 2), (8000, 9)]), (240, [(1, 2), ((-1), 10)])], [], [200], [((201, (0, [])), (0, [(1, 3)])), ((201, (6, [])), (0, [(1, 4)])), ((201, (9, [])), (0, [(1, 5)])), ((201, (1, [])), (0, [(1, 6)])), ((0, (0, [])), (0, [(1, 10)]))], [], []), [(2, 201, (0, [])), (2, 201, (6, [])), (2, 201, (9, [])), (2, 201, (1, [])), (0, 3, (0, [])), (0, 4, (0, [])), (0, 5, (0, [])), (2, 0, (0, []))], []), (30, [((-1), 9)]), 0, 0)]
theorem k419 : chk (mkD iX12_year fX12 lX12 kX12 kkX12 419 [(5, [290]), (15, [290]), (33, [300]), (66, [293]), (76, [368]), (83, [293])] c419 false 7 u419) 4000 = true := by decide +kernel
theorem m419 {X0 : zC0} (H : ∀ j, j < 419 → CMj X0 j) : CMj X0 419 := by
  obtain ⟨l0, D0, cy0, ax0⟩ := X0
  intro mi c hc
  have e : conAt 419 = some (203, c419) := rfl
  rw [e] at hc
  obtain ⟨rfl, rfl⟩ := Prod.mk.inj (Option.some.inj hc)
  have e2 : mt 203 = (yX12_year, cX12_year, 7, (some .int)) := rfl
  rw [e2]
  have h := chk_ok (l0 := l0) (D0 := D0) (cy0 := cy0) (ax0 := ax0) (y := yX12_year) (cc := cX12_year) (ret := (some .int)) k419 (mk_ok jX12_year fX12_ok lX12_ok kX12_ok kkX12_ok H) ⟨_, rfl⟩ pnX12 nrI (fun h => by cases h) rfl
  exact h

/-! X11_isWithin (('n',), ('c', 0), ('c', 10)) -/
def u420 : List (Nat × TP × EX × Nat × Nat) := []
theorem k420 : chk (mkD iX11_isWithin fX11 lX11 kX11 kkX11 420 [] c420 true 3 u420) 4000 = true := by decide +kernel
theorem m420 {X0 : zC0} (H : ∀ j, j < 420 → CMj X0 j) : CMj X0 420 := by
  obtain ⟨l0, D0, cy0, ax0⟩ := X0
  intro mi c hc
  have e : conAt 420 = some (46, c420) := rfl
  rw [e] at hc
  obtain ⟨rfl, rfl⟩ := Prod.mk.inj (Option.some.inj hc)
  have e2 : mt 46 = (yX11_isWithin, cX11_isWithin, 3, (some .boolean)) := rfl
  rw [e2]
  have h := chk_ok (l0 := l0) (D0 := D0) (cy0 := cy0) (ax0 := ax0) (y := yX11_isWithin) (cc := cX11_isWithin) (ret := (some .boolean)) k420 (mk_ok jX11_isWithin fX11_ok lX11_ok kX11_ok kkX11_ok H) ⟨_, rfl⟩ pnX11 (fun h => by cases h) (fun _ => rfl) rfl
  exact h

/-! X11_isWithin (('n',), ('c', 0), ('c', 99)) -/
def u421 : List (Nat × TP × EX × Nat × Nat) := []
theorem k421 : chk (mkD iX11_isWithin fX11 lX11 kX11 kkX11 421 [] c421 true 3 u421) 4000 = true := by decide +kernel
theorem m421 {X0 : zC0} (H : ∀ j, j < 421 → CMj X0 j) : CMj X0 421 := by
  obtain ⟨l0, D0, cy0, ax0⟩ := X0
  intro mi c hc
  have e : conAt 421 = some (46, c421) := rfl
  rw [e] at hc
  obtain ⟨rfl, rfl⟩ := Prod.mk.inj (Option.some.inj hc)
  have e2 : mt 46 = (yX11_isWithin, cX11_isWithin, 3, (some .boolean)) := rfl
  rw [e2]
  have h := chk_ok (l0 := l0) (D0 := D0) (cy0 := cy0) (ax0 := ax0) (y := yX11_isWithin) (cc := cX11_isWithin) (ret := (some .boolean)) k421 (mk_ok jX11_isWithin fX11_ok lX11_ok kX11_ok kkX11_ok H) ⟨_, rfl⟩ pnX11 (fun h => by cases h) (fun _ => rfl) rfl
  exact h

/-! X11_isWithin (('n',), ('c', 1), ('c', 99)) -/
def u422 : List (Nat × TP × EX × Nat × Nat) := []
theorem k422 : chk (mkD iX11_isWithin fX11 lX11 kX11 kkX11 422 [] c422 true 3 u422) 4000 = true := by decide +kernel
theorem m422 {X0 : zC0} (H : ∀ j, j < 422 → CMj X0 j) : CMj X0 422 := by
  obtain ⟨l0, D0, cy0, ax0⟩ := X0
  intro mi c hc
  have e : conAt 422 = some (46, c422) := rfl
  rw [e] at hc
  obtain ⟨rfl, rfl⟩ := Prod.mk.inj (Option.some.inj hc)
  have e2 : mt 46 = (yX11_isWithin, cX11_isWithin, 3, (some .boolean)) := rfl
  rw [e2]
  have h := chk_ok (l0 := l0) (D0 := D0) (cy0 := cy0) (ax0 := ax0) (y := yX11_isWithin) (cc := cX11_isWithin) (ret := (some .boolean)) k422 (mk_ok jX11_isWithin fX11_ok lX11_ok kX11_ok kkX11_ok H) ⟨_, rfl⟩ pnX11 (fun h => by cases h) (fun _ => rfl) rfl
  exact h

/-! X12_isIn (('n',), ('c', -1), ('c', 99)) -/
def u423 : List (Nat × TP × EX × Nat × Nat) := []
theorem k423 : chk (mkD iX12_isIn fX12 lX12 kX12 kkX12 423 [] c423 true 3 u423) 4000 = true := by decide +kernel
theorem m423 {X0 : zC0} (H : ∀ j, j < 423 → CMj X0 j) : CMj X0 423 := by
  obtain ⟨l0, D0, cy0, ax0⟩ := X0
  intro mi c hc
  have e : conAt 423 = some (126, c423) := rfl
  rw [e] at hc
  obtain ⟨rfl, rfl⟩ := Prod.mk.inj (Option.some.inj hc)
  have e2 : mt 126 = (yX12_isIn, cX12_isIn, 3, (some .boolean)) := rfl
  rw [e2]
  have h := chk_ok (l0 := l0) (D0 := D0) (cy0 := cy0) (ax0 := ax0) (y := yX12_isIn) (cc := cX12_isIn) (ret := (some .boolean)) k423 (mk_ok jX12_isIn fX12_ok lX12_ok kX12_ok kkX12_ok H) ⟨_, rfl⟩ pnX12 (fun h => by cases h) (fun _ => rfl) rfl
  exact h

/-! X12_isIn (('n',), ('c', 0), ('c', 10)) -/
def u424 : List (Nat × TP × EX × Nat × Nat) := []
theorem k424 : chk (mkD iX12_isIn fX12 lX12 kX12 kkX12 424 [] c424 true 3 u424) 4000 = true := by decide +kernel
theorem m424 {X0 : zC0} (H : ∀ j, j < 424 → CMj X0 j) : CMj X0 424 := by
  obtain ⟨l0, D0, cy0, ax0⟩ := X0
  intro mi c hc
  have e : conAt 424 = some (126, c424) := rfl
  rw [e] at hc
  obtain ⟨rfl, rfl⟩ := Prod.mk.inj (Option.some.inj hc)
  have e2 : mt 126 = (yX12_isIn, cX12_isIn, 3, (some .boolean)) := rfl
  rw [e2]
  have h := chk_ok (l0 := l0) (D0 := D0) (cy0 := cy0) (ax0 := ax0) (y := yX12_isIn) (cc := cX12_isIn) (ret := (some .boolean)) k424 (mk_ok jX12_isIn fX12_ok lX12_ok kX12_ok kkX12_ok H) ⟨_, rfl⟩ pnX12 (fun h => by cases h) (fun _ => rfl) rfl
  exact h

/-! X12_isIn (('n',), ('c', 0), ('c', 99)) -/
def u425 : List (Nat × TP × EX × Nat × Nat) := []
theorem k425 : chk (mkD iX12_isIn fX12 lX12 kX12 kkX12 425 [] c425 true 3 u425) 4000 = true := by decide +kernel
theorem m425 {X0 : zC0} (H : ∀ j, j < 425 → CMj X0 j) : CMj X0 425 := by
  obtain ⟨l0, D0, cy0, ax0⟩ := X0
  intro mi c hc
  have e : conAt 425 = some (126, c425) := rfl
  rw [e] at hc
  obtain ⟨rfl, rfl⟩ := Prod.mk.inj (Option.some.inj hc)
  have e2 : mt 126 = (yX12_isIn, cX12_isIn, 3, (some .boolean)) := rfl
  rw [e2]
  have h := chk_ok (l0 := l0) (D0 := D0) (cy0 := cy0) (ax0 := ax0) (y := yX12_isIn) (cc := cX12_isIn) (ret := (some .boolean)) k425 (mk_ok jX12_isIn fX12_ok lX12_ok kX12_ok kkX12_ok H) ⟨_, rfl⟩ pnX12 (fun h => by cases h) (fun _ => rfl) rfl
  exact h

/-! X12_isIn (('n',), ('c', 1), ('c', 99)) -/
def u426 : List (Nat × TP × EX × Nat × Nat) := []
theorem k426 : chk (mkD iX12_isIn fX12 lX12 kX12 kkX12 426 [] c426 true 3 u426) 4000 = true := by decide +kernel
theorem m426 {X0 : zC0} (H : ∀ j, j < 426 → CMj X0 j) : CMj X0 426 := by
  obtain ⟨l0, D0, cy0, ax0⟩ := X0
  intro mi c hc
  have e : conAt 426 = some (126, c426) := rfl
  rw [e] at hc
  obtain ⟨rfl, rfl⟩ := Prod.mk.inj (Option.some.inj hc)
  have e2 : mt 126 = (yX12_isIn, cX12_isIn, 3, (some .boolean)) := rfl
  rw [e2]
  have h := chk_ok (l0 := l0) (D0 := D0) (cy0 := cy0) (ax0 := ax0) (y := yX12_isIn) (cc := cX12_isIn) (ret := (some .boolean)) k426 (mk_ok jX12_isIn fX12_ok lX12_ok kX12_ok kkX12_ok H) ⟨_, rfl⟩ pnX12 (fun h => by cases h) (fun _ => rfl) rfl
  exact h
