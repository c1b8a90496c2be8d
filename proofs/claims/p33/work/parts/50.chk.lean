/-! J6_bitCount_0f7a4 (('n',),) -/
def u0 : List (Nat × TP × EX × Nat × Nat) := []
theorem k0 : chk (mkD iJ6_bitCount_0f7a4 fJ6 lJ6 kJ6 kkJ6 0 [] c0 false 1 u0) 4000 = true := by decide +kernel
theorem m0 {X0 : zC0} (H : ∀ j, j < 0 → CMj X0 j) : CMj X0 0 := by
  obtain ⟨l0, D0, cy0, ax0⟩ := X0
  intro mi c hc
  have e : conAt 0 = some (0, c0) := rfl
  rw [e] at hc
  obtain ⟨rfl, rfl⟩ := Prod.mk.inj (Option.some.inj hc)
  have e2 : mt 0 = (yJ6_bitCount_0f7a4, cJ6_bitCount_0f7a4, 1, (some .int)) := rfl
  rw [e2]
  have h := chk_ok (l0 := l0) (D0 := D0) (cy0 := cy0) (ax0 := ax0) (y := yJ6_bitCount_0f7a4) (cc := cJ6_bitCount_0f7a4) (ret := (some .int)) k0 (mk_ok jJ6_bitCount_0f7a4 fJ6_ok lJ6_ok kJ6_ok kkJ6_ok H) ⟨_, rfl⟩ pnJ6 nrI (fun h => by cases h)
  exact h

/-! X0_addField (('k', 41), ('n',), ('n',), ('n',)) -/
def u1 : List (Nat × TP × EX × Nat × Nat) := []
theorem k1 : chk (mkD iX0_addField fX0 lX0 kX0 kkX0 1 [] c1 false 4 u1) 4000 = true := by decide +kernel
theorem m1 {X0 : zC0} (H : ∀ j, j < 1 → CMj X0 j) : CMj X0 1 := by
  obtain ⟨l0, D0, cy0, ax0⟩ := X0
  intro mi c hc
  have e : conAt 1 = some (1, c1) := rfl
  rw [e] at hc
  obtain ⟨rfl, rfl⟩ := Prod.mk.inj (Option.some.inj hc)
  have e2 : mt 1 = (yX0_addField, cX0_addField, 4, (some .int)) := rfl
  rw [e2]
  have h := chk_ok (l0 := l0) (D0 := D0) (cy0 := cy0) (ax0 := ax0) (y := yX0_addField) (cc := cX0_addField) (ret := (some .int)) k1 (mk_ok jX0_addField fX0_ok lX0_ok kX0_ok kkX0_ok H) ⟨_, rfl⟩ pnX0 nrI (fun h => by cases h)
  exact h

/-! X0_addPerson (('k', 41), ('n',), ('n',), ('n',), ('n',)) -/
def u2 : List (Nat × TP × EX × Nat × Nat) := []
theorem k2 : chk (mkD iX0_addPerson fX0 lX0 kX0 kkX0 2 [] c2 false 5 u2) 4000 = true := by decide +kernel
theorem m2 {X0 : zC0} (H : ∀ j, j < 2 → CMj X0 j) : CMj X0 2 := by
  obtain ⟨l0, D0, cy0, ax0⟩ := X0
  intro mi c hc
  have e : conAt 2 = some (2, c2) := rfl
  rw [e] at hc
  obtain ⟨rfl, rfl⟩ := Prod.mk.inj (Option.some.inj hc)
  have e2 : mt 2 = (yX0_addPerson, cX0_addPerson, 5, (some .int)) := rfl
  rw [e2]
  have h := chk_ok (l0 := l0) (D0 := D0) (cy0 := cy0) (ax0 := ax0) (y := yX0_addPerson) (cc := cX0_addPerson) (ret := (some .int)) k2 (mk_ok jX0_addPerson fX0_ok lX0_ok kX0_ok kkX0_ok H) ⟨_, rfl⟩ pnX0 nrI (fun h => by cases h)
  exact h

/-! X0_addRoad (('k', 41), ('n',), ('n',)) -/
def u3 : List (Nat × TP × EX × Nat × Nat) := []
theorem k3 : chk (mkD iX0_addRoad fX0 lX0 kX0 kkX0 3 [] c3 false 3 u3) 4000 = true := by decide +kernel
theorem m3 {X0 : zC0} (H : ∀ j, j < 3 → CMj X0 j) : CMj X0 3 := by
  obtain ⟨l0, D0, cy0, ax0⟩ := X0
  intro mi c hc
  have e : conAt 3 = some (3, c3) := rfl
  rw [e] at hc
  obtain ⟨rfl, rfl⟩ := Prod.mk.inj (Option.some.inj hc)
  have e2 : mt 3 = (yX0_addRoad, cX0_addRoad, 3, none) := rfl
  rw [e2]
  have h := chk_ok (l0 := l0) (D0 := D0) (cy0 := cy0) (ax0 := ax0) (y := yX0_addRoad) (cc := cX0_addRoad) (ret := none) k3 (mk_ok jX0_addRoad fX0_ok lX0_ok kX0_ok kkX0_ok H) rfl pnX0 nrV (fun h => by cases h)
  exact h

/-! X0_copyFrom (('k', 41), ('k', 81)) -/
def u4 : List (Nat × TP × EX × Nat × Nat) := []
theorem k4 : chk (mkD iX0_copyFrom fX0 lX0 kX0 kkX0 4 [] c4 false 2 u4) 4000 = true := by decide +kernel
theorem m4 {X0 : zC0} (H : ∀ j, j < 4 → CMj X0 j) : CMj X0 4 := by
  obtain ⟨l0, D0, cy0, ax0⟩ := X0
  intro mi c hc
  have e : conAt 4 = some (4, c4) := rfl
  rw [e] at hc
  obtain ⟨rfl, rfl⟩ := Prod.mk.inj (Option.some.inj hc)
  have e2 : mt 4 = (yX0_copyFrom, cX0_copyFrom, 2, none) := rfl
  rw [e2]
  have h := chk_ok (l0 := l0) (D0 := D0) (cy0 := cy0) (ax0 := ax0) (y := yX0_copyFrom) (cc := cX0_copyFrom) (ret := none) k4 (mk_ok jX0_copyFrom fX0_ok lX0_ok kX0_ok kkX0_ok H) rfl pnX0 nrV (fun h => by cases h)
  exact h

/-! X0_copyFrom (('k', 81), ('k', 41)) -/
def u5 : List (Nat × TP × EX × Nat × Nat) := []
theorem k5 : chk (mkD iX0_copyFrom fX0 lX0 kX0 kkX0 5 [] c5 false 2 u5) 4000 = true := by decide +kernel
theorem m5 {X0 : zC0} (H : ∀ j, j < 5 → CMj X0 j) : CMj X0 5 := by
  obtain ⟨l0, D0, cy0, ax0⟩ := X0
  intro mi c hc
  have e : conAt 5 = some (4, c5) := rfl
  rw [e] at hc
  obtain ⟨rfl, rfl⟩ := Prod.mk.inj (Option.some.inj hc)
  have e2 : mt 4 = (yX0_copyFrom, cX0_copyFrom, 2, none) := rfl
  rw [e2]
  have h := chk_ok (l0 := l0) (D0 := D0) (cy0 := cy0) (ax0 := ax0) (y := yX0_copyFrom) (cc := cX0_copyFrom) (ret := none) k5 (mk_ok jX0_copyFrom fX0_ok lX0_ok kX0_ok kkX0_ok H) rfl pnX0 nrV (fun h => by cases h)
  exact h

/-! X0_hasField (('k', 41), ('n',)) -/
def u6 : List (Nat × TP × EX × Nat × Nat) := []
theorem k6 : chk (mkD iX0_hasField fX0 lX0 kX0 kkX0 6 [] c6 true 2 u6) 4000 = true := by decide +kernel
theorem m6 {X0 : zC0} (H : ∀ j, j < 6 → CMj X0 j) : CMj X0 6 := by
  obtain ⟨l0, D0, cy0, ax0⟩ := X0
  intro mi c hc
  have e : conAt 6 = some (5, c6) := rfl
  rw [e] at hc
  obtain ⟨rfl, rfl⟩ := Prod.mk.inj (Option.some.inj hc)
  have e2 : mt 5 = (yX0_hasField, cX0_hasField, 2, (some .boolean)) := rfl
  rw [e2]
  have h := chk_ok (l0 := l0) (D0 := D0) (cy0 := cy0) (ax0 := ax0) (y := yX0_hasField) (cc := cX0_hasField) (ret := (some .boolean)) k6 (mk_ok jX0_hasField fX0_ok lX0_ok kX0_ok kkX0_ok H) ⟨_, rfl⟩ pnX0 (fun h => by cases h) (fun _ => rfl)
  exact h

/-! X0_hasPerson (('k', 41), ('n',)) -/
def u7 : List (Nat × TP × EX × Nat × Nat) := []
theorem k7 : chk (mkD iX0_hasPerson fX0 lX0 kX0 kkX0 7 [] c7 true 2 u7) 4000 = true := by decide +kernel
theorem m7 {X0 : zC0} (H : ∀ j, j < 7 → CMj X0 j) : CMj X0 7 := by
  obtain ⟨l0, D0, cy0, ax0⟩ := X0
  intro mi c hc
  have e : conAt 7 = some (6, c7) := rfl
  rw [e] at hc
  obtain ⟨rfl, rfl⟩ := Prod.mk.inj (Option.some.inj hc)
  have e2 : mt 6 = (yX0_hasPerson, cX0_hasPerson, 2, (some .boolean)) := rfl
  rw [e2]
  have h := chk_ok (l0 := l0) (D0 := D0) (cy0 := cy0) (ax0 := ax0) (y := yX0_hasPerson) (cc := cX0_hasPerson) (ret := (some .boolean)) k7 (mk_ok jX0_hasPerson fX0_ok lX0_ok kX0_ok kkX0_ok H) ⟨_, rfl⟩ pnX0 (fun h => by cases h) (fun _ => rfl)
  exact h

/-! X0_hasRoad (('k', 41), ('n',), ('n',)) -/
def u8 : List (Nat × TP × EX × Nat × Nat) := []
theorem k8 : chk (mkD iX0_hasRoad fX0 lX0 kX0 kkX0 8 [] c8 true 3 u8) 4000 = true := by decide +kernel
theorem m8 {X0 : zC0} (H : ∀ j, j < 8 → CMj X0 j) : CMj X0 8 := by
  obtain ⟨l0, D0, cy0, ax0⟩ := X0
  intro mi c hc
  have e : conAt 8 = some (7, c8) := rfl
  rw [e] at hc
  obtain ⟨rfl, rfl⟩ := Prod.mk.inj (Option.some.inj hc)
  have e2 : mt 7 = (yX0_hasRoad, cX0_hasRoad, 3, (some .boolean)) := rfl
  rw [e2]
  have h := chk_ok (l0 := l0) (D0 := D0) (cy0 := cy0) (ax0 := ax0) (y := yX0_hasRoad) (cc := cX0_hasRoad) (ret := (some .boolean)) k8 (mk_ok jX0_hasRoad fX0_ok lX0_ok kX0_ok kkX0_ok H) ⟨_, rfl⟩ pnX0 (fun h => by cases h) (fun _ => rfl)
  exact h

/-! X10_copyFrom (('k', 1), ('k', 10)) -/
def u9 : List (Nat × TP × EX × Nat × Nat) := []
theorem k9 : chk (mkD iX10_copyFrom fX10 lX10 kX10 kkX10 9 [] c9 false 2 u9) 4000 = true := by decide +kernel
theorem m9 {X0 : zC0} (H : ∀ j, j < 9 → CMj X0 j) : CMj X0 9 := by
  obtain ⟨l0, D0, cy0, ax0⟩ := X0
  intro mi c hc
  have e : conAt 9 = some (8, c9) := rfl
  rw [e] at hc
  obtain ⟨rfl, rfl⟩ := Prod.mk.inj (Option.some.inj hc)
  have e2 : mt 8 = (yX10_copyFrom, cX10_copyFrom, 2, none) := rfl
  rw [e2]
  have h := chk_ok (l0 := l0) (D0 := D0) (cy0 := cy0) (ax0 := ax0) (y := yX10_copyFrom) (cc := cX10_copyFrom) (ret := none) k9 (mk_ok jX10_copyFrom fX10_ok lX10_ok kX10_ok kkX10_ok H) rfl pnX10 nrV (fun h => by cases h)
  exact h

/-! X10_copyFrom (('k', 1), ('k', 50)) -/
def u10 : List (Nat × TP × EX × Nat × Nat) := []
theorem k10 : chk (mkD iX10_copyFrom fX10 lX10 kX10 kkX10 10 [] c10 false 2 u10) 4000 = true := by decide +kernel
theorem m10 {X0 : zC0} (H : ∀ j, j < 10 → CMj X0 j) : CMj X0 10 := by
  obtain ⟨l0, D0, cy0, ax0⟩ := X0
  intro mi c hc
  have e : conAt 10 = some (8, c10) := rfl
  rw [e] at hc
  obtain ⟨rfl, rfl⟩ := Prod.mk.inj (Option.some.inj hc)
  have e2 : mt 8 = (yX10_copyFrom, cX10_copyFrom, 2, none) := rfl
  rw [e2]
  have h := chk_ok (l0 := l0) (D0 := D0) (cy0 := cy0) (ax0 := ax0) (y := yX10_copyFrom) (cc := cX10_copyFrom) (ret := none) k10 (mk_ok jX10_copyFrom fX10_ok lX10_ok kX10_ok kkX10_ok H) rfl pnX10 nrV (fun h => by cases h)
  exact h

/-! X10_copyFrom (('k', 10), ('k', 1)) -/
def u11 : List (Nat × TP × EX × Nat × Nat) := []
theorem k11 : chk (mkD iX10_copyFrom fX10 lX10 kX10 kkX10 11 [] c11 false 2 u11) 4000 = true := by decide +kernel
theorem m11 {X0 : zC0} (H : ∀ j, j < 11 → CMj X0 j) : CMj X0 11 := by
  obtain ⟨l0, D0, cy0, ax0⟩ := X0
  intro mi c hc
  have e : conAt 11 = some (8, c11) := rfl
  rw [e] at hc
  obtain ⟨rfl, rfl⟩ := Prod.mk.inj (Option.some.inj hc)
  have e2 : mt 8 = (yX10_copyFrom, cX10_copyFrom, 2, none) := rfl
  rw [e2]
  have h := chk_ok (l0 := l0) (D0 := D0) (cy0 := cy0) (ax0 := ax0) (y := yX10_copyFrom) (cc := cX10_copyFrom) (ret := none) k11 (mk_ok jX10_copyFrom fX10_ok lX10_ok kX10_ok kkX10_ok H) rfl pnX10 nrV (fun h => by cases h)
  exact h
