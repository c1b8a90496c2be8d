/-! J6_bitCount_0f7a4 (('n',),) -/
def u0 : List (Nat × TP × EX × Nat × Nat) := []
theorem k0 : chk (mkD iJ6_bitCount_0f7a4 fJ6 lJ6 kJ6 kkJ6 0 [] c0 false 1 u0) 4000 = true := by decide +kernel
theorem m0 {X0 : zC0} (H : ∀ j, j < 0 → CMj X0 j) : CMj X0 0 := by
  obtain ⟨l0, D0, cy0, ax0⟩ := X0
  intro mi c hc
  have e : conAt 0 = some (0, c0) := rfl
  rw [e] at hc
  obtain ⟨rfl, rfl⟩ := Prod.mk.inj (Option.some.inj hc)
  have e2 : mt 0 = (yJ6_bitCount_0f7a4, cJ6_bitCount_0f7a4, 1, (some .int)) := rfl
  rw [e2]
  have h := chk_ok (l0 := l0) (D0 := D0) (cy0 := cy0) (ax0 := ax0) (y := yJ6_bitCount_0f7a4) (cc := cJ6_bitCount_0f7a4) (ret := (some .int)) k0 (mk_ok jJ6_bitCount_0f7a4 fJ6_ok lJ6_ok kJ6_ok kkJ6_ok H) ⟨_, rfl⟩ pnJ6 nrI (fun h => by cases h) rfl
  exact h

/-! X0_addField (('k', 41), ('n',), ('n',), ('n',)) -/
def u1 : List (Nat × TP × EX × Nat × Nat) := []
theorem k1 : chk (mkD iX0_addField fX0 lX0 kX0 kkX0 1 [] c1 false 4 u1) 4000 = true := by decide +kernel
theorem m1 {X0 : zC0} (H : ∀ j, j < 1 → CMj X0 j) : CMj X0 1 := by
  obtain ⟨l0, D0, cy0, ax0⟩ := X0
  intro mi c hc
  have e : conAt 1 = some (1, c1) := rfl
  rw [e] at hc
  obtain ⟨rfl, rfl⟩ := Prod.mk.inj (Option.some.inj hc)
  have e2 : mt 1 = (yX0_addField, cX0_addField, 4, (some .int)) := rfl
  rw [e2]
  have h := chk_ok (l0 := l0) (D0 := D0) (cy0 := cy0) (ax0 := ax0) (y := yX0_addField) (cc := cX0_addField) (ret := (some .int)) k1 (mk_ok jX0_addField fX0_ok lX0_ok kX0_ok kkX0_ok H) ⟨_, rfl⟩ pnX0 nrI (fun h => by cases h) rfl
  exact h

/-! X0_addPerson (('k', 41), ('n',), ('n',), ('n',), ('n',)) -/
def u2 : List (Nat × TP × EX × Nat × Nat) := []
theorem k2 : chk (mkD iX0_addPerson fX0 lX0 kX0 kkX0 2 [] c2 false 5 u2) 4000 = true := by decide +kernel
theorem m2 {X0 : zC0} (H : ∀ j, j < 2 → CMj X0 j) : CMj X0 2 := by
  obtain ⟨l0, D0, cy0, ax0⟩ := X0
  intro mi c hc
  have e : conAt 2 = some (2, c2) := rfl
  rw [e] at hc
  obtain ⟨rfl, rfl⟩ := Prod.mk.inj (Option.some.inj hc)
  have e2 : mt 2 = (yX0_addPerson, cX0_addPerson, 5, (some .int)) := rfl
  rw [e2]
  have h := chk_ok (l0 := l0) (D0 := D0) (cy0 := cy0) (ax0 := ax0) (y := yX0_addPerson) (cc := cX0_addPerson) (ret := (some .int)) k2 (mk_ok jX0_addPerson fX0_ok lX0_ok kX0_ok kkX0_ok H) ⟨_, rfl⟩ pnX0 nrI (fun h => by cases h) rfl
  exact h

/-! X0_addRoad (('k', 41), ('n',), ('n',)) -/
def u3 : List (Nat × TP × EX × Nat × Nat) := []
theorem k3 : chk (mkD iX0_addRoad fX0 lX0 kX0 kkX0 3 [] c3 false 3 u3) 4000 = true := by decide +kernel
theorem m3 {X0 : zC0} (H : ∀ j, j < 3 → CMj X0 j) : CMj X0 3 := by
  obtain ⟨l0, D0, cy0, ax0⟩ := X0
  intro mi c hc
  have e : conAt 3 = some (3, c3) := rfl
  rw [e] at hc
  obtain ⟨rfl, rfl⟩ := Prod.mk.inj (Option.some.inj hc)
  have e2 : mt 3 = (yX0_addRoad, cX0_addRoad, 3, none) := rfl
  rw [e2]
  have h := chk_ok (l0 := l0) (D0 := D0) (cy0 := cy0) (ax0 := ax0) (y := yX0_addRoad) (cc := cX0_addRoad) (ret := none) k3 (mk_ok jX0_addRoad fX0_ok lX0_ok kX0_ok kkX0_ok H) rfl pnX0 nrV (fun h => by cases h) rfl
  exact h

/-! X0_copyFrom (('k', 41), ('k', 81)) -/
def u4 : List (Nat × TP × EX × Nat × Nat) := []
theorem k4 : chk (mkD iX0_copyFrom fX0 lX0 kX0 kkX0 4 [] c4 false 2 u4) 4000 = true := by decide +kernel
theorem m4 {X0 : zC0} (H : ∀ j, j < 4 → CMj X0 j) : CMj X0 4 := by
  obtain ⟨l0, D0, cy0, ax0⟩ := X0
  intro mi c hc
  have e : conAt 4 = some (4, c4) := rfl
  rw [e] at hc
  obtain ⟨rfl, rfl⟩ := Prod.mk.inj (Option.some.inj hc)
  have e2 : mt 4 = (yX0_copyFrom, cX0_copyFrom, 2, none) := rfl
  rw [e2]
  have h := chk_ok (l0 := l0) (D0 := D0) (cy0 := cy0) (ax0 := ax0) (y := yX0_copyFrom) (cc := cX0_copyFrom) (ret := none) k4 (mk_ok jX0_copyFrom fX0_ok lX0_ok kX0_ok kkX0_ok H) rfl pnX0 nrV (fun h => by cases h) rfl
  exact h

/-! X0_copyFrom (('k', 81), ('k', 41)) -/
def u5 : List (Nat × TP × EX × Nat × Nat) := []
theorem k5 : chk (mkD iX0_copyFrom fX0 lX0 kX0 kkX0 5 [] c5 false 2 u5) 4000 = true := by decide +kernel
theorem m5 {X0 : zC0} (H : ∀ j, j < 5 → CMj X0 j) : CMj X0 5 := by
  obtain ⟨l0, D0, cy0, ax0⟩ := X0
  intro mi c hc
  have e : conAt 5 = some (4, c5) := rfl
  rw [e] at hc
  obtain ⟨rfl, rfl⟩ := Prod.mk.inj (Option.some.inj hc)
  have e2 : mt 4 = (yX0_copyFrom, cX0_copyFrom, 2, none) := rfl
  rw [e2]
  have h := chk_ok (l0 := l0) (D0 := D0) (cy0 := cy0) (ax0 := ax0) (y := yX0_copyFrom) (cc := cX0_copyFrom) (ret := none) k5 (mk_ok jX0_copyFrom fX0_ok lX0_ok kX0_ok kkX0_ok H) rfl pnX0 nrV (fun h => by cases h) rfl
  exact h

/-! X0_hasField (('k', 41), ('n',)) -/
def u6 : List (Nat × TP × EX × Nat × Nat) := []
theorem k6 : chk (mkD iX0_hasField fX0 lX0 kX0 kkX0 6 [] c6 true 2 u6) 4000 = true := by decide +kernel
theorem m6 {X0 : zC0} (H : ∀ j, j < 6 → CMj X0 j) : CMj X0 6 := by
  obtain ⟨l0, D0, cy0, ax0⟩ := X0
  intro mi c hc
  have e : conAt 6 = some (5, c6) := rfl
  rw [e] at hc
  obtain ⟨rfl, rfl⟩ := Prod.mk.inj (Option.some.inj hc)
  have e2 : mt 5 = (yX0_hasField, cX0_hasField, 2, (some .boolean)) := rfl
  rw [e2]
  have h := chk_ok (l0 := l0) (D0 := D0) (cy0 := cy0) (ax0 := ax0) (y := yX0_hasField) (cc := cX0_hasField) (ret := (some .boolean)) k6 (mk_ok jX0_hasField fX0_ok lX0_ok kX0_ok kkX0_ok H) ⟨_, rfl⟩ pnX0 (fun h => by cases h) (fun _ => rfl) rfl
  exact h

/-! X0_hasPerson (('k', 41), ('n',)) -/
def u7 : List (Nat × TP × EX × Nat × Nat) := []
theorem k7 : chk (mkD iX0_hasPerson fX0 lX0 kX0 kkX0 7 [] c7 true 2 u7) 4000 = true := by decide +kernel
theorem m7 {X0 : zC0} (H : ∀ j, j < 7 → CMj X0 j) : CMj X0 7 := by
  obtain ⟨l0, D0, cy0, ax0⟩ := X0
  intro mi c hc
  have e : conAt 7 = some (6, c7) := rfl
  rw [e] at hc
  obtain ⟨rfl, rfl⟩ := Prod.mk.inj (Option.some.inj hc)
  have e2 : mt 6 = (yX0_hasPerson, cX0_hasPerson, 2, (some .boolean)) := rfl
  rw [e2]
  have h := chk_ok (l0 := l0) (D0 := D0) (cy0 := cy0) (ax0 := ax0) (y := yX0_hasPerson) (cc := cX0_hasPerson) (ret := (some .boolean)) k7 (mk_ok jX0_hasPerson fX0_ok lX0_ok kX0_ok kkX0_ok H) ⟨_, rfl⟩ pnX0 (fun h => by cases h) (fun _ => rfl) rfl
  exact h

/-! X0_hasRoad (('k', 41), ('n',), ('n',)) -/
def u8 : List (Nat × TP × EX × Nat × Nat) := []
theorem k8 : chk (mkD iX0_hasRoad fX0 lX0 kX0 kkX0 8 [] c8 true 3 u8) 4000 = true := by decide +kernel
theorem m8 {X0 : zC0} (H : ∀ j, j < 8 → CMj X0 j) : CMj X0 8 := by
  obtain ⟨l0, D0, cy0, ax0⟩ := X0
  intro mi c hc
  have e : conAt 8 = some (7, c8) := rfl
  rw [e] at hc
  obtain ⟨rfl, rfl⟩ := Prod.mk.inj (Option.some.inj hc)
  have e2 : mt 7 = (yX0_hasRoad, cX0_hasRoad, 3, (some .boolean)) := rfl
  rw [e2]
  have h := chk_ok (l0 := l0) (D0 := D0) (cy0 := cy0) (ax0 := ax0) (y := yX0_hasRoad) (cc := cX0_hasRoad) (ret := (some .boolean)) k8 (mk_ok jX0_hasRoad fX0_ok lX0_ok kX0_ok kkX0_ok H) ⟨_, rfl⟩ pnX0 (fun h => by cases h) (fun _ => rfl) rfl
  exact h

/-! X10_copyFrom (('k', 1), ('k', 10)) -/
def u9 : List (Nat × TP × EX × Nat × Nat) := []
theorem k9 : chk (mkD iX10_copyFrom fX10 lX10 kX10 kkX10 9 [] c9 false 2 u9) 4000 = true := by decide +kernel
theorem m9 {X0 : zC0} (H : ∀ j, j < 9 → CMj X0 j) : CMj X0 9 := by
  obtain ⟨l0, D0, cy0, ax0⟩ := X0
  intro mi c hc
  have e : conAt 9 = some (8, c9) := rfl
  rw [e] at hc
  obtain ⟨rfl, rfl⟩ := Prod.mk.inj (Option.some.inj hc)
  have e2 : mt 8 = (yX10_copyFrom, cX10_copyFrom, 2, none) := rfl
  rw [e2]
  have h := chk_ok (l0 := l0) (D0 := D0) (cy0 := cy0) (ax0 := ax0) (y := yX10_copyFrom) (cc := cX10_copyFrom) (ret := none) k9 (mk_ok jX10_copyFrom fX10_ok lX10_ok kX10_ok kkX10_ok H) rfl pnX10 nrV (fun h => by cases h) rfl
  exact h

/-! X10_copyFrom (('k', 1), ('k', 50)) -/
def u10 : List (Nat × TP × EX × Nat × Nat) := []
theorem k10 : chk (mkD iX10_copyFrom fX10 lX10 kX10 kkX10 10 [] c10 false 2 u10) 4000 = true := by decide +kernel
theorem m10 {X0 : zC0} (H : ∀ j, j < 10 → CMj X0 j) : CMj X0 10 := by
  obtain ⟨l0, D0, cy0, ax0⟩ := X0
  intro mi c hc
  have e : conAt 10 = some (8, c10) := rfl
  rw [e] at hc
  obtain ⟨rfl, rfl⟩ := Prod.mk.inj (Option.some.inj hc)
  have e2 : mt 8 = (yX10_copyFrom, cX10_copyFrom, 2, none) := rfl
  rw [e2]
  have h := chk_ok (l0 := l0) (D0 := D0) (cy0 := cy0) (ax0 := ax0) (y := yX10_copyFrom) (cc := cX10_copyFrom) (ret := none) k10 (mk_ok jX10_copyFrom fX10_ok lX10_ok kX10_ok kkX10_ok H) rfl pnX10 nrV (fun h => by cases h) rfl
  exact h

/-! X10_copyFrom (('k', 10), ('k', 1)) -/
def u11 : List (Nat × TP × EX × Nat × Nat) := []
theorem k11 : chk (mkD iX10_copyFrom fX10 lX10 kX10 kkX10 11 [] c11 false 2 u11) 4000 = true := by decide +kernel
theorem m11 {X0 : zC0} (H : ∀ j, j < 11 → CMj X0 j) : CMj X0 11 := by
  obtain ⟨l0, D0, cy0, ax0⟩ := X0
  intro mi c hc
  have e : conAt 11 = some (8, c11) := rfl
  rw [e] at hc
  obtain ⟨rfl, rfl⟩ := Prod.mk.inj (Option.some.inj hc)
  have e2 : mt 8 = (yX10_copyFrom, cX10_copyFrom, 2, none) := rfl
  rw [e2]
  have h := chk_ok (l0 := l0) (D0 := D0) (cy0 := cy0) (ax0 := ax0) (y := yX10_copyFrom) (cc := cX10_copyFrom) (ret := none) k11 (mk_ok jX10_copyFrom fX10_ok lX10_ok kX10_ok kkX10_ok H) rfl pnX10 nrV (fun h => by cases h) rfl
  exact h

/-! X10_copyFrom (('k', 140), ('k', 50)) -/
def u12 : List (Nat × TP × EX × Nat × Nat) := []
theorem k12 : chk (mkD iX10_copyFrom fX10 lX10 kX10 kkX10 12 [] c12 false 2 u12) 4000 = true := by decide +kernel
theorem m12 {X0 : zC0} (H : ∀ j, j < 12 → CMj X0 j) : CMj X0 12 := by
  obtain ⟨l0, D0, cy0, ax0⟩ := X0
  intro mi c hc
  have e : conAt 12 = some (8, c12) := rfl
  rw [e] at hc
  obtain ⟨rfl, rfl⟩ := Prod.mk.inj (Option.some.inj hc)
  have e2 : mt 8 = (yX10_copyFrom, cX10_copyFrom, 2, none) := rfl
  rw [e2]
  have h := chk_ok (l0 := l0) (D0 := D0) (cy0 := cy0) (ax0 := ax0) (y := yX10_copyFrom) (cc := cX10_copyFrom) (ret := none) k12 (mk_ok jX10_copyFrom fX10_ok lX10_ok kX10_ok kkX10_ok H) rfl pnX10 nrV (fun h => by cases h) rfl
  exact h

/-! X10_copyFrom (('k', 149), ('k', 140)) -/
def u13 : List (Nat × TP × EX × Nat × Nat) := []
theorem k13 : chk (mkD iX10_copyFrom fX10 lX10 kX10 kkX10 13 [] c13 false 2 u13) 4000 = true := by decide +kernel
theorem m13 {X0 : zC0} (H : ∀ j, j < 13 → CMj X0 j) : CMj X0 13 := by
  obtain ⟨l0, D0, cy0, ax0⟩ := X0
  intro mi c hc
  have e : conAt 13 = some (8, c13) := rfl
  rw [e] at hc
  obtain ⟨rfl, rfl⟩ := Prod.mk.inj (Option.some.inj hc)
  have e2 : mt 8 = (yX10_copyFrom, cX10_copyFrom, 2, none) := rfl
  rw [e2]
  have h := chk_ok (l0 := l0) (D0 := D0) (cy0 := cy0) (ax0 := ax0) (y := yX10_copyFrom) (cc := cX10_copyFrom) (ret := none) k13 (mk_ok jX10_copyFrom fX10_ok lX10_ok kX10_ok kkX10_ok H) rfl pnX10 nrV (fun h => by cases h) rfl
  exact h

/-! X10_copyFrom (('k', 158), ('k', 149)) -/
def u14 : List (Nat × TP × EX × Nat × Nat) := []
theorem k14 : chk (mkD iX10_copyFrom fX10 lX10 kX10 kkX10 14 [] c14 false 2 u14) 4000 = true := by decide +kernel
theorem m14 {X0 : zC0} (H : ∀ j, j < 14 → CMj X0 j) : CMj X0 14 := by
  obtain ⟨l0, D0, cy0, ax0⟩ := X0
  intro mi c hc
  have e : conAt 14 = some (8, c14) := rfl
  rw [e] at hc
  obtain ⟨rfl, rfl⟩ := Prod.mk.inj (Option.some.inj hc)
  have e2 : mt 8 = (yX10_copyFrom, cX10_copyFrom, 2, none) := rfl
  rw [e2]
  have h := chk_ok (l0 := l0) (D0 := D0) (cy0 := cy0) (ax0 := ax0) (y := yX10_copyFrom) (cc := cX10_copyFrom) (ret := none) k14 (mk_ok jX10_copyFrom fX10_ok lX10_ok kX10_ok kkX10_ok H) rfl pnX10 nrV (fun h => by cases h) rfl
  exact h

/-! X10_copyFrom (('k', 167), ('k', 158)) -/
def u15 : List (Nat × TP × EX × Nat × Nat) := []
theorem k15 : chk (mkD iX10_copyFrom fX10 lX10 kX10 kkX10 15 [] c15 false 2 u15) 4000 = true := by decide +kernel
theorem m15 {X0 : zC0} (H : ∀ j, j < 15 → CMj X0 j) : CMj X0 15 := by
  obtain ⟨l0, D0, cy0, ax0⟩ := X0
  intro mi c hc
  have e : conAt 15 = some (8, c15) := rfl
  rw [e] at hc
  obtain ⟨rfl, rfl⟩ := Prod.mk.inj (Option.some.inj hc)
  have e2 : mt 8 = (yX10_copyFrom, cX10_copyFrom, 2, none) := rfl
  rw [e2]
  have h := chk_ok (l0 := l0) (D0 := D0) (cy0 := cy0) (ax0 := ax0) (y := yX10_copyFrom) (cc := cX10_copyFrom) (ret := none) k15 (mk_ok jX10_copyFrom fX10_ok lX10_ok kX10_ok kkX10_ok H) rfl pnX10 nrV (fun h => by cases h) rfl
  exact h

/-! X10_copyFrom (('k', 176), ('k', 167)) -/
def u16 : List (Nat × TP × EX × Nat × Nat) := []
theorem k16 : chk (mkD iX10_copyFrom fX10 lX10 kX10 kkX10 16 [] c16 false 2 u16) 4000 = true := by decide +kernel
theorem m16 {X0 : zC0} (H : ∀ j, j < 16 → CMj X0 j) : CMj X0 16 := by
  obtain ⟨l0, D0, cy0, ax0⟩ := X0
  intro mi c hc
  have e : conAt 16 = some (8, c16) := rfl
  rw [e] at hc
  obtain ⟨rfl, rfl⟩ := Prod.mk.inj (Option.some.inj hc)
  have e2 : mt 8 = (yX10_copyFrom, cX10_copyFrom, 2, none) := rfl
  rw [e2]
  have h := chk_ok (l0 := l0) (D0 := D0) (cy0 := cy0) (ax0 := ax0) (y := yX10_copyFrom) (cc := cX10_copyFrom) (ret := none) k16 (mk_ok jX10_copyFrom fX10_ok lX10_ok kX10_ok kkX10_ok H) rfl pnX10 nrV (fun h => by cases h) rfl
  exact h

/-! X10_copyFrom (('k', 185), ('k', 176)) -/
def u17 : List (Nat × TP × EX × Nat × Nat) := []
theorem k17 : chk (mkD iX10_copyFrom fX10 lX10 kX10 kkX10 17 [] c17 false 2 u17) 4000 = true := by decide +kernel
theorem m17 {X0 : zC0} (H : ∀ j, j < 17 → CMj X0 j) : CMj X0 17 := by
  obtain ⟨l0, D0, cy0, ax0⟩ := X0
  intro mi c hc
  have e : conAt 17 = some (8, c17) := rfl
  rw [e] at hc
  obtain ⟨rfl, rfl⟩ := Prod.mk.inj (Option.some.inj hc)
  have e2 : mt 8 = (yX10_copyFrom, cX10_copyFrom, 2, none) := rfl
  rw [e2]
  have h := chk_ok (l0 := l0) (D0 := D0) (cy0 := cy0) (ax0 := ax0) (y := yX10_copyFrom) (cc := cX10_copyFrom) (ret := none) k17 (mk_ok jX10_copyFrom fX10_ok lX10_ok kX10_ok kkX10_ok H) rfl pnX10 nrV (fun h => by cases h) rfl
  exact h

/-! X10_copyFrom (('k', 50), ('k', 1)) -/
def u18 : List (Nat × TP × EX × Nat × Nat) := []
theorem k18 : chk (mkD iX10_copyFrom fX10 lX10 kX10 kkX10 18 [] c18 false 2 u18) 4000 = true := by decide +kernel
theorem m18 {X0 : zC0} (H : ∀ j, j < 18 → CMj X0 j) : CMj X0 18 := by
  obtain ⟨l0, D0, cy0, ax0⟩ := X0
  intro mi c hc
  have e : conAt 18 = some (8, c18) := rfl
  rw [e] at hc
  obtain ⟨rfl, rfl⟩ := Prod.mk.inj (Option.some.inj hc)
  have e2 : mt 8 = (yX10_copyFrom, cX10_copyFrom, 2, none) := rfl
  rw [e2]
  have h := chk_ok (l0 := l0) (D0 := D0) (cy0 := cy0) (ax0 := ax0) (y := yX10_copyFrom) (cc := cX10_copyFrom) (ret := none) k18 (mk_ok jX10_copyFrom fX10_ok lX10_ok kX10_ok kkX10_ok H) rfl pnX10 nrV (fun h => by cases h) rfl
  exact h

/-! X10_copyFrom (('k', 50), ('k', 90)) -/
def u19 : List (Nat × TP × EX × Nat × Nat) := []
theorem k19 : chk (mkD iX10_copyFrom fX10 lX10 kX10 kkX10 19 [] c19 false 2 u19) 4000 = true := by decide +kernel
theorem m19 {X0 : zC0} (H : ∀ j, j < 19 → CMj X0 j) : CMj X0 19 := by
  obtain ⟨l0, D0, cy0, ax0⟩ := X0
  intro mi c hc
  have e : conAt 19 = some (8, c19) := rfl
  rw [e] at hc
  obtain ⟨rfl, rfl⟩ := Prod.mk.inj (Option.some.inj hc)
  have e2 : mt 8 = (yX10_copyFrom, cX10_copyFrom, 2, none) := rfl
  rw [e2]
  have h := chk_ok (l0 := l0) (D0 := D0) (cy0 := cy0) (ax0 := ax0) (y := yX10_copyFrom) (cc := cX10_copyFrom) (ret := none) k19 (mk_ok jX10_copyFrom fX10_ok lX10_ok kX10_ok kkX10_ok H) rfl pnX10 nrV (fun h => by cases h) rfl
  exact h

/-! X10_copyFrom (('k', 90), ('k', 50)) -/
def u20 : List (Nat × TP × EX × Nat × Nat) := []
theorem k20 : chk (mkD iX10_copyFrom fX10 lX10 kX10 kkX10 20 [] c20 false 2 u20) 4000 = true := by decide +kernel
theorem m20 {X0 : zC0} (H : ∀ j, j < 20 → CMj X0 j) : CMj X0 20 := by
  obtain ⟨l0, D0, cy0, ax0⟩ := X0
  intro mi c hc
  have e : conAt 20 = some (8, c20) := rfl
  rw [e] at hc
  obtain ⟨rfl, rfl⟩ := Prod.mk.inj (Option.some.inj hc)
  have e2 : mt 8 = (yX10_copyFrom, cX10_copyFrom, 2, none) := rfl
  rw [e2]
  have h := chk_ok (l0 := l0) (D0 := D0) (cy0 := cy0) (ax0 := ax0) (y := yX10_copyFrom) (cc := cX10_copyFrom) (ret := none) k20 (mk_ok jX10_copyFrom fX10_ok lX10_ok kX10_ok kkX10_ok H) rfl pnX10 nrV (fun h => by cases h) rfl
  exact h

/-! X10_drawAnew (('k', 50),) -/
def u21 : List (Nat × TP × EX × Nat × Nat) := []
theorem k21 : chk (mkD iX10_drawAnew fX10 lX10 kX10 kkX10 21 [] c21 false 1 u21) 4000 = true := by decide +kernel
theorem m21 {X0 : zC0} (H : ∀ j, j < 21 → CMj X0 j) : CMj X0 21 := by
  obtain ⟨l0, D0, cy0, ax0⟩ := X0
  intro mi c hc
  have e : conAt 21 = some (9, c21) := rfl
  rw [e] at hc
  obtain ⟨rfl, rfl⟩ := Prod.mk.inj (Option.some.inj hc)
  have e2 : mt 9 = (yX10_drawAnew, cX10_drawAnew, 1, none) := rfl
  rw [e2]
  have h := chk_ok (l0 := l0) (D0 := D0) (cy0 := cy0) (ax0 := ax0) (y := yX10_drawAnew) (cc := cX10_drawAnew) (ret := none) k21 (mk_ok jX10_drawAnew fX10_ok lX10_ok kX10_ok kkX10_ok H) rfl pnX10 nrV (fun h => by cases h) rfl
  exact h

/-! X10_peopleOn (('k', 50), ('n',), ('n',)) -/
def u22 : List (Nat × TP × EX × Nat × Nat) := [(5, ([(0, (2, 0, (0, []))), (1, (0, 0, (0, [(1, 0)]))), (2, (0, 0, (0, [(1, 1)]))), (3, (0, 0, (0, [(1, 2)]))), (4, (0, 0, (0, [(1, 3)])))], [], ([(0, 5), (0, 8), (0, 255), (0, 8)], [(0, [(1, 1), ((-1), 3)])], [], [50], [], [], []), [(0, 3, (0, [])), (0, 4, (0, []))], []), (8, [((-1), 3)]), 0, 0)]
theorem k22 : chk (mkD iX10_peopleOn fX10 lX10 kX10 kkX10 22 [] c22 false 5 u22) 4000 = true := by decide +kernel
theorem m22 {X0 : zC0} (H : ∀ j, j < 22 → CMj X0 j) : CMj X0 22 := by
  obtain ⟨l0, D0, cy0, ax0⟩ := X0
  intro mi c hc
  have e : conAt 22 = some (10, c22) := rfl
  rw [e] at hc
  obtain ⟨rfl, rfl⟩ := Prod.mk.inj (Option.some.inj hc)
  have e2 : mt 10 = (yX10_peopleOn, cX10_peopleOn, 5, (some .int)) := rfl
  rw [e2]
  have h := chk_ok (l0 := l0) (D0 := D0) (cy0 := cy0) (ax0 := ax0) (y := yX10_peopleOn) (cc := cX10_peopleOn) (ret := (some .int)) k22 (mk_ok jX10_peopleOn fX10_ok lX10_ok kX10_ok kkX10_ok H) ⟨_, rfl⟩ pnX10 nrI (fun h => by cases h) rfl
  exact h

/-! X10_rain (('k', 50), ('n',)) -/
def u23 : List (Nat × TP × EX × Nat × Nat) := []
theorem k23 : chk (mkD iX10_rain fX10 lX10 kX10 kkX10 23 [] c23 false 2 u23) 4000 = true := by decide +kernel
theorem m23 {X0 : zC0} (H : ∀ j, j < 23 → CMj X0 j) : CMj X0 23 := by
  obtain ⟨l0, D0, cy0, ax0⟩ := X0
  intro mi c hc
  have e : conAt 23 = some (11, c23) := rfl
  rw [e] at hc
  obtain ⟨rfl, rfl⟩ := Prod.mk.inj (Option.some.inj hc)
  have e2 : mt 11 = (yX10_rain, cX10_rain, 2, (some .int)) := rfl
  rw [e2]
  have h := chk_ok (l0 := l0) (D0 := D0) (cy0 := cy0) (ax0 := ax0) (y := yX10_rain) (cc := cX10_rain) (ret := (some .int)) k23 (mk_ok jX10_rain fX10_ok lX10_ok kX10_ok kkX10_ok H) ⟨_, rfl⟩ pnX10 nrI (fun h => by cases h) rfl
  exact h

/-! X10_rainDrops (('k', 50), ('n',)) -/
def u24 : List (Nat × TP × EX × Nat × Nat) := []
theorem k24 : chk (mkD iX10_rainDrops fX10 lX10 kX10 kkX10 24 [(2, [23])] c24 false 2 u24) 4000 = true := by decide +kernel
theorem m24 {X0 : zC0} (H : ∀ j, j < 24 → CMj X0 j) : CMj X0 24 := by
  obtain ⟨l0, D0, cy0, ax0⟩ := X0
  intro mi c hc
  have e : conAt 24 = some (12, c24) := rfl
  rw [e] at hc
  obtain ⟨rfl, rfl⟩ := Prod.mk.inj (Option.some.inj hc)
  have e2 : mt 12 = (yX10_rainDrops, cX10_rainDrops, 2, (some .int)) := rfl
  rw [e2]
  have h := chk_ok (l0 := l0) (D0 := D0) (cy0 := cy0) (ax0 := ax0) (y := yX10_rainDrops) (cc := cX10_rainDrops) (ret := (some .int)) k24 (mk_ok jX10_rainDrops fX10_ok lX10_ok kX10_ok kkX10_ok H) ⟨_, rfl⟩ pnX10 nrI (fun h => by cases h) rfl
  exact h

/-! X10_rainField (('k', 50), ('n',)) -/
def u25 : List (Nat × TP × EX × Nat × Nat) := []
theorem k25 : chk (mkD iX10_rainField fX10 lX10 kX10 kkX10 25 [(2, [23])] c25 false 2 u25) 4000 = true := by decide +kernel
theorem m25 {X0 : zC0} (H : ∀ j, j < 25 → CMj X0 j) : CMj X0 25 := by
  obtain ⟨l0, D0, cy0, ax0⟩ := X0
  intro mi c hc
  have e : conAt 25 = some (13, c25) := rfl
  rw [e] at hc
  obtain ⟨rfl, rfl⟩ := Prod.mk.inj (Option.some.inj hc)
  have e2 : mt 13 = (yX10_rainField, cX10_rainField, 2, (some .int)) := rfl
  rw [e2]
  have h := chk_ok (l0 := l0) (D0 := D0) (cy0 := cy0) (ax0 := ax0) (y := yX10_rainField) (cc := cX10_rainField) (ret := (some .int)) k25 (mk_ok jX10_rainField fX10_ok lX10_ok kX10_ok kkX10_ok H) ⟨_, rfl⟩ pnX10 nrI (fun h => by cases h) rfl
  exact h

/-! X10_rainHour (('k', 50), ('n',)) -/
def u26 : List (Nat × TP × EX × Nat × Nat) := []
theorem k26 : chk (mkD iX10_rainHour fX10 lX10 kX10 kkX10 26 [(2, [23])] c26 false 2 u26) 4000 = true := by decide +kernel
theorem m26 {X0 : zC0} (H : ∀ j, j < 26 → CMj X0 j) : CMj X0 26 := by
  obtain ⟨l0, D0, cy0, ax0⟩ := X0
  intro mi c hc
  have e : conAt 26 = some (14, c26) := rfl
  rw [e] at hc
  obtain ⟨rfl, rfl⟩ := Prod.mk.inj (Option.some.inj hc)
  have e2 : mt 14 = (yX10_rainHour, cX10_rainHour, 2, (some .int)) := rfl
  rw [e2]
  have h := chk_ok (l0 := l0) (D0 := D0) (cy0 := cy0) (ax0 := ax0) (y := yX10_rainHour) (cc := cX10_rainHour) (ret := (some .int)) k26 (mk_ok jX10_rainHour fX10_ok lX10_ok kX10_ok kkX10_ok H) ⟨_, rfl⟩ pnX10 nrI (fun h => by cases h) rfl
  exact h

/-! X10_rainPerson (('k', 50), ('n',)) -/
def u27 : List (Nat × TP × EX × Nat × Nat) := []
theorem k27 : chk (mkD iX10_rainPerson fX10 lX10 kX10 kkX10 27 [(2, [23])] c27 false 2 u27) 4000 = true := by decide +kernel
theorem m27 {X0 : zC0} (H : ∀ j, j < 27 → CMj X0 j) : CMj X0 27 := by
  obtain ⟨l0, D0, cy0, ax0⟩ := X0
  intro mi c hc
  have e : conAt 27 = some (15, c27) := rfl
  rw [e] at hc
  obtain ⟨rfl, rfl⟩ := Prod.mk.inj (Option.some.inj hc)
  have e2 : mt 15 = (yX10_rainPerson, cX10_rainPerson, 2, (some .int)) := rfl
  rw [e2]
  have h := chk_ok (l0 := l0) (D0 := D0) (cy0 := cy0) (ax0 := ax0) (y := yX10_rainPerson) (cc := cX10_rainPerson) (ret := (some .int)) k27 (mk_ok jX10_rainPerson fX10_ok lX10_ok kX10_ok kkX10_ok H) ⟨_, rfl⟩ pnX10 nrI (fun h => by cases h) rfl
  exact h

/-! X10_settle (('k', 50), ('n',), ('n',), ('n',)) -/
def u28 : List (Nat × TP × EX × Nat × Nat) := []
theorem k28 : chk (mkD iX10_settle fX10 lX10 kX10 kkX10 28 [] c28 false 4 u28) 4000 = true := by decide +kernel
theorem m28 {X0 : zC0} (H : ∀ j, j < 28 → CMj X0 j) : CMj X0 28 := by
  obtain ⟨l0, D0, cy0, ax0⟩ := X0
  intro mi c hc
  have e : conAt 28 = some (16, c28) := rfl
  rw [e] at hc
  obtain ⟨rfl, rfl⟩ := Prod.mk.inj (Option.some.inj hc)
  have e2 : mt 16 = (yX10_settle, cX10_settle, 4, none) := rfl
  rw [e2]
  have h := chk_ok (l0 := l0) (D0 := D0) (cy0 := cy0) (ax0 := ax0) (y := yX10_settle) (cc := cX10_settle) (ret := none) k28 (mk_ok jX10_settle fX10_ok lX10_ok kX10_ok kkX10_ok H) rfl pnX10 nrV (fun h => by cases h) rfl
  exact h

/-! X10_take (('k', 50), ('n',), ('n',), ('n',)) -/
def u29 : List (Nat × TP × EX × Nat × Nat) := []
theorem k29 : chk (mkD iX10_take fX10 lX10 kX10 kkX10 29 [] c29 false 4 u29) 4000 = true := by decide +kernel
theorem m29 {X0 : zC0} (H : ∀ j, j < 29 → CMj X0 j) : CMj X0 29 := by
  obtain ⟨l0, D0, cy0, ax0⟩ := X0
  intro mi c hc
  have e : conAt 29 = some (17, c29) := rfl
  rw [e] at hc
  obtain ⟨rfl, rfl⟩ := Prod.mk.inj (Option.some.inj hc)
  have e2 : mt 17 = (yX10_take, cX10_take, 4, none) := rfl
  rw [e2]
  have h := chk_ok (l0 := l0) (D0 := D0) (cy0 := cy0) (ax0 := ax0) (y := yX10_take) (cc := cX10_take) (ret := none) k29 (mk_ok jX10_take fX10_ok lX10_ok kX10_ok kkX10_ok H) rfl pnX10 nrV (fun h => by cases h) rfl
  exact h

/-! X10_whereWas (('k', 50), ('n',), ('n',)) -/
def u30 : List (Nat × TP × EX × Nat × Nat) := []
theorem k30 : chk (mkD iX10_whereWas fX10 lX10 kX10 kkX10 30 [] c30 false 4 u30) 4000 = true := by decide +kernel
theorem m30 {X0 : zC0} (H : ∀ j, j < 30 → CMj X0 j) : CMj X0 30 := by
  obtain ⟨l0, D0, cy0, ax0⟩ := X0
  intro mi c hc
  have e : conAt 30 = some (18, c30) := rfl
  rw [e] at hc
  obtain ⟨rfl, rfl⟩ := Prod.mk.inj (Option.some.inj hc)
  have e2 : mt 18 = (yX10_whereWas, cX10_whereWas, 4, (some .int)) := rfl
  rw [e2]
  have h := chk_ok (l0 := l0) (D0 := D0) (cy0 := cy0) (ax0 := ax0) (y := yX10_whereWas) (cc := cX10_whereWas) (ret := (some .int)) k30 (mk_ok jX10_whereWas fX10_ok lX10_ok kX10_ok kkX10_ok H) ⟨_, rfl⟩ pnX10 nrI (fun h => by cases h) rfl
  exact h

/-! X10_writeRain (('k', 140), ('n',), ('n',), ('n',)) -/
def u31 : List (Nat × TP × EX × Nat × Nat) := []
theorem k31 : chk (mkD iX10_writeRain fX10 lX10 kX10 kkX10 31 [] c31 false 4 u31) 4000 = true := by decide +kernel
theorem m31 {X0 : zC0} (H : ∀ j, j < 31 → CMj X0 j) : CMj X0 31 := by
  obtain ⟨l0, D0, cy0, ax0⟩ := X0
  intro mi c hc
  have e : conAt 31 = some (19, c31) := rfl
  rw [e] at hc
  obtain ⟨rfl, rfl⟩ := Prod.mk.inj (Option.some.inj hc)
  have e2 : mt 19 = (yX10_writeRain, cX10_writeRain, 4, none) := rfl
  rw [e2]
  have h := chk_ok (l0 := l0) (D0 := D0) (cy0 := cy0) (ax0 := ax0) (y := yX10_writeRain) (cc := cX10_writeRain) (ret := none) k31 (mk_ok jX10_writeRain fX10_ok lX10_ok kX10_ok kkX10_ok H) rfl pnX10 nrV (fun h => by cases h) rfl
  exact h

/-! X10_writeRain (('k', 149), ('n',), ('n',), ('n',)) -/
def u32 : List (Nat × TP × EX × Nat × Nat) := []
theorem k32 : chk (mkD iX10_writeRain fX10 lX10 kX10 kkX10 32 [] c32 false 4 u32) 4000 = true := by decide +kernel
theorem m32 {X0 : zC0} (H : ∀ j, j < 32 → CMj X0 j) : CMj X0 32 := by
  obtain ⟨l0, D0, cy0, ax0⟩ := X0
  intro mi c hc
  have e : conAt 32 = some (19, c32) := rfl
  rw [e] at hc
  obtain ⟨rfl, rfl⟩ := Prod.mk.inj (Option.some.inj hc)
  have e2 : mt 19 = (yX10_writeRain, cX10_writeRain, 4, none) := rfl
  rw [e2]
  have h := chk_ok (l0 := l0) (D0 := D0) (cy0 := cy0) (ax0 := ax0) (y := yX10_writeRain) (cc := cX10_writeRain) (ret := none) k32 (mk_ok jX10_writeRain fX10_ok lX10_ok kX10_ok kkX10_ok H) rfl pnX10 nrV (fun h => by cases h) rfl
  exact h

/-! X10_writeRain (('k', 158), ('n',), ('n',), ('n',)) -/
def u33 : List (Nat × TP × EX × Nat × Nat) := []
theorem k33 : chk (mkD iX10_writeRain fX10 lX10 kX10 kkX10 33 [] c33 false 4 u33) 4000 = true := by decide +kernel
theorem m33 {X0 : zC0} (H : ∀ j, j < 33 → CMj X0 j) : CMj X0 33 := by
  obtain ⟨l0, D0, cy0, ax0⟩ := X0
  intro mi c hc
  have e : conAt 33 = some (19, c33) := rfl
  rw [e] at hc
  obtain ⟨rfl, rfl⟩ := Prod.mk.inj (Option.some.inj hc)
  have e2 : mt 19 = (yX10_writeRain, cX10_writeRain, 4, none) := rfl
  rw [e2]
  have h := chk_ok (l0 := l0) (D0 := D0) (cy0 := cy0) (ax0 := ax0) (y := yX10_writeRain) (cc := cX10_writeRain) (ret := none) k33 (mk_ok jX10_writeRain fX10_ok lX10_ok kX10_ok kkX10_ok H) rfl pnX10 nrV (fun h => by cases h) rfl
  exact h

/-! X10_writeRain (('k', 167), ('n',), ('n',), ('n',)) -/
def u34 : List (Nat × TP × EX × Nat × Nat) := []
theorem k34 : chk (mkD iX10_writeRain fX10 lX10 kX10 kkX10 34 [] c34 false 4 u34) 4000 = true := by decide +kernel
theorem m34 {X0 : zC0} (H : ∀ j, j < 34 → CMj X0 j) : CMj X0 34 := by
  obtain ⟨l0, D0, cy0, ax0⟩ := X0
  intro mi c hc
  have e : conAt 34 = some (19, c34) := rfl
  rw [e] at hc
  obtain ⟨rfl, rfl⟩ := Prod.mk.inj (Option.some.inj hc)
  have e2 : mt 19 = (yX10_writeRain, cX10_writeRain, 4, none) := rfl
  rw [e2]
  have h := chk_ok (l0 := l0) (D0 := D0) (cy0 := cy0) (ax0 := ax0) (y := yX10_writeRain) (cc := cX10_writeRain) (ret := none) k34 (mk_ok jX10_writeRain fX10_ok lX10_ok kX10_ok kkX10_ok H) rfl pnX10 nrV (fun h => by cases h) rfl
  exact h

/-! X10_writeRain (('k', 176), ('n',), ('n',), ('n',)) -/
def u35 : List (Nat × TP × EX × Nat × Nat) := []
theorem k35 : chk (mkD iX10_writeRain fX10 lX10 kX10 kkX10 35 [] c35 false 4 u35) 4000 = true := by decide +kernel
theorem m35 {X0 : zC0} (H : ∀ j, j < 35 → CMj X0 j) : CMj X0 35 := by
  obtain ⟨l0, D0, cy0, ax0⟩ := X0
  intro mi c hc
  have e : conAt 35 = some (19, c35) := rfl
  rw [e] at hc
  obtain ⟨rfl, rfl⟩ := Prod.mk.inj (Option.some.inj hc)
  have e2 : mt 19 = (yX10_writeRain, cX10_writeRain, 4, none) := rfl
  rw [e2]
  have h := chk_ok (l0 := l0) (D0 := D0) (cy0 := cy0) (ax0 := ax0) (y := yX10_writeRain) (cc := cX10_writeRain) (ret := none) k35 (mk_ok jX10_writeRain fX10_ok lX10_ok kX10_ok kkX10_ok H) rfl pnX10 nrV (fun h => by cases h) rfl
  exact h

/-! X10_writeRain (('k', 185), ('n',), ('n',), ('n',)) -/
def u36 : List (Nat × TP × EX × Nat × Nat) := []
theorem k36 : chk (mkD iX10_writeRain fX10 lX10 kX10 kkX10 36 [] c36 false 4 u36) 4000 = true := by decide +kernel
theorem m36 {X0 : zC0} (H : ∀ j, j < 36 → CMj X0 j) : CMj X0 36 := by
  obtain ⟨l0, D0, cy0, ax0⟩ := X0
  intro mi c hc
  have e : conAt 36 = some (19, c36) := rfl
  rw [e] at hc
  obtain ⟨rfl, rfl⟩ := Prod.mk.inj (Option.some.inj hc)
  have e2 : mt 19 = (yX10_writeRain, cX10_writeRain, 4, none) := rfl
  rw [e2]
  have h := chk_ok (l0 := l0) (D0 := D0) (cy0 := cy0) (ax0 := ax0) (y := yX10_writeRain) (cc := cX10_writeRain) (ret := none) k36 (mk_ok jX10_writeRain fX10_ok lX10_ok kX10_ok kkX10_ok H) rfl pnX10 nrV (fun h => by cases h) rfl
  exact h

/-! X10_writeRain (('k', 50), ('n',), ('n',), ('n',)) -/
def u37 : List (Nat × TP × EX × Nat × Nat) := []
theorem k37 : chk (mkD iX10_writeRain fX10 lX10 kX10 kkX10 37 [] c37 false 4 u37) 4000 = true := by decide +kernel
theorem m37 {X0 : zC0} (H : ∀ j, j < 37 → CMj X0 j) : CMj X0 37 := by
  obtain ⟨l0, D0, cy0, ax0⟩ := X0
  intro mi c hc
  have e : conAt 37 = some (19, c37) := rfl
  rw [e] at hc
  obtain ⟨rfl, rfl⟩ := Prod.mk.inj (Option.some.inj hc)
  have e2 : mt 19 = (yX10_writeRain, cX10_writeRain, 4, none) := rfl
  rw [e2]
  have h := chk_ok (l0 := l0) (D0 := D0) (cy0 := cy0) (ax0 := ax0) (y := yX10_writeRain) (cc := cX10_writeRain) (ret := none) k37 (mk_ok jX10_writeRain fX10_ok lX10_ok kX10_ok kkX10_ok H) rfl pnX10 nrV (fun h => by cases h) rfl
  exact h

/-! X10_writeWhere (('k', 140), ('n',)) -/
def u38 : List (Nat × TP × EX × Nat × Nat) := [(4, ([(0, (2, 0, (0, []))), (1, (0, 0, (0, [(1, 0)]))), (2, (0, 0, (0, [(1, 1)]))), (3, (0, 0, (0, [(1, 2)])))], [], ([(0, 8), ((-2147483648), 2147483647), (0, 8)], [], [], [140], [], [], []), [(0, 2, (0, [])), (0, 3, (0, []))], []), (8, [((-1), 2)]), 0, 0)]
theorem k38 : chk (mkD iX10_writeWhere fX10 lX10 kX10 kkX10 38 [] c38 false 4 u38) 4000 = true := by decide +kernel
theorem m38 {X0 : zC0} (H : ∀ j, j < 38 → CMj X0 j) : CMj X0 38 := by
  obtain ⟨l0, D0, cy0, ax0⟩ := X0
  intro mi c hc
  have e : conAt 38 = some (20, c38) := rfl
  rw [e] at hc
  obtain ⟨rfl, rfl⟩ := Prod.mk.inj (Option.some.inj hc)
  have e2 : mt 20 = (yX10_writeWhere, cX10_writeWhere, 4, none) := rfl
  rw [e2]
  have h := chk_ok (l0 := l0) (D0 := D0) (cy0 := cy0) (ax0 := ax0) (y := yX10_writeWhere) (cc := cX10_writeWhere) (ret := none) k38 (mk_ok jX10_writeWhere fX10_ok lX10_ok kX10_ok kkX10_ok H) rfl pnX10 nrV (fun h => by cases h) rfl
  exact h

/-! X10_writeWhere (('k', 149), ('n',)) -/
def u39 : List (Nat × TP × EX × Nat × Nat) := [(4, ([(0, (2, 0, (0, []))), (1, (0, 0, (0, [(1, 0)]))), (2, (0, 0, (0, [(1, 1)]))), (3, (0, 0, (0, [(1, 2)])))], [], ([(0, 8), ((-2147483648), 2147483647), (0, 8)], [], [], [149], [], [], []), [(0, 2, (0, [])), (0, 3, (0, []))], []), (8, [((-1), 2)]), 0, 0)]
theorem k39 : chk (mkD iX10_writeWhere fX10 lX10 kX10 kkX10 39 [] c39 false 4 u39) 4000 = true := by decide +kernel
theorem m39 {X0 : zC0} (H : ∀ j, j < 39 → CMj X0 j) : CMj X0 39 := by
  obtain ⟨l0, D0, cy0, ax0⟩ := X0
  intro mi c hc
  have e : conAt 39 = some (20, c39) := rfl
  rw [e] at hc
  obtain ⟨rfl, rfl⟩ := Prod.mk.inj (Option.some.inj hc)
  have e2 : mt 20 = (yX10_writeWhere, cX10_writeWhere, 4, none) := rfl
  rw [e2]
  have h := chk_ok (l0 := l0) (D0 := D0) (cy0 := cy0) (ax0 := ax0) (y := yX10_writeWhere) (cc := cX10_writeWhere) (ret := none) k39 (mk_ok jX10_writeWhere fX10_ok lX10_ok kX10_ok kkX10_ok H) rfl pnX10 nrV (fun h => by cases h) rfl
  exact h

/-! X10_writeWhere (('k', 158), ('n',)) -/
def u40 : List (Nat × TP × EX × Nat × Nat) := [(4, ([(0, (2, 0, (0, []))), (1, (0, 0, (0, [(1, 0)]))), (2, (0, 0, (0, [(1, 1)]))), (3, (0, 0, (0, [(1, 2)])))], [], ([(0, 8), ((-2147483648), 2147483647), (0, 8)], [], [], [158], [], [], []), [(0, 2, (0, [])), (0, 3, (0, []))], []), (8, [((-1), 2)]), 0, 0)]
theorem k40 : chk (mkD iX10_writeWhere fX10 lX10 kX10 kkX10 40 [] c40 false 4 u40) 4000 = true := by decide +kernel
theorem m40 {X0 : zC0} (H : ∀ j, j < 40 → CMj X0 j) : CMj X0 40 := by
  obtain ⟨l0, D0, cy0, ax0⟩ := X0
  intro mi c hc
  have e : conAt 40 = some (20, c40) := rfl
  rw [e] at hc
  obtain ⟨rfl, rfl⟩ := Prod.mk.inj (Option.some.inj hc)
  have e2 : mt 20 = (yX10_writeWhere, cX10_writeWhere, 4, none) := rfl
  rw [e2]
  have h := chk_ok (l0 := l0) (D0 := D0) (cy0 := cy0) (ax0 := ax0) (y := yX10_writeWhere) (cc := cX10_writeWhere) (ret := none) k40 (mk_ok jX10_writeWhere fX10_ok lX10_ok kX10_ok kkX10_ok H) rfl pnX10 nrV (fun h => by cases h) rfl
  exact h

/-! X10_writeWhere (('k', 167), ('n',)) -/
def u41 : List (Nat × TP × EX × Nat × Nat) := [(4, ([(0, (2, 0, (0, []))), (1, (0, 0, (0, [(1, 0)]))), (2, (0, 0, (0, [(1, 1)]))), (3, (0, 0, (0, [(1, 2)])))], [], ([(0, 8), ((-2147483648), 2147483647), (0, 8)], [], [], [167], [], [], []), [(0, 2, (0, [])), (0, 3, (0, []))], []), (8, [((-1), 2)]), 0, 0)]
theorem k41 : chk (mkD iX10_writeWhere fX10 lX10 kX10 kkX10 41 [] c41 false 4 u41) 4000 = true := by decide +kernel
theorem m41 {X0 : zC0} (H : ∀ j, j < 41 → CMj X0 j) : CMj X0 41 := by
  obtain ⟨l0, D0, cy0, ax0⟩ := X0
  intro mi c hc
  have e : conAt 41 = some (20, c41) := rfl
  rw [e] at hc
  obtain ⟨rfl, rfl⟩ := Prod.mk.inj (Option.some.inj hc)
  have e2 : mt 20 = (yX10_writeWhere, cX10_writeWhere, 4, none) := rfl
  rw [e2]
  have h := chk_ok (l0 := l0) (D0 := D0) (cy0 := cy0) (ax0 := ax0) (y := yX10_writeWhere) (cc := cX10_writeWhere) (ret := none) k41 (mk_ok jX10_writeWhere fX10_ok lX10_ok kX10_ok kkX10_ok H) rfl pnX10 nrV (fun h => by cases h) rfl
  exact h

/-! X10_writeWhere (('k', 176), ('n',)) -/
def u42 : List (Nat × TP × EX × Nat × Nat) := [(4, ([(0, (2, 0, (0, []))), (1, (0, 0, (0, [(1, 0)]))), (2, (0, 0, (0, [(1, 1)]))), (3, (0, 0, (0, [(1, 2)])))], [], ([(0, 8), ((-2147483648), 2147483647), (0, 8)], [], [], [176], [], [], []), [(0, 2, (0, [])), (0, 3, (0, []))], []), (8, [((-1), 2)]), 0, 0)]
theorem k42 : chk (mkD iX10_writeWhere fX10 lX10 kX10 kkX10 42 [] c42 false 4 u42) 4000 = true := by decide +kernel
theorem m42 {X0 : zC0} (H : ∀ j, j < 42 → CMj X0 j) : CMj X0 42 := by
  obtain ⟨l0, D0, cy0, ax0⟩ := X0
  intro mi c hc
  have e : conAt 42 = some (20, c42) := rfl
  rw [e] at hc
  obtain ⟨rfl, rfl⟩ := Prod.mk.inj (Option.some.inj hc)
  have e2 : mt 20 = (yX10_writeWhere, cX10_writeWhere, 4, none) := rfl
  rw [e2]
  have h := chk_ok (l0 := l0) (D0 := D0) (cy0 := cy0) (ax0 := ax0) (y := yX10_writeWhere) (cc := cX10_writeWhere) (ret := none) k42 (mk_ok jX10_writeWhere fX10_ok lX10_ok kX10_ok kkX10_ok H) rfl pnX10 nrV (fun h => by cases h) rfl
  exact h

/-! X10_writeWhere (('k', 185), ('n',)) -/
def u43 : List (Nat × TP × EX × Nat × Nat) := [(4, ([(0, (2, 0, (0, []))), (1, (0, 0, (0, [(1, 0)]))), (2, (0, 0, (0, [(1, 1)]))), (3, (0, 0, (0, [(1, 2)])))], [], ([(0, 8), ((-2147483648), 2147483647), (0, 8)], [], [], [185], [], [], []), [(0, 2, (0, [])), (0, 3, (0, []))], []), (8, [((-1), 2)]), 0, 0)]
theorem k43 : chk (mkD iX10_writeWhere fX10 lX10 kX10 kkX10 43 [] c43 false 4 u43) 4000 = true := by decide +kernel
theorem m43 {X0 : zC0} (H : ∀ j, j < 43 → CMj X0 j) : CMj X0 43 := by
  obtain ⟨l0, D0, cy0, ax0⟩ := X0
  intro mi c hc
  have e : conAt 43 = some (20, c43) := rfl
  rw [e] at hc
  obtain ⟨rfl, rfl⟩ := Prod.mk.inj (Option.some.inj hc)
  have e2 : mt 20 = (yX10_writeWhere, cX10_writeWhere, 4, none) := rfl
  rw [e2]
  have h := chk_ok (l0 := l0) (D0 := D0) (cy0 := cy0) (ax0 := ax0) (y := yX10_writeWhere) (cc := cX10_writeWhere) (ret := none) k43 (mk_ok jX10_writeWhere fX10_ok lX10_ok kX10_ok kkX10_ok H) rfl pnX10 nrV (fun h => by cases h) rfl
  exact h

/-! X10_writeWhere (('k', 50), ('n',)) -/
def u44 : List (Nat × TP × EX × Nat × Nat) := [(4, ([(0, (2, 0, (0, []))), (1, (0, 0, (0, [(1, 0)]))), (2, (0, 0, (0, [(1, 1)]))), (3, (0, 0, (0, [(1, 2)])))], [], ([(0, 8), ((-2147483648), 2147483647), (0, 8)], [], [], [50], [], [], []), [(0, 2, (0, [])), (0, 3, (0, []))], []), (8, [((-1), 2)]), 0, 0)]
theorem k44 : chk (mkD iX10_writeWhere fX10 lX10 kX10 kkX10 44 [] c44 false 4 u44) 4000 = true := by decide +kernel
theorem m44 {X0 : zC0} (H : ∀ j, j < 44 → CMj X0 j) : CMj X0 44 := by
  obtain ⟨l0, D0, cy0, ax0⟩ := X0
  intro mi c hc
  have e : conAt 44 = some (20, c44) := rfl
  rw [e] at hc
  obtain ⟨rfl, rfl⟩ := Prod.mk.inj (Option.some.inj hc)
  have e2 : mt 20 = (yX10_writeWhere, cX10_writeWhere, 4, none) := rfl
  rw [e2]
  have h := chk_ok (l0 := l0) (D0 := D0) (cy0 := cy0) (ax0 := ax0) (y := yX10_writeWhere) (cc := cX10_writeWhere) (ret := none) k44 (mk_ok jX10_writeWhere fX10_ok lX10_ok kX10_ok kkX10_ok H) rfl pnX10 nrV (fun h => by cases h) rfl
  exact h

/-! X11_about (('k', 197), ('n',)) -/
def u45 : List (Nat × TP × EX × Nat × Nat) := []
theorem k45 : chk (mkD iX11_about fX11 lX11 kX11 kkX11 45 [] c45 false 3 u45) 4000 = true := by decide +kernel
theorem m45 {X0 : zC0} (H : ∀ j, j < 45 → CMj X0 j) : CMj X0 45 := by
  obtain ⟨l0, D0, cy0, ax0⟩ := X0
  intro mi c hc
  have e : conAt 45 = some (21, c45) := rfl
  rw [e] at hc
  obtain ⟨rfl, rfl⟩ := Prod.mk.inj (Option.some.inj hc)
  have e2 : mt 21 = (yX11_about, cX11_about, 3, (some .int)) := rfl
  rw [e2]
  have h := chk_ok (l0 := l0) (D0 := D0) (cy0 := cy0) (ax0 := ax0) (y := yX11_about) (cc := cX11_about) (ret := (some .int)) k45 (mk_ok jX11_about fX11_ok lX11_ok kX11_ok kkX11_ok H) ⟨_, rfl⟩ pnX11 nrI (fun h => by cases h) rfl
  exact h

/-! X5_copyFrom (('k', 59), ('k', 99)) -/
def u46 : List (Nat × TP × EX × Nat × Nat) := [(18, ([(0, (2, 0, (0, []))), (1, (2, 1, (0, []))), (2, (0, 0, (0, [(1, 2)])))], [], ([(0, 29), (0, 30), (0, 30)], [], [], [59, 99], [((59, (1, [])), (0, [(1, 0)])), ((99, (1, [])), (0, [(1, 0)])), ((59, (0, [])), (0, [(1, 1)])), ((99, (0, [])), (0, [(1, 1)]))], [], []), [(2, 59, (1, [])), (2, 59, (0, [])), (0, 2, (0, []))], []), (30, [((-1), 2)]), 0, 0)]
theorem k46 : chk (mkD iX5_copyFrom fX5 lX5 kX5 kkX5 46 [(36, [9])] c46 false 3 u46) 4000 = true := by decide +kernel
theorem m46 {X0 : zC0} (H : ∀ j, j < 46 → CMj X0 j) : CMj X0 46 := by
  obtain ⟨l0, D0, cy0, ax0⟩ := X0
  intro mi c hc
  have e : conAt 46 = some (251, c46) := rfl
  rw [e] at hc
  obtain ⟨rfl, rfl⟩ := Prod.mk.inj (Option.some.inj hc)
  have e2 : mt 251 = (yX5_copyFrom, cX5_copyFrom, 3, none) := rfl
  rw [e2]
  have h := chk_ok (l0 := l0) (D0 := D0) (cy0 := cy0) (ax0 := ax0) (y := yX5_copyFrom) (cc := cX5_copyFrom) (ret := none) k46 (mk_ok jX5_copyFrom fX5_ok lX5_ok kX5_ok kkX5_ok H) rfl pnX5 nrV (fun h => by cases h) rfl
  exact h

/-! X1_copyFrom (('k', 62), ('k', 102)) -/
def u47 : List (Nat × TP × EX × Nat × Nat) := [(86, ([(0, (2, 0, (0, []))), (1, (2, 1, (0, []))), (2, (0, 0, (0, [(1, 3)])))], [], ([(0, 10), (0, 12), (0, 6), (0, 12)], [], [], [62, 102], [((62, (2, [])), (0, [(1, 0)])), ((102, (2, [])), (0, [(1, 0)])), ((62, (1, [])), (0, [(1, 1)])), ((102, (1, [])), (0, [(1, 1)])), ((62, (0, [])), (0, [(1, 2)])), ((102, (0, [])), (0, [(1, 2)]))], [], []), [(2, 62, (2, [])), (2, 62, (1, [])), (2, 62, (0, [])), (0, 2, (0, []))], []), (23, [((-1), 3)]), 0, 0), (112, ([(0, (2, 0, (0, []))), (1, (2, 1, (0, []))), (2, (0, 0, (0, [(1, 3)])))], [], ([(0, 10), (0, 12), (0, 6), (0, 10)], [], [], [62, 102], [((62, (2, [])), (0, [(1, 0)])), ((102, (2, [])), (0, [(1, 0)])), ((62, (1, [])), (0, [(1, 1)])), ((102, (1, [])), (0, [(1, 1)])), ((62, (0, [])), (0, [(1, 2)])), ((102, (0, [])), (0, [(1, 2)]))], [], []), [(2, 62, (2, [])), (2, 62, (1, [])), (2, 62, (0, [])), (0, 2, (0, []))], []), (10, [((-1), 3)]), 0, 0)]
theorem k47 : chk (mkD iX1_copyFrom fX1 lX1 kX1 kkX1 47 [] c47 false 3 u47) 4000 = true := by decide +kernel
theorem m47 {X0 : zC0} (H : ∀ j, j < 47 → CMj X0 j) : CMj X0 47 := by
  obtain ⟨l0, D0, cy0, ax0⟩ := X0
  intro mi c hc
  have e : conAt 47 = some (207, c47) := rfl
  rw [e] at hc
  obtain ⟨rfl, rfl⟩ := Prod.mk.inj (Option.some.inj hc)
  have e2 : mt 207 = (yX1_copyFrom, cX1_copyFrom, 3, none) := rfl
  rw [e2]
  have h := chk_ok (l0 := l0) (D0 := D0) (cy0 := cy0) (ax0 := ax0) (y := yX1_copyFrom) (cc := cX1_copyFrom) (ret := none) k47 (mk_ok jX1_copyFrom fX1_ok lX1_ok kX1_ok kkX1_ok H) rfl pnX1 nrV (fun h => by cases h) rfl
  exact h

/-! X4_copyFrom (('k', 40), ('k', 80)) -/
def u48 : List (Nat × TP × EX × Nat × Nat) := [(46, ([(0, (2, 0, (0, []))), (1, (2, 1, (0, []))), (2, (0, 0, (0, [(1, 14)])))], [], ([(0, 6), (0, 12), (0, 10), (0, 30), (0, 29), ((-2147483648), 2147483647), ((-2147483648), 2147483647), ((-2147483648), 2147483647), (0, 999), (0, 30186), (0, 40), (0, 39), (0, 6), (0, 8), (0, 4)], [], [], [40, 80], [((102, (0, [])), (0, [(1, 0)])), ((62, (0, [])), (0, [(1, 0)])), ((102, (1, [])), (0, [(1, 1)])), ((62, (1, [])), (0, [(1, 1)])), ((102, (2, [])), (0, [(1, 2)])), ((62, (2, [])), (0, [(1, 2)])), ((99, (0, [])), (0, [(1, 3)])), ((59, (0, [])), (0, [(1, 3)])), ((99, (1, [])), (0, [(1, 4)])), ((59, (1, [])), (0, [(1, 4)])), ((90, (6, [])), (0, [(1, 5)])), ((50, (6, [])), (0, [(1, 5)])), ((90, (7, [])), (0, [(1, 6)])), ((50, (7, [])), (0, [(1, 6)])), ((90, (8, [])), (0, [(1, 7)])), ((50, (8, [])), (0, [(1, 7)])), ((90, (9, [])), (0, [(1, 8)])), ((50, (9, [])), (0, [(1, 8)])), ((90, (10, [])), (0, [(1, 9)])), ((50, (10, [])), (0, [(1, 9)])), ((90, (11, [])), (0, [(1, 10)])), ((50, (11, [])), (0, [(1, 10)])), ((90, (12, [])), (0, [(1, 11)])), ((50, (12, [])), (0, [(1, 11)])), ((81, (0, [])), (0, [(1, 12)])), ((41, (0, [])), (0, [(1, 12)])), ((81, (1, [])), (0, [(1, 13)])), ((41, (1, [])), (0, [(1, 13)]))], [], []), [(2, 102, (0, [])), (2, 102, (1, [])), (2, 102, (2, [])), (2, 99, (0, [])), (2, 99, (1, [])), (2, 90, (6, [])), (2, 90, (7, [])), (2, 90, (8, [])), (2, 90, (9, [])), (2, 90, (10, [])), (2, 90, (11, [])), (2, 90, (12, [])), (2, 81, (0, [])), (2, 81, (1, [])), (0, 2, (0, []))], []), (4, [((-1), 14)]), 0, 0)]
theorem k48 : chk (mkD iX4_copyFrom fX4 lX4 kX4 kkX4 48 [(8, [4]), (19, [19]), (30, [46]), (41, [47])] c48 false 3 u48) 4000 = true := by decide +kernel
theorem m48 {X0 : zC0} (H : ∀ j, j < 48 → CMj X0 j) : CMj X0 48 := by
  obtain ⟨l0, D0, cy0, ax0⟩ := X0
  intro mi c hc
  have e : conAt 48 = some (246, c48) := rfl
  rw [e] at hc
  obtain ⟨rfl, rfl⟩ := Prod.mk.inj (Option.some.inj hc)
  have e2 : mt 246 = (yX4_copyFrom, cX4_copyFrom, 3, none) := rfl
  rw [e2]
  have h := chk_ok (l0 := l0) (D0 := D0) (cy0 := cy0) (ax0 := ax0) (y := yX4_copyFrom) (cc := cX4_copyFrom) (ret := none) k48 (mk_ok jX4_copyFrom fX4_ok lX4_ok kX4_ok kkX4_ok H) rfl pnX4 nrV (fun h => by cases h) rfl
  exact h

/-! X11_back (('k', 197),) -/
def u49 : List (Nat × TP × EX × Nat × Nat) := []
theorem k49 : chk (mkD iX11_back fX11 lX11 kX11 kkX11 49 [(8, [48])] c49 false 1 u49) 4000 = true := by decide +kernel
theorem m49 {X0 : zC0} (H : ∀ j, j < 49 → CMj X0 j) : CMj X0 49 := by
  obtain ⟨l0, D0, cy0, ax0⟩ := X0
  intro mi c hc
  have e : conAt 49 = some (22, c49) := rfl
  rw [e] at hc
  obtain ⟨rfl, rfl⟩ := Prod.mk.inj (Option.some.inj hc)
  have e2 : mt 22 = (yX11_back, cX11_back, 1, (some .int)) := rfl
  rw [e2]
  have h := chk_ok (l0 := l0) (D0 := D0) (cy0 := cy0) (ax0 := ax0) (y := yX11_back) (cc := cX11_back) (ret := (some .int)) k49 (mk_ok jX11_back fX11_ok lX11_ok kX11_ok kkX11_ok H) ⟨_, rfl⟩ pnX11 nrI (fun h => by cases h) rfl
  exact h
