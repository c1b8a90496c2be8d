/-! The beginning. -/
/-- the tables' words at the law's start -/
theorem z_known {s : State} {args : Array Value} (hts : ∀ w ∈ lw_tbl, w.before args s = true) : ∃ (D : va_G) (cy : Nat → ClassId), zK D cy s := by
  have htg : ∀ w ∈ gtbl, w.before args s = true := fun w hw => hts w (List.mem_filter.mp hw).1
  have hk : ∀ k : Nat, ∃ q : ClassId × (Nat → Nat), ∀ r : vw_C, vwCl[k]? = some r → u_Kn s r.1 r.2.1 r.2.2 q.1 q.2 := by
    intro k
    match k with
    | 0 =>
      obtain ⟨c, j, h⟩ := u_known (C := RX0) (T := TX0) (N := 10) (n := 10) htg inZX0 (htg (.instantiable RX0 10) q149)
      exact ⟨(c, j), fun r hr => by cases hr; exact h⟩
    | 1 =>
      obtain ⟨c, j, h⟩ := u_known (C := RX1) (T := TX1) (N := 11) (n := 11) htg inZX1 (htg (.instantiable RX1 11) q313)
      exact ⟨(c, j), fun r hr => by cases hr; exact h⟩
    | 2 =>
      obtain ⟨c, j, h⟩ := u_known (C := RX2) (T := TX2) (N := 10) (n := 10) htg inZX2 (htg (.instantiable RX2 10) q498)
      exact ⟨(c, j), fun r hr => by cases hr; exact h⟩
    | 3 =>
      obtain ⟨c, j, h⟩ := u_known (C := RX3) (T := TX3) (N := 7) (n := 7) htg inZX3 (htg (.instantiable RX3 7) q427)
      exact ⟨(c, j), fun r hr => by cases hr; exact h⟩
    | 4 =>
      obtain ⟨c, j, h⟩ := u_known (C := RX4) (T := TX4) (N := 7) (n := 7) htg inZX4 (htg (.instantiable RX4 7) q143)
      exact ⟨(c, j), fun r hr => by cases hr; exact h⟩
    | 5 =>
      obtain ⟨c, j, h⟩ := u_known (C := RX5) (T := TX5) (N := 4) (n := 4) htg inZX5 (htg (.instantiable RX5 4) q289)
      exact ⟨(c, j), fun r hr => by cases hr; exact h⟩
    | 6 =>
      obtain ⟨c, j, h⟩ := u_known (C := RX6) (T := TX6) (N := 6) (n := 6) htg inZX6 (htg (.instantiable RX6 6) q396)
      exact ⟨(c, j), fun r hr => by cases hr; exact h⟩
    | 7 =>
      obtain ⟨c, j, h⟩ := u_known (C := RX7) (T := TX7) (N := 13) (n := 13) htg inZX7 (htg (.instantiable RX7 13) q638)
      exact ⟨(c, j), fun r hr => by cases hr; exact h⟩
    | 8 =>
      obtain ⟨c, j, h⟩ := u_known (C := RX8) (T := TX8) (N := 3) (n := 3) htg inZX8 (htg (.instantiable RX8 3) q540)
      exact ⟨(c, j), fun r hr => by cases hr; exact h⟩
    | 9 =>
      obtain ⟨c, j, h⟩ := u_known (C := RX9) (T := TX9) (N := 10) (n := 10) htg inZX9 (htg (.instantiable RX9 10) q457)
      exact ⟨(c, j), fun r hr => by cases hr; exact h⟩
    | 10 =>
      obtain ⟨c, j, h⟩ := u_known (C := RX10) (T := TX10) (N := 15) (n := 15) htg inZX10 (htg (.instantiable RX10 15) q209)
      exact ⟨(c, j), fun r hr => by cases hr; exact h⟩
    | 11 =>
      obtain ⟨c, j, h⟩ := u_known (C := RX11) (T := TX11) (N := 7) (n := 7) htg inZX11 (htg (.instantiable RX11 7) q135)
      exact ⟨(c, j), fun r hr => by cases hr; exact h⟩
    | 12 =>
      obtain ⟨c, j, h⟩ := u_known (C := RX12) (T := TX12) (N := 53) (n := 53) htg inZX12 (htg (.instantiable RX12 53) q1386)
      exact ⟨(c, j), fun r hr => by cases hr; exact h⟩
    | k + 13 => exact ⟨(0, fun _ => 0), fun r hr => by simp [vwCl] at hr⟩
  obtain ⟨F, hF⟩ := Classical.axiomOfChoice hk
  obtain ⟨cI, kI, mI, aI, bI, dI⟩ := Cond.arrayClass_spec (htg (.arrayClass .int) q207)
  obtain ⟨cJ, kJ, mJ, aJ, bJ, dJ⟩ := Cond.arrayClass_spec (htg (.arrayClass .long) q1295)
  obtain ⟨cZ, kZ, mZ, aZ, bZ, dZ⟩ := Cond.arrayClass_spec (htg (.arrayClass .boolean) q358)
  have oT := hts (.arrayOver (.object "OwnRain$Text")) (List.mem_of_getElem? (i := 360) (by decide +kernel))
  obtain ⟨mT, cT, kT, eT, gT, bT, dT, aT⟩ := Cond.arrayOver_spec oT
  have oW := hts (.arrayOver (.object "OwnRain$World")) (List.mem_of_getElem? (i := 295) (by decide +kernel))
  obtain ⟨mW, cW, kW, eW, gW, bW, dW, aW⟩ := Cond.arrayOver_spec oW
  refine ⟨(fun k => (F k).1, fun k => (F k).2), (fun i => if i = 0 then cI else if i = 1 then cJ else if i = 2 then cZ else if i = 3 then cT else cW), ⟨fun c q hq => hF c q hq, fun k q hq => ?_⟩, ?_, va_AO.of oT, va_AO.of oW⟩
  · match k with
    | 0 => cases hq; exact ⟨fun n z => ⟨(fun k h => by cases h), kI, bI, mI, dI⟩, aI⟩
    | 1 => cases hq; exact ⟨fun n z => ⟨(fun k h => by cases h), kJ, bJ, mJ, dJ⟩, aJ⟩
    | 2 => cases hq; exact ⟨fun n z => ⟨(fun k h => by cases h), kZ, bZ, mZ, dZ⟩, aZ⟩
    | 3 => cases hq; exact ⟨fun n z => ⟨(fun k h => by cases h), kT, bT, mT, dT⟩, kT, mT, bT, dT, eT, aT⟩
    | 4 => cases hq; exact ⟨fun n z => ⟨(fun k h => by cases h), kW, bW, mW, dW⟩, kW, mW, bW, dW, eW, aW⟩
    | k + 5 => simp [zcy] at hq
  · unfold znests
    exact List.forall_mem_cons.mpr ⟨va_Nw.of rfl (hts _ (List.mem_of_getElem? (i := 144) (by decide +kernel))), List.forall_mem_cons.mpr ⟨va_Nw.of rfl (hts _ (List.mem_of_getElem? (i := 150) (by decide +kernel))), List.forall_mem_cons.mpr ⟨va_Nw.of rfl (hts _ (List.mem_of_getElem? (i := 210) (by decide +kernel))), List.forall_mem_cons.mpr ⟨va_Nw.of rfl (hts _ (List.mem_of_getElem? (i := 296) (by decide +kernel))), List.forall_mem_cons.mpr ⟨va_Nw.of rfl (hts _ (List.mem_of_getElem? (i := 314) (by decide +kernel))), List.forall_mem_cons.mpr ⟨va_Nw.of rfl (hts _ (List.mem_of_getElem? (i := 397) (by decide +kernel))), List.forall_mem_cons.mpr ⟨va_Nw.of rfl (hts _ (List.mem_of_getElem? (i := 504) (by decide +kernel))), List.forall_mem_cons.mpr ⟨va_Nw.of rfl (hts _ (List.mem_of_getElem? (i := 639) (by decide +kernel))), List.forall_mem_cons.mpr ⟨va_Nw.of rfl (hts _ (List.mem_of_getElem? (i := 710) (by decide +kernel))), List.forall_mem_cons.mpr ⟨va_Nw.of rfl (hts _ (List.mem_of_getElem? (i := 884) (by decide +kernel))), List.forall_mem_cons.mpr ⟨va_Nw.of rfl (hts _ (List.mem_of_getElem? (i := 999) (by decide +kernel))), List.forall_mem_cons.mpr ⟨va_Nw.of rfl (hts _ (List.mem_of_getElem? (i := 1068) (by decide +kernel))), List.forall_mem_cons.mpr ⟨va_Nw.of rfl (hts _ (List.mem_of_getElem? (i := 1182) (by decide +kernel))), fun _ h => absurd h List.not_mem_nil⟩⟩⟩⟩⟩⟩⟩⟩⟩⟩⟩⟩⟩
/-- what the Statement gives -/
def nF : List Cond := flatC (Jvm.Cond.and given_1 narrow_1)
def sT (i : Nat) : Term := if i = 0 then .string "OwnRain$Tape" 61 else .string "OwnRain$Tape" 68
def sF (i : Nat) : Term := .field (sT i) "java/lang/String" "value" "[B"
theorem blk_mem {l : List Cond} {a n : Nat} {g : Nat → Cond} (h : (l.drop a).take n = (List.range n).map g) : ∀ j, j < n → g j ∈ l := fun j hj => List.mem_of_mem_drop (List.mem_of_mem_take (by rw [h]; exact List.mem_map_of_mem (List.mem_range.mpr hj)))
theorem two_of {P : Nat → Prop} (h0 : P 0) (h1 : P 1) : ∀ i, i < 2 → P i := by
  intro i hi
  match i, hi with
  | 0, _ => exact h0
  | 1, _ => exact h1
  | i + 2, h => omega
theorem nEl0 : ∀ j, j < 11 → (Cond.eq (.elem (sF 0) (.int (Int32.ofNat j))) (.int ((zbyt.getD 0 []).getD j 0))) ∈ nF := blk_mem (a := 293) (by decide +kernel)
theorem nEl1 : ∀ j, j < 166 → (Cond.eq (.elem (sF 1) (.int (Int32.ofNat j))) (.int ((zbyt.getD 1 []).getD j 0))) ∈ nF := blk_mem (a := 123) (by decide +kernel)
theorem nSh : ∀ j, j < 81 → (Cond.eq (.elem (.static "OwnRain" "SHAPES" "[I") (.int (Int32.ofNat j))) (.int (zshp.getD j 0))) ∈ nF := blk_mem (a := 12) (by decide +kernel)
theorem z_ext {s : State} {args : Array Value} (hts : ∀ w ∈ lw_tbl, w.before args s = true) (hgv : (Jvm.Cond.and given_1 narrow_1).before args s = true) : ∃ ax : zAx, zXt ax (fun q => s.heap.size ≤ q) s s.heap := by
  have hs : ∀ w ∈ nF, w.before args s = true := flat_of_before _ hgv
  have hA : ∀ a : Nat, a < s.heap.size → ¬ (fun q => s.heap.size ≤ q) a := fun a ha h => by
    have h' : s.heap.size ≤ a := h
    omega
  obtain ⟨adK, adV, hS, hSt⟩ := vk_Sof (args := args) (s := s) (N := 2) (tm := sT) (len := zlen) (byt := zbyt) (A := fun q => s.heap.size ≤ q) (two_of (by decide) (by decide)) (two_of (hs _ (List.mem_of_getElem? (i := 289) (by decide +kernel))) (hs _ (List.mem_of_getElem? (i := 119) (by decide +kernel)))) (two_of (hs _ (List.mem_of_getElem? (i := 290) (by decide +kernel))) (hs _ (List.mem_of_getElem? (i := 120) (by decide +kernel)))) (two_of (hs _ (List.mem_of_getElem? (i := 291) (by decide +kernel))) (hs _ (List.mem_of_getElem? (i := 121) (by decide +kernel)))) (two_of (hs _ (List.mem_of_getElem? (i := 292) (by decide +kernel))) (hs _ (List.mem_of_getElem? (i := 122) (by decide +kernel)))) (two_of (fun j hj => hs _ (nEl0 j hj)) (fun j hj => hs _ (nEl1 j hj))) (fun i j hi hj hij => by
    have hn : (Cond.not (Cond.eq (sT 1) (sT 0))).before args s = true := (hs _ (List.mem_of_getElem? (i := 304) (by decide +kernel)))
    rcases (show i = 0 ∧ j = 1 ∨ i = 1 ∧ j = 0 by omega) with ⟨rfl, rfl⟩ | ⟨rfl, rfl⟩
    · exact Or.inr hn
    · exact Or.inl hn) hA
  obtain ⟨sh, hsh, hT⟩ := va_Tof (args := args) (s := s) (tm := .static "OwnRain" "SHAPES" "[I") (ty := .int) (N := 81) (f := fun j => .int (zshp.getD j 0)) (A := fun q => s.heap.size ≤ q) (by decide) (hs _ (List.mem_of_getElem? (i := 10) (by decide +kernel))) (va_eqt (hs _ (List.mem_of_getElem? (i := 11) (by decide +kernel)))) (fun j hj => va_eqt (hs _ (nSh j hj))) hA
  have hq := va_Zqof (args := args) (s := s) (C := "jdk/internal/util/Preconditions") (n := "SIOOBE_FORMATTER") (d := "Ljava/util/function/BiFunction;") (A := fun q => s.heap.size ≤ q) (hts _ (List.mem_of_getElem? (i := 745) (by decide +kernel))) (hts _ (List.mem_of_getElem? (i := 128) (by decide +kernel))) (hs _ (List.mem_of_getElem? (i := 5) (by decide +kernel))) hA
  refine ⟨(adK, adV, sh), hS, vk_R.of (A := args) (hts _ (List.mem_of_getElem? (i := 786) (by decide +kernel))) (hSt 0 (by decide)), vk_R.of (A := args) (hts _ (List.mem_of_getElem? (i := 719) (by decide +kernel))) (hSt 1 (by decide)), va_Zof (args := args) (hts _ (List.mem_of_getElem? (i := 729) (by decide +kernel))) (hts _ (List.mem_of_getElem? (i := 126) (by decide +kernel))) (va_eqi (hs _ (List.mem_of_getElem? (i := 4) (by decide +kernel)))) hA, va_Zof (args := args) (hts _ (List.mem_of_getElem? (i := 924) (by decide +kernel))) (hts _ (List.mem_of_getElem? (i := 113) (by decide +kernel))) hsh hA, hT, va_Nw.of rfl (hts _ (List.mem_of_getElem? (i := 923) (by decide +kernel))), ?_⟩
  rcases hq with h | ⟨t, h⟩
  · exact ⟨none, h⟩
  · exact ⟨some t, h⟩
/-! The first state. -/
def sMod : List Nat := [201, 202, 203, 204, 205, 206, 207, 208, 209, 210, 211, 212, 213, 214, 215, 216, 217, 218, 219, 220, 221, 222, 223, 224, 225, 226, 227, 228]
def sAll : List Nat := ([] ++ (197 :: sOwn)) ++ (200 :: sMod)
theorem k_inj {K : Nat → Nat} : ∀ (A S : List Nat), A.map K = S → (S.filter (fun k => Nat.ble 40 k)).Nodup → ∀ b ∈ A, ∀ b' ∈ A, K b = K b' → 40 ≤ K b → b = b' := by
  intro A
  induction A with
  | nil => intro S _ _ b hb; cases hb
  | cons a A ih =>
    intro S hS hn b hb b' hb' he h40
    rw [← hS, List.map_cons] at hn
    have up : ∀ c ∈ A, 40 ≤ K c → K c ∈ (A.map K).filter (fun k => Nat.ble 40 k) := fun c hc h => List.mem_filter.mpr ⟨List.mem_map_of_mem hc, by simpa using h⟩
    by_cases h : Nat.ble 40 (K a) = true
    · rw [List.filter_cons_of_pos h] at hn
      obtain ⟨n1, n2⟩ := List.nodup_cons.mp hn
      rcases List.mem_cons.mp hb with e | hbA
      · rcases List.mem_cons.mp hb' with e' | hbA'
        · rw [e, e']
        · have h2 := up b' hbA' (by omega)
          rw [← he, e] at h2
          exact absurd h2 n1
      · rcases List.mem_cons.mp hb' with e' | hbA'
        · have h2 := up b hbA h40
          rw [he, e'] at h2
          exact absurd h2 n1
        · exact ih _ rfl n2 b hbA b' hbA' he h40
    · rw [List.filter_cons_of_neg h] at hn
      have ha : ¬ 40 ≤ K a := by simpa using h
      rcases List.mem_cons.mp hb with e | hbA
      · rw [e] at h40; exact absurd h40 ha
      · rcases List.mem_cons.mp hb' with e' | hbA'
        · rw [he, e'] at h40; exact absurd h40 ha
        · exact ih _ rfl hn b hbA b' hbA' he h40
theorem sAll_nd : (sAll.filter (fun k => Nat.ble 40 k)).Nodup := by decide +kernel
theorem sAll_ex : ∀ k, 40 ≤ k → (zkd k).1 ≠ 0 → k ∈ sAll := by
  have h : ((List.range 240).all fun k => Nat.blt k 40 || (zkd k).1 == 0 || decide (k ∈ sAll)) = true := by decide +kernel
  intro k hk h0
  by_cases hlt : k < 240
  · simp only [List.all_eq_true, List.mem_range, Bool.or_eq_true, decide_eq_true_eq, beq_iff_eq] at h
    rcases h k hlt with (h1 | h1) | h1
    · have : k < 40 := by simpa using h1
      omega
    · exact absurd h1 h0
    · exact h1
  · exfalso
    apply h0
    unfold zkd
    have e : zktab.getD (k / 20) [] = [] := by
      rw [List.getD_eq_getElem?_getD, List.getElem?_eq_none (by show 12 ≤ k / 20; omega)]
      rfl
    rw [e]
    rfl
theorem sAll_20 : ∀ k ∈ sAll, k ≠ 20 := by decide +kernel
theorem k_in {K : Nat → Nat} {A S : List Nat} (h : A.map K = S) {k : Nat} (hk : k ∈ S) : ∃ b ∈ A, K b = k := by
  rw [← h] at hk
  obtain ⟨b, hb, e⟩ := List.mem_map.mp hk
  exact ⟨b, hb, e⟩
theorem gi_row {cy : Nat → ClassId} {K : Nat → Nat} {B : Int} {L : List Nat} {f : Nat → va_E} (hh : hok cy K B L f) {b k i : Nat} (hb : b ∈ L) (hk : K b = k) (hz : (zkd k).1 = 2) : cval K (f b) i = some (gi (f b) i) := by
  have h := hh.1 b hb
  rw [hk] at h
  unfold cok at h
  rw [hz] at h
  obtain ⟨g, e, -⟩ := h
  rw [e]
  rfl
theorem Psi0 {g : Nat → Int} (h : ∀ i, g i = 0) (t w : Int) : Psi g t w := by
  refine ⟨fun k _ hk => ?_, fun s _ k _ hk => ?_⟩
  · rw [h] at hk
    omega
  · rw [h] at hk
    omega
theorem hok_first {cy : Nat → ClassId} {K : Nat → Nat} {L : List Nat} {f : Nat → va_E} (hc : ∀ b ∈ L, cok cy K 0 L (K b) (f b)) (hS : L.map K = sAll) (h203 : ∀ b ∈ L, K b = 203 → ∀ i, gi (f b) i = 0) (h1 : ∀ b ∈ L, (K b = 201 ∨ K b = 202) → gi (f b) 0 = 0 ∧ gi (f b) 1 = 0) : hok cy K 0 L f := by
  refine ⟨hc, k_inj L sAll hS sAll_nd, ⟨?_, ?_, ?_⟩, ?_, ?_⟩
  · intro k hk h0
    exact k_in hS (sAll_ex k hk h0)
  · intro b hb b' _ hk
    exact absurd hk (sAll_20 _ (by rw [← hS]; exact List.mem_map_of_mem hb))
  · intro b hb hk
    exact absurd hk (sAll_20 _ (by rw [← hS]; exact List.mem_map_of_mem hb))
  · intro b hb hk m _ _
    exact Psi0 (h203 b hb hk) _ _
  · intro b hb hk
    obtain ⟨e0, e1⟩ := h1 b hb hk
    rw [e0, e1]
    decide
/-! All contracts. -/
theorem CMup {X0 : zC0} {n : Nat} (H : ∀ j, j < n → CMj X0 j) (h : CMj X0 n) : ∀ j, j < n + 1 → CMj X0 j := fun j hj => by
  by_cases e : j = n
  · rw [e]; exact h
  · exact H j (by omega)
theorem CH0 {X0 : zC0} : ∀ j, j < 0 → CMj X0 j := fun j hj => absurd hj (Nat.not_lt_zero j)
theorem CH20 {X0 : zC0} : ∀ j, j < 20 → CMj X0 j := by
  have h0 := CH0 (X0 := X0)
  have h1 := CMup h0 (m0 h0)
  have h2 := CMup h1 (m1 h1)
  have h3 := CMup h2 (m2 h2)
  have h4 := CMup h3 (m3 h3)
  have h5 := CMup h4 (m4 h4)
  have h6 := CMup h5 (m5 h5)
  have h7 := CMup h6 (m6 h6)
  have h8 := CMup h7 (m7 h7)
  have h9 := CMup h8 (m8 h8)
  have h10 := CMup h9 (m9 h9)
  have h11 := CMup h10 (m10 h10)
  have h12 := CMup h11 (m11 h11)
  have h13 := CMup h12 (m12 h12)
  have h14 := CMup h13 (m13 h13)
  have h15 := CMup h14 (m14 h14)
  have h16 := CMup h15 (m15 h15)
  have h17 := CMup h16 (m16 h16)
  have h18 := CMup h17 (m17 h17)
  have h19 := CMup h18 (m18 h18)
  have h20 := CMup h19 (m19 h19)
  exact h20
theorem CH40 {X0 : zC0} : ∀ j, j < 40 → CMj X0 j := by
  have h20 := CH20 (X0 := X0)
  have h21 := CMup h20 (m20 h20)
  have h22 := CMup h21 (m21 h21)
  have h23 := CMup h22 (m22 h22)
  have h24 := CMup h23 (m23 h23)
  have h25 := CMup h24 (m24 h24)
  have h26 := CMup h25 (m25 h25)
  have h27 := CMup h26 (m26 h26)
  have h28 := CMup h27 (m27 h27)
  have h29 := CMup h28 (m28 h28)
  have h30 := CMup h29 (m29 h29)
  have h31 := CMup h30 (m30 h30)
  have h32 := CMup h31 (m31 h31)
  have h33 := CMup h32 (m32 h32)
  have h34 := CMup h33 (m33 h33)
  have h35 := CMup h34 (m34 h34)
  have h36 := CMup h35 (m35 h35)
  have h37 := CMup h36 (m36 h36)
  have h38 := CMup h37 (m37 h37)
  have h39 := CMup h38 (m38 h38)
  have h40 := CMup h39 (m39 h39)
  exact h40
theorem CH60 {X0 : zC0} : ∀ j, j < 60 → CMj X0 j := by
  have h40 := CH40 (X0 := X0)
  have h41 := CMup h40 (m40 h40)
  have h42 := CMup h41 (m41 h41)
  have h43 := CMup h42 (m42 h42)
  have h44 := CMup h43 (m43 h43)
  have h45 := CMup h44 (m44 h44)
  have h46 := CMup h45 (m45 h45)
  have h47 := CMup h46 (m46 h46)
  have h48 := CMup h47 (m47 h47)
  have h49 := CMup h48 (m48 h48)
  have h50 := CMup h49 (m49 h49)
  have h51 := CMup h50 (m50 h50)
  have h52 := CMup h51 (m51 h51)
  have h53 := CMup h52 (m52 h52)
  have h54 := CMup h53 (m53 h53)
  have h55 := CMup h54 (m54 h54)
  have h56 := CMup h55 (m55 h55)
  have h57 := CMup h56 (m56 h56)
  have h58 := CMup h57 (m57 h57)
  have h59 := CMup h58 (m58 h58)
  have h60 := CMup h59 (m59 h59)
  exact h60
theorem CH80 {X0 : zC0} : ∀ j, j < 80 → CMj X0 j := by
  have h60 := CH60 (X0 := X0)
  have h61 := CMup h60 (m60 h60)
  have h62 := CMup h61 (m61 h61)
  have h63 := CMup h62 (m62 h62)
  have h64 := CMup h63 (m63 h63)
  have h65 := CMup h64 (m64 h64)
  have h66 := CMup h65 (m65 h65)
  have h67 := CMup h66 (m66 h66)
  have h68 := CMup h67 (m67 h67)
  have h69 := CMup h68 (m68 h68)
  have h70 := CMup h69 (m69 h69)
  have h71 := CMup h70 (m70 h70)
  have h72 := CMup h71 (m71 h71)
  have h73 := CMup h72 (m72 h72)
  have h74 := CMup h73 (m73 h73)
  have h75 := CMup h74 (m74 h74)
  have h76 := CMup h75 (m75 h75)
  have h77 := CMup h76 (m76 h76)
  have h78 := CMup h77 (m77 h77)
  have h79 := CMup h78 (m78 h78)
  have h80 := CMup h79 (m79 h79)
  exact h80
theorem CH100 {X0 : zC0} : ∀ j, j < 100 → CMj X0 j := by
  have h80 := CH80 (X0 := X0)
  have h81 := CMup h80 (m80 h80)
  have h82 := CMup h81 (m81 h81)
  have h83 := CMup h82 (m82 h82)
  have h84 := CMup h83 (m83 h83)
  have h85 := CMup h84 (m84 h84)
  have h86 := CMup h85 (m85 h85)
  have h87 := CMup h86 (m86 h86)
  have h88 := CMup h87 (m87 h87)
  have h89 := CMup h88 (m88 h88)
  have h90 := CMup h89 (m89 h89)
  have h91 := CMup h90 (m90 h90)
  have h92 := CMup h91 (m91 h91)
  have h93 := CMup h92 (m92 h92)
  have h94 := CMup h93 (m93 h93)
  have h95 := CMup h94 (m94 h94)
  have h96 := CMup h95 (m95 h95)
  have h97 := CMup h96 (m96 h96)
  have h98 := CMup h97 (m97 h97)
  have h99 := CMup h98 (m98 h98)
  have h100 := CMup h99 (m99 h99)
  exact h100
theorem CH120 {X0 : zC0} : ∀ j, j < 120 → CMj X0 j := by
  have h100 := CH100 (X0 := X0)
  have h101 := CMup h100 (m100 h100)
  have h102 := CMup h101 (m101 h101)
  have h103 := CMup h102 (m102 h102)
  have h104 := CMup h103 (m103 h103)
  have h105 := CMup h104 (m104 h104)
  have h106 := CMup h105 (m105 h105)
  have h107 := CMup h106 (m106 h106)
  have h108 := CMup h107 (m107 h107)
  have h109 := CMup h108 (m108 h108)
  have h110 := CMup h109 (m109 h109)
  have h111 := CMup h110 (m110 h110)
  have h112 := CMup h111 (m111 h111)
  have h113 := CMup h112 (m112 h112)
  have h114 := CMup h113 (m113 h113)
  have h115 := CMup h114 (m114 h114)
  have h116 := CMup h115 (m115 h115)
  have h117 := CMup h116 (m116 h116)
  have h118 := CMup h117 (m117 h117)
  have h119 := CMup h118 (m118 h118)
  have h120 := CMup h119 (m119 h119)
  exact h120
theorem CH140 {X0 : zC0} : ∀ j, j < 140 → CMj X0 j := by
  have h120 := CH120 (X0 := X0)
  have h121 := CMup h120 (m120 h120)
  have h122 := CMup h121 (m121 h121)
  have h123 := CMup h122 (m122 h122)
  have h124 := CMup h123 (m123 h123)
  have h125 := CMup h124 (m124 h124)
  have h126 := CMup h125 (m125 h125)
  have h127 := CMup h126 (m126 h126)
  have h128 := CMup h127 (m127 h127)
  have h129 := CMup h128 (m128 h128)
  have h130 := CMup h129 (m129 h129)
  have h131 := CMup h130 (m130 h130)
  have h132 := CMup h131 (m131 h131)
  have h133 := CMup h132 (m132 h132)
  have h134 := CMup h133 (m133 h133)
  have h135 := CMup h134 (m134 h134)
  have h136 := CMup h135 (m135 h135)
  have h137 := CMup h136 (m136 h136)
  have h138 := CMup h137 (m137 h137)
  have h139 := CMup h138 (m138 h138)
  have h140 := CMup h139 (m139 h139)
  exact h140
theorem CH160 {X0 : zC0} : ∀ j, j < 160 → CMj X0 j := by
  have h140 := CH140 (X0 := X0)
  have h141 := CMup h140 (m140 h140)
  have h142 := CMup h141 (m141 h141)
  have h143 := CMup h142 (m142 h142)
  have h144 := CMup h143 (m143 h143)
  have h145 := CMup h144 (m144 h144)
  have h146 := CMup h145 (m145 h145)
  have h147 := CMup h146 (m146 h146)
  have h148 := CMup h147 (m147 h147)
  have h149 := CMup h148 (m148 h148)
  have h150 := CMup h149 (m149 h149)
  have h151 := CMup h150 (m150 h150)
  have h152 := CMup h151 (m151 h151)
  have h153 := CMup h152 (m152 h152)
  have h154 := CMup h153 (m153 h153)
  have h155 := CMup h154 (m154 h154)
  have h156 := CMup h155 (m155 h155)
  have h157 := CMup h156 (m156 h156)
  have h158 := CMup h157 (m157 h157)
  have h159 := CMup h158 (m158 h158)
  have h160 := CMup h159 (m159 h159)
  exact h160
theorem CH180 {X0 : zC0} : ∀ j, j < 180 → CMj X0 j := by
  have h160 := CH160 (X0 := X0)
  have h161 := CMup h160 (m160 h160)
  have h162 := CMup h161 (m161 h161)
  have h163 := CMup h162 (m162 h162)
  have h164 := CMup h163 (m163 h163)
  have h165 := CMup h164 (m164 h164)
  have h166 := CMup h165 (m165 h165)
  have h167 := CMup h166 (m166 h166)
  have h168 := CMup h167 (m167 h167)
  have h169 := CMup h168 (m168 h168)
  have h170 := CMup h169 (m169 h169)
  have h171 := CMup h170 (m170 h170)
  have h172 := CMup h171 (m171 h171)
  have h173 := CMup h172 (m172 h172)
  have h174 := CMup h173 (m173 h173)
  have h175 := CMup h174 (m174 h174)
  have h176 := CMup h175 (m175 h175)
  have h177 := CMup h176 (m176 h176)
  have h178 := CMup h177 (m177 h177)
  have h179 := CMup h178 (m178 h178)
  have h180 := CMup h179 (m179 h179)
  exact h180
theorem CH200 {X0 : zC0} : ∀ j, j < 200 → CMj X0 j := by
  have h180 := CH180 (X0 := X0)
  have h181 := CMup h180 (m180 h180)
  have h182 := CMup h181 (m181 h181)
  have h183 := CMup h182 (m182 h182)
  have h184 := CMup h183 (m183 h183)
  have h185 := CMup h184 (m184 h184)
  have h186 := CMup h185 (m185 h185)
  have h187 := CMup h186 (m186 h186)
  have h188 := CMup h187 (m187 h187)
  have h189 := CMup h188 (m188 h188)
  have h190 := CMup h189 (m189 h189)
  have h191 := CMup h190 (m190 h190)
  have h192 := CMup h191 (m191 h191)
  have h193 := CMup h192 (m192 h192)
  have h194 := CMup h193 (m193 h193)
  have h195 := CMup h194 (m194 h194)
  have h196 := CMup h195 (m195 h195)
  have h197 := CMup h196 (m196 h196)
  have h198 := CMup h197 (m197 h197)
  have h199 := CMup h198 (hm198 h198)
  have h200 := CMup h199 (m199 h199)
  exact h200
theorem CH220 {X0 : zC0} : ∀ j, j < 220 → CMj X0 j := by
  have h200 := CH200 (X0 := X0)
  have h201 := CMup h200 (m200 h200)
  have h202 := CMup h201 (hm201 h201)
  have h203 := CMup h202 (m202 h202)
  have h204 := CMup h203 (m203 h203)
  have h205 := CMup h204 (m204 h204)
  have h206 := CMup h205 (m205 h205)
  have h207 := CMup h206 (m206 h206)
  have h208 := CMup h207 (m207 h207)
  have h209 := CMup h208 (m208 h208)
  have h210 := CMup h209 (m209 h209)
  have h211 := CMup h210 (m210 h210)
  have h212 := CMup h211 (hm211 h211)
  have h213 := CMup h212 (m212 h212)
  have h214 := CMup h213 (hm213 h213)
  have h215 := CMup h214 (m214 h214)
  have h216 := CMup h215 (m215 h215)
  have h217 := CMup h216 (m216 h216)
  have h218 := CMup h217 (hm217 h217)
  have h219 := CMup h218 (m218 h218)
  have h220 := CMup h219 (hm219 h219)
  exact h220
theorem CH240 {X0 : zC0} : ∀ j, j < 240 → CMj X0 j := by
  have h220 := CH220 (X0 := X0)
  have h221 := CMup h220 (m220 h220)
  have h222 := CMup h221 (m221 h221)
  have h223 := CMup h222 (hm222 h222)
  have h224 := CMup h223 (m223 h223)
  have h225 := CMup h224 (m224 h224)
  have h226 := CMup h225 (m225 h225)
  have h227 := CMup h226 (hm226 h226)
  have h228 := CMup h227 (m227 h227)
  have h229 := CMup h228 (m228 h228)
  have h230 := CMup h229 (m229 h229)
  have h231 := CMup h230 (m230 h230)
  have h232 := CMup h231 (m231 h231)
  have h233 := CMup h232 (m232 h232)
  have h234 := CMup h233 (m233 h233)
  have h235 := CMup h234 (m234 h234)
  have h236 := CMup h235 (m235 h235)
  have h237 := CMup h236 (m236 h236)
  have h238 := CMup h237 (m237 h237)
  have h239 := CMup h238 (m238 h238)
  have h240 := CMup h239 (m239 h239)
  exact h240
theorem CH260 {X0 : zC0} : ∀ j, j < 260 → CMj X0 j := by
  have h240 := CH240 (X0 := X0)
  have h241 := CMup h240 (m240 h240)
  have h242 := CMup h241 (m241 h241)
  have h243 := CMup h242 (m242 h242)
  have h244 := CMup h243 (m243 h243)
  have h245 := CMup h244 (m244 h244)
  have h246 := CMup h245 (m245 h245)
  have h247 := CMup h246 (m246 h246)
  have h248 := CMup h247 (m247 h247)
  have h249 := CMup h248 (m248 h248)
  have h250 := CMup h249 (m249 h249)
  have h251 := CMup h250 (m250 h250)
  have h252 := CMup h251 (m251 h251)
  have h253 := CMup h252 (m252 h252)
  have h254 := CMup h253 (m253 h253)
  have h255 := CMup h254 (m254 h254)
  have h256 := CMup h255 (m255 h255)
  have h257 := CMup h256 (m256 h256)
  have h258 := CMup h257 (m257 h257)
  have h259 := CMup h258 (m258 h258)
  have h260 := CMup h259 (m259 h259)
  exact h260
theorem CH280 {X0 : zC0} : ∀ j, j < 280 → CMj X0 j := by
  have h260 := CH260 (X0 := X0)
  have h261 := CMup h260 (m260 h260)
  have h262 := CMup h261 (m261 h261)
  have h263 := CMup h262 (m262 h262)
  have h264 := CMup h263 (m263 h263)
  have h265 := CMup h264 (m264 h264)
  have h266 := CMup h265 (m265 h265)
  have h267 := CMup h266 (m266 h266)
  have h268 := CMup h267 (m267 h267)
  have h269 := CMup h268 (m268 h268)
  have h270 := CMup h269 (m269 h269)
  have h271 := CMup h270 (m270 h270)
  have h272 := CMup h271 (m271 h271)
  have h273 := CMup h272 (m272 h272)
  have h274 := CMup h273 (m273 h273)
  have h275 := CMup h274 (m274 h274)
  have h276 := CMup h275 (m275 h275)
  have h277 := CMup h276 (m276 h276)
  have h278 := CMup h277 (m277 h277)
  have h279 := CMup h278 (m278 h278)
  have h280 := CMup h279 (m279 h279)
  exact h280
theorem CH300 {X0 : zC0} : ∀ j, j < 300 → CMj X0 j := by
  have h280 := CH280 (X0 := X0)
  have h281 := CMup h280 (m280 h280)
  have h282 := CMup h281 (m281 h281)
  have h283 := CMup h282 (m282 h282)
  have h284 := CMup h283 (m283 h283)
  have h285 := CMup h284 (m284 h284)
  have h286 := CMup h285 (m285 h285)
  have h287 := CMup h286 (m286 h286)
  have h288 := CMup h287 (m287 h287)
  have h289 := CMup h288 (m288 h288)
  have h290 := CMup h289 (m289 h289)
  have h291 := CMup h290 (m290 h290)
  have h292 := CMup h291 (m291 h291)
  have h293 := CMup h292 (m292 h292)
  have h294 := CMup h293 (m293 h293)
  have h295 := CMup h294 (m294 h294)
  have h296 := CMup h295 (m295 h295)
  have h297 := CMup h296 (m296 h296)
  have h298 := CMup h297 (m297 h297)
  have h299 := CMup h298 (m298 h298)
  have h300 := CMup h299 (m299 h299)
  exact h300
theorem CH320 {X0 : zC0} : ∀ j, j < 320 → CMj X0 j := by
  have h300 := CH300 (X0 := X0)
  have h301 := CMup h300 (m300 h300)
  have h302 := CMup h301 (m301 h301)
  have h303 := CMup h302 (m302 h302)
  have h304 := CMup h303 (m303 h303)
  have h305 := CMup h304 (m304 h304)
  have h306 := CMup h305 (m305 h305)
  have h307 := CMup h306 (m306 h306)
  have h308 := CMup h307 (m307 h307)
  have h309 := CMup h308 (m308 h308)
  have h310 := CMup h309 (hm309 h309)
  have h311 := CMup h310 (m310 h310)
  have h312 := CMup h311 (m311 h311)
  have h313 := CMup h312 (m312 h312)
  have h314 := CMup h313 (m313 h313)
  have h315 := CMup h314 (m314 h314)
  have h316 := CMup h315 (m315 h315)
  have h317 := CMup h316 (m316 h316)
  have h318 := CMup h317 (m317 h317)
  have h319 := CMup h318 (m318 h318)
  have h320 := CMup h319 (m319 h319)
  exact h320
theorem CH340 {X0 : zC0} : ∀ j, j < 340 → CMj X0 j := by
  have h320 := CH320 (X0 := X0)
  have h321 := CMup h320 (m320 h320)
  have h322 := CMup h321 (m321 h321)
  have h323 := CMup h322 (hm322 h322)
  have h324 := CMup h323 (m323 h323)
  have h325 := CMup h324 (hm324 h324)
  have h326 := CMup h325 (m325 h325)
  have h327 := CMup h326 (m326 h326)
  have h328 := CMup h327 (m327 h327)
  have h329 := CMup h328 (m328 h328)
  have h330 := CMup h329 (m329 h329)
  have h331 := CMup h330 (m330 h330)
  have h332 := CMup h331 (m331 h331)
  have h333 := CMup h332 (m332 h332)
  have h334 := CMup h333 (m333 h333)
  have h335 := CMup h334 (m334 h334)
  have h336 := CMup h335 (m335 h335)
  have h337 := CMup h336 (m336 h336)
  have h338 := CMup h337 (m337 h337)
  have h339 := CMup h338 (hm338 h338)
  have h340 := CMup h339 (m339 h339)
  exact h340
theorem CH360 {X0 : zC0} : ∀ j, j < 360 → CMj X0 j := by
  have h340 := CH340 (X0 := X0)
  have h341 := CMup h340 (hm340 h340)
  have h342 := CMup h341 (m341 h341)
  have h343 := CMup h342 (hm342 h342)
  have h344 := CMup h343 (m343 h343)
  have h345 := CMup h344 (m344 h344)
  have h346 := CMup h345 (m345 h345)
  have h347 := CMup h346 (m346 h346)
  have h348 := CMup h347 (m347 h347)
  have h349 := CMup h348 (m348 h348)
  have h350 := CMup h349 (m349 h349)
  have h351 := CMup h350 (m350 h350)
  have h352 := CMup h351 (m351 h351)
  have h353 := CMup h352 (m352 h352)
  have h354 := CMup h353 (m353 h353)
  have h355 := CMup h354 (m354 h354)
  have h356 := CMup h355 (hm355 h355)
  have h357 := CMup h356 (m356 h356)
  have h358 := CMup h357 (m357 h357)
  have h359 := CMup h358 (m358 h358)
  have h360 := CMup h359 (m359 h359)
  exact h360
theorem CH380 {X0 : zC0} : ∀ j, j < 380 → CMj X0 j := by
  have h360 := CH360 (X0 := X0)
  have h361 := CMup h360 (m360 h360)
  have h362 := CMup h361 (m361 h361)
  have h363 := CMup h362 (m362 h362)
  have h364 := CMup h363 (m363 h363)
  have h365 := CMup h364 (m364 h364)
  have h366 := CMup h365 (m365 h365)
  have h367 := CMup h366 (m366 h366)
  have h368 := CMup h367 (m367 h367)
  have h369 := CMup h368 (m368 h368)
  have h370 := CMup h369 (m369 h369)
  have h371 := CMup h370 (m370 h370)
  have h372 := CMup h371 (m371 h371)
  have h373 := CMup h372 (m372 h372)
  have h374 := CMup h373 (m373 h373)
  have h375 := CMup h374 (m374 h374)
  have h376 := CMup h375 (m375 h375)
  have h377 := CMup h376 (m376 h376)
  have h378 := CMup h377 (m377 h377)
  have h379 := CMup h378 (m378 h378)
  have h380 := CMup h379 (m379 h379)
  exact h380
theorem CH400 {X0 : zC0} : ∀ j, j < 400 → CMj X0 j := by
  have h380 := CH380 (X0 := X0)
  have h381 := CMup h380 (m380 h380)
  have h382 := CMup h381 (m381 h381)
  have h383 := CMup h382 (m382 h382)
  have h384 := CMup h383 (m383 h383)
  have h385 := CMup h384 (m384 h384)
  have h386 := CMup h385 (m385 h385)
  have h387 := CMup h386 (m386 h386)
  have h388 := CMup h387 (m387 h387)
  have h389 := CMup h388 (m388 h388)
  have h390 := CMup h389 (m389 h389)
  have h391 := CMup h390 (hm390 h390)
  have h392 := CMup h391 (m391 h391)
  have h393 := CMup h392 (m392 h392)
  have h394 := CMup h393 (m393 h393)
  have h395 := CMup h394 (m394 h394)
  have h396 := CMup h395 (m395 h395)
  have h397 := CMup h396 (m396 h396)
  have h398 := CMup h397 (m397 h397)
  have h399 := CMup h398 (m398 h398)
  have h400 := CMup h399 (m399 h399)
  exact h400
theorem CH420 {X0 : zC0} : ∀ j, j < 420 → CMj X0 j := by
  have h400 := CH400 (X0 := X0)
  have h401 := CMup h400 (m400 h400)
  have h402 := CMup h401 (m401 h401)
  have h403 := CMup h402 (m402 h402)
  have h404 := CMup h403 (m403 h403)
  have h405 := CMup h404 (m404 h404)
  have h406 := CMup h405 (m405 h405)
  have h407 := CMup h406 (m406 h406)
  have h408 := CMup h407 (m407 h407)
  have h409 := CMup h408 (m408 h408)
  have h410 := CMup h409 (m409 h409)
  have h411 := CMup h410 (m410 h410)
  have h412 := CMup h411 (m411 h411)
  have h413 := CMup h412 (hm412 h412)
  have h414 := CMup h413 (m413 h413)
  have h415 := CMup h414 (m414 h414)
  have h416 := CMup h415 (m415 h415)
  have h417 := CMup h416 (m416 h416)
  have h418 := CMup h417 (m417 h417)
  have h419 := CMup h418 (m418 h418)
  have h420 := CMup h419 (m419 h419)
  exact h420
theorem CH427 {X0 : zC0} : ∀ j, j < 427 → CMj X0 j := by
  have h420 := CH420 (X0 := X0)
  have h421 := CMup h420 (m420 h420)
  have h422 := CMup h421 (m421 h421)
  have h423 := CMup h422 (m422 h422)
  have h424 := CMup h423 (m423 h423)
  have h425 := CMup h424 (m424 h424)
  have h426 := CMup h425 (m425 h425)
  have h427 := CMup h426 (m426 h426)
  exact h427
