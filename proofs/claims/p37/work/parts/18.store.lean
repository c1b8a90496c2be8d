/-! Rows that are written. -/
def lbq (env : EN) (iq : List EX) (e : EX) : Int := iq.foldl (fun m s => max m (lb env (xsub e s))) (lb env e)
def ubq (env : EN) (iq : List EX) (e : EX) : Int := iq.foldl (fun m s => min m (ub env (xadd e s))) (ub env e)
theorem lbq_ok {env : EN} {iq : List EX} {ν : Nat → Int} (h : eok env ν) (hq : ∀ s ∈ iq, 0 ≤ xv ν s) (e : EX) : lbq env iq e ≤ xv ν e := by
  unfold lbq
  have : ∀ (l : List EX) (m : Int), (∀ s ∈ l, 0 ≤ xv ν s) → m ≤ xv ν e → l.foldl (fun m s => max m (lb env (xsub e s))) m ≤ xv ν e := by
    intro l
    induction l with
    | nil => intro m _ hm; exact hm
    | cons s l ih =>
      intro m hl hm
      refine ih _ (fun x hx => hl x (List.mem_cons_of_mem _ hx)) ?_
      have h1 := lb_ok h (xsub e s)
      rw [xv_sub] at h1
      have := hl s List.mem_cons_self
      show max m (lb env (xsub e s)) ≤ xv ν e
      omega
  exact this iq _ hq (lb_ok h e)
theorem ubq_ok {env : EN} {iq : List EX} {ν : Nat → Int} (h : eok env ν) (hq : ∀ s ∈ iq, 0 ≤ xv ν s) (e : EX) : xv ν e ≤ ubq env iq e := by
  unfold ubq
  have : ∀ (l : List EX) (m : Int), (∀ s ∈ l, 0 ≤ xv ν s) → xv ν e ≤ m → xv ν e ≤ l.foldl (fun m s => min m (ub env (xadd e s))) m := by
    intro l
    induction l with
    | nil => intro m _ hm; exact hm
    | cons s l ih =>
      intro m hl hm
      refine ih _ (fun x hx => hl x (List.mem_cons_of_mem _ hx)) ?_
      have h1 := ub_ok h (xadd e s)
      rw [xv_add] at h1
      have := hl s List.mem_cons_self
      show xv ν e ≤ min m (ub env (xadd e s))
      omega
  exact this iq _ hq (ub_ok h e)
def regT : List (Nat × Int × Int) := [(0, 0, 0), (1, 1, 1), (2, 2, 2), (3, 3, 3), (4, 4, 4), (5, 5, 5), (6, 6, 6), (7, 7, 7), (8, 8, 8), (9, 9, 9), (10, 10, 10), (11, 11, 11), (12, 12, 12), (13, 13, 13), (14, 14, 14), (15, 15, 15), (16, 16, 57), (17, 58, 113), (18, 114, 131), (19, 132, 155), (20, 156, 185), (21, 186, 1745), (22, 1746, 9937), (23, 9938, 2147483647)]
theorem regT_ok (i : Nat) (hi : i ≤ 2147483647) : ∃ q ∈ regT, q.1 = regA i ∧ q.2.1 ≤ (i : Int) ∧ (i : Int) ≤ q.2.2 := by
  unfold regA
  simp only [Nat.blt_eq]
  split
  · rename_i h
    refine ⟨(i, i, i), ?_, rfl, by show (i : Int) ≤ i; omega, by show (i : Int) ≤ i; omega⟩
    have : i = 0 ∨ i = 1 ∨ i = 2 ∨ i = 3 ∨ i = 4 ∨ i = 5 ∨ i = 6 ∨ i = 7 ∨ i = 8 ∨ i = 9 ∨ i = 10 ∨ i = 11 ∨ i = 12 ∨ i = 13 ∨ i = 14 ∨ i = 15 := by omega
    rcases this with rfl | rfl | rfl | rfl | rfl | rfl | rfl | rfl | rfl | rfl | rfl | rfl | rfl | rfl | rfl | rfl <;> decide
  · split
    · exact ⟨(16, 16, 57), by decide, rfl, by show (16 : Int) ≤ i; omega, by show (i : Int) ≤ 57; omega⟩
    · split
      · exact ⟨(17, 58, 113), by decide, rfl, by show (58 : Int) ≤ i; omega, by show (i : Int) ≤ 113; omega⟩
      · split
        · exact ⟨(18, 114, 131), by decide, rfl, by show (114 : Int) ≤ i; omega, by show (i : Int) ≤ 131; omega⟩
        · split
          · exact ⟨(19, 132, 155), by decide, rfl, by show (132 : Int) ≤ i; omega, by show (i : Int) ≤ 155; omega⟩
          · split
            · exact ⟨(20, 156, 185), by decide, rfl, by show (156 : Int) ≤ i; omega, by show (i : Int) ≤ 185; omega⟩
            · split
              · exact ⟨(21, 186, 1745), by decide, rfl, by show (186 : Int) ≤ i; omega, by show (i : Int) ≤ 1745; omega⟩
              · split
                · exact ⟨(22, 1746, 9937), by decide, rfl, by show (1746 : Int) ≤ i; omega, by show (i : Int) ≤ 9937; omega⟩
                · exact ⟨(23, 9938, 2147483647), by decide, rfl, by show (9938 : Int) ≤ i; omega, by show (i : Int) ≤ 2147483647; omega⟩
/-- every region that the place may lie in is told -/
def inR (p : Nat → Bool) (G : EG) (k : Nat) (ix : EX) : Bool := if isA k then regT.all (fun q => decide (ubq G.1 G.2.1 ix < q.2.1) || decide (q.2.2 < lbq G.1 G.2.1 ix) || p q.1) else p 0
def apart (G : EG) (x y : EX) : Bool := ge0 G.1 G.2.1 (xk (xsub x y) (-1)) || ge0 G.1 G.2.1 (xk (xsub y x) (-1)) || G.2.2.1.any (fun s => s == xsub x y) || G.2.2.1.any (fun s => s == xsub y x)
def meetL (k : Nat) : List Int → Int × Int × Bool
  | [] => (-2147483648, 2147483647, false)
  | z :: zs => (max (kbd k z.toNat).1 (meetL k zs).1, min (kbd k z.toNat).2.1 (meetL k zs).2.1, (kbd k z.toNat).2.2 || (meetL k zs).2.2)
theorem meetL_ok {k : Nat} {B x z : Int} : ∀ l : List Int, z ∈ l → (meetL k l).1 ≤ x → x ≤ (meetL k l).2.1 → ((meetL k l).2.2 = true → x ≤ B) → bok B (kbd k z.toNat) x := by
  intro l
  induction l with
  | nil => intro h; cases h
  | cons a l ih =>
    intro hz h1 h2 h3
    simp only [meetL] at h1 h2 h3
    rcases List.mem_cons.mp hz with rfl | hz
    · exact ⟨by omega, by omega, fun hf => h3 (by rw [hf]; rfl)⟩
    · exact ih hz (by omega) (by omega) (fun hf => h3 (by rw [hf, Bool.or_true]))
def meetK (k : Nat) (env : EN) (e : EX) : Option (Int × Int × Bool) := match (zkd k).2.2 with
  | d :: _ => some (d.2.1, d.2.2, false)
  | [] => if !(k == kMTX) && decide (1746 ≤ lb env e) then some (-2147483648, 2147483647, false) else match enumT env e.2 with
    | some l => some (meetL k (l.map (fun z => e.1 + z)))
    | none => none
theorem mbd_hi {i : Nat} (h : 1746 ≤ i) : mbd i = (-2147483648, 2147483647, false) := by
  unfold mbd
  rw [if_neg (by omega), if_neg (by omega), if_neg (by omega), if_neg (by omega), if_pos (by simp [h])]
theorem meetK_ok {k : Nat} {env : EN} {ν : Nat → Int} (h : eok env ν) {e : EX} {B : Int} {x : Int} {b : Int × Int × Bool} (hm : meetK k env e = some b) (h1 : b.1 ≤ x) (h2 : x ≤ b.2.1) (h3 : b.2.2 = true → x ≤ B) : bok B (kbd k (xv ν e).toNat) x := by
  unfold meetK at hm
  split at hm
  · rename_i d ds hd
    cases hm
    unfold kbd
    rw [hd]
    exact ⟨h1, h2, fun h => by cases h⟩
  · rename_i hd
    split at hm
    · rename_i hc
      simp only [Bool.and_eq_true, Bool.not_eq_true', beq_eq_false_iff_ne, decide_eq_true_eq] at hc
      cases hm
      have := lb_ok h e
      unfold kbd
      rw [hd]
      dsimp only
      rw [if_neg (by simpa using hc.1), mbd_hi (by omega)]
      exact ⟨h1, h2, fun h => by cases h⟩
    · split at hm
      · rename_i l hl
        cases hm
        exact meetL_ok _ (List.mem_map.mpr ⟨xvT ν e.2, enumT_ok h _ _ hl, rfl⟩) h1 h2 h3
      · cases hm
def sub3 (p q : Int × Int × Bool) : Bool := decide (q.1 ≤ p.1) && decide (p.2.1 ≤ q.2.1) && (p.2.2 || !q.2.2)
/-- the number comes from a place whose bounds are those of this one -/
def pvin (G : EG) (k : Nat) (ix e : EX) : Bool := match e with
  | (0, [(1, i)]) => (match enumT G.1 ix.2 with
    | some l => G.2.2.2.2.2.2.any (fun q => q.1 == i && Nat.blt q.2.1 1000 && q.2.2.2 == ix.2 && l.all (fun z => sub3 (kbd q.2.1 (q.2.2.1 + z).toNat) (kbd k (ix.1 + z).toNat)))
    | none => false)
  | _ => false
section ST
variable {K : Nat → Nat} {B : Int} {L : List Nat} {f : Nat → va_E} {ν : Nat → Int} {μ : Nat → Nat} {lv : EL} {st : List EV} {G : EG} {lvc : List (Nat × Value)} {stc : List Value} {X : EC} {cy : Nat → ClassId}
theorem inR_ok (h : Wd X K B L f ν μ lv st G lvc stc) {p : Nat → Bool} {k : Nat} {ix : EX} (hp : inR p G k ix = true) (h0 : 0 ≤ xv ν ix) (h1 : xv ν ix ≤ 2147483647) (hz : (zkd k).1 ≠ 1) : p (reg k (xv ν ix).toNat) = true := by
  unfold inR at hp
  unfold reg
  split at hp
  · rename_i ha
    rw [if_pos ha]
    obtain ⟨q, q1, q2, q3, q4⟩ := regT_ok (xv ν ix).toNat (by omega)
    have h2 := List.all_eq_true.mp hp q q1
    have h3 := lbq_ok h.2.2.2.1.1 h.2.2.2.1.2.1 ix
    have h4 := ubq_ok h.2.2.2.1.1 h.2.2.2.1.2.1 ix
    simp only [Bool.or_eq_true, decide_eq_true_eq] at h2
    rcases h2 with (h2 | h2) | h2
    · omega
    · omega
    · rw [← q2]
      exact h2
  · rename_i ha
    rw [if_neg ha, if_neg (by simpa using hz)]
    exact hp
theorem apart_ok (h : Wd X K B L f ν μ lv st G lvc stc) {x y : EX} (ha : apart G x y = true) : xv ν x ≠ xv ν y := by
  unfold apart at ha
  simp only [Bool.or_eq_true, List.any_eq_true, beq_iff_eq] at ha
  rcases ha with ((h1 | h1) | ⟨s, hs, rfl⟩) | ⟨s, hs, rfl⟩
  · have := ge0_ok h.2.2.2.1.1 h.2.2.2.1.2.1 h1
    rw [xv_k, xv_sub] at this
    omega
  · have := ge0_ok h.2.2.2.1.1 h.2.2.2.1.2.1 h1
    rw [xv_k, xv_sub] at this
    omega
  · have := h.2.2.2.1.2.2.1 _ hs
    rw [xv_sub] at this
    omega
  · have := h.2.2.2.1.2.2.1 _ hs
    rw [xv_sub] at this
    omega
theorem pvin_ok (h : Wd X K B L f ν μ lv st G lvc stc) {k : Nat} {ix e : EX} (hp : pvin G k ix e = true) : bok B (kbd k (xv ν ix).toNat) (xv ν e) := by
  unfold pvin at hp
  split at hp
  · rename_i i
    split at hp
    · rename_i l hl
      obtain ⟨q, hq, hq2⟩ := List.any_eq_true.mp hp
      simp only [Bool.and_eq_true, beq_iff_eq, Nat.blt_eq] at hq2
      obtain ⟨⟨⟨q1, q2⟩, q3⟩, q4⟩ := hq2
      have h7 := h.2.2.2.1.2.2.2.2.2.2 q hq
      unfold pvok at h7
      rw [if_pos q2, q1] at h7
      have hz := enumT_ok h.2.2.2.1.1 _ _ hl
      have h8 := List.all_eq_true.mp q4 _ hz
      have e1 : xv ν ix = ix.1 + xvT ν ix.2 := rfl
      have e2 : xv ν q.2.2 = q.2.2.1 + xvT ν ix.2 := by unfold xv; rw [q3]
      have e3 : xv ν (0, [(1, i)]) = ν i := by simp [xv, xvT]
      rw [e3, e1]
      rw [e2] at h7
      unfold sub3 at h8
      simp only [Bool.and_eq_true, Bool.or_eq_true, Bool.not_eq_true', decide_eq_true_eq] at h8
      obtain ⟨y1, y2, y3⟩ := h7
      refine ⟨by omega, by omega, fun hf => y3 ?_⟩
      rcases h8.2 with h9 | h9
      · exact h9
      · rw [hf] at h9
        cases h9
    · cases hp
  · cases hp
theorem XL_up (h : hok cy K B L f) {b kd : Nat} {e' : va_E} (hb : b ∈ L) (hk : K b = kd) (hkd : kd = kMA ∨ kd = kMI) (hr : gi e' 1 ≤ 8 * gi e' 0) : XP K L (va_up f b e') := by
  have hne : ∀ b' ∈ L, K b' ≠ kMA → K b' ≠ kMI → va_up f b e' b' = f b' := fun b' hb' h1 h2 => va_up_ne _ _ (fun e => by
    rw [e, hk] at h1 h2
    rcases hkd with h | h
    · exact h1 h
    · exact h2 h)
  obtain ⟨x1, x2, x3⟩ := h.2.2
  refine ⟨⟨x1.1, fun b1 hb1 b2 hb2 hk1 hk2 he => x1.2.1 b1 hb1 b2 hb2 hk1 hk2 (by rw [hne b1 hb1 (by rw [hk1]; decide) (by rw [hk1]; decide), hne b2 hb2 (by rw [hk2]; decide) (by rw [hk2]; decide)] at he; exact he), fun b1 hb1 hk1 c o e1 e2 i hi e3 => ?_⟩, fun b1 hb1 hk1 m hm hkm => ?_, fun b1 hb1 hk1 => ?_⟩
  · rw [hne b1 hb1 (by rw [hk1]; decide) (by rw [hk1]; decide)] at e1 e2
    obtain ⟨c', c1, c2, c3⟩ := cok20 h hb1 hk1 (j := 3) (k' := 23) rfl
    obtain ⟨o', o1, o2, o3⟩ := cok20 h hb1 hk1 (j := 4) (k' := 24) rfl
    have ec : c' = c := by rw [c1] at e1; cases e1; rfl
    have eo : o' = o := by rw [o1] at e2; cases e2; rfl
    subst ec
    subst eo
    rw [hne c' c2 (by rw [c3]; decide) (by rw [c3]; decide)] at e3
    rw [hne o' o2 (by rw [o3]; decide) (by rw [o3]; decide)]
    exact x1.2.2 b1 hb1 hk1 c' o' c1 o1 i hi e3
  · rw [hne b1 hb1 (by rw [hk1]; decide) (by rw [hk1]; decide), hne m hm (by rw [hkm]; decide) (by rw [hkm]; decide)]
    exact x2 b1 hb1 hk1 m hm hkm
  · by_cases hbb : b1 = b
    · subst hbb
      rw [va_up_self]
      exact hr
    · rw [va_up_ne _ _ hbb]
      exact x3 b1 hb1 hk1
theorem up_same (g : Nat → Int32) (i : Nat) (x : Int32) : upd g i x i = x := by simp [upd]
theorem up_oth (g : Nat → Int32) {i j : Nat} (x : Int32) (h : j ≠ i) : upd g i x j = g j := by simp [upd, h]
/-- a number is written -/
theorem ist_ok (h : Wd X K B L f ν μ lv st G lvc stc) {b kd N : Nat} {cy : Nat → ClassId} {g : Nat → Int32} {x : Int32} {ix : EX} (hcy : X.1 = cy) (hb : b ∈ L) (hk : K b = kd) (h0 : kd ≠ 0) (hz1 : (zkd kd).1 = 2) (hN : (zkd kd).2.1 = N) (hf : f b = zIA cy N g) (hi0 : 0 ≤ xv ν ix) (hiN : xv ν ix < N) (hx : bok B (kbd kd (xv ν ix).toNat) x.toInt) (hm : (kd, reg kd (xv ν ix).toNat) ∈ X.2.1) (hr : XP K L (va_up f b (zIA cy N (upd g (xv ν ix).toNat x)))) {keep : (Nat × EX) × EX → Bool} {keepA : Nat × Int × Int → Bool} (hk1 : ∀ q ∈ G.2.2.2.2.1, keep q = true → xv ν q.1.2 ≠ xv ν ix) (hk2 : ∀ q : Nat × Int × Int, keepA q = true → q.2.1 ≤ x.toInt ∧ x.toInt ≤ q.2.2) : Wd X K B L (va_up f b (zIA cy N (upd g (xv ν ix).toNat x))) ν μ lv st (dropM G kd keep keepA false 0) lvc stc := by
  have hcok := h.1.1 b hb
  rw [hk] at hcok
  unfold cok at hcok
  rw [hz1] at hcok
  obtain ⟨g', hf', hbd⟩ := hcok
  rw [hcy, hN] at hf'
  have hg : g' = g := by
    rw [hf] at hf'
    cases hf'
    rfl
  subst hg
  rw [hN] at hbd
  have hne : ∀ i, i ≠ (xv ν ix).toNat → cget (zIA cy N (upd g' (xv ν ix).toNat x)) i = cget (f b) i := fun i hi => by
    rw [hf]
    show some (Value.int (upd g' (xv ν ix).toNat x i)) = some (Value.int (g' i))
    rw [up_oth _ _ hi]
  refine up_ok (j := 0) h hb hk h0 (fun i hi => hne i (fun e => ?_)) ?_ hr (fun hf => by cases hf) (fun q hq hqk hkeep => ?_) (fun q hq hqk hkeep => ?_)
  · rw [e] at hi
    exact hi hm
  · unfold cok
    rw [hz1]
    refine ⟨upd g' (xv ν ix).toNat x, by rw [hcy, hN], fun j hj => ?_⟩
    rw [hN] at hj
    by_cases hji : j = (xv ν ix).toNat
    · rw [hji, up_same]
      exact hx
    · rw [up_oth _ _ hji]
      exact hbd j hj
  · have h9 := h.2.2.2.1.2.2.2.2.1 q hq
    unfold mok at h9 ⊢
    rw [if_neg (by rw [hqk]; exact h0)] at h9 ⊢
    intro b' hb' hkb
    obtain ⟨y1, y2⟩ := h9 b' hb' hkb
    refine ⟨y1, ?_⟩
    by_cases hbb : b' = b
    · subst hbb
      rw [va_up_self, ← y2, hf]
      have := hk1 q hq hkeep
      show some (upd g' (xv ν ix).toNat x (xv ν q.1.2).toNat).toInt = some (g' (xv ν q.1.2).toNat).toInt
      rw [up_oth _ _ (by omega)]
    · rw [va_up_ne _ _ hbb]
      exact y2
  · have h9 := h.2.2.2.1.2.2.2.2.2.1 q hq
    intro b' hb' hkb i hi
    obtain ⟨y, y1, y2, y3⟩ := h9 b' hb' hkb i hi
    by_cases hbb : b' = b
    · subst hbb
      rw [va_up_self]
      by_cases hij : i = (xv ν ix).toNat
      · have := hk2 q hkeep
        exact ⟨x.toInt, by show some (upd g' (xv ν ix).toNat x i).toInt = _; rw [hij, up_same], this.1, this.2⟩
      · refine ⟨y, ?_, y2, y3⟩
        rw [← y1, hf]
        show some (upd g' (xv ν ix).toNat x i).toInt = some (g' i).toInt
        rw [up_oth _ _ hij]
    · rw [va_up_ne _ _ hbb]
      exact ⟨y, y1, y2, y3⟩
/-- B may grow -/
def growG (G : EG) (bb : EX) : EG := (G.1, G.2.1, G.2.2.1, G.2.2.2.1, ((0, xc 0), xk bb 1) :: G.2.2.2.2.1.filter (fun q => !(q.1.1 == 0)), G.2.2.2.2.2)
theorem bok_up {B : Int} {d : Int × Int × Bool} {x : Int} (h : bok B d x) : bok (B + 1) d x := ⟨h.1, h.2.1, fun hf => by have := h.2.2 hf; omega⟩
theorem grow_ok (h : Wd X K B L f ν μ lv st G lvc stc) {bb : EX} (hm : (0, 0) ∈ X.2.1) (hg : gM G 0 (xc 0) = some bb) : Wd X K (B + 1) L f ν μ lv st (growG G bb) lvc stc := by
  have hB := gM0_ok h hg
  obtain ⟨⟨hh1, hh2, hh3⟩, he, hi, ⟨g1, g2, g3, g4, g5, g6, g7⟩, hl, ht⟩ := h
  refine ⟨⟨fun b hb => ?_, hh2, hh3⟩, ?_, ?_, ⟨g1, g2, g3, g4, fun q hq => ?_, g6, fun q hq => ?_⟩, hl, ht⟩
  · have h1 := hh1 b hb
    unfold cok at h1 ⊢
    generalize (zkd (K b)).1 = z at h1 ⊢
    match z with
    | 0 => exact h1
    | 1 => exact h1
    | 2 =>
      obtain ⟨g, hg1, hg2⟩ := h1
      exact ⟨g, hg1, fun i hi => bok_up (hg2 i hi)⟩
    | 3 => exact h1
    | 4 => exact h1
    | 5 => exact h1
    | 6 => exact h1
    | 7 => exact h1
    | z + 8 => exact h1
  · obtain ⟨cy, mods, L0, f0, K0, n0, ν0, r0, μ0⟩ := X
    exact ⟨he.1, fun hn => absurd hm hn, he.2.2⟩
  · obtain ⟨cy, mods, L0, f0, K0, n0, ν0, r0, μ0⟩ := X
    exact hi
  · rcases List.mem_cons.mp hq with rfl | hq
    · unfold mok
      rw [if_pos rfl, xv_k, hB]
    · have hq' := List.mem_filter.mp hq
      have h9 := g5 q hq'.1
      unfold mok at h9 ⊢
      have : q.1.1 ≠ 0 := by simpa using hq'.2
      rw [if_neg this] at h9 ⊢
      exact h9
  · have h9 := g7 q hq
    unfold pvok at h9 ⊢
    split
    · rename_i hc
      rw [if_pos hc] at h9
      exact bok_up h9
    · rename_i hc
      rw [if_neg hc] at h9
      exact h9
end ST
