/-! What the heap keeps: K says of each address its kind. -/
def fok (K : Nat → Nat) (L : List Nat) (d : Nat × Int × Int) (v : Value) : Prop := match d.1 with
  | 0 => ∃ x : Int32, v = .int x ∧ d.2.1 ≤ x.toInt ∧ x.toInt ≤ d.2.2
  | 1 => ∃ x : Int64, v = .long x
  | 2 => ∃ b, v = .ref b ∧ b ∈ L ∧ K b = d.2.1.toNat
  | 3 => v = .null ∨ ∃ b, v = .ref b ∧ b ∈ L ∧ d.2.1 ≤ (K b : Int) ∧ (K b : Int) ≤ d.2.2
  | _ => v = .null ∨ ∃ b, v = .ref b ∧ b ∈ L
def bok (B : Int) (d : Int × Int × Bool) (x : Int) : Prop := d.1 ≤ x ∧ x ≤ d.2.1 ∧ (d.2.2 = true → x ≤ B)
def cok (cy : Nat → ClassId) (K : Nat → Nat) (B : Int) (L : List Nat) (k : Nat) (e : va_E) : Prop := match (zkd k).1 with
  | 1 => ∃ fs, e = .inr ((zkd k).2.1, fs) ∧ fs.length = (zkd k).2.2.length ∧ ∀ (j : Nat) (d : Nat × Int × Int), (zkd k).2.2[j]? = some d → ∃ v, fs[j]? = some v ∧ fok K L d v
  | 2 => ∃ g, e = zIA cy (zkd k).2.1 g ∧ ∀ i, i < (zkd k).2.1 → bok B (kbd k i) (g i).toInt
  | 3 => ∃ g, e = zZA cy (zkd k).2.1 g
  | 4 => ∃ g, e = zJA cy (zkd k).2.1 g
  | 5 => ∃ g, e = zRA (cy 4) (zkd k).2.1 g ∧ (∀ i, i < (zkd k).2.1 → ∃ b, g i = some b ∧ b ∈ L ∧ K b = kel k i) ∧ ∀ i b, g i = some b → b ∈ L
  | 6 => ∃ g, e = zRA (cy 3) (zkd k).2.1 g ∧ ∀ i b, g i = some b → b ∈ L ∧ K b = 20
  | 7 => ∃ g, e = zRA (cy 4) (zkd k).2.1 g ∧ ∀ i b, g i = some b → b ∈ L
  | _ => False
/-- code that the reference can work out: n numbers, t truths wait, fr what is open -/
def wsc (o v : Nat → Int) : Nat → Nat → Nat → Nat → List (Nat × Nat × Nat × Nat) → Prop
  | 0, _, n, t, fr => n = 1 ∧ t = 0 ∧ fr = []
  | c + 1, i, n, t, fr =>
    (o i = 0 ∧ wsc o v c (i + 1) (n + 1) t fr) ∨ (o i = 1 ∧ 0 ≤ v i ∧ v i ≤ 10 ∧ wsc o v c (i + 1) (n + 1) t fr) ∨ (o i = 2 ∧ 1 ≤ n ∧ wsc o v c (i + 1) n t fr) ∨
    (3 ≤ o i ∧ o i ≤ 6 ∧ 2 ≤ n ∧ wsc o v c (i + 1) (n - 1) t fr) ∨ (10 ≤ o i ∧ o i ≤ 15 ∧ 2 ≤ n ∧ wsc o v c (i + 1) (n - 2) (t + 1) fr) ∨ (o i = 20 ∧ 1 ≤ t ∧ wsc o v c (i + 1) n t fr) ∨
    ((o i = 21 ∨ o i = 22) ∧ 2 ≤ t ∧ wsc o v c (i + 1) n (t - 1) fr) ∨ (o i = 30 ∧ fr.length < 8 ∧ ∃ j : Nat, v i = j ∧ i < j ∧ wsc o v c (i + 1) n t ((i, j, n, t) :: fr)) ∨
    (∃ e nb tb fr', fr = (e, i, nb, tb) :: fr' ∧ v i = (e : Int) ∧ ((o i = 31 ∧ n = nb + 1 ∧ t = tb) ∨ (o i = 32 ∧ n = nb ∧ t = tb + 1)) ∧ wsc o v c (i + 1) (nb + 1) tb fr')
/-- every law that has been read is such code; t, w: where the latest text begins, how much of its code is written -/
def Psi (g : Nat → Int) (t w : Int) : Prop := (∀ k : Nat, k < 24 → (k : Int) < g t.toNat → 0 ≤ g (t.toNat + 1 + 4 * k) → g (t.toNat + 1 + 4 * k) ≤ 4 → g (t.toNat + 1 + 4 * k + 2) ≤ w) ∧ ∀ s : Nat, s < 4 → ∀ k : Nat, k < 24 → (k : Int) < g (705 * s) → g (705 * s + 1 + 4 * k) ≤ 4 → 0 ≤ g (705 * s + 1 + 4 * k) → ∃ fr to : Nat, g (705 * s + 1 + 4 * k + 1) = fr ∧ g (705 * s + 1 + 4 * k + 2) = to ∧ fr ≤ to ∧ to ≤ 304 ∧ wsc (fun i => g (705 * s + 97 + 2 * i)) (fun i => g (705 * s + 97 + 2 * i + 1)) (to - fr) fr 0 0 []
/-- what lies at a place -/
def cget (e : va_E) (i : Nat) : Option Value := match e with
  | .inr (_, fs) => fs[i]?
  | .inl (_, _, .inl g) => some (.int (g i))
  | .inl (_, _, .inr (.inl g)) => some (.long (g i))
  | .inl (_, _, .inr (.inr (.inr (.inr g)))) => some (va_rf (g i))
  | _ => none
def gi (e : va_E) (i : Nat) : Int := match cget e i with
  | some (.int x) => x.toInt
  | _ => 0
/-! texts that have been read: code 62 has a place of a group -/
/-- what is one alone is there -/
def EXI (K : Nat → Nat) (L : List Nat) : Prop := ∀ k, 40 ≤ k → (zkd k).1 ≠ 0 → ∃ b ∈ L, K b = k
def XT (K : Nat → Nat) (L : List Nat) (f : Nat → va_E) : Prop := EXI K L ∧ (∀ b ∈ L, ∀ b' ∈ L, K b = 20 → K b' = 20 → (cget (f b) 3 = cget (f b') 3 ∨ cget (f b) 4 = cget (f b') 4) → b = b') ∧ ∀ b ∈ L, K b = 20 → ∀ c o : Nat, cget (f b) 3 = some (.ref c) → cget (f b) 4 = some (.ref o) → ∀ i, i < 300 → gi (f c) i = 62 → 0 ≤ gi (f o) i ∧ gi (f o) i < 300
/-- the reference's texts -/
def XM (K : Nat → Nat) (L : List Nat) (f : Nat → va_E) : Prop := ∀ b ∈ L, K b = kMTX → ∀ m ∈ L, K m = 200 → Psi (gi (f b)) (gi (f m) kT0) (gi (f m) kWR)
/-- no PERSON without a FIELD -/
def XL (K : Nat → Nat) (L : List Nat) (f : Nat → va_E) : Prop := ∀ b ∈ L, (K b = kMA ∨ K b = kMI) → gi (f b) 1 ≤ 8 * gi (f b) 0
/-- the places that these speak of -/
def rel (k i : Nat) : Bool := (k == 20 && (i == 3 || i == 4)) || k == 23 || k == 24 || k == kMTX || (k == 200 && (i == kT0 || i == kWR)) || ((k == kMA || k == kMI) && Nat.ble i 1)
def XP (K : Nat → Nat) (L : List Nat) (f : Nat → va_E) : Prop := XT K L f ∧ XM K L f ∧ XL K L f
def hok (cy : Nat → ClassId) (K : Nat → Nat) (B : Int) (L : List Nat) (f : Nat → va_E) : Prop := (∀ b ∈ L, cok cy K B L (K b) (f b)) ∧ (∀ b ∈ L, ∀ b' ∈ L, K b = K b' → 40 ≤ K b → b = b') ∧ XP K L f
/-! What a state of the check means. A value: (0, _, e) an int, (1, _, e) a long, (2, r, _) the reference r, else null. -/
abbrev EV : Type := Nat × Nat × EX
abbrev EL : Type := List (Nat × EV)
/-- bounds of ids; terms that are 0 or more; terms that aren't 0; kinds of references; cells (kind, place) that are known (kind 0: B); rows whose numbers are bounded; numbers with where they come from -/
abbrev EG : Type := EN × List EX × List EX × List Nat × List ((Nat × EX) × EX) × List (Nat × Int × Int) × List (Nat × Nat × EX)
def cv (ν : Nat → Int) (μ : Nat → Nat) (v : EV) : Value := match v.1 with
  | 0 => .int (Int32.ofInt (xv ν v.2.2))
  | 1 => .long (Int64.ofInt (xv ν v.2.2))
  | 2 => .ref (μ v.2.1)
  | _ => .null
def cl (ν : Nat → Int) (μ : Nat → Nat) (q : Nat × EV) : Nat × Value := (q.1, cv ν μ q.2)
def cval (K : Nat → Nat) (e : va_E) (j : Nat) : Option Int := match e with
  | .inr (_, fs) => (match fs[j]? with
    | some (.int x) => some x.toInt
    | some .null => some 0
    | some (.ref b) => some (K b)
    | _ => none)
  | .inl (_, _, .inl g) => some (g j).toInt
  | .inl (_, _, .inr (.inr (.inr (.inr g)))) => (match g j with
    | some b => some (K b)
    | none => some 0)
  | _ => none
def mok (K : Nat → Nat) (B : Int) (L : List Nat) (f : Nat → va_E) (ν : Nat → Int) (q : (Nat × EX) × EX) : Prop := if q.1.1 = 0 then B = xv ν q.2 else ∀ b ∈ L, K b = q.1.1 → 0 ≤ xv ν q.1.2 ∧ cval K (f b) (xv ν q.1.2).toNat = some (xv ν q.2)
def abok (K : Nat → Nat) (L : List Nat) (f : Nat → va_E) (q : Nat × Int × Int) : Prop := ∀ b ∈ L, K b = q.1 → ∀ i, i < (zkd q.1).2.1 → ∃ x, cval K (f b) i = some x ∧ q.2.1 ≤ x ∧ x ≤ q.2.2
/-- (id, kind, term): where a number comes from; (reference, 1000 + j, term): what its field j is; (reference, 2000 + 100 * kind + j, _): where it lies -/
def pvok (K : Nat → Nat) (B : Int) (L : List Nat) (f : Nat → va_E) (ν : Nat → Int) (μ : Nat → Nat) (q : Nat × Nat × EX) : Prop := if q.2.1 < 1000 then bok B (kbd q.2.1 (xv ν q.2.2).toNat) (ν q.1) else if q.2.1 < 2000 then μ q.1 ∈ L ∧ cget (f (μ q.1)) (q.2.1 - 1000) = some (.int (Int32.ofInt (xv ν q.2.2))) else ∀ m ∈ L, K m = (q.2.1 - 2000) / 100 → cget (f m) ((q.2.1 - 2000) % 100) = some (.ref (μ q.1))
def gok (K : Nat → Nat) (B : Int) (L : List Nat) (f : Nat → va_E) (G : EG) (ν : Nat → Int) (μ : Nat → Nat) : Prop := eok G.1 ν ∧ (∀ s ∈ G.2.1, 0 ≤ xv ν s) ∧ (∀ s ∈ G.2.2.1, xv ν s ≠ 0) ∧ (∀ i k, G.2.2.2.1[i]? = some k → μ i ∈ L ∧ K (μ i) = k) ∧ (∀ q ∈ G.2.2.2.2.1, mok K B L f ν q) ∧ (∀ q ∈ G.2.2.2.2.2.1, abok K L f q) ∧ ∀ q ∈ G.2.2.2.2.2.2, pvok K B L f ν μ q
/-- what a run's own beginning is -/
abbrev EC : Type := (Nat → ClassId) × List (Nat × Nat) × List Nat × (Nat → va_E) × (Nat → Nat) × Nat × (Nat → Int) × Nat × (Nat → Nat)
/-- since the beginning nothing has gone, no kind is another, and only what may change has changed -/
def ext (X : EC) (K : Nat → Nat) (B : Int) (L : List Nat) (f : Nat → va_E) : Prop := match X with
  | (_, mods, L0, f0, K0, n0, ν0, _, _) => (∀ b ∈ L0, b ∈ L ∧ K b = K0 b ∧ ∀ i, (K0 b, reg (K0 b) i) ∉ mods → cget (f b) i = cget (f0 b) i) ∧ ((0, 0) ∉ mods → B = ν0 n0) ∧ ∀ b ∈ L, b ∉ L0 → K b < 40
def inp (X : EC) (G : EG) (ν : Nat → Int) (μ : Nat → Nat) : Prop := match X with
  | (_, _, _, _, _, n0, ν0, r0, μ0) => n0 ≤ G.1.length ∧ r0 ≤ G.2.2.2.1.length ∧ (∀ i, i < n0 → ν i = ν0 i) ∧ ∀ i, i < r0 → μ i = μ0 i
def Wd (X : EC) (K : Nat → Nat) (B : Int) (L : List Nat) (f : Nat → va_E) (ν : Nat → Int) (μ : Nat → Nat) (lv : EL) (st : List EV) (G : EG) (lvc : List (Nat × Value)) (stc : List Value) : Prop := hok X.1 K B L f ∧ ext X K B L f ∧ inp X G ν μ ∧ gok K B L f G ν μ ∧ lvc = lv.map (cl ν μ) ∧ stc = st.map (cv ν μ)
/-- all ids and references are there -/
def scV (n r : Nat) (v : EV) : Bool := match v.1 with
  | 0 => scE n v.2.2
  | 1 => scE n v.2.2
  | 2 => Nat.blt v.2.1 r
  | _ => true
def scP (n r : Nat) (q : Nat × Nat × EX) : Bool := Nat.blt q.1 (if Nat.blt q.2.1 1000 then n else r) && scE n q.2.2
def scA (lv : EL) (st : List EV) (G : EG) : Bool := lv.all (fun q => scV G.1.length G.2.2.2.1.length q.2) && (st.all (scV G.1.length G.2.2.2.1.length) && (G.2.1.all (scE G.1.length) && (G.2.2.1.all (scE G.1.length) && (G.2.2.2.2.1.all (fun q => scE G.1.length q.1.2 && scE G.1.length q.2) && G.2.2.2.2.2.2.all (scP G.1.length G.2.2.2.1.length)))))
def frG (G : EG) (lo hi : Int) : EG := (G.1 ++ [(lo, hi)], G.2)
def frR (G : EG) (k : Nat) : EG := (G.1, G.2.1, G.2.2.1, G.2.2.2.1 ++ [k], G.2.2.2.2)
section WD
variable {X : EC} {K : Nat → Nat} {B : Int} {L : List Nat} {f : Nat → va_E} {ν : Nat → Int} {μ : Nat → Nat} {lv : EL} {st : List EV} {G : EG} {lvc : List (Nat × Value)} {stc : List Value}
theorem cv_upd {n r : Nat} {v : EV} (h : scV n r v = true) (z : Int) : cv (va_up ν n z) μ v = cv ν μ v := by
  obtain ⟨t, i, e⟩ := v
  match t with
  | 0 => simp only [cv]; rw [xv_upd h]
  | 1 => simp only [cv]; rw [xv_upd h]
  | 2 => rfl
  | t + 3 => rfl
theorem cv_updR {n r : Nat} {v : EV} (h : scV n r v = true) (z : Nat) : cv ν (va_up μ r z) v = cv ν μ v := by
  obtain ⟨t, i, e⟩ := v
  match t with
  | 0 => rfl
  | 1 => rfl
  | 2 =>
    simp only [cv]
    have : i < r := by
      have h9 : Nat.blt i r = true := h
      simp [Nat.blt] at h9
      omega
    rw [va_up_ne _ _ (by omega)]
  | t + 3 => rfl
theorem scA_split (h : scA lv st G = true) : (∀ q ∈ lv, scV G.1.length G.2.2.2.1.length q.2 = true) ∧ (∀ v ∈ st, scV G.1.length G.2.2.2.1.length v = true) ∧ (∀ e ∈ G.2.1, scE G.1.length e = true) ∧ (∀ e ∈ G.2.2.1, scE G.1.length e = true) ∧ (∀ q ∈ G.2.2.2.2.1, scE G.1.length q.1.2 = true ∧ scE G.1.length q.2 = true) ∧ ∀ q ∈ G.2.2.2.2.2.2, q.1 < (if q.2.1 < 1000 then G.1.length else G.2.2.2.1.length) ∧ scE G.1.length q.2.2 = true := by
  unfold scA at h
  simp only [Bool.and_eq_true, List.all_eq_true] at h
  obtain ⟨h1, h2, h3, h4, h5, h6⟩ := h
  refine ⟨h1, h2, h3, h4, h5, fun q hq => ?_⟩
  have h9 := h6 q hq
  unfold scP at h9
  simp only [Bool.and_eq_true, Nat.blt_eq] at h9
  exact h9
/-- a new number -/
theorem Wd.fr (h : Wd X K B L f ν μ lv st G lvc stc) (hs : scA lv st G = true) {lo hi z : Int} (h1 : lo ≤ z) (h2 : z ≤ hi) : Wd X K B L f (va_up ν G.1.length z) μ lv st (frG G lo hi) lvc stc := by
  obtain ⟨hh, he, hi', ⟨g1, g2, g3, g4, g5, g6, g7⟩, hl, ht⟩ := h
  obtain ⟨s1, s2, s3, s4, s5, s6⟩ := scA_split hs
  obtain ⟨cy, mods, L0, f0, K0, n0, ν0, r0, μ0⟩ := X
  refine ⟨hh, he, ⟨?_, hi'.2.1, fun i hi => ?_, hi'.2.2.2⟩, ⟨eok_fresh g1 h1 h2, fun s hs => ?_, fun s hs => ?_, g4, fun q hq => ?_, g6, fun q hq => ?_⟩, ?_, ?_⟩
  · have := hi'.1
    show n0 ≤ (G.1 ++ [(lo, _)]).length
    simp only [List.length_append, List.length_cons, List.length_nil]
    omega
  · have := hi'.1
    rw [va_up_ne _ _ (by omega)]
    exact hi'.2.2.1 i hi
  · rw [xv_upd (s3 s hs)]; exact g2 s hs
  · rw [xv_upd (s4 s hs)]; exact g3 s hs
  · have := g5 q hq
    unfold mok at this ⊢
    rw [xv_upd (s5 q hq).1, xv_upd (s5 q hq).2]
    exact this
  · have h7 := g7 q hq
    have h8 := s6 q hq
    unfold pvok at h7 ⊢
    rw [xv_upd h8.2]
    split
    · rename_i hlt
      rw [if_pos hlt] at h7 h8
      rw [va_up_ne _ _ (by have := h8.1; omega)]
      exact h7
    · rename_i hlt
      rw [if_neg hlt] at h7
      exact h7
  · rw [hl]
    exact List.map_congr_left (fun q hq => by unfold cl; rw [cv_upd (s1 q hq)])
  · rw [ht]
    exact List.map_congr_left (fun v hv => (cv_upd (s2 v hv) z).symm)
/-- a new reference -/
theorem Wd.frR (h : Wd X K B L f ν μ lv st G lvc stc) (hs : scA lv st G = true) {b k : Nat} (hb : b ∈ L) (hk : K b = k) : Wd X K B L f ν (va_up μ G.2.2.2.1.length b) lv st (frR G k) lvc stc := by
  obtain ⟨hh, he, hi', ⟨g1, g2, g3, g4, g5, g6, g7⟩, hl, ht⟩ := h
  obtain ⟨s1, s2, s3, s4, s5, s6⟩ := scA_split hs
  obtain ⟨cy, mods, L0, f0, K0, n0, ν0, r0, μ0⟩ := X
  refine ⟨hh, he, ⟨hi'.1, ?_, hi'.2.2.1, fun i hi => ?_⟩, ⟨g1, g2, g3, fun i k' hi => ?_, g5, g6, fun q hq => ?_⟩, ?_, ?_⟩
  · have := hi'.2.1
    show r0 ≤ (G.2.2.2.1 ++ [k]).length
    simp only [List.length_append, List.length_cons, List.length_nil]
    omega
  · have := hi'.2.1
    rw [va_up_ne _ _ (by omega)]
    exact hi'.2.2.2 i hi
  · have hi2 : (G.2.2.2.1 ++ [k])[i]? = some k' := hi
    by_cases hl : i = G.2.2.2.1.length
    · subst hl
      rw [va_up_self]
      simp at hi2
      exact ⟨hb, hk.trans hi2⟩
    · rw [va_up_ne _ _ hl]
      by_cases hlt : i < G.2.2.2.1.length
      · rw [List.getElem?_append_left hlt] at hi2
        exact g4 i k' hi2
      · rw [List.getElem?_eq_none (by simp; omega)] at hi2
        cases hi2
  · have h7 := g7 q hq
    have h8 := s6 q hq
    unfold pvok at h7 ⊢
    split
    · rename_i hlt
      rw [if_pos hlt] at h7
      exact h7
    · rename_i hlt
      rw [if_neg hlt] at h7 h8
      rw [va_up_ne _ _ (by have := h8.1; omega)]
      exact h7
  · rw [hl]
    exact List.map_congr_left (fun q hq => by unfold cl; rw [cv_updR (s1 q hq)])
  · rw [ht]
    exact List.map_congr_left (fun v hv => (cv_updR (s2 v hv) b).symm)
end WD
