/-! TEXTS, over TOKENS; and the reference's reading of them. -/
section UT
variable (tk vl : Nat → Int)
def u_fg (lo hi : Int) (i : Nat) : Int × Nat := if tk i = 53 then (if lo ≤ vl i ∧ vl i ≤ hi then (0, i + 1) else (2, i)) else (1, i)
def u_wd (w : Int) (lo hi : Int) (i : Nat) : Int × Nat := if tk i = w then u_fg tk vl lo hi (i + 1) else (1, i)
def u_sq (a : Int × Nat) (f : Nat → Int × Nat) : Int × Nat := if a.1 = 0 then f a.2 else a
def u_pt (s : Int) (i : Nat) : Int × Nat := if s = 5 then u_sq (u_sq (u_fg tk vl 0 9 i) (u_wd tk vl 14 0 999)) (u_wd tk vl 15 1 999)
  else if s = 6 then u_sq (u_fg tk vl 0 5 i) (u_wd tk vl 18 0 5)
  else if s = 7 then u_sq (u_sq (u_fg tk vl 1 99 i) (u_wd tk vl 26 0 99)) (u_wd tk vl 16 0 5)
  else if s = 8 then u_sq (u_fg tk vl 0 7 i) (u_wd tk vl 17 0 9)
  else if s = 9 then u_sq (u_fg tk vl 0 7 i) (u_wd tk vl 18 0 5)
  else if s = 10 then u_sq (u_fg tk vl 0 7 i) (u_wd tk vl 18 0 7)
  else if s = 11 then u_sq (u_sq (u_fg tk vl 0 7 i) (u_wd tk vl 19 0 7)) (u_wd tk vl 17 1 99)
  else if s = 12 then u_sq (u_fg tk vl 1 999 i) (u_wd tk vl 16 0 5)
  else u_fg tk vl 1 30 i
/-- what a CLAUSE's inside says -/
def u_bd (n : Nat) (s : Int) (i : Nat) : Option (Int × Nat) := if s < 5 then uP tk vl (decide (s = 4)) n 3 0 (!decide (s = 3)) i else some (u_pt tk vl s i)
/-- CLAUSES; k: how many ahead, on: which laws (bits) -/
def uT : Nat → Nat → Nat → Nat → Option (Int × Nat)
  | 0, _, _, _ => none
  | n + 1, i, k, on => if tk i = 54 then some (0, i)
    else if 13 < tk i then some (1, i)
    else if tk i < 5 ∧ on.testBit (tk i).toNat = true then some (4, i)
    else if 24 ≤ k then some (6, i)
    else match u_bd tk vl n (tk i) (i + 1) with
      | none => none
      | some q => if q.1 = 0 then (if tk q.2 = 50 then uT n (q.2 + 1) (k + 1) (if tk i < 5 then on ||| 2 ^ (tk i).toNat else on) else some (1, q.2)) else some q
end UT
theorem f1_ne {c : Int} {i : Nat} (h : c ≠ 0) : ((c, i) : Int × Nat).1 ≠ 0 := h
theorem uR_mo1 {tk vl : Nat → Int} {dr sh : Bool} : ∀ (n i : Nat) (p : List Int) (o m : Int) (w : Bool) (q : Int × Nat), uR tk vl dr sh n i p o m w = some q → uR tk vl dr sh (n + 1) i p o m w = some q := by
  intro n
  induction n with
  | zero => intro i p o m w q h; cases w <;> cases h
  | succ n ih =>
    intro i p o m w q h
    cases w with
    | true =>
      unfold uR at h ⊢
      by_cases c1 : 0 ≤ u_btw (tk i) p
      · rw [if_pos c1] at h ⊢
        exact ih _ _ _ _ _ _ h
      rw [if_neg c1] at h ⊢
      by_cases c2 : u_end (tk i) p = true
      · rw [if_pos c2] at h ⊢
        exact ih _ _ _ _ _ _ h
      rw [if_neg c2] at h ⊢
      exact h
    | false =>
      unfold uR at h ⊢
      by_cases c1 : tk i = 53 ∧ 9999 < vl i
      · rw [if_pos c1] at h ⊢
        exact h
      rw [if_neg c1] at h ⊢
      by_cases c2 : u_nam (tk i) = true ∧ u_isOf dr sh m (tk i) = false
      · rw [if_pos c2] at h ⊢
        exact h
      rw [if_neg c2] at h ⊢
      by_cases c3 : tk i = 53 ∨ u_nam (tk i) = true
      · rw [if_pos c3] at h ⊢
        exact ih _ _ _ _ _ _ h
      rw [if_neg c3] at h ⊢
      by_cases c4 : tk i = 48
      · rw [if_pos c4] at h ⊢
        by_cases c8 : o = 8
        · rw [if_pos c8] at h ⊢; exact h
        · rw [if_neg c8] at h ⊢; exact ih _ _ _ _ _ _ h
      rw [if_neg c4] at h ⊢
      by_cases c5 : tk i = 41
      · rw [if_pos c5] at h ⊢
        by_cases c8 : o = 8
        · rw [if_pos c8] at h ⊢; exact h
        · rw [if_neg c8] at h ⊢; exact ih _ _ _ _ _ _ h
      rw [if_neg c5] at h ⊢
      by_cases c6 : tk i = 20
      · rw [if_pos c6] at h ⊢
        by_cases c8 : o = 8
        · rw [if_pos c8] at h ⊢; exact h
        · rw [if_neg c8] at h ⊢; exact ih _ _ _ _ _ _ h
      rw [if_neg c6] at h ⊢
      by_cases c7 : tk i = 21
      · rw [if_pos c7] at h ⊢
        by_cases c8 : o = 8
        · rw [if_pos c8] at h ⊢; exact h
        · rw [if_neg c8] at h ⊢; exact ih _ _ _ _ _ _ h
      rw [if_neg c7] at h ⊢
      by_cases c9 : tk i = 25 ∧ u_ask p = true
      · rw [if_pos c9] at h ⊢
        by_cases c8 : o = 8
        · rw [if_pos c8] at h ⊢; exact h
        · rw [if_neg c8] at h ⊢; exact ih _ _ _ _ _ _ h
      rw [if_neg c9] at h ⊢
      exact h
theorem uR_mo {tk vl : Nat → Int} {dr sh : Bool} {n m' i : Nat} {p : List Int} {o m : Int} {w : Bool} {q : Int × Nat} (h : uR tk vl dr sh n i p o m w = some q) (hm : n ≤ m') : uR tk vl dr sh m' i p o m w = some q := by
  induction m' with
  | zero => rw [Nat.le_zero.mp hm] at h; exact h
  | succ m' ih =>
    by_cases hn : n = m' + 1
    · rw [← hn]; exact h
    · exact uR_mo1 _ _ _ _ _ _ _ (ih (by omega))
/-- one answer alone -/
theorem RR_un {tk vl : Nat → Int} {dr sh : Bool} {i : Nat} {p : List Int} {o m : Int} {w : Bool} {q q' : Int × Nat} (h1 : RR tk vl dr sh i p o m w q) (h2 : RR tk vl dr sh i p o m w q') : q = q' := by
  obtain ⟨f1, e1⟩ := h1
  obtain ⟨f2, e2⟩ := h2
  have a1 := uR_mo e1 (Nat.le_add_right f1 f2)
  have a2 := uR_mo e2 (Nat.le_add_left f2 f1)
  exact Option.some.inj (a1.symm.trans a2)
/-- a whole law: the pile says what the methods say -/
theorem RR_uP {tk vl : Nat → Int} {dr sh : Bool} {f i : Nat} {q : Int × Nat} (h : uP tk vl sh f 3 0 (!dr) i = some q) : RR tk vl dr sh i [] 0 0 false q := by
  obtain ⟨c, j⟩ := q
  have hs := (uSim (tk := tk) (vl := vl) (dr := dr) (sh := sh) f).2.2.2.1 0 (!dr) i c j h (by decide) [] 0 (fun x hx => by cases hx) (Int.le_refl 0) (by simp) (Or.inr rfl)
  obtain ⟨h1, h2, h3⟩ := hs
  by_cases hc : c = 0
  · refine h2 hc _ (fun A hA => ?_)
    have ho : u_open (A ++ []) = -1 := u_open_A hA
    have hb : u_btw (tk j) (A ++ []) = -1 := bt_A (h1 hc) (by rw [ho]; decide)
    have he : u_end (tk j) (A ++ []) = false := by
      unfold u_end
      rw [ho]
      simp
    have hr := r_no (vl := vl) (dr := dr) (sh := sh) (o := ((0 : Nat) : Int)) (m := 0) (by rw [hb]; decide) he
    rw [ho, if_neg (by decide)] at hr
    rw [hc]
    exact hr
  · exact h3 hc
section RX
variable {ax : zAx} {L : List Nat} {b : Nat → Int} {n M tx tb pl bg t0 m : Nat} {so : Int} {r : Option g_V} {h : g_H} {dr sh : Bool}
/-- sums from somewhere on -/
theorem su_20 (hD : RD M tx tb pl bg) (hm : m ≤ 300) (hE : tkS b n m = 54) (hdr : dr = decide (so = 3)) (hsh : sh = decide (so = 4)) : ∀ (N : Nat) {ρ : Nat → Int} {g : Nat → Nat → Int} {i : Nat} {p : List Int} {w : Nat} {W : Bool}, RC b n M tx tb pl bg t0 so g → RS b n M pl bg m g i p w → g M 20 = (if W = true then 1 else 0) → ρ 0 = (M : Int) → g_run RX12 ax (g_ex ax) cX12_summed N (20, ρ, [], L, g) r h → ∃ c j g', r = some (1, c) ∧ h = (L, g') ∧ fR M tx pl bg t0 g g' ∧ RR (tkS b n) (vlS b n) dr sh i p (u_oc p : Int) (u_cnt p : Int) W (c, j) ∧ g' M 8 = (x_ps b n j : Int) ∧ (c = 0 → TS b n M g' j ∧ j ≤ m ∧ ∃ w' : Nat, g' M 13 = (w' : Int) ∧ w' ≤ 2 * j) := by
  intro N
  induction N using Nat.strongRecOn with
  | ind N ih =>
    intro ρ g i p w W hC hS h20 h0 hr
    have hx := pt_X12_summed_20 (fun _ _ _ _ _ _ h => h) hr
    rw [h0, Int.toNat_natCast] at hx
    cases W with
    | false =>
      rw [if_neg (by decide)] at h20
      rcases hx with ⟨-, n1, r1, k1, l1, hx1, hr1⟩ | ⟨c, -⟩
      · obtain ⟨c, g1, e1, e2, e3, e4, e5⟩ := be_x (dr := dr) (sh := sh) hD hm hE hdr hsh hC hS h20 hx1
        subst e1
        subst e2
        rcases pt_X12_summed_57 (fun _ _ _ _ _ _ h => h) hr1 with ⟨c0, n2, l2, hr2⟩ | ⟨c0, a1, a2⟩
        · obtain ⟨p', w', W', f1, f2, f3⟩ := e5 c0
          obtain ⟨c', j', g', b1, b2, b3, b4, b5, b6⟩ := ih n2 (by omega) (RC_mo hD hC e3) f1 f2 (by rw [va_up_ne _ _ (by decide)]; exact h0) hr2
          exact ⟨c', j', g', b1, b2, fR_tr e3 b3, f3 _ b4, b5, b6⟩
        · obtain ⟨f1, f2⟩ := e4 c0
          exact ⟨c, i, g1, a1, a2, e3, f2, by rw [f1]; exact hS.2.1.2.1, fun hh => absurd hh c0⟩
      · exact absurd h20 c
    | true =>
      rw [if_pos rfl] at h20
      rcases hx with ⟨c, -⟩ | ⟨-, n1, r1, k1, l1, hx1, hr1⟩
      · rw [h20] at c
        cases c
      · obtain ⟨c, g1, e1, e2, e3, e4, e5⟩ := bh_x (dr := dr) (sh := sh) hD hm hE hC hS h20 hx1
        subst e1
        subst e2
        rcases pt_X12_summed_31 (fun _ _ _ _ _ _ h => h) hr1 with ⟨c0, n2, r2, k2, l2, hx2, hr2⟩ | ⟨c0, n2, l2, hr2⟩
        · obtain ⟨f1, f2⟩ := e4 c0
          subst f1
          rw [h0] at hx2
          have hl : p.length ≤ 1000 := by
            have := hS.2.2
            omega
          obtain ⟨a1, a2⟩ := on_x hC hS.1 hl hx2
          subst a1
          subst a2
          rcases pt_X12_summed_41 (fun _ _ _ _ _ _ h => h) hr2 with ⟨c1, n3, r3, k3, l3, hx3, hr3⟩ | ⟨c1, a1, a2⟩
          · rw [if_neg (by omega)] at f2
            rw [h0] at hx3
            obtain ⟨hP, hT, hle, him⟩ := hS
            obtain ⟨a1, g2, w2, a2, a3, a4, a5⟩ := se_x hD (Int.le_refl 1) (by omega) hC hP hx3
            subst a1
            subst a2
            obtain ⟨a6, a7⟩ := pt_X12_summed_51 (fun _ _ _ _ _ _ h => h) hr3
            refine ⟨0, i, g2, a6, a7, a3.1, f2, by rw [a3.2 8 (by decide)]; exact hT.2.1, fun _ => ⟨⟨?_, ?_, ?_⟩, him, w2, a4.2.2.2.2.1, by omega⟩⟩
            · rw [a3.2 7 (by decide)]; exact hT.1
            · rw [a3.2 8 (by decide)]; exact hT.2.1
            · rw [a3.2 9 (by decide), a3.2 10 (by decide), a3.2 11 (by decide)]; exact hT.2.2
          · rw [if_pos (by omega)] at f2
            exact ⟨1, i, _, a1, a2, fR_rf, f2, hS.2.1.2.1, fun hh => absurd hh (by decide)⟩
        · obtain ⟨p', w', W', f1, f2, f3⟩ := e5 c0
          obtain ⟨c', j', g', b1, b2, b3, b4, b5, b6⟩ := ih n2 (by omega) (RC_mo hD hC e3) f1 f2 h0 hr2
          exact ⟨c', j', g', b1, b2, fR_tr e3 b3, f3 _ b4, b5, b6⟩
/-- at a TOKEN of a TEXT -/
def FS (b : Nat → Int) (n M m : Nat) (g : Nat → Nat → Int) (i w : Nat) : Prop := TS b n M g i ∧ g M 13 = (w : Int) ∧ w ≤ 2 * i ∧ i ≤ m
/-- an answer: its FAULT, its place -/
def FO (b : Nat → Int) (n M tx pl bg t0 m : Nat) (L : List Nat) (g : Nat → Nat → Int) (q : Int × Nat) (r : Option g_V) (h : g_H) : Prop := ∃ g', r = some (1, q.1) ∧ h = (L, g') ∧ fR M tx pl bg t0 g g' ∧ g' M 8 = (x_ps b n q.2 : Int) ∧ (q.1 = 0 → ∃ w', FS b n M m g' q.2 w')
theorem su_x (hD : RD M tx tb pl bg) (hm : m ≤ 300) (hE : tkS b n m = 54) (hdr : dr = decide (so = 3)) (hsh : sh = decide (so = 4)) {g : Nat → Nat → Int} {i w : Nat} (hC : RC b n M tx tb pl bg t0 so g) (hF : FS b n M m g i w) (hx : g_ex ax yX12_summed cX12_summed [(0, (M : Int))] (L, g) r h) : ∃ q, FO b n M tx pl bg t0 m L g q r h ∧ RR (tkS b n) (vlS b n) dr sh i [] 0 0 false q := by
  obtain ⟨ρ, N, hρ, hr⟩ := g_run_of hx
  have h0 : ρ 0 = (M : Int) := hρ (0, _) (by simp)
  obtain ⟨n1, -, hr1⟩ := pt_X12_summed_0 (fun _ _ _ _ _ _ h => h) hr
  rw [h0, Int.toNat_natCast] at hr1
  obtain ⟨hT, h13, hw, him⟩ := hF
  have f0 : fR M tx pl bg t0 g (g_up (g_up (g_up (g_up g M 17 0) M 18 0) M 19 0) M 20 0) := fR_up (fR_up (fR_up (fR_up fR_rf (Or.inl ⟨rfl, by decide⟩)) (Or.inl ⟨rfl, by decide⟩)) (Or.inl ⟨rfl, by decide⟩)) (Or.inl ⟨rfl, by decide⟩)
  have lo : ∀ j, j < 17 → g_up (g_up (g_up (g_up g M 17 0) M 18 0) M 19 0) M 20 0 M j = g M j := fun j hj => by rw [g_up_j (by omega), g_up_j (by omega), g_up_j (by omega), g_up_j (by omega)]
  have hS : RS b n M pl bg m (g_up (g_up (g_up (g_up g M 17 0) M 18 0) M 19 0) M 20 0) i [] w := by
    refine ⟨⟨?_, trivial, ?_, ?_, ?_, fun j hj => absurd hj (Nat.not_lt_zero j)⟩, ⟨?_, ?_, ?_⟩, by show 0 + w ≤ 2 * i; omega, him⟩
    · rw [g_up_j (by decide), g_up_j (by decide), g_up_j (by decide), g_up_s]; rfl
    · rw [g_up_j (by decide), g_up_j (by decide), g_up_s]; rfl
    · rw [g_up_j (by decide), g_up_s]; rfl
    · rw [lo 13 (by decide)]; exact h13
    · rw [lo 7 (by decide)]; exact hT.1
    · rw [lo 8 (by decide)]; exact hT.2.1
    · rw [lo 9 (by decide), lo 10 (by decide), lo 11 (by decide)]; exact hT.2.2
  obtain ⟨c, j, g', e1, e2, e3, e4, e5, e6⟩ := su_20 (dr := dr) (sh := sh) (W := false) hD hm hE hdr hsh n1 (RC_mo hD hC f0) hS (by rw [g_up_s]; rfl) h0 hr1
  exact ⟨(c, j), ⟨g', e1, e2, fR_tr f0 e3, e5, fun hc => by
    obtain ⟨a1, a2, w', a3, a4⟩ := e6 hc
    exact ⟨w', a1, a3, a4, a2⟩⟩, e4⟩
theorem FO_tr {g g1 : Nat → Nat → Int} {q : Int × Nat} (h1 : fR M tx pl bg t0 g g1) (h2 : FO b n M tx pl bg t0 m L g1 q r h) : FO b n M tx pl bg t0 m L g q r h := by
  obtain ⟨g', e1, e2, e3, e4, e5⟩ := h2
  exact ⟨g', e1, e2, fR_tr h1 e3, e4, e5⟩
/-- a NUMBER -/
theorem fi_x (hD : RD M tx tb pl bg) (hm : m ≤ 300) (hE : tkS b n m = 54) {lo hi : Int} (hh : hi ≤ 9999) {x : Nat} (hx0 : t0 + 1 ≤ x) {g : Nat → Nat → Int} {i w : Nat} (hC : RC b n M tx tb pl bg t0 so g) (hF : FS b n M m g i w) (hx : g_ex ax yX12_figure cX12_figure [(0, (M : Int)), (1, (x : Int)), (2, lo), (3, hi)] (L, g) r h) : FO b n M tx pl bg t0 m L g (u_fg (tkS b n) (vlS b n) lo hi i) r h := by
  obtain ⟨ρ, N, hρ, hr⟩ := g_run_of hx
  have h0 : ρ 0 = (M : Int) := hρ (0, _) (by simp)
  have h1 : ρ 1 = (x : Int) := hρ (1, _) (by simp)
  have h2 : ρ 2 = lo := hρ (2, _) (by simp)
  have h3 : ρ 3 = hi := hρ (3, _) (by simp)
  have hx := pt_X12_figure_0 (fun _ _ _ _ _ _ h => h) hr
  obtain ⟨hT, h13, hw, him⟩ := hF
  obtain ⟨-, k53, kv, -⟩ := TK_i hC hT
  have c2 := hC.1
  rw [h0, h1, h2, h3, Int.toNat_natCast, c2, Int.toNat_natCast, Int.toNat_natCast] at hx
  unfold u_fg
  rcases hx with ⟨c, hx⟩ | ⟨c, e1, e2⟩
  · have h53 : tkS b n i = 53 := k53.mpr c
    obtain ⟨v0, v1, v2, v3⟩ := kv h53
    rw [if_pos h53]
    have hin : F_X12_isIn (g M 10) lo hi g = if lo ≤ vlS b n i ∧ vlS b n i ≤ hi then 1 else 0 := by
      unfold F_X12_isIn
      (repeat' split) <;> omega
    rw [hin] at hx
    by_cases hv : lo ≤ vlS b n i ∧ vlS b n i ≤ hi
    · rw [if_pos hv] at hx ⊢
      rcases hx with ⟨c2, -⟩ | ⟨-, n1, r1, k1, -, hx1, hr1⟩
      · cases c2
      · have hi2 : i < m := by
          by_cases hq : i = m
          · rw [hq, hE] at h53
            cases h53
          · omega
        have nx : M ≠ tx := hD.1
        have f0 : fR M tx pl bg t0 g (g_up g tx x (g M 10)) := fR_up fR_rf (Or.inr (Or.inl ⟨rfl, hx0⟩))
        obtain ⟨e1, g', e2, e3, e4⟩ := nt_i (i := i) (RC_mo hD hC f0) (by rw [g_up_a nx]; exact hT.1) hx1
        subst e1
        subst e2
        obtain ⟨e5, e6⟩ := pt_X12_figure_38 (fun _ _ _ _ _ _ h => h) hr1
        exact ⟨g', e5, e6, fR_tr f0 (fR_fM e3), e4.2.1, fun _ => ⟨w, e4, by rw [e3 M 13 (by omega), g_up_a nx]; exact h13, by show w ≤ 2 * (i + 1); omega, by show i + 1 ≤ m; omega⟩⟩
    · rw [if_neg hv] at hx ⊢
      rcases hx with ⟨-, e1, e2⟩ | ⟨c2, -⟩
      · exact ⟨g, e1, e2, fR_rf, hT.2.1, fun hc => absurd hc (f1_ne (by decide))⟩
      · exact absurd rfl c2
  · rw [if_neg (fun hq => c (k53.mp hq))]
    exact ⟨g, e1, e2, fR_rf, hT.2.1, fun hc => absurd hc (f1_ne (by decide))⟩
/-- a word, then a NUMBER -/
theorem wo_x (hD : RD M tx tb pl bg) (hm : m ≤ 300) (hE : tkS b n m = 54) {lo hi W : Int} (hh : hi ≤ 9999) {x k : Nat} (hk : k < 35) (hW : W = x_wk k) (hx0 : t0 + 1 ≤ x) {g : Nat → Nat → Int} {i w : Nat} (hC : RC b n M tx tb pl bg t0 so g) (hF : FS b n M m g i w) (hx : g_ex ax yX12_worded cX12_worded [(0, (M : Int)), (1, W), (3, (x : Int)), (4, lo), (5, hi)] (L, g) r h) : FO b n M tx pl bg t0 m L g (u_wd (tkS b n) (vlS b n) (k : Int) lo hi i) r h := by
  obtain ⟨ρ, N, hρ, hr⟩ := g_run_of hx
  have h0 : ρ 0 = (M : Int) := hρ (0, _) (by simp)
  have h1 : ρ 1 = W := hρ (1, _) (by simp)
  have h3 : ρ 3 = (x : Int) := hρ (3, _) (by simp)
  have h4 : ρ 4 = lo := hρ (4, _) (by simp)
  have h5 : ρ 5 = hi := hρ (5, _) (by simp)
  have hx := pt_X12_worded_0 (fun _ _ _ _ _ _ h => h) hr
  have hF0 := hF
  obtain ⟨hT, h13, hw, him⟩ := hF
  rw [h0, h1, isW (TK_i hC hT) hk hW] at hx
  unfold u_wd
  by_cases hc : tkS b n i = (k : Int)
  · rw [if_pos hc] at hx ⊢
    have hi2 : i < m := by
      by_cases hq : i = m
      · rw [hq, hE] at hc
        omega
      · omega
    rcases hx with ⟨c, -⟩ | ⟨-, n1, r1, k1, -, hx1, hr1⟩
    · cases c
    · obtain ⟨e1, g', e2, e3, e4⟩ := nt_i (i := i) hC hT.1 hx1
      subst e1
      subst e2
      obtain ⟨n2, r2, k2, -, hx2, hr2⟩ := pt_X12_worded_14 (fun _ _ _ _ _ _ h => h) hr1
      rw [h0, h3, h4, h5] at hx2
      have f1 : fR M tx pl bg t0 g g' := fR_fM e3
      have hq := FO_tr f1 (fi_x hD hm hE hh hx0 (RC_mo hD hC f1) ⟨e4, by rw [e3 M 13 (by omega)]; exact h13, by omega, by omega⟩ hx2)
      obtain ⟨g2, a1, a2, a3, a4, a5⟩ := hq
      subst a1
      subst a2
      obtain ⟨b1, b2⟩ := pt_X12_worded_23 (fun _ _ _ _ _ _ h => h) hr2
      exact ⟨g2, b1, b2, a3, a4, a5⟩
  · rw [if_neg hc] at hx ⊢
    rcases hx with ⟨-, e1, e2⟩ | ⟨c, -⟩
    · exact ⟨g, e1, e2, fR_rf, hT.2.1, fun hc => absurd hc (f1_ne (by decide))⟩
    · exact absurd rfl c
end RX
theorem cw_needs : F_X12_w5 110 101 101 100 115 gz = x_wk 14 := by decide +kernel
theorem cw_drowns : F_X12_w6 100 114 111 119 110 115 gz = x_wk 15 := by decide +kernel
theorem cw_on : F_X12_w2 111 110 gz = x_wk 16 := by decide +kernel
theorem cw_by : F_X12_w2 98 121 gz = x_wk 17 := by decide +kernel
theorem cw_to : F_X12_w2 116 111 gz = x_wk 18 := by decide +kernel
theorem cw_from : F_X12_w4 102 114 111 109 gz = x_wk 19 := by decide +kernel
