/-! The reference's parser, without its heap: what is piled, what lies on the stacks, code so far. -/
def rk (o : Int) : Int := if 40 ≤ o then 0 else if o = 22 then 1 else if o = 21 then 2 else if o = 20 then 3 else if 10 ≤ o then 4 else if o = 2 then 7 else if 5 ≤ o then 6 else 5
def goodO (o : Int) : Prop := o = 2 ∨ (3 ≤ o ∧ o ≤ 6) ∨ (10 ≤ o ∧ o ≤ 15) ∨ (20 ≤ o ∧ o ≤ 22) ∨ (40 ≤ o ∧ o ≤ 42)
def plist (P : Nat → Int) : Nat → List Int
  | 0 => []
  | n + 1 => P n :: plist P n
def nb : List Int → Nat
  | [] => 0
  | o :: l => nb l + (if (3 ≤ o ∧ o ≤ 6) ∨ (10 ≤ o ∧ o ≤ 15) then 1 else 0)
def tb : List Int → Nat
  | [] => 0
  | o :: l => tb l + (if o = 21 ∨ o = 22 then 1 else 0)
def opc : List Int → Nat
  | [] => 0
  | o :: l => opc l + (if 40 ≤ o ∨ o = 2 ∨ o = 20 then 1 else 0)
def inn : List Int → Nat
  | [] => 0
  | o :: l => inn l + (if 41 ≤ o then 1 else 0)
def pnd : List Int → Nat
  | [] => 0
  | o :: l => pnd l + (if o < 40 then 1 else 0)
def md : List Int → Nat
  | [] => 0
  | o :: l => if 10 ≤ o ∧ o ≤ 15 then 2 else if o = 20 ∨ o = 21 ∨ o = 22 ∨ o = 42 then 1 else if o = 40 ∨ o = 41 then 0 else md l
def slk : List Int → Nat
  | [] => 5
  | o :: _ => if 40 ≤ o ∨ o = 2 ∨ o = 20 then 5 else if o = 22 then 4 else if o = 21 then 3 else if 10 ≤ o then 2 else if 5 ≤ o then 0 else 1
def ahd : List Int → Prop
  | [] => False
  | o :: _ => o = 20 ∨ o = 21 ∨ o = 22 ∨ o = 42
def wf : List Int → Prop
  | [] => True
  | o :: l => wf l ∧ goodO o ∧ l.length + 1 + slk (o :: l) ≤ 5 + 6 * opc (o :: l) ∧ ((10 ≤ o ∧ o ≤ 15) ∨ (20 ≤ o ∧ o ≤ 22) → ahd l)
/-- what is open at last -/
def onl : List Int → Int
  | [] => -1
  | o :: l => if 40 ≤ o then o else onl l
/-- whether what is asked at last has been compared -/
def cmd : List Int → Bool
  | [] => false
  | o :: l => if rk o ≤ 4 then decide (rk o = 4) else cmd l
def stl (least : Int) : List Int → Bool → List Int × Bool
  | [], v => ([], v)
  | o :: l, v => if least ≤ rk o then stl least l (v || decide (10 ≤ o ∧ o ≤ 15)) else (o :: l, v)
theorem plist_len (P : Nat → Int) : ∀ n, (plist P n).length = n := by
  intro n
  induction n with
  | zero => rfl
  | succ n ih => simp [plist, ih]
theorem plist_cong {P P' : Nat → Int} : ∀ n, (∀ i, i < n → P' i = P i) → plist P' n = plist P n := by
  intro n
  induction n with
  | zero => intro _; rfl
  | succ n ih =>
    intro h
    simp only [plist]
    rw [h n (by omega), ih (fun i hi => h i (by omega))]
theorem wf_len : ∀ {l : List Int}, wf l → l.length ≤ 5 + 6 * opc l := by
  intro l
  cases l with
  | nil => intro _; simp
  | cons o l => intro h; have := h.2.2.1; simp only [List.length_cons]; omega
theorem wf_slk : ∀ {l : List Int}, wf l → l.length + slk l ≤ 5 + 6 * opc l := by
  intro l
  cases l with
  | nil => intro _; simp [slk]
  | cons o l => intro h; have := h.2.2.1; simp only [List.length_cons]; omega
theorem inn_opc : ∀ l : List Int, inn l ≤ opc l := by
  intro l
  induction l with
  | nil => simp [inn]
  | cons o l ih =>
    simp only [inn, opc]
    split <;> split <;> omega
theorem ahd_md {l : List Int} (h : ahd l) : md l = 1 := by
  cases l with
  | nil => exact absurd h id
  | cons o l =>
    have h' : o = 20 ∨ o = 21 ∨ o = 22 ∨ o = 42 := h
    simp only [md]
    rw [if_neg (by omega), if_pos (by omega)]
theorem onl_cases : ∀ {l : List Int}, wf l → onl l = -1 ∨ onl l = 40 ∨ onl l = 41 ∨ onl l = 42 := by
  intro l
  induction l with
  | nil => intro _; exact Or.inl rfl
  | cons o l ih =>
    intro h
    simp only [onl]
    split
    · have := h.2.1
      unfold goodO at this
      omega
    · exact ih h.1
theorem md_onl : ∀ {l : List Int}, wf l → (onl l = 42 → (md l = 1 ∧ cmd l = false) ∨ (md l = 2 ∧ cmd l = true)) ∧ (onl l ≠ 42 → md l = 0) := by
  intro l
  induction l with
  | nil => intro _; exact ⟨fun h => by simp [onl] at h, fun _ => rfl⟩
  | cons o l ih =>
    intro h
    obtain ⟨i1, i2⟩ := ih h.1
    have hg := h.2.1
    unfold goodO at hg
    have ha := h.2.2.2
    simp only [onl, md, cmd]
    by_cases h40 : 40 ≤ o
    · rw [if_pos h40]
      have hr : rk o = 0 := by unfold rk; rw [if_pos h40]
      rw [hr]
      refine ⟨fun h42 => Or.inl ⟨?_, ?_⟩, fun h42 => ?_⟩
      · rw [if_neg (by omega), if_pos (by omega)]
      · rfl
      · rw [if_neg (by omega), if_neg (by omega), if_pos (by omega)]
    · rw [if_neg h40]
      by_cases hc : 10 ≤ o ∧ o ≤ 15
      · have hr : rk o = 4 := by unfold rk; rw [if_neg h40, if_neg (by omega), if_neg (by omega), if_neg (by omega), if_pos hc.1]
        rw [hr, if_pos hc]
        have hal := ha (Or.inl hc)
        have hm := ahd_md hal
        refine ⟨fun _ => Or.inr ⟨rfl, rfl⟩, fun hn => ?_⟩
        have := i2 hn
        omega
      · rw [if_neg hc]
        by_cases hq : 20 ≤ o ∧ o ≤ 22
        · have hr : rk o ≤ 3 ∧ 1 ≤ rk o := by
            unfold rk
            rw [if_neg h40]
            split
            · omega
            · split
              · omega
              · split <;> omega
          rw [if_pos (by omega), if_pos (by omega)]
          have hal := ha (Or.inr hq)
          have hm := ahd_md hal
          refine ⟨fun _ => Or.inl ⟨rfl, by simp; omega⟩, fun hn => ?_⟩
          have := i2 hn
          omega
        · rw [if_neg (by omega), if_neg (by omega)]
          have hr : ¬ rk o ≤ 4 := by
            unfold rk
            rw [if_neg h40, if_neg (by omega), if_neg (by omega), if_neg (by omega), if_neg (by omega)]
            split
            · omega
            · split <;> omega
          rw [if_neg hr]
          exact ⟨i1, i2⟩
/-- what settling keeps -/
theorem stl_ok (least : Int) : ∀ (l : List Int) (v : Bool), wf l → 1 ≤ least → (v = false → md l = 1 → 4 ≤ least) → (v = true → ahd l) → wf (stl least l v).1 ∧ onl (stl least l v).1 = onl l ∧ ((stl least l v).2 = true → ahd (stl least l v).1) ∧ ((stl least l v).1 = [] ∨ ∃ o l', (stl least l v).1 = o :: l' ∧ rk o < least) ∧ (v = false → 5 ≤ least → (stl least l v).2 = false ∧ md (stl least l v).1 = md l) ∧ (v = false → md l ≤ 1 → (stl least l v).2 = false ∧ md (stl least l v).1 = md l) ∧ (v = false → md l = 2 → least ≤ 4 → (stl least l v).2 = true) ∧ (v = true → (stl least l v).2 = true) := by
  intro l
  induction l with
  | nil => intro v _ _ h1 h2; exact ⟨trivial, rfl, h2, Or.inl rfl, fun h _ => ⟨h, rfl⟩, fun h _ => ⟨h, rfl⟩, fun _ h => by simp [md] at h, fun h => h⟩
  | cons o l ih =>
    intro v hw hl h1 h2
    simp only [stl]
    by_cases hr : least ≤ rk o
    · rw [if_pos hr]
      have hg := hw.2.1
      unfold goodO at hg
      have h40 : ¬ 40 ≤ o := fun h => by
        unfold rk at hr
        rw [if_pos h] at hr
        omega
      by_cases hc : 10 ≤ o ∧ o ≤ 15
      · have hal := hw.2.2.2 (Or.inl hc)
        have hd : (v || decide (10 ≤ o ∧ o ≤ 15)) = true := by simp [hc]
        rw [hd]
        obtain ⟨j1, j2, j3, j4, j5, j6, j7, j8⟩ := ih true hw.1 hl (fun h => (by cases h)) (fun _ => hal)
        have hm : md (o :: l) = 2 := by simp [md, hc]
        have hr4 : rk o = 4 := by unfold rk; rw [if_neg h40, if_neg (by omega), if_neg (by omega), if_neg (by omega), if_pos hc.1]
        refine ⟨j1, ?_, j3, j4, fun _ h5 => by omega, fun _ h => by omega, fun _ _ _ => j8 rfl, fun _ => j8 rfl⟩
        rw [j2]
        simp [onl, h40]
      · have hd : (v || decide (10 ≤ o ∧ o ≤ 15)) = v := by simp [hc]
        rw [hd]
        by_cases hq : 20 ≤ o ∧ o ≤ 22
        · have hal := hw.2.2.2 (Or.inr hq)
          have hm : md (o :: l) = 1 := by simp only [md]; rw [if_neg hc, if_pos (by omega)]
          have hr3 : rk o ≤ 3 := by
            unfold rk
            rw [if_neg h40]
            split
            · omega
            · split
              · omega
              · split <;> omega
          cases v with
          | false => have := h1 rfl hm; omega
          | true =>
            obtain ⟨j1, j2, j3, j4, j5, j6, j7, j8⟩ := ih true hw.1 hl (fun h => (by cases h)) (fun _ => hal)
            refine ⟨j1, ?_, j3, j4, fun h => (by cases h), fun h => (by cases h), fun h => (by cases h), fun _ => j8 rfl⟩
            rw [j2]
            simp [onl, h40]
        · have hm : md (o :: l) = md l := by simp only [md]; rw [if_neg hc, if_neg (by omega), if_neg (by omega)]
          have hv : v = false := by
            cases v with
            | false => rfl
            | true =>
              have : o = 20 ∨ o = 21 ∨ o = 22 ∨ o = 42 := h2 rfl
              omega
          subst hv
          obtain ⟨j1, j2, j3, j4, j5, j6, j7, j8⟩ := ih false hw.1 hl (fun h h' => h1 h (by rw [hm]; exact h')) (fun h => by cases h)
          rw [hm]
          refine ⟨j1, ?_, j3, j4, j5, j6, j7, j8⟩
          rw [j2]
          simp [onl, h40]
    · rw [if_neg hr]
      refine ⟨hw, rfl, h2, Or.inr ⟨o, l, rfl, by omega⟩, fun h _ => ⟨h, rfl⟩, fun h _ => ⟨h, rfl⟩, fun hv hm h4 => ?_, fun h => h⟩
      exfalso
      -- mode 2 has a comparison on the way, of rank 4 or more all
      have hg := hw.2.1
      unfold goodO at hg
      simp only [md] at hm
      by_cases hc : 10 ≤ o ∧ o ≤ 15
      · have hr4 : rk o = 4 := by unfold rk; rw [if_neg (by omega), if_neg (by omega), if_neg (by omega), if_neg (by omega), if_pos hc.1]
        omega
      · rw [if_neg hc] at hm
        split at hm
        · omega
        · split at hm
          · omega
          · have : 5 ≤ rk o := by
              unfold rk
              rw [if_neg (by omega), if_neg (by omega), if_neg (by omega), if_neg (by omega), if_neg (by omega)]
              split
              · omega
              · split <;> omega
            omega
/-! Code so far. -/
abbrev oO (g : Nat → Int) (T : Nat) : Nat → Int := fun i => g (T + 97 + 2 * i)
abbrev vV (g : Nat → Int) (T : Nat) : Nat → Int := fun i => g (T + 97 + 2 * i + 1)
theorem wsc_congr {o o' v v' : Nat → Int} : ∀ (c i n t : Nat) (fr : List (Nat × Nat × Nat × Nat)), (∀ j, i ≤ j → j < i + c → o' j = o j ∧ v' j = v j) → wsc o v c i n t fr → wsc o' v' c i n t fr := by
  intro c
  induction c with
  | zero => intro i n t fr _ h; exact h
  | succ c ih =>
    intro i n t fr ha h
    have e0 := ha i (by omega) (by omega)
    have hn : ∀ n t fr, wsc o v c (i + 1) n t fr → wsc o' v' c (i + 1) n t fr := fun n t fr => ih (i + 1) n t fr (fun j h1 h2 => ha j (by omega) (by omega))
    unfold wsc at h ⊢
    rw [e0.1, e0.2]
    rcases h with ⟨a, b⟩ | ⟨a, b, b', b''⟩ | ⟨a, b, b'⟩ | ⟨a, b, b', b''⟩ | ⟨a, b, b', b''⟩ | ⟨a, b, b'⟩ | ⟨a, b, b'⟩ | ⟨a, b, j, b1, b2, b3⟩ | ⟨e, n', t', fr', a, b, b1, b2⟩
    · exact Or.inl ⟨a, hn _ _ _ b⟩
    · exact Or.inr (Or.inl ⟨a, b, b', hn _ _ _ b''⟩)
    · exact Or.inr (Or.inr (Or.inl ⟨a, b, hn _ _ _ b'⟩))
    · exact Or.inr (Or.inr (Or.inr (Or.inl ⟨a, b, b', hn _ _ _ b''⟩)))
    · exact Or.inr (Or.inr (Or.inr (Or.inr (Or.inl ⟨a, b, b', hn _ _ _ b''⟩))))
    · exact Or.inr (Or.inr (Or.inr (Or.inr (Or.inr (Or.inl ⟨a, b, hn _ _ _ b'⟩)))))
    · exact Or.inr (Or.inr (Or.inr (Or.inr (Or.inr (Or.inr (Or.inl ⟨a, b, hn _ _ _ b'⟩))))))
    · exact Or.inr (Or.inr (Or.inr (Or.inr (Or.inr (Or.inr (Or.inr (Or.inl ⟨a, b, j, b1, b2, hn _ _ _ b3⟩)))))))
    · exact Or.inr (Or.inr (Or.inr (Or.inr (Or.inr (Or.inr (Or.inr (Or.inr ⟨e, n', t', fr', a, b, b1, hn _ _ _ b2⟩)))))))
def frs (bg : Nat → Int) (en : Nat → Nat) : List Int → List (Nat × Nat × Nat × Nat)
  | [] => []
  | o :: l => if 41 ≤ o then ((bg (inn l)).toNat, en (inn l), nb l, tb l) :: frs bg en l else frs bg en l
theorem frs_len (bg : Nat → Int) (en : Nat → Nat) : ∀ l, (frs bg en l).length = inn l := by
  intro l
  induction l with
  | nil => rfl
  | cons o l ih =>
    simp only [frs, inn]
    split <;> simp [ih]
theorem frs_cong {bg bg' : Nat → Int} {en en' : Nat → Nat} : ∀ l, (∀ k, k < inn l → bg' k = bg k ∧ en' k = en k) → frs bg' en' l = frs bg en l := by
  intro l
  induction l with
  | nil => intro _; rfl
  | cons o l ih =>
    intro h
    simp only [inn] at h
    simp only [frs]
    split
    · rename_i h41
      rw [if_pos h41] at h
      rw [(h (inn l) (by omega)).1, (h (inn l) (by omega)).2, ih (fun k hk => h k (by omega))]
    · rename_i h41
      rw [if_neg h41] at h
      exact ih (fun k hk => h k (by omega))
/-- whatever comes behind: if it goes on well from here, the whole is well made -/
def Gd (g : Nat → Int) (T i0 w n t : Nat) (l : List Int) (bg : Nat → Int) : Prop := ∀ (g' : Nat → Int) (to : Nat) (en : Nat → Nat), w ≤ to → (∀ i, i0 ≤ i → i < w → oO g' T i = oO g T i) → (∀ i, i0 ≤ i → i < w → (∀ k, k < inn l → bg k ≠ (i : Int)) → vV g' T i = vV g T i) → (∀ k, k < inn l → vV g' T (bg k).toNat = (en k : Int) ∧ (bg k).toNat < en k) → wsc (oO g' T) (vV g' T) (to - w) w n t (frs bg en l) → wsc (oO g' T) (vV g' T) (to - i0) i0 0 0 []
theorem Gd_start (g : Nat → Int) (T i0 : Nat) (bg : Nat → Int) : Gd g T i0 i0 0 0 [] bg := fun _ _ _ _ _ _ _ h => h
/-- one instruction more that opens and shuts nothing -/
theorem Gd_step {g g2 : Nat → Int} {T i0 w n t n2 t2 : Nat} {l l2 : List Int} {bg : Nat → Int} (h : Gd g T i0 w n t l bg) (hi0 : i0 ≤ w) (hfr : ∀ en, frs bg en l2 = frs bg en l) (hin : inn l2 = inn l) (hb : ∀ k, k < inn l → bg k < w) (hO : ∀ i, i < w → oO g2 T i = oO g T i) (hV : ∀ i, i < w → vV g2 T i = vV g T i) (hs : ∀ (g' : Nat → Int) (c : Nat) (fr : List (Nat × Nat × Nat × Nat)), oO g' T w = oO g2 T w → vV g' T w = vV g2 T w → wsc (oO g' T) (vV g' T) c (w + 1) n2 t2 fr → wsc (oO g' T) (vV g' T) (c + 1) w n t fr) : Gd g2 T i0 (w + 1) n2 t2 l2 bg := by
  intro g' to en hw h1 h2 h3 h4
  refine h g' to en (by omega) (fun i a b => (h1 i a (by omega)).trans (hO i b)) (fun i a b c => (h2 i a (by omega) (by rw [hin]; exact c)).trans (hV i b)) (by rw [hin] at h3; exact h3) ?_
  rw [hfr] at h4
  have e : to - w = (to - (w + 1)) + 1 := by omega
  rw [e]
  refine hs g' _ _ (h1 w hi0 (by omega)) (h2 w hi0 (by omega) (fun k hk he => ?_)) h4
  have := hb k (by rw [← hin]; exact hk)
  omega
/-- a sum or a count is opened -/
theorem Gd_open {g g2 : Nat → Int} {T i0 w n t : Nat} {l : List Int} {o : Int} {bg bg2 : Nat → Int} (h : Gd g T i0 w n t l bg) (hi0 : i0 ≤ w) (h41 : 41 ≤ o) (hl : inn l < 8) (hn : n = nb l) (ht : t = tb l) (hb : ∀ k, k < inn l → bg k < w) (hb2 : ∀ k, k < inn l → bg2 k = bg k) (hbk : bg2 (inn l) = w) (hO : ∀ i, i < w → oO g2 T i = oO g T i) (hV : ∀ i, i < w → vV g2 T i = vV g T i) (hw : oO g2 T w = 30) : Gd g2 T i0 (w + 1) n t (o :: l) bg2 := by
  intro g' to en hwt h1 h2 h3 h4
  have hin : inn (o :: l) = inn l + 1 := by simp [inn, h41]
  rw [hin] at h2 h3
  simp only [frs, if_pos h41] at h4
  have e1 : frs bg2 en l = frs bg en l := frs_cong l (fun k hk => ⟨hb2 k hk, rfl⟩)
  rw [e1, hbk] at h4
  refine h g' to en (by omega) (fun i a b => (h1 i a (by omega)).trans (hO i b)) (fun i a b c => (h2 i a (by omega) (fun k hk => ?_)).trans (hV i b)) (fun k hk => ?_) ?_
  · by_cases hkl : k < inn l
    · rw [hb2 k hkl]
      exact c k hkl
    · have : k = inn l := by omega
      rw [this, hbk]
      omega
  · have := h3 k (by omega)
    rw [hb2 k hk] at this
    exact this
  · have e : to - w = (to - (w + 1)) + 1 := by omega
    rw [e]
    have h5 := h3 (inn l) (by omega)
    rw [hbk] at h5
    have h6 : ((w : Int)).toNat = w := by omega
    rw [h6] at h5 h4
    unfold wsc
    refine Or.inr (Or.inr (Or.inr (Or.inr (Or.inr (Or.inr (Or.inr (Or.inl ⟨?_, ?_, en (inn l), h5.1, h5.2, ?_⟩)))))))
    · rw [h1 w hi0 (by omega), hw]
    · rw [frs_len]
      exact hl
    · rw [hn, ht] at h4 ⊢
      exact h4
/-- it is shut: its beginning is told where it ends, its end is told where it begins -/
theorem Gd_shut {g g2 : Nat → Int} {T i0 w n t n2 : Nat} {l : List Int} {o : Int} {bg : Nat → Int} (h : Gd g T i0 w n t (o :: l) bg) (hi0 : i0 ≤ w) (h41 : 41 ≤ o) (hb : ∀ k, k < inn l + 1 → (i0 : Int) ≤ bg k ∧ bg k < w) (hbm : ∀ k, k < inn l → bg k < bg (inn l)) (hO : ∀ i, i < w → oO g2 T i = oO g T i) (hV : ∀ i, i < w → i ≠ (bg (inn l)).toNat → vV g2 T i = vV g T i) (hVb : vV g2 T (bg (inn l)).toNat = w) (hw : vV g2 T w = bg (inn l)) (hop : (oO g2 T w = 31 ∧ n = nb l + 1 ∧ t = tb l) ∨ (oO g2 T w = 32 ∧ n = nb l ∧ t = tb l + 1)) (hn2 : n2 = nb l + 1) : Gd g2 T i0 (w + 1) n2 (tb l) l bg := by
  intro g' to en hwt h1 h2 h3 h4
  have hbi := hb (inn l) (by omega)
  have hin : inn (o :: l) = inn l + 1 := by simp [inn, h41]
  have hVb' : vV g' T (bg (inn l)).toNat = w := by
    rw [h2 _ (by omega) (by omega) (fun k hk he => ?_), hVb]
    have := hbm k hk
    omega
  refine h g' to (fun k => if k = inn l then w else en k) (by omega) (fun i a b => (h1 i a (by omega)).trans (hO i b)) (fun i a b c => ?_) (fun k hk => ?_) ?_
  · rw [hin] at c
    rw [h2 i a (by omega) (fun k hk => c k (by omega))]
    refine hV i b (fun he => ?_)
    have := c (inn l) (by omega)
    omega
  · rw [hin] at hk
    by_cases hkl : k = inn l
    · subst hkl
      simp only [if_pos]
      exact ⟨hVb', by omega⟩
    · simp only [if_neg hkl]
      exact h3 k (by omega)
  · simp only [frs, if_pos h41]
    have e1 : frs bg (fun k => if k = inn l then w else en k) l = frs bg en l := frs_cong l (fun k hk => ⟨rfl, by rw [if_neg (by omega)]⟩)
    rw [e1]
    have e : to - w = (to - (w + 1)) + 1 := by omega
    rw [e]
    unfold wsc
    refine Or.inr (Or.inr (Or.inr (Or.inr (Or.inr (Or.inr (Or.inr (Or.inr ⟨(bg (inn l)).toNat, nb l, tb l, frs bg en l, rfl, ?_, ?_, ?_⟩)))))))
    · rw [h2 w hi0 (by omega) (fun k hk he => ?_), hw]
      · omega
      · have := (hb k (by omega)).2
        omega
    · rw [h1 w hi0 (by omega)]
      exact hop
    · rw [hn2] at h4
      exact h4
/-- the whole of a law -/
theorem Gd_end {g : Nat → Int} {T i0 w : Nat} {bg : Nat → Int} (h : Gd g T i0 w 1 0 [] bg) : wsc (oO g T) (vV g T) (w - i0) i0 0 0 [] := by
  refine h g w (fun _ => 0) (Nat.le_refl _) (fun _ _ _ => rfl) (fun _ _ _ _ => rfl) (fun k hk => by simp [inn] at hk) ?_
  rw [Nat.sub_self]
  exact ⟨rfl, rfl, rfl⟩
/-! What every law that has been read keeps when a number is written. -/
theorem Psi_wr {g g' : Nat → Int} {T w w' c j : Nat} (h : Psi g T w) (hT : ∃ s, s < 4 ∧ T = 705 * s) (hw : w ≤ w') (hc : ∀ k : Nat, k < 24 → (k : Int) < g T → 0 ≤ g (T + 1 + 4 * k) → g (T + 1 + 4 * k) ≤ 4 → g (T + 1 + 4 * k + 2) ≤ c) (hj : T + 97 + 2 * c ≤ j ∧ j < T + 705) (hg : ∀ i, i ≠ j → g' i = g i) : Psi g' T w' := by
  obtain ⟨s, hs, rfl⟩ := hT
  obtain ⟨h1, h2⟩ := h
  have e0 : (((705 * s : Nat) : Int)).toNat = 705 * s := by omega
  refine ⟨fun k hk a b d => ?_, fun s' hs' k hk a b d => ?_⟩
  · rw [e0] at a b d ⊢
    rw [hg _ (by omega)] at a
    rw [hg _ (by omega)] at b
    rw [hg _ (by omega)] at d
    rw [hg _ (by omega)]
    have := h1 k hk (by rw [e0]; exact a) (by rw [e0]; exact b) (by rw [e0]; exact d)
    rw [e0] at this
    omega
  · have hne : ∀ x, x ≤ 96 → g' (705 * s' + x) = g (705 * s' + x) := fun x hx => hg _ (by omega)
    have e1 := hne 0 (by omega)
    have e2 := hne (1 + 4 * k) (by omega)
    have e3 := hne (1 + 4 * k + 1) (by omega)
    have e4 := hne (1 + 4 * k + 2) (by omega)
    have a' : (k : Int) < g (705 * s') := by have e1' : g' (705 * s') = g (705 * s') := e1; rw [← e1']; exact a
    have b' : g (705 * s' + 1 + 4 * k) ≤ 4 := by
      have : 705 * s' + (1 + 4 * k) = 705 * s' + 1 + 4 * k := by omega
      rw [this] at e2; rw [← e2]; exact b
    have d' : 0 ≤ g (705 * s' + 1 + 4 * k) := by
      have : 705 * s' + (1 + 4 * k) = 705 * s' + 1 + 4 * k := by omega
      rw [this] at e2; rw [← e2]; exact d
    obtain ⟨fr, to, q1, q2, q3, q4, q5⟩ := h2 s' hs' k hk a' b' d'
    refine ⟨fr, to, ?_, ?_, q3, q4, ?_⟩
    · have : 705 * s' + (1 + 4 * k + 1) = 705 * s' + 1 + 4 * k + 1 := by omega
      rw [this] at e3; rw [e3]; exact q1
    · have : 705 * s' + (1 + 4 * k + 2) = 705 * s' + 1 + 4 * k + 2 := by omega
      rw [this] at e4; rw [e4]; exact q2
    · refine wsc_congr _ _ _ _ _ (fun i hi1 hi2 => ?_) q5
      have hto : s' = s → to ≤ c := fun he => by
        subst he
        have := hc k hk a' d' b'
        rw [q2] at this
        omega
      have : ∀ x, x ≤ 1 → g' (705 * s' + 97 + 2 * i + x) = g (705 * s' + 97 + 2 * i + x) := fun x hx => by
        refine hg _ ?_
        rcases Nat.lt_trichotomy s' s with he | he | he
        · omega
        · have := hto he
          subst he
          omega
        · omega
      exact ⟨this 0 (by omega), this 1 (by omega)⟩
/-- a row of a clause that doesn't count yet -/
theorem Psi_cl {g g' : Nat → Int} {T w n j : Nat} (h : Psi g T w) (hT : ∃ s, s < 4 ∧ T = 705 * s) (hn : g T = n) (hj : T + 1 + 4 * n ≤ j ∧ j ≤ T + 4 + 4 * n) (hn24 : n < 24) (hg : ∀ i, i ≠ j → g' i = g i) : Psi g' T w := by
  obtain ⟨s, hs, rfl⟩ := hT
  obtain ⟨h1, h2⟩ := h
  have e0 : (((705 * s : Nat) : Int)).toNat = 705 * s := by omega
  refine ⟨fun k hk a b d => ?_, fun s' hs' k hk a b d => ?_⟩
  · rw [e0] at a b d ⊢
    rw [hg _ (by omega)] at a
    rw [hn] at a
    rw [hg _ (by omega)] at b
    rw [hg _ (by omega)] at d
    rw [hg _ (by omega)]
    have := h1 k hk (by rw [e0, hn]; exact a) (by rw [e0]; exact b) (by rw [e0]; exact d)
    rw [e0] at this
    exact this
  · have e1 : g' (705 * s') = g (705 * s') := hg _ (by
      rcases Nat.lt_trichotomy s' s with he | he | he
      · omega
      · subst he
        omega
      · omega)
    rw [e1] at a
    have hkn : s' = s → k < n := fun he => by
      subst he
      rw [hn] at a
      omega
    have hne : ∀ x, 1 + 4 * k ≤ x → x ≤ 4 + 4 * k → g' (705 * s' + x) = g (705 * s' + x) := fun x hx hx2 => by
      refine hg _ ?_
      rcases Nat.lt_trichotomy s' s with he | he | he
      · omega
      · have := hkn he
        subst he
        omega
      · omega
    have e2 := hne (1 + 4 * k) (by omega) (by omega)
    have e3 := hne (1 + 4 * k + 1) (by omega) (by omega)
    have e4 := hne (1 + 4 * k + 2) (by omega) (by omega)
    have r2 : 705 * s' + (1 + 4 * k) = 705 * s' + 1 + 4 * k := by omega
    have r3 : 705 * s' + (1 + 4 * k + 1) = 705 * s' + 1 + 4 * k + 1 := by omega
    have r4 : 705 * s' + (1 + 4 * k + 2) = 705 * s' + 1 + 4 * k + 2 := by omega
    rw [r2] at e2
    rw [r3] at e3
    rw [r4] at e4
    rw [e2] at b d
    obtain ⟨fr, to, q1, q2, q3, q4, q5⟩ := h2 s' hs' k hk a b d
    refine ⟨fr, to, by rw [e3]; exact q1, by rw [e4]; exact q2, q3, q4, ?_⟩
    refine wsc_congr _ _ _ _ _ (fun i hi1 hi2 => ?_) q5
    have : ∀ x, x ≤ 1 → g' (705 * s' + 97 + 2 * i + x) = g (705 * s' + 97 + 2 * i + x) := fun x hx => by
      refine hg _ ?_
      rcases Nat.lt_trichotomy s' s with he | he | he
      · omega
      · subst he
        omega
      · omega
    exact ⟨this 0 (by omega), this 1 (by omega)⟩
/-- a clause more counts -/
theorem Psi_cnt {g g' : Nat → Int} {T w n : Nat} (h : Psi g T w) (hT : ∃ s, s < 4 ∧ T = 705 * s) (hn : g T = n) (hn24 : n < 24) (hg : ∀ i, i ≠ T → g' i = g i) (hgT : g' T = n + 1) (hlaw : 0 ≤ g (T + 1 + 4 * n) → g (T + 1 + 4 * n) ≤ 4 → ∃ fr to : Nat, g (T + 1 + 4 * n + 1) = fr ∧ g (T + 1 + 4 * n + 2) = to ∧ fr ≤ to ∧ to ≤ 304 ∧ to ≤ w ∧ wsc (oO g T) (vV g T) (to - fr) fr 0 0 []) : Psi g' T w := by
  obtain ⟨s, hs, rfl⟩ := hT
  obtain ⟨h1, h2⟩ := h
  have e0 : (((705 * s : Nat) : Int)).toNat = 705 * s := by omega
  refine ⟨fun k hk a b d => ?_, fun s' hs' k hk a b d => ?_⟩
  · rw [e0] at a b d ⊢
    rw [hgT] at a
    rw [hg _ (by omega)] at b
    rw [hg _ (by omega)] at d
    rw [hg _ (by omega)]
    by_cases hkn : k = n
    · subst hkn
      obtain ⟨fr, to, q1, q2, q3, q4, q5, q6⟩ := hlaw b d
      rw [q2]
      omega
    · have := h1 k hk (by rw [e0, hn]; omega) (by rw [e0]; exact b) (by rw [e0]; exact d)
      rw [e0] at this
      exact this
  · have hne : ∀ x, 1 ≤ x → x < 705 → g' (705 * s' + x) = g (705 * s' + x) := fun x hx hx2 => hg _ (by omega)
    have e2 := hne (1 + 4 * k) (by omega) (by omega)
    have e3 := hne (1 + 4 * k + 1) (by omega) (by omega)
    have e4 := hne (1 + 4 * k + 2) (by omega) (by omega)
    have r2 : 705 * s' + (1 + 4 * k) = 705 * s' + 1 + 4 * k := by omega
    have r3 : 705 * s' + (1 + 4 * k + 1) = 705 * s' + 1 + 4 * k + 1 := by omega
    have r4 : 705 * s' + (1 + 4 * k + 2) = 705 * s' + 1 + 4 * k + 2 := by omega
    rw [r2] at e2
    rw [r3] at e3
    rw [r4] at e4
    rw [e2] at b d
    rw [e3, e4]
    have hcode : ∀ (c fr : Nat), fr + c ≤ 304 → wsc (oO g (705 * s')) (vV g (705 * s')) c fr 0 0 [] → wsc (oO g' (705 * s')) (vV g' (705 * s')) c fr 0 0 [] := fun c fr hcf hq => wsc_congr _ _ _ _ _ (fun i hi1 hi2 => by
      have h97 := hne (97 + 2 * i) (by omega) (by omega)
      have h98 := hne (98 + 2 * i) (by omega) (by omega)
      have r97 : 705 * s' + (97 + 2 * i) = 705 * s' + 97 + 2 * i := by omega
      have r98 : 705 * s' + (98 + 2 * i) = 705 * s' + 97 + 2 * i + 1 := by omega
      rw [r97] at h97
      rw [r98] at h98
      exact ⟨h97, h98⟩) hq
    by_cases hkn : s' = s ∧ k = n
    · obtain ⟨rfl, rfl⟩ := hkn
      obtain ⟨fr, to, q1, q2, q3, q4, q5, q6⟩ := hlaw d b
      exact ⟨fr, to, q1, q2, q3, q4, hcode _ _ (by omega) q6⟩
    · have a' : (k : Int) < g (705 * s') := by
        by_cases he : s' = s
        · subst he
          rw [hgT] at a
          rw [hn]
          have : k ≠ n := fun hk => hkn ⟨rfl, hk⟩
          omega
        · rw [hg _ (by omega)] at a
          exact a
      obtain ⟨fr, to, q1, q2, q3, q4, q5⟩ := h2 s' hs' k hk a' b d
      exact ⟨fr, to, q1, q2, q3, q4, hcode _ _ (by omega) q5⟩
