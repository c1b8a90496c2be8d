/-! TOKENS out of bytes: b the bytes, n how many. -/
def x_let (c : Int) : Bool := (decide (97 ≤ c) && decide (c ≤ 122)) || (decide (65 ≤ c) && decide (c ≤ 90))
def x_dig (c : Int) : Bool := decide (48 ≤ c) && decide (c ≤ 57)
def x_blk (c : Int) : Bool := decide (c = 32) || decide (c = 10)
def x_run (f : Int → Bool) (b : Nat → Int) : Nat → Nat → Nat
  | 0, p => p
  | m + 1, p => if f (b p) = true then x_run f b m (p + 1) else p
/-- the first place from p on where it isn't so, or the end -/
def x_to (f : Int → Bool) (b : Nat → Int) (n p : Nat) : Nat := x_run f b (n - p) p
section XT
variable {f : Int → Bool} {b : Nat → Int} {n p : Nat}
theorem x_to_y (h : p < n) (hf : f (b p) = true) : x_to f b n p = x_to f b n (p + 1) := by
  unfold x_to
  rw [show n - p = (n - (p + 1)) + 1 by omega]
  exact if_pos hf
theorem x_to_n (hf : f (b p) = false) : x_to f b n p = p := by
  unfold x_to
  cases n - p with
  | zero => rfl
  | succ m => exact if_neg (by rw [hf]; decide)
theorem x_to_e (h : n ≤ p) : x_to f b n p = p := by
  unfold x_to
  rw [show n - p = 0 by omega]
  rfl
theorem x_run_b : ∀ (m p : Nat), p ≤ x_run f b m p ∧ x_run f b m p ≤ p + m ∧ (x_run f b m p = p + m ∨ f (b (x_run f b m p)) = false) ∧ ∀ j, p ≤ j → j < x_run f b m p → f (b j) = true := by
  intro m
  induction m with
  | zero => intro p; exact ⟨Nat.le_refl _, Nat.le_refl _, Or.inl rfl, fun j h1 h2 => absurd h2 (by show ¬ j < p; omega)⟩
  | succ m ih =>
    intro p
    by_cases hf : f (b p) = true
    · have e : x_run f b (m + 1) p = x_run f b m (p + 1) := if_pos hf
      rw [e]
      obtain ⟨h1, h2, h3, h4⟩ := ih (p + 1)
      refine ⟨by omega, by omega, h3.imp (fun h => by omega) id, fun j hj hl => ?_⟩
      by_cases hjp : j = p
      · rw [hjp]; exact hf
      · exact h4 j (by omega) hl
    · have e : x_run f b (m + 1) p = p := if_neg hf
      rw [e]
      exact ⟨Nat.le_refl _, by omega, Or.inr (by simpa using hf), fun j h1 h2 => absurd h2 (by omega)⟩
theorem x_to_ge : p ≤ x_to f b n p := (x_run_b (n - p) p).1
theorem x_to_le (h : p ≤ n) : x_to f b n p ≤ n := by
  have := (x_run_b (f := f) (b := b) (n - p) p).2.1
  unfold x_to
  omega
theorem x_to_s (h : p ≤ n) : x_to f b n p = n ∨ f (b (x_to f b n p)) = false := by
  have := (x_run_b (f := f) (b := b) (n - p) p).2.2.1
  unfold x_to
  exact this.imp (fun h => by omega) id
theorem x_to_all {j : Nat} (h1 : p ≤ j) (h2 : j < x_to f b n p) : f (b j) = true := (x_run_b (n - p) p).2.2.2 j h1 h2
end XT
def x_words : List (List Int) := [[115, 119, 101, 97, 116], [114, 97, 105, 110], [116, 97, 120], [100, 114, 105, 101, 115], [115, 104, 97, 114, 101], [102, 105, 101, 108, 100], [114, 111, 97, 100], [111, 110, 101], [119, 111, 114, 107], [103, 111], [115, 104, 97, 107, 101], [115, 116, 101, 97, 108], [112, 111, 117, 114], [104, 111, 117, 114], [110, 101, 101, 100, 115], [100, 114, 111, 119, 110, 115], [111, 110], [98, 121], [116, 111], [102, 114, 111, 109], [115, 117, 109], [99, 111, 117, 110, 116], [101, 110, 100], [111, 114], [97, 110, 100], [110, 111, 116], [97, 103, 101], [119, 104, 111], [102, 117, 108, 108], [99, 108, 111, 117, 100], [111, 108, 100], [104, 101, 114, 101], [104, 101, 97, 116], [119, 101, 116], [98, 111, 116, 104]]
def x_seg (b : Nat → Int) : Nat → Nat → List Int
  | _, 0 => []
  | p, m + 1 => b p :: x_seg b (p + 1) m
def x_sr (b : Nat → Int) (p : Nat) : Nat → List Int
  | 0 => []
  | m + 1 => b (p + m) :: x_sr b p m
theorem seg_snoc {b : Nat → Int} : ∀ (m p : Nat), x_seg b p (m + 1) = x_seg b p m ++ [b (p + m)] := by
  intro m
  induction m with
  | zero => intro p; rfl
  | succ m ih =>
    intro p
    show b p :: x_seg b (p + 1) (m + 1) = b p :: (x_seg b (p + 1) m ++ [b (p + (m + 1))])
    rw [ih, show p + 1 + m = p + (m + 1) by omega]
theorem seg_sr {b : Nat → Int} {p : Nat} : ∀ m, (x_sr b p m).reverse = x_seg b p m := by
  intro m
  induction m with
  | zero => rfl
  | succ m ih => rw [seg_snoc, ← ih]; exact List.reverse_cons
/-- which word -/
def x_fi (l : List Int) : List (List Int) → Int → Int
  | [], _ => 55
  | w :: ws, k => if l = w then k else x_fi l ws (k + 1)
/-- how the class looks it up -/
def x_wo (b : Nat → Int) (s e : Nat) : List Int → Int → Nat → Bool → Int
  | [], _, _, _ => 55
  | c :: cs, k, a, same => if c ≠ 32 then x_wo b s e cs k (a + 1) (same && decide (a < e) && decide (b a = c)) else if same = true ∧ a = e then k else x_wo b s e cs (k + 1) s true
theorem wo_word {b : Nat → Int} {s e : Nat} {rest : List Int} {k : Int} : ∀ (w : List Int), (∀ c ∈ w, c ≠ 32) → ∀ (a : Nat) (sm : Bool), x_wo b s e (w ++ 32 :: rest) k a sm = if sm = true ∧ a ≤ e ∧ x_seg b a (e - a) = w then k else x_wo b s e rest (k + 1) s true := by
  intro w
  induction w with
  | nil =>
    intro _ a sm
    show (if (32 : Int) ≠ 32 then _ else if sm = true ∧ a = e then k else x_wo b s e rest (k + 1) s true) = _
    rw [if_neg (by decide)]
    by_cases h : sm = true ∧ a = e
    · rw [if_pos h, if_pos ⟨h.1, by omega, by rw [h.2, Nat.sub_self]; rfl⟩]
    · rw [if_neg h, if_neg]
      rintro ⟨h1, h2, h3⟩
      refine h ⟨h1, ?_⟩
      cases hm : e - a with
      | zero => omega
      | succ m => rw [hm] at h3; cases h3
  | cons c w ih =>
    intro hw a sm
    have hc : c ≠ 32 := hw c (List.mem_cons_self ..)
    show (if c ≠ 32 then x_wo b s e (w ++ 32 :: rest) k (a + 1) (sm && decide (a < e) && decide (b a = c)) else _) = _
    rw [if_pos hc, ih (fun x hx => hw x (List.mem_cons_of_mem _ hx))]
    by_cases h : sm = true ∧ a ≤ e ∧ x_seg b a (e - a) = c :: w
    · rw [if_pos h]
      obtain ⟨h1, h2, h3⟩ := h
      cases hm : e - a with
      | zero => rw [hm] at h3; cases h3
      | succ m =>
        rw [hm] at h3
        obtain ⟨e1, e2⟩ := List.cons.inj h3
        refine if_pos ⟨?_, by omega, ?_⟩
        · rw [h1, decide_eq_true (by omega : a < e), decide_eq_true e1]; rfl
        · rw [show e - (a + 1) = m by omega]; exact e2
    · rw [if_neg h]
      refine if_neg (fun h2 => h ?_)
      obtain ⟨h3, h4, h5⟩ := h2
      simp only [Bool.and_eq_true, decide_eq_true_eq] at h3
      refine ⟨h3.1.1, by omega, ?_⟩
      rw [show e - a = (e - (a + 1)) + 1 by omega]
      show b a :: x_seg b (a + 1) (e - (a + 1)) = c :: w
      rw [h5, h3.2]
def x_flat : List (List Int) → List Int
  | [] => []
  | w :: ws => w ++ 32 :: x_flat ws
theorem wo_flat {b : Nat → Int} {s e : Nat} (hse : s ≤ e) : ∀ (ws : List (List Int)) (k : Int), (∀ w ∈ ws, ∀ c ∈ w, c ≠ 32) → x_wo b s e (x_flat ws) k s true = x_fi (x_seg b s (e - s)) ws k := by
  intro ws
  induction ws with
  | nil => intro k _; rfl
  | cons w ws ih =>
    intro k h
    show x_wo b s e (w ++ 32 :: x_flat ws) k s true = if x_seg b s (e - s) = w then k else x_fi (x_seg b s (e - s)) ws (k + 1)
    rw [wo_word w (h w (List.mem_cons_self ..)), ih (k + 1) (fun w' hw' => h w' (List.mem_cons_of_mem _ hw'))]
    by_cases hx : x_seg b s (e - s) = w
    · rw [if_pos hx, if_pos ⟨rfl, hse, hx⟩]
    · rw [if_neg hx, if_neg (fun h => hx h.2.2)]
theorem words_32 : ∀ w ∈ x_words, ∀ c ∈ w, c ≠ 32 := by decide
/-- words as numbers, the last letter first -/
def x_step (w c : Int) : Int := if 281474976710656 ≤ w then 1152921504606846976 else w * 256 + c
def x_pr : List Int → Int
  | [] => 0
  | c :: cs => x_step (x_pr cs) c
def okc (l : List Int) : Prop := ∀ c ∈ l, 1 ≤ c ∧ c ≤ 255
theorem pr_b : ∀ l, okc l → 0 ≤ x_pr l ∧ x_pr l ≤ 1152921504606846976 := by
  intro l
  induction l with
  | nil => intro _; exact ⟨by decide, by decide⟩
  | cons c l ih =>
    intro h
    have hc := h c (List.mem_cons_self ..)
    obtain ⟨h1, h2⟩ := ih (fun x hx => h x (List.mem_cons_of_mem _ hx))
    show 0 ≤ x_step (x_pr l) c ∧ x_step (x_pr l) c ≤ _
    unfold x_step
    split <;> omega
theorem pr_inj : ∀ l l', okc l → okc l' → x_pr l = x_pr l' → x_pr l' < 281474976710656 → l = l' := by
  intro l
  induction l with
  | nil =>
    intro l' _ h' he hl
    cases l' with
    | nil => rfl
    | cons c l' =>
      have hc := h' c (List.mem_cons_self ..)
      have hb := pr_b l' (fun x hx => h' x (List.mem_cons_of_mem _ hx))
      have e1 : x_pr (c :: l') = x_step (x_pr l') c := rfl
      have e2 : x_pr [] = 0 := rfl
      rw [e1, e2] at he
      unfold x_step at he
      split at he <;> omega
  | cons c l ih =>
    intro l' h h' he hl
    have hc := h c (List.mem_cons_self ..)
    have hb := pr_b l (fun x hx => h x (List.mem_cons_of_mem _ hx))
    have e0 : x_pr (c :: l) = x_step (x_pr l) c := rfl
    cases l' with
    | nil =>
      have e2 : x_pr [] = 0 := rfl
      rw [e0, e2] at he
      unfold x_step at he
      split at he <;> omega
    | cons c' l' =>
      have hc' := h' c' (List.mem_cons_self ..)
      have hb' := pr_b l' (fun x hx => h' x (List.mem_cons_of_mem _ hx))
      have e1 : x_pr (c' :: l') = x_step (x_pr l') c' := rfl
      rw [e1] at hl
      rw [e0, e1] at he
      unfold x_step at he hl
      split at hl
      · omega
      · rename_i h3
        rw [if_neg h3] at he
        split at he
        · omega
        · have e5 : c = c' := by omega
          have e6 : x_pr l = x_pr l' := by omega
          rw [e5, ih l' (fun x hx => h x (List.mem_cons_of_mem _ hx)) (fun x hx => h' x (List.mem_cons_of_mem _ hx)) e6 (by omega)]
theorem fi_mem {l : List Int} : ∀ (ws : List (List Int)) (k v : Int), x_fi l ws k = v → v = 55 ∨ ∃ i : Nat, i < ws.length ∧ v = k + i ∧ ws.getD i [] = l := by
  intro ws
  induction ws with
  | nil => intro k v h; exact Or.inl h.symm
  | cons w ws ih =>
    intro k v h
    by_cases hx : l = w
    · have e : x_fi l (w :: ws) k = k := if_pos hx
      rw [e] at h
      exact Or.inr ⟨0, Nat.succ_pos _, by omega, hx.symm⟩
    · have e : x_fi l (w :: ws) k = x_fi l ws (k + 1) := if_neg hx
      rw [e] at h
      rcases ih (k + 1) v h with h1 | ⟨i, h1, h2, h3⟩
      · exact Or.inl h1
      · exact Or.inr ⟨i + 1, Nat.succ_lt_succ h1, by omega, h3⟩
/-- no word twice -/
theorem words_d : ∀ i : Fin 35, x_fi (x_words.getD i []) x_words 0 = ((i : Nat) : Int) := by decide +kernel
theorem words_ok : ∀ w ∈ x_words, okc w.reverse ∧ x_pr w.reverse < 281474976710656 := by
  unfold okc
  decide +kernel
def x_wk (i : Nat) : Int := x_pr (x_words.getD i []).reverse
theorem words_in0 : ∀ i : Fin 35, x_words.getD (i : Nat) [] ∈ x_words := by decide +kernel
theorem words_in {i : Nat} (h : i < 35) : x_words.getD i [] ∈ x_words := words_in0 ⟨i, h⟩
theorem okc_rev {l : List Int} (h : okc l) : okc l.reverse := fun c hc => h c (List.mem_reverse.mp hc)
/-- a word by either -/
theorem wd_iff {l : List Int} (hl : okc l) {i : Nat} (hi : i < 35) : x_fi l x_words 0 = (i : Int) ↔ x_pr l.reverse = x_wk i := by
  constructor
  · intro h
    rcases fi_mem x_words 0 _ h with h1 | ⟨j, h1, h2, h3⟩
    · omega
    · have e : j = i := by omega
      subst e
      rw [← h3]
      rfl
  · intro h
    obtain ⟨h1, h2⟩ := words_ok _ (words_in hi)
    have e := pr_inj _ _ (okc_rev hl) h1 h h2
    have e2 : l = x_words.getD i [] := by
      have := congrArg List.reverse e
      rwa [List.reverse_reverse, List.reverse_reverse] at this
    rw [e2]
    exact words_d ⟨i, hi⟩
theorem fi_rng (l : List Int) : x_fi l x_words 0 = 55 ∨ (0 ≤ x_fi l x_words 0 ∧ x_fi l x_words 0 ≤ 34) := by
  rcases fi_mem (l := l) x_words 0 _ rfl with h1 | ⟨j, h1, h2, h3⟩
  · exact Or.inl h1
  · have : j < 35 := h1
    exact Or.inr ⟨by omega, by omega⟩
/-- the TOKEN at a place -/
def x_sg (c : Int) : Int := if c = 43 then 40 else if c = 45 then 41 else if c = 42 then 42 else if c = 47 then 43 else if c = 60 then 44 else if c = 62 then 45 else if c = 61 then 46 else if c = 35 then 47 else if c = 40 then 48 else if c = 41 then 49 else if c = 59 then 50 else 55
def x_val (b : Nat → Int) (p : Nat) : Nat → Int
  | 0 => 0
  | m + 1 => min (x_val b p m * 10 + b (p + m) - 48) 10000
def x_tk (b : Nat → Int) (n p : Nat) : Int := if n ≤ p then 54 else if x_let (b p) = true then x_fi (x_seg b p (x_to x_let b n p - p)) x_words 0 else if x_dig (b p) = true then 53 else if (b p = 60 ∨ b p = 62) ∧ p + 1 < n ∧ b (p + 1) = 61 then (if b p = 60 then 51 else 52) else x_sg (b p)
def x_vl (b : Nat → Int) (n p : Nat) : Int := if n ≤ p then 0 else if x_let (b p) = true then 0 else if x_dig (b p) = true then x_val b p (x_to x_dig b n p - p) else 0
def x_nx (b : Nat → Int) (n p : Nat) : Nat := if n ≤ p then p else if x_let (b p) = true then x_to x_let b n p else if x_dig (b p) = true then x_to x_dig b n p else if (b p = 60 ∨ b p = 62) ∧ p + 1 < n ∧ b (p + 1) = 61 then p + 2 else p + 1
/-- where TOKENS begin -/
def x_ps (b : Nat → Int) (n : Nat) : Nat → Nat
  | 0 => x_to x_blk b n 0
  | i + 1 => x_to x_blk b n (x_nx b n (x_ps b n i))
theorem x_nx_gt {b : Nat → Int} {n p : Nat} (h : p < n) : p < x_nx b n p ∧ x_nx b n p ≤ n := by
  unfold x_nx
  rw [if_neg (by omega)]
  split
  · rename_i hl
    rw [x_to_y h hl]
    exact ⟨Nat.lt_of_lt_of_le (Nat.lt_succ_self p) x_to_ge, x_to_le (by omega)⟩
  · split
    · rename_i hl
      rw [x_to_y h hl]
      exact ⟨Nat.lt_of_lt_of_le (Nat.lt_succ_self p) x_to_ge, x_to_le (by omega)⟩
    · split
      · rename_i hc
        exact ⟨by omega, by omega⟩
      · exact ⟨by omega, by omega⟩
theorem x_ps_le {b : Nat → Int} {n : Nat} : ∀ i, x_ps b n i ≤ n := by
  intro i
  induction i with
  | zero => exact x_to_le (Nat.zero_le n)
  | succ i ih =>
    show x_to x_blk b n (x_nx b n (x_ps b n i)) ≤ n
    by_cases h : x_ps b n i < n
    · exact x_to_le (x_nx_gt h).2
    · have e : x_nx b n (x_ps b n i) = x_ps b n i := if_pos (by omega)
      rw [e]
      exact x_to_le ih
theorem x_ps_lt {b : Nat → Int} {n i : Nat} (h : x_ps b n i < n) : x_ps b n i < x_ps b n (i + 1) := Nat.lt_of_lt_of_le (x_nx_gt h).1 x_to_ge
theorem x_ps_ge {b : Nat → Int} {n : Nat} : ∀ i, (∀ j, j < i → x_ps b n j < n) → i ≤ x_ps b n i := by
  intro i
  induction i with
  | zero => intro _; exact Nat.zero_le _
  | succ i ih =>
    intro h
    have h1 := ih (fun j hj => h j (by omega))
    have h2 := x_ps_lt (h i (by omega))
    omega
theorem x_ps_st {b : Nat → Int} {n i : Nat} (h : n ≤ x_ps b n i) : x_ps b n (i + 1) = x_ps b n i := by
  have e : x_nx b n (x_ps b n i) = x_ps b n i := if_pos h
  show x_to x_blk b n (x_nx b n (x_ps b n i)) = _
  rw [e, x_to_e h]
theorem wk_0 : x_wk 0 = 495924371828 := by decide +kernel
theorem wk_1 : x_wk 1 = 1918986606 := by decide +kernel
theorem wk_2 : x_wk 2 = 7627128 := by decide +kernel
theorem wk_3 : x_wk 3 = 431416239475 := by decide +kernel
theorem wk_4 : x_wk 4 = 495672455781 := by decide +kernel
theorem wk_5 : x_wk 5 = 439854918756 := by decide +kernel
theorem wk_6 : x_wk 6 = 1919902052 := by decide +kernel
theorem wk_7 : x_wk 7 = 7302757 := by decide +kernel
theorem wk_8 : x_wk 8 = 2003792491 := by decide +kernel
theorem wk_9 : x_wk 9 = 26479 := by decide +kernel
theorem wk_10 : x_wk 10 = 495672453989 := by decide +kernel
theorem wk_11 : x_wk 11 = 495874040172 := by decide +kernel
theorem wk_12 : x_wk 12 = 1886352754 := by decide +kernel
theorem wk_13 : x_wk 13 = 1752135026 := by decide +kernel
theorem wk_14 : x_wk 14 = 474147546227 := by decide +kernel
theorem wk_15 : x_wk 15 = 110442659147379 := by decide +kernel
theorem wk_16 : x_wk 16 = 28526 := by decide +kernel
theorem wk_17 : x_wk 17 = 25209 := by decide +kernel
theorem wk_18 : x_wk 18 = 29807 := by decide +kernel
theorem wk_19 : x_wk 19 = 1718775661 := by decide +kernel
theorem wk_20 : x_wk 20 = 7566701 := by decide +kernel
theorem wk_21 : x_wk 21 = 427071729268 := by decide +kernel
theorem wk_22 : x_wk 22 = 6647396 := by decide +kernel
theorem wk_23 : x_wk 23 = 28530 := by decide +kernel
theorem wk_24 : x_wk 24 = 6385252 := by decide +kernel
theorem wk_25 : x_wk 25 = 7237492 := by decide +kernel
theorem wk_26 : x_wk 26 = 6383461 := by decide +kernel
theorem wk_27 : x_wk 27 = 7825519 := by decide +kernel
theorem wk_28 : x_wk 28 = 1718971500 := by decide +kernel
theorem wk_29 : x_wk 29 = 427021006180 := by decide +kernel
theorem wk_30 : x_wk 30 = 7302244 := by decide +kernel
theorem wk_31 : x_wk 31 = 1751478885 := by decide +kernel
theorem wk_32 : x_wk 32 = 1751474548 := by decide +kernel
theorem wk_33 : x_wk 33 = 7824756 := by decide +kernel
theorem wk_34 : x_wk 34 = 1651471464 := by decide +kernel
