/-! What the hand needs of texts and the model. -/
theorem ext0 {K K' : Nat → Nat} {B B' : Int} {L L' : List Nat} {f f' : Nat → va_E} (h : extC [] K B L f K' B' L' f') {b : Nat} (hb : b ∈ L) : gi (f' b) = gi (f b) := funext (fun i => gi_same ((h.1 b hb).2.2 i (by simp)))
theorem ext1 {mods : List (Nat × Nat)} {K K' : Nat → Nat} {B B' : Int} {L L' : List Nat} {f f' : Nat → va_E} (h : extC mods K B L f K' B' L' f') {b k : Nat} (hb : b ∈ L ∧ K b = k) (hr : ∀ i, (k, reg k i) ∉ mods) : gi (f' b) = gi (f b) := funext (fun i => gi_same ((h.1 b hb.1).2.2 i (by rw [hb.2]; exact hr i)))
theorem exin {mods : List (Nat × Nat)} {K K' : Nat → Nat} {B B' : Int} {L L' : List Nat} {f f' : Nat → va_E} (h : extC mods K B L f K' B' L' f') {b k : Nat} (hb : b ∈ L ∧ K b = k) : b ∈ L' ∧ K' b = k := ⟨(h.1 b hb.1).1, (h.1 b hb.1).2.1.trans hb.2⟩
theorem sol {cy : Nat → ClassId} {K : Nat → Nat} {B : Int} {L : List Nat} {f : Nat → va_E} (hh : hok cy K B L f) {a b k : Nat} (ha : a ∈ L ∧ K a = k) (hb : b ∈ L ∧ K b = k) (h40 : 40 ≤ k) : a = b := hh.2.1 a ha.1 b hb.1 (ha.2.trans hb.2.symm) (by rw [ha.2]; exact h40)
theorem reg203 (i : Nat) : reg 203 i = 0 := rfl
theorem reg205 (i : Nat) : reg 205 i = 0 := rfl
theorem reg206 (i : Nat) : reg 206 i = 0 := rfl
theorem reg200 (i : Nat) : reg 200 i = i := rfl
theorem kbd203 {j : Nat} (h : j % 705 ≠ 0) : kbd 203 j = (-2147483648, 2147483647, false) := by
  have h1 : (zkd 203).2.2 = [] := by decide
  unfold kbd
  rw [h1]
  dsimp only
  rw [if_pos (by decide), if_neg (by simpa using h)]
theorem kbd203' {j : Nat} (h : j % 705 = 0) : kbd 203 j = (0, 24, false) := by
  have h1 : (zkd 203).2.2 = [] := by decide
  unfold kbd
  rw [h1]
  dsimp only
  rw [if_pos (by decide), if_pos (by simpa using h)]
/-- a row of the texts is written -/
theorem XP_tx {cy : Nat → ClassId} {K : Nat → Nat} {B : Int} {L : List Nat} {f f' : Nat → va_E} (hh : hok cy K B L f) {tx : Nat} (htx : tx ∈ L ∧ K tx = 203) (h1 : ∀ b', b' ≠ tx → f' b' = f b') (hP : ∀ m, m ∈ L ∧ K m = 200 → Psi (gi (f' tx)) (gi (f m) 12) (gi (f m) 13)) : XP K L f' := by
  have hne : ∀ b' ∈ L, K b' ≠ 203 → f' b' = f b' := fun b' _ hk => h1 b' (fun e => hk (by rw [e]; exact htx.2))
  obtain ⟨x1, x2, x3⟩ := hh.2.2
  refine ⟨⟨x1.1, fun b1 hb1 b2 hb2 hk1 hk2 he => x1.2.1 b1 hb1 b2 hb2 hk1 hk2 (by rw [hne b1 hb1 (by rw [hk1]; decide), hne b2 hb2 (by rw [hk2]; decide)] at he; exact he), fun b1 hb1 hk1 c o e1 e2 i hi e3 => ?_⟩, fun b1 hb1 hk1 m hm hkm => ?_, fun b1 hb1 hk1 => ?_⟩
  · rw [hne b1 hb1 (by rw [hk1]; decide)] at e1 e2
    obtain ⟨c', c1, c2, c3⟩ := cok20 hh hb1 hk1 (j := 3) (k' := 23) rfl
    obtain ⟨o', o1, o2, o3⟩ := cok20 hh hb1 hk1 (j := 4) (k' := 24) rfl
    have ec : c' = c := by rw [c1] at e1; cases e1; rfl
    have eo : o' = o := by rw [o1] at e2; cases e2; rfl
    subst ec
    subst eo
    rw [hne c' c2 (by rw [c3]; decide)] at e3
    rw [hne o' o2 (by rw [o3]; decide)]
    exact x1.2.2 b1 hb1 hk1 c' o' c1 o1 i hi e3
  · have e : b1 = tx := sol hh ⟨hb1, hk1⟩ htx (by decide)
    rw [e, hne m hm (by rw [hkm]; decide)]
    exact hP m ⟨hm, hkm⟩
  · rw [hne b1 hb1 (by rcases hk1 with h | h <;> rw [h] <;> decide)]
    exact x3 b1 hb1 hk1
/-- a field of the model is written -/
theorem XP_md {cy : Nat → ClassId} {K : Nat → Nat} {B : Int} {L : List Nat} {f f' : Nat → va_E} (hh : hok cy K B L f) {m : Nat} (hm : m ∈ L ∧ K m = 200) (h1 : ∀ b', b' ≠ m → f' b' = f b') (hP : ∀ tx, tx ∈ L ∧ K tx = 203 → Psi (gi (f tx)) (gi (f' m) 12) (gi (f' m) 13)) : XP K L f' := by
  have hne : ∀ b' ∈ L, K b' ≠ 200 → f' b' = f b' := fun b' _ hk => h1 b' (fun e => hk (by rw [e]; exact hm.2))
  obtain ⟨x1, x2, x3⟩ := hh.2.2
  refine ⟨⟨x1.1, fun b1 hb1 b2 hb2 hk1 hk2 he => x1.2.1 b1 hb1 b2 hb2 hk1 hk2 (by rw [hne b1 hb1 (by rw [hk1]; decide), hne b2 hb2 (by rw [hk2]; decide)] at he; exact he), fun b1 hb1 hk1 c o e1 e2 i hi e3 => ?_⟩, fun b1 hb1 hk1 m' hm' hkm => ?_, fun b1 hb1 hk1 => ?_⟩
  · rw [hne b1 hb1 (by rw [hk1]; decide)] at e1 e2
    obtain ⟨c', c1, c2, c3⟩ := cok20 hh hb1 hk1 (j := 3) (k' := 23) rfl
    obtain ⟨o', o1, o2, o3⟩ := cok20 hh hb1 hk1 (j := 4) (k' := 24) rfl
    have ec : c' = c := by rw [c1] at e1; cases e1; rfl
    have eo : o' = o := by rw [o1] at e2; cases e2; rfl
    subst ec
    subst eo
    rw [hne c' c2 (by rw [c3]; decide)] at e3
    rw [hne o' o2 (by rw [o3]; decide)]
    exact x1.2.2 b1 hb1 hk1 c' o' c1 o1 i hi e3
  · have e : m' = m := sol hh ⟨hm', hkm⟩ hm (by decide)
    rw [e, hne b1 hb1 (by rw [hk1]; decide)]
    exact hP b1 ⟨hb1, hk1⟩
  · rw [hne b1 hb1 (by rcases hk1 with h | h <;> rw [h] <;> decide)]
    exact x3 b1 hb1 hk1
theorem hok_Psi {cy : Nat → ClassId} {K : Nat → Nat} {B : Int} {L : List Nat} {f : Nat → va_E} (hh : hok cy K B L f) {m tx : Nat} (hm : m ∈ L ∧ K m = 200) (htx : tx ∈ L ∧ K tx = 203) : Psi (gi (f tx)) (gi (f m) 12) (gi (f m) 13) := hh.2.2.2.1 tx htx.1 htx.2 m hm.1 hm.2
theorem hok_fld {cy : Nat → ClassId} {K : Nat → Nat} {B : Int} {L : List Nat} {f : Nat → va_E} (hh : hok cy K B L f) {m j : Nat} {lo hi : Int} (hm : m ∈ L ∧ K m = 200) (hd : (zkd 200).2.2[j]? = some (0, lo, hi)) : lo ≤ gi (f m) j ∧ gi (f m) j ≤ hi := (gi_fld hh hm.1 hm.2 (by decide) hd).2
