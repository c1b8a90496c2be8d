def fJ6 : List (Nat × EF) := []
theorem fJ6_ok : ∀ e ∈ fJ6, fldOk RJ6 e.1 e.2 :=
  fa_nil
def fX0 : List (Nat × EF) := [(9, 0, 2, 3, true), (15, 0, 3, 3, true), (18, 0, 4, 3, true), (21, 0, 5, 3, true), (24, 0, 6, 3, true), (27, 0, 7, 3, true), (30, 0, 8, 3, true), (33, 0, 9, 3, true), (36, 0, 0, 0, false), (40, 0, 1, 0, false)]
theorem fX0_ok : ∀ e ∈ fX0, fldOk RX0 e.1 e.2 :=
  fa_cons (p := fun e : Nat × EF => fldOk RX0 e.1 e.2) ⟨RX0, TX0, 10, tyX0, tyX0 2, rfl, inZX0, tyX0_ok, nmX0, by decide, q163, tyX0_ok 2 (by decide), Or.inr ⟨_, rfl⟩, rfl, fun _ => Or.inr trivial⟩ <|
  fa_cons (p := fun e : Nat × EF => fldOk RX0 e.1 e.2) ⟨RX0, TX0, 10, tyX0, tyX0 3, rfl, inZX0, tyX0_ok, nmX0, by decide, q166, tyX0_ok 3 (by decide), Or.inr ⟨_, rfl⟩, rfl, fun _ => Or.inr trivial⟩ <|
  fa_cons (p := fun e : Nat × EF => fldOk RX0 e.1 e.2) ⟨RX0, TX0, 10, tyX0, tyX0 4, rfl, inZX0, tyX0_ok, nmX0, by decide, q170, tyX0_ok 4 (by decide), Or.inr ⟨_, rfl⟩, rfl, fun _ => Or.inr trivial⟩ <|
  fa_cons (p := fun e : Nat × EF => fldOk RX0 e.1 e.2) ⟨RX0, TX0, 10, tyX0, tyX0 5, rfl, inZX0, tyX0_ok, nmX0, by decide, q174, tyX0_ok 5 (by decide), Or.inr ⟨_, rfl⟩, rfl, fun _ => Or.inr trivial⟩ <|
  fa_cons (p := fun e : Nat × EF => fldOk RX0 e.1 e.2) ⟨RX0, TX0, 10, tyX0, tyX0 6, rfl, inZX0, tyX0_ok, nmX0, by decide, q176, tyX0_ok 6 (by decide), Or.inr ⟨_, rfl⟩, rfl, fun _ => Or.inr trivial⟩ <|
  fa_cons (p := fun e : Nat × EF => fldOk RX0 e.1 e.2) ⟨RX0, TX0, 10, tyX0, tyX0 7, rfl, inZX0, tyX0_ok, nmX0, by decide, q179, tyX0_ok 7 (by decide), Or.inr ⟨_, rfl⟩, rfl, fun _ => Or.inr trivial⟩ <|
  fa_cons (p := fun e : Nat × EF => fldOk RX0 e.1 e.2) ⟨RX0, TX0, 10, tyX0, tyX0 8, rfl, inZX0, tyX0_ok, nmX0, by decide, q182, tyX0_ok 8 (by decide), Or.inr ⟨_, rfl⟩, rfl, fun _ => Or.inr trivial⟩ <|
  fa_cons (p := fun e : Nat × EF => fldOk RX0 e.1 e.2) ⟨RX0, TX0, 10, tyX0, tyX0 9, rfl, inZX0, tyX0_ok, nmX0, by decide, q184, tyX0_ok 9 (by decide), Or.inr ⟨_, rfl⟩, rfl, fun _ => Or.inr trivial⟩ <|
  fa_cons (p := fun e : Nat × EF => fldOk RX0 e.1 e.2) ⟨RX0, TX0, 10, tyX0, tyX0 0, rfl, inZX0, tyX0_ok, nmX0, by decide, q154, tyX0_ok 0 (by decide), rfl, rfl, fun _ => Or.inr trivial⟩ <|
  fa_cons (p := fun e : Nat × EF => fldOk RX0 e.1 e.2) ⟨RX0, TX0, 10, tyX0, tyX0 1, rfl, inZX0, tyX0_ok, nmX0, by decide, q160, tyX0_ok 1 (by decide), rfl, rfl, fun _ => Or.inr trivial⟩ <|
  fa_nil
def fX1 : List (Nat × EF) := [(9, 1, 3, 3, true), (15, 1, 4, 3, true), (18, 1, 5, 3, true), (21, 1, 6, 3, true), (24, 1, 7, 3, true), (28, 1, 8, 3, true), (31, 1, 9, 3, true), (34, 1, 10, 3, true), (37, 1, 0, 0, false), (41, 1, 1, 0, false), (44, 1, 2, 0, false)]
theorem fX1_ok : ∀ e ∈ fX1, fldOk RX1 e.1 e.2 :=
  fa_cons (p := fun e : Nat × EF => fldOk RX1 e.1 e.2) ⟨RX1, TX1, 11, tyX1, tyX1 3, rfl, inZX1, tyX1_ok, nmX1, by decide, q324, tyX1_ok 3 (by decide), Or.inr ⟨_, rfl⟩, rfl, fun _ => Or.inr trivial⟩ <|
  fa_cons (p := fun e : Nat × EF => fldOk RX1 e.1 e.2) ⟨RX1, TX1, 11, tyX1, tyX1 4, rfl, inZX1, tyX1_ok, nmX1, by decide, q326, tyX1_ok 4 (by decide), Or.inr ⟨_, rfl⟩, rfl, fun _ => Or.inr trivial⟩ <|
  fa_cons (p := fun e : Nat × EF => fldOk RX1 e.1 e.2) ⟨RX1, TX1, 11, tyX1, tyX1 5, rfl, inZX1, tyX1_ok, nmX1, by decide, q328, tyX1_ok 5 (by decide), Or.inr ⟨_, rfl⟩, rfl, fun _ => Or.inr trivial⟩ <|
  fa_cons (p := fun e : Nat × EF => fldOk RX1 e.1 e.2) ⟨RX1, TX1, 11, tyX1, tyX1 6, rfl, inZX1, tyX1_ok, nmX1, by decide, q330, tyX1_ok 6 (by decide), Or.inr ⟨_, rfl⟩, rfl, fun _ => Or.inr trivial⟩ <|
  fa_cons (p := fun e : Nat × EF => fldOk RX1 e.1 e.2) ⟨RX1, TX1, 11, tyX1, tyX1 7, rfl, inZX1, tyX1_ok, nmX1, by decide, q331, tyX1_ok 7 (by decide), Or.inr ⟨_, rfl⟩, rfl, fun _ => Or.inr trivial⟩ <|
  fa_cons (p := fun e : Nat × EF => fldOk RX1 e.1 e.2) ⟨RX1, TX1, 11, tyX1, tyX1 8, rfl, inZX1, tyX1_ok, nmX1, by decide, q332, tyX1_ok 8 (by decide), Or.inr ⟨_, rfl⟩, rfl, fun _ => Or.inr trivial⟩ <|
  fa_cons (p := fun e : Nat × EF => fldOk RX1 e.1 e.2) ⟨RX1, TX1, 11, tyX1, tyX1 9, rfl, inZX1, tyX1_ok, nmX1, by decide, q333, tyX1_ok 9 (by decide), Or.inr ⟨_, rfl⟩, rfl, fun _ => Or.inr trivial⟩ <|
  fa_cons (p := fun e : Nat × EF => fldOk RX1 e.1 e.2) ⟨RX1, TX1, 11, tyX1, tyX1 10, rfl, inZX1, tyX1_ok, nmX1, by decide, q334, tyX1_ok 10 (by decide), Or.inr ⟨_, rfl⟩, rfl, fun _ => Or.inr trivial⟩ <|
  fa_cons (p := fun e : Nat × EF => fldOk RX1 e.1 e.2) ⟨RX1, TX1, 11, tyX1, tyX1 0, rfl, inZX1, tyX1_ok, nmX1, by decide, q318, tyX1_ok 0 (by decide), rfl, rfl, fun _ => Or.inr trivial⟩ <|
  fa_cons (p := fun e : Nat × EF => fldOk RX1 e.1 e.2) ⟨RX1, TX1, 11, tyX1, tyX1 1, rfl, inZX1, tyX1_ok, nmX1, by decide, q320, tyX1_ok 1 (by decide), rfl, rfl, fun _ => Or.inr trivial⟩ <|
  fa_cons (p := fun e : Nat × EF => fldOk RX1 e.1 e.2) ⟨RX1, TX1, 11, tyX1, tyX1 2, rfl, inZX1, tyX1_ok, nmX1, by decide, q322, tyX1_ok 2 (by decide), rfl, rfl, fun _ => Or.inr trivial⟩ <|
  fa_nil
def fX2 : List (Nat × EF) := [(9, 2, 1, 3, true), (17, 2, 4, 3, true), (21, 2, 5, 3, true), (24, 2, 6, 3, true), (27, 2, 7, 3, true), (30, 2, 8, 3, true), (33, 2, 9, 3, true), (36, 2, 2, 3, true), (40, 2, 3, 3, true), (45, 4, 1, 3, true), (65, 9, 3, 0, false), (73, 2, 0, 0, false), (86, 10, 5, 3, true), (89, 10, 4, 3, true), (92, 9, 1, 3, true), (95, 9, 2, 3, true), (98, 4, 0, 3, true), (102, 0, 4, 3, true), (107, 0, 3, 3, true), (110, 9, 0, 0, false), (117, 10, 1, 3, true), (122, 0, 0, 0, false)]
theorem fX2_ok : ∀ e ∈ fX2, fldOk RX2 e.1 e.2 :=
  fa_cons (p := fun e : Nat × EF => fldOk RX2 e.1 e.2) ⟨RX2, TX2, 10, tyX2, tyX2 1, rfl, inZX2, tyX2_ok, nmX2, by decide, q507, tyX2_ok 1 (by decide), Or.inr ⟨_, rfl⟩, rfl, fun _ => Or.inr trivial⟩ <|
  fa_cons (p := fun e : Nat × EF => fldOk RX2 e.1 e.2) ⟨RX2, TX2, 10, tyX2, tyX2 4, rfl, inZX2, tyX2_ok, nmX2, by decide, q511, tyX2_ok 4 (by decide), Or.inr ⟨_, rfl⟩, rfl, fun _ => Or.inr trivial⟩ <|
  fa_cons (p := fun e : Nat × EF => fldOk RX2 e.1 e.2) ⟨RX2, TX2, 10, tyX2, tyX2 5, rfl, inZX2, tyX2_ok, nmX2, by decide, q512, tyX2_ok 5 (by decide), Or.inr ⟨_, rfl⟩, rfl, fun _ => Or.inr trivial⟩ <|
  fa_cons (p := fun e : Nat × EF => fldOk RX2 e.1 e.2) ⟨RX2, TX2, 10, tyX2, tyX2 6, rfl, inZX2, tyX2_ok, nmX2, by decide, q513, tyX2_ok 6 (by decide), Or.inr ⟨_, rfl⟩, rfl, fun _ => Or.inr trivial⟩ <|
  fa_cons (p := fun e : Nat × EF => fldOk RX2 e.1 e.2) ⟨RX2, TX2, 10, tyX2, tyX2 7, rfl, inZX2, tyX2_ok, nmX2, by decide, q514, tyX2_ok 7 (by decide), Or.inr ⟨_, rfl⟩, rfl, fun _ => Or.inr trivial⟩ <|
  fa_cons (p := fun e : Nat × EF => fldOk RX2 e.1 e.2) ⟨RX2, TX2, 10, tyX2, tyX2 8, rfl, inZX2, tyX2_ok, nmX2, by decide, q516, tyX2_ok 8 (by decide), Or.inr ⟨_, rfl⟩, rfl, fun _ => Or.inr trivial⟩ <|
  fa_cons (p := fun e : Nat × EF => fldOk RX2 e.1 e.2) ⟨RX2, TX2, 10, tyX2, tyX2 9, rfl, inZX2, tyX2_ok, nmX2, by decide, q517, tyX2_ok 9 (by decide), Or.inr ⟨_, rfl⟩, rfl, fun _ => Or.inr trivial⟩ <|
  fa_cons (p := fun e : Nat × EF => fldOk RX2 e.1 e.2) ⟨RX2, TX2, 10, tyX2, tyX2 2, rfl, inZX2, tyX2_ok, nmX2, by decide, q509, tyX2_ok 2 (by decide), Or.inl ⟨_, rfl⟩, rfl, fun _ => Or.inr trivial⟩ <|
  fa_cons (p := fun e : Nat × EF => fldOk RX2 e.1 e.2) ⟨RX2, TX2, 10, tyX2, tyX2 3, rfl, inZX2, tyX2_ok, nmX2, by decide, q510, tyX2_ok 3 (by decide), Or.inl ⟨_, rfl⟩, rfl, fun _ => Or.inr trivial⟩ <|
  fa_cons (p := fun e : Nat × EF => fldOk RX2 e.1 e.2) ⟨RX4, TX4, 7, tyX4, tyX4 1, rfl, inZX4, tyX4_ok, nmX4, by decide, q367, tyX4_ok 1 (by decide), Or.inl ⟨_, rfl⟩, rfl, fun _ => Or.inr trivial⟩ <|
  fa_cons (p := fun e : Nat × EF => fldOk RX2 e.1 e.2) ⟨RX9, TX9, 10, tyX9, tyX9 3, rfl, inZX9, tyX9_ok, nmX9, by decide, q469, tyX9_ok 3 (by decide), rfl, rfl, fun _ => Or.inr trivial⟩ <|
  fa_cons (p := fun e : Nat × EF => fldOk RX2 e.1 e.2) ⟨RX2, TX2, 10, tyX2, tyX2 0, rfl, inZX2, tyX2_ok, nmX2, by decide, q505, tyX2_ok 0 (by decide), rfl, rfl, fun _ => Or.inr trivial⟩ <|
  fa_cons (p := fun e : Nat × EF => fldOk RX2 e.1 e.2) ⟨RX10, TX10, 15, tyX10, tyX10 5, rfl, inZX10, tyX10_ok, nmX10, by decide, q236, tyX10_ok 5 (by decide), Or.inr ⟨_, rfl⟩, rfl, fun _ => Or.inr trivial⟩ <|
  fa_cons (p := fun e : Nat × EF => fldOk RX2 e.1 e.2) ⟨RX10, TX10, 15, tyX10, tyX10 4, rfl, inZX10, tyX10_ok, nmX10, by decide, q231, tyX10_ok 4 (by decide), Or.inr ⟨_, rfl⟩, rfl, fun _ => Or.inr trivial⟩ <|
  fa_cons (p := fun e : Nat × EF => fldOk RX2 e.1 e.2) ⟨RX9, TX9, 10, tyX9, tyX9 1, rfl, inZX9, tyX9_ok, nmX9, by decide, q465, tyX9_ok 1 (by decide), Or.inr ⟨_, rfl⟩, rfl, fun _ => Or.inr trivial⟩ <|
  fa_cons (p := fun e : Nat × EF => fldOk RX2 e.1 e.2) ⟨RX9, TX9, 10, tyX9, tyX9 2, rfl, inZX9, tyX9_ok, nmX9, by decide, q467, tyX9_ok 2 (by decide), Or.inr ⟨_, rfl⟩, rfl, fun _ => Or.inr trivial⟩ <|
  fa_cons (p := fun e : Nat × EF => fldOk RX2 e.1 e.2) ⟨RX4, TX4, 7, tyX4, tyX4 0, rfl, inZX4, tyX4_ok, nmX4, by decide, q365, tyX4_ok 0 (by decide), Or.inl ⟨_, rfl⟩, rfl, fun _ => Or.inr trivial⟩ <|
  fa_cons (p := fun e : Nat × EF => fldOk RX2 e.1 e.2) ⟨RX0, TX0, 10, tyX0, tyX0 4, rfl, inZX0, tyX0_ok, nmX0, by decide, q172, tyX0_ok 4 (by decide), Or.inr ⟨_, rfl⟩, rfl, fun _ => Or.inr trivial⟩ <|
  fa_cons (p := fun e : Nat × EF => fldOk RX2 e.1 e.2) ⟨RX0, TX0, 10, tyX0, tyX0 3, rfl, inZX0, tyX0_ok, nmX0, by decide, q168, tyX0_ok 3 (by decide), Or.inr ⟨_, rfl⟩, rfl, fun _ => Or.inr trivial⟩ <|
  fa_cons (p := fun e : Nat × EF => fldOk RX2 e.1 e.2) ⟨RX9, TX9, 10, tyX9, tyX9 0, rfl, inZX9, tyX9_ok, nmX9, by decide, q463, tyX9_ok 0 (by decide), rfl, rfl, fun _ => Or.inr trivial⟩ <|
  fa_cons (p := fun e : Nat × EF => fldOk RX2 e.1 e.2) ⟨RX10, TX10, 15, tyX10, tyX10 1, rfl, inZX10, tyX10_ok, nmX10, by decide, q220, tyX10_ok 1 (by decide), Or.inr ⟨_, rfl⟩, rfl, fun _ => Or.inr trivial⟩ <|
  fa_cons (p := fun e : Nat × EF => fldOk RX2 e.1 e.2) ⟨RX0, TX0, 10, tyX0, tyX0 0, rfl, inZX0, tyX0_ok, nmX0, by decide, q158, tyX0_ok 0 (by decide), rfl, rfl, fun _ => Or.inr trivial⟩ <|
  fa_nil
def fX3 : List (Nat × EF) := [(9, 3, 0, 0, false), (15, 3, 1, 0, false), (18, 3, 2, 3, true), (25, 3, 3, 3, false), (34, 3, 5, 0, false), (37, 6, 2, 3, true), (41, 3, 6, 0, false), (47, 6, 0, 0, false), (50, 6, 1, 0, false), (53, 6, 4, 3, true), (62, 7, 1, 3, true), (65, 7, 0, 0, false), (81, 3, 4, 0, false), (84, 7, 9, 3, true), (87, 7, 5, 0, false), (90, 7, 11, 3, true), (93, 7, 8, 0, false), (100, 7, 10, 3, true), (103, 7, 12, 3, true), (109, 7, 2, 3, true), (112, 6, 3, 3, true), (150, 7, 6, 3, true), (156, 7, 7, 3, true)]
theorem fX3_ok : ∀ e ∈ fX3, fldOk RX3 e.1 e.2 :=
  fa_cons (p := fun e : Nat × EF => fldOk RX3 e.1 e.2) ⟨RX3, TX3, 7, tyX3, tyX3 0, rfl, inZX3, tyX3_ok, nmX3, by decide, q432, tyX3_ok 0 (by decide), rfl, rfl, fun _ => Or.inr trivial⟩ <|
  fa_cons (p := fun e : Nat × EF => fldOk RX3 e.1 e.2) ⟨RX3, TX3, 7, tyX3, tyX3 1, rfl, inZX3, tyX3_ok, nmX3, by decide, q434, tyX3_ok 1 (by decide), rfl, rfl, fun _ => Or.inr trivial⟩ <|
  fa_cons (p := fun e : Nat × EF => fldOk RX3 e.1 e.2) ⟨RX3, TX3, 7, tyX3, tyX3 2, rfl, inZX3, tyX3_ok, nmX3, by decide, q436, tyX3_ok 2 (by decide), Or.inl ⟨_, rfl⟩, rfl, fun _ => Or.inr trivial⟩ <|
  fa_cons (p := fun e : Nat × EF => fldOk RX3 e.1 e.2) ⟨RX3, TX3, 7, tyX3, tyX3 3, rfl, inZX3, tyX3_ok, nmX3, by decide, q437, tyX3_ok 3 (by decide), Or.inl ⟨_, rfl⟩, rfl, fun _ => Or.inr trivial⟩ <|
  fa_cons (p := fun e : Nat × EF => fldOk RX3 e.1 e.2) ⟨RX3, TX3, 7, tyX3, tyX3 5, rfl, inZX3, tyX3_ok, nmX3, by decide, q439, tyX3_ok 5 (by decide), rfl, rfl, fun _ => Or.inr trivial⟩ <|
  fa_cons (p := fun e : Nat × EF => fldOk RX3 e.1 e.2) ⟨RX6, TX6, 6, tyX6, tyX6 2, rfl, inZX6, tyX6_ok, nmX6, by decide, q407, tyX6_ok 2 (by decide), Or.inr ⟨_, rfl⟩, rfl, fun _ => Or.inr trivial⟩ <|
  fa_cons (p := fun e : Nat × EF => fldOk RX3 e.1 e.2) ⟨RX3, TX3, 7, tyX3, tyX3 6, rfl, inZX3, tyX3_ok, nmX3, by decide, q440, tyX3_ok 6 (by decide), rfl, rfl, fun _ => Or.inr trivial⟩ <|
  fa_cons (p := fun e : Nat × EF => fldOk RX3 e.1 e.2) ⟨RX6, TX6, 6, tyX6, tyX6 0, rfl, inZX6, tyX6_ok, nmX6, by decide, q402, tyX6_ok 0 (by decide), rfl, rfl, fun _ => Or.inr trivial⟩ <|
  fa_cons (p := fun e : Nat × EF => fldOk RX3 e.1 e.2) ⟨RX6, TX6, 6, tyX6, tyX6 1, rfl, inZX6, tyX6_ok, nmX6, by decide, q405, tyX6_ok 1 (by decide), rfl, rfl, fun _ => Or.inr trivial⟩ <|
  fa_cons (p := fun e : Nat × EF => fldOk RX3 e.1 e.2) ⟨RX6, TX6, 6, tyX6, tyX6 4, rfl, inZX6, tyX6_ok, nmX6, by decide, q411, tyX6_ok 4 (by decide), Or.inr ⟨_, rfl⟩, rfl, fun _ => Or.inr trivial⟩ <|
  fa_cons (p := fun e : Nat × EF => fldOk RX3 e.1 e.2) ⟨RX7, TX7, 13, tyX7, tyX7 1, rfl, inZX7, tyX7_ok, nmX7, by decide, q646, tyX7_ok 1 (by decide), Or.inr ⟨_, rfl⟩, rfl, fun _ => Or.inr trivial⟩ <|
  fa_cons (p := fun e : Nat × EF => fldOk RX3 e.1 e.2) ⟨RX7, TX7, 13, tyX7, tyX7 0, rfl, inZX7, tyX7_ok, nmX7, by decide, q643, tyX7_ok 0 (by decide), rfl, rfl, fun _ => Or.inr trivial⟩ <|
  fa_cons (p := fun e : Nat × EF => fldOk RX3 e.1 e.2) ⟨RX3, TX3, 7, tyX3, tyX3 4, rfl, inZX3, tyX3_ok, nmX3, by decide, q438, tyX3_ok 4 (by decide), rfl, rfl, fun _ => Or.inr trivial⟩ <|
  fa_cons (p := fun e : Nat × EF => fldOk RX3 e.1 e.2) ⟨RX7, TX7, 13, tyX7, tyX7 9, rfl, inZX7, tyX7_ok, nmX7, by decide, q665, tyX7_ok 9 (by decide), Or.inr ⟨_, rfl⟩, rfl, fun _ => Or.inr trivial⟩ <|
  fa_cons (p := fun e : Nat × EF => fldOk RX3 e.1 e.2) ⟨RX7, TX7, 13, tyX7, tyX7 5, rfl, inZX7, tyX7_ok, nmX7, by decide, q656, tyX7_ok 5 (by decide), rfl, rfl, fun _ => Or.inr trivial⟩ <|
  fa_cons (p := fun e : Nat × EF => fldOk RX3 e.1 e.2) ⟨RX7, TX7, 13, tyX7, tyX7 11, rfl, inZX7, tyX7_ok, nmX7, by decide, q671, tyX7_ok 11 (by decide), Or.inr ⟨_, rfl⟩, rfl, fun _ => Or.inr trivial⟩ <|
  fa_cons (p := fun e : Nat × EF => fldOk RX3 e.1 e.2) ⟨RX7, TX7, 13, tyX7, tyX7 8, rfl, inZX7, tyX7_ok, nmX7, by decide, q663, tyX7_ok 8 (by decide), rfl, rfl, fun _ => Or.inr trivial⟩ <|
  fa_cons (p := fun e : Nat × EF => fldOk RX3 e.1 e.2) ⟨RX7, TX7, 13, tyX7, tyX7 10, rfl, inZX7, tyX7_ok, nmX7, by decide, q668, tyX7_ok 10 (by decide), Or.inr ⟨_, rfl⟩, rfl, fun _ => Or.inr trivial⟩ <|
  fa_cons (p := fun e : Nat × EF => fldOk RX3 e.1 e.2) ⟨RX7, TX7, 13, tyX7, tyX7 12, rfl, inZX7, tyX7_ok, nmX7, by decide, q674, tyX7_ok 12 (by decide), Or.inr ⟨_, rfl⟩, rfl, fun _ => Or.inr trivial⟩ <|
  fa_cons (p := fun e : Nat × EF => fldOk RX3 e.1 e.2) ⟨RX7, TX7, 13, tyX7, tyX7 2, rfl, inZX7, tyX7_ok, nmX7, by decide, q649, tyX7_ok 2 (by decide), Or.inr ⟨_, rfl⟩, rfl, fun _ => Or.inr trivial⟩ <|
  fa_cons (p := fun e : Nat × EF => fldOk RX3 e.1 e.2) ⟨RX6, TX6, 6, tyX6, tyX6 3, rfl, inZX6, tyX6_ok, nmX6, by decide, q409, tyX6_ok 3 (by decide), Or.inr ⟨_, rfl⟩, rfl, fun _ => Or.inr trivial⟩ <|
  fa_cons (p := fun e : Nat × EF => fldOk RX3 e.1 e.2) ⟨RX7, TX7, 13, tyX7, tyX7 6, rfl, inZX7, tyX7_ok, nmX7, by decide, q659, tyX7_ok 6 (by decide), Or.inr ⟨_, rfl⟩, rfl, fun _ => Or.inr trivial⟩ <|
  fa_cons (p := fun e : Nat × EF => fldOk RX3 e.1 e.2) ⟨RX7, TX7, 13, tyX7, tyX7 7, rfl, inZX7, tyX7_ok, nmX7, by decide, q662, tyX7_ok 7 (by decide), Or.inr ⟨_, rfl⟩, rfl, fun _ => Or.inr trivial⟩ <|
  fa_nil
def fX4 : List (Nat × EF) := [(12, 4, 0, 3, true), (21, 4, 1, 3, true), (28, 4, 2, 3, true), (35, 4, 3, 3, true), (41, 4, 4, 3, true), (45, 4, 6, 0, false), (49, 4, 5, 0, false), (62, 10, 5, 3, true), (77, 10, 3, 3, true), (80, 0, 1, 0, false), (87, 5, 0, 0, false), (94, 0, 8, 3, true), (97, 0, 9, 3, true)]
theorem fX4_ok : ∀ e ∈ fX4, fldOk RX4 e.1 e.2 :=
  fa_cons (p := fun e : Nat × EF => fldOk RX4 e.1 e.2) ⟨RX4, TX4, 7, tyX4, tyX4 0, rfl, inZX4, tyX4_ok, nmX4, by decide, q361, tyX4_ok 0 (by decide), Or.inl ⟨_, rfl⟩, rfl, fun _ => Or.inr trivial⟩ <|
  fa_cons (p := fun e : Nat × EF => fldOk RX4 e.1 e.2) ⟨RX4, TX4, 7, tyX4, tyX4 1, rfl, inZX4, tyX4_ok, nmX4, by decide, q366, tyX4_ok 1 (by decide), Or.inl ⟨_, rfl⟩, rfl, fun _ => Or.inr trivial⟩ <|
  fa_cons (p := fun e : Nat × EF => fldOk RX4 e.1 e.2) ⟨RX4, TX4, 7, tyX4, tyX4 2, rfl, inZX4, tyX4_ok, nmX4, by decide, q370, tyX4_ok 2 (by decide), Or.inl ⟨_, rfl⟩, rfl, fun _ => Or.inr trivial⟩ <|
  fa_cons (p := fun e : Nat × EF => fldOk RX4 e.1 e.2) ⟨RX4, TX4, 7, tyX4, tyX4 3, rfl, inZX4, tyX4_ok, nmX4, by decide, q372, tyX4_ok 3 (by decide), Or.inl ⟨_, rfl⟩, rfl, fun _ => Or.inr trivial⟩ <|
  fa_cons (p := fun e : Nat × EF => fldOk RX4 e.1 e.2) ⟨RX4, TX4, 7, tyX4, tyX4 4, rfl, inZX4, tyX4_ok, nmX4, by decide, q374, tyX4_ok 4 (by decide), Or.inr ⟨_, rfl⟩, rfl, fun _ => Or.inr trivial⟩ <|
  fa_cons (p := fun e : Nat × EF => fldOk RX4 e.1 e.2) ⟨RX4, TX4, 7, tyX4, tyX4 6, rfl, inZX4, tyX4_ok, nmX4, by decide, q378, tyX4_ok 6 (by decide), rfl, rfl, fun _ => Or.inr trivial⟩ <|
  fa_cons (p := fun e : Nat × EF => fldOk RX4 e.1 e.2) ⟨RX4, TX4, 7, tyX4, tyX4 5, rfl, inZX4, tyX4_ok, nmX4, by decide, q376, tyX4_ok 5 (by decide), rfl, rfl, fun _ => Or.inr trivial⟩ <|
  fa_cons (p := fun e : Nat × EF => fldOk RX4 e.1 e.2) ⟨RX10, TX10, 15, tyX10, tyX10 5, rfl, inZX10, tyX10_ok, nmX10, by decide, q235, tyX10_ok 5 (by decide), Or.inr ⟨_, rfl⟩, rfl, fun _ => Or.inr trivial⟩ <|
  fa_cons (p := fun e : Nat × EF => fldOk RX4 e.1 e.2) ⟨RX10, TX10, 15, tyX10, tyX10 3, rfl, inZX10, tyX10_ok, nmX10, by decide, q227, tyX10_ok 3 (by decide), Or.inr ⟨_, rfl⟩, rfl, fun _ => Or.inr trivial⟩ <|
  fa_cons (p := fun e : Nat × EF => fldOk RX4 e.1 e.2) ⟨RX0, TX0, 10, tyX0, tyX0 1, rfl, inZX0, tyX0_ok, nmX0, by decide, q162, tyX0_ok 1 (by decide), rfl, rfl, fun _ => Or.inr trivial⟩ <|
  fa_cons (p := fun e : Nat × EF => fldOk RX4 e.1 e.2) ⟨RX5, TX5, 4, tyX5, tyX5 0, rfl, inZX5, tyX5_ok, nmX5, by decide, q298, tyX5_ok 0 (by decide), rfl, rfl, fun _ => Or.inr trivial⟩ <|
  fa_cons (p := fun e : Nat × EF => fldOk RX4 e.1 e.2) ⟨RX0, TX0, 10, tyX0, tyX0 8, rfl, inZX0, tyX0_ok, nmX0, by decide, q183, tyX0_ok 8 (by decide), Or.inr ⟨_, rfl⟩, rfl, fun _ => Or.inr trivial⟩ <|
  fa_cons (p := fun e : Nat × EF => fldOk RX4 e.1 e.2) ⟨RX0, TX0, 10, tyX0, tyX0 9, rfl, inZX0, tyX0_ok, nmX0, by decide, q185, tyX0_ok 9 (by decide), Or.inr ⟨_, rfl⟩, rfl, fun _ => Or.inr trivial⟩ <|
  fa_nil
def fX5 : List (Nat × EF) := [(11, 5, 2, 3, true), (17, 5, 3, 3, true), (22, 5, 1, 0, false), (30, 5, 0, 0, false)]
theorem fX5_ok : ∀ e ∈ fX5, fldOk RX5 e.1 e.2 :=
  fa_cons (p := fun e : Nat × EF => fldOk RX5 e.1 e.2) ⟨RX5, TX5, 4, tyX5, tyX5 2, rfl, inZX5, tyX5_ok, nmX5, by decide, q301, tyX5_ok 2 (by decide), Or.inr ⟨_, rfl⟩, rfl, fun _ => Or.inr trivial⟩ <|
  fa_cons (p := fun e : Nat × EF => fldOk RX5 e.1 e.2) ⟨RX5, TX5, 4, tyX5, tyX5 3, rfl, inZX5, tyX5_ok, nmX5, by decide, q302, tyX5_ok 3 (by decide), Or.inr ⟨_, rfl⟩, rfl, fun _ => Or.inr trivial⟩ <|
  fa_cons (p := fun e : Nat × EF => fldOk RX5 e.1 e.2) ⟨RX5, TX5, 4, tyX5, tyX5 1, rfl, inZX5, tyX5_ok, nmX5, by decide, q300, tyX5_ok 1 (by decide), rfl, rfl, fun _ => Or.inr trivial⟩ <|
  fa_cons (p := fun e : Nat × EF => fldOk RX5 e.1 e.2) ⟨RX5, TX5, 4, tyX5, tyX5 0, rfl, inZX5, tyX5_ok, nmX5, by decide, q297, tyX5_ok 0 (by decide), rfl, rfl, fun _ => Or.inr trivial⟩ <|
  fa_nil
def fX6 : List (Nat × EF) := [(9, 6, 2, 3, true), (15, 6, 3, 3, true), (18, 6, 4, 3, true), (21, 6, 5, 3, true), (24, 6, 0, 0, false), (28, 6, 1, 0, false)]
theorem fX6_ok : ∀ e ∈ fX6, fldOk RX6 e.1 e.2 :=
  fa_cons (p := fun e : Nat × EF => fldOk RX6 e.1 e.2) ⟨RX6, TX6, 6, tyX6, tyX6 2, rfl, inZX6, tyX6_ok, nmX6, by decide, q406, tyX6_ok 2 (by decide), Or.inr ⟨_, rfl⟩, rfl, fun _ => Or.inr trivial⟩ <|
  fa_cons (p := fun e : Nat × EF => fldOk RX6 e.1 e.2) ⟨RX6, TX6, 6, tyX6, tyX6 3, rfl, inZX6, tyX6_ok, nmX6, by decide, q408, tyX6_ok 3 (by decide), Or.inr ⟨_, rfl⟩, rfl, fun _ => Or.inr trivial⟩ <|
  fa_cons (p := fun e : Nat × EF => fldOk RX6 e.1 e.2) ⟨RX6, TX6, 6, tyX6, tyX6 4, rfl, inZX6, tyX6_ok, nmX6, by decide, q410, tyX6_ok 4 (by decide), Or.inr ⟨_, rfl⟩, rfl, fun _ => Or.inr trivial⟩ <|
  fa_cons (p := fun e : Nat × EF => fldOk RX6 e.1 e.2) ⟨RX6, TX6, 6, tyX6, tyX6 5, rfl, inZX6, tyX6_ok, nmX6, by decide, q412, tyX6_ok 5 (by decide), Or.inr ⟨_, rfl⟩, rfl, fun _ => Or.inr trivial⟩ <|
  fa_cons (p := fun e : Nat × EF => fldOk RX6 e.1 e.2) ⟨RX6, TX6, 6, tyX6, tyX6 0, rfl, inZX6, tyX6_ok, nmX6, by decide, q401, tyX6_ok 0 (by decide), rfl, rfl, fun _ => Or.inr trivial⟩ <|
  fa_cons (p := fun e : Nat × EF => fldOk RX6 e.1 e.2) ⟨RX6, TX6, 6, tyX6, tyX6 1, rfl, inZX6, tyX6_ok, nmX6, by decide, q404, tyX6_ok 1 (by decide), rfl, rfl, fun _ => Or.inr trivial⟩ <|
  fa_nil
def fX7 : List (Nat × EF) := [(18, 7, 3, 3, true), (21, 7, 4, 3, true), (30, 7, 9, 3, true), (33, 7, 10, 3, true), (42, 7, 5, 0, false)]
theorem fX7_ok : ∀ e ∈ fX7, fldOk RX7 e.1 e.2 :=
  fa_cons (p := fun e : Nat × EF => fldOk RX7 e.1 e.2) ⟨RX7, TX7, 13, tyX7, tyX7 3, rfl, inZX7, tyX7_ok, nmX7, by decide, q651, tyX7_ok 3 (by decide), Or.inr ⟨_, rfl⟩, rfl, fun _ => Or.inr trivial⟩ <|
  fa_cons (p := fun e : Nat × EF => fldOk RX7 e.1 e.2) ⟨RX7, TX7, 13, tyX7, tyX7 4, rfl, inZX7, tyX7_ok, nmX7, by decide, q653, tyX7_ok 4 (by decide), Or.inr ⟨_, rfl⟩, rfl, fun _ => Or.inr trivial⟩ <|
  fa_cons (p := fun e : Nat × EF => fldOk RX7 e.1 e.2) ⟨RX7, TX7, 13, tyX7, tyX7 9, rfl, inZX7, tyX7_ok, nmX7, by decide, q664, tyX7_ok 9 (by decide), Or.inr ⟨_, rfl⟩, rfl, fun _ => Or.inr trivial⟩ <|
  fa_cons (p := fun e : Nat × EF => fldOk RX7 e.1 e.2) ⟨RX7, TX7, 13, tyX7, tyX7 10, rfl, inZX7, tyX7_ok, nmX7, by decide, q667, tyX7_ok 10 (by decide), Or.inr ⟨_, rfl⟩, rfl, fun _ => Or.inr trivial⟩ <|
  fa_cons (p := fun e : Nat × EF => fldOk RX7 e.1 e.2) ⟨RX7, TX7, 13, tyX7, tyX7 5, rfl, inZX7, tyX7_ok, nmX7, by decide, q655, tyX7_ok 5 (by decide), rfl, rfl, fun _ => Or.inr trivial⟩ <|
  fa_nil
def fX8 : List (Nat × EF) := [(9, 8, 0, 3, true), (15, 8, 1, 3, true), (18, 8, 2, 3, true), (22, 4, 0, 3, true), (28, 0, 0, 0, false), (42, 4, 1, 3, true), (46, 10, 0, 3, true)]
theorem fX8_ok : ∀ e ∈ fX8, fldOk RX8 e.1 e.2 :=
  fa_cons (p := fun e : Nat × EF => fldOk RX8 e.1 e.2) ⟨RX8, TX8, 3, tyX8, tyX8 0, rfl, inZX8, tyX8_ok, nmX8, by decide, q545, tyX8_ok 0 (by decide), Or.inr ⟨_, rfl⟩, rfl, fun _ => Or.inr trivial⟩ <|
  fa_cons (p := fun e : Nat × EF => fldOk RX8 e.1 e.2) ⟨RX8, TX8, 3, tyX8, tyX8 1, rfl, inZX8, tyX8_ok, nmX8, by decide, q547, tyX8_ok 1 (by decide), Or.inr ⟨_, rfl⟩, rfl, fun _ => Or.inr trivial⟩ <|
  fa_cons (p := fun e : Nat × EF => fldOk RX8 e.1 e.2) ⟨RX8, TX8, 3, tyX8, tyX8 2, rfl, inZX8, tyX8_ok, nmX8, by decide, q548, tyX8_ok 2 (by decide), Or.inl ⟨_, rfl⟩, rfl, fun _ => Or.inr trivial⟩ <|
  fa_cons (p := fun e : Nat × EF => fldOk RX8 e.1 e.2) ⟨RX4, TX4, 7, tyX4, tyX4 0, rfl, inZX4, tyX4_ok, nmX4, by decide, q364, tyX4_ok 0 (by decide), Or.inl ⟨_, rfl⟩, rfl, fun _ => Or.inr trivial⟩ <|
  fa_cons (p := fun e : Nat × EF => fldOk RX8 e.1 e.2) ⟨RX0, TX0, 10, tyX0, tyX0 0, rfl, inZX0, tyX0_ok, nmX0, by decide, q155, tyX0_ok 0 (by decide), rfl, rfl, fun _ => Or.inr trivial⟩ <|
  fa_cons (p := fun e : Nat × EF => fldOk RX8 e.1 e.2) ⟨RX4, TX4, 7, tyX4, tyX4 1, rfl, inZX4, tyX4_ok, nmX4, by decide, q368, tyX4_ok 1 (by decide), Or.inl ⟨_, rfl⟩, rfl, fun _ => Or.inr trivial⟩ <|
  fa_cons (p := fun e : Nat × EF => fldOk RX8 e.1 e.2) ⟨RX10, TX10, 15, tyX10, tyX10 0, rfl, inZX10, tyX10_ok, nmX10, by decide, q216, tyX10_ok 0 (by decide), Or.inr ⟨_, rfl⟩, rfl, fun _ => Or.inr trivial⟩ <|
  fa_nil
def fX9 : List (Nat × EF) := [(9, 9, 0, 0, false), (15, 9, 1, 3, true), (19, 9, 2, 3, true), (22, 9, 5, 3, true), (25, 9, 6, 3, true), (28, 9, 4, 3, true), (32, 4, 0, 3, true), (38, 0, 1, 0, false), (47, 10, 3, 3, true), (52, 10, 7, 0, false), (55, 9, 3, 0, false), (58, 0, 6, 3, true), (65, 0, 0, 0, false), (68, 10, 0, 3, true), (76, 10, 9, 0, false), (85, 10, 4, 3, true), (88, 10, 5, 3, true), (105, 10, 6, 0, false), (112, 0, 4, 3, true), (115, 10, 2, 3, true), (118, 0, 3, 3, true), (121, 10, 1, 3, true), (124, 0, 2, 3, true), (127, 10, 8, 0, false), (130, 9, 9, 0, false), (143, 9, 7, 3, false), (147, 9, 8, 0, false), (150, 7, 12, 3, true), (153, 7, 11, 3, true), (156, 7, 6, 3, true), (159, 7, 7, 3, true), (170, 7, 9, 3, true), (173, 7, 10, 3, true), (176, 7, 3, 3, true), (179, 7, 4, 3, true), (198, 0, 7, 3, true)]
theorem fX9_ok : ∀ e ∈ fX9, fldOk RX9 e.1 e.2 :=
  fa_cons (p := fun e : Nat × EF => fldOk RX9 e.1 e.2) ⟨RX9, TX9, 10, tyX9, tyX9 0, rfl, inZX9, tyX9_ok, nmX9, by decide, q462, tyX9_ok 0 (by decide), rfl, rfl, fun _ => Or.inr trivial⟩ <|
  fa_cons (p := fun e : Nat × EF => fldOk RX9 e.1 e.2) ⟨RX9, TX9, 10, tyX9, tyX9 1, rfl, inZX9, tyX9_ok, nmX9, by decide, q464, tyX9_ok 1 (by decide), Or.inr ⟨_, rfl⟩, rfl, fun _ => Or.inr trivial⟩ <|
  fa_cons (p := fun e : Nat × EF => fldOk RX9 e.1 e.2) ⟨RX9, TX9, 10, tyX9, tyX9 2, rfl, inZX9, tyX9_ok, nmX9, by decide, q466, tyX9_ok 2 (by decide), Or.inr ⟨_, rfl⟩, rfl, fun _ => Or.inr trivial⟩ <|
  fa_cons (p := fun e : Nat × EF => fldOk RX9 e.1 e.2) ⟨RX9, TX9, 10, tyX9, tyX9 5, rfl, inZX9, tyX9_ok, nmX9, by decide, q471, tyX9_ok 5 (by decide), Or.inr ⟨_, rfl⟩, rfl, fun _ => Or.inr trivial⟩ <|
  fa_cons (p := fun e : Nat × EF => fldOk RX9 e.1 e.2) ⟨RX9, TX9, 10, tyX9, tyX9 6, rfl, inZX9, tyX9_ok, nmX9, by decide, q472, tyX9_ok 6 (by decide), Or.inr ⟨_, rfl⟩, rfl, fun _ => Or.inr trivial⟩ <|
  fa_cons (p := fun e : Nat × EF => fldOk RX9 e.1 e.2) ⟨RX9, TX9, 10, tyX9, tyX9 4, rfl, inZX9, tyX9_ok, nmX9, by decide, q470, tyX9_ok 4 (by decide), Or.inl ⟨_, rfl⟩, rfl, fun _ => Or.inr trivial⟩ <|
  fa_cons (p := fun e : Nat × EF => fldOk RX9 e.1 e.2) ⟨RX4, TX4, 7, tyX4, tyX4 0, rfl, inZX4, tyX4_ok, nmX4, by decide, q363, tyX4_ok 0 (by decide), Or.inl ⟨_, rfl⟩, rfl, fun _ => Or.inr trivial⟩ <|
  fa_cons (p := fun e : Nat × EF => fldOk RX9 e.1 e.2) ⟨RX0, TX0, 10, tyX0, tyX0 1, rfl, inZX0, tyX0_ok, nmX0, by decide, q159, tyX0_ok 1 (by decide), rfl, rfl, fun _ => Or.inr trivial⟩ <|
  fa_cons (p := fun e : Nat × EF => fldOk RX9 e.1 e.2) ⟨RX10, TX10, 15, tyX10, tyX10 3, rfl, inZX10, tyX10_ok, nmX10, by decide, q226, tyX10_ok 3 (by decide), Or.inr ⟨_, rfl⟩, rfl, fun _ => Or.inr trivial⟩ <|
  fa_cons (p := fun e : Nat × EF => fldOk RX9 e.1 e.2) ⟨RX10, TX10, 15, tyX10, tyX10 7, rfl, inZX10, tyX10_ok, nmX10, by decide, q241, tyX10_ok 7 (by decide), rfl, rfl, fun _ => Or.inr trivial⟩ <|
  fa_cons (p := fun e : Nat × EF => fldOk RX9 e.1 e.2) ⟨RX9, TX9, 10, tyX9, tyX9 3, rfl, inZX9, tyX9_ok, nmX9, by decide, q468, tyX9_ok 3 (by decide), rfl, rfl, fun _ => Or.inr trivial⟩ <|
  fa_cons (p := fun e : Nat × EF => fldOk RX9 e.1 e.2) ⟨RX0, TX0, 10, tyX0, tyX0 6, rfl, inZX0, tyX0_ok, nmX0, by decide, q177, tyX0_ok 6 (by decide), Or.inr ⟨_, rfl⟩, rfl, fun _ => Or.inr trivial⟩ <|
  fa_cons (p := fun e : Nat × EF => fldOk RX9 e.1 e.2) ⟨RX0, TX0, 10, tyX0, tyX0 0, rfl, inZX0, tyX0_ok, nmX0, by decide, q157, tyX0_ok 0 (by decide), rfl, rfl, fun _ => Or.inr trivial⟩ <|
  fa_cons (p := fun e : Nat × EF => fldOk RX9 e.1 e.2) ⟨RX10, TX10, 15, tyX10, tyX10 0, rfl, inZX10, tyX10_ok, nmX10, by decide, q215, tyX10_ok 0 (by decide), Or.inr ⟨_, rfl⟩, rfl, fun _ => Or.inr trivial⟩ <|
  fa_cons (p := fun e : Nat × EF => fldOk RX9 e.1 e.2) ⟨RX10, TX10, 15, tyX10, tyX10 9, rfl, inZX10, tyX10_ok, nmX10, by decide, q248, tyX10_ok 9 (by decide), rfl, rfl, fun _ => Or.inr trivial⟩ <|
  fa_cons (p := fun e : Nat × EF => fldOk RX9 e.1 e.2) ⟨RX10, TX10, 15, tyX10, tyX10 4, rfl, inZX10, tyX10_ok, nmX10, by decide, q230, tyX10_ok 4 (by decide), Or.inr ⟨_, rfl⟩, rfl, fun _ => Or.inr trivial⟩ <|
  fa_cons (p := fun e : Nat × EF => fldOk RX9 e.1 e.2) ⟨RX10, TX10, 15, tyX10, tyX10 5, rfl, inZX10, tyX10_ok, nmX10, by decide, q234, tyX10_ok 5 (by decide), Or.inr ⟨_, rfl⟩, rfl, fun _ => Or.inr trivial⟩ <|
  fa_cons (p := fun e : Nat × EF => fldOk RX9 e.1 e.2) ⟨RX10, TX10, 15, tyX10, tyX10 6, rfl, inZX10, tyX10_ok, nmX10, by decide, q239, tyX10_ok 6 (by decide), rfl, rfl, fun _ => Or.inr trivial⟩ <|
  fa_cons (p := fun e : Nat × EF => fldOk RX9 e.1 e.2) ⟨RX0, TX0, 10, tyX0, tyX0 4, rfl, inZX0, tyX0_ok, nmX0, by decide, q171, tyX0_ok 4 (by decide), Or.inr ⟨_, rfl⟩, rfl, fun _ => Or.inr trivial⟩ <|
  fa_cons (p := fun e : Nat × EF => fldOk RX9 e.1 e.2) ⟨RX10, TX10, 15, tyX10, tyX10 2, rfl, inZX10, tyX10_ok, nmX10, by decide, q223, tyX10_ok 2 (by decide), Or.inr ⟨_, rfl⟩, rfl, fun _ => Or.inr trivial⟩ <|
  fa_cons (p := fun e : Nat × EF => fldOk RX9 e.1 e.2) ⟨RX0, TX0, 10, tyX0, tyX0 3, rfl, inZX0, tyX0_ok, nmX0, by decide, q167, tyX0_ok 3 (by decide), Or.inr ⟨_, rfl⟩, rfl, fun _ => Or.inr trivial⟩ <|
  fa_cons (p := fun e : Nat × EF => fldOk RX9 e.1 e.2) ⟨RX10, TX10, 15, tyX10, tyX10 1, rfl, inZX10, tyX10_ok, nmX10, by decide, q219, tyX10_ok 1 (by decide), Or.inr ⟨_, rfl⟩, rfl, fun _ => Or.inr trivial⟩ <|
  fa_cons (p := fun e : Nat × EF => fldOk RX9 e.1 e.2) ⟨RX0, TX0, 10, tyX0, tyX0 2, rfl, inZX0, tyX0_ok, nmX0, by decide, q164, tyX0_ok 2 (by decide), Or.inr ⟨_, rfl⟩, rfl, fun _ => Or.inr trivial⟩ <|
  fa_cons (p := fun e : Nat × EF => fldOk RX9 e.1 e.2) ⟨RX10, TX10, 15, tyX10, tyX10 8, rfl, inZX10, tyX10_ok, nmX10, by decide, q245, tyX10_ok 8 (by decide), rfl, rfl, fun _ => Or.inr trivial⟩ <|
  fa_cons (p := fun e : Nat × EF => fldOk RX9 e.1 e.2) ⟨RX9, TX9, 10, tyX9, tyX9 9, rfl, inZX9, tyX9_ok, nmX9, by decide, q475, tyX9_ok 9 (by decide), rfl, rfl, fun _ => Or.inr trivial⟩ <|
  fa_cons (p := fun e : Nat × EF => fldOk RX9 e.1 e.2) ⟨RX9, TX9, 10, tyX9, tyX9 7, rfl, inZX9, tyX9_ok, nmX9, by decide, q473, tyX9_ok 7 (by decide), Or.inl ⟨_, rfl⟩, rfl, fun _ => Or.inr trivial⟩ <|
  fa_cons (p := fun e : Nat × EF => fldOk RX9 e.1 e.2) ⟨RX9, TX9, 10, tyX9, tyX9 8, rfl, inZX9, tyX9_ok, nmX9, by decide, q474, tyX9_ok 8 (by decide), rfl, rfl, fun _ => Or.inr trivial⟩ <|
  fa_cons (p := fun e : Nat × EF => fldOk RX9 e.1 e.2) ⟨RX7, TX7, 13, tyX7, tyX7 12, rfl, inZX7, tyX7_ok, nmX7, by decide, q675, tyX7_ok 12 (by decide), Or.inr ⟨_, rfl⟩, rfl, fun _ => Or.inr trivial⟩ <|
  fa_cons (p := fun e : Nat × EF => fldOk RX9 e.1 e.2) ⟨RX7, TX7, 13, tyX7, tyX7 11, rfl, inZX7, tyX7_ok, nmX7, by decide, q672, tyX7_ok 11 (by decide), Or.inr ⟨_, rfl⟩, rfl, fun _ => Or.inr trivial⟩ <|
  fa_cons (p := fun e : Nat × EF => fldOk RX9 e.1 e.2) ⟨RX7, TX7, 13, tyX7, tyX7 6, rfl, inZX7, tyX7_ok, nmX7, by decide, q658, tyX7_ok 6 (by decide), Or.inr ⟨_, rfl⟩, rfl, fun _ => Or.inr trivial⟩ <|
  fa_cons (p := fun e : Nat × EF => fldOk RX9 e.1 e.2) ⟨RX7, TX7, 13, tyX7, tyX7 7, rfl, inZX7, tyX7_ok, nmX7, by decide, q661, tyX7_ok 7 (by decide), Or.inr ⟨_, rfl⟩, rfl, fun _ => Or.inr trivial⟩ <|
  fa_cons (p := fun e : Nat × EF => fldOk RX9 e.1 e.2) ⟨RX7, TX7, 13, tyX7, tyX7 9, rfl, inZX7, tyX7_ok, nmX7, by decide, q666, tyX7_ok 9 (by decide), Or.inr ⟨_, rfl⟩, rfl, fun _ => Or.inr trivial⟩ <|
  fa_cons (p := fun e : Nat × EF => fldOk RX9 e.1 e.2) ⟨RX7, TX7, 13, tyX7, tyX7 10, rfl, inZX7, tyX7_ok, nmX7, by decide, q669, tyX7_ok 10 (by decide), Or.inr ⟨_, rfl⟩, rfl, fun _ => Or.inr trivial⟩ <|
  fa_cons (p := fun e : Nat × EF => fldOk RX9 e.1 e.2) ⟨RX7, TX7, 13, tyX7, tyX7 3, rfl, inZX7, tyX7_ok, nmX7, by decide, q652, tyX7_ok 3 (by decide), Or.inr ⟨_, rfl⟩, rfl, fun _ => Or.inr trivial⟩ <|
  fa_cons (p := fun e : Nat × EF => fldOk RX9 e.1 e.2) ⟨RX7, TX7, 13, tyX7, tyX7 4, rfl, inZX7, tyX7_ok, nmX7, by decide, q654, tyX7_ok 4 (by decide), Or.inr ⟨_, rfl⟩, rfl, fun _ => Or.inr trivial⟩ <|
  fa_cons (p := fun e : Nat × EF => fldOk RX9 e.1 e.2) ⟨RX0, TX0, 10, tyX0, tyX0 7, rfl, inZX0, tyX0_ok, nmX0, by decide, q180, tyX0_ok 7 (by decide), Or.inr ⟨_, rfl⟩, rfl, fun _ => Or.inr trivial⟩ <|
  fa_nil
def fX10 : List (Nat × EF) := [(9, 10, 0, 3, true), (15, 10, 1, 3, true), (18, 10, 2, 3, true), (21, 10, 3, 3, true), (24, 10, 4, 3, true), (27, 10, 5, 3, true), (30, 10, 10, 0, false), (34, 10, 13, 3, true), (37, 10, 14, 3, true), (46, 10, 6, 0, false), (49, 10, 7, 0, false), (52, 10, 8, 0, false), (55, 10, 9, 0, false), (58, 10, 11, 0, false), (61, 10, 12, 0, false)]
theorem fX10_ok : ∀ e ∈ fX10, fldOk RX10 e.1 e.2 :=
  fa_cons (p := fun e : Nat × EF => fldOk RX10 e.1 e.2) ⟨RX10, TX10, 15, tyX10, tyX10 0, rfl, inZX10, tyX10_ok, nmX10, by decide, q214, tyX10_ok 0 (by decide), Or.inr ⟨_, rfl⟩, rfl, fun _ => Or.inr trivial⟩ <|
  fa_cons (p := fun e : Nat × EF => fldOk RX10 e.1 e.2) ⟨RX10, TX10, 15, tyX10, tyX10 1, rfl, inZX10, tyX10_ok, nmX10, by decide, q218, tyX10_ok 1 (by decide), Or.inr ⟨_, rfl⟩, rfl, fun _ => Or.inr trivial⟩ <|
  fa_cons (p := fun e : Nat × EF => fldOk RX10 e.1 e.2) ⟨RX10, TX10, 15, tyX10, tyX10 2, rfl, inZX10, tyX10_ok, nmX10, by decide, q222, tyX10_ok 2 (by decide), Or.inr ⟨_, rfl⟩, rfl, fun _ => Or.inr trivial⟩ <|
  fa_cons (p := fun e : Nat × EF => fldOk RX10 e.1 e.2) ⟨RX10, TX10, 15, tyX10, tyX10 3, rfl, inZX10, tyX10_ok, nmX10, by decide, q225, tyX10_ok 3 (by decide), Or.inr ⟨_, rfl⟩, rfl, fun _ => Or.inr trivial⟩ <|
  fa_cons (p := fun e : Nat × EF => fldOk RX10 e.1 e.2) ⟨RX10, TX10, 15, tyX10, tyX10 4, rfl, inZX10, tyX10_ok, nmX10, by decide, q229, tyX10_ok 4 (by decide), Or.inr ⟨_, rfl⟩, rfl, fun _ => Or.inr trivial⟩ <|
  fa_cons (p := fun e : Nat × EF => fldOk RX10 e.1 e.2) ⟨RX10, TX10, 15, tyX10, tyX10 5, rfl, inZX10, tyX10_ok, nmX10, by decide, q233, tyX10_ok 5 (by decide), Or.inr ⟨_, rfl⟩, rfl, fun _ => Or.inr trivial⟩ <|
  fa_cons (p := fun e : Nat × EF => fldOk RX10 e.1 e.2) ⟨RX10, TX10, 15, tyX10, tyX10 10, rfl, inZX10, tyX10_ok, nmX10, by decide, q250, tyX10_ok 10 (by decide), rfl, rfl, fun _ => Or.inr trivial⟩ <|
  fa_cons (p := fun e : Nat × EF => fldOk RX10 e.1 e.2) ⟨RX10, TX10, 15, tyX10, tyX10 13, rfl, inZX10, tyX10_ok, nmX10, by decide, q255, tyX10_ok 13 (by decide), Or.inr ⟨_, rfl⟩, rfl, fun _ => Or.inr trivial⟩ <|
  fa_cons (p := fun e : Nat × EF => fldOk RX10 e.1 e.2) ⟨RX10, TX10, 15, tyX10, tyX10 14, rfl, inZX10, tyX10_ok, nmX10, by decide, q256, tyX10_ok 14 (by decide), Or.inr ⟨_, rfl⟩, rfl, fun _ => Or.inr trivial⟩ <|
  fa_cons (p := fun e : Nat × EF => fldOk RX10 e.1 e.2) ⟨RX10, TX10, 15, tyX10, tyX10 6, rfl, inZX10, tyX10_ok, nmX10, by decide, q238, tyX10_ok 6 (by decide), rfl, rfl, fun _ => Or.inr trivial⟩ <|
  fa_cons (p := fun e : Nat × EF => fldOk RX10 e.1 e.2) ⟨RX10, TX10, 15, tyX10, tyX10 7, rfl, inZX10, tyX10_ok, nmX10, by decide, q242, tyX10_ok 7 (by decide), rfl, rfl, fun _ => Or.inr trivial⟩ <|
  fa_cons (p := fun e : Nat × EF => fldOk RX10 e.1 e.2) ⟨RX10, TX10, 15, tyX10, tyX10 8, rfl, inZX10, tyX10_ok, nmX10, by decide, q244, tyX10_ok 8 (by decide), rfl, rfl, fun _ => Or.inr trivial⟩ <|
  fa_cons (p := fun e : Nat × EF => fldOk RX10 e.1 e.2) ⟨RX10, TX10, 15, tyX10, tyX10 9, rfl, inZX10, tyX10_ok, nmX10, by decide, q247, tyX10_ok 9 (by decide), rfl, rfl, fun _ => Or.inr trivial⟩ <|
  fa_cons (p := fun e : Nat × EF => fldOk RX10 e.1 e.2) ⟨RX10, TX10, 15, tyX10, tyX10 11, rfl, inZX10, tyX10_ok, nmX10, by decide, q252, tyX10_ok 11 (by decide), rfl, rfl, fun _ => Or.inr trivial⟩ <|
  fa_cons (p := fun e : Nat × EF => fldOk RX10 e.1 e.2) ⟨RX10, TX10, 15, tyX10, tyX10 12, rfl, inZX10, tyX10_ok, nmX10, by decide, q254, tyX10_ok 12 (by decide), rfl, rfl, fun _ => Or.inr trivial⟩ <|
  fa_nil
def fX11 : List (Nat × EF) := [(10, 11, 0, 3, true), (16, 11, 1, 3, true), (22, 11, 2, 3, true), (31, 11, 3, 3, true), (40, 11, 4, 3, true), (49, 11, 5, 3, true), (56, 11, 6, 3, true), (60, 4, 0, 3, true), (68, 0, 0, 0, false), (90, 0, 1, 0, false), (97, 4, 1, 3, true), (107, 6, 0, 0, false), (114, 4, 5, 0, false), (125, 3, 0, 0, false), (128, 3, 1, 0, false), (134, 4, 6, 0, false), (137, 10, 9, 0, false), (150, 10, 4, 3, true), (157, 10, 5, 3, true), (167, 10, 3, 3, true), (176, 10, 6, 0, false), (179, 10, 0, 3, true), (182, 4, 4, 3, true), (186, 7, 0, 0, false), (191, 7, 1, 3, true), (198, 7, 2, 3, true), (233, 10, 10, 0, false), (249, 0, 2, 3, true), (252, 0, 3, 3, true), (255, 0, 4, 3, true), (258, 10, 1, 3, true), (261, 10, 2, 3, true), (267, 0, 5, 3, true), (270, 0, 6, 3, true), (273, 0, 7, 3, true), (283, 10, 11, 0, false), (308, 2, 0, 0, false), (311, 2, 1, 3, true), (328, 2, 7, 3, true), (334, 8, 0, 3, true), (343, 4, 3, 3, true), (347, 1, 0, 0, false), (358, 1, 3, 3, true), (361, 1, 4, 3, true), (364, 1, 5, 3, true), (377, 1, 1, 0, false), (390, 1, 2, 0, false), (403, 10, 8, 0, false), (406, 10, 7, 0, false), (412, 4, 2, 3, true), (416, 5, 0, 0, false)]
theorem fX11_ok : ∀ e ∈ fX11, fldOk RX11 e.1 e.2 :=
  fa_cons (p := fun e : Nat × EF => fldOk RX11 e.1 e.2) ⟨RX11, TX11, 7, tyX11, tyX11 0, rfl, inZX11, tyX11_ok, nmX11, by decide, q556, tyX11_ok 0 (by decide), Or.inl ⟨_, rfl⟩, rfl, fun _ => Or.inr trivial⟩ <|
  fa_cons (p := fun e : Nat × EF => fldOk RX11 e.1 e.2) ⟨RX11, TX11, 7, tyX11, tyX11 1, rfl, inZX11, tyX11_ok, nmX11, by decide, q557, tyX11_ok 1 (by decide), Or.inl ⟨_, rfl⟩, rfl, fun _ => Or.inr trivial⟩ <|
  fa_cons (p := fun e : Nat × EF => fldOk RX11 e.1 e.2) ⟨RX11, TX11, 7, tyX11, tyX11 2, rfl, inZX11, tyX11_ok, nmX11, by decide, q558, tyX11_ok 2 (by decide), Or.inl ⟨_, rfl⟩, rfl, fun _ => Or.inr trivial⟩ <|
  fa_cons (p := fun e : Nat × EF => fldOk RX11 e.1 e.2) ⟨RX11, TX11, 7, tyX11, tyX11 3, rfl, inZX11, tyX11_ok, nmX11, by decide, q559, tyX11_ok 3 (by decide), Or.inl ⟨_, rfl⟩, rfl, fun _ => Or.inr trivial⟩ <|
  fa_cons (p := fun e : Nat × EF => fldOk RX11 e.1 e.2) ⟨RX11, TX11, 7, tyX11, tyX11 4, rfl, inZX11, tyX11_ok, nmX11, by decide, q560, tyX11_ok 4 (by decide), Or.inl ⟨_, rfl⟩, rfl, fun _ => Or.inr trivial⟩ <|
  fa_cons (p := fun e : Nat × EF => fldOk RX11 e.1 e.2) ⟨RX11, TX11, 7, tyX11, tyX11 5, rfl, inZX11, tyX11_ok, nmX11, by decide, q561, tyX11_ok 5 (by decide), Or.inl ⟨_, rfl⟩, rfl, fun _ => Or.inr trivial⟩ <|
  fa_cons (p := fun e : Nat × EF => fldOk RX11 e.1 e.2) ⟨RX11, TX11, 7, tyX11, tyX11 6, rfl, inZX11, tyX11_ok, nmX11, by decide, q562, tyX11_ok 6 (by decide), Or.inl ⟨_, rfl⟩, rfl, fun _ => Or.inr trivial⟩ <|
  fa_cons (p := fun e : Nat × EF => fldOk RX11 e.1 e.2) ⟨RX4, TX4, 7, tyX4, tyX4 0, rfl, inZX4, tyX4_ok, nmX4, by decide, q362, tyX4_ok 0 (by decide), Or.inl ⟨_, rfl⟩, rfl, fun _ => Or.inr trivial⟩ <|
  fa_cons (p := fun e : Nat × EF => fldOk RX11 e.1 e.2) ⟨RX0, TX0, 10, tyX0, tyX0 0, rfl, inZX0, tyX0_ok, nmX0, by decide, q156, tyX0_ok 0 (by decide), rfl, rfl, fun _ => Or.inr trivial⟩ <|
  fa_cons (p := fun e : Nat × EF => fldOk RX11 e.1 e.2) ⟨RX0, TX0, 10, tyX0, tyX0 1, rfl, inZX0, tyX0_ok, nmX0, by decide, q161, tyX0_ok 1 (by decide), rfl, rfl, fun _ => Or.inr trivial⟩ <|
  fa_cons (p := fun e : Nat × EF => fldOk RX11 e.1 e.2) ⟨RX4, TX4, 7, tyX4, tyX4 1, rfl, inZX4, tyX4_ok, nmX4, by decide, q369, tyX4_ok 1 (by decide), Or.inl ⟨_, rfl⟩, rfl, fun _ => Or.inr trivial⟩ <|
  fa_cons (p := fun e : Nat × EF => fldOk RX11 e.1 e.2) ⟨RX6, TX6, 6, tyX6, tyX6 0, rfl, inZX6, tyX6_ok, nmX6, by decide, q403, tyX6_ok 0 (by decide), rfl, rfl, fun _ => Or.inr trivial⟩ <|
  fa_cons (p := fun e : Nat × EF => fldOk RX11 e.1 e.2) ⟨RX4, TX4, 7, tyX4, tyX4 5, rfl, inZX4, tyX4_ok, nmX4, by decide, q377, tyX4_ok 5 (by decide), rfl, rfl, fun _ => Or.inr trivial⟩ <|
  fa_cons (p := fun e : Nat × EF => fldOk RX11 e.1 e.2) ⟨RX3, TX3, 7, tyX3, tyX3 0, rfl, inZX3, tyX3_ok, nmX3, by decide, q433, tyX3_ok 0 (by decide), rfl, rfl, fun _ => Or.inr trivial⟩ <|
  fa_cons (p := fun e : Nat × EF => fldOk RX11 e.1 e.2) ⟨RX3, TX3, 7, tyX3, tyX3 1, rfl, inZX3, tyX3_ok, nmX3, by decide, q435, tyX3_ok 1 (by decide), rfl, rfl, fun _ => Or.inr trivial⟩ <|
  fa_cons (p := fun e : Nat × EF => fldOk RX11 e.1 e.2) ⟨RX4, TX4, 7, tyX4, tyX4 6, rfl, inZX4, tyX4_ok, nmX4, by decide, q379, tyX4_ok 6 (by decide), rfl, rfl, fun _ => Or.inr trivial⟩ <|
  fa_cons (p := fun e : Nat × EF => fldOk RX11 e.1 e.2) ⟨RX10, TX10, 15, tyX10, tyX10 9, rfl, inZX10, tyX10_ok, nmX10, by decide, q249, tyX10_ok 9 (by decide), rfl, rfl, fun _ => Or.inr trivial⟩ <|
  fa_cons (p := fun e : Nat × EF => fldOk RX11 e.1 e.2) ⟨RX10, TX10, 15, tyX10, tyX10 4, rfl, inZX10, tyX10_ok, nmX10, by decide, q232, tyX10_ok 4 (by decide), Or.inr ⟨_, rfl⟩, rfl, fun _ => Or.inr trivial⟩ <|
  fa_cons (p := fun e : Nat × EF => fldOk RX11 e.1 e.2) ⟨RX10, TX10, 15, tyX10, tyX10 5, rfl, inZX10, tyX10_ok, nmX10, by decide, q237, tyX10_ok 5 (by decide), Or.inr ⟨_, rfl⟩, rfl, fun _ => Or.inr trivial⟩ <|
  fa_cons (p := fun e : Nat × EF => fldOk RX11 e.1 e.2) ⟨RX10, TX10, 15, tyX10, tyX10 3, rfl, inZX10, tyX10_ok, nmX10, by decide, q228, tyX10_ok 3 (by decide), Or.inr ⟨_, rfl⟩, rfl, fun _ => Or.inr trivial⟩ <|
  fa_cons (p := fun e : Nat × EF => fldOk RX11 e.1 e.2) ⟨RX10, TX10, 15, tyX10, tyX10 6, rfl, inZX10, tyX10_ok, nmX10, by decide, q240, tyX10_ok 6 (by decide), rfl, rfl, fun _ => Or.inr trivial⟩ <|
  fa_cons (p := fun e : Nat × EF => fldOk RX11 e.1 e.2) ⟨RX10, TX10, 15, tyX10, tyX10 0, rfl, inZX10, tyX10_ok, nmX10, by decide, q217, tyX10_ok 0 (by decide), Or.inr ⟨_, rfl⟩, rfl, fun _ => Or.inr trivial⟩ <|
  fa_cons (p := fun e : Nat × EF => fldOk RX11 e.1 e.2) ⟨RX4, TX4, 7, tyX4, tyX4 4, rfl, inZX4, tyX4_ok, nmX4, by decide, q375, tyX4_ok 4 (by decide), Or.inr ⟨_, rfl⟩, rfl, fun _ => Or.inr trivial⟩ <|
  fa_cons (p := fun e : Nat × EF => fldOk RX11 e.1 e.2) ⟨RX7, TX7, 13, tyX7, tyX7 0, rfl, inZX7, tyX7_ok, nmX7, by decide, q644, tyX7_ok 0 (by decide), rfl, rfl, fun _ => Or.inr trivial⟩ <|
  fa_cons (p := fun e : Nat × EF => fldOk RX11 e.1 e.2) ⟨RX7, TX7, 13, tyX7, tyX7 1, rfl, inZX7, tyX7_ok, nmX7, by decide, q647, tyX7_ok 1 (by decide), Or.inr ⟨_, rfl⟩, rfl, fun _ => Or.inr trivial⟩ <|
  fa_cons (p := fun e : Nat × EF => fldOk RX11 e.1 e.2) ⟨RX7, TX7, 13, tyX7, tyX7 2, rfl, inZX7, tyX7_ok, nmX7, by decide, q650, tyX7_ok 2 (by decide), Or.inr ⟨_, rfl⟩, rfl, fun _ => Or.inr trivial⟩ <|
  fa_cons (p := fun e : Nat × EF => fldOk RX11 e.1 e.2) ⟨RX10, TX10, 15, tyX10, tyX10 10, rfl, inZX10, tyX10_ok, nmX10, by decide, q251, tyX10_ok 10 (by decide), rfl, rfl, fun _ => Or.inr trivial⟩ <|
  fa_cons (p := fun e : Nat × EF => fldOk RX11 e.1 e.2) ⟨RX0, TX0, 10, tyX0, tyX0 2, rfl, inZX0, tyX0_ok, nmX0, by decide, q165, tyX0_ok 2 (by decide), Or.inr ⟨_, rfl⟩, rfl, fun _ => Or.inr trivial⟩ <|
  fa_cons (p := fun e : Nat × EF => fldOk RX11 e.1 e.2) ⟨RX0, TX0, 10, tyX0, tyX0 3, rfl, inZX0, tyX0_ok, nmX0, by decide, q169, tyX0_ok 3 (by decide), Or.inr ⟨_, rfl⟩, rfl, fun _ => Or.inr trivial⟩ <|
  fa_cons (p := fun e : Nat × EF => fldOk RX11 e.1 e.2) ⟨RX0, TX0, 10, tyX0, tyX0 4, rfl, inZX0, tyX0_ok, nmX0, by decide, q173, tyX0_ok 4 (by decide), Or.inr ⟨_, rfl⟩, rfl, fun _ => Or.inr trivial⟩ <|
  fa_cons (p := fun e : Nat × EF => fldOk RX11 e.1 e.2) ⟨RX10, TX10, 15, tyX10, tyX10 1, rfl, inZX10, tyX10_ok, nmX10, by decide, q221, tyX10_ok 1 (by decide), Or.inr ⟨_, rfl⟩, rfl, fun _ => Or.inr trivial⟩ <|
  fa_cons (p := fun e : Nat × EF => fldOk RX11 e.1 e.2) ⟨RX10, TX10, 15, tyX10, tyX10 2, rfl, inZX10, tyX10_ok, nmX10, by decide, q224, tyX10_ok 2 (by decide), Or.inr ⟨_, rfl⟩, rfl, fun _ => Or.inr trivial⟩ <|
  fa_cons (p := fun e : Nat × EF => fldOk RX11 e.1 e.2) ⟨RX0, TX0, 10, tyX0, tyX0 5, rfl, inZX0, tyX0_ok, nmX0, by decide, q175, tyX0_ok 5 (by decide), Or.inr ⟨_, rfl⟩, rfl, fun _ => Or.inr trivial⟩ <|
  fa_cons (p := fun e : Nat × EF => fldOk RX11 e.1 e.2) ⟨RX0, TX0, 10, tyX0, tyX0 6, rfl, inZX0, tyX0_ok, nmX0, by decide, q178, tyX0_ok 6 (by decide), Or.inr ⟨_, rfl⟩, rfl, fun _ => Or.inr trivial⟩ <|
  fa_cons (p := fun e : Nat × EF => fldOk RX11 e.1 e.2) ⟨RX0, TX0, 10, tyX0, tyX0 7, rfl, inZX0, tyX0_ok, nmX0, by decide, q181, tyX0_ok 7 (by decide), Or.inr ⟨_, rfl⟩, rfl, fun _ => Or.inr trivial⟩ <|
  fa_cons (p := fun e : Nat × EF => fldOk RX11 e.1 e.2) ⟨RX10, TX10, 15, tyX10, tyX10 11, rfl, inZX10, tyX10_ok, nmX10, by decide, q253, tyX10_ok 11 (by decide), rfl, rfl, fun _ => Or.inr trivial⟩ <|
  fa_cons (p := fun e : Nat × EF => fldOk RX11 e.1 e.2) ⟨RX2, TX2, 10, tyX2, tyX2 0, rfl, inZX2, tyX2_ok, nmX2, by decide, q506, tyX2_ok 0 (by decide), rfl, rfl, fun _ => Or.inr trivial⟩ <|
  fa_cons (p := fun e : Nat × EF => fldOk RX11 e.1 e.2) ⟨RX2, TX2, 10, tyX2, tyX2 1, rfl, inZX2, tyX2_ok, nmX2, by decide, q508, tyX2_ok 1 (by decide), Or.inr ⟨_, rfl⟩, rfl, fun _ => Or.inr trivial⟩ <|
  fa_cons (p := fun e : Nat × EF => fldOk RX11 e.1 e.2) ⟨RX2, TX2, 10, tyX2, tyX2 7, rfl, inZX2, tyX2_ok, nmX2, by decide, q515, tyX2_ok 7 (by decide), Or.inr ⟨_, rfl⟩, rfl, fun _ => Or.inr trivial⟩ <|
  fa_cons (p := fun e : Nat × EF => fldOk RX11 e.1 e.2) ⟨RX8, TX8, 3, tyX8, tyX8 0, rfl, inZX8, tyX8_ok, nmX8, by decide, q546, tyX8_ok 0 (by decide), Or.inr ⟨_, rfl⟩, rfl, fun _ => Or.inr trivial⟩ <|
  fa_cons (p := fun e : Nat × EF => fldOk RX11 e.1 e.2) ⟨RX4, TX4, 7, tyX4, tyX4 3, rfl, inZX4, tyX4_ok, nmX4, by decide, q373, tyX4_ok 3 (by decide), Or.inl ⟨_, rfl⟩, rfl, fun _ => Or.inr trivial⟩ <|
  fa_cons (p := fun e : Nat × EF => fldOk RX11 e.1 e.2) ⟨RX1, TX1, 11, tyX1, tyX1 0, rfl, inZX1, tyX1_ok, nmX1, by decide, q319, tyX1_ok 0 (by decide), rfl, rfl, fun _ => Or.inr trivial⟩ <|
  fa_cons (p := fun e : Nat × EF => fldOk RX11 e.1 e.2) ⟨RX1, TX1, 11, tyX1, tyX1 3, rfl, inZX1, tyX1_ok, nmX1, by decide, q325, tyX1_ok 3 (by decide), Or.inr ⟨_, rfl⟩, rfl, fun _ => Or.inr trivial⟩ <|
  fa_cons (p := fun e : Nat × EF => fldOk RX11 e.1 e.2) ⟨RX1, TX1, 11, tyX1, tyX1 4, rfl, inZX1, tyX1_ok, nmX1, by decide, q327, tyX1_ok 4 (by decide), Or.inr ⟨_, rfl⟩, rfl, fun _ => Or.inr trivial⟩ <|
  fa_cons (p := fun e : Nat × EF => fldOk RX11 e.1 e.2) ⟨RX1, TX1, 11, tyX1, tyX1 5, rfl, inZX1, tyX1_ok, nmX1, by decide, q329, tyX1_ok 5 (by decide), Or.inr ⟨_, rfl⟩, rfl, fun _ => Or.inr trivial⟩ <|
  fa_cons (p := fun e : Nat × EF => fldOk RX11 e.1 e.2) ⟨RX1, TX1, 11, tyX1, tyX1 1, rfl, inZX1, tyX1_ok, nmX1, by decide, q321, tyX1_ok 1 (by decide), rfl, rfl, fun _ => Or.inr trivial⟩ <|
  fa_cons (p := fun e : Nat × EF => fldOk RX11 e.1 e.2) ⟨RX1, TX1, 11, tyX1, tyX1 2, rfl, inZX1, tyX1_ok, nmX1, by decide, q323, tyX1_ok 2 (by decide), rfl, rfl, fun _ => Or.inr trivial⟩ <|
  fa_cons (p := fun e : Nat × EF => fldOk RX11 e.1 e.2) ⟨RX10, TX10, 15, tyX10, tyX10 8, rfl, inZX10, tyX10_ok, nmX10, by decide, q246, tyX10_ok 8 (by decide), rfl, rfl, fun _ => Or.inr trivial⟩ <|
  fa_cons (p := fun e : Nat × EF => fldOk RX11 e.1 e.2) ⟨RX10, TX10, 15, tyX10, tyX10 7, rfl, inZX10, tyX10_ok, nmX10, by decide, q243, tyX10_ok 7 (by decide), rfl, rfl, fun _ => Or.inr trivial⟩ <|
  fa_cons (p := fun e : Nat × EF => fldOk RX11 e.1 e.2) ⟨RX4, TX4, 7, tyX4, tyX4 2, rfl, inZX4, tyX4_ok, nmX4, by decide, q371, tyX4_ok 2 (by decide), Or.inl ⟨_, rfl⟩, rfl, fun _ => Or.inr trivial⟩ <|
  fa_cons (p := fun e : Nat × EF => fldOk RX11 e.1 e.2) ⟨RX5, TX5, 4, tyX5, tyX5 0, rfl, inZX5, tyX5_ok, nmX5, by decide, q299, tyX5_ok 0 (by decide), rfl, rfl, fun _ => Or.inr trivial⟩ <|
  fa_nil
def fX12 : List (Nat × EF) := [(7, 12, 0, 3, true), (13, 12, 1, 3, true), (16, 12, 2, 3, true), (19, 12, 3, 3, true), (22, 12, 5, 0, false), (26, 12, 6, 0, false), (29, 12, 15, 3, true), (32, 12, 16, 3, true), (35, 12, 22, 3, true), (38, 12, 24, 0, false), (41, 12, 25, 3, true), (45, 12, 26, 3, true), (49, 12, 27, 3, true), (52, 12, 28, 3, true), (55, 12, 29, 3, true), (58, 12, 32, 3, true), (61, 12, 33, 3, true), (64, 12, 34, 3, true), (67, 12, 37, 0, false), (70, 12, 39, 3, true), (73, 12, 41, 3, true), (79, 12, 43, 3, true), (82, 12, 44, 3, true), (85, 12, 45, 3, true), (88, 12, 46, 3, true), (91, 12, 47, 3, true), (94, 12, 48, 3, true), (97, 12, 49, 3, true), (100, 12, 50, 3, true), (103, 12, 51, 3, true), (106, 12, 52, 3, true), (133, 12, 4, 0, false), (140, 12, 7, 0, false), (147, 12, 8, 0, false), (150, 12, 9, 0, false), (156, 12, 10, 0, false), (163, 12, 11, 2, false), (188, 12, 12, 0, false), (191, 12, 13, 0, false), (194, 12, 14, 0, false), (197, 12, 19, 0, false), (200, 12, 17, 0, false), (210, 12, 18, 0, false), (226, 12, 20, 1, false), (296, 12, 21, 0, false), (316, 12, 30, 0, false), (322, 12, 23, 0, false), (325, 12, 31, 0, false), (334, 12, 35, 0, false), (351, 12, 36, 0, false), (367, 12, 38, 1, false), (373, 12, 40, 0, false)]
theorem fX12_ok : ∀ e ∈ fX12, fldOk RX12 e.1 e.2 :=
  fa_cons (p := fun e : Nat × EF => fldOk RX12 e.1 e.2) ⟨RX12, TX12, 53, tyX12, tyX12 0, rfl, inZX12, tyX12_ok, nmX12, by decide, q1394, tyX12_ok 0 (by decide), Or.inr ⟨_, rfl⟩, rfl, fun _ => Or.inr trivial⟩ <|
  fa_cons (p := fun e : Nat × EF => fldOk RX12 e.1 e.2) ⟨RX12, TX12, 53, tyX12, tyX12 1, rfl, inZX12, tyX12_ok, nmX12, by decide, q1395, tyX12_ok 1 (by decide), Or.inr ⟨_, rfl⟩, rfl, fun _ => Or.inr trivial⟩ <|
  fa_cons (p := fun e : Nat × EF => fldOk RX12 e.1 e.2) ⟨RX12, TX12, 53, tyX12, tyX12 2, rfl, inZX12, tyX12_ok, nmX12, by decide, q1396, tyX12_ok 2 (by decide), Or.inr ⟨_, rfl⟩, rfl, fun _ => Or.inr trivial⟩ <|
  fa_cons (p := fun e : Nat × EF => fldOk RX12 e.1 e.2) ⟨RX12, TX12, 53, tyX12, tyX12 3, rfl, inZX12, tyX12_ok, nmX12, by decide, q1397, tyX12_ok 3 (by decide), Or.inr ⟨_, rfl⟩, rfl, fun _ => Or.inr trivial⟩ <|
  fa_cons (p := fun e : Nat × EF => fldOk RX12 e.1 e.2) ⟨RX12, TX12, 53, tyX12, tyX12 5, rfl, inZX12, tyX12_ok, nmX12, by decide, q1399, tyX12_ok 5 (by decide), rfl, rfl, fun _ => Or.inr trivial⟩ <|
  fa_cons (p := fun e : Nat × EF => fldOk RX12 e.1 e.2) ⟨RX12, TX12, 53, tyX12, tyX12 6, rfl, inZX12, tyX12_ok, nmX12, by decide, q1400, tyX12_ok 6 (by decide), rfl, rfl, fun _ => Or.inr trivial⟩ <|
  fa_cons (p := fun e : Nat × EF => fldOk RX12 e.1 e.2) ⟨RX12, TX12, 53, tyX12, tyX12 15, rfl, inZX12, tyX12_ok, nmX12, by decide, q1409, tyX12_ok 15 (by decide), Or.inr ⟨_, rfl⟩, rfl, fun _ => Or.inr trivial⟩ <|
  fa_cons (p := fun e : Nat × EF => fldOk RX12 e.1 e.2) ⟨RX12, TX12, 53, tyX12, tyX12 16, rfl, inZX12, tyX12_ok, nmX12, by decide, q1410, tyX12_ok 16 (by decide), Or.inr ⟨_, rfl⟩, rfl, fun _ => Or.inr trivial⟩ <|
  fa_cons (p := fun e : Nat × EF => fldOk RX12 e.1 e.2) ⟨RX12, TX12, 53, tyX12, tyX12 22, rfl, inZX12, tyX12_ok, nmX12, by decide, q1416, tyX12_ok 22 (by decide), Or.inr ⟨_, rfl⟩, rfl, fun _ => Or.inr trivial⟩ <|
  fa_cons (p := fun e : Nat × EF => fldOk RX12 e.1 e.2) ⟨RX12, TX12, 53, tyX12, tyX12 24, rfl, inZX12, tyX12_ok, nmX12, by decide, q1418, tyX12_ok 24 (by decide), rfl, rfl, fun _ => Or.inr trivial⟩ <|
  fa_cons (p := fun e : Nat × EF => fldOk RX12 e.1 e.2) ⟨RX12, TX12, 53, tyX12, tyX12 25, rfl, inZX12, tyX12_ok, nmX12, by decide, q1419, tyX12_ok 25 (by decide), Or.inr ⟨_, rfl⟩, rfl, fun _ => Or.inr trivial⟩ <|
  fa_cons (p := fun e : Nat × EF => fldOk RX12 e.1 e.2) ⟨RX12, TX12, 53, tyX12, tyX12 26, rfl, inZX12, tyX12_ok, nmX12, by decide, q1420, tyX12_ok 26 (by decide), Or.inr ⟨_, rfl⟩, rfl, fun _ => Or.inr trivial⟩ <|
  fa_cons (p := fun e : Nat × EF => fldOk RX12 e.1 e.2) ⟨RX12, TX12, 53, tyX12, tyX12 27, rfl, inZX12, tyX12_ok, nmX12, by decide, q1421, tyX12_ok 27 (by decide), Or.inr ⟨_, rfl⟩, rfl, fun _ => Or.inr trivial⟩ <|
  fa_cons (p := fun e : Nat × EF => fldOk RX12 e.1 e.2) ⟨RX12, TX12, 53, tyX12, tyX12 28, rfl, inZX12, tyX12_ok, nmX12, by decide, q1422, tyX12_ok 28 (by decide), Or.inr ⟨_, rfl⟩, rfl, fun _ => Or.inr trivial⟩ <|
  fa_cons (p := fun e : Nat × EF => fldOk RX12 e.1 e.2) ⟨RX12, TX12, 53, tyX12, tyX12 29, rfl, inZX12, tyX12_ok, nmX12, by decide, q1423, tyX12_ok 29 (by decide), Or.inr ⟨_, rfl⟩, rfl, fun _ => Or.inr trivial⟩ <|
  fa_cons (p := fun e : Nat × EF => fldOk RX12 e.1 e.2) ⟨RX12, TX12, 53, tyX12, tyX12 32, rfl, inZX12, tyX12_ok, nmX12, by decide, q1426, tyX12_ok 32 (by decide), Or.inr ⟨_, rfl⟩, rfl, fun _ => Or.inr trivial⟩ <|
  fa_cons (p := fun e : Nat × EF => fldOk RX12 e.1 e.2) ⟨RX12, TX12, 53, tyX12, tyX12 33, rfl, inZX12, tyX12_ok, nmX12, by decide, q1427, tyX12_ok 33 (by decide), Or.inr ⟨_, rfl⟩, rfl, fun _ => Or.inr trivial⟩ <|
  fa_cons (p := fun e : Nat × EF => fldOk RX12 e.1 e.2) ⟨RX12, TX12, 53, tyX12, tyX12 34, rfl, inZX12, tyX12_ok, nmX12, by decide, q1428, tyX12_ok 34 (by decide), Or.inr ⟨_, rfl⟩, rfl, fun _ => Or.inr trivial⟩ <|
  fa_cons (p := fun e : Nat × EF => fldOk RX12 e.1 e.2) ⟨RX12, TX12, 53, tyX12, tyX12 37, rfl, inZX12, tyX12_ok, nmX12, by decide, q1431, tyX12_ok 37 (by decide), rfl, rfl, fun _ => Or.inr trivial⟩ <|
  fa_cons (p := fun e : Nat × EF => fldOk RX12 e.1 e.2) ⟨RX12, TX12, 53, tyX12, tyX12 39, rfl, inZX12, tyX12_ok, nmX12, by decide, q1433, tyX12_ok 39 (by decide), Or.inr ⟨_, rfl⟩, rfl, fun _ => Or.inr trivial⟩ <|
  fa_cons (p := fun e : Nat × EF => fldOk RX12 e.1 e.2) ⟨RX12, TX12, 53, tyX12, tyX12 41, rfl, inZX12, tyX12_ok, nmX12, by decide, q1435, tyX12_ok 41 (by decide), Or.inr ⟨_, rfl⟩, rfl, fun _ => Or.inr trivial⟩ <|
  fa_cons (p := fun e : Nat × EF => fldOk RX12 e.1 e.2) ⟨RX12, TX12, 53, tyX12, tyX12 43, rfl, inZX12, tyX12_ok, nmX12, by decide, q1437, tyX12_ok 43 (by decide), Or.inr ⟨_, rfl⟩, rfl, fun _ => Or.inr trivial⟩ <|
  fa_cons (p := fun e : Nat × EF => fldOk RX12 e.1 e.2) ⟨RX12, TX12, 53, tyX12, tyX12 44, rfl, inZX12, tyX12_ok, nmX12, by decide, q1438, tyX12_ok 44 (by decide), Or.inr ⟨_, rfl⟩, rfl, fun _ => Or.inr trivial⟩ <|
  fa_cons (p := fun e : Nat × EF => fldOk RX12 e.1 e.2) ⟨RX12, TX12, 53, tyX12, tyX12 45, rfl, inZX12, tyX12_ok, nmX12, by decide, q1439, tyX12_ok 45 (by decide), Or.inr ⟨_, rfl⟩, rfl, fun _ => Or.inr trivial⟩ <|
  fa_cons (p := fun e : Nat × EF => fldOk RX12 e.1 e.2) ⟨RX12, TX12, 53, tyX12, tyX12 46, rfl, inZX12, tyX12_ok, nmX12, by decide, q1440, tyX12_ok 46 (by decide), Or.inr ⟨_, rfl⟩, rfl, fun _ => Or.inr trivial⟩ <|
  fa_cons (p := fun e : Nat × EF => fldOk RX12 e.1 e.2) ⟨RX12, TX12, 53, tyX12, tyX12 47, rfl, inZX12, tyX12_ok, nmX12, by decide, q1441, tyX12_ok 47 (by decide), Or.inr ⟨_, rfl⟩, rfl, fun _ => Or.inr trivial⟩ <|
  fa_cons (p := fun e : Nat × EF => fldOk RX12 e.1 e.2) ⟨RX12, TX12, 53, tyX12, tyX12 48, rfl, inZX12, tyX12_ok, nmX12, by decide, q1442, tyX12_ok 48 (by decide), Or.inr ⟨_, rfl⟩, rfl, fun _ => Or.inr trivial⟩ <|
  fa_cons (p := fun e : Nat × EF => fldOk RX12 e.1 e.2) ⟨RX12, TX12, 53, tyX12, tyX12 49, rfl, inZX12, tyX12_ok, nmX12, by decide, q1443, tyX12_ok 49 (by decide), Or.inr ⟨_, rfl⟩, rfl, fun _ => Or.inr trivial⟩ <|
  fa_cons (p := fun e : Nat × EF => fldOk RX12 e.1 e.2) ⟨RX12, TX12, 53, tyX12, tyX12 50, rfl, inZX12, tyX12_ok, nmX12, by decide, q1444, tyX12_ok 50 (by decide), Or.inr ⟨_, rfl⟩, rfl, fun _ => Or.inr trivial⟩ <|
  fa_cons (p := fun e : Nat × EF => fldOk RX12 e.1 e.2) ⟨RX12, TX12, 53, tyX12, tyX12 51, rfl, inZX12, tyX12_ok, nmX12, by decide, q1445, tyX12_ok 51 (by decide), Or.inr ⟨_, rfl⟩, rfl, fun _ => Or.inr trivial⟩ <|
  fa_cons (p := fun e : Nat × EF => fldOk RX12 e.1 e.2) ⟨RX12, TX12, 53, tyX12, tyX12 52, rfl, inZX12, tyX12_ok, nmX12, by decide, q1446, tyX12_ok 52 (by decide), Or.inr ⟨_, rfl⟩, rfl, fun _ => Or.inr trivial⟩ <|
  fa_cons (p := fun e : Nat × EF => fldOk RX12 e.1 e.2) ⟨RX12, TX12, 53, tyX12, tyX12 4, rfl, inZX12, tyX12_ok, nmX12, by decide, q1398, tyX12_ok 4 (by decide), rfl, rfl, fun _ => Or.inr trivial⟩ <|
  fa_cons (p := fun e : Nat × EF => fldOk RX12 e.1 e.2) ⟨RX12, TX12, 53, tyX12, tyX12 7, rfl, inZX12, tyX12_ok, nmX12, by decide, q1401, tyX12_ok 7 (by decide), rfl, rfl, fun _ => Or.inr trivial⟩ <|
  fa_cons (p := fun e : Nat × EF => fldOk RX12 e.1 e.2) ⟨RX12, TX12, 53, tyX12, tyX12 8, rfl, inZX12, tyX12_ok, nmX12, by decide, q1402, tyX12_ok 8 (by decide), rfl, rfl, fun _ => Or.inr trivial⟩ <|
  fa_cons (p := fun e : Nat × EF => fldOk RX12 e.1 e.2) ⟨RX12, TX12, 53, tyX12, tyX12 9, rfl, inZX12, tyX12_ok, nmX12, by decide, q1403, tyX12_ok 9 (by decide), rfl, rfl, fun _ => Or.inr trivial⟩ <|
  fa_cons (p := fun e : Nat × EF => fldOk RX12 e.1 e.2) ⟨RX12, TX12, 53, tyX12, tyX12 10, rfl, inZX12, tyX12_ok, nmX12, by decide, q1404, tyX12_ok 10 (by decide), rfl, rfl, fun _ => Or.inr trivial⟩ <|
  fa_cons (p := fun e : Nat × EF => fldOk RX12 e.1 e.2) ⟨RX12, TX12, 53, tyX12, tyX12 11, rfl, inZX12, tyX12_ok, nmX12, by decide, q1405, tyX12_ok 11 (by decide), rfl, rfl, fun _ => Or.inr trivial⟩ <|
  fa_cons (p := fun e : Nat × EF => fldOk RX12 e.1 e.2) ⟨RX12, TX12, 53, tyX12, tyX12 12, rfl, inZX12, tyX12_ok, nmX12, by decide, q1406, tyX12_ok 12 (by decide), rfl, rfl, fun _ => Or.inr trivial⟩ <|
  fa_cons (p := fun e : Nat × EF => fldOk RX12 e.1 e.2) ⟨RX12, TX12, 53, tyX12, tyX12 13, rfl, inZX12, tyX12_ok, nmX12, by decide, q1407, tyX12_ok 13 (by decide), rfl, rfl, fun _ => Or.inr trivial⟩ <|
  fa_cons (p := fun e : Nat × EF => fldOk RX12 e.1 e.2) ⟨RX12, TX12, 53, tyX12, tyX12 14, rfl, inZX12, tyX12_ok, nmX12, by decide, q1408, tyX12_ok 14 (by decide), rfl, rfl, fun _ => Or.inr trivial⟩ <|
  fa_cons (p := fun e : Nat × EF => fldOk RX12 e.1 e.2) ⟨RX12, TX12, 53, tyX12, tyX12 19, rfl, inZX12, tyX12_ok, nmX12, by decide, q1413, tyX12_ok 19 (by decide), rfl, rfl, fun _ => Or.inr trivial⟩ <|
  fa_cons (p := fun e : Nat × EF => fldOk RX12 e.1 e.2) ⟨RX12, TX12, 53, tyX12, tyX12 17, rfl, inZX12, tyX12_ok, nmX12, by decide, q1411, tyX12_ok 17 (by decide), rfl, rfl, fun _ => Or.inr trivial⟩ <|
  fa_cons (p := fun e : Nat × EF => fldOk RX12 e.1 e.2) ⟨RX12, TX12, 53, tyX12, tyX12 18, rfl, inZX12, tyX12_ok, nmX12, by decide, q1412, tyX12_ok 18 (by decide), rfl, rfl, fun _ => Or.inr trivial⟩ <|
  fa_cons (p := fun e : Nat × EF => fldOk RX12 e.1 e.2) ⟨RX12, TX12, 53, tyX12, tyX12 20, rfl, inZX12, tyX12_ok, nmX12, by decide, q1414, tyX12_ok 20 (by decide), rfl, rfl, fun _ => Or.inr trivial⟩ <|
  fa_cons (p := fun e : Nat × EF => fldOk RX12 e.1 e.2) ⟨RX12, TX12, 53, tyX12, tyX12 21, rfl, inZX12, tyX12_ok, nmX12, by decide, q1415, tyX12_ok 21 (by decide), rfl, rfl, fun _ => Or.inr trivial⟩ <|
  fa_cons (p := fun e : Nat × EF => fldOk RX12 e.1 e.2) ⟨RX12, TX12, 53, tyX12, tyX12 30, rfl, inZX12, tyX12_ok, nmX12, by decide, q1424, tyX12_ok 30 (by decide), rfl, rfl, fun _ => Or.inr trivial⟩ <|
  fa_cons (p := fun e : Nat × EF => fldOk RX12 e.1 e.2) ⟨RX12, TX12, 53, tyX12, tyX12 23, rfl, inZX12, tyX12_ok, nmX12, by decide, q1417, tyX12_ok 23 (by decide), rfl, rfl, fun _ => Or.inr trivial⟩ <|
  fa_cons (p := fun e : Nat × EF => fldOk RX12 e.1 e.2) ⟨RX12, TX12, 53, tyX12, tyX12 31, rfl, inZX12, tyX12_ok, nmX12, by decide, q1425, tyX12_ok 31 (by decide), rfl, rfl, fun _ => Or.inr trivial⟩ <|
  fa_cons (p := fun e : Nat × EF => fldOk RX12 e.1 e.2) ⟨RX12, TX12, 53, tyX12, tyX12 35, rfl, inZX12, tyX12_ok, nmX12, by decide, q1429, tyX12_ok 35 (by decide), rfl, rfl, fun _ => Or.inr trivial⟩ <|
  fa_cons (p := fun e : Nat × EF => fldOk RX12 e.1 e.2) ⟨RX12, TX12, 53, tyX12, tyX12 36, rfl, inZX12, tyX12_ok, nmX12, by decide, q1430, tyX12_ok 36 (by decide), rfl, rfl, fun _ => Or.inr trivial⟩ <|
  fa_cons (p := fun e : Nat × EF => fldOk RX12 e.1 e.2) ⟨RX12, TX12, 53, tyX12, tyX12 38, rfl, inZX12, tyX12_ok, nmX12, by decide, q1432, tyX12_ok 38 (by decide), rfl, rfl, fun _ => Or.inr trivial⟩ <|
  fa_cons (p := fun e : Nat × EF => fldOk RX12 e.1 e.2) ⟨RX12, TX12, 53, tyX12, tyX12 40, rfl, inZX12, tyX12_ok, nmX12, by decide, q1434, tyX12_ok 40 (by decide), rfl, rfl, fun _ => Or.inr trivial⟩ <|
  fa_nil
