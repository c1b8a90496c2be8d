/-! Stretches by hand within checked methods. -/
def mRow (loc : Nat) (c lo hi a b : Int) (pc2 : Nat) : MAC := fun lv st G => match gL lv loc with
  | some v => if v.1 == 0 && ge0 G.1 G.2.1 (xk (xk v.2.2 c) (-a)) && ge0 G.1 G.2.1 (xk (xsc (-1) (xk v.2.2 c)) b) then (match frV lv st G lo hi with
    | some q => some (0, 0, [(pc2, lv, (0, 0, q.2) :: st, q.1)])
    | none => none) else none
  | none => none
def mSign : MAC := fun lv st G => match gL lv 0 with
  | some (2, r, _) => if G.2.2.2.1[r]? == some 120 && Nat.ble (slN st) 4 then mRow 1 0 (-1) 10 0 299 12 lv st G else none
  | _ => none
def mLen : MAC := fun lv st G => if Nat.ble (slN st) 4 then some (0, 0, [(18, lv, (0, 0, xc 166) :: st, G)]) else none
def mChr : MAC := fun lv st G => if Nat.ble (slN st) 4 then mRow 6 0 0 65535 0 165 28 lv st G else none
def mRun : MAC := fun lv st G => match gL lv 1, gL lv 6 with
  | some (2, r, _), some (0, _, e) => if G.2.2.2.1[r]? == some 20 && ge0 G.1 G.2.1 e && ge0 G.1 G.2.1 (xk (xsc (-1) e) 299) && scA lv st G && scA lv st (frG G (-2147483648) 61) && scA lv st (frG G 63 2147483647) then some (0, 0, [(37, pL (pL lv 7 (0, 0, xc 62)) 8 (0, 0, xi G.1.length), st, frG G 0 299), (37, pL (pL lv 7 (0, 0, xi G.1.length)) 8 (0, 0, xi (G.1.length + 1)), st, frG (frG G (-2147483648) 61) (-2147483648) 2147483647), (37, pL (pL lv 7 (0, 0, xi G.1.length)) 8 (0, 0, xi (G.1.length + 1)), st, frG (frG G 63 2147483647) (-2147483648) 2147483647)]) else none
  | _, _ => none
def nofs (G : EG) : Bool := nof G 20 && nof G 21 && nof G 22 && nof G 23 && nof G 24 && nof G 25 && nof G 26 && nof G 27 && nof G 28 && nof G 29 && nof G 30
def mText : MAC := fun lv st G => if nofs G && scA lv st G && Nat.ble (slN st) 4 then some (11, 1329, [(18, lv, (2, G.2.2.2.1.length, xc 0) :: st, frR G 20)]) else none
def mac_X6_addSign (pc : Nat) : Option MAC := if Nat.beq pc 0 then some mSign else none
def mac_X6_wordOf (pc : Nat) : Option MAC := if Nat.beq pc 13 then some mLen else if Nat.beq pc 21 then some mChr else none
def mac_X3_readParts (pc : Nat) : Option MAC := if Nat.beq pc 27 then some (mRow 4 0 (-1) 999 0 80 33) else if Nat.beq pc 45 then some (mRow 4 0 (-1) 999 0 80 51) else if Nat.beq pc 80 then some (mRow 4 1 (-1) 999 0 80 88) else if Nat.beq pc 88 then some (mRow 4 2 (-1) 999 0 80 96) else none
def mac_X9_run (pc : Nat) : Option MAC := if Nat.beq pc 19 then some mRun else none
def mac_X3_readTape (pc : Nat) : Option MAC := if Nat.beq pc 11 then some mText else none
