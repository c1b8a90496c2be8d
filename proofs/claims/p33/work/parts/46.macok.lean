section MK
variable {E : zCx} {X : EC} {D : DT} {l0 : Launch} {D0 : va_G} {cy0 : Nat → ClassId} {ax0 : zAx}
theorem mac_X6_addSign_ok {nL : Nat} {R0 : Room} (hE : zOk E (l0, D0, cy0, ax0) RX6 cX6_addSign nL R0) (h1 : X.1 = cy0) : ∀ pc m, mac_X6_addSign pc = some m → macOk E X D pc m := sorry
theorem mac_X6_wordOf_ok {nL : Nat} {R0 : Room} (hE : zOk E (l0, D0, cy0, ax0) RX6 cX6_wordOf nL R0) (h1 : X.1 = cy0) : ∀ pc m, mac_X6_wordOf pc = some m → macOk E X D pc m := sorry
theorem mac_X3_readParts_ok {nL : Nat} {R0 : Room} (hE : zOk E (l0, D0, cy0, ax0) RX3 cX3_readParts nL R0) (h1 : X.1 = cy0) : ∀ pc m, mac_X3_readParts pc = some m → macOk E X D pc m := sorry
theorem mac_X9_run_ok {nL : Nat} {R0 : Room} (hE : zOk E (l0, D0, cy0, ax0) RX9 cX9_run nL R0) (h1 : X.1 = cy0) : ∀ pc m, mac_X9_run pc = some m → macOk E X D pc m := sorry
theorem mac_X3_readTape_ok {nL : Nat} (hE : zOk E (l0, D0, cy0, ax0) RX3 cX3_readTape nL (zrm (dC D).2.2.2.1 (dC D).2.2.2.2.1 (dC D).2.2.2.2.2.1)) (h1 : X.1 = cy0) : ∀ pc m, mac_X3_readTape pc = some m → macOk E X D pc m := sorry
end MK
