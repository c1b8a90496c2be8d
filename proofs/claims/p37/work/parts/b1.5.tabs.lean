/-! The tables, and what they say. -/
theorem noX0 : g_triv RX0 = false := by decide +kernel
theorem lk_X0 : g_lk RX0 fX0 kX0 kkX0 lX0 = true := by decide +kernel
theorem tab_X0 : g_tab RX0 (flT fX0) (lkp kX0) (lkp kkX0) := g_tab_ok lk_X0 fX0_ok (fun h => absurd h (by decide +kernel))
theorem noX1 : g_triv RX1 = false := by decide +kernel
theorem lk_X1 : g_lk RX1 fX1 kX1 kkX1 lX1 = true := by decide +kernel
theorem tab_X1 : g_tab RX1 (flT fX1) (lkp kX1) (lkp kkX1) := g_tab_ok lk_X1 fX1_ok (fun h => absurd h (by decide +kernel))
theorem noX2 : g_triv RX2 = false := by decide +kernel
theorem lk_X2 : g_lk RX2 fX2 kX2 kkX2 lX2 = true := by decide +kernel
theorem tab_X2 : g_tab RX2 (flT fX2) (lkp kX2) (lkp kkX2) := g_tab_ok lk_X2 fX2_ok (fun h => absurd h (by decide +kernel))
theorem noX3 : g_triv RX3 = false := by decide +kernel
theorem lk_X3 : g_lk RX3 fX3 kX3 kkX3 lX3 = true := by decide +kernel
theorem tab_X3 : g_tab RX3 (flT fX3) (lkp kX3) (lkp kkX3) := g_tab_ok lk_X3 fX3_ok (fun h => absurd h (by decide +kernel))
theorem noX4 : g_triv RX4 = false := by decide +kernel
theorem lk_X4 : g_lk RX4 fX4 kX4 kkX4 lX4 = true := by decide +kernel
theorem tab_X4 : g_tab RX4 (flT fX4) (lkp kX4) (lkp kkX4) := g_tab_ok lk_X4 fX4_ok (fun h => absurd h (by decide +kernel))
theorem noX5 : g_triv RX5 = false := by decide +kernel
theorem lk_X5 : g_lk RX5 fX5 kX5 kkX5 lX5 = true := by decide +kernel
theorem tab_X5 : g_tab RX5 (flT fX5) (lkp kX5) (lkp kkX5) := g_tab_ok lk_X5 fX5_ok (fun h => absurd h (by decide +kernel))
theorem noX6 : g_triv RX6 = false := by decide +kernel
theorem lk_X6 : g_lk RX6 fX6 kX6 kkX6 lX6 = true := by decide +kernel
theorem tab_X6 : g_tab RX6 (flT fX6) (lkp kX6) (lkp kkX6) := g_tab_ok lk_X6 fX6_ok (fun _ => ⟨rfl, rfl⟩)
theorem noX7 : g_triv RX7 = false := by decide +kernel
theorem lk_X7 : g_lk RX7 fX7 kX7 kkX7 lX7 = true := by decide +kernel
theorem tab_X7 : g_tab RX7 (flT fX7) (lkp kX7) (lkp kkX7) := g_tab_ok lk_X7 fX7_ok (fun h => absurd h (by decide +kernel))
theorem noX8 : g_triv RX8 = false := by decide +kernel
theorem lk_X8 : g_lk RX8 fX8 kX8 kkX8 lX8 = true := by decide +kernel
theorem tab_X8 : g_tab RX8 (flT fX8) (lkp kX8) (lkp kkX8) := g_tab_ok lk_X8 fX8_ok (fun h => absurd h (by decide +kernel))
theorem noX9 : g_triv RX9 = false := by decide +kernel
theorem lk_X9 : g_lk RX9 fX9 kX9 kkX9 lX9 = true := by decide +kernel
theorem tab_X9 : g_tab RX9 (flT fX9) (lkp kX9) (lkp kkX9) := g_tab_ok lk_X9 fX9_ok (fun h => absurd h (by decide +kernel))
theorem noX10 : g_triv RX10 = false := by decide +kernel
theorem lk_X10 : g_lk RX10 fX10 kX10 kkX10 lX10 = true := by decide +kernel
theorem tab_X10 : g_tab RX10 (flT fX10) (lkp kX10) (lkp kkX10) := g_tab_ok lk_X10 fX10_ok (fun h => absurd h (by decide +kernel))
theorem noX11 : g_triv RX11 = false := by decide +kernel
theorem lk_X11 : g_lk RX11 fX11 kX11 kkX11 lX11 = true := by decide +kernel
theorem tab_X11 : g_tab RX11 (flT fX11) (lkp kX11) (lkp kkX11) := g_tab_ok lk_X11 fX11_ok (fun h => absurd h (by decide +kernel))
theorem noX12 : g_triv RX12 = false := by decide +kernel
theorem lk_X12 : g_lk RX12 fX12 kX12 kkX12 lX12 = true := by decide +kernel
theorem tab_X12 : g_tab RX12 (flT fX12) (lkp kX12) (lkp kkX12) := g_tab_ok lk_X12 fX12_ok (fun h => absurd h (by decide +kernel))
theorem nat_all : g_nat 280 = true := by decide +kernel
theorem gnrV (i : Nat) : Instr.invokevirtual i ≠ .return_ ∧ Instr.invokevirtual i ≠ .ireturn ∧ Instr.invokevirtual i ≠ .lreturn ∧ Instr.invokevirtual i ≠ .areturn := ⟨fun h => (by cases h), fun h => (by cases h), fun h => (by cases h), fun h => (by cases h)⟩
theorem gnrS (i : Nat) : Instr.invokestatic i ≠ .return_ ∧ Instr.invokestatic i ≠ .ireturn ∧ Instr.invokestatic i ≠ .lreturn ∧ Instr.invokestatic i ≠ .areturn := ⟨fun h => (by cases h), fun h => (by cases h), fun h => (by cases h), fun h => (by cases h)⟩
theorem mq_X11_isWithin : (mt 46).1 = yX11_isWithin ∧ (mt 46).2.1 = cX11_isWithin := by decide +kernel
theorem mq_X12_beginOne : (mt 77).1 = yX12_beginOne ∧ (mt 77).2.1 = cX12_beginOne := by decide +kernel
theorem mq_X12_behindOne : (mt 78).1 = yX12_behindOne ∧ (mt 78).2.1 = cX12_behindOne := by decide +kernel
theorem mq_X12_betweenOf : (mt 79).1 = yX12_betweenOf ∧ (mt 79).2.1 = cX12_betweenOf := by decide +kernel
theorem mq_X12_body : (mt 81).1 = yX12_body ∧ (mt 81).2.1 = cX12_body := by decide +kernel
theorem mq_X12_byteAt : (mt 84).1 = yX12_byteAt ∧ (mt 84).2.1 = cX12_byteAt := by decide +kernel
theorem mq_X12_clause : (mt 89).1 = yX12_clause ∧ (mt 89).2.1 = cX12_clause := by decide +kernel
theorem mq_X12_compareOf : (mt 92).1 = yX12_compareOf ∧ (mt 92).2.1 = cX12_compareOf := by decide +kernel
theorem mq_X12_emit : (mt 96).1 = yX12_emit ∧ (mt 96).2.1 = cX12_emit := by decide +kernel
theorem mq_X12_fieldClause : (mt 104).1 = yX12_fieldClause ∧ (mt 104).2.1 = cX12_fieldClause := by decide +kernel
theorem mq_X12_figure : (mt 106).1 = yX12_figure ∧ (mt 106).2.1 = cX12_figure := by decide +kernel
theorem mq_X12_four : (mt 113).1 = yX12_four ∧ (mt 113).2.1 = cX12_four := by decide +kernel
theorem mq_X12_has : (mt 118).1 = yX12_has ∧ (mt 118).2.1 = cX12_has := by decide +kernel
theorem mq_X12_isAskAhead : (mt 121).1 = yX12_isAskAhead ∧ (mt 121).2.1 = cX12_isAskAhead := by decide +kernel
theorem mq_X12_isCompared : (mt 123).1 = yX12_isCompared ∧ (mt 123).2.1 = cX12_isCompared := by decide +kernel
theorem mq_X12_isFigure : (mt 125).1 = yX12_isFigure ∧ (mt 125).2.1 = cX12_isFigure := by decide +kernel
theorem mq_X12_isIn : (mt 126).1 = yX12_isIn ∧ (mt 126).2.1 = cX12_isIn := by decide +kernel
theorem mq_X12_isLetterByte : (mt 127).1 = yX12_isLetterByte ∧ (mt 127).2.1 = cX12_isLetterByte := by decide +kernel
theorem mq_X12_isOf : (mt 128).1 = yX12_isOf ∧ (mt 128).2.1 = cX12_isOf := by decide +kernel
theorem mq_X12_isSign : (mt 131).1 = yX12_isSign ∧ (mt 131).2.1 = cX12_isSign := by decide +kernel
theorem mq_X12_isWord : (mt 132).1 = yX12_isWord ∧ (mt 132).2.1 = cX12_isWord := by decide +kernel
theorem mq_X12_lawClause : (mt 134).1 = yX12_lawClause ∧ (mt 134).2.1 = cX12_lawClause := by decide +kernel
theorem mq_X12_nameOf : (mt 140).1 = yX12_nameOf ∧ (mt 140).2.1 = cX12_nameOf := by decide +kernel
theorem mq_X12_nextToken : (mt 146).1 = yX12_nextToken ∧ (mt 146).2.1 = cX12_nextToken := by decide +kernel
theorem mq_X12_oneClause : (mt 150).1 = yX12_oneClause ∧ (mt 150).2.1 = cX12_oneClause := by decide +kernel
theorem mq_X12_openNow : (mt 151).1 = yX12_openNow ∧ (mt 151).2.1 = cX12_openNow := by decide +kernel
theorem mq_X12_opened : (mt 152).1 = yX12_opened ∧ (mt 152).2.1 = cX12_opened := by decide +kernel
theorem mq_X12_pair : (mt 153).1 = yX12_pair ∧ (mt 153).2.1 = cX12_pair := by decide +kernel
theorem mq_X12_rank : (mt 166).1 = yX12_rank ∧ (mt 166).2.1 = cX12_rank := by decide +kernel
theorem mq_X12_readText : (mt 167).1 = yX12_readText ∧ (mt 167).2.1 = cX12_readText := by decide +kernel
theorem mq_X12_settle : (mt 171).1 = yX12_settle ∧ (mt 171).2.1 = cX12_settle := by decide +kernel
theorem mq_X12_shut : (mt 175).1 = yX12_shut ∧ (mt 175).2.1 = cX12_shut := by decide +kernel
theorem mq_X12_sortOf : (mt 176).1 = yX12_sortOf ∧ (mt 176).2.1 = cX12_sortOf := by decide +kernel
theorem mq_X12_stealClause : (mt 178).1 = yX12_stealClause ∧ (mt 178).2.1 = cX12_stealClause := by decide +kernel
theorem mq_X12_summed : (mt 180).1 = yX12_summed ∧ (mt 180).2.1 = cX12_summed := by decide +kernel
theorem mq_X12_w2 : (mt 190).1 = yX12_w2 ∧ (mt 190).2.1 = cX12_w2 := by decide +kernel
theorem mq_X12_w3 : (mt 191).1 = yX12_w3 ∧ (mt 191).2.1 = cX12_w3 := by decide +kernel
theorem mq_X12_w4 : (mt 192).1 = yX12_w4 ∧ (mt 192).2.1 = cX12_w4 := by decide +kernel
theorem mq_X12_w5 : (mt 193).1 = yX12_w5 ∧ (mt 193).2.1 = cX12_w5 := by decide +kernel
theorem mq_X12_w6 : (mt 194).1 = yX12_w6 ∧ (mt 194).2.1 = cX12_w6 := by decide +kernel
theorem mq_X12_worded : (mt 199).1 = yX12_worded ∧ (mt 199).2.1 = cX12_worded := by decide +kernel
theorem mq_X3_advance : (mt 223).1 = yX3_advance ∧ (mt 223).2.1 = cX3_advance := by decide +kernel
theorem mq_X3_expect : (mt 224).1 = yX3_expect ∧ (mt 224).2.1 = cX3_expect := by decide +kernel
theorem mq_X3_expectNumber : (mt 225).1 = yX3_expectNumber ∧ (mt 225).2.1 = cX3_expectNumber := by decide +kernel
theorem mq_X3_fail : (mt 226).1 = yX3_fail ∧ (mt 226).2.1 = cX3_fail := by decide +kernel
theorem mq_X3_isName : (mt 227).1 = yX3_isName ∧ (mt 227).2.1 = cX3_isName := by decide +kernel
theorem mq_X3_isOwnName : (mt 228).1 = yX3_isOwnName ∧ (mt 228).2.1 = cX3_isOwnName := by decide +kernel
theorem mq_X3_opens : (mt 229).1 = yX3_opens ∧ (mt 229).2.1 = cX3_opens := by decide +kernel
theorem mq_X3_readAsk : (mt 230).1 = yX3_readAsk ∧ (mt 230).2.1 = cX3_readAsk := by decide +kernel
theorem mq_X3_readBoth : (mt 231).1 = yX3_readBoth ∧ (mt 231).2.1 = cX3_readBoth := by decide +kernel
theorem mq_X3_readClause : (mt 232).1 = yX3_readClause ∧ (mt 232).2.1 = cX3_readClause := by decide +kernel
theorem mq_X3_readEither : (mt 233).1 = yX3_readEither ∧ (mt 233).2.1 = cX3_readEither := by decide +kernel
theorem mq_X3_readGroup : (mt 234).1 = yX3_readGroup ∧ (mt 234).2.1 = cX3_readGroup := by decide +kernel
theorem mq_X3_readLaw : (mt 235).1 = yX3_readLaw ∧ (mt 235).2.1 = cX3_readLaw := by decide +kernel
theorem mq_X3_readName : (mt 236).1 = yX3_readName ∧ (mt 236).2.1 = cX3_readName := by decide +kernel
theorem mq_X3_readOne : (mt 237).1 = yX3_readOne ∧ (mt 237).2.1 = cX3_readOne := by decide +kernel
theorem mq_X3_readParts : (mt 238).1 = yX3_readParts ∧ (mt 238).2.1 = cX3_readParts := by decide +kernel
theorem mq_X3_readProduct : (mt 239).1 = yX3_readProduct ∧ (mt 239).2.1 = cX3_readProduct := by decide +kernel
theorem mq_X3_readSum : (mt 240).1 = yX3_readSum ∧ (mt 240).2.1 = cX3_readSum := by decide +kernel
theorem mq_X3_readTape : (mt 241).1 = yX3_readTape ∧ (mt 241).2.1 = cX3_readTape := by decide +kernel
theorem mq_X4_addText : (mt 242).1 = yX4_addText ∧ (mt 242).2.1 = cX4_addText := by decide +kernel
theorem mq_X4_hasText : (mt 247).1 = yX4_hasText ∧ (mt 247).2.1 = cX4_hasText := by decide +kernel
theorem mq_X6_addNumber : (mt 254).1 = yX6_addNumber ∧ (mt 254).2.1 = cX6_addNumber := by decide +kernel
theorem mq_X6_addSign : (mt 255).1 = yX6_addSign ∧ (mt 255).2.1 = cX6_addSign := by decide +kernel
theorem mq_X6_addToken : (mt 256).1 = yX6_addToken ∧ (mt 256).2.1 = cX6_addToken := by decide +kernel
theorem mq_X6_addWord : (mt 257).1 = yX6_addWord ∧ (mt 257).2.1 = cX6_addWord := by decide +kernel
theorem mq_X6_append : (mt 258).1 = yX6_append ∧ (mt 258).2.1 = cX6_append := by decide +kernel
theorem mq_X6_findTokens : (mt 259).1 = yX6_findTokens ∧ (mt 259).2.1 = cX6_findTokens := by decide +kernel
theorem mq_X6_isDigit : (mt 260).1 = yX6_isDigit ∧ (mt 260).2.1 = cX6_isDigit := by decide +kernel
theorem mq_X6_isLetter : (mt 261).1 = yX6_isLetter ∧ (mt 261).2.1 = cX6_isLetter := by decide +kernel
theorem mq_X6_wordOf : (mt 262).1 = yX6_wordOf ∧ (mt 262).2.1 = cX6_wordOf := by decide +kernel
theorem mq_X7_hasLaw : (mt 263).1 = yX7_hasLaw ∧ (mt 263).2.1 = cX7_hasLaw := by decide +kernel
theorem mq_X7_write : (mt 264).1 = yX7_write ∧ (mt 264).2.1 = cX7_write := by decide +kernel
