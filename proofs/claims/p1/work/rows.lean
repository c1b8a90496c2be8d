section
-- ===== PART A: goes FIRST, ahead of the names: the tables' words, and 'selects' of the private methods out of them =====
/-- a private method of a class that the tables say can be made, by its rows of tables_1 -/
def lw_okq (q : MethodName × Nat) : Prop := (q.1.cls ≠ "java/lang/invoke/MethodHandle" ∧ q.1.cls ≠ "java/lang/invoke/VarHandle") ∧ Cond.instantiable q.1.cls q.2 ∈ tables_1 ∧ Cond.privateMethod q.1 ∈ tables_1 ∧ Cond.instanceMethod q.1 ∈ tables_1
theorem lw_p0 : lw_okq (⟨"OwnRain$Tape", "addWord", "(I)I"⟩, 6) := ⟨⟨by decide +kernel, by decide +kernel⟩, List.mem_of_getElem? (i := 284) (by decide +kernel), List.mem_of_getElem? (i := 600) (by decide +kernel), List.mem_of_getElem? (i := 601) (by decide +kernel)⟩
theorem lw_p1 : lw_okq (⟨"OwnRain$Tape", "wordOf", "(II)I"⟩, 6) := ⟨⟨by decide +kernel, by decide +kernel⟩, List.mem_of_getElem? (i := 284) (by decide +kernel), List.mem_of_getElem? (i := 604) (by decide +kernel), List.mem_of_getElem? (i := 605) (by decide +kernel)⟩
theorem lw_p2 : lw_okq (⟨"OwnRain$Tape", "addToken", "(II)V"⟩, 6) := ⟨⟨by decide +kernel, by decide +kernel⟩, List.mem_of_getElem? (i := 284) (by decide +kernel), List.mem_of_getElem? (i := 657) (by decide +kernel), List.mem_of_getElem? (i := 658) (by decide +kernel)⟩
theorem lw_p3 : lw_okq (⟨"OwnRain$Tape", "addNumber", "(I)I"⟩, 6) := ⟨⟨by decide +kernel, by decide +kernel⟩, List.mem_of_getElem? (i := 284) (by decide +kernel), List.mem_of_getElem? (i := 664) (by decide +kernel), List.mem_of_getElem? (i := 665) (by decide +kernel)⟩
theorem lw_p4 : lw_okq (⟨"OwnRain$Tape", "addSign", "(I)I"⟩, 6) := ⟨⟨by decide +kernel, by decide +kernel⟩, List.mem_of_getElem? (i := 284) (by decide +kernel), List.mem_of_getElem? (i := 671) (by decide +kernel), List.mem_of_getElem? (i := 672) (by decide +kernel)⟩
theorem lw_p5 : lw_okq (⟨"OwnRain$Reader", "readClause", "(I)V"⟩, 7) := ⟨⟨by decide +kernel, by decide +kernel⟩, List.mem_of_getElem? (i := 315) (by decide +kernel), List.mem_of_getElem? (i := 733) (by decide +kernel), List.mem_of_getElem? (i := 734) (by decide +kernel)⟩
theorem lw_p6 : lw_okq (⟨"OwnRain$Reader", "fail", "(I)V"⟩, 7) := ⟨⟨by decide +kernel, by decide +kernel⟩, List.mem_of_getElem? (i := 315) (by decide +kernel), List.mem_of_getElem? (i := 737) (by decide +kernel), List.mem_of_getElem? (i := 738) (by decide +kernel)⟩
theorem lw_p7 : lw_okq (⟨"OwnRain$Reader", "advance", "()V"⟩, 7) := ⟨⟨by decide +kernel, by decide +kernel⟩, List.mem_of_getElem? (i := 315) (by decide +kernel), List.mem_of_getElem? (i := 745) (by decide +kernel), List.mem_of_getElem? (i := 746) (by decide +kernel)⟩
theorem lw_p8 : lw_okq (⟨"OwnRain$Reader", "readLaw", "(I)V"⟩, 7) := ⟨⟨by decide +kernel, by decide +kernel⟩, List.mem_of_getElem? (i := 315) (by decide +kernel), List.mem_of_getElem? (i := 749) (by decide +kernel), List.mem_of_getElem? (i := 750) (by decide +kernel)⟩
theorem lw_p9 : lw_okq (⟨"OwnRain$Reader", "readSum", "(IZ)V"⟩, 7) := ⟨⟨by decide +kernel, by decide +kernel⟩, List.mem_of_getElem? (i := 315) (by decide +kernel), List.mem_of_getElem? (i := 753) (by decide +kernel), List.mem_of_getElem? (i := 754) (by decide +kernel)⟩
theorem lw_p10 : lw_okq (⟨"OwnRain$Reader", "readProduct", "(IZ)V"⟩, 7) := ⟨⟨by decide +kernel, by decide +kernel⟩, List.mem_of_getElem? (i := 315) (by decide +kernel), List.mem_of_getElem? (i := 757) (by decide +kernel), List.mem_of_getElem? (i := 758) (by decide +kernel)⟩
theorem lw_p11 : lw_okq (⟨"OwnRain$Reader", "readOne", "(IZ)V"⟩, 7) := ⟨⟨by decide +kernel, by decide +kernel⟩, List.mem_of_getElem? (i := 315) (by decide +kernel), List.mem_of_getElem? (i := 761) (by decide +kernel), List.mem_of_getElem? (i := 762) (by decide +kernel)⟩
theorem lw_p12 : lw_okq (⟨"OwnRain$Reader", "expectNumber", "(II)V"⟩, 7) := ⟨⟨by decide +kernel, by decide +kernel⟩, List.mem_of_getElem? (i := 315) (by decide +kernel), List.mem_of_getElem? (i := 769) (by decide +kernel), List.mem_of_getElem? (i := 770) (by decide +kernel)⟩
theorem lw_p13 : lw_okq (⟨"OwnRain$Reader", "readName", "(Z)V"⟩, 7) := ⟨⟨by decide +kernel, by decide +kernel⟩, List.mem_of_getElem? (i := 315) (by decide +kernel), List.mem_of_getElem? (i := 780) (by decide +kernel), List.mem_of_getElem? (i := 781) (by decide +kernel)⟩
theorem lw_p14 : lw_okq (⟨"OwnRain$Reader", "opens", "(I)Z"⟩, 7) := ⟨⟨by decide +kernel, by decide +kernel⟩, List.mem_of_getElem? (i := 315) (by decide +kernel), List.mem_of_getElem? (i := 784) (by decide +kernel), List.mem_of_getElem? (i := 785) (by decide +kernel)⟩
theorem lw_p15 : lw_okq (⟨"OwnRain$Reader", "expect", "(I)V"⟩, 7) := ⟨⟨by decide +kernel, by decide +kernel⟩, List.mem_of_getElem? (i := 315) (by decide +kernel), List.mem_of_getElem? (i := 788) (by decide +kernel), List.mem_of_getElem? (i := 789) (by decide +kernel)⟩
def lw_privs_1 : List (MethodName × Nat) := [(⟨"OwnRain$Tape", "addWord", "(I)I"⟩, 6), (⟨"OwnRain$Tape", "wordOf", "(II)I"⟩, 6), (⟨"OwnRain$Tape", "addToken", "(II)V"⟩, 6), (⟨"OwnRain$Tape", "addNumber", "(I)I"⟩, 6), (⟨"OwnRain$Tape", "addSign", "(I)I"⟩, 6), (⟨"OwnRain$Reader", "readClause", "(I)V"⟩, 7), (⟨"OwnRain$Reader", "fail", "(I)V"⟩, 7), (⟨"OwnRain$Reader", "advance", "()V"⟩, 7), (⟨"OwnRain$Reader", "readLaw", "(I)V"⟩, 7), (⟨"OwnRain$Reader", "readSum", "(IZ)V"⟩, 7), (⟨"OwnRain$Reader", "readProduct", "(IZ)V"⟩, 7), (⟨"OwnRain$Reader", "readOne", "(IZ)V"⟩, 7), (⟨"OwnRain$Reader", "expectNumber", "(II)V"⟩, 7), (⟨"OwnRain$Reader", "readName", "(Z)V"⟩, 7), (⟨"OwnRain$Reader", "opens", "(I)Z"⟩, 7), (⟨"OwnRain$Reader", "expect", "(I)V"⟩, 7)]
theorem lw_r1 : ∀ q ∈ lw_privs_1, lw_okq q := List.forall_mem_cons.mpr ⟨lw_p0, List.forall_mem_cons.mpr ⟨lw_p1, List.forall_mem_cons.mpr ⟨lw_p2, List.forall_mem_cons.mpr ⟨lw_p3, List.forall_mem_cons.mpr ⟨lw_p4, List.forall_mem_cons.mpr ⟨lw_p5, List.forall_mem_cons.mpr ⟨lw_p6, List.forall_mem_cons.mpr ⟨lw_p7, List.forall_mem_cons.mpr ⟨lw_p8, List.forall_mem_cons.mpr ⟨lw_p9, List.forall_mem_cons.mpr ⟨lw_p10, List.forall_mem_cons.mpr ⟨lw_p11, List.forall_mem_cons.mpr ⟨lw_p12, List.forall_mem_cons.mpr ⟨lw_p13, List.forall_mem_cons.mpr ⟨lw_p14, List.forall_mem_cons.mpr ⟨lw_p15, fun _ h => absurd h List.not_mem_nil⟩⟩⟩⟩⟩⟩⟩⟩⟩⟩⟩⟩⟩⟩⟩⟩
theorem lw_p16 : lw_okq (⟨"OwnRain$Reader", "readGroup", "(I)V"⟩, 7) := ⟨⟨by decide +kernel, by decide +kernel⟩, List.mem_of_getElem? (i := 315) (by decide +kernel), List.mem_of_getElem? (i := 792) (by decide +kernel), List.mem_of_getElem? (i := 793) (by decide +kernel)⟩
theorem lw_p17 : lw_okq (⟨"OwnRain$Reader", "readEither", "(I)V"⟩, 7) := ⟨⟨by decide +kernel, by decide +kernel⟩, List.mem_of_getElem? (i := 315) (by decide +kernel), List.mem_of_getElem? (i := 796) (by decide +kernel), List.mem_of_getElem? (i := 797) (by decide +kernel)⟩
theorem lw_p18 : lw_okq (⟨"OwnRain$Reader", "readBoth", "(I)V"⟩, 7) := ⟨⟨by decide +kernel, by decide +kernel⟩, List.mem_of_getElem? (i := 315) (by decide +kernel), List.mem_of_getElem? (i := 800) (by decide +kernel), List.mem_of_getElem? (i := 801) (by decide +kernel)⟩
theorem lw_p19 : lw_okq (⟨"OwnRain$Reader", "readAsk", "(I)V"⟩, 7) := ⟨⟨by decide +kernel, by decide +kernel⟩, List.mem_of_getElem? (i := 315) (by decide +kernel), List.mem_of_getElem? (i := 804) (by decide +kernel), List.mem_of_getElem? (i := 805) (by decide +kernel)⟩
theorem lw_p20 : lw_okq (⟨"OwnRain$Reader", "readParts", "(II)V"⟩, 7) := ⟨⟨by decide +kernel, by decide +kernel⟩, List.mem_of_getElem? (i := 315) (by decide +kernel), List.mem_of_getElem? (i := 808) (by decide +kernel), List.mem_of_getElem? (i := 809) (by decide +kernel)⟩
theorem lw_p21 : lw_okq (⟨"OwnRain$Weather", "law", "(IILOwnRain$World;II)I"⟩, 10) := ⟨⟨by decide +kernel, by decide +kernel⟩, List.mem_of_getElem? (i := 345) (by decide +kernel), List.mem_of_getElem? (i := 859) (by decide +kernel), List.mem_of_getElem? (i := 860) (by decide +kernel)⟩
theorem lw_p22 : lw_okq (⟨"OwnRain$Weather", "run", "(LOwnRain$Text;III)I"⟩, 10) := ⟨⟨by decide +kernel, by decide +kernel⟩, List.mem_of_getElem? (i := 345) (by decide +kernel), List.mem_of_getElem? (i := 869) (by decide +kernel), List.mem_of_getElem? (i := 870) (by decide +kernel)⟩
theorem lw_p23 : lw_okq (⟨"OwnRain$Weather", "named", "(II)I"⟩, 10) := ⟨⟨by decide +kernel, by decide +kernel⟩, List.mem_of_getElem? (i := 345) (by decide +kernel), List.mem_of_getElem? (i := 873) (by decide +kernel), List.mem_of_getElem? (i := 874) (by decide +kernel)⟩
theorem lw_p24 : lw_okq (⟨"OwnRain$Weather", "rainFrom", "(LOwnRain$World;I)V"⟩, 10) := ⟨⟨by decide +kernel, by decide +kernel⟩, List.mem_of_getElem? (i := 345) (by decide +kernel), List.mem_of_getElem? (i := 894) (by decide +kernel), List.mem_of_getElem? (i := 895) (by decide +kernel)⟩
theorem lw_p25 : lw_okq (⟨"OwnRain$Weather", "closeHour", "(LOwnRain$World;I)V"⟩, 10) := ⟨⟨by decide +kernel, by decide +kernel⟩, List.mem_of_getElem? (i := 345) (by decide +kernel), List.mem_of_getElem? (i := 903) (by decide +kernel), List.mem_of_getElem? (i := 904) (by decide +kernel)⟩
theorem lw_p26 : lw_okq (⟨"OwnRain", "canDo", "(LOwnRain$Text;I)Z"⟩, 7) := ⟨⟨by decide +kernel, by decide +kernel⟩, List.mem_of_getElem? (i := 23) (by decide +kernel), List.mem_of_getElem? (i := 970) (by decide +kernel), List.mem_of_getElem? (i := 971) (by decide +kernel)⟩
theorem lw_p27 : lw_okq (⟨"OwnRain", "draw", "()I"⟩, 7) := ⟨⟨by decide +kernel, by decide +kernel⟩, List.mem_of_getElem? (i := 23) (by decide +kernel), List.mem_of_getElem? (i := 987) (by decide +kernel), List.mem_of_getElem? (i := 988) (by decide +kernel)⟩
theorem lw_p28 : lw_okq (⟨"OwnRain$World", "rain", "(I)I"⟩, 15) := ⟨⟨by decide +kernel, by decide +kernel⟩, List.mem_of_getElem? (i := 97) (by decide +kernel), List.mem_of_getElem? (i := 1033) (by decide +kernel), List.mem_of_getElem? (i := 1034) (by decide +kernel)⟩
theorem lw_p29 : lw_okq (⟨"OwnRain$Planner", "freshWorld", "()LOwnRain$World;"⟩, 10) := ⟨⟨by decide +kernel, by decide +kernel⟩, List.mem_of_getElem? (i := 386) (by decide +kernel), List.mem_of_getElem? (i := 1057) (by decide +kernel), List.mem_of_getElem? (i := 1058) (by decide +kernel)⟩
theorem lw_p30 : lw_okq (⟨"OwnRain$Planner", "tryWork", "(IIIIZ)V"⟩, 10) := ⟨⟨by decide +kernel, by decide +kernel⟩, List.mem_of_getElem? (i := 386) (by decide +kernel), List.mem_of_getElem? (i := 1082) (by decide +kernel), List.mem_of_getElem? (i := 1083) (by decide +kernel)⟩
theorem lw_p31 : lw_okq (⟨"OwnRain$Planner", "sweatAt", "(II)I"⟩, 10) := ⟨⟨by decide +kernel, by decide +kernel⟩, List.mem_of_getElem? (i := 386) (by decide +kernel), List.mem_of_getElem? (i := 1099) (by decide +kernel), List.mem_of_getElem? (i := 1100) (by decide +kernel)⟩
def lw_privs_2 : List (MethodName × Nat) := [(⟨"OwnRain$Reader", "readGroup", "(I)V"⟩, 7), (⟨"OwnRain$Reader", "readEither", "(I)V"⟩, 7), (⟨"OwnRain$Reader", "readBoth", "(I)V"⟩, 7), (⟨"OwnRain$Reader", "readAsk", "(I)V"⟩, 7), (⟨"OwnRain$Reader", "readParts", "(II)V"⟩, 7), (⟨"OwnRain$Weather", "law", "(IILOwnRain$World;II)I"⟩, 10), (⟨"OwnRain$Weather", "run", "(LOwnRain$Text;III)I"⟩, 10), (⟨"OwnRain$Weather", "named", "(II)I"⟩, 10), (⟨"OwnRain$Weather", "rainFrom", "(LOwnRain$World;I)V"⟩, 10), (⟨"OwnRain$Weather", "closeHour", "(LOwnRain$World;I)V"⟩, 10), (⟨"OwnRain", "canDo", "(LOwnRain$Text;I)Z"⟩, 7), (⟨"OwnRain", "draw", "()I"⟩, 7), (⟨"OwnRain$World", "rain", "(I)I"⟩, 15), (⟨"OwnRain$Planner", "freshWorld", "()LOwnRain$World;"⟩, 10), (⟨"OwnRain$Planner", "tryWork", "(IIIIZ)V"⟩, 10), (⟨"OwnRain$Planner", "sweatAt", "(II)I"⟩, 10)]
theorem lw_r2 : ∀ q ∈ lw_privs_2, lw_okq q := List.forall_mem_cons.mpr ⟨lw_p16, List.forall_mem_cons.mpr ⟨lw_p17, List.forall_mem_cons.mpr ⟨lw_p18, List.forall_mem_cons.mpr ⟨lw_p19, List.forall_mem_cons.mpr ⟨lw_p20, List.forall_mem_cons.mpr ⟨lw_p21, List.forall_mem_cons.mpr ⟨lw_p22, List.forall_mem_cons.mpr ⟨lw_p23, List.forall_mem_cons.mpr ⟨lw_p24, List.forall_mem_cons.mpr ⟨lw_p25, List.forall_mem_cons.mpr ⟨lw_p26, List.forall_mem_cons.mpr ⟨lw_p27, List.forall_mem_cons.mpr ⟨lw_p28, List.forall_mem_cons.mpr ⟨lw_p29, List.forall_mem_cons.mpr ⟨lw_p30, List.forall_mem_cons.mpr ⟨lw_p31, fun _ h => absurd h List.not_mem_nil⟩⟩⟩⟩⟩⟩⟩⟩⟩⟩⟩⟩⟩⟩⟩⟩
theorem lw_p32 : lw_okq (⟨"OwnRain$Planner", "mostBeyond", "(III)I"⟩, 10) := ⟨⟨by decide +kernel, by decide +kernel⟩, List.mem_of_getElem? (i := 386) (by decide +kernel), List.mem_of_getElem? (i := 1104) (by decide +kernel), List.mem_of_getElem? (i := 1105) (by decide +kernel)⟩
theorem lw_p33 : lw_okq (⟨"OwnRain$Planner", "lowestPlace", "(III)I"⟩, 10) := ⟨⟨by decide +kernel, by decide +kernel⟩, List.mem_of_getElem? (i := 386) (by decide +kernel), List.mem_of_getElem? (i := 1113) (by decide +kernel), List.mem_of_getElem? (i := 1114) (by decide +kernel)⟩
theorem lw_p34 : lw_okq (⟨"OwnRain$Ways", "nextField", "(III)I"⟩, 3) := ⟨⟨by decide +kernel, by decide +kernel⟩, List.mem_of_getElem? (i := 428) (by decide +kernel), List.mem_of_getElem? (i := 1130) (by decide +kernel), List.mem_of_getElem? (i := 1131) (by decide +kernel)⟩
theorem lw_p35 : lw_okq (⟨"OwnRain$Ways", "widen", "(I)V"⟩, 3) := ⟨⟨by decide +kernel, by decide +kernel⟩, List.mem_of_getElem? (i := 428) (by decide +kernel), List.mem_of_getElem? (i := 1147) (by decide +kernel), List.mem_of_getElem? (i := 1148) (by decide +kernel)⟩
theorem lw_p36 : lw_okq (⟨"OwnRain", "nearOnes", "(I)I"⟩, 7) := ⟨⟨by decide +kernel, by decide +kernel⟩, List.mem_of_getElem? (i := 23) (by decide +kernel), List.mem_of_getElem? (i := 1165) (by decide +kernel), List.mem_of_getElem? (i := 1166) (by decide +kernel)⟩
theorem lw_p37 : lw_okq (⟨"OwnRain$Planner", "growsAsMuch", "(LOwnRain$World;)Z"⟩, 10) := ⟨⟨by decide +kernel, by decide +kernel⟩, List.mem_of_getElem? (i := 386) (by decide +kernel), List.mem_of_getElem? (i := 1235) (by decide +kernel), List.mem_of_getElem? (i := 1236) (by decide +kernel)⟩
theorem lw_p38 : lw_okq (⟨"OwnRainModel", "isField", "(I)Z"⟩, 53) := ⟨⟨by decide +kernel, by decide +kernel⟩, List.mem_of_getElem? (i := 1274) (by decide +kernel), List.mem_of_getElem? (i := 1454) (by decide +kernel), List.mem_of_getElem? (i := 1455) (by decide +kernel)⟩
theorem lw_p39 : lw_okq (⟨"OwnRainModel", "fieldOf", "(II)I"⟩, 53) := ⟨⟨by decide +kernel, by decide +kernel⟩, List.mem_of_getElem? (i := 1274) (by decide +kernel), List.mem_of_getElem? (i := 1458) (by decide +kernel), List.mem_of_getElem? (i := 1459) (by decide +kernel)⟩
theorem lw_p40 : lw_okq (⟨"OwnRainModel", "set", "(III)V"⟩, 53) := ⟨⟨by decide +kernel, by decide +kernel⟩, List.mem_of_getElem? (i := 1274) (by decide +kernel), List.mem_of_getElem? (i := 1469) (by decide +kernel), List.mem_of_getElem? (i := 1470) (by decide +kernel)⟩
theorem lw_p41 : lw_okq (⟨"OwnRainModel", "four", "(I)V"⟩, 53) := ⟨⟨by decide +kernel, by decide +kernel⟩, List.mem_of_getElem? (i := 1274) (by decide +kernel), List.mem_of_getElem? (i := 1477) (by decide +kernel), List.mem_of_getElem? (i := 1478) (by decide +kernel)⟩
theorem lw_p42 : lw_okq (⟨"OwnRainModel", "readText", "()I"⟩, 53) := ⟨⟨by decide +kernel, by decide +kernel⟩, List.mem_of_getElem? (i := 1274) (by decide +kernel), List.mem_of_getElem? (i := 1489) (by decide +kernel), List.mem_of_getElem? (i := 1490) (by decide +kernel)⟩
theorem lw_p43 : lw_okq (⟨"OwnRainModel", "nextToken", "()V"⟩, 53) := ⟨⟨by decide +kernel, by decide +kernel⟩, List.mem_of_getElem? (i := 1274) (by decide +kernel), List.mem_of_getElem? (i := 1493) (by decide +kernel), List.mem_of_getElem? (i := 1494) (by decide +kernel)⟩
theorem lw_p44 : lw_okq (⟨"OwnRainModel", "byteAt", "(I)I"⟩, 53) := ⟨⟨by decide +kernel, by decide +kernel⟩, List.mem_of_getElem? (i := 1274) (by decide +kernel), List.mem_of_getElem? (i := 1497) (by decide +kernel), List.mem_of_getElem? (i := 1498) (by decide +kernel)⟩
theorem lw_p45 : lw_okq (⟨"OwnRainModel", "clause", "()I"⟩, 53) := ⟨⟨by decide +kernel, by decide +kernel⟩, List.mem_of_getElem? (i := 1274) (by decide +kernel), List.mem_of_getElem? (i := 1512) (by decide +kernel), List.mem_of_getElem? (i := 1513) (by decide +kernel)⟩
theorem lw_p46 : lw_okq (⟨"OwnRainModel", "sortOf", "()I"⟩, 53) := ⟨⟨by decide +kernel, by decide +kernel⟩, List.mem_of_getElem? (i := 1274) (by decide +kernel), List.mem_of_getElem? (i := 1516) (by decide +kernel), List.mem_of_getElem? (i := 1517) (by decide +kernel)⟩
theorem lw_p47 : lw_okq (⟨"OwnRainModel", "isWord", "(J)Z"⟩, 53) := ⟨⟨by decide +kernel, by decide +kernel⟩, List.mem_of_getElem? (i := 1274) (by decide +kernel), List.mem_of_getElem? (i := 1532) (by decide +kernel), List.mem_of_getElem? (i := 1533) (by decide +kernel)⟩
def lw_privs_3 : List (MethodName × Nat) := [(⟨"OwnRain$Planner", "mostBeyond", "(III)I"⟩, 10), (⟨"OwnRain$Planner", "lowestPlace", "(III)I"⟩, 10), (⟨"OwnRain$Ways", "nextField", "(III)I"⟩, 3), (⟨"OwnRain$Ways", "widen", "(I)V"⟩, 3), (⟨"OwnRain", "nearOnes", "(I)I"⟩, 7), (⟨"OwnRain$Planner", "growsAsMuch", "(LOwnRain$World;)Z"⟩, 10), (⟨"OwnRainModel", "isField", "(I)Z"⟩, 53), (⟨"OwnRainModel", "fieldOf", "(II)I"⟩, 53), (⟨"OwnRainModel", "set", "(III)V"⟩, 53), (⟨"OwnRainModel", "four", "(I)V"⟩, 53), (⟨"OwnRainModel", "readText", "()I"⟩, 53), (⟨"OwnRainModel", "nextToken", "()V"⟩, 53), (⟨"OwnRainModel", "byteAt", "(I)I"⟩, 53), (⟨"OwnRainModel", "clause", "()I"⟩, 53), (⟨"OwnRainModel", "sortOf", "()I"⟩, 53), (⟨"OwnRainModel", "isWord", "(J)Z"⟩, 53)]
theorem lw_r3 : ∀ q ∈ lw_privs_3, lw_okq q := List.forall_mem_cons.mpr ⟨lw_p32, List.forall_mem_cons.mpr ⟨lw_p33, List.forall_mem_cons.mpr ⟨lw_p34, List.forall_mem_cons.mpr ⟨lw_p35, List.forall_mem_cons.mpr ⟨lw_p36, List.forall_mem_cons.mpr ⟨lw_p37, List.forall_mem_cons.mpr ⟨lw_p38, List.forall_mem_cons.mpr ⟨lw_p39, List.forall_mem_cons.mpr ⟨lw_p40, List.forall_mem_cons.mpr ⟨lw_p41, List.forall_mem_cons.mpr ⟨lw_p42, List.forall_mem_cons.mpr ⟨lw_p43, List.forall_mem_cons.mpr ⟨lw_p44, List.forall_mem_cons.mpr ⟨lw_p45, List.forall_mem_cons.mpr ⟨lw_p46, List.forall_mem_cons.mpr ⟨lw_p47, fun _ h => absurd h List.not_mem_nil⟩⟩⟩⟩⟩⟩⟩⟩⟩⟩⟩⟩⟩⟩⟩⟩
theorem lw_p48 : lw_okq (⟨"OwnRainModel", "body", "(II)I"⟩, 53) := ⟨⟨by decide +kernel, by decide +kernel⟩, List.mem_of_getElem? (i := 1274) (by decide +kernel), List.mem_of_getElem? (i := 1536) (by decide +kernel), List.mem_of_getElem? (i := 1537) (by decide +kernel)⟩
theorem lw_p49 : lw_okq (⟨"OwnRainModel", "fieldClause", "(I)I"⟩, 53) := ⟨⟨by decide +kernel, by decide +kernel⟩, List.mem_of_getElem? (i := 1274) (by decide +kernel), List.mem_of_getElem? (i := 1540) (by decide +kernel), List.mem_of_getElem? (i := 1541) (by decide +kernel)⟩
theorem lw_p50 : lw_okq (⟨"OwnRainModel", "figure", "(III)I"⟩, 53) := ⟨⟨by decide +kernel, by decide +kernel⟩, List.mem_of_getElem? (i := 1274) (by decide +kernel), List.mem_of_getElem? (i := 1544) (by decide +kernel), List.mem_of_getElem? (i := 1545) (by decide +kernel)⟩
theorem lw_p51 : lw_okq (⟨"OwnRainModel", "worded", "(JIII)I"⟩, 53) := ⟨⟨by decide +kernel, by decide +kernel⟩, List.mem_of_getElem? (i := 1274) (by decide +kernel), List.mem_of_getElem? (i := 1548) (by decide +kernel), List.mem_of_getElem? (i := 1549) (by decide +kernel)⟩
theorem lw_p52 : lw_okq (⟨"OwnRainModel", "pair", "(IIIJI)I"⟩, 53) := ⟨⟨by decide +kernel, by decide +kernel⟩, List.mem_of_getElem? (i := 1274) (by decide +kernel), List.mem_of_getElem? (i := 1555) (by decide +kernel), List.mem_of_getElem? (i := 1556) (by decide +kernel)⟩
theorem lw_p53 : lw_okq (⟨"OwnRainModel", "oneClause", "(I)I"⟩, 53) := ⟨⟨by decide +kernel, by decide +kernel⟩, List.mem_of_getElem? (i := 1274) (by decide +kernel), List.mem_of_getElem? (i := 1559) (by decide +kernel), List.mem_of_getElem? (i := 1560) (by decide +kernel)⟩
theorem lw_p54 : lw_okq (⟨"OwnRainModel", "stealClause", "(I)I"⟩, 53) := ⟨⟨by decide +kernel, by decide +kernel⟩, List.mem_of_getElem? (i := 1274) (by decide +kernel), List.mem_of_getElem? (i := 1563) (by decide +kernel), List.mem_of_getElem? (i := 1564) (by decide +kernel)⟩
theorem lw_p55 : lw_okq (⟨"OwnRainModel", "lawClause", "(I)I"⟩, 53) := ⟨⟨by decide +kernel, by decide +kernel⟩, List.mem_of_getElem? (i := 1274) (by decide +kernel), List.mem_of_getElem? (i := 1567) (by decide +kernel), List.mem_of_getElem? (i := 1568) (by decide +kernel)⟩
theorem lw_p56 : lw_okq (⟨"OwnRainModel", "summed", "()I"⟩, 53) := ⟨⟨by decide +kernel, by decide +kernel⟩, List.mem_of_getElem? (i := 1274) (by decide +kernel), List.mem_of_getElem? (i := 1571) (by decide +kernel), List.mem_of_getElem? (i := 1572) (by decide +kernel)⟩
theorem lw_p57 : lw_okq (⟨"OwnRainModel", "behindOne", "()Z"⟩, 53) := ⟨⟨by decide +kernel, by decide +kernel⟩, List.mem_of_getElem? (i := 1274) (by decide +kernel), List.mem_of_getElem? (i := 1575) (by decide +kernel), List.mem_of_getElem? (i := 1576) (by decide +kernel)⟩
theorem lw_p58 : lw_okq (⟨"OwnRainModel", "betweenOf", "()I"⟩, 53) := ⟨⟨by decide +kernel, by decide +kernel⟩, List.mem_of_getElem? (i := 1274) (by decide +kernel), List.mem_of_getElem? (i := 1579) (by decide +kernel), List.mem_of_getElem? (i := 1580) (by decide +kernel)⟩
theorem lw_p59 : lw_okq (⟨"OwnRainModel", "openNow", "()I"⟩, 53) := ⟨⟨by decide +kernel, by decide +kernel⟩, List.mem_of_getElem? (i := 1274) (by decide +kernel), List.mem_of_getElem? (i := 1583) (by decide +kernel), List.mem_of_getElem? (i := 1584) (by decide +kernel)⟩
theorem lw_p60 : lw_okq (⟨"OwnRainModel", "isCompared", "()Z"⟩, 53) := ⟨⟨by decide +kernel, by decide +kernel⟩, List.mem_of_getElem? (i := 1274) (by decide +kernel), List.mem_of_getElem? (i := 1587) (by decide +kernel), List.mem_of_getElem? (i := 1588) (by decide +kernel)⟩
theorem lw_p61 : lw_okq (⟨"OwnRainModel", "compareOf", "()I"⟩, 53) := ⟨⟨by decide +kernel, by decide +kernel⟩, List.mem_of_getElem? (i := 1274) (by decide +kernel), List.mem_of_getElem? (i := 1594) (by decide +kernel), List.mem_of_getElem? (i := 1595) (by decide +kernel)⟩
theorem lw_p62 : lw_okq (⟨"OwnRainModel", "settle", "(I)V"⟩, 53) := ⟨⟨by decide +kernel, by decide +kernel⟩, List.mem_of_getElem? (i := 1274) (by decide +kernel), List.mem_of_getElem? (i := 1598) (by decide +kernel), List.mem_of_getElem? (i := 1599) (by decide +kernel)⟩
theorem lw_p63 : lw_okq (⟨"OwnRainModel", "emit", "(II)V"⟩, 53) := ⟨⟨by decide +kernel, by decide +kernel⟩, List.mem_of_getElem? (i := 1274) (by decide +kernel), List.mem_of_getElem? (i := 1602) (by decide +kernel), List.mem_of_getElem? (i := 1603) (by decide +kernel)⟩
def lw_privs_4 : List (MethodName × Nat) := [(⟨"OwnRainModel", "body", "(II)I"⟩, 53), (⟨"OwnRainModel", "fieldClause", "(I)I"⟩, 53), (⟨"OwnRainModel", "figure", "(III)I"⟩, 53), (⟨"OwnRainModel", "worded", "(JIII)I"⟩, 53), (⟨"OwnRainModel", "pair", "(IIIJI)I"⟩, 53), (⟨"OwnRainModel", "oneClause", "(I)I"⟩, 53), (⟨"OwnRainModel", "stealClause", "(I)I"⟩, 53), (⟨"OwnRainModel", "lawClause", "(I)I"⟩, 53), (⟨"OwnRainModel", "summed", "()I"⟩, 53), (⟨"OwnRainModel", "behindOne", "()Z"⟩, 53), (⟨"OwnRainModel", "betweenOf", "()I"⟩, 53), (⟨"OwnRainModel", "openNow", "()I"⟩, 53), (⟨"OwnRainModel", "isCompared", "()Z"⟩, 53), (⟨"OwnRainModel", "compareOf", "()I"⟩, 53), (⟨"OwnRainModel", "settle", "(I)V"⟩, 53), (⟨"OwnRainModel", "emit", "(II)V"⟩, 53)]
theorem lw_r4 : ∀ q ∈ lw_privs_4, lw_okq q := List.forall_mem_cons.mpr ⟨lw_p48, List.forall_mem_cons.mpr ⟨lw_p49, List.forall_mem_cons.mpr ⟨lw_p50, List.forall_mem_cons.mpr ⟨lw_p51, List.forall_mem_cons.mpr ⟨lw_p52, List.forall_mem_cons.mpr ⟨lw_p53, List.forall_mem_cons.mpr ⟨lw_p54, List.forall_mem_cons.mpr ⟨lw_p55, List.forall_mem_cons.mpr ⟨lw_p56, List.forall_mem_cons.mpr ⟨lw_p57, List.forall_mem_cons.mpr ⟨lw_p58, List.forall_mem_cons.mpr ⟨lw_p59, List.forall_mem_cons.mpr ⟨lw_p60, List.forall_mem_cons.mpr ⟨lw_p61, List.forall_mem_cons.mpr ⟨lw_p62, List.forall_mem_cons.mpr ⟨lw_p63, fun _ h => absurd h List.not_mem_nil⟩⟩⟩⟩⟩⟩⟩⟩⟩⟩⟩⟩⟩⟩⟩⟩
theorem lw_p64 : lw_okq (⟨"OwnRainModel", "shut", "(I)V"⟩, 53) := ⟨⟨by decide +kernel, by decide +kernel⟩, List.mem_of_getElem? (i := 1274) (by decide +kernel), List.mem_of_getElem? (i := 1606) (by decide +kernel), List.mem_of_getElem? (i := 1607) (by decide +kernel)⟩
theorem lw_p65 : lw_okq (⟨"OwnRainModel", "beginOne", "()I"⟩, 53) := ⟨⟨by decide +kernel, by decide +kernel⟩, List.mem_of_getElem? (i := 1274) (by decide +kernel), List.mem_of_getElem? (i := 1610) (by decide +kernel), List.mem_of_getElem? (i := 1611) (by decide +kernel)⟩
theorem lw_p66 : lw_okq (⟨"OwnRainModel", "nameOf", "()I"⟩, 53) := ⟨⟨by decide +kernel, by decide +kernel⟩, List.mem_of_getElem? (i := 1274) (by decide +kernel), List.mem_of_getElem? (i := 1614) (by decide +kernel), List.mem_of_getElem? (i := 1615) (by decide +kernel)⟩
theorem lw_p67 : lw_okq (⟨"OwnRainModel", "isOf", "(I)Z"⟩, 53) := ⟨⟨by decide +kernel, by decide +kernel⟩, List.mem_of_getElem? (i := 1274) (by decide +kernel), List.mem_of_getElem? (i := 1618) (by decide +kernel), List.mem_of_getElem? (i := 1619) (by decide +kernel)⟩
theorem lw_p68 : lw_okq (⟨"OwnRainModel", "opened", "(I)I"⟩, 53) := ⟨⟨by decide +kernel, by decide +kernel⟩, List.mem_of_getElem? (i := 1274) (by decide +kernel), List.mem_of_getElem? (i := 1622) (by decide +kernel), List.mem_of_getElem? (i := 1623) (by decide +kernel)⟩
theorem lw_p69 : lw_okq (⟨"OwnRainModel", "isAskAhead", "()Z"⟩, 53) := ⟨⟨by decide +kernel, by decide +kernel⟩, List.mem_of_getElem? (i := 1274) (by decide +kernel), List.mem_of_getElem? (i := 1626) (by decide +kernel), List.mem_of_getElem? (i := 1627) (by decide +kernel)⟩
theorem lw_p70 : lw_okq (⟨"OwnRainModel", "get", "(II)I"⟩, 53) := ⟨⟨by decide +kernel, by decide +kernel⟩, List.mem_of_getElem? (i := 1274) (by decide +kernel), List.mem_of_getElem? (i := 1642) (by decide +kernel), List.mem_of_getElem? (i := 1643) (by decide +kernel)⟩
theorem lw_p71 : lw_okq (⟨"OwnRainModel", "passStep", "()I"⟩, 53) := ⟨⟨by decide +kernel, by decide +kernel⟩, List.mem_of_getElem? (i := 1274) (by decide +kernel), List.mem_of_getElem? (i := 1650) (by decide +kernel), List.mem_of_getElem? (i := 1651) (by decide +kernel)⟩
theorem lw_p72 : lw_okq (⟨"OwnRainModel", "keep", "()V"⟩, 53) := ⟨⟨by decide +kernel, by decide +kernel⟩, List.mem_of_getElem? (i := 1274) (by decide +kernel), List.mem_of_getElem? (i := 1654) (by decide +kernel), List.mem_of_getElem? (i := 1655) (by decide +kernel)⟩
theorem lw_p73 : lw_okq (⟨"OwnRainModel", "pass", "()I"⟩, 53) := ⟨⟨by decide +kernel, by decide +kernel⟩, List.mem_of_getElem? (i := 1274) (by decide +kernel), List.mem_of_getElem? (i := 1658) (by decide +kernel), List.mem_of_getElem? (i := 1659) (by decide +kernel)⟩
theorem lw_p74 : lw_okq (⟨"OwnRainModel", "rainAll", "()I"⟩, 53) := ⟨⟨by decide +kernel, by decide +kernel⟩, List.mem_of_getElem? (i := 1274) (by decide +kernel), List.mem_of_getElem? (i := 1662) (by decide +kernel), List.mem_of_getElem? (i := 1663) (by decide +kernel)⟩
theorem lw_p75 : lw_okq (⟨"OwnRainModel", "sweatOf", "(II)I"⟩, 53) := ⟨⟨by decide +kernel, by decide +kernel⟩, List.mem_of_getElem? (i := 1274) (by decide +kernel), List.mem_of_getElem? (i := 1666) (by decide +kernel), List.mem_of_getElem? (i := 1667) (by decide +kernel)⟩
theorem lw_p76 : lw_okq (⟨"OwnRainModel", "says", "(IIIIII)I"⟩, 53) := ⟨⟨by decide +kernel, by decide +kernel⟩, List.mem_of_getElem? (i := 1274) (by decide +kernel), List.mem_of_getElem? (i := 1670) (by decide +kernel), List.mem_of_getElem? (i := 1671) (by decide +kernel)⟩
theorem lw_p77 : lw_okq (⟨"OwnRainModel", "name", "(I)V"⟩, 53) := ⟨⟨by decide +kernel, by decide +kernel⟩, List.mem_of_getElem? (i := 1274) (by decide +kernel), List.mem_of_getElem? (i := 1674) (by decide +kernel), List.mem_of_getElem? (i := 1675) (by decide +kernel)⟩
theorem lw_p78 : lw_okq (⟨"OwnRainModel", "worked", "(I)I"⟩, 53) := ⟨⟨by decide +kernel, by decide +kernel⟩, List.mem_of_getElem? (i := 1274) (by decide +kernel), List.mem_of_getElem? (i := 1678) (by decide +kernel), List.mem_of_getElem? (i := 1679) (by decide +kernel)⟩
theorem lw_p79 : lw_okq (⟨"OwnRainModel", "takeNext", "()Z"⟩, 53) := ⟨⟨by decide +kernel, by decide +kernel⟩, List.mem_of_getElem? (i := 1274) (by decide +kernel), List.mem_of_getElem? (i := 1693) (by decide +kernel), List.mem_of_getElem? (i := 1694) (by decide +kernel)⟩
def lw_privs_5 : List (MethodName × Nat) := [(⟨"OwnRainModel", "shut", "(I)V"⟩, 53), (⟨"OwnRainModel", "beginOne", "()I"⟩, 53), (⟨"OwnRainModel", "nameOf", "()I"⟩, 53), (⟨"OwnRainModel", "isOf", "(I)Z"⟩, 53), (⟨"OwnRainModel", "opened", "(I)I"⟩, 53), (⟨"OwnRainModel", "isAskAhead", "()Z"⟩, 53), (⟨"OwnRainModel", "get", "(II)I"⟩, 53), (⟨"OwnRainModel", "passStep", "()I"⟩, 53), (⟨"OwnRainModel", "keep", "()V"⟩, 53), (⟨"OwnRainModel", "pass", "()I"⟩, 53), (⟨"OwnRainModel", "rainAll", "()I"⟩, 53), (⟨"OwnRainModel", "sweatOf", "(II)I"⟩, 53), (⟨"OwnRainModel", "says", "(IIIIII)I"⟩, 53), (⟨"OwnRainModel", "name", "(I)V"⟩, 53), (⟨"OwnRainModel", "worked", "(I)I"⟩, 53), (⟨"OwnRainModel", "takeNext", "()Z"⟩, 53)]
theorem lw_r5 : ∀ q ∈ lw_privs_5, lw_okq q := List.forall_mem_cons.mpr ⟨lw_p64, List.forall_mem_cons.mpr ⟨lw_p65, List.forall_mem_cons.mpr ⟨lw_p66, List.forall_mem_cons.mpr ⟨lw_p67, List.forall_mem_cons.mpr ⟨lw_p68, List.forall_mem_cons.mpr ⟨lw_p69, List.forall_mem_cons.mpr ⟨lw_p70, List.forall_mem_cons.mpr ⟨lw_p71, List.forall_mem_cons.mpr ⟨lw_p72, List.forall_mem_cons.mpr ⟨lw_p73, List.forall_mem_cons.mpr ⟨lw_p74, List.forall_mem_cons.mpr ⟨lw_p75, List.forall_mem_cons.mpr ⟨lw_p76, List.forall_mem_cons.mpr ⟨lw_p77, List.forall_mem_cons.mpr ⟨lw_p78, List.forall_mem_cons.mpr ⟨lw_p79, fun _ h => absurd h List.not_mem_nil⟩⟩⟩⟩⟩⟩⟩⟩⟩⟩⟩⟩⟩⟩⟩⟩
theorem lw_p80 : lw_okq (⟨"OwnRainModel", "nextThere", "(I)I"⟩, 53) := ⟨⟨by decide +kernel, by decide +kernel⟩, List.mem_of_getElem? (i := 1274) (by decide +kernel), List.mem_of_getElem? (i := 1697) (by decide +kernel), List.mem_of_getElem? (i := 1698) (by decide +kernel)⟩
theorem lw_p81 : lw_okq (⟨"OwnRainModel", "endEach", "(I)I"⟩, 53) := ⟨⟨by decide +kernel, by decide +kernel⟩, List.mem_of_getElem? (i := 1274) (by decide +kernel), List.mem_of_getElem? (i := 1701) (by decide +kernel), List.mem_of_getElem? (i := 1702) (by decide +kernel)⟩
theorem lw_p82 : lw_okq (⟨"OwnRainModel", "addTo", "(II)V"⟩, 53) := ⟨⟨by decide +kernel, by decide +kernel⟩, List.mem_of_getElem? (i := 1274) (by decide +kernel), List.mem_of_getElem? (i := 1705) (by decide +kernel), List.mem_of_getElem? (i := 1706) (by decide +kernel)⟩
theorem lw_p83 : lw_okq (⟨"OwnRainModel", "rainOf", "(I)V"⟩, 53) := ⟨⟨by decide +kernel, by decide +kernel⟩, List.mem_of_getElem? (i := 1274) (by decide +kernel), List.mem_of_getElem? (i := 1709) (by decide +kernel), List.mem_of_getElem? (i := 1710) (by decide +kernel)⟩
theorem lw_p84 : lw_okq (⟨"OwnRainModel", "wet", "(II)V"⟩, 53) := ⟨⟨by decide +kernel, by decide +kernel⟩, List.mem_of_getElem? (i := 1274) (by decide +kernel), List.mem_of_getElem? (i := 1713) (by decide +kernel), List.mem_of_getElem? (i := 1714) (by decide +kernel)⟩
theorem lw_p85 : lw_okq (⟨"OwnRainModel", "write", "(II)V"⟩, 53) := ⟨⟨by decide +kernel, by decide +kernel⟩, List.mem_of_getElem? (i := 1274) (by decide +kernel), List.mem_of_getElem? (i := 1717) (by decide +kernel), List.mem_of_getElem? (i := 1718) (by decide +kernel)⟩
theorem lw_p86 : lw_okq (⟨"OwnRainModel", "dryAll", "()V"⟩, 53) := ⟨⟨by decide +kernel, by decide +kernel⟩, List.mem_of_getElem? (i := 1274) (by decide +kernel), List.mem_of_getElem? (i := 1721) (by decide +kernel), List.mem_of_getElem? (i := 1722) (by decide +kernel)⟩
theorem lw_p87 : lw_okq (⟨"OwnRainModel", "isPerson", "(I)Z"⟩, 53) := ⟨⟨by decide +kernel, by decide +kernel⟩, List.mem_of_getElem? (i := 1274) (by decide +kernel), List.mem_of_getElem? (i := 1729) (by decide +kernel), List.mem_of_getElem? (i := 1730) (by decide +kernel)⟩
theorem lw_p88 : lw_okq (⟨"OwnRainModel", "canGo", "(II)Z"⟩, 53) := ⟨⟨by decide +kernel, by decide +kernel⟩, List.mem_of_getElem? (i := 1274) (by decide +kernel), List.mem_of_getElem? (i := 1737) (by decide +kernel), List.mem_of_getElem? (i := 1738) (by decide +kernel)⟩
theorem lw_p89 : lw_okq (⟨"OwnRainModel", "canShake", "(II)Z"⟩, 53) := ⟨⟨by decide +kernel, by decide +kernel⟩, List.mem_of_getElem? (i := 1274) (by decide +kernel), List.mem_of_getElem? (i := 1745) (by decide +kernel), List.mem_of_getElem? (i := 1746) (by decide +kernel)⟩
theorem lw_p90 : lw_okq (⟨"OwnRainModel", "shakeNow", "(II)V"⟩, 53) := ⟨⟨by decide +kernel, by decide +kernel⟩, List.mem_of_getElem? (i := 1274) (by decide +kernel), List.mem_of_getElem? (i := 1749) (by decide +kernel), List.mem_of_getElem? (i := 1750) (by decide +kernel)⟩
theorem lw_p91 : lw_okq (⟨"OwnRainModel", "canSteal", "(III)Z"⟩, 53) := ⟨⟨by decide +kernel, by decide +kernel⟩, List.mem_of_getElem? (i := 1274) (by decide +kernel), List.mem_of_getElem? (i := 1757) (by decide +kernel), List.mem_of_getElem? (i := 1758) (by decide +kernel)⟩
theorem lw_p92 : lw_okq (⟨"OwnRainModel", "stealNow", "(III)V"⟩, 53) := ⟨⟨by decide +kernel, by decide +kernel⟩, List.mem_of_getElem? (i := 1274) (by decide +kernel), List.mem_of_getElem? (i := 1761) (by decide +kernel), List.mem_of_getElem? (i := 1762) (by decide +kernel)⟩
theorem lw_p93 : lw_okq (⟨"OwnRainModel", "isPlayed", "(I)Z"⟩, 53) := ⟨⟨by decide +kernel, by decide +kernel⟩, List.mem_of_getElem? (i := 1274) (by decide +kernel), List.mem_of_getElem? (i := 1773) (by decide +kernel), List.mem_of_getElem? (i := 1774) (by decide +kernel)⟩
theorem lw_p94 : lw_okq (⟨"OwnRainModel", "areHours", "(I)Z"⟩, 53) := ⟨⟨by decide +kernel, by decide +kernel⟩, List.mem_of_getElem? (i := 1274) (by decide +kernel), List.mem_of_getElem? (i := 1785) (by decide +kernel), List.mem_of_getElem? (i := 1786) (by decide +kernel)⟩
theorem lw_p95 : lw_okq (⟨"OwnRainModel", "happens", "(II)I"⟩, 53) := ⟨⟨by decide +kernel, by decide +kernel⟩, List.mem_of_getElem? (i := 1274) (by decide +kernel), List.mem_of_getElem? (i := 1796) (by decide +kernel), List.mem_of_getElem? (i := 1797) (by decide +kernel)⟩
def lw_privs_6 : List (MethodName × Nat) := [(⟨"OwnRainModel", "nextThere", "(I)I"⟩, 53), (⟨"OwnRainModel", "endEach", "(I)I"⟩, 53), (⟨"OwnRainModel", "addTo", "(II)V"⟩, 53), (⟨"OwnRainModel", "rainOf", "(I)V"⟩, 53), (⟨"OwnRainModel", "wet", "(II)V"⟩, 53), (⟨"OwnRainModel", "write", "(II)V"⟩, 53), (⟨"OwnRainModel", "dryAll", "()V"⟩, 53), (⟨"OwnRainModel", "isPerson", "(I)Z"⟩, 53), (⟨"OwnRainModel", "canGo", "(II)Z"⟩, 53), (⟨"OwnRainModel", "canShake", "(II)Z"⟩, 53), (⟨"OwnRainModel", "shakeNow", "(II)V"⟩, 53), (⟨"OwnRainModel", "canSteal", "(III)Z"⟩, 53), (⟨"OwnRainModel", "stealNow", "(III)V"⟩, 53), (⟨"OwnRainModel", "isPlayed", "(I)Z"⟩, 53), (⟨"OwnRainModel", "areHours", "(I)Z"⟩, 53), (⟨"OwnRainModel", "happens", "(II)I"⟩, 53)]
theorem lw_r6 : ∀ q ∈ lw_privs_6, lw_okq q := List.forall_mem_cons.mpr ⟨lw_p80, List.forall_mem_cons.mpr ⟨lw_p81, List.forall_mem_cons.mpr ⟨lw_p82, List.forall_mem_cons.mpr ⟨lw_p83, List.forall_mem_cons.mpr ⟨lw_p84, List.forall_mem_cons.mpr ⟨lw_p85, List.forall_mem_cons.mpr ⟨lw_p86, List.forall_mem_cons.mpr ⟨lw_p87, List.forall_mem_cons.mpr ⟨lw_p88, List.forall_mem_cons.mpr ⟨lw_p89, List.forall_mem_cons.mpr ⟨lw_p90, List.forall_mem_cons.mpr ⟨lw_p91, List.forall_mem_cons.mpr ⟨lw_p92, List.forall_mem_cons.mpr ⟨lw_p93, List.forall_mem_cons.mpr ⟨lw_p94, List.forall_mem_cons.mpr ⟨lw_p95, fun _ h => absurd h List.not_mem_nil⟩⟩⟩⟩⟩⟩⟩⟩⟩⟩⟩⟩⟩⟩⟩⟩
theorem lw_p96 : lw_okq (⟨"OwnRainModel", "peopleOn", "(I)I"⟩, 53) := ⟨⟨by decide +kernel, by decide +kernel⟩, List.mem_of_getElem? (i := 1274) (by decide +kernel), List.mem_of_getElem? (i := 1804) (by decide +kernel), List.mem_of_getElem? (i := 1805) (by decide +kernel)⟩
theorem lw_p97 : lw_okq (⟨"OwnRainModel", "wasAt", "(II)I"⟩, 53) := ⟨⟨by decide +kernel, by decide +kernel⟩, List.mem_of_getElem? (i := 1274) (by decide +kernel), List.mem_of_getElem? (i := 1812) (by decide +kernel), List.mem_of_getElem? (i := 1813) (by decide +kernel)⟩
theorem lw_p98 : lw_okq (⟨"OwnRainModel", "begin", "()V"⟩, 53) := ⟨⟨by decide +kernel, by decide +kernel⟩, List.mem_of_getElem? (i := 1274) (by decide +kernel), List.mem_of_getElem? (i := 1825) (by decide +kernel), List.mem_of_getElem? (i := 1826) (by decide +kernel)⟩
theorem lw_p99 : lw_okq (⟨"OwnRainModel", "passOnward", "()V"⟩, 53) := ⟨⟨by decide +kernel, by decide +kernel⟩, List.mem_of_getElem? (i := 1274) (by decide +kernel), List.mem_of_getElem? (i := 1829) (by decide +kernel), List.mem_of_getElem? (i := 1830) (by decide +kernel)⟩
theorem lw_p100 : lw_okq (⟨"OwnRainModel", "putBack", "()V"⟩, 53) := ⟨⟨by decide +kernel, by decide +kernel⟩, List.mem_of_getElem? (i := 1274) (by decide +kernel), List.mem_of_getElem? (i := 1833) (by decide +kernel), List.mem_of_getElem? (i := 1834) (by decide +kernel)⟩
theorem lw_p101 : lw_okq (⟨"OwnRainModel", "sweatBy", "(III)I"⟩, 53) := ⟨⟨by decide +kernel, by decide +kernel⟩, List.mem_of_getElem? (i := 1274) (by decide +kernel), List.mem_of_getElem? (i := 1846) (by decide +kernel), List.mem_of_getElem? (i := 1847) (by decide +kernel)⟩
theorem lw_p102 : lw_okq (⟨"OwnRainModel", "sweatAllFor", "(I)I"⟩, 53) := ⟨⟨by decide +kernel, by decide +kernel⟩, List.mem_of_getElem? (i := 1274) (by decide +kernel), List.mem_of_getElem? (i := 1850) (by decide +kernel), List.mem_of_getElem? (i := 1851) (by decide +kernel)⟩
theorem lw_p103 : lw_okq (⟨"OwnRainModel", "layWorkers", "(II)Z"⟩, 53) := ⟨⟨by decide +kernel, by decide +kernel⟩, List.mem_of_getElem? (i := 1274) (by decide +kernel), List.mem_of_getElem? (i := 1858) (by decide +kernel), List.mem_of_getElem? (i := 1859) (by decide +kernel)⟩
theorem lw_p104 : lw_okq (⟨"OwnRainModel", "findYields", "(I)V"⟩, 53) := ⟨⟨by decide +kernel, by decide +kernel⟩, List.mem_of_getElem? (i := 1274) (by decide +kernel), List.mem_of_getElem? (i := 1865) (by decide +kernel), List.mem_of_getElem? (i := 1866) (by decide +kernel)⟩
theorem lw_p105 : lw_okq (⟨"OwnRainModel", "nextOrder", "(I)Z"⟩, 53) := ⟨⟨by decide +kernel, by decide +kernel⟩, List.mem_of_getElem? (i := 1274) (by decide +kernel), List.mem_of_getElem? (i := 1869) (by decide +kernel), List.mem_of_getElem? (i := 1870) (by decide +kernel)⟩
theorem lw_p106 : lw_okq (⟨"OwnRainModel", "findRoads", "(II)V"⟩, 53) := ⟨⟨by decide +kernel, by decide +kernel⟩, List.mem_of_getElem? (i := 1274) (by decide +kernel), List.mem_of_getElem? (i := 1881) (by decide +kernel), List.mem_of_getElem? (i := 1882) (by decide +kernel)⟩
theorem lw_p107 : lw_okq (⟨"OwnRainModel", "canCome", "(II)Z"⟩, 53) := ⟨⟨by decide +kernel, by decide +kernel⟩, List.mem_of_getElem? (i := 1274) (by decide +kernel), List.mem_of_getElem? (i := 1885) (by decide +kernel), List.mem_of_getElem? (i := 1886) (by decide +kernel)⟩
theorem lw_p108 : lw_okq (⟨"OwnRainModel", "nextField", "(II)I"⟩, 53) := ⟨⟨by decide +kernel, by decide +kernel⟩, List.mem_of_getElem? (i := 1274) (by decide +kernel), List.mem_of_getElem? (i := 1889) (by decide +kernel), List.mem_of_getElem? (i := 1890) (by decide +kernel)⟩
theorem lw_p109 : lw_okq (⟨"OwnRainModel", "nearOf", "(I)I"⟩, 53) := ⟨⟨by decide +kernel, by decide +kernel⟩, List.mem_of_getElem? (i := 1274) (by decide +kernel), List.mem_of_getElem? (i := 1905) (by decide +kernel), List.mem_of_getElem? (i := 1906) (by decide +kernel)⟩
theorem lw_p110 : lw_okq (⟨"OwnRainModel", "errorsOf", "(IZ)I"⟩, 53) := ⟨⟨by decide +kernel, by decide +kernel⟩, List.mem_of_getElem? (i := 1274) (by decide +kernel), List.mem_of_getElem? (i := 1930) (by decide +kernel), List.mem_of_getElem? (i := 1931) (by decide +kernel)⟩
theorem lw_p111 : lw_okq (⟨"OwnRainModel", "tradedAt", "(I)I"⟩, 53) := ⟨⟨by decide +kernel, by decide +kernel⟩, List.mem_of_getElem? (i := 1274) (by decide +kernel), List.mem_of_getElem? (i := 1946) (by decide +kernel), List.mem_of_getElem? (i := 1947) (by decide +kernel)⟩
def lw_privs_7 : List (MethodName × Nat) := [(⟨"OwnRainModel", "peopleOn", "(I)I"⟩, 53), (⟨"OwnRainModel", "wasAt", "(II)I"⟩, 53), (⟨"OwnRainModel", "begin", "()V"⟩, 53), (⟨"OwnRainModel", "passOnward", "()V"⟩, 53), (⟨"OwnRainModel", "putBack", "()V"⟩, 53), (⟨"OwnRainModel", "sweatBy", "(III)I"⟩, 53), (⟨"OwnRainModel", "sweatAllFor", "(I)I"⟩, 53), (⟨"OwnRainModel", "layWorkers", "(II)Z"⟩, 53), (⟨"OwnRainModel", "findYields", "(I)V"⟩, 53), (⟨"OwnRainModel", "nextOrder", "(I)Z"⟩, 53), (⟨"OwnRainModel", "findRoads", "(II)V"⟩, 53), (⟨"OwnRainModel", "canCome", "(II)Z"⟩, 53), (⟨"OwnRainModel", "nextField", "(II)I"⟩, 53), (⟨"OwnRainModel", "nearOf", "(I)I"⟩, 53), (⟨"OwnRainModel", "errorsOf", "(IZ)I"⟩, 53), (⟨"OwnRainModel", "tradedAt", "(I)I"⟩, 53)]
theorem lw_r7 : ∀ q ∈ lw_privs_7, lw_okq q := List.forall_mem_cons.mpr ⟨lw_p96, List.forall_mem_cons.mpr ⟨lw_p97, List.forall_mem_cons.mpr ⟨lw_p98, List.forall_mem_cons.mpr ⟨lw_p99, List.forall_mem_cons.mpr ⟨lw_p100, List.forall_mem_cons.mpr ⟨lw_p101, List.forall_mem_cons.mpr ⟨lw_p102, List.forall_mem_cons.mpr ⟨lw_p103, List.forall_mem_cons.mpr ⟨lw_p104, List.forall_mem_cons.mpr ⟨lw_p105, List.forall_mem_cons.mpr ⟨lw_p106, List.forall_mem_cons.mpr ⟨lw_p107, List.forall_mem_cons.mpr ⟨lw_p108, List.forall_mem_cons.mpr ⟨lw_p109, List.forall_mem_cons.mpr ⟨lw_p110, List.forall_mem_cons.mpr ⟨lw_p111, fun _ h => absurd h List.not_mem_nil⟩⟩⟩⟩⟩⟩⟩⟩⟩⟩⟩⟩⟩⟩⟩⟩
def lw_privs : List (MethodName × Nat) := lw_privs_1 ++ (lw_privs_2 ++ (lw_privs_3 ++ (lw_privs_4 ++ (lw_privs_5 ++ (lw_privs_6 ++ (lw_privs_7))))))
def lw_tbl : List Cond := k2_sels lw_privs ++ tables_1
theorem lw_privs_ok : ∀ q ∈ lw_privs, lw_okq q := by
  show ∀ q ∈ lw_privs_1 ++ (lw_privs_2 ++ (lw_privs_3 ++ (lw_privs_4 ++ (lw_privs_5 ++ (lw_privs_6 ++ (lw_privs_7)))))), lw_okq q
  exact List.forall_mem_append.mpr ⟨lw_r1, List.forall_mem_append.mpr ⟨lw_r2, List.forall_mem_append.mpr ⟨lw_r3, List.forall_mem_append.mpr ⟨lw_r4, List.forall_mem_append.mpr ⟨lw_r5, List.forall_mem_append.mpr ⟨lw_r6, lw_r7⟩⟩⟩⟩⟩⟩
end
section
def RX0 : String := "OwnRain$Land"
def TX0 : u_T := fun k => match k with
  | 0 => ("OwnRain$Land", "fields", "I", false)
  | 1 => ("OwnRain$Land", "people", "I", false)
  | 2 => ("OwnRain$Land", "heat", "[I", true)
  | 3 => ("OwnRain$Land", "needs", "[I", true)
  | 4 => ("OwnRain$Land", "drowns", "[I", true)
  | 5 => ("OwnRain$Land", "roads", "[I", true)
  | 6 => ("OwnRain$Land", "full", "[I", true)
  | 7 => ("OwnRain$Land", "age", "[I", true)
  | 8 => ("OwnRain$Land", "home", "[I", true)
  | _ => ("OwnRain$Land", "brought", "[I", true)
def tyX0 : Nat → FieldType := fun k => match k with
  | 0 => .int
  | 1 => .int
  | 2 => .array .int
  | 3 => .array .int
  | 4 => .array .int
  | 5 => .array .int
  | 6 => .array .int
  | 7 => .array .int
  | 8 => .array .int
  | _ => .array .int
theorem nmX0 : ∀ a, a < 10 → ∀ b, b < 10 → a ≠ b → (TX0 a).2.1 ≠ (TX0 b).2.1 := by decide +kernel
theorem tyX0_ok : ∀ k, k < 10 → parseFieldDescriptor (TX0 k).2.2.1 = some (tyX0 k) := by decide +kernel
abbrev cX0_init : ByteArray := prog_2_method_1_code
def yX0_init : MethodName := ⟨RX0, "<init>", "()V"⟩
abbrev cX0_hasField : ByteArray := prog_2_method_2_code
def yX0_hasField : MethodName := ⟨RX0, "hasField", "(I)Z"⟩
abbrev cX0_hasPerson : ByteArray := prog_2_method_3_code
def yX0_hasPerson : MethodName := ⟨RX0, "hasPerson", "(I)Z"⟩
abbrev cX0_hasRoad : ByteArray := prog_2_method_4_code
def yX0_hasRoad : MethodName := ⟨RX0, "hasRoad", "(II)Z"⟩
abbrev cX0_addField : ByteArray := prog_2_method_5_code
def yX0_addField : MethodName := ⟨RX0, "addField", "(III)I"⟩
abbrev cX0_addRoad : ByteArray := prog_2_method_6_code
def yX0_addRoad : MethodName := ⟨RX0, "addRoad", "(II)V"⟩
abbrev cX0_addPerson : ByteArray := prog_2_method_7_code
def yX0_addPerson : MethodName := ⟨RX0, "addPerson", "(IIII)I"⟩
abbrev cX0_copyFrom : ByteArray := prog_2_method_8_code
def yX0_copyFrom : MethodName := ⟨RX0, "copyFrom", "(LOwnRain$Land;)V"⟩
def RX1 : String := "OwnRain$Lists"
def TX1 : u_T := fun k => match k with
  | 0 => ("OwnRain$Lists", "missing", "I", false)
  | 1 => ("OwnRain$Lists", "forecasts", "I", false)
  | 2 => ("OwnRain$Lists", "offers", "I", false)
  | 3 => ("OwnRain$Lists", "victim", "[I", true)
  | 4 => ("OwnRain$Lists", "from", "[I", true)
  | 5 => ("OwnRain$Lists", "to", "[I", true)
  | 6 => ("OwnRain$Lists", "foretold", "[I", true)
  | 7 => ("OwnRain$Lists", "hot", "[Z", true)
  | 8 => ("OwnRain$Lists", "buys", "[Z", true)
  | 9 => ("OwnRain$Lists", "price", "[I", true)
  | _ => ("OwnRain$Lists", "drops", "[I", true)
def tyX1 : Nat → FieldType := fun k => match k with
  | 0 => .int
  | 1 => .int
  | 2 => .int
  | 3 => .array .int
  | 4 => .array .int
  | 5 => .array .int
  | 6 => .array .int
  | 7 => .array .boolean
  | 8 => .array .boolean
  | 9 => .array .int
  | _ => .array .int
theorem nmX1 : ∀ a, a < 11 → ∀ b, b < 11 → a ≠ b → (TX1 a).2.1 ≠ (TX1 b).2.1 := by decide +kernel
theorem tyX1_ok : ∀ k, k < 11 → parseFieldDescriptor (TX1 k).2.2.1 = some (tyX1 k) := by decide +kernel
abbrev cX1_init : ByteArray := prog_3_method_1_code
def yX1_init : MethodName := ⟨RX1, "<init>", "()V"⟩
abbrev cX1_addMissing : ByteArray := prog_3_method_2_code
def yX1_addMissing : MethodName := ⟨RX1, "addMissing", "(III)I"⟩
abbrev cX1_addForecast : ByteArray := prog_3_method_3_code
def yX1_addForecast : MethodName := ⟨RX1, "addForecast", "(IZ)I"⟩
abbrev cX1_addOffer : ByteArray := prog_3_method_4_code
def yX1_addOffer : MethodName := ⟨RX1, "addOffer", "(ZII)I"⟩
abbrev cX1_misses : ByteArray := prog_3_method_5_code
def yX1_misses : MethodName := ⟨RX1, "misses", "(I)I"⟩
abbrev cX1_falseAlarms : ByteArray := prog_3_method_6_code
def yX1_falseAlarms : MethodName := ⟨RX1, "falseAlarms", "(I)I"⟩
abbrev cX1_traded : ByteArray := prog_3_method_7_code
def yX1_traded : MethodName := ⟨RX1, "traded", "(I)I"⟩
abbrev cX1_copyFrom : ByteArray := prog_3_method_8_code
def yX1_copyFrom : MethodName := ⟨RX1, "copyFrom", "(LOwnRain$Lists;)V"⟩
def RX2 : String := "OwnRain$Planner"
def TX2 : u_T := fun k => match k with
  | 0 => ("OwnRain$Planner", "least", "I", false)
  | 1 => ("OwnRain$Planner", "best", "[I", true)
  | 2 => ("OwnRain$Planner", "state", "LOwnRain$State;", true)
  | 3 => ("OwnRain$Planner", "weather", "LOwnRain$Weather;", true)
  | 4 => ("OwnRain$Planner", "worlds", "[LOwnRain$World;", true)
  | 5 => ("OwnRain$Planner", "tried", "[I", true)
  | 6 => ("OwnRain$Planner", "grown", "[I", true)
  | 7 => ("OwnRain$Planner", "places", "[I", true)
  | 8 => ("OwnRain$Planner", "sweats", "[I", true)
  | _ => ("OwnRain$Planner", "most", "[I", true)
def tyX2 : Nat → FieldType := fun k => match k with
  | 0 => .int
  | 1 => .array .int
  | 2 => .object "OwnRain$State"
  | 3 => .object "OwnRain$Weather"
  | 4 => .array (.object "OwnRain$World")
  | 5 => .array .int
  | 6 => .array .int
  | 7 => .array .int
  | 8 => .array .int
  | _ => .array .int
theorem nmX2 : ∀ a, a < 10 → ∀ b, b < 10 → a ≠ b → (TX2 a).2.1 ≠ (TX2 b).2.1 := by decide +kernel
theorem tyX2_ok : ∀ k, k < 10 → parseFieldDescriptor (TX2 k).2.2.1 = some (tyX2 k) := by decide +kernel
abbrev cX2_init : ByteArray := prog_4_method_1_code
def yX2_init : MethodName := ⟨RX2, "<init>", "(LOwnRain$State;LOwnRain$Weather;)V"⟩
abbrev cX2_freshWorld : ByteArray := prog_4_method_2_code
def yX2_freshWorld : MethodName := ⟨RX2, "freshWorld", "()LOwnRain$World;"⟩
abbrev cX2_foretell : ByteArray := prog_4_method_3_code
def yX2_foretell : MethodName := ⟨RX2, "foretell", "(I)LOwnRain$World;"⟩
abbrev cX2_firstRain : ByteArray := prog_4_method_4_code
def yX2_firstRain : MethodName := ⟨RX2, "firstRain", "(II)I"⟩
abbrev cX2_planWork : ByteArray := prog_4_method_5_code
def yX2_planWork : MethodName := ⟨RX2, "planWork", "(II)V"⟩
abbrev cX2_tryWork : ByteArray := prog_4_method_6_code
def yX2_tryWork : MethodName := ⟨RX2, "tryWork", "(IIIIZ)V"⟩
abbrev cX2_harmlessTax : ByteArray := prog_4_method_7_code
def yX2_harmlessTax : MethodName := ⟨RX2, "harmlessTax", "(I)I"⟩
abbrev cX2_growsAsMuch : ByteArray := prog_4_method_8_code
def yX2_growsAsMuch : MethodName := ⟨RX2, "growsAsMuch", "(LOwnRain$World;)Z"⟩
abbrev cX2_assign : ByteArray := prog_4_method_9_code
def yX2_assign : MethodName := ⟨RX2, "assign", "(II)I"⟩
abbrev cX2_sweatAt : ByteArray := prog_4_method_10_code
def yX2_sweatAt : MethodName := ⟨RX2, "sweatAt", "(II)I"⟩
abbrev cX2_mostBeyond : ByteArray := prog_4_method_11_code
def yX2_mostBeyond : MethodName := ⟨RX2, "mostBeyond", "(III)I"⟩
abbrev cX2_nextOf : ByteArray := prog_4_method_12_code
def yX2_nextOf : MethodName := ⟨RX2, "nextOf", "(II)I"⟩
abbrev cX2_lowestPlace : ByteArray := prog_4_method_13_code
def yX2_lowestPlace : MethodName := ⟨RX2, "lowestPlace", "(III)I"⟩
def RX3 : String := "OwnRain$Reader"
def TX3 : u_T := fun k => match k with
  | 0 => ("OwnRain$Reader", "fault", "I", false)
  | 1 => ("OwnRain$Reader", "place", "I", false)
  | 2 => ("OwnRain$Reader", "tape", "LOwnRain$Tape;", true)
  | 3 => ("OwnRain$Reader", "draft", "LOwnRain$Text;", false)
  | 4 => ("OwnRain$Reader", "law", "I", false)
  | 5 => ("OwnRain$Reader", "index", "I", false)
  | _ => ("OwnRain$Reader", "token", "I", false)
def tyX3 : Nat → FieldType := fun k => match k with
  | 0 => .int
  | 1 => .int
  | 2 => .object "OwnRain$Tape"
  | 3 => .object "OwnRain$Text"
  | 4 => .int
  | 5 => .int
  | _ => .int
theorem nmX3 : ∀ a, a < 7 → ∀ b, b < 7 → a ≠ b → (TX3 a).2.1 ≠ (TX3 b).2.1 := by decide +kernel
theorem tyX3_ok : ∀ k, k < 7 → parseFieldDescriptor (TX3 k).2.2.1 = some (tyX3 k) := by decide +kernel
abbrev cX3_init : ByteArray := prog_5_method_1_code
def yX3_init : MethodName := ⟨RX3, "<init>", "(LOwnRain$Tape;)V"⟩
abbrev cX3_readTape : ByteArray := prog_5_method_2_code
def yX3_readTape : MethodName := ⟨RX3, "readTape", "()LOwnRain$Text;"⟩
abbrev cX3_advance : ByteArray := prog_5_method_3_code
def yX3_advance : MethodName := ⟨RX3, "advance", "()V"⟩
abbrev cX3_fail : ByteArray := prog_5_method_4_code
def yX3_fail : MethodName := ⟨RX3, "fail", "(I)V"⟩
abbrev cX3_readClause : ByteArray := prog_5_method_5_code
def yX3_readClause : MethodName := ⟨RX3, "readClause", "(I)V"⟩
abbrev cX3_readLaw : ByteArray := prog_5_method_6_code
def yX3_readLaw : MethodName := ⟨RX3, "readLaw", "(I)V"⟩
abbrev cX3_readParts : ByteArray := prog_5_method_7_code
def yX3_readParts : MethodName := ⟨RX3, "readParts", "(II)V"⟩
abbrev cX3_expect : ByteArray := prog_5_method_8_code
def yX3_expect : MethodName := ⟨RX3, "expect", "(I)V"⟩
abbrev cX3_expectNumber : ByteArray := prog_5_method_9_code
def yX3_expectNumber : MethodName := ⟨RX3, "expectNumber", "(II)V"⟩
abbrev cX3_readEither : ByteArray := prog_5_method_10_code
def yX3_readEither : MethodName := ⟨RX3, "readEither", "(I)V"⟩
abbrev cX3_readBoth : ByteArray := prog_5_method_11_code
def yX3_readBoth : MethodName := ⟨RX3, "readBoth", "(I)V"⟩
abbrev cX3_readAsk : ByteArray := prog_5_method_12_code
def yX3_readAsk : MethodName := ⟨RX3, "readAsk", "(I)V"⟩
abbrev cX3_readSum : ByteArray := prog_5_method_13_code
def yX3_readSum : MethodName := ⟨RX3, "readSum", "(IZ)V"⟩
abbrev cX3_readProduct : ByteArray := prog_5_method_14_code
def yX3_readProduct : MethodName := ⟨RX3, "readProduct", "(IZ)V"⟩
abbrev cX3_readOne : ByteArray := prog_5_method_15_code
def yX3_readOne : MethodName := ⟨RX3, "readOne", "(IZ)V"⟩
abbrev cX3_readGroup : ByteArray := prog_5_method_16_code
def yX3_readGroup : MethodName := ⟨RX3, "readGroup", "(I)V"⟩
abbrev cX3_readName : ByteArray := prog_5_method_17_code
def yX3_readName : MethodName := ⟨RX3, "readName", "(Z)V"⟩
abbrev cX3_opens : ByteArray := prog_5_method_18_code
def yX3_opens : MethodName := ⟨RX3, "opens", "(I)Z"⟩
abbrev cX3_isName : ByteArray := prog_5_method_19_code
def yX3_isName : MethodName := ⟨RX3, "isName", "(I)Z"⟩
abbrev cX3_isOwnName : ByteArray := prog_5_method_20_code
def yX3_isOwnName : MethodName := ⟨RX3, "isOwnName", "(I)Z"⟩
def RX4 : String := "OwnRain$State"
def TX4 : u_T := fun k => match k with
  | 0 => ("OwnRain$State", "land", "LOwnRain$Land;", true)
  | 1 => ("OwnRain$State", "world", "LOwnRain$World;", true)
  | 2 => ("OwnRain$State", "steps", "LOwnRain$Steps;", true)
  | 3 => ("OwnRain$State", "lists", "LOwnRain$Lists;", true)
  | 4 => ("OwnRain$State", "texts", "[LOwnRain$Text;", true)
  | 5 => ("OwnRain$State", "textCount", "I", false)
  | _ => ("OwnRain$State", "ruling", "I", false)
def tyX4 : Nat → FieldType := fun k => match k with
  | 0 => .object "OwnRain$Land"
  | 1 => .object "OwnRain$World"
  | 2 => .object "OwnRain$Steps"
  | 3 => .object "OwnRain$Lists"
  | 4 => .array (.object "OwnRain$Text")
  | 5 => .int
  | _ => .int
theorem nmX4 : ∀ a, a < 7 → ∀ b, b < 7 → a ≠ b → (TX4 a).2.1 ≠ (TX4 b).2.1 := by decide +kernel
theorem tyX4_ok : ∀ k, k < 7 → parseFieldDescriptor (TX4 k).2.2.1 = some (tyX4 k) := by decide +kernel
abbrev cX4_init : ByteArray := prog_6_method_1_code
def yX4_init : MethodName := ⟨RX4, "<init>", "()V"⟩
abbrev cX4_hasText : ByteArray := prog_6_method_2_code
def yX4_hasText : MethodName := ⟨RX4, "hasText", "(I)Z"⟩
abbrev cX4_addText : ByteArray := prog_6_method_3_code
def yX4_addText : MethodName := ⟨RX4, "addText", "(LOwnRain$Text;)I"⟩
abbrev cX4_rules : ByteArray := prog_6_method_4_code
def yX4_rules : MethodName := ⟨RX4, "rules", "()LOwnRain$Text;"⟩
abbrev cX4_canGo : ByteArray := prog_6_method_5_code
def yX4_canGo : MethodName := ⟨RX4, "canGo", "(II)Z"⟩
abbrev cX4_canMeet : ByteArray := prog_6_method_6_code
def yX4_canMeet : MethodName := ⟨RX4, "canMeet", "(II)Z"⟩
abbrev cX4_canTake : ByteArray := prog_6_method_7_code
def yX4_canTake : MethodName := ⟨RX4, "canTake", "(III)Z"⟩
abbrev cX4_keepStep : ByteArray := prog_6_method_8_code
def yX4_keepStep : MethodName := ⟨RX4, "keepStep", "()V"⟩
abbrev cX4_takeBack : ByteArray := prog_6_method_9_code
def yX4_takeBack : MethodName := ⟨RX4, "takeBack", "()I"⟩
abbrev cX4_copyFrom : ByteArray := prog_6_method_10_code
def yX4_copyFrom : MethodName := ⟨RX4, "copyFrom", "(LOwnRain$State;)V"⟩
def RX5 : String := "OwnRain$Steps"
def TX5 : u_T := fun k => match k with
  | 0 => ("OwnRain$Steps", "count", "I", false)
  | 1 => ("OwnRain$Steps", "next", "I", false)
  | 2 => ("OwnRain$Steps", "worlds", "[LOwnRain$World;", true)
  | _ => ("OwnRain$Steps", "people", "[I", true)
def tyX5 : Nat → FieldType := fun k => match k with
  | 0 => .int
  | 1 => .int
  | 2 => .array (.object "OwnRain$World")
  | _ => .array .int
theorem nmX5 : ∀ a, a < 4 → ∀ b, b < 4 → a ≠ b → (TX5 a).2.1 ≠ (TX5 b).2.1 := by decide +kernel
theorem tyX5_ok : ∀ k, k < 4 → parseFieldDescriptor (TX5 k).2.2.1 = some (tyX5 k) := by decide +kernel
abbrev cX5_init : ByteArray := prog_7_method_1_code
def yX5_init : MethodName := ⟨RX5, "<init>", "()V"⟩
abbrev cX5_keep : ByteArray := prog_7_method_2_code
def yX5_keep : MethodName := ⟨RX5, "keep", "(LOwnRain$World;I)V"⟩
abbrev cX5_takeBack : ByteArray := prog_7_method_3_code
def yX5_takeBack : MethodName := ⟨RX5, "takeBack", "(LOwnRain$World;)I"⟩
abbrev cX5_copyFrom : ByteArray := prog_7_method_4_code
def yX5_copyFrom : MethodName := ⟨RX5, "copyFrom", "(LOwnRain$Steps;)V"⟩
def RX6 : String := "OwnRain$Tape"
def TX6 : u_T := fun k => match k with
  | 0 => ("OwnRain$Tape", "length", "I", false)
  | 1 => ("OwnRain$Tape", "tokens", "I", false)
  | 2 => ("OwnRain$Tape", "token", "[I", true)
  | 3 => ("OwnRain$Tape", "number", "[I", true)
  | 4 => ("OwnRain$Tape", "place", "[I", true)
  | _ => ("OwnRain$Tape", "bytes", "[I", true)
def tyX6 : Nat → FieldType := fun k => match k with
  | 0 => .int
  | 1 => .int
  | 2 => .array .int
  | 3 => .array .int
  | 4 => .array .int
  | _ => .array .int
theorem nmX6 : ∀ a, a < 6 → ∀ b, b < 6 → a ≠ b → (TX6 a).2.1 ≠ (TX6 b).2.1 := by decide +kernel
theorem tyX6_ok : ∀ k, k < 6 → parseFieldDescriptor (TX6 k).2.2.1 = some (tyX6 k) := by decide +kernel
abbrev cX6_init : ByteArray := prog_8_method_1_code
def yX6_init : MethodName := ⟨RX6, "<init>", "()V"⟩
abbrev cX6_append : ByteArray := prog_8_method_2_code
def yX6_append : MethodName := ⟨RX6, "append", "(I)V"⟩
abbrev cX6_findTokens : ByteArray := prog_8_method_3_code
def yX6_findTokens : MethodName := ⟨RX6, "findTokens", "()V"⟩
abbrev cX6_addToken : ByteArray := prog_8_method_4_code
def yX6_addToken : MethodName := ⟨RX6, "addToken", "(II)V"⟩
abbrev cX6_addWord : ByteArray := prog_8_method_5_code
def yX6_addWord : MethodName := ⟨RX6, "addWord", "(I)I"⟩
abbrev cX6_addNumber : ByteArray := prog_8_method_6_code
def yX6_addNumber : MethodName := ⟨RX6, "addNumber", "(I)I"⟩
abbrev cX6_addSign : ByteArray := prog_8_method_7_code
def yX6_addSign : MethodName := ⟨RX6, "addSign", "(I)I"⟩
abbrev cX6_wordOf : ByteArray := prog_8_method_8_code
def yX6_wordOf : MethodName := ⟨RX6, "wordOf", "(II)I"⟩
abbrev cX6_isLetter : ByteArray := prog_8_method_9_code
def yX6_isLetter : MethodName := ⟨RX6, "isLetter", "(I)Z"⟩
abbrev cX6_isDigit : ByteArray := prog_8_method_10_code
def yX6_isDigit : MethodName := ⟨RX6, "isDigit", "(I)Z"⟩
def RX7 : String := "OwnRain$Text"
def TX7 : u_T := fun k => match k with
  | 0 => ("OwnRain$Text", "clauses", "I", false)
  | 1 => ("OwnRain$Text", "kinds", "[I", true)
  | 2 => ("OwnRain$Text", "parts", "[I", true)
  | 3 => ("OwnRain$Text", "code", "[I", true)
  | 4 => ("OwnRain$Text", "operand", "[I", true)
  | 5 => ("OwnRain$Text", "codeLength", "I", false)
  | 6 => ("OwnRain$Text", "groupFrom", "[I", true)
  | 7 => ("OwnRain$Text", "groupTo", "[I", true)
  | 8 => ("OwnRain$Text", "groups", "I", false)
  | 9 => ("OwnRain$Text", "lawFrom", "[I", true)
  | 10 => ("OwnRain$Text", "lawTo", "[I", true)
  | 11 => ("OwnRain$Text", "lawGroupsFrom", "[I", true)
  | _ => ("OwnRain$Text", "lawGroupsTo", "[I", true)
def tyX7 : Nat → FieldType := fun k => match k with
  | 0 => .int
  | 1 => .array .int
  | 2 => .array .int
  | 3 => .array .int
  | 4 => .array .int
  | 5 => .int
  | 6 => .array .int
  | 7 => .array .int
  | 8 => .int
  | 9 => .array .int
  | 10 => .array .int
  | 11 => .array .int
  | _ => .array .int
theorem nmX7 : ∀ a, a < 13 → ∀ b, b < 13 → a ≠ b → (TX7 a).2.1 ≠ (TX7 b).2.1 := by decide +kernel
theorem tyX7_ok : ∀ k, k < 13 → parseFieldDescriptor (TX7 k).2.2.1 = some (tyX7 k) := by decide +kernel
abbrev cX7_init : ByteArray := prog_9_method_1_code
def yX7_init : MethodName := ⟨RX7, "<init>", "()V"⟩
abbrev cX7_hasLaw : ByteArray := prog_9_method_2_code
def yX7_hasLaw : MethodName := ⟨RX7, "hasLaw", "(I)Z"⟩
abbrev cX7_write : ByteArray := prog_9_method_3_code
def yX7_write : MethodName := ⟨RX7, "write", "(II)V"⟩
def RX8 : String := "OwnRain$Ways"
def TX8 : u_T := fun k => match k with
  | 0 => ("OwnRain$Ways", "left", "[I", true)
  | 1 => ("OwnRain$Ways", "wide", "[I", true)
  | _ => ("OwnRain$Ways", "state", "LOwnRain$State;", true)
def tyX8 : Nat → FieldType := fun k => match k with
  | 0 => .array .int
  | 1 => .array .int
  | _ => .object "OwnRain$State"
theorem nmX8 : ∀ a, a < 3 → ∀ b, b < 3 → a ≠ b → (TX8 a).2.1 ≠ (TX8 b).2.1 := by decide +kernel
theorem tyX8_ok : ∀ k, k < 3 → parseFieldDescriptor (TX8 k).2.2.1 = some (tyX8 k) := by decide +kernel
abbrev cX8_init : ByteArray := prog_10_method_1_code
def yX8_init : MethodName := ⟨RX8, "<init>", "(LOwnRain$State;)V"⟩
abbrev cX8_measure : ByteArray := prog_10_method_2_code
def yX8_measure : MethodName := ⟨RX8, "measure", "(II)V"⟩
abbrev cX8_nextField : ByteArray := prog_10_method_3_code
def yX8_nextField : MethodName := ⟨RX8, "nextField", "(III)I"⟩
abbrev cX8_comeTo : ByteArray := prog_10_method_4_code
def yX8_comeTo : MethodName := ⟨RX8, "comeTo", "(III)I"⟩
abbrev cX8_width : ByteArray := prog_10_method_5_code
def yX8_width : MethodName := ⟨RX8, "width", "(II)I"⟩
abbrev cX8_widen : ByteArray := prog_10_method_6_code
def yX8_widen : MethodName := ⟨RX8, "widen", "(I)V"⟩
def RX9 : String := "OwnRain$Weather"
def TX9 : u_T := fun k => match k with
  | 0 => ("OwnRain$Weather", "tax", "I", false)
  | 1 => ("OwnRain$Weather", "sweat", "[I", true)
  | 2 => ("OwnRain$Weather", "wet", "[I", true)
  | 3 => ("OwnRain$Weather", "rainers", "I", false)
  | 4 => ("OwnRain$Weather", "state", "LOwnRain$State;", true)
  | 5 => ("OwnRain$Weather", "waiting", "[I", true)
  | 6 => ("OwnRain$Weather", "groups", "[I", true)
  | 7 => ("OwnRain$Weather", "world", "LOwnRain$World;", false)
  | 8 => ("OwnRain$Weather", "here", "I", false)
  | _ => ("OwnRain$Weather", "both", "I", false)
def tyX9 : Nat → FieldType := fun k => match k with
  | 0 => .int
  | 1 => .array .int
  | 2 => .array .int
  | 3 => .int
  | 4 => .object "OwnRain$State"
  | 5 => .array .int
  | 6 => .array .int
  | 7 => .object "OwnRain$World"
  | 8 => .int
  | _ => .int
theorem nmX9 : ∀ a, a < 10 → ∀ b, b < 10 → a ≠ b → (TX9 a).2.1 ≠ (TX9 b).2.1 := by decide +kernel
theorem tyX9_ok : ∀ k, k < 10 → parseFieldDescriptor (TX9 k).2.2.1 = some (tyX9 k) := by decide +kernel
abbrev cX9_init : ByteArray := prog_11_method_1_code
def yX9_init : MethodName := ⟨RX9, "<init>", "(LOwnRain$State;)V"⟩
abbrev cX9_pass : ByteArray := prog_11_method_2_code
def yX9_pass : MethodName := ⟨RX9, "pass", "(LOwnRain$World;)I"⟩
abbrev cX9_sweatOf : ByteArray := prog_11_method_3_code
def yX9_sweatOf : MethodName := ⟨RX9, "sweatOf", "(LOwnRain$World;I)I"⟩
abbrev cX9_rainFrom : ByteArray := prog_11_method_4_code
def yX9_rainFrom : MethodName := ⟨RX9, "rainFrom", "(LOwnRain$World;I)V"⟩
abbrev cX9_closeHour : ByteArray := prog_11_method_5_code
def yX9_closeHour : MethodName := ⟨RX9, "closeHour", "(LOwnRain$World;I)V"⟩
abbrev cX9_merge : ByteArray := prog_11_method_6_code
def yX9_merge : MethodName := ⟨RX9, "merge", "(LOwnRain$World;II)V"⟩
abbrev cX9_law : ByteArray := prog_11_method_7_code
def yX9_law : MethodName := ⟨RX9, "law", "(IILOwnRain$World;II)I"⟩
abbrev cX9_run : ByteArray := prog_11_method_8_code
def yX9_run : MethodName := ⟨RX9, "run", "(LOwnRain$Text;III)I"⟩
abbrev cX9_bounded : ByteArray := prog_11_method_9_code
def yX9_bounded : MethodName := ⟨RX9, "bounded", "(J)I"⟩
abbrev cX9_joined : ByteArray := prog_11_method_10_code
def yX9_joined : MethodName := ⟨RX9, "joined", "(IJJ)J"⟩
abbrev cX9_named : ByteArray := prog_11_method_11_code
def yX9_named : MethodName := ⟨RX9, "named", "(II)I"⟩
def RX10 : String := "OwnRain$World"
def TX10 : u_T := fun k => match k with
  | 0 => ("OwnRain$World", "wet", "[I", true)
  | 1 => ("OwnRain$World", "grown", "[I", true)
  | 2 => ("OwnRain$World", "flooded", "[I", true)
  | 3 => ("OwnRain$World", "cloud", "[I", true)
  | 4 => ("OwnRain$World", "work", "[I", true)
  | 5 => ("OwnRain$World", "at", "[I", true)
  | 6 => ("OwnRain$World", "cistern", "I", false)
  | 7 => ("OwnRain$World", "sweated", "I", false)
  | 8 => ("OwnRain$World", "dried", "I", false)
  | 9 => ("OwnRain$World", "hour", "I", false)
  | 10 => ("OwnRain$World", "x", "I", false)
  | 11 => ("OwnRain$World", "rainCount", "I", false)
  | 12 => ("OwnRain$World", "rainNext", "I", false)
  | 13 => ("OwnRain$World", "rains", "[I", true)
  | _ => ("OwnRain$World", "where", "[I", true)
def tyX10 : Nat → FieldType := fun k => match k with
  | 0 => .array .int
  | 1 => .array .int
  | 2 => .array .int
  | 3 => .array .int
  | 4 => .array .int
  | 5 => .array .int
  | 6 => .int
  | 7 => .int
  | 8 => .int
  | 9 => .int
  | 10 => .int
  | 11 => .int
  | 12 => .int
  | 13 => .array .int
  | _ => .array .int
theorem nmX10 : ∀ a, a < 15 → ∀ b, b < 15 → a ≠ b → (TX10 a).2.1 ≠ (TX10 b).2.1 := by decide +kernel
theorem tyX10_ok : ∀ k, k < 15 → parseFieldDescriptor (TX10 k).2.2.1 = some (tyX10 k) := by decide +kernel
abbrev cX10_init : ByteArray := prog_12_method_1_code
def yX10_init : MethodName := ⟨RX10, "<init>", "()V"⟩
abbrev cX10_copyFrom : ByteArray := prog_12_method_2_code
def yX10_copyFrom : MethodName := ⟨RX10, "copyFrom", "(LOwnRain$World;)V"⟩
abbrev cX10_settle : ByteArray := prog_12_method_3_code
def yX10_settle : MethodName := ⟨RX10, "settle", "(III)V"⟩
abbrev cX10_take : ByteArray := prog_12_method_4_code
def yX10_take : MethodName := ⟨RX10, "take", "(III)V"⟩
abbrev cX10_drawAnew : ByteArray := prog_12_method_5_code
def yX10_drawAnew : MethodName := ⟨RX10, "drawAnew", "()V"⟩
abbrev cX10_peopleOn : ByteArray := prog_12_method_6_code
def yX10_peopleOn : MethodName := ⟨RX10, "peopleOn", "(II)I"⟩
abbrev cX10_writeRain : ByteArray := prog_12_method_7_code
def yX10_writeRain : MethodName := ⟨RX10, "writeRain", "(III)V"⟩
abbrev cX10_rain : ByteArray := prog_12_method_8_code
def yX10_rain : MethodName := ⟨RX10, "rain", "(I)I"⟩
abbrev cX10_rainDrops : ByteArray := prog_12_method_9_code
def yX10_rainDrops : MethodName := ⟨RX10, "rainDrops", "(I)I"⟩
abbrev cX10_rainField : ByteArray := prog_12_method_10_code
def yX10_rainField : MethodName := ⟨RX10, "rainField", "(I)I"⟩
abbrev cX10_rainPerson : ByteArray := prog_12_method_11_code
def yX10_rainPerson : MethodName := ⟨RX10, "rainPerson", "(I)I"⟩
abbrev cX10_rainHour : ByteArray := prog_12_method_12_code
def yX10_rainHour : MethodName := ⟨RX10, "rainHour", "(I)I"⟩
abbrev cX10_writeWhere : ByteArray := prog_12_method_13_code
def yX10_writeWhere : MethodName := ⟨RX10, "writeWhere", "(I)V"⟩
abbrev cX10_whereWas : ByteArray := prog_12_method_14_code
def yX10_whereWas : MethodName := ⟨RX10, "whereWas", "(II)I"⟩
def RX11 : String := "OwnRain"
def TX11 : u_T := fun k => match k with
  | 0 => ("OwnRain", "now", "LOwnRain$State;", true)
  | 1 => ("OwnRain", "kept", "LOwnRain$State;", true)
  | 2 => ("OwnRain", "tape", "LOwnRain$Tape;", true)
  | 3 => ("OwnRain", "reader", "LOwnRain$Reader;", true)
  | 4 => ("OwnRain", "weather", "LOwnRain$Weather;", true)
  | 5 => ("OwnRain", "planner", "LOwnRain$Planner;", true)
  | _ => ("OwnRain", "ways", "LOwnRain$Ways;", true)
def tyX11 : Nat → FieldType := fun k => match k with
  | 0 => .object "OwnRain$State"
  | 1 => .object "OwnRain$State"
  | 2 => .object "OwnRain$Tape"
  | 3 => .object "OwnRain$Reader"
  | 4 => .object "OwnRain$Weather"
  | 5 => .object "OwnRain$Planner"
  | _ => .object "OwnRain$Ways"
theorem nmX11 : ∀ a, a < 7 → ∀ b, b < 7 → a ≠ b → (TX11 a).2.1 ≠ (TX11 b).2.1 := by decide +kernel
theorem tyX11_ok : ∀ k, k < 7 → parseFieldDescriptor (TX11 k).2.2.1 = some (tyX11 k) := by decide +kernel
abbrev cX11_init : ByteArray := prog_1_method_1_code
def yX11_init : MethodName := ⟨RX11, "<init>", "()V"⟩
abbrev cX11_field : ByteArray := prog_1_method_2_code
def yX11_field : MethodName := ⟨RX11, "field", "(III)I"⟩
abbrev cX11_road : ByteArray := prog_1_method_3_code
def yX11_road : MethodName := ⟨RX11, "road", "(II)Z"⟩
abbrev cX11_person : ByteArray := prog_1_method_4_code
def yX11_person : MethodName := ⟨RX11, "person", "(IIII)I"⟩
abbrev cX11_feed : ByteArray := prog_1_method_5_code
def yX11_feed : MethodName := ⟨RX11, "feed", "(IIIII)I"⟩
abbrev cX11_end : ByteArray := prog_1_method_6_code
def yX11_end : MethodName := ⟨RX11, "end", "(I)I"⟩
abbrev cX11_text : ByteArray := prog_1_method_7_code
def yX11_text : MethodName := ⟨RX11, "text", "()I"⟩
abbrev cX11_fault : ByteArray := prog_1_method_8_code
def yX11_fault : MethodName := ⟨RX11, "fault", "(I)I"⟩
abbrev cX11_by : ByteArray := prog_1_method_9_code
def yX11_by : MethodName := ⟨RX11, "by", "(I)Z"⟩
abbrev cX11_hour : ByteArray := prog_1_method_10_code
def yX11_hour : MethodName := ⟨RX11, "hour", "(I)I"⟩
abbrev cX11_work : ByteArray := prog_1_method_11_code
def yX11_work : MethodName := ⟨RX11, "work", "(II)Z"⟩
abbrev cX11_go : ByteArray := prog_1_method_12_code
def yX11_go : MethodName := ⟨RX11, "go", "(II)Z"⟩
abbrev cX11_shake : ByteArray := prog_1_method_13_code
def yX11_shake : MethodName := ⟨RX11, "shake", "(II)I"⟩
abbrev cX11_steal : ByteArray := prog_1_method_14_code
def yX11_steal : MethodName := ⟨RX11, "steal", "(III)I"⟩
abbrev cX11_pour : ByteArray := prog_1_method_15_code
def yX11_pour : MethodName := ⟨RX11, "pour", "(II)I"⟩
abbrev cX11_played : ByteArray := prog_1_method_16_code
def yX11_played : MethodName := ⟨RX11, "played", "(I)I"⟩
abbrev cX11_canDo : ByteArray := prog_1_method_17_code
def yX11_canDo : MethodName := ⟨RX11, "canDo", "(LOwnRain$Text;I)Z"⟩
abbrev cX11_year : ByteArray := prog_1_method_18_code
def yX11_year : MethodName := ⟨RX11, "year", "(II)I"⟩
abbrev cX11_draw : ByteArray := prog_1_method_19_code
def yX11_draw : MethodName := ⟨RX11, "draw", "()I"⟩
abbrev cX11_undo : ByteArray := prog_1_method_20_code
def yX11_undo : MethodName := ⟨RX11, "undo", "()I"⟩
abbrev cX11_ofField : ByteArray := prog_1_method_21_code
def yX11_ofField : MethodName := ⟨RX11, "ofField", "(II)I"⟩
abbrev cX11_ofPerson : ByteArray := prog_1_method_22_code
def yX11_ofPerson : MethodName := ⟨RX11, "ofPerson", "(II)I"⟩
abbrev cX11_rained : ByteArray := prog_1_method_23_code
def yX11_rained : MethodName := ⟨RX11, "rained", "(II)I"⟩
abbrev cX11_foretoldWet : ByteArray := prog_1_method_24_code
def yX11_foretoldWet : MethodName := ⟨RX11, "foretoldWet", "(II)I"⟩
abbrev cX11_foretoldCloud : ByteArray := prog_1_method_25_code
def yX11_foretoldCloud : MethodName := ⟨RX11, "foretoldCloud", "(IIZ)I"⟩
abbrev cX11_plan : ByteArray := prog_1_method_26_code
def yX11_plan : MethodName := ⟨RX11, "plan", "(III)I"⟩
abbrev cX11_match : ByteArray := prog_1_method_27_code
def yX11_match : MethodName := ⟨RX11, "match", "(III)I"⟩
abbrev cX11_shares : ByteArray := prog_1_method_28_code
def yX11_shares : MethodName := ⟨RX11, "shares", "(III)I"⟩
abbrev cX11_cross : ByteArray := prog_1_method_29_code
def yX11_cross : MethodName := ⟨RX11, "cross", "(IIII)I"⟩
abbrev cX11_widest : ByteArray := prog_1_method_30_code
def yX11_widest : MethodName := ⟨RX11, "widest", "(II)I"⟩
abbrev cX11_missing : ByteArray := prog_1_method_31_code
def yX11_missing : MethodName := ⟨RX11, "missing", "(III)I"⟩
abbrev cX11_near : ByteArray := prog_1_method_32_code
def yX11_near : MethodName := ⟨RX11, "near", "(I)I"⟩
abbrev cX11_nearOnes : ByteArray := prog_1_method_33_code
def yX11_nearOnes : MethodName := ⟨RX11, "nearOnes", "(I)I"⟩
abbrev cX11_thieves : ByteArray := prog_1_method_34_code
def yX11_thieves : MethodName := ⟨RX11, "thieves", "()I"⟩
abbrev cX11_filling : ByteArray := prog_1_method_35_code
def yX11_filling : MethodName := ⟨RX11, "filling", "(IIIIIZ)J"⟩
abbrev cX11_hotHours : ByteArray := prog_1_method_36_code
def yX11_hotHours : MethodName := ⟨RX11, "hotHours", "(II)[J"⟩
abbrev cX11_commonDivisor : ByteArray := prog_1_method_37_code
def yX11_commonDivisor : MethodName := ⟨RX11, "commonDivisor", "(JJ)J"⟩
abbrev cX11_forecast : ByteArray := prog_1_method_38_code
def yX11_forecast : MethodName := ⟨RX11, "forecast", "(IZ)I"⟩
abbrev cX11_errors : ByteArray := prog_1_method_39_code
def yX11_errors : MethodName := ⟨RX11, "errors", "(IZ)I"⟩
abbrev cX11_bound : ByteArray := prog_1_method_40_code
def yX11_bound : MethodName := ⟨RX11, "bound", "()I"⟩
abbrev cX11_offer : ByteArray := prog_1_method_41_code
def yX11_offer : MethodName := ⟨RX11, "offer", "(ZII)I"⟩
abbrev cX11_market : ByteArray := prog_1_method_42_code
def yX11_market : MethodName := ⟨RX11, "market", "(I)I"⟩
abbrev cX11_greatestTax : ByteArray := prog_1_method_43_code
def yX11_greatestTax : MethodName := ⟨RX11, "greatestTax", "(I)I"⟩
abbrev cX11_water : ByteArray := prog_1_method_44_code
def yX11_water : MethodName := ⟨RX11, "water", "()I"⟩
abbrev cX11_image : ByteArray := prog_1_method_45_code
def yX11_image : MethodName := ⟨RX11, "image", "()I"⟩
abbrev cX11_back : ByteArray := prog_1_method_46_code
def yX11_back : MethodName := ⟨RX11, "back", "()I"⟩
abbrev cX11_about : ByteArray := prog_1_method_47_code
def yX11_about : MethodName := ⟨RX11, "about", "(I)I"⟩
abbrev cX11_isWithin : ByteArray := prog_1_method_48_code
def yX11_isWithin : MethodName := ⟨RX11, "isWithin", "(III)Z"⟩
abbrev cX11_bring : ByteArray := prog_1_method_49_code
def yX11_bring : MethodName := ⟨RX11, "bring", "(III)I"⟩
abbrev cX11_isSet : ByteArray := prog_1_method_50_code
def yX11_isSet : MethodName := ⟨RX11, "isSet", "(II)Z"⟩
abbrev cX11_isOf : ByteArray := prog_1_method_51_code
def yX11_isOf : MethodName := ⟨RX11, "isOf", "(II)Z"⟩
def RX12 : String := "OwnRainModel"
def TX12 : u_T := fun k => match k with
  | 0 => ("OwnRainModel", "a", "[I", true)
  | 1 => ("OwnRainModel", "image", "[I", true)
  | 2 => ("OwnRainModel", "texts", "[I", true)
  | 3 => ("OwnRainModel", "tape", "[I", true)
  | 4 => ("OwnRainModel", "taped", "I", false)
  | 5 => ("OwnRainModel", "fault", "I", false)
  | 6 => ("OwnRainModel", "faultPlace", "I", false)
  | 7 => ("OwnRainModel", "at", "I", false)
  | 8 => ("OwnRainModel", "place", "I", false)
  | 9 => ("OwnRainModel", "token", "I", false)
  | 10 => ("OwnRainModel", "number", "I", false)
  | 11 => ("OwnRainModel", "word", "J", false)
  | 12 => ("OwnRainModel", "text0", "I", false)
  | 13 => ("OwnRainModel", "written", "I", false)
  | 14 => ("OwnRainModel", "sort0", "I", false)
  | 15 => ("OwnRainModel", "pile", "[I", true)
  | 16 => ("OwnRainModel", "begins", "[I", true)
  | 17 => ("OwnRainModel", "piled", "I", false)
  | 18 => ("OwnRainModel", "opens", "I", false)
  | 19 => ("OwnRainModel", "inner", "I", false)
  | 20 => ("OwnRainModel", "isWhole", "Z", false)
  | 21 => ("OwnRainModel", "once", "I", false)
  | 22 => ("OwnRainModel", "named", "[I", true)
  | 23 => ("OwnRainModel", "here", "I", false)
  | 24 => ("OwnRainModel", "alone", "I", false)
  | 25 => ("OwnRainModel", "values", "[J", true)
  | 26 => ("OwnRainModel", "truth", "[Z", true)
  | 27 => ("OwnRainModel", "sums", "[J", true)
  | 28 => ("OwnRainModel", "within", "[I", true)
  | 29 => ("OwnRainModel", "ahead", "[I", true)
  | 30 => ("OwnRainModel", "named0", "I", false)
  | 31 => ("OwnRainModel", "deep", "I", false)
  | 32 => ("OwnRainModel", "eachAt", "[I", true)
  | 33 => ("OwnRainModel", "wholeOf", "[J", true)
  | 34 => ("OwnRainModel", "wholeIn", "[I", true)
  | 35 => ("OwnRainModel", "asking", "I", false)
  | 36 => ("OwnRainModel", "hourNow", "I", false)
  | 37 => ("OwnRainModel", "taxNow", "I", false)
  | 38 => ("OwnRainModel", "isWritten", "Z", false)
  | 39 => ("OwnRainModel", "firstRain", "[I", true)
  | 40 => ("OwnRainModel", "hoursGone", "I", false)
  | 41 => ("OwnRainModel", "aside", "[I", true)
  | 42 => ("OwnRainModel", "plans", "[I", true)
  | 43 => ("OwnRainModel", "worker", "[I", true)
  | 44 => ("OwnRainModel", "ground", "[I", true)
  | 45 => ("OwnRainModel", "yields", "[I", true)
  | 46 => ("OwnRainModel", "order", "[I", true)
  | 47 => ("OwnRainModel", "bestOrder", "[I", true)
  | 48 => ("OwnRainModel", "given", "[I", true)
  | 49 => ("OwnRainModel", "left", "[I", true)
  | 50 => ("OwnRainModel", "roads", "[I", true)
  | 51 => ("OwnRainModel", "hot", "[J", true)
  | _ => ("OwnRainModel", "grows", "[I", true)
def tyX12 : Nat → FieldType := fun k => match k with
  | 0 => .array .int
  | 1 => .array .int
  | 2 => .array .int
  | 3 => .array .int
  | 4 => .int
  | 5 => .int
  | 6 => .int
  | 7 => .int
  | 8 => .int
  | 9 => .int
  | 10 => .int
  | 11 => .long
  | 12 => .int
  | 13 => .int
  | 14 => .int
  | 15 => .array .int
  | 16 => .array .int
  | 17 => .int
  | 18 => .int
  | 19 => .int
  | 20 => .boolean
  | 21 => .int
  | 22 => .array .int
  | 23 => .int
  | 24 => .int
  | 25 => .array .long
  | 26 => .array .boolean
  | 27 => .array .long
  | 28 => .array .int
  | 29 => .array .int
  | 30 => .int
  | 31 => .int
  | 32 => .array .int
  | 33 => .array .long
  | 34 => .array .int
  | 35 => .int
  | 36 => .int
  | 37 => .int
  | 38 => .boolean
  | 39 => .array .int
  | 40 => .int
  | 41 => .array .int
  | 42 => .array .int
  | 43 => .array .int
  | 44 => .array .int
  | 45 => .array .int
  | 46 => .array .int
  | 47 => .array .int
  | 48 => .array .int
  | 49 => .array .int
  | 50 => .array .int
  | 51 => .array .long
  | _ => .array .int
theorem nmX12 : ∀ a, a < 53 → ∀ b, b < 53 → a ≠ b → (TX12 a).2.1 ≠ (TX12 b).2.1 := by decide +kernel
theorem tyX12_ok : ∀ k, k < 53 → parseFieldDescriptor (TX12 k).2.2.1 = some (tyX12 k) := by decide +kernel
abbrev cX12_init : ByteArray := prog_14_method_1_code
def yX12_init : MethodName := ⟨RX12, "<init>", "()V"⟩
abbrev cX12_copy : ByteArray := prog_14_method_2_code
def yX12_copy : MethodName := ⟨RX12, "copy", "([I[I)V"⟩
abbrev cX12_isIn : ByteArray := prog_14_method_3_code
def yX12_isIn : MethodName := ⟨RX12, "isIn", "(III)Z"⟩
abbrev cX12_has : ByteArray := prog_14_method_4_code
def yX12_has : MethodName := ⟨RX12, "has", "(II)Z"⟩
abbrev cX12_bits : ByteArray := prog_14_method_5_code
def yX12_bits : MethodName := ⟨RX12, "bits", "(I)I"⟩
abbrev cX12_isField : ByteArray := prog_14_method_6_code
def yX12_isField : MethodName := ⟨RX12, "isField", "(I)Z"⟩
abbrev cX12_isPerson : ByteArray := prog_14_method_7_code
def yX12_isPerson : MethodName := ⟨RX12, "isPerson", "(I)Z"⟩
abbrev cX12_fieldOf : ByteArray := prog_14_method_8_code
def yX12_fieldOf : MethodName := ⟨RX12, "fieldOf", "(II)I"⟩
abbrev cX12_get : ByteArray := prog_14_method_9_code
def yX12_get : MethodName := ⟨RX12, "get", "(II)I"⟩
abbrev cX12_set : ByteArray := prog_14_method_10_code
def yX12_set : MethodName := ⟨RX12, "set", "(III)V"⟩
abbrev cX12_addTo : ByteArray := prog_14_method_11_code
def yX12_addTo : MethodName := ⟨RX12, "addTo", "(II)V"⟩
abbrev cX12_wet : ByteArray := prog_14_method_12_code
def yX12_wet : MethodName := ⟨RX12, "wet", "(II)V"⟩
abbrev cX12_field : ByteArray := prog_14_method_13_code
def yX12_field : MethodName := ⟨RX12, "field", "(III)I"⟩
abbrev cX12_road : ByteArray := prog_14_method_14_code
def yX12_road : MethodName := ⟨RX12, "road", "(II)Z"⟩
abbrev cX12_person : ByteArray := prog_14_method_15_code
def yX12_person : MethodName := ⟨RX12, "person", "(IIII)I"⟩
abbrev cX12_four : ByteArray := prog_14_method_16_code
def yX12_four : MethodName := ⟨RX12, "four", "(I)V"⟩
abbrev cX12_feed : ByteArray := prog_14_method_17_code
def yX12_feed : MethodName := ⟨RX12, "feed", "(IIIII)I"⟩
abbrev cX12_end : ByteArray := prog_14_method_18_code
def yX12_end : MethodName := ⟨RX12, "end", "(I)I"⟩
abbrev cX12_byteAt : ByteArray := prog_14_method_19_code
def yX12_byteAt : MethodName := ⟨RX12, "byteAt", "(I)I"⟩
abbrev cX12_isLetterByte : ByteArray := prog_14_method_20_code
def yX12_isLetterByte : MethodName := ⟨RX12, "isLetterByte", "(I)Z"⟩
abbrev cX12_isFigure : ByteArray := prog_14_method_21_code
def yX12_isFigure : MethodName := ⟨RX12, "isFigure", "(I)Z"⟩
abbrev cX12_isSign : ByteArray := prog_14_method_22_code
def yX12_isSign : MethodName := ⟨RX12, "isSign", "(I)Z"⟩
abbrev cX12_nextToken : ByteArray := prog_14_method_23_code
def yX12_nextToken : MethodName := ⟨RX12, "nextToken", "()V"⟩
abbrev cX12_w2 : ByteArray := prog_14_method_24_code
def yX12_w2 : MethodName := ⟨RX12, "w2", "(II)J"⟩
abbrev cX12_w3 : ByteArray := prog_14_method_25_code
def yX12_w3 : MethodName := ⟨RX12, "w3", "(III)J"⟩
abbrev cX12_w4 : ByteArray := prog_14_method_26_code
def yX12_w4 : MethodName := ⟨RX12, "w4", "(IIII)J"⟩
abbrev cX12_w5 : ByteArray := prog_14_method_27_code
def yX12_w5 : MethodName := ⟨RX12, "w5", "(IIIII)J"⟩
abbrev cX12_w6 : ByteArray := prog_14_method_28_code
def yX12_w6 : MethodName := ⟨RX12, "w6", "(IIIIII)J"⟩
abbrev cX12_isWord : ByteArray := prog_14_method_29_code
def yX12_isWord : MethodName := ⟨RX12, "isWord", "(J)Z"⟩
abbrev cX12_emit : ByteArray := prog_14_method_30_code
def yX12_emit : MethodName := ⟨RX12, "emit", "(II)V"⟩
abbrev cX12_nameOf : ByteArray := prog_14_method_31_code
def yX12_nameOf : MethodName := ⟨RX12, "nameOf", "()I"⟩
abbrev cX12_isOf : ByteArray := prog_14_method_32_code
def yX12_isOf : MethodName := ⟨RX12, "isOf", "(I)Z"⟩
abbrev cX12_rank : ByteArray := prog_14_method_33_code
def yX12_rank : MethodName := ⟨RX12, "rank", "(I)I"⟩
abbrev cX12_settle : ByteArray := prog_14_method_34_code
def yX12_settle : MethodName := ⟨RX12, "settle", "(I)V"⟩
abbrev cX12_openNow : ByteArray := prog_14_method_35_code
def yX12_openNow : MethodName := ⟨RX12, "openNow", "()I"⟩
abbrev cX12_isCompared : ByteArray := prog_14_method_36_code
def yX12_isCompared : MethodName := ⟨RX12, "isCompared", "()Z"⟩
abbrev cX12_isAskAhead : ByteArray := prog_14_method_37_code
def yX12_isAskAhead : MethodName := ⟨RX12, "isAskAhead", "()Z"⟩
abbrev cX12_opened : ByteArray := prog_14_method_38_code
def yX12_opened : MethodName := ⟨RX12, "opened", "(I)I"⟩
abbrev cX12_beginOne : ByteArray := prog_14_method_39_code
def yX12_beginOne : MethodName := ⟨RX12, "beginOne", "()I"⟩
abbrev cX12_compareOf : ByteArray := prog_14_method_40_code
def yX12_compareOf : MethodName := ⟨RX12, "compareOf", "()I"⟩
abbrev cX12_betweenOf : ByteArray := prog_14_method_41_code
def yX12_betweenOf : MethodName := ⟨RX12, "betweenOf", "()I"⟩
abbrev cX12_shut : ByteArray := prog_14_method_42_code
def yX12_shut : MethodName := ⟨RX12, "shut", "(I)V"⟩
abbrev cX12_behindOne : ByteArray := prog_14_method_43_code
def yX12_behindOne : MethodName := ⟨RX12, "behindOne", "()Z"⟩
abbrev cX12_summed : ByteArray := prog_14_method_44_code
def yX12_summed : MethodName := ⟨RX12, "summed", "()I"⟩
abbrev cX12_figure : ByteArray := prog_14_method_45_code
def yX12_figure : MethodName := ⟨RX12, "figure", "(III)I"⟩
abbrev cX12_worded : ByteArray := prog_14_method_46_code
def yX12_worded : MethodName := ⟨RX12, "worded", "(JIII)I"⟩
abbrev cX12_lawClause : ByteArray := prog_14_method_47_code
def yX12_lawClause : MethodName := ⟨RX12, "lawClause", "(I)I"⟩
abbrev cX12_fieldClause : ByteArray := prog_14_method_48_code
def yX12_fieldClause : MethodName := ⟨RX12, "fieldClause", "(I)I"⟩
abbrev cX12_oneClause : ByteArray := prog_14_method_49_code
def yX12_oneClause : MethodName := ⟨RX12, "oneClause", "(I)I"⟩
abbrev cX12_stealClause : ByteArray := prog_14_method_50_code
def yX12_stealClause : MethodName := ⟨RX12, "stealClause", "(I)I"⟩
abbrev cX12_pair : ByteArray := prog_14_method_51_code
def yX12_pair : MethodName := ⟨RX12, "pair", "(IIIJI)I"⟩
abbrev cX12_body : ByteArray := prog_14_method_52_code
def yX12_body : MethodName := ⟨RX12, "body", "(II)I"⟩
abbrev cX12_sortOf : ByteArray := prog_14_method_53_code
def yX12_sortOf : MethodName := ⟨RX12, "sortOf", "()I"⟩
abbrev cX12_clause : ByteArray := prog_14_method_54_code
def yX12_clause : MethodName := ⟨RX12, "clause", "()I"⟩
abbrev cX12_readText : ByteArray := prog_14_method_55_code
def yX12_readText : MethodName := ⟨RX12, "readText", "()I"⟩
abbrev cX12_text : ByteArray := prog_14_method_56_code
def yX12_text : MethodName := ⟨RX12, "text", "()I"⟩
abbrev cX12_fault : ByteArray := prog_14_method_57_code
def yX12_fault : MethodName := ⟨RX12, "fault", "(I)I"⟩
abbrev cX12_by : ByteArray := prog_14_method_58_code
def yX12_by : MethodName := ⟨RX12, "by", "(I)Z"⟩
abbrev cX12_clip : ByteArray := prog_14_method_59_code
def yX12_clip : MethodName := ⟨RX12, "clip", "(J)J"⟩
abbrev cX12_two : ByteArray := prog_14_method_60_code
def yX12_two : MethodName := ⟨RX12, "two", "(IJJ)J"⟩
abbrev cX12_isAsked : ByteArray := prog_14_method_61_code
def yX12_isAsked : MethodName := ⟨RX12, "isAsked", "(IJJ)Z"⟩
abbrev cX12_name : ByteArray := prog_14_method_62_code
def yX12_name : MethodName := ⟨RX12, "name", "(I)V"⟩
abbrev cX12_nextThere : ByteArray := prog_14_method_63_code
def yX12_nextThere : MethodName := ⟨RX12, "nextThere", "(I)I"⟩
abbrev cX12_takeNext : ByteArray := prog_14_method_64_code
def yX12_takeNext : MethodName := ⟨RX12, "takeNext", "()Z"⟩
abbrev cX12_endEach : ByteArray := prog_14_method_65_code
def yX12_endEach : MethodName := ⟨RX12, "endEach", "(I)I"⟩
abbrev cX12_worked : ByteArray := prog_14_method_66_code
def yX12_worked : MethodName := ⟨RX12, "worked", "(I)I"⟩
abbrev cX12_says : ByteArray := prog_14_method_67_code
def yX12_says : MethodName := ⟨RX12, "says", "(IIIIII)I"⟩
abbrev cX12_sweatOf : ByteArray := prog_14_method_68_code
def yX12_sweatOf : MethodName := ⟨RX12, "sweatOf", "(II)I"⟩
abbrev cX12_write : ByteArray := prog_14_method_69_code
def yX12_write : MethodName := ⟨RX12, "write", "(II)V"⟩
abbrev cX12_rainOf : ByteArray := prog_14_method_70_code
def yX12_rainOf : MethodName := ⟨RX12, "rainOf", "(I)V"⟩
abbrev cX12_rainAll : ByteArray := prog_14_method_71_code
def yX12_rainAll : MethodName := ⟨RX12, "rainAll", "()I"⟩
abbrev cX12_dryAll : ByteArray := prog_14_method_72_code
def yX12_dryAll : MethodName := ⟨RX12, "dryAll", "()V"⟩
abbrev cX12_pass : ByteArray := prog_14_method_73_code
def yX12_pass : MethodName := ⟨RX12, "pass", "()I"⟩
abbrev cX12_keep : ByteArray := prog_14_method_74_code
def yX12_keep : MethodName := ⟨RX12, "keep", "()V"⟩
abbrev cX12_undo : ByteArray := prog_14_method_75_code
def yX12_undo : MethodName := ⟨RX12, "undo", "()I"⟩
abbrev cX12_passStep : ByteArray := prog_14_method_76_code
def yX12_passStep : MethodName := ⟨RX12, "passStep", "()I"⟩
abbrev cX12_hour : ByteArray := prog_14_method_77_code
def yX12_hour : MethodName := ⟨RX12, "hour", "(I)I"⟩
abbrev cX12_work : ByteArray := prog_14_method_78_code
def yX12_work : MethodName := ⟨RX12, "work", "(II)Z"⟩
abbrev cX12_canGo : ByteArray := prog_14_method_79_code
def yX12_canGo : MethodName := ⟨RX12, "canGo", "(II)Z"⟩
abbrev cX12_go : ByteArray := prog_14_method_80_code
def yX12_go : MethodName := ⟨RX12, "go", "(II)Z"⟩
abbrev cX12_canShake : ByteArray := prog_14_method_81_code
def yX12_canShake : MethodName := ⟨RX12, "canShake", "(II)Z"⟩
abbrev cX12_shakeNow : ByteArray := prog_14_method_82_code
def yX12_shakeNow : MethodName := ⟨RX12, "shakeNow", "(II)V"⟩
abbrev cX12_shake : ByteArray := prog_14_method_83_code
def yX12_shake : MethodName := ⟨RX12, "shake", "(II)I"⟩
abbrev cX12_canSteal : ByteArray := prog_14_method_84_code
def yX12_canSteal : MethodName := ⟨RX12, "canSteal", "(III)Z"⟩
abbrev cX12_stealNow : ByteArray := prog_14_method_85_code
def yX12_stealNow : MethodName := ⟨RX12, "stealNow", "(III)V"⟩
abbrev cX12_steal : ByteArray := prog_14_method_86_code
def yX12_steal : MethodName := ⟨RX12, "steal", "(III)I"⟩
abbrev cX12_pour : ByteArray := prog_14_method_87_code
def yX12_pour : MethodName := ⟨RX12, "pour", "(II)I"⟩
abbrev cX12_areHours : ByteArray := prog_14_method_88_code
def yX12_areHours : MethodName := ⟨RX12, "areHours", "(I)Z"⟩
abbrev cX12_isPlayed : ByteArray := prog_14_method_89_code
def yX12_isPlayed : MethodName := ⟨RX12, "isPlayed", "(I)Z"⟩
abbrev cX12_played : ByteArray := prog_14_method_90_code
def yX12_played : MethodName := ⟨RX12, "played", "(I)I"⟩
abbrev cX12_anew : ByteArray := prog_14_method_91_code
def yX12_anew : MethodName := ⟨RX12, "anew", "(I)I"⟩
abbrev cX12_happens : ByteArray := prog_14_method_92_code
def yX12_happens : MethodName := ⟨RX12, "happens", "(II)I"⟩
abbrev cX12_year : ByteArray := prog_14_method_93_code
def yX12_year : MethodName := ⟨RX12, "year", "(II)I"⟩
abbrev cX12_peopleOn : ByteArray := prog_14_method_94_code
def yX12_peopleOn : MethodName := ⟨RX12, "peopleOn", "(I)I"⟩
abbrev cX12_ofField : ByteArray := prog_14_method_95_code
def yX12_ofField : MethodName := ⟨RX12, "ofField", "(II)I"⟩
abbrev cX12_wasAt : ByteArray := prog_14_method_96_code
def yX12_wasAt : MethodName := ⟨RX12, "wasAt", "(II)I"⟩
abbrev cX12_ofPerson : ByteArray := prog_14_method_97_code
def yX12_ofPerson : MethodName := ⟨RX12, "ofPerson", "(II)I"⟩
abbrev cX12_rained : ByteArray := prog_14_method_98_code
def yX12_rained : MethodName := ⟨RX12, "rained", "(II)I"⟩
abbrev cX12_begin : ByteArray := prog_14_method_99_code
def yX12_begin : MethodName := ⟨RX12, "begin", "()V"⟩
abbrev cX12_putBack : ByteArray := prog_14_method_100_code
def yX12_putBack : MethodName := ⟨RX12, "putBack", "()V"⟩
abbrev cX12_passOnward : ByteArray := prog_14_method_101_code
def yX12_passOnward : MethodName := ⟨RX12, "passOnward", "()V"⟩
abbrev cX12_foretoldWet : ByteArray := prog_14_method_102_code
def yX12_foretoldWet : MethodName := ⟨RX12, "foretoldWet", "(II)I"⟩
abbrev cX12_foretoldCloud : ByteArray := prog_14_method_103_code
def yX12_foretoldCloud : MethodName := ⟨RX12, "foretoldCloud", "(IIZ)I"⟩
abbrev cX12_sweatBy : ByteArray := prog_14_method_104_code
def yX12_sweatBy : MethodName := ⟨RX12, "sweatBy", "(III)I"⟩
abbrev cX12_sweatAllFor : ByteArray := prog_14_method_105_code
def yX12_sweatAllFor : MethodName := ⟨RX12, "sweatAllFor", "(I)I"⟩
abbrev cX12_plan : ByteArray := prog_14_method_106_code
def yX12_plan : MethodName := ⟨RX12, "plan", "(III)I"⟩
abbrev cX12_nextOrder : ByteArray := prog_14_method_107_code
def yX12_nextOrder : MethodName := ⟨RX12, "nextOrder", "(I)Z"⟩
abbrev cX12_findYields : ByteArray := prog_14_method_108_code
def yX12_findYields : MethodName := ⟨RX12, "findYields", "(I)V"⟩
abbrev cX12_layWorkers : ByteArray := prog_14_method_109_code
def yX12_layWorkers : MethodName := ⟨RX12, "layWorkers", "(II)Z"⟩
abbrev cX12_match : ByteArray := prog_14_method_110_code
def yX12_match : MethodName := ⟨RX12, "match", "(III)I"⟩
abbrev cX12_shares : ByteArray := prog_14_method_111_code
def yX12_shares : MethodName := ⟨RX12, "shares", "(III)I"⟩
abbrev cX12_canCome : ByteArray := prog_14_method_112_code
def yX12_canCome : MethodName := ⟨RX12, "canCome", "(II)Z"⟩
abbrev cX12_findRoads : ByteArray := prog_14_method_113_code
def yX12_findRoads : MethodName := ⟨RX12, "findRoads", "(II)V"⟩
abbrev cX12_nextField : ByteArray := prog_14_method_114_code
def yX12_nextField : MethodName := ⟨RX12, "nextField", "(II)I"⟩
abbrev cX12_cross : ByteArray := prog_14_method_115_code
def yX12_cross : MethodName := ⟨RX12, "cross", "(IIII)I"⟩
abbrev cX12_widest : ByteArray := prog_14_method_116_code
def yX12_widest : MethodName := ⟨RX12, "widest", "(II)I"⟩
abbrev cX12_missing : ByteArray := prog_14_method_117_code
def yX12_missing : MethodName := ⟨RX12, "missing", "(III)I"⟩
abbrev cX12_nearOf : ByteArray := prog_14_method_118_code
def yX12_nearOf : MethodName := ⟨RX12, "nearOf", "(I)I"⟩
abbrev cX12_near : ByteArray := prog_14_method_119_code
def yX12_near : MethodName := ⟨RX12, "near", "(I)I"⟩
abbrev cX12_thieves : ByteArray := prog_14_method_120_code
def yX12_thieves : MethodName := ⟨RX12, "thieves", "()I"⟩
abbrev cX12_common : ByteArray := prog_14_method_121_code
def yX12_common : MethodName := ⟨RX12, "common", "(JJ)J"⟩
abbrev cX12_filling : ByteArray := prog_14_method_122_code
def yX12_filling : MethodName := ⟨RX12, "filling", "(IIIIIZ)J"⟩
abbrev cX12_forecast : ByteArray := prog_14_method_123_code
def yX12_forecast : MethodName := ⟨RX12, "forecast", "(IZ)I"⟩
abbrev cX12_errorsOf : ByteArray := prog_14_method_124_code
def yX12_errorsOf : MethodName := ⟨RX12, "errorsOf", "(IZ)I"⟩
abbrev cX12_errors : ByteArray := prog_14_method_125_code
def yX12_errors : MethodName := ⟨RX12, "errors", "(IZ)I"⟩
abbrev cX12_bound : ByteArray := prog_14_method_126_code
def yX12_bound : MethodName := ⟨RX12, "bound", "()I"⟩
abbrev cX12_offer : ByteArray := prog_14_method_127_code
def yX12_offer : MethodName := ⟨RX12, "offer", "(ZII)I"⟩
abbrev cX12_tradedAt : ByteArray := prog_14_method_128_code
def yX12_tradedAt : MethodName := ⟨RX12, "tradedAt", "(I)I"⟩
abbrev cX12_market : ByteArray := prog_14_method_129_code
def yX12_market : MethodName := ⟨RX12, "market", "(I)I"⟩
abbrev cX12_greatestTax : ByteArray := prog_14_method_130_code
def yX12_greatestTax : MethodName := ⟨RX12, "greatestTax", "(I)I"⟩
abbrev cX12_water : ByteArray := prog_14_method_131_code
def yX12_water : MethodName := ⟨RX12, "water", "()I"⟩
abbrev cX12_image : ByteArray := prog_14_method_132_code
def yX12_image : MethodName := ⟨RX12, "image", "()I"⟩
abbrev cX12_back : ByteArray := prog_14_method_133_code
def yX12_back : MethodName := ⟨RX12, "back", "()I"⟩
abbrev cX12_about : ByteArray := prog_14_method_134_code
def yX12_about : MethodName := ⟨RX12, "about", "(I)I"⟩
def RJ11 : String := "java/lang/Character"
def TJ11 : u_T := fun k => match k with
  | _ => ("", "", "", false)
def tyJ11 : Nat → FieldType := fun k => match k with
  | _ => .int
theorem nmJ11 : ∀ a, a < 0 → ∀ b, b < 0 → a ≠ b → (TJ11 a).2.1 ≠ (TJ11 b).2.1 := by decide +kernel
theorem tyJ11_ok : ∀ k, k < 0 → parseFieldDescriptor (TJ11 k).2.2.1 = some (tyJ11 k) := by decide +kernel
abbrev cJ11_isValidCodePoint_9a6ad : ByteArray := prog_15_method_11_code
def yJ11_isValidCodePoint_9a6ad : MethodName := ⟨RJ11, "isValidCodePoint", "(I)Z"⟩
abbrev cJ11_highSurrogate_5068e : ByteArray := prog_15_method_28_code
def yJ11_highSurrogate_5068e : MethodName := ⟨RJ11, "highSurrogate", "(I)C"⟩
abbrev cJ11_lowSurrogate_5068e : ByteArray := prog_15_method_29_code
def yJ11_lowSurrogate_5068e : MethodName := ⟨RJ11, "lowSurrogate", "(I)C"⟩
def RJ6 : String := "java/lang/Integer"
def TJ6 : u_T := fun k => match k with
  | _ => ("", "", "", false)
def tyJ6 : Nat → FieldType := fun k => match k with
  | _ => .int
theorem nmJ6 : ∀ a, a < 0 → ∀ b, b < 0 → a ≠ b → (TJ6 a).2.1 ≠ (TJ6 b).2.1 := by decide +kernel
theorem tyJ6_ok : ∀ k, k < 0 → parseFieldDescriptor (TJ6 k).2.2.1 = some (tyJ6 k) := by decide +kernel
abbrev cJ6_bitCount_0f7a4 : ByteArray := prog_16_method_49_code
def yJ6_bitCount_0f7a4 : MethodName := ⟨RJ6, "bitCount", "(I)I"⟩
def RJ9 : String := "java/lang/Math"
def TJ9 : u_T := fun k => match k with
  | _ => ("", "", "", false)
def tyJ9 : Nat → FieldType := fun k => match k with
  | _ => .int
theorem nmJ9 : ∀ a, a < 0 → ∀ b, b < 0 → a ≠ b → (TJ9 a).2.1 ≠ (TJ9 b).2.1 := by decide +kernel
theorem tyJ9_ok : ∀ k, k < 0 → parseFieldDescriptor (TJ9 k).2.2.1 = some (tyJ9 k) := by decide +kernel
abbrev cJ9_max_7cf53 : ByteArray := prog_17_method_65_code
def yJ9_max_7cf53 : MethodName := ⟨RJ9, "max", "(II)I"⟩
abbrev cJ9_min_7cf53 : ByteArray := prog_17_method_69_code
def yJ9_min_7cf53 : MethodName := ⟨RJ9, "min", "(II)I"⟩
def RJ0 : String := "java/lang/String"
def TJ0 : u_T := fun k => match k with
  | _ => ("", "", "", false)
def tyJ0 : Nat → FieldType := fun k => match k with
  | _ => .int
theorem nmJ0 : ∀ a, a < 0 → ∀ b, b < 0 → a ≠ b → (TJ0 a).2.1 ≠ (TJ0 b).2.1 := by decide +kernel
theorem tyJ0_ok : ∀ k, k < 0 → parseFieldDescriptor (TJ0 k).2.2.1 = some (tyJ0 k) := by decide +kernel
abbrev cJ0_length_8abf5 : ByteArray := prog_18_method_54_code
def yJ0_length_8abf5 : MethodName := ⟨RJ0, "length", "()I"⟩
abbrev cJ0_charAt_5068e : ByteArray := prog_18_method_56_code
def yJ0_charAt_5068e : MethodName := ⟨RJ0, "charAt", "(I)C"⟩
abbrev cJ0_indexOf_0f7a4 : ByteArray := prog_18_method_79_code
def yJ0_indexOf_0f7a4 : MethodName := ⟨RJ0, "indexOf", "(I)I"⟩
abbrev cJ0_indexOf_7cf53 : ByteArray := prog_18_method_80_code
def yJ0_indexOf_7cf53 : MethodName := ⟨RJ0, "indexOf", "(II)I"⟩
abbrev cJ0_coder_7d493 : ByteArray := prog_18_method_152_code
def yJ0_coder_7d493 : MethodName := ⟨RJ0, "coder", "()B"⟩
abbrev cJ0_isLatin1_aae02 : ByteArray := prog_18_method_154_code
def yJ0_isLatin1_aae02 : MethodName := ⟨RJ0, "isLatin1", "()Z"⟩
abbrev cJ0_checkIndex_df160 : ByteArray := prog_18_method_155_code
def yJ0_checkIndex_df160 : MethodName := ⟨RJ0, "checkIndex", "(II)V"⟩
abbrev cJ0_checkBoundsBeginEnd_23922 : ByteArray := prog_18_method_158_code
def yJ0_checkBoundsBeginEnd_23922 : MethodName := ⟨RJ0, "checkBoundsBeginEnd", "(III)V"⟩
def RJ1 : String := "java/lang/StringLatin1"
def TJ1 : u_T := fun k => match k with
  | _ => ("", "", "", false)
def tyJ1 : Nat → FieldType := fun k => match k with
  | _ => .int
theorem nmJ1 : ∀ a, a < 0 → ∀ b, b < 0 → a ≠ b → (TJ1 a).2.1 ≠ (TJ1 b).2.1 := by decide +kernel
theorem tyJ1_ok : ∀ k, k < 0 → parseFieldDescriptor (TJ1 k).2.2.1 = some (tyJ1 k) := by decide +kernel
abbrev cJ1_charAt_3b067 : ByteArray := prog_19_method_2_code
def yJ1_charAt_3b067 : MethodName := ⟨RJ1, "charAt", "([BI)C"⟩
abbrev cJ1_canEncode_9a6ad : ByteArray := prog_19_method_4_code
def yJ1_canEncode_9a6ad : MethodName := ⟨RJ1, "canEncode", "(I)Z"⟩
abbrev cJ1_indexOf_4cfef : ByteArray := prog_19_method_22_code
def yJ1_indexOf_4cfef : MethodName := ⟨RJ1, "indexOf", "([BIII)I"⟩
abbrev cJ1_indexOfChar_4cfef : ByteArray := prog_19_method_23_code
def yJ1_indexOfChar_4cfef : MethodName := ⟨RJ1, "indexOfChar", "([BIII)I"⟩
def RJ2 : String := "java/lang/StringUTF16"
def TJ2 : u_T := fun k => match k with
  | _ => ("", "", "", false)
def tyJ2 : Nat → FieldType := fun k => match k with
  | _ => .int
theorem nmJ2 : ∀ a, a < 0 → ∀ b, b < 0 → a ≠ b → (TJ2 a).2.1 ≠ (TJ2 b).2.1 := by decide +kernel
theorem tyJ2_ok : ∀ k, k < 0 → parseFieldDescriptor (TJ2 k).2.2.1 = some (tyJ2 k) := by decide +kernel
abbrev cJ2_getChar_3b067 : ByteArray := prog_20_method_5_code
def yJ2_getChar_3b067 : MethodName := ⟨RJ2, "getChar", "([BI)C"⟩
abbrev cJ2_length_9d52b : ByteArray := prog_20_method_6_code
def yJ2_length_9d52b : MethodName := ⟨RJ2, "length", "([B)I"⟩
abbrev cJ2_indexOf_4cfef : ByteArray := prog_20_method_40_code
def yJ2_indexOf_4cfef : MethodName := ⟨RJ2, "indexOf", "([BIII)I"⟩
abbrev cJ2_indexOfChar_4cfef : ByteArray := prog_20_method_47_code
def yJ2_indexOfChar_4cfef : MethodName := ⟨RJ2, "indexOfChar", "([BIII)I"⟩
abbrev cJ2_indexOfCharUnsafe_4cfef : ByteArray := prog_20_method_48_code
def yJ2_indexOfCharUnsafe_4cfef : MethodName := ⟨RJ2, "indexOfCharUnsafe", "([BIII)I"⟩
abbrev cJ2_indexOfSupplementary_4cfef : ByteArray := prog_20_method_49_code
def yJ2_indexOfSupplementary_4cfef : MethodName := ⟨RJ2, "indexOfSupplementary", "([BIII)I"⟩
abbrev cJ2_charAt_3b067 : ByteArray := prog_20_method_83_code
def yJ2_charAt_3b067 : MethodName := ⟨RJ2, "charAt", "([BI)C"⟩
abbrev cJ2_checkIndex_2214a : ByteArray := prog_20_method_91_code
def yJ2_checkIndex_2214a : MethodName := ⟨RJ2, "checkIndex", "(I[B)V"⟩
abbrev cJ2_checkBoundsBeginEnd_d044e : ByteArray := prog_20_method_93_code
def yJ2_checkBoundsBeginEnd_d044e : MethodName := ⟨RJ2, "checkBoundsBeginEnd", "(II[B)V"⟩
def RJ10 : String := "java/lang/System"
def TJ10 : u_T := fun k => match k with
  | _ => ("", "", "", false)
def tyJ10 : Nat → FieldType := fun k => match k with
  | _ => .int
theorem nmJ10 : ∀ a, a < 0 → ∀ b, b < 0 → a ≠ b → (TJ10 a).2.1 ≠ (TJ10 b).2.1 := by decide +kernel
theorem tyJ10_ok : ∀ k, k < 0 → parseFieldDescriptor (TJ10 k).2.2.1 = some (tyJ10 k) := by decide +kernel
def RJ3 : String := "jdk/internal/util/Preconditions"
def TJ3 : u_T := fun k => match k with
  | _ => ("", "", "", false)
def tyJ3 : Nat → FieldType := fun k => match k with
  | _ => .int
theorem nmJ3 : ∀ a, a < 0 → ∀ b, b < 0 → a ≠ b → (TJ3 a).2.1 ≠ (TJ3 b).2.1 := by decide +kernel
theorem tyJ3_ok : ∀ k, k < 0 → parseFieldDescriptor (TJ3 k).2.2.1 = some (tyJ3 k) := by decide +kernel
abbrev cJ3_checkIndex_8e157 : ByteArray := prog_22_method_11_code
def yJ3_checkIndex_8e157 : MethodName := ⟨RJ3, "checkIndex", "(IILjava/util/function/BiFunction;)I"⟩
abbrev cJ3_checkFromToIndex_8c36e : ByteArray := prog_22_method_12_code
def yJ3_checkFromToIndex_8c36e : MethodName := ⟨RJ3, "checkFromToIndex", "(IIILjava/util/function/BiFunction;)I"⟩
def RL : String := "OwnRainLaw"
abbrev cL_law : ByteArray := code
def yL_law : MethodName := ⟨RL, "law", "([I)Z"⟩
abbrev vwCl : List vw_C := [(RX0, TX0, 10), (RX1, TX1, 11), (RX2, TX2, 10), (RX3, TX3, 7), (RX4, TX4, 7), (RX5, TX5, 4), (RX6, TX6, 6), (RX7, TX7, 13), (RX8, TX8, 3), (RX9, TX9, 10), (RX10, TX10, 15), (RX11, TX11, 7), (RX12, TX12, 53)]
def gtbl : List Cond := lw_tbl.filter goodWord
theorem gq {w : Cond} (i : Nat) (h : lw_tbl[i]? = some w) (hg : goodWord w = true) : w ∈ gtbl := List.mem_filter.mpr ⟨List.mem_of_getElem? h, hg⟩
theorem gqs {ws : List Cond} (ps : List Nat) (h : ws = ps.filterMap (fun i => lw_tbl[i]?)) (hg : ws.all goodWord = true) : ∀ w ∈ ws, w ∈ gtbl := by
  intro w hw
  have h1 := List.all_eq_true.mp hg w hw
  rw [h] at hw
  obtain ⟨i, -, hi⟩ := List.mem_filterMap.mp hw
  exact gq i hi h1
theorem gin {y : MethodName} {cc : ByteArray} {n : Nat} {ret : Option FieldType} (h : Cond.code y cc n ret ∈ gtbl) : GoodIn gtbl (Cond.code y cc n ret :: gtbl) := by
  intro w hw
  have hw' : w ∈ gtbl := by
    rcases List.mem_cons.mp hw with h' | h'
    · rw [h']; exact h
    · exact h'
  exact ⟨hw', good_of_word (List.mem_filter.mp hw').2⟩

theorem inZX0 : ∀ w ∈ u_ws RX0 TX0 10, w ∈ gtbl := gqs [186, 188, 190, 192, 194, 196, 198, 200, 202, 204] (by decide +kernel) (by decide +kernel)
theorem inZX1 : ∀ w ∈ u_ws RX1 TX1 11, w ∈ gtbl := gqs [335, 337, 339, 341, 343, 345, 347, 349, 351, 353, 355] (by decide +kernel) (by decide +kernel)
theorem inZX2 : ∀ w ∈ u_ws RX2 TX2 10, w ∈ gtbl := gqs [518, 520, 522, 524, 526, 528, 530, 532, 534, 536] (by decide +kernel) (by decide +kernel)
theorem inZX3 : ∀ w ∈ u_ws RX3 TX3 7, w ∈ gtbl := gqs [441, 443, 445, 447, 449, 451, 453] (by decide +kernel) (by decide +kernel)
theorem inZX4 : ∀ w ∈ u_ws RX4 TX4 7, w ∈ gtbl := gqs [380, 382, 384, 386, 388, 390, 392] (by decide +kernel) (by decide +kernel)
theorem inZX5 : ∀ w ∈ u_ws RX5 TX5 4, w ∈ gtbl := gqs [303, 305, 307, 309] (by decide +kernel) (by decide +kernel)
theorem inZX6 : ∀ w ∈ u_ws RX6 TX6 6, w ∈ gtbl := gqs [413, 415, 417, 419, 421, 423] (by decide +kernel) (by decide +kernel)
theorem inZX7 : ∀ w ∈ u_ws RX7 TX7 13, w ∈ gtbl := gqs [676, 678, 680, 682, 684, 686, 688, 690, 692, 694, 696, 698, 700] (by decide +kernel) (by decide +kernel)
theorem inZX8 : ∀ w ∈ u_ws RX8 TX8 3, w ∈ gtbl := gqs [549, 551, 553] (by decide +kernel) (by decide +kernel)
theorem inZX9 : ∀ w ∈ u_ws RX9 TX9 10, w ∈ gtbl := gqs [476, 478, 480, 482, 484, 486, 488, 490, 492, 494] (by decide +kernel) (by decide +kernel)
theorem inZX10 : ∀ w ∈ u_ws RX10 TX10 15, w ∈ gtbl := gqs [257, 259, 261, 263, 265, 267, 269, 271, 273, 275, 277, 279, 281, 283, 285] (by decide +kernel) (by decide +kernel)
theorem inZX11 : ∀ w ∈ u_ws RX11 TX11 7, w ∈ gtbl := gqs [563, 565, 567, 569, 571, 573, 575] (by decide +kernel) (by decide +kernel)
theorem inZX12 : ∀ w ∈ u_ws RX12 TX12 53, w ∈ gtbl := gqs [1447, 1449, 1451, 1453, 1455, 1457, 1459, 1461, 1463, 1465, 1467, 1469, 1471, 1473, 1475, 1477, 1479, 1481, 1483, 1485, 1487, 1489, 1491, 1493, 1495, 1497, 1499, 1501, 1503, 1505, 1507, 1509, 1511, 1513, 1515, 1517, 1519, 1521, 1523, 1525, 1527, 1529, 1531, 1533, 1535, 1537, 1539, 1541, 1543, 1545, 1547, 1549, 1551] (by decide +kernel) (by decide +kernel)
theorem q0 : (Jvm.Cond.selects "OwnRain$Tape" ({ cls := "OwnRain$Tape", name := "addWord", desc := "(I)I" } : Jvm.MethodName) ({ cls := "OwnRain$Tape", name := "addWord", desc := "(I)I" } : Jvm.MethodName)) ∈ gtbl := gq 0 (by decide +kernel) rfl
theorem q1 : (Jvm.Cond.selects "OwnRain$Tape" ({ cls := "OwnRain$Tape", name := "wordOf", desc := "(II)I" } : Jvm.MethodName) ({ cls := "OwnRain$Tape", name := "wordOf", desc := "(II)I" } : Jvm.MethodName)) ∈ gtbl := gq 1 (by decide +kernel) rfl
theorem q2 : (Jvm.Cond.selects "OwnRain$Tape" ({ cls := "OwnRain$Tape", name := "addToken", desc := "(II)V" } : Jvm.MethodName) ({ cls := "OwnRain$Tape", name := "addToken", desc := "(II)V" } : Jvm.MethodName)) ∈ gtbl := gq 2 (by decide +kernel) rfl
theorem q3 : (Jvm.Cond.selects "OwnRain$Tape" ({ cls := "OwnRain$Tape", name := "addNumber", desc := "(I)I" } : Jvm.MethodName) ({ cls := "OwnRain$Tape", name := "addNumber", desc := "(I)I" } : Jvm.MethodName)) ∈ gtbl := gq 3 (by decide +kernel) rfl
theorem q4 : (Jvm.Cond.selects "OwnRain$Tape" ({ cls := "OwnRain$Tape", name := "addSign", desc := "(I)I" } : Jvm.MethodName) ({ cls := "OwnRain$Tape", name := "addSign", desc := "(I)I" } : Jvm.MethodName)) ∈ gtbl := gq 4 (by decide +kernel) rfl
theorem q5 : (Jvm.Cond.selects "OwnRain$Reader" ({ cls := "OwnRain$Reader", name := "readClause", desc := "(I)V" } : Jvm.MethodName) ({ cls := "OwnRain$Reader", name := "readClause", desc := "(I)V" } : Jvm.MethodName)) ∈ gtbl := gq 5 (by decide +kernel) rfl
theorem q6 : (Jvm.Cond.selects "OwnRain$Reader" ({ cls := "OwnRain$Reader", name := "fail", desc := "(I)V" } : Jvm.MethodName) ({ cls := "OwnRain$Reader", name := "fail", desc := "(I)V" } : Jvm.MethodName)) ∈ gtbl := gq 6 (by decide +kernel) rfl
theorem q7 : (Jvm.Cond.selects "OwnRain$Reader" ({ cls := "OwnRain$Reader", name := "advance", desc := "()V" } : Jvm.MethodName) ({ cls := "OwnRain$Reader", name := "advance", desc := "()V" } : Jvm.MethodName)) ∈ gtbl := gq 7 (by decide +kernel) rfl
theorem q8 : (Jvm.Cond.selects "OwnRain$Reader" ({ cls := "OwnRain$Reader", name := "readLaw", desc := "(I)V" } : Jvm.MethodName) ({ cls := "OwnRain$Reader", name := "readLaw", desc := "(I)V" } : Jvm.MethodName)) ∈ gtbl := gq 8 (by decide +kernel) rfl
theorem q9 : (Jvm.Cond.selects "OwnRain$Reader" ({ cls := "OwnRain$Reader", name := "readSum", desc := "(IZ)V" } : Jvm.MethodName) ({ cls := "OwnRain$Reader", name := "readSum", desc := "(IZ)V" } : Jvm.MethodName)) ∈ gtbl := gq 9 (by decide +kernel) rfl
theorem q10 : (Jvm.Cond.selects "OwnRain$Reader" ({ cls := "OwnRain$Reader", name := "readProduct", desc := "(IZ)V" } : Jvm.MethodName) ({ cls := "OwnRain$Reader", name := "readProduct", desc := "(IZ)V" } : Jvm.MethodName)) ∈ gtbl := gq 10 (by decide +kernel) rfl
theorem q11 : (Jvm.Cond.selects "OwnRain$Reader" ({ cls := "OwnRain$Reader", name := "readOne", desc := "(IZ)V" } : Jvm.MethodName) ({ cls := "OwnRain$Reader", name := "readOne", desc := "(IZ)V" } : Jvm.MethodName)) ∈ gtbl := gq 11 (by decide +kernel) rfl
theorem q12 : (Jvm.Cond.selects "OwnRain$Reader" ({ cls := "OwnRain$Reader", name := "expectNumber", desc := "(II)V" } : Jvm.MethodName) ({ cls := "OwnRain$Reader", name := "expectNumber", desc := "(II)V" } : Jvm.MethodName)) ∈ gtbl := gq 12 (by decide +kernel) rfl
theorem q13 : (Jvm.Cond.selects "OwnRain$Reader" ({ cls := "OwnRain$Reader", name := "readName", desc := "(Z)V" } : Jvm.MethodName) ({ cls := "OwnRain$Reader", name := "readName", desc := "(Z)V" } : Jvm.MethodName)) ∈ gtbl := gq 13 (by decide +kernel) rfl
theorem q14 : (Jvm.Cond.selects "OwnRain$Reader" ({ cls := "OwnRain$Reader", name := "opens", desc := "(I)Z" } : Jvm.MethodName) ({ cls := "OwnRain$Reader", name := "opens", desc := "(I)Z" } : Jvm.MethodName)) ∈ gtbl := gq 14 (by decide +kernel) rfl
theorem q15 : (Jvm.Cond.selects "OwnRain$Reader" ({ cls := "OwnRain$Reader", name := "expect", desc := "(I)V" } : Jvm.MethodName) ({ cls := "OwnRain$Reader", name := "expect", desc := "(I)V" } : Jvm.MethodName)) ∈ gtbl := gq 15 (by decide +kernel) rfl
theorem q16 : (Jvm.Cond.selects "OwnRain$Reader" ({ cls := "OwnRain$Reader", name := "readGroup", desc := "(I)V" } : Jvm.MethodName) ({ cls := "OwnRain$Reader", name := "readGroup", desc := "(I)V" } : Jvm.MethodName)) ∈ gtbl := gq 16 (by decide +kernel) rfl
theorem q17 : (Jvm.Cond.selects "OwnRain$Reader" ({ cls := "OwnRain$Reader", name := "readEither", desc := "(I)V" } : Jvm.MethodName) ({ cls := "OwnRain$Reader", name := "readEither", desc := "(I)V" } : Jvm.MethodName)) ∈ gtbl := gq 17 (by decide +kernel) rfl
theorem q18 : (Jvm.Cond.selects "OwnRain$Reader" ({ cls := "OwnRain$Reader", name := "readBoth", desc := "(I)V" } : Jvm.MethodName) ({ cls := "OwnRain$Reader", name := "readBoth", desc := "(I)V" } : Jvm.MethodName)) ∈ gtbl := gq 18 (by decide +kernel) rfl
theorem q19 : (Jvm.Cond.selects "OwnRain$Reader" ({ cls := "OwnRain$Reader", name := "readAsk", desc := "(I)V" } : Jvm.MethodName) ({ cls := "OwnRain$Reader", name := "readAsk", desc := "(I)V" } : Jvm.MethodName)) ∈ gtbl := gq 19 (by decide +kernel) rfl
theorem q20 : (Jvm.Cond.selects "OwnRain$Reader" ({ cls := "OwnRain$Reader", name := "readParts", desc := "(II)V" } : Jvm.MethodName) ({ cls := "OwnRain$Reader", name := "readParts", desc := "(II)V" } : Jvm.MethodName)) ∈ gtbl := gq 20 (by decide +kernel) rfl
theorem q21 : (Jvm.Cond.selects "OwnRain$Weather" ({ cls := "OwnRain$Weather", name := "law", desc := "(IILOwnRain$World;II)I" } : Jvm.MethodName) ({ cls := "OwnRain$Weather", name := "law", desc := "(IILOwnRain$World;II)I" } : Jvm.MethodName)) ∈ gtbl := gq 21 (by decide +kernel) rfl
theorem q22 : (Jvm.Cond.selects "OwnRain$Weather" ({ cls := "OwnRain$Weather", name := "run", desc := "(LOwnRain$Text;III)I" } : Jvm.MethodName) ({ cls := "OwnRain$Weather", name := "run", desc := "(LOwnRain$Text;III)I" } : Jvm.MethodName)) ∈ gtbl := gq 22 (by decide +kernel) rfl
theorem q23 : (Jvm.Cond.selects "OwnRain$Weather" ({ cls := "OwnRain$Weather", name := "named", desc := "(II)I" } : Jvm.MethodName) ({ cls := "OwnRain$Weather", name := "named", desc := "(II)I" } : Jvm.MethodName)) ∈ gtbl := gq 23 (by decide +kernel) rfl
theorem q24 : (Jvm.Cond.selects "OwnRain$Weather" ({ cls := "OwnRain$Weather", name := "rainFrom", desc := "(LOwnRain$World;I)V" } : Jvm.MethodName) ({ cls := "OwnRain$Weather", name := "rainFrom", desc := "(LOwnRain$World;I)V" } : Jvm.MethodName)) ∈ gtbl := gq 24 (by decide +kernel) rfl
theorem q25 : (Jvm.Cond.selects "OwnRain$Weather" ({ cls := "OwnRain$Weather", name := "closeHour", desc := "(LOwnRain$World;I)V" } : Jvm.MethodName) ({ cls := "OwnRain$Weather", name := "closeHour", desc := "(LOwnRain$World;I)V" } : Jvm.MethodName)) ∈ gtbl := gq 25 (by decide +kernel) rfl
theorem q26 : (Jvm.Cond.selects "OwnRain" ({ cls := "OwnRain", name := "canDo", desc := "(LOwnRain$Text;I)Z" } : Jvm.MethodName) ({ cls := "OwnRain", name := "canDo", desc := "(LOwnRain$Text;I)Z" } : Jvm.MethodName)) ∈ gtbl := gq 26 (by decide +kernel) rfl
theorem q27 : (Jvm.Cond.selects "OwnRain" ({ cls := "OwnRain", name := "draw", desc := "()I" } : Jvm.MethodName) ({ cls := "OwnRain", name := "draw", desc := "()I" } : Jvm.MethodName)) ∈ gtbl := gq 27 (by decide +kernel) rfl
theorem q28 : (Jvm.Cond.selects "OwnRain$World" ({ cls := "OwnRain$World", name := "rain", desc := "(I)I" } : Jvm.MethodName) ({ cls := "OwnRain$World", name := "rain", desc := "(I)I" } : Jvm.MethodName)) ∈ gtbl := gq 28 (by decide +kernel) rfl
theorem q29 : (Jvm.Cond.selects "OwnRain$Planner" ({ cls := "OwnRain$Planner", name := "freshWorld", desc := "()LOwnRain$World;" } : Jvm.MethodName) ({ cls := "OwnRain$Planner", name := "freshWorld", desc := "()LOwnRain$World;" } : Jvm.MethodName)) ∈ gtbl := gq 29 (by decide +kernel) rfl
theorem q30 : (Jvm.Cond.selects "OwnRain$Planner" ({ cls := "OwnRain$Planner", name := "tryWork", desc := "(IIIIZ)V" } : Jvm.MethodName) ({ cls := "OwnRain$Planner", name := "tryWork", desc := "(IIIIZ)V" } : Jvm.MethodName)) ∈ gtbl := gq 30 (by decide +kernel) rfl
theorem q31 : (Jvm.Cond.selects "OwnRain$Planner" ({ cls := "OwnRain$Planner", name := "sweatAt", desc := "(II)I" } : Jvm.MethodName) ({ cls := "OwnRain$Planner", name := "sweatAt", desc := "(II)I" } : Jvm.MethodName)) ∈ gtbl := gq 31 (by decide +kernel) rfl
theorem q32 : (Jvm.Cond.selects "OwnRain$Planner" ({ cls := "OwnRain$Planner", name := "mostBeyond", desc := "(III)I" } : Jvm.MethodName) ({ cls := "OwnRain$Planner", name := "mostBeyond", desc := "(III)I" } : Jvm.MethodName)) ∈ gtbl := gq 32 (by decide +kernel) rfl
theorem q33 : (Jvm.Cond.selects "OwnRain$Planner" ({ cls := "OwnRain$Planner", name := "lowestPlace", desc := "(III)I" } : Jvm.MethodName) ({ cls := "OwnRain$Planner", name := "lowestPlace", desc := "(III)I" } : Jvm.MethodName)) ∈ gtbl := gq 33 (by decide +kernel) rfl
theorem q34 : (Jvm.Cond.selects "OwnRain$Ways" ({ cls := "OwnRain$Ways", name := "nextField", desc := "(III)I" } : Jvm.MethodName) ({ cls := "OwnRain$Ways", name := "nextField", desc := "(III)I" } : Jvm.MethodName)) ∈ gtbl := gq 34 (by decide +kernel) rfl
theorem q35 : (Jvm.Cond.selects "OwnRain$Ways" ({ cls := "OwnRain$Ways", name := "widen", desc := "(I)V" } : Jvm.MethodName) ({ cls := "OwnRain$Ways", name := "widen", desc := "(I)V" } : Jvm.MethodName)) ∈ gtbl := gq 35 (by decide +kernel) rfl
theorem q36 : (Jvm.Cond.selects "OwnRain" ({ cls := "OwnRain", name := "nearOnes", desc := "(I)I" } : Jvm.MethodName) ({ cls := "OwnRain", name := "nearOnes", desc := "(I)I" } : Jvm.MethodName)) ∈ gtbl := gq 36 (by decide +kernel) rfl
theorem q37 : (Jvm.Cond.selects "OwnRain$Planner" ({ cls := "OwnRain$Planner", name := "growsAsMuch", desc := "(LOwnRain$World;)Z" } : Jvm.MethodName) ({ cls := "OwnRain$Planner", name := "growsAsMuch", desc := "(LOwnRain$World;)Z" } : Jvm.MethodName)) ∈ gtbl := gq 37 (by decide +kernel) rfl
theorem q38 : (Jvm.Cond.selects "OwnRainModel" ({ cls := "OwnRainModel", name := "isField", desc := "(I)Z" } : Jvm.MethodName) ({ cls := "OwnRainModel", name := "isField", desc := "(I)Z" } : Jvm.MethodName)) ∈ gtbl := gq 38 (by decide +kernel) rfl
theorem q39 : (Jvm.Cond.selects "OwnRainModel" ({ cls := "OwnRainModel", name := "fieldOf", desc := "(II)I" } : Jvm.MethodName) ({ cls := "OwnRainModel", name := "fieldOf", desc := "(II)I" } : Jvm.MethodName)) ∈ gtbl := gq 39 (by decide +kernel) rfl
theorem q40 : (Jvm.Cond.selects "OwnRainModel" ({ cls := "OwnRainModel", name := "set", desc := "(III)V" } : Jvm.MethodName) ({ cls := "OwnRainModel", name := "set", desc := "(III)V" } : Jvm.MethodName)) ∈ gtbl := gq 40 (by decide +kernel) rfl
theorem q41 : (Jvm.Cond.selects "OwnRainModel" ({ cls := "OwnRainModel", name := "four", desc := "(I)V" } : Jvm.MethodName) ({ cls := "OwnRainModel", name := "four", desc := "(I)V" } : Jvm.MethodName)) ∈ gtbl := gq 41 (by decide +kernel) rfl
theorem q42 : (Jvm.Cond.selects "OwnRainModel" ({ cls := "OwnRainModel", name := "readText", desc := "()I" } : Jvm.MethodName) ({ cls := "OwnRainModel", name := "readText", desc := "()I" } : Jvm.MethodName)) ∈ gtbl := gq 42 (by decide +kernel) rfl
theorem q43 : (Jvm.Cond.selects "OwnRainModel" ({ cls := "OwnRainModel", name := "nextToken", desc := "()V" } : Jvm.MethodName) ({ cls := "OwnRainModel", name := "nextToken", desc := "()V" } : Jvm.MethodName)) ∈ gtbl := gq 43 (by decide +kernel) rfl
theorem q44 : (Jvm.Cond.selects "OwnRainModel" ({ cls := "OwnRainModel", name := "byteAt", desc := "(I)I" } : Jvm.MethodName) ({ cls := "OwnRainModel", name := "byteAt", desc := "(I)I" } : Jvm.MethodName)) ∈ gtbl := gq 44 (by decide +kernel) rfl
theorem q45 : (Jvm.Cond.selects "OwnRainModel" ({ cls := "OwnRainModel", name := "clause", desc := "()I" } : Jvm.MethodName) ({ cls := "OwnRainModel", name := "clause", desc := "()I" } : Jvm.MethodName)) ∈ gtbl := gq 45 (by decide +kernel) rfl
theorem q46 : (Jvm.Cond.selects "OwnRainModel" ({ cls := "OwnRainModel", name := "sortOf", desc := "()I" } : Jvm.MethodName) ({ cls := "OwnRainModel", name := "sortOf", desc := "()I" } : Jvm.MethodName)) ∈ gtbl := gq 46 (by decide +kernel) rfl
theorem q47 : (Jvm.Cond.selects "OwnRainModel" ({ cls := "OwnRainModel", name := "isWord", desc := "(J)Z" } : Jvm.MethodName) ({ cls := "OwnRainModel", name := "isWord", desc := "(J)Z" } : Jvm.MethodName)) ∈ gtbl := gq 47 (by decide +kernel) rfl
theorem q48 : (Jvm.Cond.selects "OwnRainModel" ({ cls := "OwnRainModel", name := "body", desc := "(II)I" } : Jvm.MethodName) ({ cls := "OwnRainModel", name := "body", desc := "(II)I" } : Jvm.MethodName)) ∈ gtbl := gq 48 (by decide +kernel) rfl
theorem q49 : (Jvm.Cond.selects "OwnRainModel" ({ cls := "OwnRainModel", name := "fieldClause", desc := "(I)I" } : Jvm.MethodName) ({ cls := "OwnRainModel", name := "fieldClause", desc := "(I)I" } : Jvm.MethodName)) ∈ gtbl := gq 49 (by decide +kernel) rfl
theorem q50 : (Jvm.Cond.selects "OwnRainModel" ({ cls := "OwnRainModel", name := "figure", desc := "(III)I" } : Jvm.MethodName) ({ cls := "OwnRainModel", name := "figure", desc := "(III)I" } : Jvm.MethodName)) ∈ gtbl := gq 50 (by decide +kernel) rfl
theorem q51 : (Jvm.Cond.selects "OwnRainModel" ({ cls := "OwnRainModel", name := "worded", desc := "(JIII)I" } : Jvm.MethodName) ({ cls := "OwnRainModel", name := "worded", desc := "(JIII)I" } : Jvm.MethodName)) ∈ gtbl := gq 51 (by decide +kernel) rfl
theorem q52 : (Jvm.Cond.selects "OwnRainModel" ({ cls := "OwnRainModel", name := "pair", desc := "(IIIJI)I" } : Jvm.MethodName) ({ cls := "OwnRainModel", name := "pair", desc := "(IIIJI)I" } : Jvm.MethodName)) ∈ gtbl := gq 52 (by decide +kernel) rfl
theorem q53 : (Jvm.Cond.selects "OwnRainModel" ({ cls := "OwnRainModel", name := "oneClause", desc := "(I)I" } : Jvm.MethodName) ({ cls := "OwnRainModel", name := "oneClause", desc := "(I)I" } : Jvm.MethodName)) ∈ gtbl := gq 53 (by decide +kernel) rfl
theorem q54 : (Jvm.Cond.selects "OwnRainModel" ({ cls := "OwnRainModel", name := "stealClause", desc := "(I)I" } : Jvm.MethodName) ({ cls := "OwnRainModel", name := "stealClause", desc := "(I)I" } : Jvm.MethodName)) ∈ gtbl := gq 54 (by decide +kernel) rfl
theorem q55 : (Jvm.Cond.selects "OwnRainModel" ({ cls := "OwnRainModel", name := "lawClause", desc := "(I)I" } : Jvm.MethodName) ({ cls := "OwnRainModel", name := "lawClause", desc := "(I)I" } : Jvm.MethodName)) ∈ gtbl := gq 55 (by decide +kernel) rfl
theorem q56 : (Jvm.Cond.selects "OwnRainModel" ({ cls := "OwnRainModel", name := "summed", desc := "()I" } : Jvm.MethodName) ({ cls := "OwnRainModel", name := "summed", desc := "()I" } : Jvm.MethodName)) ∈ gtbl := gq 56 (by decide +kernel) rfl
theorem q57 : (Jvm.Cond.selects "OwnRainModel" ({ cls := "OwnRainModel", name := "behindOne", desc := "()Z" } : Jvm.MethodName) ({ cls := "OwnRainModel", name := "behindOne", desc := "()Z" } : Jvm.MethodName)) ∈ gtbl := gq 57 (by decide +kernel) rfl
theorem q58 : (Jvm.Cond.selects "OwnRainModel" ({ cls := "OwnRainModel", name := "betweenOf", desc := "()I" } : Jvm.MethodName) ({ cls := "OwnRainModel", name := "betweenOf", desc := "()I" } : Jvm.MethodName)) ∈ gtbl := gq 58 (by decide +kernel) rfl
theorem q59 : (Jvm.Cond.selects "OwnRainModel" ({ cls := "OwnRainModel", name := "openNow", desc := "()I" } : Jvm.MethodName) ({ cls := "OwnRainModel", name := "openNow", desc := "()I" } : Jvm.MethodName)) ∈ gtbl := gq 59 (by decide +kernel) rfl
theorem q60 : (Jvm.Cond.selects "OwnRainModel" ({ cls := "OwnRainModel", name := "isCompared", desc := "()Z" } : Jvm.MethodName) ({ cls := "OwnRainModel", name := "isCompared", desc := "()Z" } : Jvm.MethodName)) ∈ gtbl := gq 60 (by decide +kernel) rfl
theorem q61 : (Jvm.Cond.selects "OwnRainModel" ({ cls := "OwnRainModel", name := "compareOf", desc := "()I" } : Jvm.MethodName) ({ cls := "OwnRainModel", name := "compareOf", desc := "()I" } : Jvm.MethodName)) ∈ gtbl := gq 61 (by decide +kernel) rfl
theorem q62 : (Jvm.Cond.selects "OwnRainModel" ({ cls := "OwnRainModel", name := "settle", desc := "(I)V" } : Jvm.MethodName) ({ cls := "OwnRainModel", name := "settle", desc := "(I)V" } : Jvm.MethodName)) ∈ gtbl := gq 62 (by decide +kernel) rfl
theorem q63 : (Jvm.Cond.selects "OwnRainModel" ({ cls := "OwnRainModel", name := "emit", desc := "(II)V" } : Jvm.MethodName) ({ cls := "OwnRainModel", name := "emit", desc := "(II)V" } : Jvm.MethodName)) ∈ gtbl := gq 63 (by decide +kernel) rfl
theorem q64 : (Jvm.Cond.selects "OwnRainModel" ({ cls := "OwnRainModel", name := "shut", desc := "(I)V" } : Jvm.MethodName) ({ cls := "OwnRainModel", name := "shut", desc := "(I)V" } : Jvm.MethodName)) ∈ gtbl := gq 64 (by decide +kernel) rfl
theorem q65 : (Jvm.Cond.selects "OwnRainModel" ({ cls := "OwnRainModel", name := "beginOne", desc := "()I" } : Jvm.MethodName) ({ cls := "OwnRainModel", name := "beginOne", desc := "()I" } : Jvm.MethodName)) ∈ gtbl := gq 65 (by decide +kernel) rfl
theorem q66 : (Jvm.Cond.selects "OwnRainModel" ({ cls := "OwnRainModel", name := "nameOf", desc := "()I" } : Jvm.MethodName) ({ cls := "OwnRainModel", name := "nameOf", desc := "()I" } : Jvm.MethodName)) ∈ gtbl := gq 66 (by decide +kernel) rfl
theorem q67 : (Jvm.Cond.selects "OwnRainModel" ({ cls := "OwnRainModel", name := "isOf", desc := "(I)Z" } : Jvm.MethodName) ({ cls := "OwnRainModel", name := "isOf", desc := "(I)Z" } : Jvm.MethodName)) ∈ gtbl := gq 67 (by decide +kernel) rfl
theorem q68 : (Jvm.Cond.selects "OwnRainModel" ({ cls := "OwnRainModel", name := "opened", desc := "(I)I" } : Jvm.MethodName) ({ cls := "OwnRainModel", name := "opened", desc := "(I)I" } : Jvm.MethodName)) ∈ gtbl := gq 68 (by decide +kernel) rfl
theorem q69 : (Jvm.Cond.selects "OwnRainModel" ({ cls := "OwnRainModel", name := "isAskAhead", desc := "()Z" } : Jvm.MethodName) ({ cls := "OwnRainModel", name := "isAskAhead", desc := "()Z" } : Jvm.MethodName)) ∈ gtbl := gq 69 (by decide +kernel) rfl
theorem q70 : (Jvm.Cond.selects "OwnRainModel" ({ cls := "OwnRainModel", name := "get", desc := "(II)I" } : Jvm.MethodName) ({ cls := "OwnRainModel", name := "get", desc := "(II)I" } : Jvm.MethodName)) ∈ gtbl := gq 70 (by decide +kernel) rfl
theorem q71 : (Jvm.Cond.selects "OwnRainModel" ({ cls := "OwnRainModel", name := "passStep", desc := "()I" } : Jvm.MethodName) ({ cls := "OwnRainModel", name := "passStep", desc := "()I" } : Jvm.MethodName)) ∈ gtbl := gq 71 (by decide +kernel) rfl
theorem q72 : (Jvm.Cond.selects "OwnRainModel" ({ cls := "OwnRainModel", name := "keep", desc := "()V" } : Jvm.MethodName) ({ cls := "OwnRainModel", name := "keep", desc := "()V" } : Jvm.MethodName)) ∈ gtbl := gq 72 (by decide +kernel) rfl
theorem q73 : (Jvm.Cond.selects "OwnRainModel" ({ cls := "OwnRainModel", name := "pass", desc := "()I" } : Jvm.MethodName) ({ cls := "OwnRainModel", name := "pass", desc := "()I" } : Jvm.MethodName)) ∈ gtbl := gq 73 (by decide +kernel) rfl
theorem q74 : (Jvm.Cond.selects "OwnRainModel" ({ cls := "OwnRainModel", name := "rainAll", desc := "()I" } : Jvm.MethodName) ({ cls := "OwnRainModel", name := "rainAll", desc := "()I" } : Jvm.MethodName)) ∈ gtbl := gq 74 (by decide +kernel) rfl
theorem q75 : (Jvm.Cond.selects "OwnRainModel" ({ cls := "OwnRainModel", name := "sweatOf", desc := "(II)I" } : Jvm.MethodName) ({ cls := "OwnRainModel", name := "sweatOf", desc := "(II)I" } : Jvm.MethodName)) ∈ gtbl := gq 75 (by decide +kernel) rfl
theorem q76 : (Jvm.Cond.selects "OwnRainModel" ({ cls := "OwnRainModel", name := "says", desc := "(IIIIII)I" } : Jvm.MethodName) ({ cls := "OwnRainModel", name := "says", desc := "(IIIIII)I" } : Jvm.MethodName)) ∈ gtbl := gq 76 (by decide +kernel) rfl
theorem q77 : (Jvm.Cond.selects "OwnRainModel" ({ cls := "OwnRainModel", name := "name", desc := "(I)V" } : Jvm.MethodName) ({ cls := "OwnRainModel", name := "name", desc := "(I)V" } : Jvm.MethodName)) ∈ gtbl := gq 77 (by decide +kernel) rfl
theorem q78 : (Jvm.Cond.selects "OwnRainModel" ({ cls := "OwnRainModel", name := "worked", desc := "(I)I" } : Jvm.MethodName) ({ cls := "OwnRainModel", name := "worked", desc := "(I)I" } : Jvm.MethodName)) ∈ gtbl := gq 78 (by decide +kernel) rfl
theorem q79 : (Jvm.Cond.selects "OwnRainModel" ({ cls := "OwnRainModel", name := "takeNext", desc := "()Z" } : Jvm.MethodName) ({ cls := "OwnRainModel", name := "takeNext", desc := "()Z" } : Jvm.MethodName)) ∈ gtbl := gq 79 (by decide +kernel) rfl
theorem q80 : (Jvm.Cond.selects "OwnRainModel" ({ cls := "OwnRainModel", name := "nextThere", desc := "(I)I" } : Jvm.MethodName) ({ cls := "OwnRainModel", name := "nextThere", desc := "(I)I" } : Jvm.MethodName)) ∈ gtbl := gq 80 (by decide +kernel) rfl
theorem q81 : (Jvm.Cond.selects "OwnRainModel" ({ cls := "OwnRainModel", name := "endEach", desc := "(I)I" } : Jvm.MethodName) ({ cls := "OwnRainModel", name := "endEach", desc := "(I)I" } : Jvm.MethodName)) ∈ gtbl := gq 81 (by decide +kernel) rfl
theorem q82 : (Jvm.Cond.selects "OwnRainModel" ({ cls := "OwnRainModel", name := "addTo", desc := "(II)V" } : Jvm.MethodName) ({ cls := "OwnRainModel", name := "addTo", desc := "(II)V" } : Jvm.MethodName)) ∈ gtbl := gq 82 (by decide +kernel) rfl
theorem q83 : (Jvm.Cond.selects "OwnRainModel" ({ cls := "OwnRainModel", name := "rainOf", desc := "(I)V" } : Jvm.MethodName) ({ cls := "OwnRainModel", name := "rainOf", desc := "(I)V" } : Jvm.MethodName)) ∈ gtbl := gq 83 (by decide +kernel) rfl
theorem q84 : (Jvm.Cond.selects "OwnRainModel" ({ cls := "OwnRainModel", name := "wet", desc := "(II)V" } : Jvm.MethodName) ({ cls := "OwnRainModel", name := "wet", desc := "(II)V" } : Jvm.MethodName)) ∈ gtbl := gq 84 (by decide +kernel) rfl
theorem q85 : (Jvm.Cond.selects "OwnRainModel" ({ cls := "OwnRainModel", name := "write", desc := "(II)V" } : Jvm.MethodName) ({ cls := "OwnRainModel", name := "write", desc := "(II)V" } : Jvm.MethodName)) ∈ gtbl := gq 85 (by decide +kernel) rfl
theorem q86 : (Jvm.Cond.selects "OwnRainModel" ({ cls := "OwnRainModel", name := "dryAll", desc := "()V" } : Jvm.MethodName) ({ cls := "OwnRainModel", name := "dryAll", desc := "()V" } : Jvm.MethodName)) ∈ gtbl := gq 86 (by decide +kernel) rfl
theorem q87 : (Jvm.Cond.selects "OwnRainModel" ({ cls := "OwnRainModel", name := "isPerson", desc := "(I)Z" } : Jvm.MethodName) ({ cls := "OwnRainModel", name := "isPerson", desc := "(I)Z" } : Jvm.MethodName)) ∈ gtbl := gq 87 (by decide +kernel) rfl
theorem q88 : (Jvm.Cond.selects "OwnRainModel" ({ cls := "OwnRainModel", name := "canGo", desc := "(II)Z" } : Jvm.MethodName) ({ cls := "OwnRainModel", name := "canGo", desc := "(II)Z" } : Jvm.MethodName)) ∈ gtbl := gq 88 (by decide +kernel) rfl
theorem q89 : (Jvm.Cond.selects "OwnRainModel" ({ cls := "OwnRainModel", name := "canShake", desc := "(II)Z" } : Jvm.MethodName) ({ cls := "OwnRainModel", name := "canShake", desc := "(II)Z" } : Jvm.MethodName)) ∈ gtbl := gq 89 (by decide +kernel) rfl
theorem q90 : (Jvm.Cond.selects "OwnRainModel" ({ cls := "OwnRainModel", name := "shakeNow", desc := "(II)V" } : Jvm.MethodName) ({ cls := "OwnRainModel", name := "shakeNow", desc := "(II)V" } : Jvm.MethodName)) ∈ gtbl := gq 90 (by decide +kernel) rfl
theorem q91 : (Jvm.Cond.selects "OwnRainModel" ({ cls := "OwnRainModel", name := "canSteal", desc := "(III)Z" } : Jvm.MethodName) ({ cls := "OwnRainModel", name := "canSteal", desc := "(III)Z" } : Jvm.MethodName)) ∈ gtbl := gq 91 (by decide +kernel) rfl
theorem q92 : (Jvm.Cond.selects "OwnRainModel" ({ cls := "OwnRainModel", name := "stealNow", desc := "(III)V" } : Jvm.MethodName) ({ cls := "OwnRainModel", name := "stealNow", desc := "(III)V" } : Jvm.MethodName)) ∈ gtbl := gq 92 (by decide +kernel) rfl
theorem q93 : (Jvm.Cond.selects "OwnRainModel" ({ cls := "OwnRainModel", name := "isPlayed", desc := "(I)Z" } : Jvm.MethodName) ({ cls := "OwnRainModel", name := "isPlayed", desc := "(I)Z" } : Jvm.MethodName)) ∈ gtbl := gq 93 (by decide +kernel) rfl
theorem q94 : (Jvm.Cond.selects "OwnRainModel" ({ cls := "OwnRainModel", name := "areHours", desc := "(I)Z" } : Jvm.MethodName) ({ cls := "OwnRainModel", name := "areHours", desc := "(I)Z" } : Jvm.MethodName)) ∈ gtbl := gq 94 (by decide +kernel) rfl
theorem q95 : (Jvm.Cond.selects "OwnRainModel" ({ cls := "OwnRainModel", name := "happens", desc := "(II)I" } : Jvm.MethodName) ({ cls := "OwnRainModel", name := "happens", desc := "(II)I" } : Jvm.MethodName)) ∈ gtbl := gq 95 (by decide +kernel) rfl
theorem q96 : (Jvm.Cond.selects "OwnRainModel" ({ cls := "OwnRainModel", name := "peopleOn", desc := "(I)I" } : Jvm.MethodName) ({ cls := "OwnRainModel", name := "peopleOn", desc := "(I)I" } : Jvm.MethodName)) ∈ gtbl := gq 96 (by decide +kernel) rfl
theorem q97 : (Jvm.Cond.selects "OwnRainModel" ({ cls := "OwnRainModel", name := "wasAt", desc := "(II)I" } : Jvm.MethodName) ({ cls := "OwnRainModel", name := "wasAt", desc := "(II)I" } : Jvm.MethodName)) ∈ gtbl := gq 97 (by decide +kernel) rfl
theorem q98 : (Jvm.Cond.selects "OwnRainModel" ({ cls := "OwnRainModel", name := "begin", desc := "()V" } : Jvm.MethodName) ({ cls := "OwnRainModel", name := "begin", desc := "()V" } : Jvm.MethodName)) ∈ gtbl := gq 98 (by decide +kernel) rfl
theorem q99 : (Jvm.Cond.selects "OwnRainModel" ({ cls := "OwnRainModel", name := "passOnward", desc := "()V" } : Jvm.MethodName) ({ cls := "OwnRainModel", name := "passOnward", desc := "()V" } : Jvm.MethodName)) ∈ gtbl := gq 99 (by decide +kernel) rfl
theorem q100 : (Jvm.Cond.selects "OwnRainModel" ({ cls := "OwnRainModel", name := "putBack", desc := "()V" } : Jvm.MethodName) ({ cls := "OwnRainModel", name := "putBack", desc := "()V" } : Jvm.MethodName)) ∈ gtbl := gq 100 (by decide +kernel) rfl
theorem q101 : (Jvm.Cond.selects "OwnRainModel" ({ cls := "OwnRainModel", name := "sweatBy", desc := "(III)I" } : Jvm.MethodName) ({ cls := "OwnRainModel", name := "sweatBy", desc := "(III)I" } : Jvm.MethodName)) ∈ gtbl := gq 101 (by decide +kernel) rfl
theorem q102 : (Jvm.Cond.selects "OwnRainModel" ({ cls := "OwnRainModel", name := "sweatAllFor", desc := "(I)I" } : Jvm.MethodName) ({ cls := "OwnRainModel", name := "sweatAllFor", desc := "(I)I" } : Jvm.MethodName)) ∈ gtbl := gq 102 (by decide +kernel) rfl
theorem q103 : (Jvm.Cond.selects "OwnRainModel" ({ cls := "OwnRainModel", name := "layWorkers", desc := "(II)Z" } : Jvm.MethodName) ({ cls := "OwnRainModel", name := "layWorkers", desc := "(II)Z" } : Jvm.MethodName)) ∈ gtbl := gq 103 (by decide +kernel) rfl
theorem q104 : (Jvm.Cond.selects "OwnRainModel" ({ cls := "OwnRainModel", name := "findYields", desc := "(I)V" } : Jvm.MethodName) ({ cls := "OwnRainModel", name := "findYields", desc := "(I)V" } : Jvm.MethodName)) ∈ gtbl := gq 104 (by decide +kernel) rfl
theorem q105 : (Jvm.Cond.selects "OwnRainModel" ({ cls := "OwnRainModel", name := "nextOrder", desc := "(I)Z" } : Jvm.MethodName) ({ cls := "OwnRainModel", name := "nextOrder", desc := "(I)Z" } : Jvm.MethodName)) ∈ gtbl := gq 105 (by decide +kernel) rfl
theorem q106 : (Jvm.Cond.selects "OwnRainModel" ({ cls := "OwnRainModel", name := "findRoads", desc := "(II)V" } : Jvm.MethodName) ({ cls := "OwnRainModel", name := "findRoads", desc := "(II)V" } : Jvm.MethodName)) ∈ gtbl := gq 106 (by decide +kernel) rfl
theorem q107 : (Jvm.Cond.selects "OwnRainModel" ({ cls := "OwnRainModel", name := "canCome", desc := "(II)Z" } : Jvm.MethodName) ({ cls := "OwnRainModel", name := "canCome", desc := "(II)Z" } : Jvm.MethodName)) ∈ gtbl := gq 107 (by decide +kernel) rfl
theorem q108 : (Jvm.Cond.selects "OwnRainModel" ({ cls := "OwnRainModel", name := "nextField", desc := "(II)I" } : Jvm.MethodName) ({ cls := "OwnRainModel", name := "nextField", desc := "(II)I" } : Jvm.MethodName)) ∈ gtbl := gq 108 (by decide +kernel) rfl
theorem q109 : (Jvm.Cond.selects "OwnRainModel" ({ cls := "OwnRainModel", name := "nearOf", desc := "(I)I" } : Jvm.MethodName) ({ cls := "OwnRainModel", name := "nearOf", desc := "(I)I" } : Jvm.MethodName)) ∈ gtbl := gq 109 (by decide +kernel) rfl
theorem q110 : (Jvm.Cond.selects "OwnRainModel" ({ cls := "OwnRainModel", name := "errorsOf", desc := "(IZ)I" } : Jvm.MethodName) ({ cls := "OwnRainModel", name := "errorsOf", desc := "(IZ)I" } : Jvm.MethodName)) ∈ gtbl := gq 110 (by decide +kernel) rfl
theorem q111 : (Jvm.Cond.selects "OwnRainModel" ({ cls := "OwnRainModel", name := "tradedAt", desc := "(I)I" } : Jvm.MethodName) ({ cls := "OwnRainModel", name := "tradedAt", desc := "(I)I" } : Jvm.MethodName)) ∈ gtbl := gq 111 (by decide +kernel) rfl
theorem q112 : (Jvm.Cond.initialized "OwnRainLaw") ∈ gtbl := gq 112 (by decide +kernel) rfl
theorem q113 : (Jvm.Cond.initialized "OwnRain") ∈ gtbl := gq 113 (by decide +kernel) rfl
theorem q114 : (Jvm.Cond.initialized "OwnRain$State") ∈ gtbl := gq 114 (by decide +kernel) rfl
theorem q115 : (Jvm.Cond.initialized "OwnRain$Land") ∈ gtbl := gq 115 (by decide +kernel) rfl
theorem q116 : (Jvm.Cond.initialized "OwnRain$World") ∈ gtbl := gq 116 (by decide +kernel) rfl
theorem q117 : (Jvm.Cond.initialized "OwnRain$Steps") ∈ gtbl := gq 117 (by decide +kernel) rfl
theorem q118 : (Jvm.Cond.initialized "OwnRain$Lists") ∈ gtbl := gq 118 (by decide +kernel) rfl
theorem q119 : (Jvm.Cond.initialized "OwnRain$Tape") ∈ gtbl := gq 119 (by decide +kernel) rfl
theorem q120 : (Jvm.Cond.initialized "OwnRain$Reader") ∈ gtbl := gq 120 (by decide +kernel) rfl
theorem q121 : (Jvm.Cond.initialized "OwnRain$Weather") ∈ gtbl := gq 121 (by decide +kernel) rfl
theorem q122 : (Jvm.Cond.initialized "OwnRain$Planner") ∈ gtbl := gq 122 (by decide +kernel) rfl
theorem q123 : (Jvm.Cond.initialized "OwnRain$Ways") ∈ gtbl := gq 123 (by decide +kernel) rfl
theorem q124 : (Jvm.Cond.initialized "OwnRainModel") ∈ gtbl := gq 124 (by decide +kernel) rfl
theorem q125 : (Jvm.Cond.initialized "OwnRain$Text") ∈ gtbl := gq 125 (by decide +kernel) rfl
theorem q126 : (Jvm.Cond.initialized "java/lang/String") ∈ gtbl := gq 126 (by decide +kernel) rfl
theorem q127 : (Jvm.Cond.initialized "java/lang/StringLatin1") ∈ gtbl := gq 127 (by decide +kernel) rfl
theorem q128 : (Jvm.Cond.initialized "jdk/internal/util/Preconditions") ∈ gtbl := gq 128 (by decide +kernel) rfl
theorem q129 : (Jvm.Cond.initialized "java/lang/StringUTF16") ∈ gtbl := gq 129 (by decide +kernel) rfl
theorem q130 : (Jvm.Cond.initialized "java/lang/Math") ∈ gtbl := gq 130 (by decide +kernel) rfl
theorem q131 : (Jvm.Cond.initialized "java/lang/Character") ∈ gtbl := gq 131 (by decide +kernel) rfl
theorem q132 : (Jvm.Cond.initialized "java/lang/System") ∈ gtbl := gq 132 (by decide +kernel) rfl
theorem q133 : (Jvm.Cond.initialized "java/lang/Integer") ∈ gtbl := gq 133 (by decide +kernel) rfl
theorem q134 : (Jvm.Cond.classLink "OwnRainLaw" (7 : Nat) "OwnRain") ∈ gtbl := gq 134 (by decide +kernel) rfl
theorem q135 : (Jvm.Cond.instantiable "OwnRain" (7 : Nat)) ∈ gtbl := gq 135 (by decide +kernel) rfl
theorem q136 : (Jvm.Cond.methodLink "OwnRainLaw" (9 : Nat) ({ cls := "OwnRain", name := "<init>", desc := "()V" } : Jvm.MethodName)) ∈ gtbl := gq 136 (by decide +kernel) rfl
theorem q137 : (Jvm.Cond.instanceMethod ({ cls := "OwnRain", name := "<init>", desc := "()V" } : Jvm.MethodName)) ∈ gtbl := gq 137 (by decide +kernel) rfl
set_option maxRecDepth 100000 in
theorem q138 : (Jvm.Cond.code ({ cls := "OwnRain", name := "<init>", desc := "()V" } : Jvm.MethodName) prog_1_method_1_code (1 : Nat) (Option.none : Option Jvm.ClassFile.FieldType)) ∈ gtbl := gq 138 rfl rfl
theorem q139 : (Jvm.Cond.methodLink "OwnRain" (1 : Nat) ({ cls := "java/lang/Object", name := "<init>", desc := "()V" } : Jvm.MethodName)) ∈ gtbl := gq 139 (by decide +kernel) rfl
theorem q140 : (Jvm.Cond.instanceMethod ({ cls := "java/lang/Object", name := "<init>", desc := "()V" } : Jvm.MethodName)) ∈ gtbl := gq 140 (by decide +kernel) rfl
set_option maxRecDepth 100000 in
theorem q141 : (Jvm.Cond.code ({ cls := "java/lang/Object", name := "<init>", desc := "()V" } : Jvm.MethodName) object_method_1_code (1 : Nat) (Option.none : Option Jvm.ClassFile.FieldType)) ∈ gtbl := gq 141 rfl rfl
theorem q142 : (Jvm.Cond.classLink "OwnRain" (7 : Nat) "OwnRain$State") ∈ gtbl := gq 142 (by decide +kernel) rfl
theorem q143 : (Jvm.Cond.instantiable "OwnRain$State" (7 : Nat)) ∈ gtbl := gq 143 (by decide +kernel) rfl
theorem q145 : (Jvm.Cond.instanceMethod ({ cls := "OwnRain$State", name := "<init>", desc := "()V" } : Jvm.MethodName)) ∈ gtbl := gq 145 (by decide +kernel) rfl
set_option maxRecDepth 100000 in
theorem q146 : (Jvm.Cond.code ({ cls := "OwnRain$State", name := "<init>", desc := "()V" } : Jvm.MethodName) prog_6_method_1_code (1 : Nat) (Option.none : Option Jvm.ClassFile.FieldType)) ∈ gtbl := gq 146 rfl rfl
theorem q147 : (Jvm.Cond.methodLink "OwnRain$State" (3 : Nat) ({ cls := "java/lang/Object", name := "<init>", desc := "()V" } : Jvm.MethodName)) ∈ gtbl := gq 147 (by decide +kernel) rfl
theorem q148 : (Jvm.Cond.classLink "OwnRain$State" (9 : Nat) "OwnRain$Land") ∈ gtbl := gq 148 (by decide +kernel) rfl
theorem q149 : (Jvm.Cond.instantiable "OwnRain$Land" (10 : Nat)) ∈ gtbl := gq 149 (by decide +kernel) rfl
theorem q151 : (Jvm.Cond.instanceMethod ({ cls := "OwnRain$Land", name := "<init>", desc := "()V" } : Jvm.MethodName)) ∈ gtbl := gq 151 (by decide +kernel) rfl
set_option maxRecDepth 100000 in
theorem q152 : (Jvm.Cond.code ({ cls := "OwnRain$Land", name := "<init>", desc := "()V" } : Jvm.MethodName) prog_2_method_1_code (1 : Nat) (Option.none : Option Jvm.ClassFile.FieldType)) ∈ gtbl := gq 152 rfl rfl
theorem q153 : (Jvm.Cond.methodLink "OwnRain$Land" (3 : Nat) ({ cls := "java/lang/Object", name := "<init>", desc := "()V" } : Jvm.MethodName)) ∈ gtbl := gq 153 (by decide +kernel) rfl
theorem q154 : (Jvm.Cond.fieldLink "OwnRain$Land" (36 : Nat) "OwnRain$Land" "fields" "I") ∈ gtbl := gq 154 (by decide +kernel) rfl
theorem q155 : (Jvm.Cond.fieldLink "OwnRain$Ways" (28 : Nat) "OwnRain$Land" "fields" "I") ∈ gtbl := gq 155 (by decide +kernel) rfl
theorem q156 : (Jvm.Cond.fieldLink "OwnRain" (68 : Nat) "OwnRain$Land" "fields" "I") ∈ gtbl := gq 156 (by decide +kernel) rfl
theorem q157 : (Jvm.Cond.fieldLink "OwnRain$Weather" (65 : Nat) "OwnRain$Land" "fields" "I") ∈ gtbl := gq 157 (by decide +kernel) rfl
theorem q158 : (Jvm.Cond.fieldLink "OwnRain$Planner" (122 : Nat) "OwnRain$Land" "fields" "I") ∈ gtbl := gq 158 (by decide +kernel) rfl
theorem q159 : (Jvm.Cond.fieldLink "OwnRain$Weather" (38 : Nat) "OwnRain$Land" "people" "I") ∈ gtbl := gq 159 (by decide +kernel) rfl
theorem q160 : (Jvm.Cond.fieldLink "OwnRain$Land" (40 : Nat) "OwnRain$Land" "people" "I") ∈ gtbl := gq 160 (by decide +kernel) rfl
theorem q161 : (Jvm.Cond.fieldLink "OwnRain" (90 : Nat) "OwnRain$Land" "people" "I") ∈ gtbl := gq 161 (by decide +kernel) rfl
theorem q162 : (Jvm.Cond.fieldLink "OwnRain$State" (80 : Nat) "OwnRain$Land" "people" "I") ∈ gtbl := gq 162 (by decide +kernel) rfl
theorem q163 : (Jvm.Cond.fieldLink "OwnRain$Land" (9 : Nat) "OwnRain$Land" "heat" "[I") ∈ gtbl := gq 163 (by decide +kernel) rfl
theorem q164 : (Jvm.Cond.fieldLink "OwnRain$Weather" (124 : Nat) "OwnRain$Land" "heat" "[I") ∈ gtbl := gq 164 (by decide +kernel) rfl
theorem q165 : (Jvm.Cond.fieldLink "OwnRain" (249 : Nat) "OwnRain$Land" "heat" "[I") ∈ gtbl := gq 165 (by decide +kernel) rfl
theorem q166 : (Jvm.Cond.fieldLink "OwnRain$Land" (15 : Nat) "OwnRain$Land" "needs" "[I") ∈ gtbl := gq 166 (by decide +kernel) rfl
theorem q167 : (Jvm.Cond.fieldLink "OwnRain$Weather" (118 : Nat) "OwnRain$Land" "needs" "[I") ∈ gtbl := gq 167 (by decide +kernel) rfl
theorem q168 : (Jvm.Cond.fieldLink "OwnRain$Planner" (107 : Nat) "OwnRain$Land" "needs" "[I") ∈ gtbl := gq 168 (by decide +kernel) rfl
theorem q169 : (Jvm.Cond.fieldLink "OwnRain" (252 : Nat) "OwnRain$Land" "needs" "[I") ∈ gtbl := gq 169 (by decide +kernel) rfl
theorem q170 : (Jvm.Cond.fieldLink "OwnRain$Land" (18 : Nat) "OwnRain$Land" "drowns" "[I") ∈ gtbl := gq 170 (by decide +kernel) rfl
theorem q171 : (Jvm.Cond.fieldLink "OwnRain$Weather" (112 : Nat) "OwnRain$Land" "drowns" "[I") ∈ gtbl := gq 171 (by decide +kernel) rfl
theorem q172 : (Jvm.Cond.fieldLink "OwnRain$Planner" (102 : Nat) "OwnRain$Land" "drowns" "[I") ∈ gtbl := gq 172 (by decide +kernel) rfl
theorem q173 : (Jvm.Cond.fieldLink "OwnRain" (255 : Nat) "OwnRain$Land" "drowns" "[I") ∈ gtbl := gq 173 (by decide +kernel) rfl
theorem q174 : (Jvm.Cond.fieldLink "OwnRain$Land" (21 : Nat) "OwnRain$Land" "roads" "[I") ∈ gtbl := gq 174 (by decide +kernel) rfl
theorem q175 : (Jvm.Cond.fieldLink "OwnRain" (267 : Nat) "OwnRain$Land" "roads" "[I") ∈ gtbl := gq 175 (by decide +kernel) rfl
theorem q176 : (Jvm.Cond.fieldLink "OwnRain$Land" (24 : Nat) "OwnRain$Land" "full" "[I") ∈ gtbl := gq 176 (by decide +kernel) rfl
theorem q177 : (Jvm.Cond.fieldLink "OwnRain$Weather" (58 : Nat) "OwnRain$Land" "full" "[I") ∈ gtbl := gq 177 (by decide +kernel) rfl
theorem q178 : (Jvm.Cond.fieldLink "OwnRain" (270 : Nat) "OwnRain$Land" "full" "[I") ∈ gtbl := gq 178 (by decide +kernel) rfl
theorem q179 : (Jvm.Cond.fieldLink "OwnRain$Land" (27 : Nat) "OwnRain$Land" "age" "[I") ∈ gtbl := gq 179 (by decide +kernel) rfl
theorem q180 : (Jvm.Cond.fieldLink "OwnRain$Weather" (198 : Nat) "OwnRain$Land" "age" "[I") ∈ gtbl := gq 180 (by decide +kernel) rfl
theorem q181 : (Jvm.Cond.fieldLink "OwnRain" (273 : Nat) "OwnRain$Land" "age" "[I") ∈ gtbl := gq 181 (by decide +kernel) rfl
theorem q182 : (Jvm.Cond.fieldLink "OwnRain$Land" (30 : Nat) "OwnRain$Land" "home" "[I") ∈ gtbl := gq 182 (by decide +kernel) rfl
theorem q183 : (Jvm.Cond.fieldLink "OwnRain$State" (94 : Nat) "OwnRain$Land" "home" "[I") ∈ gtbl := gq 183 (by decide +kernel) rfl
theorem q184 : (Jvm.Cond.fieldLink "OwnRain$Land" (33 : Nat) "OwnRain$Land" "brought" "[I") ∈ gtbl := gq 184 (by decide +kernel) rfl
theorem q185 : (Jvm.Cond.fieldLink "OwnRain$State" (97 : Nat) "OwnRain$Land" "brought" "[I") ∈ gtbl := gq 185 (by decide +kernel) rfl
theorem q207 : (Jvm.Cond.arrayClass Jvm.ClassFile.FieldType.int) ∈ gtbl := gq 207 (by decide +kernel) rfl
theorem q208 : (Jvm.Cond.classLink "OwnRain$State" (18 : Nat) "OwnRain$World") ∈ gtbl := gq 208 (by decide +kernel) rfl
theorem q209 : (Jvm.Cond.instantiable "OwnRain$World" (15 : Nat)) ∈ gtbl := gq 209 (by decide +kernel) rfl
theorem q211 : (Jvm.Cond.instanceMethod ({ cls := "OwnRain$World", name := "<init>", desc := "()V" } : Jvm.MethodName)) ∈ gtbl := gq 211 (by decide +kernel) rfl
set_option maxRecDepth 100000 in
theorem q212 : (Jvm.Cond.code ({ cls := "OwnRain$World", name := "<init>", desc := "()V" } : Jvm.MethodName) prog_12_method_1_code (1 : Nat) (Option.none : Option Jvm.ClassFile.FieldType)) ∈ gtbl := gq 212 rfl rfl
theorem q213 : (Jvm.Cond.methodLink "OwnRain$World" (3 : Nat) ({ cls := "java/lang/Object", name := "<init>", desc := "()V" } : Jvm.MethodName)) ∈ gtbl := gq 213 (by decide +kernel) rfl
theorem q214 : (Jvm.Cond.fieldLink "OwnRain$World" (9 : Nat) "OwnRain$World" "wet" "[I") ∈ gtbl := gq 214 (by decide +kernel) rfl
theorem q215 : (Jvm.Cond.fieldLink "OwnRain$Weather" (68 : Nat) "OwnRain$World" "wet" "[I") ∈ gtbl := gq 215 (by decide +kernel) rfl
theorem q216 : (Jvm.Cond.fieldLink "OwnRain$Ways" (46 : Nat) "OwnRain$World" "wet" "[I") ∈ gtbl := gq 216 (by decide +kernel) rfl
theorem q217 : (Jvm.Cond.fieldLink "OwnRain" (179 : Nat) "OwnRain$World" "wet" "[I") ∈ gtbl := gq 217 (by decide +kernel) rfl
theorem q218 : (Jvm.Cond.fieldLink "OwnRain$World" (15 : Nat) "OwnRain$World" "grown" "[I") ∈ gtbl := gq 218 (by decide +kernel) rfl
theorem q219 : (Jvm.Cond.fieldLink "OwnRain$Weather" (121 : Nat) "OwnRain$World" "grown" "[I") ∈ gtbl := gq 219 (by decide +kernel) rfl
theorem q220 : (Jvm.Cond.fieldLink "OwnRain$Planner" (117 : Nat) "OwnRain$World" "grown" "[I") ∈ gtbl := gq 220 (by decide +kernel) rfl
theorem q221 : (Jvm.Cond.fieldLink "OwnRain" (258 : Nat) "OwnRain$World" "grown" "[I") ∈ gtbl := gq 221 (by decide +kernel) rfl
theorem q222 : (Jvm.Cond.fieldLink "OwnRain$World" (18 : Nat) "OwnRain$World" "flooded" "[I") ∈ gtbl := gq 222 (by decide +kernel) rfl
theorem q223 : (Jvm.Cond.fieldLink "OwnRain$Weather" (115 : Nat) "OwnRain$World" "flooded" "[I") ∈ gtbl := gq 223 (by decide +kernel) rfl
theorem q224 : (Jvm.Cond.fieldLink "OwnRain" (261 : Nat) "OwnRain$World" "flooded" "[I") ∈ gtbl := gq 224 (by decide +kernel) rfl
theorem q225 : (Jvm.Cond.fieldLink "OwnRain$World" (21 : Nat) "OwnRain$World" "cloud" "[I") ∈ gtbl := gq 225 (by decide +kernel) rfl
theorem q226 : (Jvm.Cond.fieldLink "OwnRain$Weather" (47 : Nat) "OwnRain$World" "cloud" "[I") ∈ gtbl := gq 226 (by decide +kernel) rfl
theorem q227 : (Jvm.Cond.fieldLink "OwnRain$State" (77 : Nat) "OwnRain$World" "cloud" "[I") ∈ gtbl := gq 227 (by decide +kernel) rfl
theorem q228 : (Jvm.Cond.fieldLink "OwnRain" (167 : Nat) "OwnRain$World" "cloud" "[I") ∈ gtbl := gq 228 (by decide +kernel) rfl
theorem q229 : (Jvm.Cond.fieldLink "OwnRain$World" (24 : Nat) "OwnRain$World" "work" "[I") ∈ gtbl := gq 229 (by decide +kernel) rfl
theorem q230 : (Jvm.Cond.fieldLink "OwnRain$Weather" (85 : Nat) "OwnRain$World" "work" "[I") ∈ gtbl := gq 230 (by decide +kernel) rfl
theorem q231 : (Jvm.Cond.fieldLink "OwnRain$Planner" (89 : Nat) "OwnRain$World" "work" "[I") ∈ gtbl := gq 231 (by decide +kernel) rfl
theorem q232 : (Jvm.Cond.fieldLink "OwnRain" (150 : Nat) "OwnRain$World" "work" "[I") ∈ gtbl := gq 232 (by decide +kernel) rfl
theorem q233 : (Jvm.Cond.fieldLink "OwnRain$World" (27 : Nat) "OwnRain$World" "at" "[I") ∈ gtbl := gq 233 (by decide +kernel) rfl
theorem q234 : (Jvm.Cond.fieldLink "OwnRain$Weather" (88 : Nat) "OwnRain$World" "at" "[I") ∈ gtbl := gq 234 (by decide +kernel) rfl
theorem q235 : (Jvm.Cond.fieldLink "OwnRain$State" (62 : Nat) "OwnRain$World" "at" "[I") ∈ gtbl := gq 235 (by decide +kernel) rfl
theorem q236 : (Jvm.Cond.fieldLink "OwnRain$Planner" (86 : Nat) "OwnRain$World" "at" "[I") ∈ gtbl := gq 236 (by decide +kernel) rfl
theorem q237 : (Jvm.Cond.fieldLink "OwnRain" (157 : Nat) "OwnRain$World" "at" "[I") ∈ gtbl := gq 237 (by decide +kernel) rfl
theorem q238 : (Jvm.Cond.fieldLink "OwnRain$World" (46 : Nat) "OwnRain$World" "cistern" "I") ∈ gtbl := gq 238 (by decide +kernel) rfl
theorem q239 : (Jvm.Cond.fieldLink "OwnRain$Weather" (105 : Nat) "OwnRain$World" "cistern" "I") ∈ gtbl := gq 239 (by decide +kernel) rfl
theorem q240 : (Jvm.Cond.fieldLink "OwnRain" (176 : Nat) "OwnRain$World" "cistern" "I") ∈ gtbl := gq 240 (by decide +kernel) rfl
theorem q241 : (Jvm.Cond.fieldLink "OwnRain$Weather" (52 : Nat) "OwnRain$World" "sweated" "I") ∈ gtbl := gq 241 (by decide +kernel) rfl
theorem q242 : (Jvm.Cond.fieldLink "OwnRain$World" (49 : Nat) "OwnRain$World" "sweated" "I") ∈ gtbl := gq 242 (by decide +kernel) rfl
theorem q243 : (Jvm.Cond.fieldLink "OwnRain" (406 : Nat) "OwnRain$World" "sweated" "I") ∈ gtbl := gq 243 (by decide +kernel) rfl
theorem q244 : (Jvm.Cond.fieldLink "OwnRain$World" (52 : Nat) "OwnRain$World" "dried" "I") ∈ gtbl := gq 244 (by decide +kernel) rfl
theorem q245 : (Jvm.Cond.fieldLink "OwnRain$Weather" (127 : Nat) "OwnRain$World" "dried" "I") ∈ gtbl := gq 245 (by decide +kernel) rfl
theorem q246 : (Jvm.Cond.fieldLink "OwnRain" (403 : Nat) "OwnRain$World" "dried" "I") ∈ gtbl := gq 246 (by decide +kernel) rfl
theorem q247 : (Jvm.Cond.fieldLink "OwnRain$World" (55 : Nat) "OwnRain$World" "hour" "I") ∈ gtbl := gq 247 (by decide +kernel) rfl
theorem q248 : (Jvm.Cond.fieldLink "OwnRain$Weather" (76 : Nat) "OwnRain$World" "hour" "I") ∈ gtbl := gq 248 (by decide +kernel) rfl
theorem q249 : (Jvm.Cond.fieldLink "OwnRain" (137 : Nat) "OwnRain$World" "hour" "I") ∈ gtbl := gq 249 (by decide +kernel) rfl
theorem q250 : (Jvm.Cond.fieldLink "OwnRain$World" (30 : Nat) "OwnRain$World" "x" "I") ∈ gtbl := gq 250 (by decide +kernel) rfl
theorem q251 : (Jvm.Cond.fieldLink "OwnRain" (233 : Nat) "OwnRain$World" "x" "I") ∈ gtbl := gq 251 (by decide +kernel) rfl
theorem q252 : (Jvm.Cond.fieldLink "OwnRain$World" (58 : Nat) "OwnRain$World" "rainCount" "I") ∈ gtbl := gq 252 (by decide +kernel) rfl
theorem q253 : (Jvm.Cond.fieldLink "OwnRain" (283 : Nat) "OwnRain$World" "rainCount" "I") ∈ gtbl := gq 253 (by decide +kernel) rfl
theorem q254 : (Jvm.Cond.fieldLink "OwnRain$World" (61 : Nat) "OwnRain$World" "rainNext" "I") ∈ gtbl := gq 254 (by decide +kernel) rfl
theorem q255 : (Jvm.Cond.fieldLink "OwnRain$World" (34 : Nat) "OwnRain$World" "rains" "[I") ∈ gtbl := gq 255 (by decide +kernel) rfl
theorem q256 : (Jvm.Cond.fieldLink "OwnRain$World" (37 : Nat) "OwnRain$World" "where" "[I") ∈ gtbl := gq 256 (by decide +kernel) rfl
theorem q288 : (Jvm.Cond.classLink "OwnRain$State" (25 : Nat) "OwnRain$Steps") ∈ gtbl := gq 288 (by decide +kernel) rfl
theorem q289 : (Jvm.Cond.instantiable "OwnRain$Steps" (4 : Nat)) ∈ gtbl := gq 289 (by decide +kernel) rfl
theorem q290 : (Jvm.Cond.methodLink "OwnRain$State" (27 : Nat) ({ cls := "OwnRain$Steps", name := "<init>", desc := "()V" } : Jvm.MethodName)) ∈ gtbl := gq 290 (by decide +kernel) rfl
theorem q291 : (Jvm.Cond.instanceMethod ({ cls := "OwnRain$Steps", name := "<init>", desc := "()V" } : Jvm.MethodName)) ∈ gtbl := gq 291 (by decide +kernel) rfl
set_option maxRecDepth 100000 in
theorem q292 : (Jvm.Cond.code ({ cls := "OwnRain$Steps", name := "<init>", desc := "()V" } : Jvm.MethodName) prog_7_method_1_code (2 : Nat) (Option.none : Option Jvm.ClassFile.FieldType)) ∈ gtbl := gq 292 rfl rfl
theorem q293 : (Jvm.Cond.methodLink "OwnRain$Steps" (3 : Nat) ({ cls := "java/lang/Object", name := "<init>", desc := "()V" } : Jvm.MethodName)) ∈ gtbl := gq 293 (by decide +kernel) rfl
theorem q294 : (Jvm.Cond.classLink "OwnRain$Steps" (9 : Nat) "OwnRain$World") ∈ gtbl := gq 294 (by decide +kernel) rfl
theorem q297 : (Jvm.Cond.fieldLink "OwnRain$Steps" (30 : Nat) "OwnRain$Steps" "count" "I") ∈ gtbl := gq 297 (by decide +kernel) rfl
theorem q298 : (Jvm.Cond.fieldLink "OwnRain$State" (87 : Nat) "OwnRain$Steps" "count" "I") ∈ gtbl := gq 298 (by decide +kernel) rfl
theorem q299 : (Jvm.Cond.fieldLink "OwnRain" (416 : Nat) "OwnRain$Steps" "count" "I") ∈ gtbl := gq 299 (by decide +kernel) rfl
theorem q300 : (Jvm.Cond.fieldLink "OwnRain$Steps" (22 : Nat) "OwnRain$Steps" "next" "I") ∈ gtbl := gq 300 (by decide +kernel) rfl
theorem q301 : (Jvm.Cond.fieldLink "OwnRain$Steps" (11 : Nat) "OwnRain$Steps" "worlds" "[LOwnRain$World;") ∈ gtbl := gq 301 (by decide +kernel) rfl
theorem q302 : (Jvm.Cond.fieldLink "OwnRain$Steps" (17 : Nat) "OwnRain$Steps" "people" "[I") ∈ gtbl := gq 302 (by decide +kernel) rfl
theorem q312 : (Jvm.Cond.classLink "OwnRain$State" (32 : Nat) "OwnRain$Lists") ∈ gtbl := gq 312 (by decide +kernel) rfl
theorem q313 : (Jvm.Cond.instantiable "OwnRain$Lists" (11 : Nat)) ∈ gtbl := gq 313 (by decide +kernel) rfl
theorem q315 : (Jvm.Cond.instanceMethod ({ cls := "OwnRain$Lists", name := "<init>", desc := "()V" } : Jvm.MethodName)) ∈ gtbl := gq 315 (by decide +kernel) rfl
set_option maxRecDepth 100000 in
theorem q316 : (Jvm.Cond.code ({ cls := "OwnRain$Lists", name := "<init>", desc := "()V" } : Jvm.MethodName) prog_3_method_1_code (1 : Nat) (Option.none : Option Jvm.ClassFile.FieldType)) ∈ gtbl := gq 316 rfl rfl
theorem q317 : (Jvm.Cond.methodLink "OwnRain$Lists" (3 : Nat) ({ cls := "java/lang/Object", name := "<init>", desc := "()V" } : Jvm.MethodName)) ∈ gtbl := gq 317 (by decide +kernel) rfl
theorem q318 : (Jvm.Cond.fieldLink "OwnRain$Lists" (37 : Nat) "OwnRain$Lists" "missing" "I") ∈ gtbl := gq 318 (by decide +kernel) rfl
theorem q319 : (Jvm.Cond.fieldLink "OwnRain" (347 : Nat) "OwnRain$Lists" "missing" "I") ∈ gtbl := gq 319 (by decide +kernel) rfl
theorem q320 : (Jvm.Cond.fieldLink "OwnRain$Lists" (41 : Nat) "OwnRain$Lists" "forecasts" "I") ∈ gtbl := gq 320 (by decide +kernel) rfl
theorem q321 : (Jvm.Cond.fieldLink "OwnRain" (377 : Nat) "OwnRain$Lists" "forecasts" "I") ∈ gtbl := gq 321 (by decide +kernel) rfl
theorem q322 : (Jvm.Cond.fieldLink "OwnRain$Lists" (44 : Nat) "OwnRain$Lists" "offers" "I") ∈ gtbl := gq 322 (by decide +kernel) rfl
theorem q323 : (Jvm.Cond.fieldLink "OwnRain" (390 : Nat) "OwnRain$Lists" "offers" "I") ∈ gtbl := gq 323 (by decide +kernel) rfl
theorem q324 : (Jvm.Cond.fieldLink "OwnRain$Lists" (9 : Nat) "OwnRain$Lists" "victim" "[I") ∈ gtbl := gq 324 (by decide +kernel) rfl
theorem q325 : (Jvm.Cond.fieldLink "OwnRain" (358 : Nat) "OwnRain$Lists" "victim" "[I") ∈ gtbl := gq 325 (by decide +kernel) rfl
theorem q326 : (Jvm.Cond.fieldLink "OwnRain$Lists" (15 : Nat) "OwnRain$Lists" "from" "[I") ∈ gtbl := gq 326 (by decide +kernel) rfl
theorem q327 : (Jvm.Cond.fieldLink "OwnRain" (361 : Nat) "OwnRain$Lists" "from" "[I") ∈ gtbl := gq 327 (by decide +kernel) rfl
theorem q328 : (Jvm.Cond.fieldLink "OwnRain$Lists" (18 : Nat) "OwnRain$Lists" "to" "[I") ∈ gtbl := gq 328 (by decide +kernel) rfl
theorem q329 : (Jvm.Cond.fieldLink "OwnRain" (364 : Nat) "OwnRain$Lists" "to" "[I") ∈ gtbl := gq 329 (by decide +kernel) rfl
theorem q330 : (Jvm.Cond.fieldLink "OwnRain$Lists" (21 : Nat) "OwnRain$Lists" "foretold" "[I") ∈ gtbl := gq 330 (by decide +kernel) rfl
theorem q331 : (Jvm.Cond.fieldLink "OwnRain$Lists" (24 : Nat) "OwnRain$Lists" "hot" "[Z") ∈ gtbl := gq 331 (by decide +kernel) rfl
theorem q332 : (Jvm.Cond.fieldLink "OwnRain$Lists" (28 : Nat) "OwnRain$Lists" "buys" "[Z") ∈ gtbl := gq 332 (by decide +kernel) rfl
theorem q333 : (Jvm.Cond.fieldLink "OwnRain$Lists" (31 : Nat) "OwnRain$Lists" "price" "[I") ∈ gtbl := gq 333 (by decide +kernel) rfl
theorem q334 : (Jvm.Cond.fieldLink "OwnRain$Lists" (34 : Nat) "OwnRain$Lists" "drops" "[I") ∈ gtbl := gq 334 (by decide +kernel) rfl
theorem q358 : (Jvm.Cond.arrayClass Jvm.ClassFile.FieldType.boolean) ∈ gtbl := gq 358 (by decide +kernel) rfl
theorem q359 : (Jvm.Cond.classLink "OwnRain$State" (39 : Nat) "OwnRain$Text") ∈ gtbl := gq 359 (by decide +kernel) rfl
theorem q361 : (Jvm.Cond.fieldLink "OwnRain$State" (12 : Nat) "OwnRain$State" "land" "LOwnRain$Land;") ∈ gtbl := gq 361 (by decide +kernel) rfl
theorem q362 : (Jvm.Cond.fieldLink "OwnRain" (60 : Nat) "OwnRain$State" "land" "LOwnRain$Land;") ∈ gtbl := gq 362 (by decide +kernel) rfl
theorem q363 : (Jvm.Cond.fieldLink "OwnRain$Weather" (32 : Nat) "OwnRain$State" "land" "LOwnRain$Land;") ∈ gtbl := gq 363 (by decide +kernel) rfl
theorem q364 : (Jvm.Cond.fieldLink "OwnRain$Ways" (22 : Nat) "OwnRain$State" "land" "LOwnRain$Land;") ∈ gtbl := gq 364 (by decide +kernel) rfl
theorem q365 : (Jvm.Cond.fieldLink "OwnRain$Planner" (98 : Nat) "OwnRain$State" "land" "LOwnRain$Land;") ∈ gtbl := gq 365 (by decide +kernel) rfl
theorem q366 : (Jvm.Cond.fieldLink "OwnRain$State" (21 : Nat) "OwnRain$State" "world" "LOwnRain$World;") ∈ gtbl := gq 366 (by decide +kernel) rfl
theorem q367 : (Jvm.Cond.fieldLink "OwnRain$Planner" (45 : Nat) "OwnRain$State" "world" "LOwnRain$World;") ∈ gtbl := gq 367 (by decide +kernel) rfl
theorem q368 : (Jvm.Cond.fieldLink "OwnRain$Ways" (42 : Nat) "OwnRain$State" "world" "LOwnRain$World;") ∈ gtbl := gq 368 (by decide +kernel) rfl
theorem q369 : (Jvm.Cond.fieldLink "OwnRain" (97 : Nat) "OwnRain$State" "world" "LOwnRain$World;") ∈ gtbl := gq 369 (by decide +kernel) rfl
theorem q370 : (Jvm.Cond.fieldLink "OwnRain$State" (28 : Nat) "OwnRain$State" "steps" "LOwnRain$Steps;") ∈ gtbl := gq 370 (by decide +kernel) rfl
theorem q371 : (Jvm.Cond.fieldLink "OwnRain" (412 : Nat) "OwnRain$State" "steps" "LOwnRain$Steps;") ∈ gtbl := gq 371 (by decide +kernel) rfl
theorem q372 : (Jvm.Cond.fieldLink "OwnRain$State" (35 : Nat) "OwnRain$State" "lists" "LOwnRain$Lists;") ∈ gtbl := gq 372 (by decide +kernel) rfl
theorem q373 : (Jvm.Cond.fieldLink "OwnRain" (343 : Nat) "OwnRain$State" "lists" "LOwnRain$Lists;") ∈ gtbl := gq 373 (by decide +kernel) rfl
theorem q374 : (Jvm.Cond.fieldLink "OwnRain$State" (41 : Nat) "OwnRain$State" "texts" "[LOwnRain$Text;") ∈ gtbl := gq 374 (by decide +kernel) rfl
theorem q375 : (Jvm.Cond.fieldLink "OwnRain" (182 : Nat) "OwnRain$State" "texts" "[LOwnRain$Text;") ∈ gtbl := gq 375 (by decide +kernel) rfl
theorem q376 : (Jvm.Cond.fieldLink "OwnRain$State" (49 : Nat) "OwnRain$State" "textCount" "I") ∈ gtbl := gq 376 (by decide +kernel) rfl
theorem q377 : (Jvm.Cond.fieldLink "OwnRain" (114 : Nat) "OwnRain$State" "textCount" "I") ∈ gtbl := gq 377 (by decide +kernel) rfl
theorem q378 : (Jvm.Cond.fieldLink "OwnRain$State" (45 : Nat) "OwnRain$State" "ruling" "I") ∈ gtbl := gq 378 (by decide +kernel) rfl
theorem q379 : (Jvm.Cond.fieldLink "OwnRain" (134 : Nat) "OwnRain$State" "ruling" "I") ∈ gtbl := gq 379 (by decide +kernel) rfl
theorem q395 : (Jvm.Cond.classLink "OwnRain" (19 : Nat) "OwnRain$Tape") ∈ gtbl := gq 395 (by decide +kernel) rfl
theorem q396 : (Jvm.Cond.instantiable "OwnRain$Tape" (6 : Nat)) ∈ gtbl := gq 396 (by decide +kernel) rfl
theorem q398 : (Jvm.Cond.instanceMethod ({ cls := "OwnRain$Tape", name := "<init>", desc := "()V" } : Jvm.MethodName)) ∈ gtbl := gq 398 (by decide +kernel) rfl
set_option maxRecDepth 100000 in
theorem q399 : (Jvm.Cond.code ({ cls := "OwnRain$Tape", name := "<init>", desc := "()V" } : Jvm.MethodName) prog_8_method_1_code (1 : Nat) (Option.none : Option Jvm.ClassFile.FieldType)) ∈ gtbl := gq 399 rfl rfl
theorem q400 : (Jvm.Cond.methodLink "OwnRain$Tape" (3 : Nat) ({ cls := "java/lang/Object", name := "<init>", desc := "()V" } : Jvm.MethodName)) ∈ gtbl := gq 400 (by decide +kernel) rfl
theorem q401 : (Jvm.Cond.fieldLink "OwnRain$Tape" (24 : Nat) "OwnRain$Tape" "length" "I") ∈ gtbl := gq 401 (by decide +kernel) rfl
theorem q402 : (Jvm.Cond.fieldLink "OwnRain$Reader" (47 : Nat) "OwnRain$Tape" "length" "I") ∈ gtbl := gq 402 (by decide +kernel) rfl
theorem q403 : (Jvm.Cond.fieldLink "OwnRain" (107 : Nat) "OwnRain$Tape" "length" "I") ∈ gtbl := gq 403 (by decide +kernel) rfl
theorem q404 : (Jvm.Cond.fieldLink "OwnRain$Tape" (28 : Nat) "OwnRain$Tape" "tokens" "I") ∈ gtbl := gq 404 (by decide +kernel) rfl
theorem q405 : (Jvm.Cond.fieldLink "OwnRain$Reader" (50 : Nat) "OwnRain$Tape" "tokens" "I") ∈ gtbl := gq 405 (by decide +kernel) rfl
theorem q406 : (Jvm.Cond.fieldLink "OwnRain$Tape" (9 : Nat) "OwnRain$Tape" "token" "[I") ∈ gtbl := gq 406 (by decide +kernel) rfl
theorem q407 : (Jvm.Cond.fieldLink "OwnRain$Reader" (37 : Nat) "OwnRain$Tape" "token" "[I") ∈ gtbl := gq 407 (by decide +kernel) rfl
theorem q408 : (Jvm.Cond.fieldLink "OwnRain$Tape" (15 : Nat) "OwnRain$Tape" "number" "[I") ∈ gtbl := gq 408 (by decide +kernel) rfl
theorem q409 : (Jvm.Cond.fieldLink "OwnRain$Reader" (112 : Nat) "OwnRain$Tape" "number" "[I") ∈ gtbl := gq 409 (by decide +kernel) rfl
theorem q410 : (Jvm.Cond.fieldLink "OwnRain$Tape" (18 : Nat) "OwnRain$Tape" "place" "[I") ∈ gtbl := gq 410 (by decide +kernel) rfl
theorem q411 : (Jvm.Cond.fieldLink "OwnRain$Reader" (53 : Nat) "OwnRain$Tape" "place" "[I") ∈ gtbl := gq 411 (by decide +kernel) rfl
theorem q412 : (Jvm.Cond.fieldLink "OwnRain$Tape" (21 : Nat) "OwnRain$Tape" "bytes" "[I") ∈ gtbl := gq 412 (by decide +kernel) rfl
theorem q426 : (Jvm.Cond.classLink "OwnRain" (26 : Nat) "OwnRain$Reader") ∈ gtbl := gq 426 (by decide +kernel) rfl
theorem q427 : (Jvm.Cond.instantiable "OwnRain$Reader" (7 : Nat)) ∈ gtbl := gq 427 (by decide +kernel) rfl
theorem q428 : (Jvm.Cond.methodLink "OwnRain" (28 : Nat) ({ cls := "OwnRain$Reader", name := "<init>", desc := "(LOwnRain$Tape;)V" } : Jvm.MethodName)) ∈ gtbl := gq 428 (by decide +kernel) rfl
theorem q429 : (Jvm.Cond.instanceMethod ({ cls := "OwnRain$Reader", name := "<init>", desc := "(LOwnRain$Tape;)V" } : Jvm.MethodName)) ∈ gtbl := gq 429 (by decide +kernel) rfl
set_option maxRecDepth 100000 in
theorem q430 : (Jvm.Cond.code ({ cls := "OwnRain$Reader", name := "<init>", desc := "(LOwnRain$Tape;)V" } : Jvm.MethodName) prog_5_method_1_code (2 : Nat) (Option.none : Option Jvm.ClassFile.FieldType)) ∈ gtbl := gq 430 rfl rfl
theorem q431 : (Jvm.Cond.methodLink "OwnRain$Reader" (3 : Nat) ({ cls := "java/lang/Object", name := "<init>", desc := "()V" } : Jvm.MethodName)) ∈ gtbl := gq 431 (by decide +kernel) rfl
theorem q432 : (Jvm.Cond.fieldLink "OwnRain$Reader" (9 : Nat) "OwnRain$Reader" "fault" "I") ∈ gtbl := gq 432 (by decide +kernel) rfl
theorem q433 : (Jvm.Cond.fieldLink "OwnRain" (125 : Nat) "OwnRain$Reader" "fault" "I") ∈ gtbl := gq 433 (by decide +kernel) rfl
theorem q434 : (Jvm.Cond.fieldLink "OwnRain$Reader" (15 : Nat) "OwnRain$Reader" "place" "I") ∈ gtbl := gq 434 (by decide +kernel) rfl
theorem q435 : (Jvm.Cond.fieldLink "OwnRain" (128 : Nat) "OwnRain$Reader" "place" "I") ∈ gtbl := gq 435 (by decide +kernel) rfl
theorem q436 : (Jvm.Cond.fieldLink "OwnRain$Reader" (18 : Nat) "OwnRain$Reader" "tape" "LOwnRain$Tape;") ∈ gtbl := gq 436 (by decide +kernel) rfl
theorem q437 : (Jvm.Cond.fieldLink "OwnRain$Reader" (25 : Nat) "OwnRain$Reader" "draft" "LOwnRain$Text;") ∈ gtbl := gq 437 (by decide +kernel) rfl
theorem q438 : (Jvm.Cond.fieldLink "OwnRain$Reader" (81 : Nat) "OwnRain$Reader" "law" "I") ∈ gtbl := gq 438 (by decide +kernel) rfl
theorem q439 : (Jvm.Cond.fieldLink "OwnRain$Reader" (34 : Nat) "OwnRain$Reader" "index" "I") ∈ gtbl := gq 439 (by decide +kernel) rfl
theorem q440 : (Jvm.Cond.fieldLink "OwnRain$Reader" (41 : Nat) "OwnRain$Reader" "token" "I") ∈ gtbl := gq 440 (by decide +kernel) rfl
theorem q456 : (Jvm.Cond.classLink "OwnRain" (35 : Nat) "OwnRain$Weather") ∈ gtbl := gq 456 (by decide +kernel) rfl
theorem q457 : (Jvm.Cond.instantiable "OwnRain$Weather" (10 : Nat)) ∈ gtbl := gq 457 (by decide +kernel) rfl
theorem q458 : (Jvm.Cond.methodLink "OwnRain" (37 : Nat) ({ cls := "OwnRain$Weather", name := "<init>", desc := "(LOwnRain$State;)V" } : Jvm.MethodName)) ∈ gtbl := gq 458 (by decide +kernel) rfl
theorem q459 : (Jvm.Cond.instanceMethod ({ cls := "OwnRain$Weather", name := "<init>", desc := "(LOwnRain$State;)V" } : Jvm.MethodName)) ∈ gtbl := gq 459 (by decide +kernel) rfl
set_option maxRecDepth 100000 in
theorem q460 : (Jvm.Cond.code ({ cls := "OwnRain$Weather", name := "<init>", desc := "(LOwnRain$State;)V" } : Jvm.MethodName) prog_11_method_1_code (2 : Nat) (Option.none : Option Jvm.ClassFile.FieldType)) ∈ gtbl := gq 460 rfl rfl
theorem q461 : (Jvm.Cond.methodLink "OwnRain$Weather" (3 : Nat) ({ cls := "java/lang/Object", name := "<init>", desc := "()V" } : Jvm.MethodName)) ∈ gtbl := gq 461 (by decide +kernel) rfl
theorem q462 : (Jvm.Cond.fieldLink "OwnRain$Weather" (9 : Nat) "OwnRain$Weather" "tax" "I") ∈ gtbl := gq 462 (by decide +kernel) rfl
theorem q463 : (Jvm.Cond.fieldLink "OwnRain$Planner" (110 : Nat) "OwnRain$Weather" "tax" "I") ∈ gtbl := gq 463 (by decide +kernel) rfl
theorem q464 : (Jvm.Cond.fieldLink "OwnRain$Weather" (15 : Nat) "OwnRain$Weather" "sweat" "[I") ∈ gtbl := gq 464 (by decide +kernel) rfl
theorem q465 : (Jvm.Cond.fieldLink "OwnRain$Planner" (92 : Nat) "OwnRain$Weather" "sweat" "[I") ∈ gtbl := gq 465 (by decide +kernel) rfl
theorem q466 : (Jvm.Cond.fieldLink "OwnRain$Weather" (19 : Nat) "OwnRain$Weather" "wet" "[I") ∈ gtbl := gq 466 (by decide +kernel) rfl
theorem q467 : (Jvm.Cond.fieldLink "OwnRain$Planner" (95 : Nat) "OwnRain$Weather" "wet" "[I") ∈ gtbl := gq 467 (by decide +kernel) rfl
theorem q468 : (Jvm.Cond.fieldLink "OwnRain$Weather" (55 : Nat) "OwnRain$Weather" "rainers" "I") ∈ gtbl := gq 468 (by decide +kernel) rfl
theorem q469 : (Jvm.Cond.fieldLink "OwnRain$Planner" (65 : Nat) "OwnRain$Weather" "rainers" "I") ∈ gtbl := gq 469 (by decide +kernel) rfl
theorem q470 : (Jvm.Cond.fieldLink "OwnRain$Weather" (28 : Nat) "OwnRain$Weather" "state" "LOwnRain$State;") ∈ gtbl := gq 470 (by decide +kernel) rfl
theorem q471 : (Jvm.Cond.fieldLink "OwnRain$Weather" (22 : Nat) "OwnRain$Weather" "waiting" "[I") ∈ gtbl := gq 471 (by decide +kernel) rfl
theorem q472 : (Jvm.Cond.fieldLink "OwnRain$Weather" (25 : Nat) "OwnRain$Weather" "groups" "[I") ∈ gtbl := gq 472 (by decide +kernel) rfl
theorem q473 : (Jvm.Cond.fieldLink "OwnRain$Weather" (143 : Nat) "OwnRain$Weather" "world" "LOwnRain$World;") ∈ gtbl := gq 473 (by decide +kernel) rfl
theorem q474 : (Jvm.Cond.fieldLink "OwnRain$Weather" (147 : Nat) "OwnRain$Weather" "here" "I") ∈ gtbl := gq 474 (by decide +kernel) rfl
theorem q475 : (Jvm.Cond.fieldLink "OwnRain$Weather" (130 : Nat) "OwnRain$Weather" "both" "I") ∈ gtbl := gq 475 (by decide +kernel) rfl
theorem q497 : (Jvm.Cond.classLink "OwnRain" (44 : Nat) "OwnRain$Planner") ∈ gtbl := gq 497 (by decide +kernel) rfl
theorem q498 : (Jvm.Cond.instantiable "OwnRain$Planner" (10 : Nat)) ∈ gtbl := gq 498 (by decide +kernel) rfl
theorem q499 : (Jvm.Cond.methodLink "OwnRain" (46 : Nat) ({ cls := "OwnRain$Planner", name := "<init>", desc := "(LOwnRain$State;LOwnRain$Weather;)V" } : Jvm.MethodName)) ∈ gtbl := gq 499 (by decide +kernel) rfl
theorem q500 : (Jvm.Cond.instanceMethod ({ cls := "OwnRain$Planner", name := "<init>", desc := "(LOwnRain$State;LOwnRain$Weather;)V" } : Jvm.MethodName)) ∈ gtbl := gq 500 (by decide +kernel) rfl
set_option maxRecDepth 100000 in
theorem q501 : (Jvm.Cond.code ({ cls := "OwnRain$Planner", name := "<init>", desc := "(LOwnRain$State;LOwnRain$Weather;)V" } : Jvm.MethodName) prog_4_method_1_code (4 : Nat) (Option.none : Option Jvm.ClassFile.FieldType)) ∈ gtbl := gq 501 rfl rfl
theorem q502 : (Jvm.Cond.methodLink "OwnRain$Planner" (3 : Nat) ({ cls := "java/lang/Object", name := "<init>", desc := "()V" } : Jvm.MethodName)) ∈ gtbl := gq 502 (by decide +kernel) rfl
theorem q503 : (Jvm.Cond.classLink "OwnRain$Planner" (15 : Nat) "OwnRain$World") ∈ gtbl := gq 503 (by decide +kernel) rfl
theorem q505 : (Jvm.Cond.fieldLink "OwnRain$Planner" (73 : Nat) "OwnRain$Planner" "least" "I") ∈ gtbl := gq 505 (by decide +kernel) rfl
theorem q506 : (Jvm.Cond.fieldLink "OwnRain" (308 : Nat) "OwnRain$Planner" "least" "I") ∈ gtbl := gq 506 (by decide +kernel) rfl
theorem q507 : (Jvm.Cond.fieldLink "OwnRain$Planner" (9 : Nat) "OwnRain$Planner" "best" "[I") ∈ gtbl := gq 507 (by decide +kernel) rfl
theorem q508 : (Jvm.Cond.fieldLink "OwnRain" (311 : Nat) "OwnRain$Planner" "best" "[I") ∈ gtbl := gq 508 (by decide +kernel) rfl
theorem q509 : (Jvm.Cond.fieldLink "OwnRain$Planner" (36 : Nat) "OwnRain$Planner" "state" "LOwnRain$State;") ∈ gtbl := gq 509 (by decide +kernel) rfl
theorem q510 : (Jvm.Cond.fieldLink "OwnRain$Planner" (40 : Nat) "OwnRain$Planner" "weather" "LOwnRain$Weather;") ∈ gtbl := gq 510 (by decide +kernel) rfl
theorem q511 : (Jvm.Cond.fieldLink "OwnRain$Planner" (17 : Nat) "OwnRain$Planner" "worlds" "[LOwnRain$World;") ∈ gtbl := gq 511 (by decide +kernel) rfl
theorem q512 : (Jvm.Cond.fieldLink "OwnRain$Planner" (21 : Nat) "OwnRain$Planner" "tried" "[I") ∈ gtbl := gq 512 (by decide +kernel) rfl
theorem q513 : (Jvm.Cond.fieldLink "OwnRain$Planner" (24 : Nat) "OwnRain$Planner" "grown" "[I") ∈ gtbl := gq 513 (by decide +kernel) rfl
theorem q514 : (Jvm.Cond.fieldLink "OwnRain$Planner" (27 : Nat) "OwnRain$Planner" "places" "[I") ∈ gtbl := gq 514 (by decide +kernel) rfl
theorem q515 : (Jvm.Cond.fieldLink "OwnRain" (328 : Nat) "OwnRain$Planner" "places" "[I") ∈ gtbl := gq 515 (by decide +kernel) rfl
theorem q516 : (Jvm.Cond.fieldLink "OwnRain$Planner" (30 : Nat) "OwnRain$Planner" "sweats" "[I") ∈ gtbl := gq 516 (by decide +kernel) rfl
theorem q517 : (Jvm.Cond.fieldLink "OwnRain$Planner" (33 : Nat) "OwnRain$Planner" "most" "[I") ∈ gtbl := gq 517 (by decide +kernel) rfl
theorem q539 : (Jvm.Cond.classLink "OwnRain" (53 : Nat) "OwnRain$Ways") ∈ gtbl := gq 539 (by decide +kernel) rfl
theorem q540 : (Jvm.Cond.instantiable "OwnRain$Ways" (3 : Nat)) ∈ gtbl := gq 540 (by decide +kernel) rfl
theorem q541 : (Jvm.Cond.methodLink "OwnRain" (55 : Nat) ({ cls := "OwnRain$Ways", name := "<init>", desc := "(LOwnRain$State;)V" } : Jvm.MethodName)) ∈ gtbl := gq 541 (by decide +kernel) rfl
theorem q542 : (Jvm.Cond.instanceMethod ({ cls := "OwnRain$Ways", name := "<init>", desc := "(LOwnRain$State;)V" } : Jvm.MethodName)) ∈ gtbl := gq 542 (by decide +kernel) rfl
set_option maxRecDepth 100000 in
theorem q543 : (Jvm.Cond.code ({ cls := "OwnRain$Ways", name := "<init>", desc := "(LOwnRain$State;)V" } : Jvm.MethodName) prog_10_method_1_code (2 : Nat) (Option.none : Option Jvm.ClassFile.FieldType)) ∈ gtbl := gq 543 rfl rfl
theorem q544 : (Jvm.Cond.methodLink "OwnRain$Ways" (3 : Nat) ({ cls := "java/lang/Object", name := "<init>", desc := "()V" } : Jvm.MethodName)) ∈ gtbl := gq 544 (by decide +kernel) rfl
theorem q545 : (Jvm.Cond.fieldLink "OwnRain$Ways" (9 : Nat) "OwnRain$Ways" "left" "[I") ∈ gtbl := gq 545 (by decide +kernel) rfl
theorem q546 : (Jvm.Cond.fieldLink "OwnRain" (334 : Nat) "OwnRain$Ways" "left" "[I") ∈ gtbl := gq 546 (by decide +kernel) rfl
theorem q547 : (Jvm.Cond.fieldLink "OwnRain$Ways" (15 : Nat) "OwnRain$Ways" "wide" "[I") ∈ gtbl := gq 547 (by decide +kernel) rfl
theorem q548 : (Jvm.Cond.fieldLink "OwnRain$Ways" (18 : Nat) "OwnRain$Ways" "state" "LOwnRain$State;") ∈ gtbl := gq 548 (by decide +kernel) rfl
theorem q556 : (Jvm.Cond.fieldLink "OwnRain" (10 : Nat) "OwnRain" "now" "LOwnRain$State;") ∈ gtbl := gq 556 (by decide +kernel) rfl
theorem q557 : (Jvm.Cond.fieldLink "OwnRain" (16 : Nat) "OwnRain" "kept" "LOwnRain$State;") ∈ gtbl := gq 557 (by decide +kernel) rfl
theorem q558 : (Jvm.Cond.fieldLink "OwnRain" (22 : Nat) "OwnRain" "tape" "LOwnRain$Tape;") ∈ gtbl := gq 558 (by decide +kernel) rfl
theorem q559 : (Jvm.Cond.fieldLink "OwnRain" (31 : Nat) "OwnRain" "reader" "LOwnRain$Reader;") ∈ gtbl := gq 559 (by decide +kernel) rfl
theorem q560 : (Jvm.Cond.fieldLink "OwnRain" (40 : Nat) "OwnRain" "weather" "LOwnRain$Weather;") ∈ gtbl := gq 560 (by decide +kernel) rfl
theorem q561 : (Jvm.Cond.fieldLink "OwnRain" (49 : Nat) "OwnRain" "planner" "LOwnRain$Planner;") ∈ gtbl := gq 561 (by decide +kernel) rfl
theorem q562 : (Jvm.Cond.fieldLink "OwnRain" (56 : Nat) "OwnRain" "ways" "LOwnRain$Ways;") ∈ gtbl := gq 562 (by decide +kernel) rfl
theorem q578 : (Jvm.Cond.methodLink "OwnRainLaw" (13 : Nat) ({ cls := "OwnRain", name := "field", desc := "(III)I" } : Jvm.MethodName)) ∈ gtbl := gq 578 (by decide +kernel) rfl
theorem q579 : (Jvm.Cond.instanceMethod ({ cls := "OwnRain", name := "field", desc := "(III)I" } : Jvm.MethodName)) ∈ gtbl := gq 579 (by decide +kernel) rfl
theorem q580 : (Jvm.Cond.selects "OwnRain" ({ cls := "OwnRain", name := "field", desc := "(III)I" } : Jvm.MethodName) ({ cls := "OwnRain", name := "field", desc := "(III)I" } : Jvm.MethodName)) ∈ gtbl := gq 580 (by decide +kernel) rfl
set_option maxRecDepth 100000 in
theorem q581 : (Jvm.Cond.code ({ cls := "OwnRain", name := "field", desc := "(III)I" } : Jvm.MethodName) prog_1_method_2_code (6 : Nat) (Option.some Jvm.ClassFile.FieldType.int)) ∈ gtbl := gq 581 rfl rfl
theorem q582 : (Jvm.Cond.methodLink "OwnRain" (64 : Nat) ({ cls := "OwnRain", name := "isWithin", desc := "(III)Z" } : Jvm.MethodName)) ∈ gtbl := gq 582 (by decide +kernel) rfl
theorem q583 : (Jvm.Cond.static ({ cls := "OwnRain", name := "isWithin", desc := "(III)Z" } : Jvm.MethodName)) ∈ gtbl := gq 583 (by decide +kernel) rfl
set_option maxRecDepth 100000 in
theorem q584 : (Jvm.Cond.code ({ cls := "OwnRain", name := "isWithin", desc := "(III)Z" } : Jvm.MethodName) prog_1_method_48_code (3 : Nat) (Option.some Jvm.ClassFile.FieldType.boolean)) ∈ gtbl := gq 584 rfl rfl
theorem q585 : (Jvm.Cond.methodLink "OwnRain" (74 : Nat) ({ cls := "OwnRain$Land", name := "addField", desc := "(III)I" } : Jvm.MethodName)) ∈ gtbl := gq 585 (by decide +kernel) rfl
theorem q586 : (Jvm.Cond.instanceMethod ({ cls := "OwnRain$Land", name := "addField", desc := "(III)I" } : Jvm.MethodName)) ∈ gtbl := gq 586 (by decide +kernel) rfl
theorem q587 : (Jvm.Cond.selects "OwnRain$Land" ({ cls := "OwnRain$Land", name := "addField", desc := "(III)I" } : Jvm.MethodName) ({ cls := "OwnRain$Land", name := "addField", desc := "(III)I" } : Jvm.MethodName)) ∈ gtbl := gq 587 (by decide +kernel) rfl
set_option maxRecDepth 100000 in
theorem q588 : (Jvm.Cond.code ({ cls := "OwnRain$Land", name := "addField", desc := "(III)I" } : Jvm.MethodName) prog_2_method_5_code (4 : Nat) (Option.some Jvm.ClassFile.FieldType.int)) ∈ gtbl := gq 588 rfl rfl
theorem q589 : (Jvm.Cond.methodLink "OwnRainLaw" (18 : Nat) ({ cls := "OwnRain", name := "road", desc := "(II)Z" } : Jvm.MethodName)) ∈ gtbl := gq 589 (by decide +kernel) rfl
theorem q590 : (Jvm.Cond.instanceMethod ({ cls := "OwnRain", name := "road", desc := "(II)Z" } : Jvm.MethodName)) ∈ gtbl := gq 590 (by decide +kernel) rfl
theorem q591 : (Jvm.Cond.selects "OwnRain" ({ cls := "OwnRain", name := "road", desc := "(II)Z" } : Jvm.MethodName) ({ cls := "OwnRain", name := "road", desc := "(II)Z" } : Jvm.MethodName)) ∈ gtbl := gq 591 (by decide +kernel) rfl
set_option maxRecDepth 100000 in
theorem q592 : (Jvm.Cond.code ({ cls := "OwnRain", name := "road", desc := "(II)Z" } : Jvm.MethodName) prog_1_method_3_code (4 : Nat) (Option.some Jvm.ClassFile.FieldType.boolean)) ∈ gtbl := gq 592 rfl rfl
theorem q593 : (Jvm.Cond.methodLink "OwnRain" (78 : Nat) ({ cls := "OwnRain$Land", name := "hasField", desc := "(I)Z" } : Jvm.MethodName)) ∈ gtbl := gq 593 (by decide +kernel) rfl
theorem q594 : (Jvm.Cond.instanceMethod ({ cls := "OwnRain$Land", name := "hasField", desc := "(I)Z" } : Jvm.MethodName)) ∈ gtbl := gq 594 (by decide +kernel) rfl
theorem q595 : (Jvm.Cond.selects "OwnRain$Land" ({ cls := "OwnRain$Land", name := "hasField", desc := "(I)Z" } : Jvm.MethodName) ({ cls := "OwnRain$Land", name := "hasField", desc := "(I)Z" } : Jvm.MethodName)) ∈ gtbl := gq 595 (by decide +kernel) rfl
set_option maxRecDepth 100000 in
theorem q596 : (Jvm.Cond.code ({ cls := "OwnRain$Land", name := "hasField", desc := "(I)Z" } : Jvm.MethodName) prog_2_method_2_code (2 : Nat) (Option.some Jvm.ClassFile.FieldType.boolean)) ∈ gtbl := gq 596 rfl rfl
theorem q597 : (Jvm.Cond.methodLink "OwnRain" (82 : Nat) ({ cls := "OwnRain$Land", name := "hasRoad", desc := "(II)Z" } : Jvm.MethodName)) ∈ gtbl := gq 597 (by decide +kernel) rfl
theorem q598 : (Jvm.Cond.instanceMethod ({ cls := "OwnRain$Land", name := "hasRoad", desc := "(II)Z" } : Jvm.MethodName)) ∈ gtbl := gq 598 (by decide +kernel) rfl
theorem q599 : (Jvm.Cond.selects "OwnRain$Land" ({ cls := "OwnRain$Land", name := "hasRoad", desc := "(II)Z" } : Jvm.MethodName) ({ cls := "OwnRain$Land", name := "hasRoad", desc := "(II)Z" } : Jvm.MethodName)) ∈ gtbl := gq 599 (by decide +kernel) rfl
set_option maxRecDepth 100000 in
theorem q600 : (Jvm.Cond.code ({ cls := "OwnRain$Land", name := "hasRoad", desc := "(II)Z" } : Jvm.MethodName) prog_2_method_4_code (3 : Nat) (Option.some Jvm.ClassFile.FieldType.boolean)) ∈ gtbl := gq 600 rfl rfl
theorem q601 : (Jvm.Cond.methodLink "OwnRain" (86 : Nat) ({ cls := "OwnRain$Land", name := "addRoad", desc := "(II)V" } : Jvm.MethodName)) ∈ gtbl := gq 601 (by decide +kernel) rfl
theorem q602 : (Jvm.Cond.instanceMethod ({ cls := "OwnRain$Land", name := "addRoad", desc := "(II)V" } : Jvm.MethodName)) ∈ gtbl := gq 602 (by decide +kernel) rfl
theorem q603 : (Jvm.Cond.selects "OwnRain$Land" ({ cls := "OwnRain$Land", name := "addRoad", desc := "(II)V" } : Jvm.MethodName) ({ cls := "OwnRain$Land", name := "addRoad", desc := "(II)V" } : Jvm.MethodName)) ∈ gtbl := gq 603 (by decide +kernel) rfl
set_option maxRecDepth 100000 in
theorem q604 : (Jvm.Cond.code ({ cls := "OwnRain$Land", name := "addRoad", desc := "(II)V" } : Jvm.MethodName) prog_2_method_6_code (3 : Nat) (Option.none : Option Jvm.ClassFile.FieldType)) ∈ gtbl := gq 604 rfl rfl
theorem q605 : (Jvm.Cond.methodLink "OwnRainLaw" (23 : Nat) ({ cls := "OwnRain", name := "person", desc := "(IIII)I" } : Jvm.MethodName)) ∈ gtbl := gq 605 (by decide +kernel) rfl
theorem q606 : (Jvm.Cond.instanceMethod ({ cls := "OwnRain", name := "person", desc := "(IIII)I" } : Jvm.MethodName)) ∈ gtbl := gq 606 (by decide +kernel) rfl
theorem q607 : (Jvm.Cond.selects "OwnRain" ({ cls := "OwnRain", name := "person", desc := "(IIII)I" } : Jvm.MethodName) ({ cls := "OwnRain", name := "person", desc := "(IIII)I" } : Jvm.MethodName)) ∈ gtbl := gq 607 (by decide +kernel) rfl
set_option maxRecDepth 100000 in
theorem q608 : (Jvm.Cond.code ({ cls := "OwnRain", name := "person", desc := "(IIII)I" } : Jvm.MethodName) prog_1_method_4_code (8 : Nat) (Option.some Jvm.ClassFile.FieldType.int)) ∈ gtbl := gq 608 rfl rfl
theorem q609 : (Jvm.Cond.methodLink "OwnRain" (93 : Nat) ({ cls := "OwnRain$Land", name := "addPerson", desc := "(IIII)I" } : Jvm.MethodName)) ∈ gtbl := gq 609 (by decide +kernel) rfl
theorem q610 : (Jvm.Cond.instanceMethod ({ cls := "OwnRain$Land", name := "addPerson", desc := "(IIII)I" } : Jvm.MethodName)) ∈ gtbl := gq 610 (by decide +kernel) rfl
theorem q611 : (Jvm.Cond.selects "OwnRain$Land" ({ cls := "OwnRain$Land", name := "addPerson", desc := "(IIII)I" } : Jvm.MethodName) ({ cls := "OwnRain$Land", name := "addPerson", desc := "(IIII)I" } : Jvm.MethodName)) ∈ gtbl := gq 611 (by decide +kernel) rfl
set_option maxRecDepth 100000 in
theorem q612 : (Jvm.Cond.code ({ cls := "OwnRain$Land", name := "addPerson", desc := "(IIII)I" } : Jvm.MethodName) prog_2_method_7_code (5 : Nat) (Option.some Jvm.ClassFile.FieldType.int)) ∈ gtbl := gq 612 rfl rfl
theorem q613 : (Jvm.Cond.methodLink "OwnRain" (101 : Nat) ({ cls := "OwnRain$World", name := "settle", desc := "(III)V" } : Jvm.MethodName)) ∈ gtbl := gq 613 (by decide +kernel) rfl
theorem q614 : (Jvm.Cond.instanceMethod ({ cls := "OwnRain$World", name := "settle", desc := "(III)V" } : Jvm.MethodName)) ∈ gtbl := gq 614 (by decide +kernel) rfl
theorem q615 : (Jvm.Cond.selects "OwnRain$World" ({ cls := "OwnRain$World", name := "settle", desc := "(III)V" } : Jvm.MethodName) ({ cls := "OwnRain$World", name := "settle", desc := "(III)V" } : Jvm.MethodName)) ∈ gtbl := gq 615 (by decide +kernel) rfl
set_option maxRecDepth 100000 in
theorem q616 : (Jvm.Cond.code ({ cls := "OwnRain$World", name := "settle", desc := "(III)V" } : Jvm.MethodName) prog_12_method_3_code (4 : Nat) (Option.none : Option Jvm.ClassFile.FieldType)) ∈ gtbl := gq 616 rfl rfl
theorem q617 : (Jvm.Cond.methodLink "OwnRainLaw" (28 : Nat) ({ cls := "OwnRain", name := "feed", desc := "(IIIII)I" } : Jvm.MethodName)) ∈ gtbl := gq 617 (by decide +kernel) rfl
theorem q618 : (Jvm.Cond.instanceMethod ({ cls := "OwnRain", name := "feed", desc := "(IIIII)I" } : Jvm.MethodName)) ∈ gtbl := gq 618 (by decide +kernel) rfl
theorem q619 : (Jvm.Cond.selects "OwnRain" ({ cls := "OwnRain", name := "feed", desc := "(IIIII)I" } : Jvm.MethodName) ({ cls := "OwnRain", name := "feed", desc := "(IIIII)I" } : Jvm.MethodName)) ∈ gtbl := gq 619 (by decide +kernel) rfl
set_option maxRecDepth 100000 in
theorem q620 : (Jvm.Cond.code ({ cls := "OwnRain", name := "feed", desc := "(IIIII)I" } : Jvm.MethodName) prog_1_method_5_code (6 : Nat) (Option.some Jvm.ClassFile.FieldType.int)) ∈ gtbl := gq 620 rfl rfl
theorem q621 : (Jvm.Cond.methodLink "OwnRain" (110 : Nat) ({ cls := "OwnRain$Tape", name := "append", desc := "(I)V" } : Jvm.MethodName)) ∈ gtbl := gq 621 (by decide +kernel) rfl
theorem q622 : (Jvm.Cond.instanceMethod ({ cls := "OwnRain$Tape", name := "append", desc := "(I)V" } : Jvm.MethodName)) ∈ gtbl := gq 622 (by decide +kernel) rfl
theorem q623 : (Jvm.Cond.selects "OwnRain$Tape" ({ cls := "OwnRain$Tape", name := "append", desc := "(I)V" } : Jvm.MethodName) ({ cls := "OwnRain$Tape", name := "append", desc := "(I)V" } : Jvm.MethodName)) ∈ gtbl := gq 623 (by decide +kernel) rfl
set_option maxRecDepth 100000 in
theorem q624 : (Jvm.Cond.code ({ cls := "OwnRain$Tape", name := "append", desc := "(I)V" } : Jvm.MethodName) prog_8_method_2_code (3 : Nat) (Option.none : Option Jvm.ClassFile.FieldType)) ∈ gtbl := gq 624 rfl rfl
theorem q625 : (Jvm.Cond.methodLink "OwnRainLaw" (33 : Nat) ({ cls := "OwnRain", name := "end", desc := "(I)I" } : Jvm.MethodName)) ∈ gtbl := gq 625 (by decide +kernel) rfl
theorem q626 : (Jvm.Cond.instanceMethod ({ cls := "OwnRain", name := "end", desc := "(I)I" } : Jvm.MethodName)) ∈ gtbl := gq 626 (by decide +kernel) rfl
theorem q627 : (Jvm.Cond.selects "OwnRain" ({ cls := "OwnRain", name := "end", desc := "(I)I" } : Jvm.MethodName) ({ cls := "OwnRain", name := "end", desc := "(I)I" } : Jvm.MethodName)) ∈ gtbl := gq 627 (by decide +kernel) rfl
set_option maxRecDepth 100000 in
theorem q628 : (Jvm.Cond.code ({ cls := "OwnRain", name := "end", desc := "(I)I" } : Jvm.MethodName) prog_1_method_6_code (2 : Nat) (Option.some Jvm.ClassFile.FieldType.int)) ∈ gtbl := gq 628 rfl rfl
theorem q629 : (Jvm.Cond.methodLink "OwnRainLaw" (38 : Nat) ({ cls := "OwnRain", name := "text", desc := "()I" } : Jvm.MethodName)) ∈ gtbl := gq 629 (by decide +kernel) rfl
theorem q630 : (Jvm.Cond.instanceMethod ({ cls := "OwnRain", name := "text", desc := "()I" } : Jvm.MethodName)) ∈ gtbl := gq 630 (by decide +kernel) rfl
theorem q631 : (Jvm.Cond.selects "OwnRain" ({ cls := "OwnRain", name := "text", desc := "()I" } : Jvm.MethodName) ({ cls := "OwnRain", name := "text", desc := "()I" } : Jvm.MethodName)) ∈ gtbl := gq 631 (by decide +kernel) rfl
set_option maxRecDepth 100000 in
theorem q632 : (Jvm.Cond.code ({ cls := "OwnRain", name := "text", desc := "()I" } : Jvm.MethodName) prog_1_method_7_code (2 : Nat) (Option.some Jvm.ClassFile.FieldType.int)) ∈ gtbl := gq 632 rfl rfl
theorem q633 : (Jvm.Cond.methodLink "OwnRain" (117 : Nat) ({ cls := "OwnRain$Reader", name := "readTape", desc := "()LOwnRain$Text;" } : Jvm.MethodName)) ∈ gtbl := gq 633 (by decide +kernel) rfl
theorem q634 : (Jvm.Cond.instanceMethod ({ cls := "OwnRain$Reader", name := "readTape", desc := "()LOwnRain$Text;" } : Jvm.MethodName)) ∈ gtbl := gq 634 (by decide +kernel) rfl
theorem q635 : (Jvm.Cond.selects "OwnRain$Reader" ({ cls := "OwnRain$Reader", name := "readTape", desc := "()LOwnRain$Text;" } : Jvm.MethodName) ({ cls := "OwnRain$Reader", name := "readTape", desc := "()LOwnRain$Text;" } : Jvm.MethodName)) ∈ gtbl := gq 635 (by decide +kernel) rfl
set_option maxRecDepth 100000 in
theorem q636 : (Jvm.Cond.code ({ cls := "OwnRain$Reader", name := "readTape", desc := "()LOwnRain$Text;" } : Jvm.MethodName) prog_5_method_2_code (2 : Nat) (Option.some (Jvm.ClassFile.FieldType.object "OwnRain$Text"))) ∈ gtbl := gq 636 rfl rfl
theorem q637 : (Jvm.Cond.classLink "OwnRain$Reader" (22 : Nat) "OwnRain$Text") ∈ gtbl := gq 637 (by decide +kernel) rfl
theorem q638 : (Jvm.Cond.instantiable "OwnRain$Text" (13 : Nat)) ∈ gtbl := gq 638 (by decide +kernel) rfl
theorem q640 : (Jvm.Cond.instanceMethod ({ cls := "OwnRain$Text", name := "<init>", desc := "()V" } : Jvm.MethodName)) ∈ gtbl := gq 640 (by decide +kernel) rfl
set_option maxRecDepth 100000 in
theorem q641 : (Jvm.Cond.code ({ cls := "OwnRain$Text", name := "<init>", desc := "()V" } : Jvm.MethodName) prog_9_method_1_code (1 : Nat) (Option.none : Option Jvm.ClassFile.FieldType)) ∈ gtbl := gq 641 rfl rfl
theorem q642 : (Jvm.Cond.methodLink "OwnRain$Text" (3 : Nat) ({ cls := "java/lang/Object", name := "<init>", desc := "()V" } : Jvm.MethodName)) ∈ gtbl := gq 642 (by decide +kernel) rfl
theorem q643 : (Jvm.Cond.fieldLink "OwnRain$Reader" (65 : Nat) "OwnRain$Text" "clauses" "I") ∈ gtbl := gq 643 (by decide +kernel) rfl
theorem q644 : (Jvm.Cond.fieldLink "OwnRain" (186 : Nat) "OwnRain$Text" "clauses" "I") ∈ gtbl := gq 644 (by decide +kernel) rfl
theorem q645 : (Jvm.Cond.fieldLink "OwnRain$Text" (9 : Nat) "OwnRain$Text" "kinds" "[I") ∈ gtbl := gq 645 (by decide +kernel) rfl
theorem q646 : (Jvm.Cond.fieldLink "OwnRain$Reader" (62 : Nat) "OwnRain$Text" "kinds" "[I") ∈ gtbl := gq 646 (by decide +kernel) rfl
theorem q647 : (Jvm.Cond.fieldLink "OwnRain" (191 : Nat) "OwnRain$Text" "kinds" "[I") ∈ gtbl := gq 647 (by decide +kernel) rfl
theorem q648 : (Jvm.Cond.fieldLink "OwnRain$Text" (15 : Nat) "OwnRain$Text" "parts" "[I") ∈ gtbl := gq 648 (by decide +kernel) rfl
theorem q649 : (Jvm.Cond.fieldLink "OwnRain$Reader" (109 : Nat) "OwnRain$Text" "parts" "[I") ∈ gtbl := gq 649 (by decide +kernel) rfl
theorem q650 : (Jvm.Cond.fieldLink "OwnRain" (198 : Nat) "OwnRain$Text" "parts" "[I") ∈ gtbl := gq 650 (by decide +kernel) rfl
theorem q651 : (Jvm.Cond.fieldLink "OwnRain$Text" (18 : Nat) "OwnRain$Text" "code" "[I") ∈ gtbl := gq 651 (by decide +kernel) rfl
theorem q652 : (Jvm.Cond.fieldLink "OwnRain$Weather" (176 : Nat) "OwnRain$Text" "code" "[I") ∈ gtbl := gq 652 (by decide +kernel) rfl
theorem q653 : (Jvm.Cond.fieldLink "OwnRain$Text" (21 : Nat) "OwnRain$Text" "operand" "[I") ∈ gtbl := gq 653 (by decide +kernel) rfl
theorem q654 : (Jvm.Cond.fieldLink "OwnRain$Weather" (179 : Nat) "OwnRain$Text" "operand" "[I") ∈ gtbl := gq 654 (by decide +kernel) rfl
theorem q655 : (Jvm.Cond.fieldLink "OwnRain$Text" (42 : Nat) "OwnRain$Text" "codeLength" "I") ∈ gtbl := gq 655 (by decide +kernel) rfl
theorem q656 : (Jvm.Cond.fieldLink "OwnRain$Reader" (87 : Nat) "OwnRain$Text" "codeLength" "I") ∈ gtbl := gq 656 (by decide +kernel) rfl
theorem q657 : (Jvm.Cond.fieldLink "OwnRain$Text" (24 : Nat) "OwnRain$Text" "groupFrom" "[I") ∈ gtbl := gq 657 (by decide +kernel) rfl
theorem q658 : (Jvm.Cond.fieldLink "OwnRain$Weather" (156 : Nat) "OwnRain$Text" "groupFrom" "[I") ∈ gtbl := gq 658 (by decide +kernel) rfl
theorem q659 : (Jvm.Cond.fieldLink "OwnRain$Reader" (150 : Nat) "OwnRain$Text" "groupFrom" "[I") ∈ gtbl := gq 659 (by decide +kernel) rfl
theorem q660 : (Jvm.Cond.fieldLink "OwnRain$Text" (27 : Nat) "OwnRain$Text" "groupTo" "[I") ∈ gtbl := gq 660 (by decide +kernel) rfl
theorem q661 : (Jvm.Cond.fieldLink "OwnRain$Weather" (159 : Nat) "OwnRain$Text" "groupTo" "[I") ∈ gtbl := gq 661 (by decide +kernel) rfl
theorem q662 : (Jvm.Cond.fieldLink "OwnRain$Reader" (156 : Nat) "OwnRain$Text" "groupTo" "[I") ∈ gtbl := gq 662 (by decide +kernel) rfl
theorem q663 : (Jvm.Cond.fieldLink "OwnRain$Reader" (93 : Nat) "OwnRain$Text" "groups" "I") ∈ gtbl := gq 663 (by decide +kernel) rfl
theorem q664 : (Jvm.Cond.fieldLink "OwnRain$Text" (30 : Nat) "OwnRain$Text" "lawFrom" "[I") ∈ gtbl := gq 664 (by decide +kernel) rfl
theorem q665 : (Jvm.Cond.fieldLink "OwnRain$Reader" (84 : Nat) "OwnRain$Text" "lawFrom" "[I") ∈ gtbl := gq 665 (by decide +kernel) rfl
theorem q666 : (Jvm.Cond.fieldLink "OwnRain$Weather" (170 : Nat) "OwnRain$Text" "lawFrom" "[I") ∈ gtbl := gq 666 (by decide +kernel) rfl
theorem q667 : (Jvm.Cond.fieldLink "OwnRain$Text" (33 : Nat) "OwnRain$Text" "lawTo" "[I") ∈ gtbl := gq 667 (by decide +kernel) rfl
theorem q668 : (Jvm.Cond.fieldLink "OwnRain$Reader" (100 : Nat) "OwnRain$Text" "lawTo" "[I") ∈ gtbl := gq 668 (by decide +kernel) rfl
theorem q669 : (Jvm.Cond.fieldLink "OwnRain$Weather" (173 : Nat) "OwnRain$Text" "lawTo" "[I") ∈ gtbl := gq 669 (by decide +kernel) rfl
theorem q670 : (Jvm.Cond.fieldLink "OwnRain$Text" (36 : Nat) "OwnRain$Text" "lawGroupsFrom" "[I") ∈ gtbl := gq 670 (by decide +kernel) rfl
theorem q671 : (Jvm.Cond.fieldLink "OwnRain$Reader" (90 : Nat) "OwnRain$Text" "lawGroupsFrom" "[I") ∈ gtbl := gq 671 (by decide +kernel) rfl
theorem q672 : (Jvm.Cond.fieldLink "OwnRain$Weather" (153 : Nat) "OwnRain$Text" "lawGroupsFrom" "[I") ∈ gtbl := gq 672 (by decide +kernel) rfl
theorem q673 : (Jvm.Cond.fieldLink "OwnRain$Text" (39 : Nat) "OwnRain$Text" "lawGroupsTo" "[I") ∈ gtbl := gq 673 (by decide +kernel) rfl
theorem q674 : (Jvm.Cond.fieldLink "OwnRain$Reader" (103 : Nat) "OwnRain$Text" "lawGroupsTo" "[I") ∈ gtbl := gq 674 (by decide +kernel) rfl
theorem q675 : (Jvm.Cond.fieldLink "OwnRain$Weather" (150 : Nat) "OwnRain$Text" "lawGroupsTo" "[I") ∈ gtbl := gq 675 (by decide +kernel) rfl
theorem q703 : (Jvm.Cond.methodLink "OwnRain$Reader" (29 : Nat) ({ cls := "OwnRain$Tape", name := "findTokens", desc := "()V" } : Jvm.MethodName)) ∈ gtbl := gq 703 (by decide +kernel) rfl
theorem q704 : (Jvm.Cond.instanceMethod ({ cls := "OwnRain$Tape", name := "findTokens", desc := "()V" } : Jvm.MethodName)) ∈ gtbl := gq 704 (by decide +kernel) rfl
theorem q705 : (Jvm.Cond.selects "OwnRain$Tape" ({ cls := "OwnRain$Tape", name := "findTokens", desc := "()V" } : Jvm.MethodName) ({ cls := "OwnRain$Tape", name := "findTokens", desc := "()V" } : Jvm.MethodName)) ∈ gtbl := gq 705 (by decide +kernel) rfl
set_option maxRecDepth 100000 in
theorem q706 : (Jvm.Cond.code ({ cls := "OwnRain$Tape", name := "findTokens", desc := "()V" } : Jvm.MethodName) prog_8_method_3_code (3 : Nat) (Option.none : Option Jvm.ClassFile.FieldType)) ∈ gtbl := gq 706 rfl rfl
theorem q707 : (Jvm.Cond.methodLink "OwnRain$Tape" (31 : Nat) ({ cls := "OwnRain$Tape", name := "isLetter", desc := "(I)Z" } : Jvm.MethodName)) ∈ gtbl := gq 707 (by decide +kernel) rfl
theorem q708 : (Jvm.Cond.static ({ cls := "OwnRain$Tape", name := "isLetter", desc := "(I)Z" } : Jvm.MethodName)) ∈ gtbl := gq 708 (by decide +kernel) rfl
set_option maxRecDepth 100000 in
theorem q709 : (Jvm.Cond.code ({ cls := "OwnRain$Tape", name := "isLetter", desc := "(I)Z" } : Jvm.MethodName) prog_8_method_9_code (1 : Nat) (Option.some Jvm.ClassFile.FieldType.boolean)) ∈ gtbl := gq 709 rfl rfl
theorem q711 : (Jvm.Cond.methodLink "OwnRain$Tape" (35 : Nat) ({ cls := "OwnRain$Tape", name := "addWord", desc := "(I)I" } : Jvm.MethodName)) ∈ gtbl := gq 711 (by decide +kernel) rfl
theorem q713 : (Jvm.Cond.instanceMethod ({ cls := "OwnRain$Tape", name := "addWord", desc := "(I)I" } : Jvm.MethodName)) ∈ gtbl := gq 713 (by decide +kernel) rfl
set_option maxRecDepth 100000 in
theorem q714 : (Jvm.Cond.code ({ cls := "OwnRain$Tape", name := "addWord", desc := "(I)I" } : Jvm.MethodName) prog_8_method_5_code (3 : Nat) (Option.some Jvm.ClassFile.FieldType.int)) ∈ gtbl := gq 714 rfl rfl
theorem q715 : (Jvm.Cond.methodLink "OwnRain$Tape" (52 : Nat) ({ cls := "OwnRain$Tape", name := "wordOf", desc := "(II)I" } : Jvm.MethodName)) ∈ gtbl := gq 715 (by decide +kernel) rfl
theorem q717 : (Jvm.Cond.instanceMethod ({ cls := "OwnRain$Tape", name := "wordOf", desc := "(II)I" } : Jvm.MethodName)) ∈ gtbl := gq 717 (by decide +kernel) rfl
set_option maxRecDepth 100000 in
theorem q718 : (Jvm.Cond.code ({ cls := "OwnRain$Tape", name := "wordOf", desc := "(II)I" } : Jvm.MethodName) prog_8_method_8_code (8 : Nat) (Option.some Jvm.ClassFile.FieldType.int)) ∈ gtbl := gq 718 rfl rfl
theorem q720 : (Jvm.Cond.methodLink "OwnRain$Tape" (70 : Nat) ({ cls := "java/lang/String", name := "length", desc := "()I" } : Jvm.MethodName)) ∈ gtbl := gq 720 (by decide +kernel) rfl
theorem q721 : (Jvm.Cond.instanceMethod ({ cls := "java/lang/String", name := "length", desc := "()I" } : Jvm.MethodName)) ∈ gtbl := gq 721 (by decide +kernel) rfl
theorem q722 : (Jvm.Cond.selects "java/lang/String" ({ cls := "java/lang/String", name := "length", desc := "()I" } : Jvm.MethodName) ({ cls := "java/lang/String", name := "length", desc := "()I" } : Jvm.MethodName)) ∈ gtbl := gq 722 (by decide +kernel) rfl
set_option maxRecDepth 100000 in
theorem q723 : (Jvm.Cond.code ({ cls := "java/lang/String", name := "length", desc := "()I" } : Jvm.MethodName) prog_18_method_54_code (1 : Nat) (Option.some Jvm.ClassFile.FieldType.int)) ∈ gtbl := gq 723 rfl rfl
theorem q724 : (Jvm.Cond.methodLink "java/lang/String" (335 : Nat) ({ cls := "java/lang/String", name := "coder", desc := "()B" } : Jvm.MethodName)) ∈ gtbl := gq 724 (by decide +kernel) rfl
theorem q725 : (Jvm.Cond.instanceMethod ({ cls := "java/lang/String", name := "coder", desc := "()B" } : Jvm.MethodName)) ∈ gtbl := gq 725 (by decide +kernel) rfl
theorem q726 : (Jvm.Cond.selects "java/lang/String" ({ cls := "java/lang/String", name := "coder", desc := "()B" } : Jvm.MethodName) ({ cls := "java/lang/String", name := "coder", desc := "()B" } : Jvm.MethodName)) ∈ gtbl := gq 726 (by decide +kernel) rfl
set_option maxRecDepth 100000 in
theorem q727 : (Jvm.Cond.code ({ cls := "java/lang/String", name := "coder", desc := "()B" } : Jvm.MethodName) prog_18_method_152_code (1 : Nat) (Option.some Jvm.ClassFile.FieldType.byte)) ∈ gtbl := gq 727 rfl rfl
theorem q728 : (Jvm.Cond.fieldLink "java/lang/String" (38 : Nat) "java/lang/String" "COMPACT_STRINGS" "Z") ∈ gtbl := gq 728 (by decide +kernel) rfl
theorem q730 : (Jvm.Cond.methodLink "OwnRain$Tape" (73 : Nat) ({ cls := "java/lang/String", name := "charAt", desc := "(I)C" } : Jvm.MethodName)) ∈ gtbl := gq 730 (by decide +kernel) rfl
theorem q731 : (Jvm.Cond.instanceMethod ({ cls := "java/lang/String", name := "charAt", desc := "(I)C" } : Jvm.MethodName)) ∈ gtbl := gq 731 (by decide +kernel) rfl
theorem q732 : (Jvm.Cond.selects "java/lang/String" ({ cls := "java/lang/String", name := "charAt", desc := "(I)C" } : Jvm.MethodName) ({ cls := "java/lang/String", name := "charAt", desc := "(I)C" } : Jvm.MethodName)) ∈ gtbl := gq 732 (by decide +kernel) rfl
set_option maxRecDepth 100000 in
theorem q733 : (Jvm.Cond.code ({ cls := "java/lang/String", name := "charAt", desc := "(I)C" } : Jvm.MethodName) prog_18_method_56_code (2 : Nat) (Option.some Jvm.ClassFile.FieldType.char)) ∈ gtbl := gq 733 rfl rfl
theorem q734 : (Jvm.Cond.methodLink "java/lang/String" (492 : Nat) ({ cls := "java/lang/String", name := "isLatin1", desc := "()Z" } : Jvm.MethodName)) ∈ gtbl := gq 734 (by decide +kernel) rfl
theorem q735 : (Jvm.Cond.instanceMethod ({ cls := "java/lang/String", name := "isLatin1", desc := "()Z" } : Jvm.MethodName)) ∈ gtbl := gq 735 (by decide +kernel) rfl
theorem q736 : (Jvm.Cond.selects "java/lang/String" ({ cls := "java/lang/String", name := "isLatin1", desc := "()Z" } : Jvm.MethodName) ({ cls := "java/lang/String", name := "isLatin1", desc := "()Z" } : Jvm.MethodName)) ∈ gtbl := gq 736 (by decide +kernel) rfl
set_option maxRecDepth 100000 in
theorem q737 : (Jvm.Cond.code ({ cls := "java/lang/String", name := "isLatin1", desc := "()Z" } : Jvm.MethodName) prog_18_method_154_code (1 : Nat) (Option.some Jvm.ClassFile.FieldType.boolean)) ∈ gtbl := gq 737 rfl rfl
theorem q738 : (Jvm.Cond.methodLink "java/lang/String" (495 : Nat) ({ cls := "java/lang/StringLatin1", name := "charAt", desc := "([BI)C" } : Jvm.MethodName)) ∈ gtbl := gq 738 (by decide +kernel) rfl
theorem q739 : (Jvm.Cond.static ({ cls := "java/lang/StringLatin1", name := "charAt", desc := "([BI)C" } : Jvm.MethodName)) ∈ gtbl := gq 739 (by decide +kernel) rfl
set_option maxRecDepth 100000 in
theorem q740 : (Jvm.Cond.code ({ cls := "java/lang/StringLatin1", name := "charAt", desc := "([BI)C" } : Jvm.MethodName) prog_19_method_2_code (2 : Nat) (Option.some Jvm.ClassFile.FieldType.char)) ∈ gtbl := gq 740 rfl rfl
theorem q741 : (Jvm.Cond.methodLink "java/lang/StringLatin1" (9 : Nat) ({ cls := "java/lang/String", name := "checkIndex", desc := "(II)V" } : Jvm.MethodName)) ∈ gtbl := gq 741 (by decide +kernel) rfl
theorem q742 : (Jvm.Cond.static ({ cls := "java/lang/String", name := "checkIndex", desc := "(II)V" } : Jvm.MethodName)) ∈ gtbl := gq 742 (by decide +kernel) rfl
set_option maxRecDepth 100000 in
theorem q743 : (Jvm.Cond.code ({ cls := "java/lang/String", name := "checkIndex", desc := "(II)V" } : Jvm.MethodName) prog_18_method_155_code (2 : Nat) (Option.none : Option Jvm.ClassFile.FieldType)) ∈ gtbl := gq 743 rfl rfl
theorem q744 : (Jvm.Cond.fieldLink "java/lang/String" (1053 : Nat) "jdk/internal/util/Preconditions" "SIOOBE_FORMATTER" "Ljava/util/function/BiFunction;") ∈ gtbl := gq 744 (by decide +kernel) rfl
theorem q746 : (Jvm.Cond.methodLink "java/lang/String" (1059 : Nat) ({ cls := "jdk/internal/util/Preconditions", name := "checkIndex", desc := "(IILjava/util/function/BiFunction;)I" } : Jvm.MethodName)) ∈ gtbl := gq 746 (by decide +kernel) rfl
theorem q747 : (Jvm.Cond.static ({ cls := "jdk/internal/util/Preconditions", name := "checkIndex", desc := "(IILjava/util/function/BiFunction;)I" } : Jvm.MethodName)) ∈ gtbl := gq 747 (by decide +kernel) rfl
set_option maxRecDepth 100000 in
theorem q748 : (Jvm.Cond.code ({ cls := "jdk/internal/util/Preconditions", name := "checkIndex", desc := "(IILjava/util/function/BiFunction;)I" } : Jvm.MethodName) prog_22_method_11_code (3 : Nat) (Option.some Jvm.ClassFile.FieldType.int)) ∈ gtbl := gq 748 rfl rfl
theorem q749 : (Jvm.Cond.methodLink "java/lang/String" (498 : Nat) ({ cls := "java/lang/StringUTF16", name := "charAt", desc := "([BI)C" } : Jvm.MethodName)) ∈ gtbl := gq 749 (by decide +kernel) rfl
theorem q750 : (Jvm.Cond.static ({ cls := "java/lang/StringUTF16", name := "charAt", desc := "([BI)C" } : Jvm.MethodName)) ∈ gtbl := gq 750 (by decide +kernel) rfl
set_option maxRecDepth 100000 in
theorem q751 : (Jvm.Cond.code ({ cls := "java/lang/StringUTF16", name := "charAt", desc := "([BI)C" } : Jvm.MethodName) prog_20_method_83_code (2 : Nat) (Option.some Jvm.ClassFile.FieldType.char)) ∈ gtbl := gq 751 rfl rfl
theorem q752 : (Jvm.Cond.methodLink "java/lang/StringUTF16" (67 : Nat) ({ cls := "java/lang/StringUTF16", name := "checkIndex", desc := "(I[B)V" } : Jvm.MethodName)) ∈ gtbl := gq 752 (by decide +kernel) rfl
theorem q753 : (Jvm.Cond.static ({ cls := "java/lang/StringUTF16", name := "checkIndex", desc := "(I[B)V" } : Jvm.MethodName)) ∈ gtbl := gq 753 (by decide +kernel) rfl
set_option maxRecDepth 100000 in
theorem q754 : (Jvm.Cond.code ({ cls := "java/lang/StringUTF16", name := "checkIndex", desc := "(I[B)V" } : Jvm.MethodName) prog_20_method_91_code (2 : Nat) (Option.none : Option Jvm.ClassFile.FieldType)) ∈ gtbl := gq 754 rfl rfl
theorem q755 : (Jvm.Cond.methodLink "java/lang/StringUTF16" (48 : Nat) ({ cls := "java/lang/StringUTF16", name := "length", desc := "([B)I" } : Jvm.MethodName)) ∈ gtbl := gq 755 (by decide +kernel) rfl
theorem q756 : (Jvm.Cond.static ({ cls := "java/lang/StringUTF16", name := "length", desc := "([B)I" } : Jvm.MethodName)) ∈ gtbl := gq 756 (by decide +kernel) rfl
set_option maxRecDepth 100000 in
theorem q757 : (Jvm.Cond.code ({ cls := "java/lang/StringUTF16", name := "length", desc := "([B)I" } : Jvm.MethodName) prog_20_method_6_code (1 : Nat) (Option.some Jvm.ClassFile.FieldType.int)) ∈ gtbl := gq 757 rfl rfl
theorem q758 : (Jvm.Cond.methodLink "java/lang/StringUTF16" (414 : Nat) ({ cls := "java/lang/String", name := "checkIndex", desc := "(II)V" } : Jvm.MethodName)) ∈ gtbl := gq 758 (by decide +kernel) rfl
theorem q759 : (Jvm.Cond.methodLink "java/lang/StringUTF16" (71 : Nat) ({ cls := "java/lang/StringUTF16", name := "getChar", desc := "([BI)C" } : Jvm.MethodName)) ∈ gtbl := gq 759 (by decide +kernel) rfl
theorem q760 : (Jvm.Cond.static ({ cls := "java/lang/StringUTF16", name := "getChar", desc := "([BI)C" } : Jvm.MethodName)) ∈ gtbl := gq 760 (by decide +kernel) rfl
set_option maxRecDepth 100000 in
theorem q761 : (Jvm.Cond.code ({ cls := "java/lang/StringUTF16", name := "getChar", desc := "([BI)C" } : Jvm.MethodName) prog_20_method_5_code (2 : Nat) (Option.some Jvm.ClassFile.FieldType.char)) ∈ gtbl := gq 761 rfl rfl
theorem q762 : (Jvm.Cond.fieldLink "java/lang/StringUTF16" (44 : Nat) "java/lang/StringUTF16" "$assertionsDisabled" "Z") ∈ gtbl := gq 762 (by decide +kernel) rfl
theorem q764 : (Jvm.Cond.fieldLink "java/lang/StringUTF16" (59 : Nat) "java/lang/StringUTF16" "HI_BYTE_SHIFT" "I") ∈ gtbl := gq 764 (by decide +kernel) rfl
theorem q766 : (Jvm.Cond.fieldLink "java/lang/StringUTF16" (63 : Nat) "java/lang/StringUTF16" "LO_BYTE_SHIFT" "I") ∈ gtbl := gq 766 (by decide +kernel) rfl
theorem q768 : (Jvm.Cond.methodLink "OwnRain$Tape" (48 : Nat) ({ cls := "OwnRain$Tape", name := "addToken", desc := "(II)V" } : Jvm.MethodName)) ∈ gtbl := gq 768 (by decide +kernel) rfl
theorem q770 : (Jvm.Cond.instanceMethod ({ cls := "OwnRain$Tape", name := "addToken", desc := "(II)V" } : Jvm.MethodName)) ∈ gtbl := gq 770 (by decide +kernel) rfl
set_option maxRecDepth 100000 in
theorem q771 : (Jvm.Cond.code ({ cls := "OwnRain$Tape", name := "addToken", desc := "(II)V" } : Jvm.MethodName) prog_8_method_4_code (3 : Nat) (Option.none : Option Jvm.ClassFile.FieldType)) ∈ gtbl := gq 771 rfl rfl
theorem q772 : (Jvm.Cond.methodLink "OwnRain$Tape" (39 : Nat) ({ cls := "OwnRain$Tape", name := "isDigit", desc := "(I)Z" } : Jvm.MethodName)) ∈ gtbl := gq 772 (by decide +kernel) rfl
theorem q773 : (Jvm.Cond.static ({ cls := "OwnRain$Tape", name := "isDigit", desc := "(I)Z" } : Jvm.MethodName)) ∈ gtbl := gq 773 (by decide +kernel) rfl
set_option maxRecDepth 100000 in
theorem q774 : (Jvm.Cond.code ({ cls := "OwnRain$Tape", name := "isDigit", desc := "(I)Z" } : Jvm.MethodName) prog_8_method_10_code (1 : Nat) (Option.some Jvm.ClassFile.FieldType.boolean)) ∈ gtbl := gq 774 rfl rfl
theorem q775 : (Jvm.Cond.methodLink "OwnRain$Tape" (42 : Nat) ({ cls := "OwnRain$Tape", name := "addNumber", desc := "(I)I" } : Jvm.MethodName)) ∈ gtbl := gq 775 (by decide +kernel) rfl
theorem q777 : (Jvm.Cond.instanceMethod ({ cls := "OwnRain$Tape", name := "addNumber", desc := "(I)I" } : Jvm.MethodName)) ∈ gtbl := gq 777 (by decide +kernel) rfl
set_option maxRecDepth 100000 in
theorem q778 : (Jvm.Cond.code ({ cls := "OwnRain$Tape", name := "addNumber", desc := "(I)I" } : Jvm.MethodName) prog_8_method_6_code (4 : Nat) (Option.some Jvm.ClassFile.FieldType.int)) ∈ gtbl := gq 778 rfl rfl
theorem q779 : (Jvm.Cond.methodLink "OwnRain$Tape" (56 : Nat) ({ cls := "java/lang/Math", name := "min", desc := "(II)I" } : Jvm.MethodName)) ∈ gtbl := gq 779 (by decide +kernel) rfl
theorem q780 : (Jvm.Cond.static ({ cls := "java/lang/Math", name := "min", desc := "(II)I" } : Jvm.MethodName)) ∈ gtbl := gq 780 (by decide +kernel) rfl
set_option maxRecDepth 100000 in
theorem q781 : (Jvm.Cond.code ({ cls := "java/lang/Math", name := "min", desc := "(II)I" } : Jvm.MethodName) prog_17_method_69_code (2 : Nat) (Option.some Jvm.ClassFile.FieldType.int)) ∈ gtbl := gq 781 rfl rfl
theorem q782 : (Jvm.Cond.methodLink "OwnRain$Tape" (45 : Nat) ({ cls := "OwnRain$Tape", name := "addSign", desc := "(I)I" } : Jvm.MethodName)) ∈ gtbl := gq 782 (by decide +kernel) rfl
theorem q784 : (Jvm.Cond.instanceMethod ({ cls := "OwnRain$Tape", name := "addSign", desc := "(I)I" } : Jvm.MethodName)) ∈ gtbl := gq 784 (by decide +kernel) rfl
set_option maxRecDepth 100000 in
theorem q785 : (Jvm.Cond.code ({ cls := "OwnRain$Tape", name := "addSign", desc := "(I)I" } : Jvm.MethodName) prog_8_method_7_code (5 : Nat) (Option.some Jvm.ClassFile.FieldType.int)) ∈ gtbl := gq 785 rfl rfl
theorem q787 : (Jvm.Cond.methodLink "OwnRain$Tape" (63 : Nat) ({ cls := "java/lang/String", name := "indexOf", desc := "(I)I" } : Jvm.MethodName)) ∈ gtbl := gq 787 (by decide +kernel) rfl
theorem q788 : (Jvm.Cond.instanceMethod ({ cls := "java/lang/String", name := "indexOf", desc := "(I)I" } : Jvm.MethodName)) ∈ gtbl := gq 788 (by decide +kernel) rfl
theorem q789 : (Jvm.Cond.selects "java/lang/String" ({ cls := "java/lang/String", name := "indexOf", desc := "(I)I" } : Jvm.MethodName) ({ cls := "java/lang/String", name := "indexOf", desc := "(I)I" } : Jvm.MethodName)) ∈ gtbl := gq 789 (by decide +kernel) rfl
set_option maxRecDepth 100000 in
theorem q790 : (Jvm.Cond.code ({ cls := "java/lang/String", name := "indexOf", desc := "(I)I" } : Jvm.MethodName) prog_18_method_79_code (2 : Nat) (Option.some Jvm.ClassFile.FieldType.int)) ∈ gtbl := gq 790 rfl rfl
theorem q791 : (Jvm.Cond.methodLink "java/lang/String" (633 : Nat) ({ cls := "java/lang/String", name := "indexOf", desc := "(II)I" } : Jvm.MethodName)) ∈ gtbl := gq 791 (by decide +kernel) rfl
theorem q792 : (Jvm.Cond.instanceMethod ({ cls := "java/lang/String", name := "indexOf", desc := "(II)I" } : Jvm.MethodName)) ∈ gtbl := gq 792 (by decide +kernel) rfl
theorem q793 : (Jvm.Cond.selects "java/lang/String" ({ cls := "java/lang/String", name := "indexOf", desc := "(II)I" } : Jvm.MethodName) ({ cls := "java/lang/String", name := "indexOf", desc := "(II)I" } : Jvm.MethodName)) ∈ gtbl := gq 793 (by decide +kernel) rfl
set_option maxRecDepth 100000 in
theorem q794 : (Jvm.Cond.code ({ cls := "java/lang/String", name := "indexOf", desc := "(II)I" } : Jvm.MethodName) prog_18_method_80_code (3 : Nat) (Option.some Jvm.ClassFile.FieldType.int)) ∈ gtbl := gq 794 rfl rfl
theorem q795 : (Jvm.Cond.methodLink "java/lang/String" (505 : Nat) ({ cls := "java/lang/String", name := "length", desc := "()I" } : Jvm.MethodName)) ∈ gtbl := gq 795 (by decide +kernel) rfl
theorem q796 : (Jvm.Cond.methodLink "java/lang/String" (637 : Nat) ({ cls := "java/lang/StringLatin1", name := "indexOf", desc := "([BIII)I" } : Jvm.MethodName)) ∈ gtbl := gq 796 (by decide +kernel) rfl
theorem q797 : (Jvm.Cond.static ({ cls := "java/lang/StringLatin1", name := "indexOf", desc := "([BIII)I" } : Jvm.MethodName)) ∈ gtbl := gq 797 (by decide +kernel) rfl
set_option maxRecDepth 100000 in
theorem q798 : (Jvm.Cond.code ({ cls := "java/lang/StringLatin1", name := "indexOf", desc := "([BIII)I" } : Jvm.MethodName) prog_19_method_22_code (4 : Nat) (Option.some Jvm.ClassFile.FieldType.int)) ∈ gtbl := gq 798 rfl rfl
theorem q799 : (Jvm.Cond.methodLink "java/lang/StringLatin1" (88 : Nat) ({ cls := "java/lang/StringLatin1", name := "canEncode", desc := "(I)Z" } : Jvm.MethodName)) ∈ gtbl := gq 799 (by decide +kernel) rfl
theorem q800 : (Jvm.Cond.static ({ cls := "java/lang/StringLatin1", name := "canEncode", desc := "(I)Z" } : Jvm.MethodName)) ∈ gtbl := gq 800 (by decide +kernel) rfl
set_option maxRecDepth 100000 in
theorem q801 : (Jvm.Cond.code ({ cls := "java/lang/StringLatin1", name := "canEncode", desc := "(I)Z" } : Jvm.MethodName) prog_19_method_4_code (1 : Nat) (Option.some Jvm.ClassFile.FieldType.boolean)) ∈ gtbl := gq 801 rfl rfl
theorem q802 : (Jvm.Cond.methodLink "java/lang/StringLatin1" (92 : Nat) ({ cls := "java/lang/Math", name := "max", desc := "(II)I" } : Jvm.MethodName)) ∈ gtbl := gq 802 (by decide +kernel) rfl
theorem q803 : (Jvm.Cond.static ({ cls := "java/lang/Math", name := "max", desc := "(II)I" } : Jvm.MethodName)) ∈ gtbl := gq 803 (by decide +kernel) rfl
set_option maxRecDepth 100000 in
theorem q804 : (Jvm.Cond.code ({ cls := "java/lang/Math", name := "max", desc := "(II)I" } : Jvm.MethodName) prog_17_method_65_code (2 : Nat) (Option.some Jvm.ClassFile.FieldType.int)) ∈ gtbl := gq 804 rfl rfl
theorem q805 : (Jvm.Cond.methodLink "java/lang/StringLatin1" (38 : Nat) ({ cls := "java/lang/Math", name := "min", desc := "(II)I" } : Jvm.MethodName)) ∈ gtbl := gq 805 (by decide +kernel) rfl
theorem q806 : (Jvm.Cond.methodLink "java/lang/StringLatin1" (95 : Nat) ({ cls := "java/lang/StringLatin1", name := "indexOfChar", desc := "([BIII)I" } : Jvm.MethodName)) ∈ gtbl := gq 806 (by decide +kernel) rfl
theorem q807 : (Jvm.Cond.static ({ cls := "java/lang/StringLatin1", name := "indexOfChar", desc := "([BIII)I" } : Jvm.MethodName)) ∈ gtbl := gq 807 (by decide +kernel) rfl
set_option maxRecDepth 100000 in
theorem q808 : (Jvm.Cond.code ({ cls := "java/lang/StringLatin1", name := "indexOfChar", desc := "([BIII)I" } : Jvm.MethodName) prog_19_method_23_code (6 : Nat) (Option.some Jvm.ClassFile.FieldType.int)) ∈ gtbl := gq 808 rfl rfl
theorem q809 : (Jvm.Cond.methodLink "java/lang/String" (640 : Nat) ({ cls := "java/lang/StringUTF16", name := "indexOf", desc := "([BIII)I" } : Jvm.MethodName)) ∈ gtbl := gq 809 (by decide +kernel) rfl
theorem q810 : (Jvm.Cond.static ({ cls := "java/lang/StringUTF16", name := "indexOf", desc := "([BIII)I" } : Jvm.MethodName)) ∈ gtbl := gq 810 (by decide +kernel) rfl
set_option maxRecDepth 100000 in
theorem q811 : (Jvm.Cond.code ({ cls := "java/lang/StringUTF16", name := "indexOf", desc := "([BIII)I" } : Jvm.MethodName) prog_20_method_40_code (4 : Nat) (Option.some Jvm.ClassFile.FieldType.int)) ∈ gtbl := gq 811 rfl rfl
theorem q812 : (Jvm.Cond.methodLink "java/lang/StringUTF16" (224 : Nat) ({ cls := "java/lang/Math", name := "max", desc := "(II)I" } : Jvm.MethodName)) ∈ gtbl := gq 812 (by decide +kernel) rfl
theorem q813 : (Jvm.Cond.methodLink "java/lang/StringUTF16" (183 : Nat) ({ cls := "java/lang/Math", name := "min", desc := "(II)I" } : Jvm.MethodName)) ∈ gtbl := gq 813 (by decide +kernel) rfl
theorem q814 : (Jvm.Cond.constant "java/lang/StringUTF16" (227 : Nat) (65536 : Int32)) ∈ gtbl := gq 814 (by decide +kernel) rfl
theorem q815 : (Jvm.Cond.methodLink "java/lang/StringUTF16" (228 : Nat) ({ cls := "java/lang/StringUTF16", name := "indexOfChar", desc := "([BIII)I" } : Jvm.MethodName)) ∈ gtbl := gq 815 (by decide +kernel) rfl
theorem q816 : (Jvm.Cond.static ({ cls := "java/lang/StringUTF16", name := "indexOfChar", desc := "([BIII)I" } : Jvm.MethodName)) ∈ gtbl := gq 816 (by decide +kernel) rfl
set_option maxRecDepth 100000 in
theorem q817 : (Jvm.Cond.code ({ cls := "java/lang/StringUTF16", name := "indexOfChar", desc := "([BIII)I" } : Jvm.MethodName) prog_20_method_47_code (4 : Nat) (Option.some Jvm.ClassFile.FieldType.int)) ∈ gtbl := gq 817 rfl rfl
theorem q818 : (Jvm.Cond.methodLink "java/lang/StringUTF16" (96 : Nat) ({ cls := "java/lang/StringUTF16", name := "checkBoundsBeginEnd", desc := "(II[B)V" } : Jvm.MethodName)) ∈ gtbl := gq 818 (by decide +kernel) rfl
theorem q819 : (Jvm.Cond.static ({ cls := "java/lang/StringUTF16", name := "checkBoundsBeginEnd", desc := "(II[B)V" } : Jvm.MethodName)) ∈ gtbl := gq 819 (by decide +kernel) rfl
set_option maxRecDepth 100000 in
theorem q820 : (Jvm.Cond.code ({ cls := "java/lang/StringUTF16", name := "checkBoundsBeginEnd", desc := "(II[B)V" } : Jvm.MethodName) prog_20_method_93_code (3 : Nat) (Option.none : Option Jvm.ClassFile.FieldType)) ∈ gtbl := gq 820 rfl rfl
theorem q821 : (Jvm.Cond.methodLink "java/lang/StringUTF16" (241 : Nat) ({ cls := "java/lang/String", name := "checkBoundsBeginEnd", desc := "(III)V" } : Jvm.MethodName)) ∈ gtbl := gq 821 (by decide +kernel) rfl
theorem q822 : (Jvm.Cond.static ({ cls := "java/lang/String", name := "checkBoundsBeginEnd", desc := "(III)V" } : Jvm.MethodName)) ∈ gtbl := gq 822 (by decide +kernel) rfl
set_option maxRecDepth 100000 in
theorem q823 : (Jvm.Cond.code ({ cls := "java/lang/String", name := "checkBoundsBeginEnd", desc := "(III)V" } : Jvm.MethodName) prog_18_method_158_code (3 : Nat) (Option.none : Option Jvm.ClassFile.FieldType)) ∈ gtbl := gq 823 rfl rfl
theorem q824 : (Jvm.Cond.methodLink "java/lang/String" (1062 : Nat) ({ cls := "jdk/internal/util/Preconditions", name := "checkFromToIndex", desc := "(IIILjava/util/function/BiFunction;)I" } : Jvm.MethodName)) ∈ gtbl := gq 824 (by decide +kernel) rfl
theorem q825 : (Jvm.Cond.static ({ cls := "jdk/internal/util/Preconditions", name := "checkFromToIndex", desc := "(IIILjava/util/function/BiFunction;)I" } : Jvm.MethodName)) ∈ gtbl := gq 825 (by decide +kernel) rfl
set_option maxRecDepth 100000 in
theorem q826 : (Jvm.Cond.code ({ cls := "jdk/internal/util/Preconditions", name := "checkFromToIndex", desc := "(IIILjava/util/function/BiFunction;)I" } : Jvm.MethodName) prog_22_method_12_code (4 : Nat) (Option.some Jvm.ClassFile.FieldType.int)) ∈ gtbl := gq 826 rfl rfl
theorem q827 : (Jvm.Cond.methodLink "java/lang/StringUTF16" (244 : Nat) ({ cls := "java/lang/StringUTF16", name := "indexOfCharUnsafe", desc := "([BIII)I" } : Jvm.MethodName)) ∈ gtbl := gq 827 (by decide +kernel) rfl
theorem q828 : (Jvm.Cond.static ({ cls := "java/lang/StringUTF16", name := "indexOfCharUnsafe", desc := "([BIII)I" } : Jvm.MethodName)) ∈ gtbl := gq 828 (by decide +kernel) rfl
set_option maxRecDepth 100000 in
theorem q829 : (Jvm.Cond.code ({ cls := "java/lang/StringUTF16", name := "indexOfCharUnsafe", desc := "([BIII)I" } : Jvm.MethodName) prog_20_method_48_code (5 : Nat) (Option.some Jvm.ClassFile.FieldType.int)) ∈ gtbl := gq 829 rfl rfl
theorem q830 : (Jvm.Cond.methodLink "java/lang/StringUTF16" (232 : Nat) ({ cls := "java/lang/StringUTF16", name := "indexOfSupplementary", desc := "([BIII)I" } : Jvm.MethodName)) ∈ gtbl := gq 830 (by decide +kernel) rfl
theorem q831 : (Jvm.Cond.static ({ cls := "java/lang/StringUTF16", name := "indexOfSupplementary", desc := "([BIII)I" } : Jvm.MethodName)) ∈ gtbl := gq 831 (by decide +kernel) rfl
set_option maxRecDepth 100000 in
theorem q832 : (Jvm.Cond.code ({ cls := "java/lang/StringUTF16", name := "indexOfSupplementary", desc := "([BIII)I" } : Jvm.MethodName) prog_20_method_49_code (7 : Nat) (Option.some Jvm.ClassFile.FieldType.int)) ∈ gtbl := gq 832 rfl rfl
theorem q833 : (Jvm.Cond.methodLink "java/lang/StringUTF16" (164 : Nat) ({ cls := "java/lang/Character", name := "isValidCodePoint", desc := "(I)Z" } : Jvm.MethodName)) ∈ gtbl := gq 833 (by decide +kernel) rfl
theorem q834 : (Jvm.Cond.static ({ cls := "java/lang/Character", name := "isValidCodePoint", desc := "(I)Z" } : Jvm.MethodName)) ∈ gtbl := gq 834 (by decide +kernel) rfl
set_option maxRecDepth 100000 in
theorem q835 : (Jvm.Cond.code ({ cls := "java/lang/Character", name := "isValidCodePoint", desc := "(I)Z" } : Jvm.MethodName) prog_15_method_11_code (2 : Nat) (Option.some Jvm.ClassFile.FieldType.boolean)) ∈ gtbl := gq 835 rfl rfl
theorem q836 : (Jvm.Cond.methodLink "java/lang/StringUTF16" (157 : Nat) ({ cls := "java/lang/Character", name := "highSurrogate", desc := "(I)C" } : Jvm.MethodName)) ∈ gtbl := gq 836 (by decide +kernel) rfl
theorem q837 : (Jvm.Cond.static ({ cls := "java/lang/Character", name := "highSurrogate", desc := "(I)C" } : Jvm.MethodName)) ∈ gtbl := gq 837 (by decide +kernel) rfl
set_option maxRecDepth 100000 in
theorem q838 : (Jvm.Cond.code ({ cls := "java/lang/Character", name := "highSurrogate", desc := "(I)C" } : Jvm.MethodName) prog_15_method_28_code (1 : Nat) (Option.some Jvm.ClassFile.FieldType.char)) ∈ gtbl := gq 838 rfl rfl
theorem q839 : (Jvm.Cond.constant "java/lang/Character" (110 : Nat) (55232 : Int32)) ∈ gtbl := gq 839 (by decide +kernel) rfl
theorem q840 : (Jvm.Cond.methodLink "java/lang/StringUTF16" (161 : Nat) ({ cls := "java/lang/Character", name := "lowSurrogate", desc := "(I)C" } : Jvm.MethodName)) ∈ gtbl := gq 840 (by decide +kernel) rfl
theorem q841 : (Jvm.Cond.static ({ cls := "java/lang/Character", name := "lowSurrogate", desc := "(I)C" } : Jvm.MethodName)) ∈ gtbl := gq 841 (by decide +kernel) rfl
set_option maxRecDepth 100000 in
theorem q842 : (Jvm.Cond.code ({ cls := "java/lang/Character", name := "lowSurrogate", desc := "(I)C" } : Jvm.MethodName) prog_15_method_29_code (1 : Nat) (Option.some Jvm.ClassFile.FieldType.char)) ∈ gtbl := gq 842 rfl rfl
theorem q843 : (Jvm.Cond.constant "java/lang/Character" (76 : Nat) (56320 : Int32)) ∈ gtbl := gq 843 (by decide +kernel) rfl
theorem q844 : (Jvm.Cond.methodLink "OwnRain$Reader" (43 : Nat) ({ cls := "OwnRain$Reader", name := "readClause", desc := "(I)V" } : Jvm.MethodName)) ∈ gtbl := gq 844 (by decide +kernel) rfl
theorem q846 : (Jvm.Cond.instanceMethod ({ cls := "OwnRain$Reader", name := "readClause", desc := "(I)V" } : Jvm.MethodName)) ∈ gtbl := gq 846 (by decide +kernel) rfl
set_option maxRecDepth 100000 in
theorem q847 : (Jvm.Cond.code ({ cls := "OwnRain$Reader", name := "readClause", desc := "(I)V" } : Jvm.MethodName) prog_5_method_5_code (3 : Nat) (Option.none : Option Jvm.ClassFile.FieldType)) ∈ gtbl := gq 847 rfl rfl
theorem q848 : (Jvm.Cond.methodLink "OwnRain$Reader" (55 : Nat) ({ cls := "OwnRain$Reader", name := "fail", desc := "(I)V" } : Jvm.MethodName)) ∈ gtbl := gq 848 (by decide +kernel) rfl
theorem q850 : (Jvm.Cond.instanceMethod ({ cls := "OwnRain$Reader", name := "fail", desc := "(I)V" } : Jvm.MethodName)) ∈ gtbl := gq 850 (by decide +kernel) rfl
set_option maxRecDepth 100000 in
theorem q851 : (Jvm.Cond.code ({ cls := "OwnRain$Reader", name := "fail", desc := "(I)V" } : Jvm.MethodName) prog_5_method_4_code (2 : Nat) (Option.none : Option Jvm.ClassFile.FieldType)) ∈ gtbl := gq 851 rfl rfl
theorem q852 : (Jvm.Cond.methodLink "OwnRain$Reader" (58 : Nat) ({ cls := "OwnRain$Text", name := "hasLaw", desc := "(I)Z" } : Jvm.MethodName)) ∈ gtbl := gq 852 (by decide +kernel) rfl
theorem q853 : (Jvm.Cond.instanceMethod ({ cls := "OwnRain$Text", name := "hasLaw", desc := "(I)Z" } : Jvm.MethodName)) ∈ gtbl := gq 853 (by decide +kernel) rfl
theorem q854 : (Jvm.Cond.selects "OwnRain$Text" ({ cls := "OwnRain$Text", name := "hasLaw", desc := "(I)Z" } : Jvm.MethodName) ({ cls := "OwnRain$Text", name := "hasLaw", desc := "(I)Z" } : Jvm.MethodName)) ∈ gtbl := gq 854 (by decide +kernel) rfl
set_option maxRecDepth 100000 in
theorem q855 : (Jvm.Cond.code ({ cls := "OwnRain$Text", name := "hasLaw", desc := "(I)Z" } : Jvm.MethodName) prog_9_method_2_code (2 : Nat) (Option.some Jvm.ClassFile.FieldType.boolean)) ∈ gtbl := gq 855 rfl rfl
theorem q856 : (Jvm.Cond.methodLink "OwnRain$Reader" (68 : Nat) ({ cls := "OwnRain$Reader", name := "advance", desc := "()V" } : Jvm.MethodName)) ∈ gtbl := gq 856 (by decide +kernel) rfl
theorem q858 : (Jvm.Cond.instanceMethod ({ cls := "OwnRain$Reader", name := "advance", desc := "()V" } : Jvm.MethodName)) ∈ gtbl := gq 858 (by decide +kernel) rfl
set_option maxRecDepth 100000 in
theorem q859 : (Jvm.Cond.code ({ cls := "OwnRain$Reader", name := "advance", desc := "()V" } : Jvm.MethodName) prog_5_method_3_code (1 : Nat) (Option.none : Option Jvm.ClassFile.FieldType)) ∈ gtbl := gq 859 rfl rfl
theorem q860 : (Jvm.Cond.methodLink "OwnRain$Reader" (71 : Nat) ({ cls := "OwnRain$Reader", name := "readLaw", desc := "(I)V" } : Jvm.MethodName)) ∈ gtbl := gq 860 (by decide +kernel) rfl
theorem q862 : (Jvm.Cond.instanceMethod ({ cls := "OwnRain$Reader", name := "readLaw", desc := "(I)V" } : Jvm.MethodName)) ∈ gtbl := gq 862 (by decide +kernel) rfl
set_option maxRecDepth 100000 in
theorem q863 : (Jvm.Cond.code ({ cls := "OwnRain$Reader", name := "readLaw", desc := "(I)V" } : Jvm.MethodName) prog_5_method_6_code (2 : Nat) (Option.none : Option Jvm.ClassFile.FieldType)) ∈ gtbl := gq 863 rfl rfl
theorem q864 : (Jvm.Cond.methodLink "OwnRain$Reader" (96 : Nat) ({ cls := "OwnRain$Reader", name := "readSum", desc := "(IZ)V" } : Jvm.MethodName)) ∈ gtbl := gq 864 (by decide +kernel) rfl
theorem q866 : (Jvm.Cond.instanceMethod ({ cls := "OwnRain$Reader", name := "readSum", desc := "(IZ)V" } : Jvm.MethodName)) ∈ gtbl := gq 866 (by decide +kernel) rfl
set_option maxRecDepth 100000 in
theorem q867 : (Jvm.Cond.code ({ cls := "OwnRain$Reader", name := "readSum", desc := "(IZ)V" } : Jvm.MethodName) prog_5_method_13_code (5 : Nat) (Option.none : Option Jvm.ClassFile.FieldType)) ∈ gtbl := gq 867 rfl rfl
theorem q868 : (Jvm.Cond.methodLink "OwnRain$Reader" (134 : Nat) ({ cls := "OwnRain$Reader", name := "readProduct", desc := "(IZ)V" } : Jvm.MethodName)) ∈ gtbl := gq 868 (by decide +kernel) rfl
theorem q870 : (Jvm.Cond.instanceMethod ({ cls := "OwnRain$Reader", name := "readProduct", desc := "(IZ)V" } : Jvm.MethodName)) ∈ gtbl := gq 870 (by decide +kernel) rfl
set_option maxRecDepth 100000 in
theorem q871 : (Jvm.Cond.code ({ cls := "OwnRain$Reader", name := "readProduct", desc := "(IZ)V" } : Jvm.MethodName) prog_5_method_14_code (5 : Nat) (Option.none : Option Jvm.ClassFile.FieldType)) ∈ gtbl := gq 871 rfl rfl
theorem q872 : (Jvm.Cond.methodLink "OwnRain$Reader" (137 : Nat) ({ cls := "OwnRain$Reader", name := "readOne", desc := "(IZ)V" } : Jvm.MethodName)) ∈ gtbl := gq 872 (by decide +kernel) rfl
theorem q874 : (Jvm.Cond.instanceMethod ({ cls := "OwnRain$Reader", name := "readOne", desc := "(IZ)V" } : Jvm.MethodName)) ∈ gtbl := gq 874 (by decide +kernel) rfl
set_option maxRecDepth 100000 in
theorem q875 : (Jvm.Cond.code ({ cls := "OwnRain$Reader", name := "readOne", desc := "(IZ)V" } : Jvm.MethodName) prog_5_method_15_code (3 : Nat) (Option.none : Option Jvm.ClassFile.FieldType)) ∈ gtbl := gq 875 rfl rfl
theorem q876 : (Jvm.Cond.methodLink "OwnRain$Reader" (125 : Nat) ({ cls := "OwnRain$Text", name := "write", desc := "(II)V" } : Jvm.MethodName)) ∈ gtbl := gq 876 (by decide +kernel) rfl
theorem q877 : (Jvm.Cond.instanceMethod ({ cls := "OwnRain$Text", name := "write", desc := "(II)V" } : Jvm.MethodName)) ∈ gtbl := gq 877 (by decide +kernel) rfl
theorem q878 : (Jvm.Cond.selects "OwnRain$Text" ({ cls := "OwnRain$Text", name := "write", desc := "(II)V" } : Jvm.MethodName) ({ cls := "OwnRain$Text", name := "write", desc := "(II)V" } : Jvm.MethodName)) ∈ gtbl := gq 878 (by decide +kernel) rfl
set_option maxRecDepth 100000 in
theorem q879 : (Jvm.Cond.code ({ cls := "OwnRain$Text", name := "write", desc := "(II)V" } : Jvm.MethodName) prog_9_method_3_code (3 : Nat) (Option.none : Option Jvm.ClassFile.FieldType)) ∈ gtbl := gq 879 rfl rfl
theorem q880 : (Jvm.Cond.methodLink "OwnRain$Reader" (115 : Nat) ({ cls := "OwnRain$Reader", name := "expectNumber", desc := "(II)V" } : Jvm.MethodName)) ∈ gtbl := gq 880 (by decide +kernel) rfl
theorem q882 : (Jvm.Cond.instanceMethod ({ cls := "OwnRain$Reader", name := "expectNumber", desc := "(II)V" } : Jvm.MethodName)) ∈ gtbl := gq 882 (by decide +kernel) rfl
set_option maxRecDepth 100000 in
theorem q883 : (Jvm.Cond.code ({ cls := "OwnRain$Reader", name := "expectNumber", desc := "(II)V" } : Jvm.MethodName) prog_5_method_9_code (3 : Nat) (Option.none : Option Jvm.ClassFile.FieldType)) ∈ gtbl := gq 883 rfl rfl
theorem q885 : (Jvm.Cond.methodLink "OwnRain$Reader" (140 : Nat) ({ cls := "OwnRain$Reader", name := "isName", desc := "(I)Z" } : Jvm.MethodName)) ∈ gtbl := gq 885 (by decide +kernel) rfl
theorem q886 : (Jvm.Cond.static ({ cls := "OwnRain$Reader", name := "isName", desc := "(I)Z" } : Jvm.MethodName)) ∈ gtbl := gq 886 (by decide +kernel) rfl
set_option maxRecDepth 100000 in
theorem q887 : (Jvm.Cond.code ({ cls := "OwnRain$Reader", name := "isName", desc := "(I)Z" } : Jvm.MethodName) prog_5_method_19_code (1 : Nat) (Option.some Jvm.ClassFile.FieldType.boolean)) ∈ gtbl := gq 887 rfl rfl
theorem q888 : (Jvm.Cond.methodLink "OwnRain$Reader" (159 : Nat) ({ cls := "OwnRain$Reader", name := "isOwnName", desc := "(I)Z" } : Jvm.MethodName)) ∈ gtbl := gq 888 (by decide +kernel) rfl
theorem q889 : (Jvm.Cond.static ({ cls := "OwnRain$Reader", name := "isOwnName", desc := "(I)Z" } : Jvm.MethodName)) ∈ gtbl := gq 889 (by decide +kernel) rfl
set_option maxRecDepth 100000 in
theorem q890 : (Jvm.Cond.code ({ cls := "OwnRain$Reader", name := "isOwnName", desc := "(I)Z" } : Jvm.MethodName) prog_5_method_20_code (1 : Nat) (Option.some Jvm.ClassFile.FieldType.boolean)) ∈ gtbl := gq 890 rfl rfl
theorem q891 : (Jvm.Cond.methodLink "OwnRain$Reader" (143 : Nat) ({ cls := "OwnRain$Reader", name := "readName", desc := "(Z)V" } : Jvm.MethodName)) ∈ gtbl := gq 891 (by decide +kernel) rfl
theorem q893 : (Jvm.Cond.instanceMethod ({ cls := "OwnRain$Reader", name := "readName", desc := "(Z)V" } : Jvm.MethodName)) ∈ gtbl := gq 893 (by decide +kernel) rfl
set_option maxRecDepth 100000 in
theorem q894 : (Jvm.Cond.code ({ cls := "OwnRain$Reader", name := "readName", desc := "(Z)V" } : Jvm.MethodName) prog_5_method_17_code (3 : Nat) (Option.none : Option Jvm.ClassFile.FieldType)) ∈ gtbl := gq 894 rfl rfl
theorem q895 : (Jvm.Cond.methodLink "OwnRain$Reader" (131 : Nat) ({ cls := "OwnRain$Reader", name := "opens", desc := "(I)Z" } : Jvm.MethodName)) ∈ gtbl := gq 895 (by decide +kernel) rfl
theorem q897 : (Jvm.Cond.instanceMethod ({ cls := "OwnRain$Reader", name := "opens", desc := "(I)Z" } : Jvm.MethodName)) ∈ gtbl := gq 897 (by decide +kernel) rfl
set_option maxRecDepth 100000 in
theorem q898 : (Jvm.Cond.code ({ cls := "OwnRain$Reader", name := "opens", desc := "(I)Z" } : Jvm.MethodName) prog_5_method_18_code (2 : Nat) (Option.some Jvm.ClassFile.FieldType.boolean)) ∈ gtbl := gq 898 rfl rfl
theorem q899 : (Jvm.Cond.methodLink "OwnRain$Reader" (78 : Nat) ({ cls := "OwnRain$Reader", name := "expect", desc := "(I)V" } : Jvm.MethodName)) ∈ gtbl := gq 899 (by decide +kernel) rfl
theorem q901 : (Jvm.Cond.instanceMethod ({ cls := "OwnRain$Reader", name := "expect", desc := "(I)V" } : Jvm.MethodName)) ∈ gtbl := gq 901 (by decide +kernel) rfl
set_option maxRecDepth 100000 in
theorem q902 : (Jvm.Cond.code ({ cls := "OwnRain$Reader", name := "expect", desc := "(I)V" } : Jvm.MethodName) prog_5_method_8_code (2 : Nat) (Option.none : Option Jvm.ClassFile.FieldType)) ∈ gtbl := gq 902 rfl rfl
theorem q903 : (Jvm.Cond.methodLink "OwnRain$Reader" (147 : Nat) ({ cls := "OwnRain$Reader", name := "readGroup", desc := "(I)V" } : Jvm.MethodName)) ∈ gtbl := gq 903 (by decide +kernel) rfl
theorem q905 : (Jvm.Cond.instanceMethod ({ cls := "OwnRain$Reader", name := "readGroup", desc := "(I)V" } : Jvm.MethodName)) ∈ gtbl := gq 905 (by decide +kernel) rfl
set_option maxRecDepth 100000 in
theorem q906 : (Jvm.Cond.code ({ cls := "OwnRain$Reader", name := "readGroup", desc := "(I)V" } : Jvm.MethodName) prog_5_method_16_code (4 : Nat) (Option.none : Option Jvm.ClassFile.FieldType)) ∈ gtbl := gq 906 rfl rfl
theorem q907 : (Jvm.Cond.methodLink "OwnRain$Reader" (153 : Nat) ({ cls := "OwnRain$Reader", name := "readEither", desc := "(I)V" } : Jvm.MethodName)) ∈ gtbl := gq 907 (by decide +kernel) rfl
theorem q909 : (Jvm.Cond.instanceMethod ({ cls := "OwnRain$Reader", name := "readEither", desc := "(I)V" } : Jvm.MethodName)) ∈ gtbl := gq 909 (by decide +kernel) rfl
set_option maxRecDepth 100000 in
theorem q910 : (Jvm.Cond.code ({ cls := "OwnRain$Reader", name := "readEither", desc := "(I)V" } : Jvm.MethodName) prog_5_method_10_code (3 : Nat) (Option.none : Option Jvm.ClassFile.FieldType)) ∈ gtbl := gq 910 rfl rfl
theorem q911 : (Jvm.Cond.methodLink "OwnRain$Reader" (122 : Nat) ({ cls := "OwnRain$Reader", name := "readBoth", desc := "(I)V" } : Jvm.MethodName)) ∈ gtbl := gq 911 (by decide +kernel) rfl
theorem q913 : (Jvm.Cond.instanceMethod ({ cls := "OwnRain$Reader", name := "readBoth", desc := "(I)V" } : Jvm.MethodName)) ∈ gtbl := gq 913 (by decide +kernel) rfl
set_option maxRecDepth 100000 in
theorem q914 : (Jvm.Cond.code ({ cls := "OwnRain$Reader", name := "readBoth", desc := "(I)V" } : Jvm.MethodName) prog_5_method_11_code (3 : Nat) (Option.none : Option Jvm.ClassFile.FieldType)) ∈ gtbl := gq 914 rfl rfl
theorem q915 : (Jvm.Cond.methodLink "OwnRain$Reader" (128 : Nat) ({ cls := "OwnRain$Reader", name := "readAsk", desc := "(I)V" } : Jvm.MethodName)) ∈ gtbl := gq 915 (by decide +kernel) rfl
theorem q917 : (Jvm.Cond.instanceMethod ({ cls := "OwnRain$Reader", name := "readAsk", desc := "(I)V" } : Jvm.MethodName)) ∈ gtbl := gq 917 (by decide +kernel) rfl
set_option maxRecDepth 100000 in
theorem q918 : (Jvm.Cond.code ({ cls := "OwnRain$Reader", name := "readAsk", desc := "(I)V" } : Jvm.MethodName) prog_5_method_12_code (3 : Nat) (Option.none : Option Jvm.ClassFile.FieldType)) ∈ gtbl := gq 918 rfl rfl
theorem q919 : (Jvm.Cond.methodLink "OwnRain$Reader" (74 : Nat) ({ cls := "OwnRain$Reader", name := "readParts", desc := "(II)V" } : Jvm.MethodName)) ∈ gtbl := gq 919 (by decide +kernel) rfl
theorem q921 : (Jvm.Cond.instanceMethod ({ cls := "OwnRain$Reader", name := "readParts", desc := "(II)V" } : Jvm.MethodName)) ∈ gtbl := gq 921 (by decide +kernel) rfl
set_option maxRecDepth 100000 in
theorem q922 : (Jvm.Cond.code ({ cls := "OwnRain$Reader", name := "readParts", desc := "(II)V" } : Jvm.MethodName) prog_5_method_7_code (5 : Nat) (Option.none : Option Jvm.ClassFile.FieldType)) ∈ gtbl := gq 922 rfl rfl
theorem q925 : (Jvm.Cond.methodLink "OwnRain" (121 : Nat) ({ cls := "OwnRain$State", name := "addText", desc := "(LOwnRain$Text;)I" } : Jvm.MethodName)) ∈ gtbl := gq 925 (by decide +kernel) rfl
theorem q926 : (Jvm.Cond.instanceMethod ({ cls := "OwnRain$State", name := "addText", desc := "(LOwnRain$Text;)I" } : Jvm.MethodName)) ∈ gtbl := gq 926 (by decide +kernel) rfl
theorem q927 : (Jvm.Cond.selects "OwnRain$State" ({ cls := "OwnRain$State", name := "addText", desc := "(LOwnRain$Text;)I" } : Jvm.MethodName) ({ cls := "OwnRain$State", name := "addText", desc := "(LOwnRain$Text;)I" } : Jvm.MethodName)) ∈ gtbl := gq 927 (by decide +kernel) rfl
set_option maxRecDepth 100000 in
theorem q928 : (Jvm.Cond.code ({ cls := "OwnRain$State", name := "addText", desc := "(LOwnRain$Text;)I" } : Jvm.MethodName) prog_6_method_3_code (2 : Nat) (Option.some Jvm.ClassFile.FieldType.int)) ∈ gtbl := gq 928 rfl rfl
theorem q929 : (Jvm.Cond.arrayClass Jvm.ClassFile.FieldType.byte) ∈ gtbl := gq 929 (by decide +kernel) rfl
theorem q930 : (Jvm.Cond.methodLink "OwnRainLaw" (43 : Nat) ({ cls := "OwnRain", name := "fault", desc := "(I)I" } : Jvm.MethodName)) ∈ gtbl := gq 930 (by decide +kernel) rfl
theorem q931 : (Jvm.Cond.instanceMethod ({ cls := "OwnRain", name := "fault", desc := "(I)I" } : Jvm.MethodName)) ∈ gtbl := gq 931 (by decide +kernel) rfl
theorem q932 : (Jvm.Cond.selects "OwnRain" ({ cls := "OwnRain", name := "fault", desc := "(I)I" } : Jvm.MethodName) ({ cls := "OwnRain", name := "fault", desc := "(I)I" } : Jvm.MethodName)) ∈ gtbl := gq 932 (by decide +kernel) rfl
set_option maxRecDepth 100000 in
theorem q933 : (Jvm.Cond.code ({ cls := "OwnRain", name := "fault", desc := "(I)I" } : Jvm.MethodName) prog_1_method_8_code (2 : Nat) (Option.some Jvm.ClassFile.FieldType.int)) ∈ gtbl := gq 933 rfl rfl
theorem q934 : (Jvm.Cond.methodLink "OwnRainLaw" (47 : Nat) ({ cls := "OwnRain", name := "by", desc := "(I)Z" } : Jvm.MethodName)) ∈ gtbl := gq 934 (by decide +kernel) rfl
theorem q935 : (Jvm.Cond.instanceMethod ({ cls := "OwnRain", name := "by", desc := "(I)Z" } : Jvm.MethodName)) ∈ gtbl := gq 935 (by decide +kernel) rfl
theorem q936 : (Jvm.Cond.selects "OwnRain" ({ cls := "OwnRain", name := "by", desc := "(I)Z" } : Jvm.MethodName) ({ cls := "OwnRain", name := "by", desc := "(I)Z" } : Jvm.MethodName)) ∈ gtbl := gq 936 (by decide +kernel) rfl
set_option maxRecDepth 100000 in
theorem q937 : (Jvm.Cond.code ({ cls := "OwnRain", name := "by", desc := "(I)Z" } : Jvm.MethodName) prog_1_method_9_code (2 : Nat) (Option.some Jvm.ClassFile.FieldType.boolean)) ∈ gtbl := gq 937 rfl rfl
theorem q938 : (Jvm.Cond.methodLink "OwnRain" (131 : Nat) ({ cls := "OwnRain$State", name := "hasText", desc := "(I)Z" } : Jvm.MethodName)) ∈ gtbl := gq 938 (by decide +kernel) rfl
theorem q939 : (Jvm.Cond.instanceMethod ({ cls := "OwnRain$State", name := "hasText", desc := "(I)Z" } : Jvm.MethodName)) ∈ gtbl := gq 939 (by decide +kernel) rfl
theorem q940 : (Jvm.Cond.selects "OwnRain$State" ({ cls := "OwnRain$State", name := "hasText", desc := "(I)Z" } : Jvm.MethodName) ({ cls := "OwnRain$State", name := "hasText", desc := "(I)Z" } : Jvm.MethodName)) ∈ gtbl := gq 940 (by decide +kernel) rfl
set_option maxRecDepth 100000 in
theorem q941 : (Jvm.Cond.code ({ cls := "OwnRain$State", name := "hasText", desc := "(I)Z" } : Jvm.MethodName) prog_6_method_2_code (2 : Nat) (Option.some Jvm.ClassFile.FieldType.boolean)) ∈ gtbl := gq 941 rfl rfl
theorem q942 : (Jvm.Cond.methodLink "OwnRainLaw" (52 : Nat) ({ cls := "OwnRain", name := "hour", desc := "(I)I" } : Jvm.MethodName)) ∈ gtbl := gq 942 (by decide +kernel) rfl
theorem q943 : (Jvm.Cond.instanceMethod ({ cls := "OwnRain", name := "hour", desc := "(I)I" } : Jvm.MethodName)) ∈ gtbl := gq 943 (by decide +kernel) rfl
theorem q944 : (Jvm.Cond.selects "OwnRain" ({ cls := "OwnRain", name := "hour", desc := "(I)I" } : Jvm.MethodName) ({ cls := "OwnRain", name := "hour", desc := "(I)I" } : Jvm.MethodName)) ∈ gtbl := gq 944 (by decide +kernel) rfl
set_option maxRecDepth 100000 in
theorem q945 : (Jvm.Cond.code ({ cls := "OwnRain", name := "hour", desc := "(I)I" } : Jvm.MethodName) prog_1_method_10_code (4 : Nat) (Option.some Jvm.ClassFile.FieldType.int)) ∈ gtbl := gq 945 rfl rfl
theorem q946 : (Jvm.Cond.methodLink "OwnRain" (140 : Nat) ({ cls := "OwnRain$State", name := "keepStep", desc := "()V" } : Jvm.MethodName)) ∈ gtbl := gq 946 (by decide +kernel) rfl
theorem q947 : (Jvm.Cond.instanceMethod ({ cls := "OwnRain$State", name := "keepStep", desc := "()V" } : Jvm.MethodName)) ∈ gtbl := gq 947 (by decide +kernel) rfl
theorem q948 : (Jvm.Cond.selects "OwnRain$State" ({ cls := "OwnRain$State", name := "keepStep", desc := "()V" } : Jvm.MethodName) ({ cls := "OwnRain$State", name := "keepStep", desc := "()V" } : Jvm.MethodName)) ∈ gtbl := gq 948 (by decide +kernel) rfl
set_option maxRecDepth 100000 in
theorem q949 : (Jvm.Cond.code ({ cls := "OwnRain$State", name := "keepStep", desc := "()V" } : Jvm.MethodName) prog_6_method_8_code (1 : Nat) (Option.none : Option Jvm.ClassFile.FieldType)) ∈ gtbl := gq 949 rfl rfl
theorem q950 : (Jvm.Cond.methodLink "OwnRain$State" (83 : Nat) ({ cls := "OwnRain$Steps", name := "keep", desc := "(LOwnRain$World;I)V" } : Jvm.MethodName)) ∈ gtbl := gq 950 (by decide +kernel) rfl
theorem q951 : (Jvm.Cond.instanceMethod ({ cls := "OwnRain$Steps", name := "keep", desc := "(LOwnRain$World;I)V" } : Jvm.MethodName)) ∈ gtbl := gq 951 (by decide +kernel) rfl
theorem q952 : (Jvm.Cond.selects "OwnRain$Steps" ({ cls := "OwnRain$Steps", name := "keep", desc := "(LOwnRain$World;I)V" } : Jvm.MethodName) ({ cls := "OwnRain$Steps", name := "keep", desc := "(LOwnRain$World;I)V" } : Jvm.MethodName)) ∈ gtbl := gq 952 (by decide +kernel) rfl
set_option maxRecDepth 100000 in
theorem q953 : (Jvm.Cond.code ({ cls := "OwnRain$Steps", name := "keep", desc := "(LOwnRain$World;I)V" } : Jvm.MethodName) prog_7_method_2_code (3 : Nat) (Option.none : Option Jvm.ClassFile.FieldType)) ∈ gtbl := gq 953 rfl rfl
theorem q954 : (Jvm.Cond.methodLink "OwnRain$Steps" (26 : Nat) ({ cls := "OwnRain$World", name := "copyFrom", desc := "(LOwnRain$World;)V" } : Jvm.MethodName)) ∈ gtbl := gq 954 (by decide +kernel) rfl
theorem q955 : (Jvm.Cond.instanceMethod ({ cls := "OwnRain$World", name := "copyFrom", desc := "(LOwnRain$World;)V" } : Jvm.MethodName)) ∈ gtbl := gq 955 (by decide +kernel) rfl
theorem q956 : (Jvm.Cond.selects "OwnRain$World" ({ cls := "OwnRain$World", name := "copyFrom", desc := "(LOwnRain$World;)V" } : Jvm.MethodName) ({ cls := "OwnRain$World", name := "copyFrom", desc := "(LOwnRain$World;)V" } : Jvm.MethodName)) ∈ gtbl := gq 956 (by decide +kernel) rfl
set_option maxRecDepth 100000 in
theorem q957 : (Jvm.Cond.code ({ cls := "OwnRain$World", name := "copyFrom", desc := "(LOwnRain$World;)V" } : Jvm.MethodName) prog_12_method_2_code (2 : Nat) (Option.none : Option Jvm.ClassFile.FieldType)) ∈ gtbl := gq 957 rfl rfl
theorem q958 : (Jvm.Cond.methodLink "OwnRain$World" (40 : Nat) ({ cls := "java/lang/System", name := "arraycopy", desc := "(Ljava/lang/Object;ILjava/lang/Object;II)V" } : Jvm.MethodName)) ∈ gtbl := gq 958 (by decide +kernel) rfl
theorem q959 : (Jvm.Cond.static ({ cls := "java/lang/System", name := "arraycopy", desc := "(Ljava/lang/Object;ILjava/lang/Object;II)V" } : Jvm.MethodName)) ∈ gtbl := gq 959 (by decide +kernel) rfl
theorem q960 : (Jvm.Cond.native ({ cls := "java/lang/System", name := "arraycopy", desc := "(Ljava/lang/Object;ILjava/lang/Object;II)V" } : Jvm.MethodName)) ∈ gtbl := gq 960 (by decide +kernel) rfl
theorem q961 : (Jvm.Cond.methodLink "OwnRain$Steps" (33 : Nat) ({ cls := "java/lang/Math", name := "min", desc := "(II)I" } : Jvm.MethodName)) ∈ gtbl := gq 961 (by decide +kernel) rfl
theorem q962 : (Jvm.Cond.methodLink "OwnRain" (143 : Nat) ({ cls := "OwnRain$Weather", name := "pass", desc := "(LOwnRain$World;)I" } : Jvm.MethodName)) ∈ gtbl := gq 962 (by decide +kernel) rfl
theorem q963 : (Jvm.Cond.instanceMethod ({ cls := "OwnRain$Weather", name := "pass", desc := "(LOwnRain$World;)I" } : Jvm.MethodName)) ∈ gtbl := gq 963 (by decide +kernel) rfl
theorem q964 : (Jvm.Cond.selects "OwnRain$Weather" ({ cls := "OwnRain$Weather", name := "pass", desc := "(LOwnRain$World;)I" } : Jvm.MethodName) ({ cls := "OwnRain$Weather", name := "pass", desc := "(LOwnRain$World;)I" } : Jvm.MethodName)) ∈ gtbl := gq 964 (by decide +kernel) rfl
set_option maxRecDepth 100000 in
theorem q965 : (Jvm.Cond.code ({ cls := "OwnRain$Weather", name := "pass", desc := "(LOwnRain$World;)I" } : Jvm.MethodName) prog_11_method_2_code (4 : Nat) (Option.some Jvm.ClassFile.FieldType.int)) ∈ gtbl := gq 965 rfl rfl
theorem q966 : (Jvm.Cond.methodLink "OwnRain$Weather" (43 : Nat) ({ cls := "OwnRain$Weather", name := "sweatOf", desc := "(LOwnRain$World;I)I" } : Jvm.MethodName)) ∈ gtbl := gq 966 (by decide +kernel) rfl
theorem q967 : (Jvm.Cond.instanceMethod ({ cls := "OwnRain$Weather", name := "sweatOf", desc := "(LOwnRain$World;I)I" } : Jvm.MethodName)) ∈ gtbl := gq 967 (by decide +kernel) rfl
theorem q968 : (Jvm.Cond.selects "OwnRain$Weather" ({ cls := "OwnRain$Weather", name := "sweatOf", desc := "(LOwnRain$World;I)I" } : Jvm.MethodName) ({ cls := "OwnRain$Weather", name := "sweatOf", desc := "(LOwnRain$World;I)I" } : Jvm.MethodName)) ∈ gtbl := gq 968 (by decide +kernel) rfl
set_option maxRecDepth 100000 in
theorem q969 : (Jvm.Cond.code ({ cls := "OwnRain$Weather", name := "sweatOf", desc := "(LOwnRain$World;I)I" } : Jvm.MethodName) prog_11_method_3_code (4 : Nat) (Option.some Jvm.ClassFile.FieldType.int)) ∈ gtbl := gq 969 rfl rfl
theorem q970 : (Jvm.Cond.methodLink "OwnRain$Weather" (91 : Nat) ({ cls := "OwnRain$Weather", name := "law", desc := "(IILOwnRain$World;II)I" } : Jvm.MethodName)) ∈ gtbl := gq 970 (by decide +kernel) rfl
theorem q972 : (Jvm.Cond.instanceMethod ({ cls := "OwnRain$Weather", name := "law", desc := "(IILOwnRain$World;II)I" } : Jvm.MethodName)) ∈ gtbl := gq 972 (by decide +kernel) rfl
set_option maxRecDepth 100000 in
theorem q973 : (Jvm.Cond.code ({ cls := "OwnRain$Weather", name := "law", desc := "(IILOwnRain$World;II)I" } : Jvm.MethodName) prog_11_method_7_code (10 : Nat) (Option.some Jvm.ClassFile.FieldType.int)) ∈ gtbl := gq 973 rfl rfl
theorem q974 : (Jvm.Cond.methodLink "OwnRain$Weather" (133 : Nat) ({ cls := "OwnRain$State", name := "rules", desc := "()LOwnRain$Text;" } : Jvm.MethodName)) ∈ gtbl := gq 974 (by decide +kernel) rfl
theorem q975 : (Jvm.Cond.instanceMethod ({ cls := "OwnRain$State", name := "rules", desc := "()LOwnRain$Text;" } : Jvm.MethodName)) ∈ gtbl := gq 975 (by decide +kernel) rfl
theorem q976 : (Jvm.Cond.selects "OwnRain$State" ({ cls := "OwnRain$State", name := "rules", desc := "()LOwnRain$Text;" } : Jvm.MethodName) ({ cls := "OwnRain$State", name := "rules", desc := "()LOwnRain$Text;" } : Jvm.MethodName)) ∈ gtbl := gq 976 (by decide +kernel) rfl
set_option maxRecDepth 100000 in
theorem q977 : (Jvm.Cond.code ({ cls := "OwnRain$State", name := "rules", desc := "()LOwnRain$Text;" } : Jvm.MethodName) prog_6_method_4_code (1 : Nat) (Option.some (Jvm.ClassFile.FieldType.object "OwnRain$Text"))) ∈ gtbl := gq 977 rfl rfl
theorem q978 : (Jvm.Cond.methodLink "OwnRain$State" (52 : Nat) ({ cls := "OwnRain$State", name := "hasText", desc := "(I)Z" } : Jvm.MethodName)) ∈ gtbl := gq 978 (by decide +kernel) rfl
theorem q979 : (Jvm.Cond.methodLink "OwnRain$Weather" (137 : Nat) ({ cls := "OwnRain$Text", name := "hasLaw", desc := "(I)Z" } : Jvm.MethodName)) ∈ gtbl := gq 979 (by decide +kernel) rfl
theorem q980 : (Jvm.Cond.methodLink "OwnRain$Weather" (162 : Nat) ({ cls := "OwnRain$Weather", name := "run", desc := "(LOwnRain$Text;III)I" } : Jvm.MethodName)) ∈ gtbl := gq 980 (by decide +kernel) rfl
theorem q982 : (Jvm.Cond.instanceMethod ({ cls := "OwnRain$Weather", name := "run", desc := "(LOwnRain$Text;III)I" } : Jvm.MethodName)) ∈ gtbl := gq 982 (by decide +kernel) rfl
set_option maxRecDepth 100000 in
theorem q983 : (Jvm.Cond.code ({ cls := "OwnRain$Weather", name := "run", desc := "(LOwnRain$Text;III)I" } : Jvm.MethodName) prog_11_method_8_code (9 : Nat) (Option.some Jvm.ClassFile.FieldType.int)) ∈ gtbl := gq 983 rfl rfl
theorem q984 : (Jvm.Cond.methodLink "OwnRain$Weather" (182 : Nat) ({ cls := "OwnRain$Weather", name := "named", desc := "(II)I" } : Jvm.MethodName)) ∈ gtbl := gq 984 (by decide +kernel) rfl
theorem q986 : (Jvm.Cond.instanceMethod ({ cls := "OwnRain$Weather", name := "named", desc := "(II)I" } : Jvm.MethodName)) ∈ gtbl := gq 986 (by decide +kernel) rfl
set_option maxRecDepth 100000 in
theorem q987 : (Jvm.Cond.code ({ cls := "OwnRain$Weather", name := "named", desc := "(II)I" } : Jvm.MethodName) prog_11_method_11_code (4 : Nat) (Option.some Jvm.ClassFile.FieldType.int)) ∈ gtbl := gq 987 rfl rfl
theorem q988 : (Jvm.Cond.methodLink "OwnRain$Weather" (185 : Nat) ({ cls := "java/lang/Math", name := "max", desc := "(II)I" } : Jvm.MethodName)) ∈ gtbl := gq 988 (by decide +kernel) rfl
theorem q989 : (Jvm.Cond.methodLink "OwnRain$Weather" (188 : Nat) ({ cls := "OwnRain$Weather", name := "joined", desc := "(IJJ)J" } : Jvm.MethodName)) ∈ gtbl := gq 989 (by decide +kernel) rfl
theorem q990 : (Jvm.Cond.static ({ cls := "OwnRain$Weather", name := "joined", desc := "(IJJ)J" } : Jvm.MethodName)) ∈ gtbl := gq 990 (by decide +kernel) rfl
set_option maxRecDepth 100000 in
theorem q991 : (Jvm.Cond.code ({ cls := "OwnRain$Weather", name := "joined", desc := "(IJJ)J" } : Jvm.MethodName) prog_11_method_10_code (5 : Nat) (Option.some Jvm.ClassFile.FieldType.long)) ∈ gtbl := gq 991 rfl rfl
theorem q992 : (Jvm.Cond.methodLink "OwnRain$Weather" (166 : Nat) ({ cls := "OwnRain$Weather", name := "bounded", desc := "(J)I" } : Jvm.MethodName)) ∈ gtbl := gq 992 (by decide +kernel) rfl
theorem q993 : (Jvm.Cond.static ({ cls := "OwnRain$Weather", name := "bounded", desc := "(J)I" } : Jvm.MethodName)) ∈ gtbl := gq 993 (by decide +kernel) rfl
set_option maxRecDepth 100000 in
theorem q994 : (Jvm.Cond.code ({ cls := "OwnRain$Weather", name := "bounded", desc := "(J)I" } : Jvm.MethodName) prog_11_method_9_code (2 : Nat) (Option.some Jvm.ClassFile.FieldType.int)) ∈ gtbl := gq 994 rfl rfl
theorem q995 : (Jvm.Cond.constantLong "OwnRain$Weather" (192 : Nat) (1000000 : Int64)) ∈ gtbl := gq 995 (by decide +kernel) rfl
theorem q996 : (Jvm.Cond.constant "OwnRain$Weather" (194 : Nat) (1000000 : Int32)) ∈ gtbl := gq 996 (by decide +kernel) rfl
theorem q997 : (Jvm.Cond.constantLong "OwnRain$Weather" (195 : Nat) (-1000000 : Int64)) ∈ gtbl := gq 997 (by decide +kernel) rfl
theorem q998 : (Jvm.Cond.constant "OwnRain$Weather" (197 : Nat) (-1000000 : Int32)) ∈ gtbl := gq 998 (by decide +kernel) rfl
theorem q1000 : (Jvm.Cond.static ({ cls := "OwnRain", name := "bring", desc := "(III)I" } : Jvm.MethodName)) ∈ gtbl := gq 1000 (by decide +kernel) rfl
set_option maxRecDepth 100000 in
theorem q1001 : (Jvm.Cond.code ({ cls := "OwnRain", name := "bring", desc := "(III)I" } : Jvm.MethodName) prog_1_method_49_code (3 : Nat) (Option.some Jvm.ClassFile.FieldType.int)) ∈ gtbl := gq 1001 rfl rfl
theorem q1002 : (Jvm.Cond.methodLink "OwnRain" (225 : Nat) ({ cls := "java/lang/Math", name := "min", desc := "(II)I" } : Jvm.MethodName)) ∈ gtbl := gq 1002 (by decide +kernel) rfl
theorem q1003 : (Jvm.Cond.methodLink "OwnRain" (240 : Nat) ({ cls := "java/lang/Math", name := "max", desc := "(II)I" } : Jvm.MethodName)) ∈ gtbl := gq 1003 (by decide +kernel) rfl
theorem q1004 : (Jvm.Cond.methodLink "OwnRain$Weather" (99 : Nat) ({ cls := "java/lang/Math", name := "min", desc := "(II)I" } : Jvm.MethodName)) ∈ gtbl := gq 1004 (by decide +kernel) rfl
theorem q1005 : (Jvm.Cond.methodLink "OwnRain$Weather" (61 : Nat) ({ cls := "OwnRain$Weather", name := "rainFrom", desc := "(LOwnRain$World;I)V" } : Jvm.MethodName)) ∈ gtbl := gq 1005 (by decide +kernel) rfl
theorem q1007 : (Jvm.Cond.instanceMethod ({ cls := "OwnRain$Weather", name := "rainFrom", desc := "(LOwnRain$World;I)V" } : Jvm.MethodName)) ∈ gtbl := gq 1007 (by decide +kernel) rfl
set_option maxRecDepth 100000 in
theorem q1008 : (Jvm.Cond.code ({ cls := "OwnRain$Weather", name := "rainFrom", desc := "(LOwnRain$World;I)V" } : Jvm.MethodName) prog_11_method_4_code (8 : Nat) (Option.none : Option Jvm.ClassFile.FieldType)) ∈ gtbl := gq 1008 rfl rfl
theorem q1009 : (Jvm.Cond.methodLink "OwnRain$Weather" (108 : Nat) ({ cls := "OwnRain$World", name := "writeRain", desc := "(III)V" } : Jvm.MethodName)) ∈ gtbl := gq 1009 (by decide +kernel) rfl
theorem q1010 : (Jvm.Cond.instanceMethod ({ cls := "OwnRain$World", name := "writeRain", desc := "(III)V" } : Jvm.MethodName)) ∈ gtbl := gq 1010 (by decide +kernel) rfl
theorem q1011 : (Jvm.Cond.selects "OwnRain$World" ({ cls := "OwnRain$World", name := "writeRain", desc := "(III)V" } : Jvm.MethodName) ({ cls := "OwnRain$World", name := "writeRain", desc := "(III)V" } : Jvm.MethodName)) ∈ gtbl := gq 1011 (by decide +kernel) rfl
set_option maxRecDepth 100000 in
theorem q1012 : (Jvm.Cond.code ({ cls := "OwnRain$World", name := "writeRain", desc := "(III)V" } : Jvm.MethodName) prog_12_method_7_code (4 : Nat) (Option.none : Option Jvm.ClassFile.FieldType)) ∈ gtbl := gq 1012 rfl rfl
theorem q1013 : (Jvm.Cond.methodLink "OwnRain$World" (64 : Nat) ({ cls := "java/lang/Math", name := "min", desc := "(II)I" } : Jvm.MethodName)) ∈ gtbl := gq 1013 (by decide +kernel) rfl
theorem q1014 : (Jvm.Cond.methodLink "OwnRain$Weather" (69 : Nat) ({ cls := "OwnRain$Weather", name := "closeHour", desc := "(LOwnRain$World;I)V" } : Jvm.MethodName)) ∈ gtbl := gq 1014 (by decide +kernel) rfl
theorem q1016 : (Jvm.Cond.instanceMethod ({ cls := "OwnRain$Weather", name := "closeHour", desc := "(LOwnRain$World;I)V" } : Jvm.MethodName)) ∈ gtbl := gq 1016 (by decide +kernel) rfl
set_option maxRecDepth 100000 in
theorem q1017 : (Jvm.Cond.code ({ cls := "OwnRain$Weather", name := "closeHour", desc := "(LOwnRain$World;I)V" } : Jvm.MethodName) prog_11_method_5_code (6 : Nat) (Option.none : Option Jvm.ClassFile.FieldType)) ∈ gtbl := gq 1017 rfl rfl
theorem q1018 : (Jvm.Cond.methodLink "OwnRain$Weather" (72 : Nat) ({ cls := "OwnRain$World", name := "writeWhere", desc := "(I)V" } : Jvm.MethodName)) ∈ gtbl := gq 1018 (by decide +kernel) rfl
theorem q1019 : (Jvm.Cond.instanceMethod ({ cls := "OwnRain$World", name := "writeWhere", desc := "(I)V" } : Jvm.MethodName)) ∈ gtbl := gq 1019 (by decide +kernel) rfl
theorem q1020 : (Jvm.Cond.selects "OwnRain$World" ({ cls := "OwnRain$World", name := "writeWhere", desc := "(I)V" } : Jvm.MethodName) ({ cls := "OwnRain$World", name := "writeWhere", desc := "(I)V" } : Jvm.MethodName)) ∈ gtbl := gq 1020 (by decide +kernel) rfl
set_option maxRecDepth 100000 in
theorem q1021 : (Jvm.Cond.code ({ cls := "OwnRain$World", name := "writeWhere", desc := "(I)V" } : Jvm.MethodName) prog_12_method_13_code (4 : Nat) (Option.none : Option Jvm.ClassFile.FieldType)) ∈ gtbl := gq 1021 rfl rfl
theorem q1022 : (Jvm.Cond.methodLink "OwnRain$Weather" (79 : Nat) ({ cls := "java/lang/Integer", name := "bitCount", desc := "(I)I" } : Jvm.MethodName)) ∈ gtbl := gq 1022 (by decide +kernel) rfl
theorem q1023 : (Jvm.Cond.static ({ cls := "java/lang/Integer", name := "bitCount", desc := "(I)I" } : Jvm.MethodName)) ∈ gtbl := gq 1023 (by decide +kernel) rfl
set_option maxRecDepth 100000 in
theorem q1024 : (Jvm.Cond.code ({ cls := "java/lang/Integer", name := "bitCount", desc := "(I)I" } : Jvm.MethodName) prog_16_method_49_code (1 : Nat) (Option.some Jvm.ClassFile.FieldType.int)) ∈ gtbl := gq 1024 rfl rfl
theorem q1025 : (Jvm.Cond.constant "java/lang/Integer" (265 : Nat) (1431655765 : Int32)) ∈ gtbl := gq 1025 (by decide +kernel) rfl
theorem q1026 : (Jvm.Cond.constant "java/lang/Integer" (266 : Nat) (858993459 : Int32)) ∈ gtbl := gq 1026 (by decide +kernel) rfl
theorem q1027 : (Jvm.Cond.constant "java/lang/Integer" (267 : Nat) (252645135 : Int32)) ∈ gtbl := gq 1027 (by decide +kernel) rfl
theorem q1028 : (Jvm.Cond.methodLink "OwnRainLaw" (56 : Nat) ({ cls := "OwnRain", name := "work", desc := "(II)Z" } : Jvm.MethodName)) ∈ gtbl := gq 1028 (by decide +kernel) rfl
theorem q1029 : (Jvm.Cond.instanceMethod ({ cls := "OwnRain", name := "work", desc := "(II)Z" } : Jvm.MethodName)) ∈ gtbl := gq 1029 (by decide +kernel) rfl
theorem q1030 : (Jvm.Cond.selects "OwnRain" ({ cls := "OwnRain", name := "work", desc := "(II)Z" } : Jvm.MethodName) ({ cls := "OwnRain", name := "work", desc := "(II)Z" } : Jvm.MethodName)) ∈ gtbl := gq 1030 (by decide +kernel) rfl
set_option maxRecDepth 100000 in
theorem q1031 : (Jvm.Cond.code ({ cls := "OwnRain", name := "work", desc := "(II)Z" } : Jvm.MethodName) prog_1_method_11_code (3 : Nat) (Option.some Jvm.ClassFile.FieldType.boolean)) ∈ gtbl := gq 1031 rfl rfl
theorem q1032 : (Jvm.Cond.methodLink "OwnRain" (147 : Nat) ({ cls := "OwnRain$Land", name := "hasPerson", desc := "(I)Z" } : Jvm.MethodName)) ∈ gtbl := gq 1032 (by decide +kernel) rfl
theorem q1033 : (Jvm.Cond.instanceMethod ({ cls := "OwnRain$Land", name := "hasPerson", desc := "(I)Z" } : Jvm.MethodName)) ∈ gtbl := gq 1033 (by decide +kernel) rfl
theorem q1034 : (Jvm.Cond.selects "OwnRain$Land" ({ cls := "OwnRain$Land", name := "hasPerson", desc := "(I)Z" } : Jvm.MethodName) ({ cls := "OwnRain$Land", name := "hasPerson", desc := "(I)Z" } : Jvm.MethodName)) ∈ gtbl := gq 1034 (by decide +kernel) rfl
set_option maxRecDepth 100000 in
theorem q1035 : (Jvm.Cond.code ({ cls := "OwnRain$Land", name := "hasPerson", desc := "(I)Z" } : Jvm.MethodName) prog_2_method_3_code (2 : Nat) (Option.some Jvm.ClassFile.FieldType.boolean)) ∈ gtbl := gq 1035 rfl rfl
theorem q1036 : (Jvm.Cond.methodLink "OwnRainLaw" (60 : Nat) ({ cls := "OwnRain", name := "go", desc := "(II)Z" } : Jvm.MethodName)) ∈ gtbl := gq 1036 (by decide +kernel) rfl
theorem q1037 : (Jvm.Cond.instanceMethod ({ cls := "OwnRain", name := "go", desc := "(II)Z" } : Jvm.MethodName)) ∈ gtbl := gq 1037 (by decide +kernel) rfl
theorem q1038 : (Jvm.Cond.selects "OwnRain" ({ cls := "OwnRain", name := "go", desc := "(II)Z" } : Jvm.MethodName) ({ cls := "OwnRain", name := "go", desc := "(II)Z" } : Jvm.MethodName)) ∈ gtbl := gq 1038 (by decide +kernel) rfl
set_option maxRecDepth 100000 in
theorem q1039 : (Jvm.Cond.code ({ cls := "OwnRain", name := "go", desc := "(II)Z" } : Jvm.MethodName) prog_1_method_12_code (3 : Nat) (Option.some Jvm.ClassFile.FieldType.boolean)) ∈ gtbl := gq 1039 rfl rfl
theorem q1040 : (Jvm.Cond.methodLink "OwnRain" (154 : Nat) ({ cls := "OwnRain$State", name := "canGo", desc := "(II)Z" } : Jvm.MethodName)) ∈ gtbl := gq 1040 (by decide +kernel) rfl
theorem q1041 : (Jvm.Cond.instanceMethod ({ cls := "OwnRain$State", name := "canGo", desc := "(II)Z" } : Jvm.MethodName)) ∈ gtbl := gq 1041 (by decide +kernel) rfl
theorem q1042 : (Jvm.Cond.selects "OwnRain$State" ({ cls := "OwnRain$State", name := "canGo", desc := "(II)Z" } : Jvm.MethodName) ({ cls := "OwnRain$State", name := "canGo", desc := "(II)Z" } : Jvm.MethodName)) ∈ gtbl := gq 1042 (by decide +kernel) rfl
set_option maxRecDepth 100000 in
theorem q1043 : (Jvm.Cond.code ({ cls := "OwnRain$State", name := "canGo", desc := "(II)Z" } : Jvm.MethodName) prog_6_method_5_code (3 : Nat) (Option.some Jvm.ClassFile.FieldType.boolean)) ∈ gtbl := gq 1043 rfl rfl
theorem q1044 : (Jvm.Cond.methodLink "OwnRain$State" (56 : Nat) ({ cls := "OwnRain$Land", name := "hasPerson", desc := "(I)Z" } : Jvm.MethodName)) ∈ gtbl := gq 1044 (by decide +kernel) rfl
theorem q1045 : (Jvm.Cond.methodLink "OwnRain$State" (59 : Nat) ({ cls := "OwnRain$Land", name := "hasField", desc := "(I)Z" } : Jvm.MethodName)) ∈ gtbl := gq 1045 (by decide +kernel) rfl
theorem q1046 : (Jvm.Cond.methodLink "OwnRain$State" (66 : Nat) ({ cls := "OwnRain$Land", name := "hasRoad", desc := "(II)Z" } : Jvm.MethodName)) ∈ gtbl := gq 1046 (by decide +kernel) rfl
theorem q1047 : (Jvm.Cond.methodLink "OwnRainLaw" (64 : Nat) ({ cls := "OwnRain", name := "shake", desc := "(II)I" } : Jvm.MethodName)) ∈ gtbl := gq 1047 (by decide +kernel) rfl
theorem q1048 : (Jvm.Cond.instanceMethod ({ cls := "OwnRain", name := "shake", desc := "(II)I" } : Jvm.MethodName)) ∈ gtbl := gq 1048 (by decide +kernel) rfl
theorem q1049 : (Jvm.Cond.selects "OwnRain" ({ cls := "OwnRain", name := "shake", desc := "(II)I" } : Jvm.MethodName) ({ cls := "OwnRain", name := "shake", desc := "(II)I" } : Jvm.MethodName)) ∈ gtbl := gq 1049 (by decide +kernel) rfl
set_option maxRecDepth 100000 in
theorem q1050 : (Jvm.Cond.code ({ cls := "OwnRain", name := "shake", desc := "(II)I" } : Jvm.MethodName) prog_1_method_13_code (3 : Nat) (Option.some Jvm.ClassFile.FieldType.int)) ∈ gtbl := gq 1050 rfl rfl
theorem q1051 : (Jvm.Cond.methodLink "OwnRain" (160 : Nat) ({ cls := "OwnRain$State", name := "canMeet", desc := "(II)Z" } : Jvm.MethodName)) ∈ gtbl := gq 1051 (by decide +kernel) rfl
theorem q1052 : (Jvm.Cond.instanceMethod ({ cls := "OwnRain$State", name := "canMeet", desc := "(II)Z" } : Jvm.MethodName)) ∈ gtbl := gq 1052 (by decide +kernel) rfl
theorem q1053 : (Jvm.Cond.selects "OwnRain$State" ({ cls := "OwnRain$State", name := "canMeet", desc := "(II)Z" } : Jvm.MethodName) ({ cls := "OwnRain$State", name := "canMeet", desc := "(II)Z" } : Jvm.MethodName)) ∈ gtbl := gq 1053 (by decide +kernel) rfl
set_option maxRecDepth 100000 in
theorem q1054 : (Jvm.Cond.code ({ cls := "OwnRain$State", name := "canMeet", desc := "(II)Z" } : Jvm.MethodName) prog_6_method_6_code (3 : Nat) (Option.some Jvm.ClassFile.FieldType.boolean)) ∈ gtbl := gq 1054 rfl rfl
theorem q1055 : (Jvm.Cond.methodLink "OwnRain" (163 : Nat) ({ cls := "OwnRain$Weather", name := "merge", desc := "(LOwnRain$World;II)V" } : Jvm.MethodName)) ∈ gtbl := gq 1055 (by decide +kernel) rfl
theorem q1056 : (Jvm.Cond.instanceMethod ({ cls := "OwnRain$Weather", name := "merge", desc := "(LOwnRain$World;II)V" } : Jvm.MethodName)) ∈ gtbl := gq 1056 (by decide +kernel) rfl
theorem q1057 : (Jvm.Cond.selects "OwnRain$Weather" ({ cls := "OwnRain$Weather", name := "merge", desc := "(LOwnRain$World;II)V" } : Jvm.MethodName) ({ cls := "OwnRain$Weather", name := "merge", desc := "(LOwnRain$World;II)V" } : Jvm.MethodName)) ∈ gtbl := gq 1057 (by decide +kernel) rfl
set_option maxRecDepth 100000 in
theorem q1058 : (Jvm.Cond.code ({ cls := "OwnRain$Weather", name := "merge", desc := "(LOwnRain$World;II)V" } : Jvm.MethodName) prog_11_method_6_code (5 : Nat) (Option.none : Option Jvm.ClassFile.FieldType)) ∈ gtbl := gq 1058 rfl rfl
theorem q1059 : (Jvm.Cond.methodLink "OwnRainLaw" (69 : Nat) ({ cls := "OwnRain", name := "steal", desc := "(III)I" } : Jvm.MethodName)) ∈ gtbl := gq 1059 (by decide +kernel) rfl
theorem q1060 : (Jvm.Cond.instanceMethod ({ cls := "OwnRain", name := "steal", desc := "(III)I" } : Jvm.MethodName)) ∈ gtbl := gq 1060 (by decide +kernel) rfl
theorem q1061 : (Jvm.Cond.selects "OwnRain" ({ cls := "OwnRain", name := "steal", desc := "(III)I" } : Jvm.MethodName) ({ cls := "OwnRain", name := "steal", desc := "(III)I" } : Jvm.MethodName)) ∈ gtbl := gq 1061 (by decide +kernel) rfl
set_option maxRecDepth 100000 in
theorem q1062 : (Jvm.Cond.code ({ cls := "OwnRain", name := "steal", desc := "(III)I" } : Jvm.MethodName) prog_1_method_14_code (4 : Nat) (Option.some Jvm.ClassFile.FieldType.int)) ∈ gtbl := gq 1062 rfl rfl
theorem q1063 : (Jvm.Cond.methodLink "OwnRain" (170 : Nat) ({ cls := "OwnRain$State", name := "canTake", desc := "(III)Z" } : Jvm.MethodName)) ∈ gtbl := gq 1063 (by decide +kernel) rfl
theorem q1064 : (Jvm.Cond.instanceMethod ({ cls := "OwnRain$State", name := "canTake", desc := "(III)Z" } : Jvm.MethodName)) ∈ gtbl := gq 1064 (by decide +kernel) rfl
theorem q1065 : (Jvm.Cond.selects "OwnRain$State" ({ cls := "OwnRain$State", name := "canTake", desc := "(III)Z" } : Jvm.MethodName) ({ cls := "OwnRain$State", name := "canTake", desc := "(III)Z" } : Jvm.MethodName)) ∈ gtbl := gq 1065 (by decide +kernel) rfl
set_option maxRecDepth 100000 in
theorem q1066 : (Jvm.Cond.code ({ cls := "OwnRain$State", name := "canTake", desc := "(III)Z" } : Jvm.MethodName) prog_6_method_7_code (4 : Nat) (Option.some Jvm.ClassFile.FieldType.boolean)) ∈ gtbl := gq 1066 rfl rfl
theorem q1067 : (Jvm.Cond.methodLink "OwnRain$State" (70 : Nat) ({ cls := "OwnRain$State", name := "canMeet", desc := "(II)Z" } : Jvm.MethodName)) ∈ gtbl := gq 1067 (by decide +kernel) rfl
theorem q1069 : (Jvm.Cond.methodLink "OwnRain" (173 : Nat) ({ cls := "OwnRain$World", name := "take", desc := "(III)V" } : Jvm.MethodName)) ∈ gtbl := gq 1069 (by decide +kernel) rfl
theorem q1070 : (Jvm.Cond.instanceMethod ({ cls := "OwnRain$World", name := "take", desc := "(III)V" } : Jvm.MethodName)) ∈ gtbl := gq 1070 (by decide +kernel) rfl
theorem q1071 : (Jvm.Cond.selects "OwnRain$World" ({ cls := "OwnRain$World", name := "take", desc := "(III)V" } : Jvm.MethodName) ({ cls := "OwnRain$World", name := "take", desc := "(III)V" } : Jvm.MethodName)) ∈ gtbl := gq 1071 (by decide +kernel) rfl
set_option maxRecDepth 100000 in
theorem q1072 : (Jvm.Cond.code ({ cls := "OwnRain$World", name := "take", desc := "(III)V" } : Jvm.MethodName) prog_12_method_4_code (4 : Nat) (Option.none : Option Jvm.ClassFile.FieldType)) ∈ gtbl := gq 1072 rfl rfl
theorem q1073 : (Jvm.Cond.methodLink "OwnRainLaw" (73 : Nat) ({ cls := "OwnRain", name := "pour", desc := "(II)I" } : Jvm.MethodName)) ∈ gtbl := gq 1073 (by decide +kernel) rfl
theorem q1074 : (Jvm.Cond.instanceMethod ({ cls := "OwnRain", name := "pour", desc := "(II)I" } : Jvm.MethodName)) ∈ gtbl := gq 1074 (by decide +kernel) rfl
theorem q1075 : (Jvm.Cond.selects "OwnRain" ({ cls := "OwnRain", name := "pour", desc := "(II)I" } : Jvm.MethodName) ({ cls := "OwnRain", name := "pour", desc := "(II)I" } : Jvm.MethodName)) ∈ gtbl := gq 1075 (by decide +kernel) rfl
set_option maxRecDepth 100000 in
theorem q1076 : (Jvm.Cond.code ({ cls := "OwnRain", name := "pour", desc := "(II)I" } : Jvm.MethodName) prog_1_method_15_code (4 : Nat) (Option.some Jvm.ClassFile.FieldType.int)) ∈ gtbl := gq 1076 rfl rfl
theorem q1077 : (Jvm.Cond.methodLink "OwnRainLaw" (77 : Nat) ({ cls := "OwnRain", name := "played", desc := "(I)I" } : Jvm.MethodName)) ∈ gtbl := gq 1077 (by decide +kernel) rfl
theorem q1078 : (Jvm.Cond.instanceMethod ({ cls := "OwnRain", name := "played", desc := "(I)I" } : Jvm.MethodName)) ∈ gtbl := gq 1078 (by decide +kernel) rfl
theorem q1079 : (Jvm.Cond.selects "OwnRain" ({ cls := "OwnRain", name := "played", desc := "(I)I" } : Jvm.MethodName) ({ cls := "OwnRain", name := "played", desc := "(I)I" } : Jvm.MethodName)) ∈ gtbl := gq 1079 (by decide +kernel) rfl
set_option maxRecDepth 100000 in
theorem q1080 : (Jvm.Cond.code ({ cls := "OwnRain", name := "played", desc := "(I)I" } : Jvm.MethodName) prog_1_method_16_code (4 : Nat) (Option.some Jvm.ClassFile.FieldType.int)) ∈ gtbl := gq 1080 rfl rfl
theorem q1081 : (Jvm.Cond.methodLink "OwnRain" (194 : Nat) ({ cls := "OwnRain", name := "canDo", desc := "(LOwnRain$Text;I)Z" } : Jvm.MethodName)) ∈ gtbl := gq 1081 (by decide +kernel) rfl
theorem q1083 : (Jvm.Cond.instanceMethod ({ cls := "OwnRain", name := "canDo", desc := "(LOwnRain$Text;I)Z" } : Jvm.MethodName)) ∈ gtbl := gq 1083 (by decide +kernel) rfl
set_option maxRecDepth 100000 in
theorem q1084 : (Jvm.Cond.code ({ cls := "OwnRain", name := "canDo", desc := "(LOwnRain$Text;I)Z" } : Jvm.MethodName) prog_1_method_17_code (7 : Nat) (Option.some Jvm.ClassFile.FieldType.boolean)) ∈ gtbl := gq 1084 rfl rfl
theorem q1085 : (Jvm.Cond.methodLink "OwnRain" (201 : Nat) ({ cls := "OwnRain", name := "field", desc := "(III)I" } : Jvm.MethodName)) ∈ gtbl := gq 1085 (by decide +kernel) rfl
theorem q1086 : (Jvm.Cond.methodLink "OwnRain" (204 : Nat) ({ cls := "OwnRain", name := "road", desc := "(II)Z" } : Jvm.MethodName)) ∈ gtbl := gq 1086 (by decide +kernel) rfl
theorem q1087 : (Jvm.Cond.methodLink "OwnRain" (207 : Nat) ({ cls := "OwnRain", name := "person", desc := "(IIII)I" } : Jvm.MethodName)) ∈ gtbl := gq 1087 (by decide +kernel) rfl
theorem q1088 : (Jvm.Cond.methodLink "OwnRain" (210 : Nat) ({ cls := "OwnRain", name := "work", desc := "(II)Z" } : Jvm.MethodName)) ∈ gtbl := gq 1088 (by decide +kernel) rfl
theorem q1089 : (Jvm.Cond.methodLink "OwnRain" (212 : Nat) ({ cls := "OwnRain", name := "go", desc := "(II)Z" } : Jvm.MethodName)) ∈ gtbl := gq 1089 (by decide +kernel) rfl
theorem q1090 : (Jvm.Cond.methodLink "OwnRain" (215 : Nat) ({ cls := "OwnRain", name := "shake", desc := "(II)I" } : Jvm.MethodName)) ∈ gtbl := gq 1090 (by decide +kernel) rfl
theorem q1091 : (Jvm.Cond.methodLink "OwnRain" (219 : Nat) ({ cls := "OwnRain", name := "steal", desc := "(III)I" } : Jvm.MethodName)) ∈ gtbl := gq 1091 (by decide +kernel) rfl
theorem q1092 : (Jvm.Cond.methodLink "OwnRain" (222 : Nat) ({ cls := "OwnRain", name := "pour", desc := "(II)I" } : Jvm.MethodName)) ∈ gtbl := gq 1092 (by decide +kernel) rfl
theorem q1093 : (Jvm.Cond.methodLink "OwnRain" (230 : Nat) ({ cls := "OwnRain", name := "hour", desc := "(I)I" } : Jvm.MethodName)) ∈ gtbl := gq 1093 (by decide +kernel) rfl
theorem q1094 : (Jvm.Cond.methodLink "OwnRainLaw" (81 : Nat) ({ cls := "OwnRain", name := "year", desc := "(II)I" } : Jvm.MethodName)) ∈ gtbl := gq 1094 (by decide +kernel) rfl
theorem q1095 : (Jvm.Cond.instanceMethod ({ cls := "OwnRain", name := "year", desc := "(II)I" } : Jvm.MethodName)) ∈ gtbl := gq 1095 (by decide +kernel) rfl
theorem q1096 : (Jvm.Cond.selects "OwnRain" ({ cls := "OwnRain", name := "year", desc := "(II)I" } : Jvm.MethodName) ({ cls := "OwnRain", name := "year", desc := "(II)I" } : Jvm.MethodName)) ∈ gtbl := gq 1096 (by decide +kernel) rfl
set_option maxRecDepth 100000 in
theorem q1097 : (Jvm.Cond.code ({ cls := "OwnRain", name := "year", desc := "(II)I" } : Jvm.MethodName) prog_1_method_18_code (5 : Nat) (Option.some Jvm.ClassFile.FieldType.int)) ∈ gtbl := gq 1097 rfl rfl
theorem q1098 : (Jvm.Cond.methodLink "OwnRain" (236 : Nat) ({ cls := "OwnRain", name := "draw", desc := "()I" } : Jvm.MethodName)) ∈ gtbl := gq 1098 (by decide +kernel) rfl
theorem q1100 : (Jvm.Cond.instanceMethod ({ cls := "OwnRain", name := "draw", desc := "()I" } : Jvm.MethodName)) ∈ gtbl := gq 1100 (by decide +kernel) rfl
set_option maxRecDepth 100000 in
theorem q1101 : (Jvm.Cond.code ({ cls := "OwnRain", name := "draw", desc := "()I" } : Jvm.MethodName) prog_1_method_19_code (9 : Nat) (Option.some Jvm.ClassFile.FieldType.int)) ∈ gtbl := gq 1101 rfl rfl
theorem q1102 : (Jvm.Cond.methodLink "OwnRain" (243 : Nat) ({ cls := "OwnRain$World", name := "drawAnew", desc := "()V" } : Jvm.MethodName)) ∈ gtbl := gq 1102 (by decide +kernel) rfl
theorem q1103 : (Jvm.Cond.instanceMethod ({ cls := "OwnRain$World", name := "drawAnew", desc := "()V" } : Jvm.MethodName)) ∈ gtbl := gq 1103 (by decide +kernel) rfl
theorem q1104 : (Jvm.Cond.selects "OwnRain$World" ({ cls := "OwnRain$World", name := "drawAnew", desc := "()V" } : Jvm.MethodName) ({ cls := "OwnRain$World", name := "drawAnew", desc := "()V" } : Jvm.MethodName)) ∈ gtbl := gq 1104 (by decide +kernel) rfl
set_option maxRecDepth 100000 in
theorem q1105 : (Jvm.Cond.code ({ cls := "OwnRain$World", name := "drawAnew", desc := "()V" } : Jvm.MethodName) prog_12_method_5_code (1 : Nat) (Option.none : Option Jvm.ClassFile.FieldType)) ∈ gtbl := gq 1105 rfl rfl
theorem q1106 : (Jvm.Cond.methodLink "OwnRainLaw" (85 : Nat) ({ cls := "OwnRain", name := "undo", desc := "()I" } : Jvm.MethodName)) ∈ gtbl := gq 1106 (by decide +kernel) rfl
theorem q1107 : (Jvm.Cond.instanceMethod ({ cls := "OwnRain", name := "undo", desc := "()I" } : Jvm.MethodName)) ∈ gtbl := gq 1107 (by decide +kernel) rfl
theorem q1108 : (Jvm.Cond.selects "OwnRain" ({ cls := "OwnRain", name := "undo", desc := "()I" } : Jvm.MethodName) ({ cls := "OwnRain", name := "undo", desc := "()I" } : Jvm.MethodName)) ∈ gtbl := gq 1108 (by decide +kernel) rfl
set_option maxRecDepth 100000 in
theorem q1109 : (Jvm.Cond.code ({ cls := "OwnRain", name := "undo", desc := "()I" } : Jvm.MethodName) prog_1_method_20_code (1 : Nat) (Option.some Jvm.ClassFile.FieldType.int)) ∈ gtbl := gq 1109 rfl rfl
theorem q1110 : (Jvm.Cond.methodLink "OwnRain" (246 : Nat) ({ cls := "OwnRain$State", name := "takeBack", desc := "()I" } : Jvm.MethodName)) ∈ gtbl := gq 1110 (by decide +kernel) rfl
theorem q1111 : (Jvm.Cond.instanceMethod ({ cls := "OwnRain$State", name := "takeBack", desc := "()I" } : Jvm.MethodName)) ∈ gtbl := gq 1111 (by decide +kernel) rfl
theorem q1112 : (Jvm.Cond.selects "OwnRain$State" ({ cls := "OwnRain$State", name := "takeBack", desc := "()I" } : Jvm.MethodName) ({ cls := "OwnRain$State", name := "takeBack", desc := "()I" } : Jvm.MethodName)) ∈ gtbl := gq 1112 (by decide +kernel) rfl
set_option maxRecDepth 100000 in
theorem q1113 : (Jvm.Cond.code ({ cls := "OwnRain$State", name := "takeBack", desc := "()I" } : Jvm.MethodName) prog_6_method_9_code (3 : Nat) (Option.some Jvm.ClassFile.FieldType.int)) ∈ gtbl := gq 1113 rfl rfl
theorem q1114 : (Jvm.Cond.methodLink "OwnRain$State" (90 : Nat) ({ cls := "OwnRain$Steps", name := "takeBack", desc := "(LOwnRain$World;)I" } : Jvm.MethodName)) ∈ gtbl := gq 1114 (by decide +kernel) rfl
theorem q1115 : (Jvm.Cond.instanceMethod ({ cls := "OwnRain$Steps", name := "takeBack", desc := "(LOwnRain$World;)I" } : Jvm.MethodName)) ∈ gtbl := gq 1115 (by decide +kernel) rfl
theorem q1116 : (Jvm.Cond.selects "OwnRain$Steps" ({ cls := "OwnRain$Steps", name := "takeBack", desc := "(LOwnRain$World;)I" } : Jvm.MethodName) ({ cls := "OwnRain$Steps", name := "takeBack", desc := "(LOwnRain$World;)I" } : Jvm.MethodName)) ∈ gtbl := gq 1116 (by decide +kernel) rfl
set_option maxRecDepth 100000 in
theorem q1117 : (Jvm.Cond.code ({ cls := "OwnRain$Steps", name := "takeBack", desc := "(LOwnRain$World;)I" } : Jvm.MethodName) prog_7_method_3_code (2 : Nat) (Option.some Jvm.ClassFile.FieldType.int)) ∈ gtbl := gq 1117 rfl rfl
theorem q1118 : (Jvm.Cond.methodLink "OwnRain$State" (100 : Nat) ({ cls := "OwnRain$World", name := "settle", desc := "(III)V" } : Jvm.MethodName)) ∈ gtbl := gq 1118 (by decide +kernel) rfl
theorem q1119 : (Jvm.Cond.methodLink "OwnRainLaw" (89 : Nat) ({ cls := "OwnRain", name := "ofField", desc := "(II)I" } : Jvm.MethodName)) ∈ gtbl := gq 1119 (by decide +kernel) rfl
theorem q1120 : (Jvm.Cond.instanceMethod ({ cls := "OwnRain", name := "ofField", desc := "(II)I" } : Jvm.MethodName)) ∈ gtbl := gq 1120 (by decide +kernel) rfl
theorem q1121 : (Jvm.Cond.selects "OwnRain" ({ cls := "OwnRain", name := "ofField", desc := "(II)I" } : Jvm.MethodName) ({ cls := "OwnRain", name := "ofField", desc := "(II)I" } : Jvm.MethodName)) ∈ gtbl := gq 1121 (by decide +kernel) rfl
set_option maxRecDepth 100000 in
theorem q1122 : (Jvm.Cond.code ({ cls := "OwnRain", name := "ofField", desc := "(II)I" } : Jvm.MethodName) prog_1_method_21_code (5 : Nat) (Option.some Jvm.ClassFile.FieldType.int)) ∈ gtbl := gq 1122 rfl rfl
theorem q1123 : (Jvm.Cond.methodLink "OwnRain" (264 : Nat) ({ cls := "OwnRain$World", name := "peopleOn", desc := "(II)I" } : Jvm.MethodName)) ∈ gtbl := gq 1123 (by decide +kernel) rfl
theorem q1124 : (Jvm.Cond.instanceMethod ({ cls := "OwnRain$World", name := "peopleOn", desc := "(II)I" } : Jvm.MethodName)) ∈ gtbl := gq 1124 (by decide +kernel) rfl
theorem q1125 : (Jvm.Cond.selects "OwnRain$World" ({ cls := "OwnRain$World", name := "peopleOn", desc := "(II)I" } : Jvm.MethodName) ({ cls := "OwnRain$World", name := "peopleOn", desc := "(II)I" } : Jvm.MethodName)) ∈ gtbl := gq 1125 (by decide +kernel) rfl
set_option maxRecDepth 100000 in
theorem q1126 : (Jvm.Cond.code ({ cls := "OwnRain$World", name := "peopleOn", desc := "(II)I" } : Jvm.MethodName) prog_12_method_6_code (5 : Nat) (Option.some Jvm.ClassFile.FieldType.int)) ∈ gtbl := gq 1126 rfl rfl
theorem q1127 : (Jvm.Cond.methodLink "OwnRainLaw" (93 : Nat) ({ cls := "OwnRain", name := "ofPerson", desc := "(II)I" } : Jvm.MethodName)) ∈ gtbl := gq 1127 (by decide +kernel) rfl
theorem q1128 : (Jvm.Cond.instanceMethod ({ cls := "OwnRain", name := "ofPerson", desc := "(II)I" } : Jvm.MethodName)) ∈ gtbl := gq 1128 (by decide +kernel) rfl
theorem q1129 : (Jvm.Cond.selects "OwnRain" ({ cls := "OwnRain", name := "ofPerson", desc := "(II)I" } : Jvm.MethodName) ({ cls := "OwnRain", name := "ofPerson", desc := "(II)I" } : Jvm.MethodName)) ∈ gtbl := gq 1129 (by decide +kernel) rfl
set_option maxRecDepth 100000 in
theorem q1130 : (Jvm.Cond.code ({ cls := "OwnRain", name := "ofPerson", desc := "(II)I" } : Jvm.MethodName) prog_1_method_22_code (5 : Nat) (Option.some Jvm.ClassFile.FieldType.int)) ∈ gtbl := gq 1130 rfl rfl
theorem q1131 : (Jvm.Cond.methodLink "OwnRain" (276 : Nat) ({ cls := "OwnRain$Weather", name := "sweatOf", desc := "(LOwnRain$World;I)I" } : Jvm.MethodName)) ∈ gtbl := gq 1131 (by decide +kernel) rfl
theorem q1132 : (Jvm.Cond.methodLink "OwnRain" (280 : Nat) ({ cls := "OwnRain$World", name := "whereWas", desc := "(II)I" } : Jvm.MethodName)) ∈ gtbl := gq 1132 (by decide +kernel) rfl
theorem q1133 : (Jvm.Cond.instanceMethod ({ cls := "OwnRain$World", name := "whereWas", desc := "(II)I" } : Jvm.MethodName)) ∈ gtbl := gq 1133 (by decide +kernel) rfl
theorem q1134 : (Jvm.Cond.selects "OwnRain$World" ({ cls := "OwnRain$World", name := "whereWas", desc := "(II)I" } : Jvm.MethodName) ({ cls := "OwnRain$World", name := "whereWas", desc := "(II)I" } : Jvm.MethodName)) ∈ gtbl := gq 1134 (by decide +kernel) rfl
set_option maxRecDepth 100000 in
theorem q1135 : (Jvm.Cond.code ({ cls := "OwnRain$World", name := "whereWas", desc := "(II)I" } : Jvm.MethodName) prog_12_method_14_code (4 : Nat) (Option.some Jvm.ClassFile.FieldType.int)) ∈ gtbl := gq 1135 rfl rfl
theorem q1136 : (Jvm.Cond.methodLink "OwnRainLaw" (97 : Nat) ({ cls := "OwnRain", name := "rained", desc := "(II)I" } : Jvm.MethodName)) ∈ gtbl := gq 1136 (by decide +kernel) rfl
theorem q1137 : (Jvm.Cond.instanceMethod ({ cls := "OwnRain", name := "rained", desc := "(II)I" } : Jvm.MethodName)) ∈ gtbl := gq 1137 (by decide +kernel) rfl
theorem q1138 : (Jvm.Cond.selects "OwnRain" ({ cls := "OwnRain", name := "rained", desc := "(II)I" } : Jvm.MethodName) ({ cls := "OwnRain", name := "rained", desc := "(II)I" } : Jvm.MethodName)) ∈ gtbl := gq 1138 (by decide +kernel) rfl
set_option maxRecDepth 100000 in
theorem q1139 : (Jvm.Cond.code ({ cls := "OwnRain", name := "rained", desc := "(II)I" } : Jvm.MethodName) prog_1_method_23_code (4 : Nat) (Option.some Jvm.ClassFile.FieldType.int)) ∈ gtbl := gq 1139 rfl rfl
theorem q1140 : (Jvm.Cond.methodLink "OwnRain" (286 : Nat) ({ cls := "OwnRain$World", name := "rainPerson", desc := "(I)I" } : Jvm.MethodName)) ∈ gtbl := gq 1140 (by decide +kernel) rfl
theorem q1141 : (Jvm.Cond.instanceMethod ({ cls := "OwnRain$World", name := "rainPerson", desc := "(I)I" } : Jvm.MethodName)) ∈ gtbl := gq 1141 (by decide +kernel) rfl
theorem q1142 : (Jvm.Cond.selects "OwnRain$World" ({ cls := "OwnRain$World", name := "rainPerson", desc := "(I)I" } : Jvm.MethodName) ({ cls := "OwnRain$World", name := "rainPerson", desc := "(I)I" } : Jvm.MethodName)) ∈ gtbl := gq 1142 (by decide +kernel) rfl
set_option maxRecDepth 100000 in
theorem q1143 : (Jvm.Cond.code ({ cls := "OwnRain$World", name := "rainPerson", desc := "(I)I" } : Jvm.MethodName) prog_12_method_11_code (2 : Nat) (Option.some Jvm.ClassFile.FieldType.int)) ∈ gtbl := gq 1143 rfl rfl
theorem q1144 : (Jvm.Cond.methodLink "OwnRain$World" (70 : Nat) ({ cls := "OwnRain$World", name := "rain", desc := "(I)I" } : Jvm.MethodName)) ∈ gtbl := gq 1144 (by decide +kernel) rfl
theorem q1146 : (Jvm.Cond.instanceMethod ({ cls := "OwnRain$World", name := "rain", desc := "(I)I" } : Jvm.MethodName)) ∈ gtbl := gq 1146 (by decide +kernel) rfl
set_option maxRecDepth 100000 in
theorem q1147 : (Jvm.Cond.code ({ cls := "OwnRain$World", name := "rain", desc := "(I)I" } : Jvm.MethodName) prog_12_method_8_code (2 : Nat) (Option.some Jvm.ClassFile.FieldType.int)) ∈ gtbl := gq 1147 rfl rfl
theorem q1148 : (Jvm.Cond.methodLink "OwnRain" (289 : Nat) ({ cls := "OwnRain$World", name := "rainHour", desc := "(I)I" } : Jvm.MethodName)) ∈ gtbl := gq 1148 (by decide +kernel) rfl
theorem q1149 : (Jvm.Cond.instanceMethod ({ cls := "OwnRain$World", name := "rainHour", desc := "(I)I" } : Jvm.MethodName)) ∈ gtbl := gq 1149 (by decide +kernel) rfl
theorem q1150 : (Jvm.Cond.selects "OwnRain$World" ({ cls := "OwnRain$World", name := "rainHour", desc := "(I)I" } : Jvm.MethodName) ({ cls := "OwnRain$World", name := "rainHour", desc := "(I)I" } : Jvm.MethodName)) ∈ gtbl := gq 1150 (by decide +kernel) rfl
set_option maxRecDepth 100000 in
theorem q1151 : (Jvm.Cond.code ({ cls := "OwnRain$World", name := "rainHour", desc := "(I)I" } : Jvm.MethodName) prog_12_method_12_code (2 : Nat) (Option.some Jvm.ClassFile.FieldType.int)) ∈ gtbl := gq 1151 rfl rfl
theorem q1152 : (Jvm.Cond.methodLink "OwnRain" (292 : Nat) ({ cls := "OwnRain$World", name := "rainField", desc := "(I)I" } : Jvm.MethodName)) ∈ gtbl := gq 1152 (by decide +kernel) rfl
theorem q1153 : (Jvm.Cond.instanceMethod ({ cls := "OwnRain$World", name := "rainField", desc := "(I)I" } : Jvm.MethodName)) ∈ gtbl := gq 1153 (by decide +kernel) rfl
theorem q1154 : (Jvm.Cond.selects "OwnRain$World" ({ cls := "OwnRain$World", name := "rainField", desc := "(I)I" } : Jvm.MethodName) ({ cls := "OwnRain$World", name := "rainField", desc := "(I)I" } : Jvm.MethodName)) ∈ gtbl := gq 1154 (by decide +kernel) rfl
set_option maxRecDepth 100000 in
theorem q1155 : (Jvm.Cond.code ({ cls := "OwnRain$World", name := "rainField", desc := "(I)I" } : Jvm.MethodName) prog_12_method_10_code (2 : Nat) (Option.some Jvm.ClassFile.FieldType.int)) ∈ gtbl := gq 1155 rfl rfl
theorem q1156 : (Jvm.Cond.methodLink "OwnRain" (295 : Nat) ({ cls := "OwnRain$World", name := "rainDrops", desc := "(I)I" } : Jvm.MethodName)) ∈ gtbl := gq 1156 (by decide +kernel) rfl
theorem q1157 : (Jvm.Cond.instanceMethod ({ cls := "OwnRain$World", name := "rainDrops", desc := "(I)I" } : Jvm.MethodName)) ∈ gtbl := gq 1157 (by decide +kernel) rfl
theorem q1158 : (Jvm.Cond.selects "OwnRain$World" ({ cls := "OwnRain$World", name := "rainDrops", desc := "(I)I" } : Jvm.MethodName) ({ cls := "OwnRain$World", name := "rainDrops", desc := "(I)I" } : Jvm.MethodName)) ∈ gtbl := gq 1158 (by decide +kernel) rfl
set_option maxRecDepth 100000 in
theorem q1159 : (Jvm.Cond.code ({ cls := "OwnRain$World", name := "rainDrops", desc := "(I)I" } : Jvm.MethodName) prog_12_method_9_code (2 : Nat) (Option.some Jvm.ClassFile.FieldType.int)) ∈ gtbl := gq 1159 rfl rfl
theorem q1160 : (Jvm.Cond.methodLink "OwnRainLaw" (101 : Nat) ({ cls := "OwnRain", name := "foretoldWet", desc := "(II)I" } : Jvm.MethodName)) ∈ gtbl := gq 1160 (by decide +kernel) rfl
theorem q1161 : (Jvm.Cond.instanceMethod ({ cls := "OwnRain", name := "foretoldWet", desc := "(II)I" } : Jvm.MethodName)) ∈ gtbl := gq 1161 (by decide +kernel) rfl
theorem q1162 : (Jvm.Cond.selects "OwnRain" ({ cls := "OwnRain", name := "foretoldWet", desc := "(II)I" } : Jvm.MethodName) ({ cls := "OwnRain", name := "foretoldWet", desc := "(II)I" } : Jvm.MethodName)) ∈ gtbl := gq 1162 (by decide +kernel) rfl
set_option maxRecDepth 100000 in
theorem q1163 : (Jvm.Cond.code ({ cls := "OwnRain", name := "foretoldWet", desc := "(II)I" } : Jvm.MethodName) prog_1_method_24_code (3 : Nat) (Option.some Jvm.ClassFile.FieldType.int)) ∈ gtbl := gq 1163 rfl rfl
theorem q1164 : (Jvm.Cond.methodLink "OwnRain" (298 : Nat) ({ cls := "OwnRain$Planner", name := "foretell", desc := "(I)LOwnRain$World;" } : Jvm.MethodName)) ∈ gtbl := gq 1164 (by decide +kernel) rfl
theorem q1165 : (Jvm.Cond.instanceMethod ({ cls := "OwnRain$Planner", name := "foretell", desc := "(I)LOwnRain$World;" } : Jvm.MethodName)) ∈ gtbl := gq 1165 (by decide +kernel) rfl
theorem q1166 : (Jvm.Cond.selects "OwnRain$Planner" ({ cls := "OwnRain$Planner", name := "foretell", desc := "(I)LOwnRain$World;" } : Jvm.MethodName) ({ cls := "OwnRain$Planner", name := "foretell", desc := "(I)LOwnRain$World;" } : Jvm.MethodName)) ∈ gtbl := gq 1166 (by decide +kernel) rfl
set_option maxRecDepth 100000 in
theorem q1167 : (Jvm.Cond.code ({ cls := "OwnRain$Planner", name := "foretell", desc := "(I)LOwnRain$World;" } : Jvm.MethodName) prog_4_method_3_code (4 : Nat) (Option.some (Jvm.ClassFile.FieldType.object "OwnRain$World"))) ∈ gtbl := gq 1167 rfl rfl
theorem q1168 : (Jvm.Cond.methodLink "OwnRain$Planner" (55 : Nat) ({ cls := "OwnRain$Planner", name := "freshWorld", desc := "()LOwnRain$World;" } : Jvm.MethodName)) ∈ gtbl := gq 1168 (by decide +kernel) rfl
theorem q1170 : (Jvm.Cond.instanceMethod ({ cls := "OwnRain$Planner", name := "freshWorld", desc := "()LOwnRain$World;" } : Jvm.MethodName)) ∈ gtbl := gq 1170 (by decide +kernel) rfl
set_option maxRecDepth 100000 in
theorem q1171 : (Jvm.Cond.code ({ cls := "OwnRain$Planner", name := "freshWorld", desc := "()LOwnRain$World;" } : Jvm.MethodName) prog_4_method_2_code (1 : Nat) (Option.some (Jvm.ClassFile.FieldType.object "OwnRain$World"))) ∈ gtbl := gq 1171 rfl rfl
theorem q1172 : (Jvm.Cond.methodLink "OwnRain$Planner" (51 : Nat) ({ cls := "OwnRain$World", name := "copyFrom", desc := "(LOwnRain$World;)V" } : Jvm.MethodName)) ∈ gtbl := gq 1172 (by decide +kernel) rfl
theorem q1173 : (Jvm.Cond.methodLink "OwnRain$Planner" (59 : Nat) ({ cls := "OwnRain$Weather", name := "pass", desc := "(LOwnRain$World;)I" } : Jvm.MethodName)) ∈ gtbl := gq 1173 (by decide +kernel) rfl
theorem q1174 : (Jvm.Cond.methodLink "OwnRainLaw" (105 : Nat) ({ cls := "OwnRain", name := "foretoldCloud", desc := "(IIZ)I" } : Jvm.MethodName)) ∈ gtbl := gq 1174 (by decide +kernel) rfl
theorem q1175 : (Jvm.Cond.instanceMethod ({ cls := "OwnRain", name := "foretoldCloud", desc := "(IIZ)I" } : Jvm.MethodName)) ∈ gtbl := gq 1175 (by decide +kernel) rfl
theorem q1176 : (Jvm.Cond.selects "OwnRain" ({ cls := "OwnRain", name := "foretoldCloud", desc := "(IIZ)I" } : Jvm.MethodName) ({ cls := "OwnRain", name := "foretoldCloud", desc := "(IIZ)I" } : Jvm.MethodName)) ∈ gtbl := gq 1176 (by decide +kernel) rfl
set_option maxRecDepth 100000 in
theorem q1177 : (Jvm.Cond.code ({ cls := "OwnRain", name := "foretoldCloud", desc := "(IIZ)I" } : Jvm.MethodName) prog_1_method_25_code (4 : Nat) (Option.some Jvm.ClassFile.FieldType.int)) ∈ gtbl := gq 1177 rfl rfl
theorem q1178 : (Jvm.Cond.methodLink "OwnRain" (302 : Nat) ({ cls := "OwnRain$Planner", name := "firstRain", desc := "(II)I" } : Jvm.MethodName)) ∈ gtbl := gq 1178 (by decide +kernel) rfl
theorem q1179 : (Jvm.Cond.instanceMethod ({ cls := "OwnRain$Planner", name := "firstRain", desc := "(II)I" } : Jvm.MethodName)) ∈ gtbl := gq 1179 (by decide +kernel) rfl
theorem q1180 : (Jvm.Cond.selects "OwnRain$Planner" ({ cls := "OwnRain$Planner", name := "firstRain", desc := "(II)I" } : Jvm.MethodName) ({ cls := "OwnRain$Planner", name := "firstRain", desc := "(II)I" } : Jvm.MethodName)) ∈ gtbl := gq 1180 (by decide +kernel) rfl
set_option maxRecDepth 100000 in
theorem q1181 : (Jvm.Cond.code ({ cls := "OwnRain$Planner", name := "firstRain", desc := "(II)I" } : Jvm.MethodName) prog_4_method_4_code (5 : Nat) (Option.some Jvm.ClassFile.FieldType.int)) ∈ gtbl := gq 1181 rfl rfl
theorem q1183 : (Jvm.Cond.static ({ cls := "OwnRain", name := "isOf", desc := "(II)Z" } : Jvm.MethodName)) ∈ gtbl := gq 1183 (by decide +kernel) rfl
set_option maxRecDepth 100000 in
theorem q1184 : (Jvm.Cond.code ({ cls := "OwnRain", name := "isOf", desc := "(II)Z" } : Jvm.MethodName) prog_1_method_51_code (2 : Nat) (Option.some Jvm.ClassFile.FieldType.boolean)) ∈ gtbl := gq 1184 rfl rfl
theorem q1185 : (Jvm.Cond.methodLink "OwnRainLaw" (110 : Nat) ({ cls := "OwnRain", name := "plan", desc := "(III)I" } : Jvm.MethodName)) ∈ gtbl := gq 1185 (by decide +kernel) rfl
theorem q1186 : (Jvm.Cond.instanceMethod ({ cls := "OwnRain", name := "plan", desc := "(III)I" } : Jvm.MethodName)) ∈ gtbl := gq 1186 (by decide +kernel) rfl
theorem q1187 : (Jvm.Cond.selects "OwnRain" ({ cls := "OwnRain", name := "plan", desc := "(III)I" } : Jvm.MethodName) ({ cls := "OwnRain", name := "plan", desc := "(III)I" } : Jvm.MethodName)) ∈ gtbl := gq 1187 (by decide +kernel) rfl
set_option maxRecDepth 100000 in
theorem q1188 : (Jvm.Cond.code ({ cls := "OwnRain", name := "plan", desc := "(III)I" } : Jvm.MethodName) prog_1_method_26_code (4 : Nat) (Option.some Jvm.ClassFile.FieldType.int)) ∈ gtbl := gq 1188 rfl rfl
theorem q1189 : (Jvm.Cond.methodLink "OwnRain" (305 : Nat) ({ cls := "OwnRain$Planner", name := "planWork", desc := "(II)V" } : Jvm.MethodName)) ∈ gtbl := gq 1189 (by decide +kernel) rfl
theorem q1190 : (Jvm.Cond.instanceMethod ({ cls := "OwnRain$Planner", name := "planWork", desc := "(II)V" } : Jvm.MethodName)) ∈ gtbl := gq 1190 (by decide +kernel) rfl
theorem q1191 : (Jvm.Cond.selects "OwnRain$Planner" ({ cls := "OwnRain$Planner", name := "planWork", desc := "(II)V" } : Jvm.MethodName) ({ cls := "OwnRain$Planner", name := "planWork", desc := "(II)V" } : Jvm.MethodName)) ∈ gtbl := gq 1191 (by decide +kernel) rfl
set_option maxRecDepth 100000 in
theorem q1192 : (Jvm.Cond.code ({ cls := "OwnRain$Planner", name := "planWork", desc := "(II)V" } : Jvm.MethodName) prog_4_method_5_code (3 : Nat) (Option.none : Option Jvm.ClassFile.FieldType)) ∈ gtbl := gq 1192 rfl rfl
theorem q1193 : (Jvm.Cond.methodLink "OwnRain$Planner" (76 : Nat) ({ cls := "OwnRain$Planner", name := "tryWork", desc := "(IIIIZ)V" } : Jvm.MethodName)) ∈ gtbl := gq 1193 (by decide +kernel) rfl
theorem q1195 : (Jvm.Cond.instanceMethod ({ cls := "OwnRain$Planner", name := "tryWork", desc := "(IIIIZ)V" } : Jvm.MethodName)) ∈ gtbl := gq 1195 (by decide +kernel) rfl
set_option maxRecDepth 100000 in
theorem q1196 : (Jvm.Cond.code ({ cls := "OwnRain$Planner", name := "tryWork", desc := "(IIIIZ)V" } : Jvm.MethodName) prog_4_method_6_code (11 : Nat) (Option.none : Option Jvm.ClassFile.FieldType)) ∈ gtbl := gq 1196 rfl rfl
theorem q1197 : (Jvm.Cond.methodLink "OwnRain$Planner" (80 : Nat) ({ cls := "java/lang/System", name := "arraycopy", desc := "(Ljava/lang/Object;ILjava/lang/Object;II)V" } : Jvm.MethodName)) ∈ gtbl := gq 1197 (by decide +kernel) rfl
theorem q1198 : (Jvm.Cond.methodLink "OwnRainLaw" (114 : Nat) ({ cls := "OwnRain", name := "match", desc := "(III)I" } : Jvm.MethodName)) ∈ gtbl := gq 1198 (by decide +kernel) rfl
theorem q1199 : (Jvm.Cond.instanceMethod ({ cls := "OwnRain", name := "match", desc := "(III)I" } : Jvm.MethodName)) ∈ gtbl := gq 1199 (by decide +kernel) rfl
theorem q1200 : (Jvm.Cond.selects "OwnRain" ({ cls := "OwnRain", name := "match", desc := "(III)I" } : Jvm.MethodName) ({ cls := "OwnRain", name := "match", desc := "(III)I" } : Jvm.MethodName)) ∈ gtbl := gq 1200 (by decide +kernel) rfl
set_option maxRecDepth 100000 in
theorem q1201 : (Jvm.Cond.code ({ cls := "OwnRain", name := "match", desc := "(III)I" } : Jvm.MethodName) prog_1_method_27_code (6 : Nat) (Option.some Jvm.ClassFile.FieldType.int)) ∈ gtbl := gq 1201 rfl rfl
theorem q1202 : (Jvm.Cond.methodLink "OwnRain" (314 : Nat) ({ cls := "java/lang/Integer", name := "bitCount", desc := "(I)I" } : Jvm.MethodName)) ∈ gtbl := gq 1202 (by decide +kernel) rfl
theorem q1203 : (Jvm.Cond.methodLink "OwnRain" (319 : Nat) ({ cls := "OwnRain", name := "isSet", desc := "(II)Z" } : Jvm.MethodName)) ∈ gtbl := gq 1203 (by decide +kernel) rfl
theorem q1204 : (Jvm.Cond.static ({ cls := "OwnRain", name := "isSet", desc := "(II)Z" } : Jvm.MethodName)) ∈ gtbl := gq 1204 (by decide +kernel) rfl
set_option maxRecDepth 100000 in
theorem q1205 : (Jvm.Cond.code ({ cls := "OwnRain", name := "isSet", desc := "(II)Z" } : Jvm.MethodName) prog_1_method_50_code (2 : Nat) (Option.some Jvm.ClassFile.FieldType.boolean)) ∈ gtbl := gq 1205 rfl rfl
theorem q1206 : (Jvm.Cond.methodLink "OwnRain" (322 : Nat) ({ cls := "OwnRain$Planner", name := "assign", desc := "(II)I" } : Jvm.MethodName)) ∈ gtbl := gq 1206 (by decide +kernel) rfl
theorem q1207 : (Jvm.Cond.instanceMethod ({ cls := "OwnRain$Planner", name := "assign", desc := "(II)I" } : Jvm.MethodName)) ∈ gtbl := gq 1207 (by decide +kernel) rfl
theorem q1208 : (Jvm.Cond.selects "OwnRain$Planner" ({ cls := "OwnRain$Planner", name := "assign", desc := "(II)I" } : Jvm.MethodName) ({ cls := "OwnRain$Planner", name := "assign", desc := "(II)I" } : Jvm.MethodName)) ∈ gtbl := gq 1208 (by decide +kernel) rfl
set_option maxRecDepth 100000 in
theorem q1209 : (Jvm.Cond.code ({ cls := "OwnRain$Planner", name := "assign", desc := "(II)I" } : Jvm.MethodName) prog_4_method_9_code (5 : Nat) (Option.some Jvm.ClassFile.FieldType.int)) ∈ gtbl := gq 1209 rfl rfl
theorem q1210 : (Jvm.Cond.methodLink "OwnRain$Planner" (125 : Nat) ({ cls := "OwnRain$Planner", name := "sweatAt", desc := "(II)I" } : Jvm.MethodName)) ∈ gtbl := gq 1210 (by decide +kernel) rfl
theorem q1212 : (Jvm.Cond.instanceMethod ({ cls := "OwnRain$Planner", name := "sweatAt", desc := "(II)I" } : Jvm.MethodName)) ∈ gtbl := gq 1212 (by decide +kernel) rfl
set_option maxRecDepth 100000 in
theorem q1213 : (Jvm.Cond.code ({ cls := "OwnRain$Planner", name := "sweatAt", desc := "(II)I" } : Jvm.MethodName) prog_4_method_10_code (5 : Nat) (Option.some Jvm.ClassFile.FieldType.int)) ∈ gtbl := gq 1213 rfl rfl
theorem q1214 : (Jvm.Cond.methodLink "OwnRain$Planner" (136 : Nat) ({ cls := "OwnRain$Weather", name := "sweatOf", desc := "(LOwnRain$World;I)I" } : Jvm.MethodName)) ∈ gtbl := gq 1214 (by decide +kernel) rfl
theorem q1215 : (Jvm.Cond.methodLink "OwnRain$Planner" (129 : Nat) ({ cls := "OwnRain$Planner", name := "mostBeyond", desc := "(III)I" } : Jvm.MethodName)) ∈ gtbl := gq 1215 (by decide +kernel) rfl
theorem q1217 : (Jvm.Cond.instanceMethod ({ cls := "OwnRain$Planner", name := "mostBeyond", desc := "(III)I" } : Jvm.MethodName)) ∈ gtbl := gq 1217 (by decide +kernel) rfl
set_option maxRecDepth 100000 in
theorem q1218 : (Jvm.Cond.code ({ cls := "OwnRain$Planner", name := "mostBeyond", desc := "(III)I" } : Jvm.MethodName) prog_4_method_11_code (7 : Nat) (Option.some Jvm.ClassFile.FieldType.int)) ∈ gtbl := gq 1218 rfl rfl
theorem q1219 : (Jvm.Cond.methodLink "OwnRain$Planner" (140 : Nat) ({ cls := "java/lang/Integer", name := "bitCount", desc := "(I)I" } : Jvm.MethodName)) ∈ gtbl := gq 1219 (by decide +kernel) rfl
theorem q1220 : (Jvm.Cond.methodLink "OwnRain$Planner" (146 : Nat) ({ cls := "OwnRain$Planner", name := "nextOf", desc := "(II)I" } : Jvm.MethodName)) ∈ gtbl := gq 1220 (by decide +kernel) rfl
theorem q1221 : (Jvm.Cond.static ({ cls := "OwnRain$Planner", name := "nextOf", desc := "(II)I" } : Jvm.MethodName)) ∈ gtbl := gq 1221 (by decide +kernel) rfl
set_option maxRecDepth 100000 in
theorem q1222 : (Jvm.Cond.code ({ cls := "OwnRain$Planner", name := "nextOf", desc := "(II)I" } : Jvm.MethodName) prog_4_method_12_code (4 : Nat) (Option.some Jvm.ClassFile.FieldType.int)) ∈ gtbl := gq 1222 rfl rfl
theorem q1223 : (Jvm.Cond.methodLink "OwnRain$Planner" (149 : Nat) ({ cls := "java/lang/Math", name := "max", desc := "(II)I" } : Jvm.MethodName)) ∈ gtbl := gq 1223 (by decide +kernel) rfl
theorem q1224 : (Jvm.Cond.methodLink "OwnRain$Planner" (133 : Nat) ({ cls := "OwnRain$Planner", name := "lowestPlace", desc := "(III)I" } : Jvm.MethodName)) ∈ gtbl := gq 1224 (by decide +kernel) rfl
theorem q1226 : (Jvm.Cond.instanceMethod ({ cls := "OwnRain$Planner", name := "lowestPlace", desc := "(III)I" } : Jvm.MethodName)) ∈ gtbl := gq 1226 (by decide +kernel) rfl
set_option maxRecDepth 100000 in
theorem q1227 : (Jvm.Cond.code ({ cls := "OwnRain$Planner", name := "lowestPlace", desc := "(III)I" } : Jvm.MethodName) prog_4_method_13_code (5 : Nat) (Option.some Jvm.ClassFile.FieldType.int)) ∈ gtbl := gq 1227 rfl rfl
theorem q1228 : (Jvm.Cond.methodLink "OwnRain" (325 : Nat) ({ cls := "OwnRain", name := "isOf", desc := "(II)Z" } : Jvm.MethodName)) ∈ gtbl := gq 1228 (by decide +kernel) rfl
theorem q1229 : (Jvm.Cond.methodLink "OwnRainLaw" (118 : Nat) ({ cls := "OwnRain", name := "shares", desc := "(III)I" } : Jvm.MethodName)) ∈ gtbl := gq 1229 (by decide +kernel) rfl
theorem q1230 : (Jvm.Cond.instanceMethod ({ cls := "OwnRain", name := "shares", desc := "(III)I" } : Jvm.MethodName)) ∈ gtbl := gq 1230 (by decide +kernel) rfl
theorem q1231 : (Jvm.Cond.selects "OwnRain" ({ cls := "OwnRain", name := "shares", desc := "(III)I" } : Jvm.MethodName) ({ cls := "OwnRain", name := "shares", desc := "(III)I" } : Jvm.MethodName)) ∈ gtbl := gq 1231 (by decide +kernel) rfl
set_option maxRecDepth 100000 in
theorem q1232 : (Jvm.Cond.code ({ cls := "OwnRain", name := "shares", desc := "(III)I" } : Jvm.MethodName) prog_1_method_28_code (11 : Nat) (Option.some Jvm.ClassFile.FieldType.int)) ∈ gtbl := gq 1232 rfl rfl
theorem q1233 : (Jvm.Cond.methodLink "OwnRainLaw" (122 : Nat) ({ cls := "OwnRain", name := "cross", desc := "(IIII)I" } : Jvm.MethodName)) ∈ gtbl := gq 1233 (by decide +kernel) rfl
theorem q1234 : (Jvm.Cond.instanceMethod ({ cls := "OwnRain", name := "cross", desc := "(IIII)I" } : Jvm.MethodName)) ∈ gtbl := gq 1234 (by decide +kernel) rfl
theorem q1235 : (Jvm.Cond.selects "OwnRain" ({ cls := "OwnRain", name := "cross", desc := "(IIII)I" } : Jvm.MethodName) ({ cls := "OwnRain", name := "cross", desc := "(IIII)I" } : Jvm.MethodName)) ∈ gtbl := gq 1235 (by decide +kernel) rfl
set_option maxRecDepth 100000 in
theorem q1236 : (Jvm.Cond.code ({ cls := "OwnRain", name := "cross", desc := "(IIII)I" } : Jvm.MethodName) prog_1_method_29_code (6 : Nat) (Option.some Jvm.ClassFile.FieldType.int)) ∈ gtbl := gq 1236 rfl rfl
theorem q1237 : (Jvm.Cond.methodLink "OwnRain" (331 : Nat) ({ cls := "OwnRain$Ways", name := "measure", desc := "(II)V" } : Jvm.MethodName)) ∈ gtbl := gq 1237 (by decide +kernel) rfl
theorem q1238 : (Jvm.Cond.instanceMethod ({ cls := "OwnRain$Ways", name := "measure", desc := "(II)V" } : Jvm.MethodName)) ∈ gtbl := gq 1238 (by decide +kernel) rfl
theorem q1239 : (Jvm.Cond.selects "OwnRain$Ways" ({ cls := "OwnRain$Ways", name := "measure", desc := "(II)V" } : Jvm.MethodName) ({ cls := "OwnRain$Ways", name := "measure", desc := "(II)V" } : Jvm.MethodName)) ∈ gtbl := gq 1239 (by decide +kernel) rfl
set_option maxRecDepth 100000 in
theorem q1240 : (Jvm.Cond.code ({ cls := "OwnRain$Ways", name := "measure", desc := "(II)V" } : Jvm.MethodName) prog_10_method_2_code (6 : Nat) (Option.none : Option Jvm.ClassFile.FieldType)) ∈ gtbl := gq 1240 rfl rfl
theorem q1241 : (Jvm.Cond.methodLink "OwnRain$Ways" (34 : Nat) ({ cls := "OwnRain$Ways", name := "nextField", desc := "(III)I" } : Jvm.MethodName)) ∈ gtbl := gq 1241 (by decide +kernel) rfl
theorem q1243 : (Jvm.Cond.instanceMethod ({ cls := "OwnRain$Ways", name := "nextField", desc := "(III)I" } : Jvm.MethodName)) ∈ gtbl := gq 1243 (by decide +kernel) rfl
set_option maxRecDepth 100000 in
theorem q1244 : (Jvm.Cond.code ({ cls := "OwnRain$Ways", name := "nextField", desc := "(III)I" } : Jvm.MethodName) prog_10_method_3_code (5 : Nat) (Option.some Jvm.ClassFile.FieldType.int)) ∈ gtbl := gq 1244 rfl rfl
theorem q1245 : (Jvm.Cond.methodLink "OwnRain$Ways" (38 : Nat) ({ cls := "OwnRain$Land", name := "hasRoad", desc := "(II)Z" } : Jvm.MethodName)) ∈ gtbl := gq 1245 (by decide +kernel) rfl
theorem q1246 : (Jvm.Cond.methodLink "OwnRain" (337 : Nat) ({ cls := "OwnRain$Ways", name := "comeTo", desc := "(III)I" } : Jvm.MethodName)) ∈ gtbl := gq 1246 (by decide +kernel) rfl
theorem q1247 : (Jvm.Cond.instanceMethod ({ cls := "OwnRain$Ways", name := "comeTo", desc := "(III)I" } : Jvm.MethodName)) ∈ gtbl := gq 1247 (by decide +kernel) rfl
theorem q1248 : (Jvm.Cond.selects "OwnRain$Ways" ({ cls := "OwnRain$Ways", name := "comeTo", desc := "(III)I" } : Jvm.MethodName) ({ cls := "OwnRain$Ways", name := "comeTo", desc := "(III)I" } : Jvm.MethodName)) ∈ gtbl := gq 1248 (by decide +kernel) rfl
set_option maxRecDepth 100000 in
theorem q1249 : (Jvm.Cond.code ({ cls := "OwnRain$Ways", name := "comeTo", desc := "(III)I" } : Jvm.MethodName) prog_10_method_4_code (6 : Nat) (Option.some Jvm.ClassFile.FieldType.int)) ∈ gtbl := gq 1249 rfl rfl
theorem q1250 : (Jvm.Cond.methodLink "OwnRainLaw" (126 : Nat) ({ cls := "OwnRain", name := "widest", desc := "(II)I" } : Jvm.MethodName)) ∈ gtbl := gq 1250 (by decide +kernel) rfl
theorem q1251 : (Jvm.Cond.instanceMethod ({ cls := "OwnRain", name := "widest", desc := "(II)I" } : Jvm.MethodName)) ∈ gtbl := gq 1251 (by decide +kernel) rfl
theorem q1252 : (Jvm.Cond.selects "OwnRain" ({ cls := "OwnRain", name := "widest", desc := "(II)I" } : Jvm.MethodName) ({ cls := "OwnRain", name := "widest", desc := "(II)I" } : Jvm.MethodName)) ∈ gtbl := gq 1252 (by decide +kernel) rfl
set_option maxRecDepth 100000 in
theorem q1253 : (Jvm.Cond.code ({ cls := "OwnRain", name := "widest", desc := "(II)I" } : Jvm.MethodName) prog_1_method_30_code (3 : Nat) (Option.some Jvm.ClassFile.FieldType.int)) ∈ gtbl := gq 1253 rfl rfl
theorem q1254 : (Jvm.Cond.methodLink "OwnRain" (340 : Nat) ({ cls := "OwnRain$Ways", name := "width", desc := "(II)I" } : Jvm.MethodName)) ∈ gtbl := gq 1254 (by decide +kernel) rfl
theorem q1255 : (Jvm.Cond.instanceMethod ({ cls := "OwnRain$Ways", name := "width", desc := "(II)I" } : Jvm.MethodName)) ∈ gtbl := gq 1255 (by decide +kernel) rfl
theorem q1256 : (Jvm.Cond.selects "OwnRain$Ways" ({ cls := "OwnRain$Ways", name := "width", desc := "(II)I" } : Jvm.MethodName) ({ cls := "OwnRain$Ways", name := "width", desc := "(II)I" } : Jvm.MethodName)) ∈ gtbl := gq 1256 (by decide +kernel) rfl
set_option maxRecDepth 100000 in
theorem q1257 : (Jvm.Cond.code ({ cls := "OwnRain$Ways", name := "width", desc := "(II)I" } : Jvm.MethodName) prog_10_method_5_code (6 : Nat) (Option.some Jvm.ClassFile.FieldType.int)) ∈ gtbl := gq 1257 rfl rfl
theorem q1258 : (Jvm.Cond.methodLink "OwnRain$Ways" (51 : Nat) ({ cls := "OwnRain$Ways", name := "widen", desc := "(I)V" } : Jvm.MethodName)) ∈ gtbl := gq 1258 (by decide +kernel) rfl
theorem q1260 : (Jvm.Cond.instanceMethod ({ cls := "OwnRain$Ways", name := "widen", desc := "(I)V" } : Jvm.MethodName)) ∈ gtbl := gq 1260 (by decide +kernel) rfl
set_option maxRecDepth 100000 in
theorem q1261 : (Jvm.Cond.code ({ cls := "OwnRain$Ways", name := "widen", desc := "(I)V" } : Jvm.MethodName) prog_10_method_6_code (3 : Nat) (Option.none : Option Jvm.ClassFile.FieldType)) ∈ gtbl := gq 1261 rfl rfl
theorem q1262 : (Jvm.Cond.methodLink "OwnRain$Ways" (55 : Nat) ({ cls := "java/lang/Math", name := "min", desc := "(II)I" } : Jvm.MethodName)) ∈ gtbl := gq 1262 (by decide +kernel) rfl
theorem q1263 : (Jvm.Cond.methodLink "OwnRain$Ways" (61 : Nat) ({ cls := "java/lang/Math", name := "max", desc := "(II)I" } : Jvm.MethodName)) ∈ gtbl := gq 1263 (by decide +kernel) rfl
theorem q1264 : (Jvm.Cond.methodLink "OwnRainLaw" (130 : Nat) ({ cls := "OwnRain", name := "missing", desc := "(III)I" } : Jvm.MethodName)) ∈ gtbl := gq 1264 (by decide +kernel) rfl
theorem q1265 : (Jvm.Cond.instanceMethod ({ cls := "OwnRain", name := "missing", desc := "(III)I" } : Jvm.MethodName)) ∈ gtbl := gq 1265 (by decide +kernel) rfl
theorem q1266 : (Jvm.Cond.selects "OwnRain" ({ cls := "OwnRain", name := "missing", desc := "(III)I" } : Jvm.MethodName) ({ cls := "OwnRain", name := "missing", desc := "(III)I" } : Jvm.MethodName)) ∈ gtbl := gq 1266 (by decide +kernel) rfl
set_option maxRecDepth 100000 in
theorem q1267 : (Jvm.Cond.code ({ cls := "OwnRain", name := "missing", desc := "(III)I" } : Jvm.MethodName) prog_1_method_31_code (5 : Nat) (Option.some Jvm.ClassFile.FieldType.int)) ∈ gtbl := gq 1267 rfl rfl
theorem q1268 : (Jvm.Cond.methodLink "OwnRain" (352 : Nat) ({ cls := "OwnRain$Lists", name := "addMissing", desc := "(III)I" } : Jvm.MethodName)) ∈ gtbl := gq 1268 (by decide +kernel) rfl
theorem q1269 : (Jvm.Cond.instanceMethod ({ cls := "OwnRain$Lists", name := "addMissing", desc := "(III)I" } : Jvm.MethodName)) ∈ gtbl := gq 1269 (by decide +kernel) rfl
theorem q1270 : (Jvm.Cond.selects "OwnRain$Lists" ({ cls := "OwnRain$Lists", name := "addMissing", desc := "(III)I" } : Jvm.MethodName) ({ cls := "OwnRain$Lists", name := "addMissing", desc := "(III)I" } : Jvm.MethodName)) ∈ gtbl := gq 1270 (by decide +kernel) rfl
set_option maxRecDepth 100000 in
theorem q1271 : (Jvm.Cond.code ({ cls := "OwnRain$Lists", name := "addMissing", desc := "(III)I" } : Jvm.MethodName) prog_3_method_2_code (4 : Nat) (Option.some Jvm.ClassFile.FieldType.int)) ∈ gtbl := gq 1271 rfl rfl
theorem q1272 : (Jvm.Cond.methodLink "OwnRainLaw" (134 : Nat) ({ cls := "OwnRain", name := "near", desc := "(I)I" } : Jvm.MethodName)) ∈ gtbl := gq 1272 (by decide +kernel) rfl
theorem q1273 : (Jvm.Cond.instanceMethod ({ cls := "OwnRain", name := "near", desc := "(I)I" } : Jvm.MethodName)) ∈ gtbl := gq 1273 (by decide +kernel) rfl
theorem q1274 : (Jvm.Cond.selects "OwnRain" ({ cls := "OwnRain", name := "near", desc := "(I)I" } : Jvm.MethodName) ({ cls := "OwnRain", name := "near", desc := "(I)I" } : Jvm.MethodName)) ∈ gtbl := gq 1274 (by decide +kernel) rfl
set_option maxRecDepth 100000 in
theorem q1275 : (Jvm.Cond.code ({ cls := "OwnRain", name := "near", desc := "(I)I" } : Jvm.MethodName) prog_1_method_32_code (4 : Nat) (Option.some Jvm.ClassFile.FieldType.int)) ∈ gtbl := gq 1275 rfl rfl
theorem q1276 : (Jvm.Cond.methodLink "OwnRain" (355 : Nat) ({ cls := "OwnRain", name := "nearOnes", desc := "(I)I" } : Jvm.MethodName)) ∈ gtbl := gq 1276 (by decide +kernel) rfl
theorem q1278 : (Jvm.Cond.instanceMethod ({ cls := "OwnRain", name := "nearOnes", desc := "(I)I" } : Jvm.MethodName)) ∈ gtbl := gq 1278 (by decide +kernel) rfl
set_option maxRecDepth 100000 in
theorem q1279 : (Jvm.Cond.code ({ cls := "OwnRain", name := "nearOnes", desc := "(I)I" } : Jvm.MethodName) prog_1_method_33_code (10 : Nat) (Option.some Jvm.ClassFile.FieldType.int)) ∈ gtbl := gq 1279 rfl rfl
theorem q1280 : (Jvm.Cond.methodLink "OwnRainLaw" (138 : Nat) ({ cls := "OwnRain", name := "thieves", desc := "()I" } : Jvm.MethodName)) ∈ gtbl := gq 1280 (by decide +kernel) rfl
theorem q1281 : (Jvm.Cond.instanceMethod ({ cls := "OwnRain", name := "thieves", desc := "()I" } : Jvm.MethodName)) ∈ gtbl := gq 1281 (by decide +kernel) rfl
theorem q1282 : (Jvm.Cond.selects "OwnRain" ({ cls := "OwnRain", name := "thieves", desc := "()I" } : Jvm.MethodName) ({ cls := "OwnRain", name := "thieves", desc := "()I" } : Jvm.MethodName)) ∈ gtbl := gq 1282 (by decide +kernel) rfl
set_option maxRecDepth 100000 in
theorem q1283 : (Jvm.Cond.code ({ cls := "OwnRain", name := "thieves", desc := "()I" } : Jvm.MethodName) prog_1_method_34_code (6 : Nat) (Option.some Jvm.ClassFile.FieldType.int)) ∈ gtbl := gq 1283 rfl rfl
theorem q1284 : (Jvm.Cond.methodLink "OwnRainLaw" (142 : Nat) ({ cls := "OwnRain", name := "filling", desc := "(IIIIIZ)J" } : Jvm.MethodName)) ∈ gtbl := gq 1284 (by decide +kernel) rfl
theorem q1285 : (Jvm.Cond.instanceMethod ({ cls := "OwnRain", name := "filling", desc := "(IIIIIZ)J" } : Jvm.MethodName)) ∈ gtbl := gq 1285 (by decide +kernel) rfl
theorem q1286 : (Jvm.Cond.selects "OwnRain" ({ cls := "OwnRain", name := "filling", desc := "(IIIIIZ)J" } : Jvm.MethodName) ({ cls := "OwnRain", name := "filling", desc := "(IIIIIZ)J" } : Jvm.MethodName)) ∈ gtbl := gq 1286 (by decide +kernel) rfl
set_option maxRecDepth 100000 in
theorem q1287 : (Jvm.Cond.code ({ cls := "OwnRain", name := "filling", desc := "(IIIIIZ)J" } : Jvm.MethodName) prog_1_method_35_code (15 : Nat) (Option.some Jvm.ClassFile.FieldType.long)) ∈ gtbl := gq 1287 rfl rfl
theorem q1288 : (Jvm.Cond.constantLong "OwnRain" (367 : Nat) (-1 : Int64)) ∈ gtbl := gq 1288 (by decide +kernel) rfl
theorem q1289 : (Jvm.Cond.methodLink "OwnRain" (369 : Nat) ({ cls := "OwnRain", name := "hotHours", desc := "(II)[J" } : Jvm.MethodName)) ∈ gtbl := gq 1289 (by decide +kernel) rfl
theorem q1290 : (Jvm.Cond.static ({ cls := "OwnRain", name := "hotHours", desc := "(II)[J" } : Jvm.MethodName)) ∈ gtbl := gq 1290 (by decide +kernel) rfl
set_option maxRecDepth 100000 in
theorem q1291 : (Jvm.Cond.code ({ cls := "OwnRain", name := "hotHours", desc := "(II)[J" } : Jvm.MethodName) prog_1_method_36_code (5 : Nat) (Option.some (Jvm.ClassFile.FieldType.array Jvm.ClassFile.FieldType.long))) ∈ gtbl := gq 1291 rfl rfl
theorem q1292 : (Jvm.Cond.methodLink "OwnRain" (373 : Nat) ({ cls := "OwnRain", name := "commonDivisor", desc := "(JJ)J" } : Jvm.MethodName)) ∈ gtbl := gq 1292 (by decide +kernel) rfl
theorem q1293 : (Jvm.Cond.static ({ cls := "OwnRain", name := "commonDivisor", desc := "(JJ)J" } : Jvm.MethodName)) ∈ gtbl := gq 1293 (by decide +kernel) rfl
set_option maxRecDepth 100000 in
theorem q1294 : (Jvm.Cond.code ({ cls := "OwnRain", name := "commonDivisor", desc := "(JJ)J" } : Jvm.MethodName) prog_1_method_37_code (11 : Nat) (Option.some Jvm.ClassFile.FieldType.long)) ∈ gtbl := gq 1294 rfl rfl
theorem q1295 : (Jvm.Cond.arrayClass Jvm.ClassFile.FieldType.long) ∈ gtbl := gq 1295 (by decide +kernel) rfl
theorem q1296 : (Jvm.Cond.methodLink "OwnRainLaw" (147 : Nat) ({ cls := "OwnRain", name := "forecast", desc := "(IZ)I" } : Jvm.MethodName)) ∈ gtbl := gq 1296 (by decide +kernel) rfl
theorem q1297 : (Jvm.Cond.instanceMethod ({ cls := "OwnRain", name := "forecast", desc := "(IZ)I" } : Jvm.MethodName)) ∈ gtbl := gq 1297 (by decide +kernel) rfl
theorem q1298 : (Jvm.Cond.selects "OwnRain" ({ cls := "OwnRain", name := "forecast", desc := "(IZ)I" } : Jvm.MethodName) ({ cls := "OwnRain", name := "forecast", desc := "(IZ)I" } : Jvm.MethodName)) ∈ gtbl := gq 1298 (by decide +kernel) rfl
set_option maxRecDepth 100000 in
theorem q1299 : (Jvm.Cond.code ({ cls := "OwnRain", name := "forecast", desc := "(IZ)I" } : Jvm.MethodName) prog_1_method_38_code (4 : Nat) (Option.some Jvm.ClassFile.FieldType.int)) ∈ gtbl := gq 1299 rfl rfl
theorem q1300 : (Jvm.Cond.methodLink "OwnRain" (380 : Nat) ({ cls := "OwnRain$Lists", name := "addForecast", desc := "(IZ)I" } : Jvm.MethodName)) ∈ gtbl := gq 1300 (by decide +kernel) rfl
theorem q1301 : (Jvm.Cond.instanceMethod ({ cls := "OwnRain$Lists", name := "addForecast", desc := "(IZ)I" } : Jvm.MethodName)) ∈ gtbl := gq 1301 (by decide +kernel) rfl
theorem q1302 : (Jvm.Cond.selects "OwnRain$Lists" ({ cls := "OwnRain$Lists", name := "addForecast", desc := "(IZ)I" } : Jvm.MethodName) ({ cls := "OwnRain$Lists", name := "addForecast", desc := "(IZ)I" } : Jvm.MethodName)) ∈ gtbl := gq 1302 (by decide +kernel) rfl
set_option maxRecDepth 100000 in
theorem q1303 : (Jvm.Cond.code ({ cls := "OwnRain$Lists", name := "addForecast", desc := "(IZ)I" } : Jvm.MethodName) prog_3_method_3_code (3 : Nat) (Option.some Jvm.ClassFile.FieldType.int)) ∈ gtbl := gq 1303 rfl rfl
theorem q1304 : (Jvm.Cond.methodLink "OwnRainLaw" (152 : Nat) ({ cls := "OwnRain", name := "errors", desc := "(IZ)I" } : Jvm.MethodName)) ∈ gtbl := gq 1304 (by decide +kernel) rfl
theorem q1305 : (Jvm.Cond.instanceMethod ({ cls := "OwnRain", name := "errors", desc := "(IZ)I" } : Jvm.MethodName)) ∈ gtbl := gq 1305 (by decide +kernel) rfl
theorem q1306 : (Jvm.Cond.selects "OwnRain" ({ cls := "OwnRain", name := "errors", desc := "(IZ)I" } : Jvm.MethodName) ({ cls := "OwnRain", name := "errors", desc := "(IZ)I" } : Jvm.MethodName)) ∈ gtbl := gq 1306 (by decide +kernel) rfl
set_option maxRecDepth 100000 in
theorem q1307 : (Jvm.Cond.code ({ cls := "OwnRain", name := "errors", desc := "(IZ)I" } : Jvm.MethodName) prog_1_method_39_code (3 : Nat) (Option.some Jvm.ClassFile.FieldType.int)) ∈ gtbl := gq 1307 rfl rfl
theorem q1308 : (Jvm.Cond.methodLink "OwnRain" (384 : Nat) ({ cls := "OwnRain$Lists", name := "misses", desc := "(I)I" } : Jvm.MethodName)) ∈ gtbl := gq 1308 (by decide +kernel) rfl
theorem q1309 : (Jvm.Cond.instanceMethod ({ cls := "OwnRain$Lists", name := "misses", desc := "(I)I" } : Jvm.MethodName)) ∈ gtbl := gq 1309 (by decide +kernel) rfl
theorem q1310 : (Jvm.Cond.selects "OwnRain$Lists" ({ cls := "OwnRain$Lists", name := "misses", desc := "(I)I" } : Jvm.MethodName) ({ cls := "OwnRain$Lists", name := "misses", desc := "(I)I" } : Jvm.MethodName)) ∈ gtbl := gq 1310 (by decide +kernel) rfl
set_option maxRecDepth 100000 in
theorem q1311 : (Jvm.Cond.code ({ cls := "OwnRain$Lists", name := "misses", desc := "(I)I" } : Jvm.MethodName) prog_3_method_5_code (4 : Nat) (Option.some Jvm.ClassFile.FieldType.int)) ∈ gtbl := gq 1311 rfl rfl
theorem q1312 : (Jvm.Cond.methodLink "OwnRain" (387 : Nat) ({ cls := "OwnRain$Lists", name := "falseAlarms", desc := "(I)I" } : Jvm.MethodName)) ∈ gtbl := gq 1312 (by decide +kernel) rfl
theorem q1313 : (Jvm.Cond.instanceMethod ({ cls := "OwnRain$Lists", name := "falseAlarms", desc := "(I)I" } : Jvm.MethodName)) ∈ gtbl := gq 1313 (by decide +kernel) rfl
theorem q1314 : (Jvm.Cond.selects "OwnRain$Lists" ({ cls := "OwnRain$Lists", name := "falseAlarms", desc := "(I)I" } : Jvm.MethodName) ({ cls := "OwnRain$Lists", name := "falseAlarms", desc := "(I)I" } : Jvm.MethodName)) ∈ gtbl := gq 1314 (by decide +kernel) rfl
set_option maxRecDepth 100000 in
theorem q1315 : (Jvm.Cond.code ({ cls := "OwnRain$Lists", name := "falseAlarms", desc := "(I)I" } : Jvm.MethodName) prog_3_method_6_code (4 : Nat) (Option.some Jvm.ClassFile.FieldType.int)) ∈ gtbl := gq 1315 rfl rfl
theorem q1316 : (Jvm.Cond.methodLink "OwnRainLaw" (156 : Nat) ({ cls := "OwnRain", name := "bound", desc := "()I" } : Jvm.MethodName)) ∈ gtbl := gq 1316 (by decide +kernel) rfl
theorem q1317 : (Jvm.Cond.instanceMethod ({ cls := "OwnRain", name := "bound", desc := "()I" } : Jvm.MethodName)) ∈ gtbl := gq 1317 (by decide +kernel) rfl
theorem q1318 : (Jvm.Cond.selects "OwnRain" ({ cls := "OwnRain", name := "bound", desc := "()I" } : Jvm.MethodName) ({ cls := "OwnRain", name := "bound", desc := "()I" } : Jvm.MethodName)) ∈ gtbl := gq 1318 (by decide +kernel) rfl
set_option maxRecDepth 100000 in
theorem q1319 : (Jvm.Cond.code ({ cls := "OwnRain", name := "bound", desc := "()I" } : Jvm.MethodName) prog_1_method_40_code (4 : Nat) (Option.some Jvm.ClassFile.FieldType.int)) ∈ gtbl := gq 1319 rfl rfl
theorem q1320 : (Jvm.Cond.methodLink "OwnRainLaw" (160 : Nat) ({ cls := "OwnRain", name := "offer", desc := "(ZII)I" } : Jvm.MethodName)) ∈ gtbl := gq 1320 (by decide +kernel) rfl
theorem q1321 : (Jvm.Cond.instanceMethod ({ cls := "OwnRain", name := "offer", desc := "(ZII)I" } : Jvm.MethodName)) ∈ gtbl := gq 1321 (by decide +kernel) rfl
theorem q1322 : (Jvm.Cond.selects "OwnRain" ({ cls := "OwnRain", name := "offer", desc := "(ZII)I" } : Jvm.MethodName) ({ cls := "OwnRain", name := "offer", desc := "(ZII)I" } : Jvm.MethodName)) ∈ gtbl := gq 1322 (by decide +kernel) rfl
set_option maxRecDepth 100000 in
theorem q1323 : (Jvm.Cond.code ({ cls := "OwnRain", name := "offer", desc := "(ZII)I" } : Jvm.MethodName) prog_1_method_41_code (5 : Nat) (Option.some Jvm.ClassFile.FieldType.int)) ∈ gtbl := gq 1323 rfl rfl
theorem q1324 : (Jvm.Cond.methodLink "OwnRain" (393 : Nat) ({ cls := "OwnRain$Lists", name := "addOffer", desc := "(ZII)I" } : Jvm.MethodName)) ∈ gtbl := gq 1324 (by decide +kernel) rfl
theorem q1325 : (Jvm.Cond.instanceMethod ({ cls := "OwnRain$Lists", name := "addOffer", desc := "(ZII)I" } : Jvm.MethodName)) ∈ gtbl := gq 1325 (by decide +kernel) rfl
theorem q1326 : (Jvm.Cond.selects "OwnRain$Lists" ({ cls := "OwnRain$Lists", name := "addOffer", desc := "(ZII)I" } : Jvm.MethodName) ({ cls := "OwnRain$Lists", name := "addOffer", desc := "(ZII)I" } : Jvm.MethodName)) ∈ gtbl := gq 1326 (by decide +kernel) rfl
set_option maxRecDepth 100000 in
theorem q1327 : (Jvm.Cond.code ({ cls := "OwnRain$Lists", name := "addOffer", desc := "(ZII)I" } : Jvm.MethodName) prog_3_method_4_code (4 : Nat) (Option.some Jvm.ClassFile.FieldType.int)) ∈ gtbl := gq 1327 rfl rfl
theorem q1328 : (Jvm.Cond.methodLink "OwnRainLaw" (165 : Nat) ({ cls := "OwnRain", name := "market", desc := "(I)I" } : Jvm.MethodName)) ∈ gtbl := gq 1328 (by decide +kernel) rfl
theorem q1329 : (Jvm.Cond.instanceMethod ({ cls := "OwnRain", name := "market", desc := "(I)I" } : Jvm.MethodName)) ∈ gtbl := gq 1329 (by decide +kernel) rfl
theorem q1330 : (Jvm.Cond.selects "OwnRain" ({ cls := "OwnRain", name := "market", desc := "(I)I" } : Jvm.MethodName) ({ cls := "OwnRain", name := "market", desc := "(I)I" } : Jvm.MethodName)) ∈ gtbl := gq 1330 (by decide +kernel) rfl
set_option maxRecDepth 100000 in
theorem q1331 : (Jvm.Cond.code ({ cls := "OwnRain", name := "market", desc := "(I)I" } : Jvm.MethodName) prog_1_method_42_code (4 : Nat) (Option.some Jvm.ClassFile.FieldType.int)) ∈ gtbl := gq 1331 rfl rfl
theorem q1332 : (Jvm.Cond.methodLink "OwnRain" (397 : Nat) ({ cls := "OwnRain$Lists", name := "traded", desc := "(I)I" } : Jvm.MethodName)) ∈ gtbl := gq 1332 (by decide +kernel) rfl
theorem q1333 : (Jvm.Cond.instanceMethod ({ cls := "OwnRain$Lists", name := "traded", desc := "(I)I" } : Jvm.MethodName)) ∈ gtbl := gq 1333 (by decide +kernel) rfl
theorem q1334 : (Jvm.Cond.selects "OwnRain$Lists" ({ cls := "OwnRain$Lists", name := "traded", desc := "(I)I" } : Jvm.MethodName) ({ cls := "OwnRain$Lists", name := "traded", desc := "(I)I" } : Jvm.MethodName)) ∈ gtbl := gq 1334 (by decide +kernel) rfl
set_option maxRecDepth 100000 in
theorem q1335 : (Jvm.Cond.code ({ cls := "OwnRain$Lists", name := "traded", desc := "(I)I" } : Jvm.MethodName) prog_3_method_7_code (5 : Nat) (Option.some Jvm.ClassFile.FieldType.int)) ∈ gtbl := gq 1335 rfl rfl
theorem q1336 : (Jvm.Cond.methodLink "OwnRain$Lists" (47 : Nat) ({ cls := "java/lang/Math", name := "min", desc := "(II)I" } : Jvm.MethodName)) ∈ gtbl := gq 1336 (by decide +kernel) rfl
theorem q1337 : (Jvm.Cond.methodLink "OwnRainLaw" (169 : Nat) ({ cls := "OwnRain", name := "greatestTax", desc := "(I)I" } : Jvm.MethodName)) ∈ gtbl := gq 1337 (by decide +kernel) rfl
theorem q1338 : (Jvm.Cond.instanceMethod ({ cls := "OwnRain", name := "greatestTax", desc := "(I)I" } : Jvm.MethodName)) ∈ gtbl := gq 1338 (by decide +kernel) rfl
theorem q1339 : (Jvm.Cond.selects "OwnRain" ({ cls := "OwnRain", name := "greatestTax", desc := "(I)I" } : Jvm.MethodName) ({ cls := "OwnRain", name := "greatestTax", desc := "(I)I" } : Jvm.MethodName)) ∈ gtbl := gq 1339 (by decide +kernel) rfl
set_option maxRecDepth 100000 in
theorem q1340 : (Jvm.Cond.code ({ cls := "OwnRain", name := "greatestTax", desc := "(I)I" } : Jvm.MethodName) prog_1_method_43_code (2 : Nat) (Option.some Jvm.ClassFile.FieldType.int)) ∈ gtbl := gq 1340 rfl rfl
theorem q1341 : (Jvm.Cond.methodLink "OwnRain" (400 : Nat) ({ cls := "OwnRain$Planner", name := "harmlessTax", desc := "(I)I" } : Jvm.MethodName)) ∈ gtbl := gq 1341 (by decide +kernel) rfl
theorem q1342 : (Jvm.Cond.instanceMethod ({ cls := "OwnRain$Planner", name := "harmlessTax", desc := "(I)I" } : Jvm.MethodName)) ∈ gtbl := gq 1342 (by decide +kernel) rfl
theorem q1343 : (Jvm.Cond.selects "OwnRain$Planner" ({ cls := "OwnRain$Planner", name := "harmlessTax", desc := "(I)I" } : Jvm.MethodName) ({ cls := "OwnRain$Planner", name := "harmlessTax", desc := "(I)I" } : Jvm.MethodName)) ∈ gtbl := gq 1343 (by decide +kernel) rfl
set_option maxRecDepth 100000 in
theorem q1344 : (Jvm.Cond.code ({ cls := "OwnRain$Planner", name := "harmlessTax", desc := "(I)I" } : Jvm.MethodName) prog_4_method_7_code (4 : Nat) (Option.some Jvm.ClassFile.FieldType.int)) ∈ gtbl := gq 1344 rfl rfl
theorem q1345 : (Jvm.Cond.methodLink "OwnRain$Planner" (113 : Nat) ({ cls := "OwnRain$Planner", name := "foretell", desc := "(I)LOwnRain$World;" } : Jvm.MethodName)) ∈ gtbl := gq 1345 (by decide +kernel) rfl
theorem q1346 : (Jvm.Cond.methodLink "OwnRain$Planner" (118 : Nat) ({ cls := "OwnRain$Planner", name := "growsAsMuch", desc := "(LOwnRain$World;)Z" } : Jvm.MethodName)) ∈ gtbl := gq 1346 (by decide +kernel) rfl
theorem q1348 : (Jvm.Cond.instanceMethod ({ cls := "OwnRain$Planner", name := "growsAsMuch", desc := "(LOwnRain$World;)Z" } : Jvm.MethodName)) ∈ gtbl := gq 1348 (by decide +kernel) rfl
set_option maxRecDepth 100000 in
theorem q1349 : (Jvm.Cond.code ({ cls := "OwnRain$Planner", name := "growsAsMuch", desc := "(LOwnRain$World;)Z" } : Jvm.MethodName) prog_4_method_8_code (3 : Nat) (Option.some Jvm.ClassFile.FieldType.boolean)) ∈ gtbl := gq 1349 rfl rfl
theorem q1350 : (Jvm.Cond.methodLink "OwnRainLaw" (173 : Nat) ({ cls := "OwnRain", name := "water", desc := "()I" } : Jvm.MethodName)) ∈ gtbl := gq 1350 (by decide +kernel) rfl
theorem q1351 : (Jvm.Cond.instanceMethod ({ cls := "OwnRain", name := "water", desc := "()I" } : Jvm.MethodName)) ∈ gtbl := gq 1351 (by decide +kernel) rfl
theorem q1352 : (Jvm.Cond.selects "OwnRain" ({ cls := "OwnRain", name := "water", desc := "()I" } : Jvm.MethodName) ({ cls := "OwnRain", name := "water", desc := "()I" } : Jvm.MethodName)) ∈ gtbl := gq 1352 (by decide +kernel) rfl
set_option maxRecDepth 100000 in
theorem q1353 : (Jvm.Cond.code ({ cls := "OwnRain", name := "water", desc := "()I" } : Jvm.MethodName) prog_1_method_44_code (4 : Nat) (Option.some Jvm.ClassFile.FieldType.int)) ∈ gtbl := gq 1353 rfl rfl
theorem q1354 : (Jvm.Cond.methodLink "OwnRainLaw" (177 : Nat) ({ cls := "OwnRain", name := "image", desc := "()I" } : Jvm.MethodName)) ∈ gtbl := gq 1354 (by decide +kernel) rfl
theorem q1355 : (Jvm.Cond.instanceMethod ({ cls := "OwnRain", name := "image", desc := "()I" } : Jvm.MethodName)) ∈ gtbl := gq 1355 (by decide +kernel) rfl
theorem q1356 : (Jvm.Cond.selects "OwnRain" ({ cls := "OwnRain", name := "image", desc := "()I" } : Jvm.MethodName) ({ cls := "OwnRain", name := "image", desc := "()I" } : Jvm.MethodName)) ∈ gtbl := gq 1356 (by decide +kernel) rfl
set_option maxRecDepth 100000 in
theorem q1357 : (Jvm.Cond.code ({ cls := "OwnRain", name := "image", desc := "()I" } : Jvm.MethodName) prog_1_method_45_code (1 : Nat) (Option.some Jvm.ClassFile.FieldType.int)) ∈ gtbl := gq 1357 rfl rfl
theorem q1358 : (Jvm.Cond.methodLink "OwnRain" (409 : Nat) ({ cls := "OwnRain$State", name := "copyFrom", desc := "(LOwnRain$State;)V" } : Jvm.MethodName)) ∈ gtbl := gq 1358 (by decide +kernel) rfl
theorem q1359 : (Jvm.Cond.instanceMethod ({ cls := "OwnRain$State", name := "copyFrom", desc := "(LOwnRain$State;)V" } : Jvm.MethodName)) ∈ gtbl := gq 1359 (by decide +kernel) rfl
theorem q1360 : (Jvm.Cond.selects "OwnRain$State" ({ cls := "OwnRain$State", name := "copyFrom", desc := "(LOwnRain$State;)V" } : Jvm.MethodName) ({ cls := "OwnRain$State", name := "copyFrom", desc := "(LOwnRain$State;)V" } : Jvm.MethodName)) ∈ gtbl := gq 1360 (by decide +kernel) rfl
set_option maxRecDepth 100000 in
theorem q1361 : (Jvm.Cond.code ({ cls := "OwnRain$State", name := "copyFrom", desc := "(LOwnRain$State;)V" } : Jvm.MethodName) prog_6_method_10_code (3 : Nat) (Option.none : Option Jvm.ClassFile.FieldType)) ∈ gtbl := gq 1361 rfl rfl
theorem q1362 : (Jvm.Cond.methodLink "OwnRain$State" (104 : Nat) ({ cls := "OwnRain$Land", name := "copyFrom", desc := "(LOwnRain$Land;)V" } : Jvm.MethodName)) ∈ gtbl := gq 1362 (by decide +kernel) rfl
theorem q1363 : (Jvm.Cond.instanceMethod ({ cls := "OwnRain$Land", name := "copyFrom", desc := "(LOwnRain$Land;)V" } : Jvm.MethodName)) ∈ gtbl := gq 1363 (by decide +kernel) rfl
theorem q1364 : (Jvm.Cond.selects "OwnRain$Land" ({ cls := "OwnRain$Land", name := "copyFrom", desc := "(LOwnRain$Land;)V" } : Jvm.MethodName) ({ cls := "OwnRain$Land", name := "copyFrom", desc := "(LOwnRain$Land;)V" } : Jvm.MethodName)) ∈ gtbl := gq 1364 (by decide +kernel) rfl
set_option maxRecDepth 100000 in
theorem q1365 : (Jvm.Cond.code ({ cls := "OwnRain$Land", name := "copyFrom", desc := "(LOwnRain$Land;)V" } : Jvm.MethodName) prog_2_method_8_code (2 : Nat) (Option.none : Option Jvm.ClassFile.FieldType)) ∈ gtbl := gq 1365 rfl rfl
theorem q1366 : (Jvm.Cond.methodLink "OwnRain$Land" (43 : Nat) ({ cls := "java/lang/System", name := "arraycopy", desc := "(Ljava/lang/Object;ILjava/lang/Object;II)V" } : Jvm.MethodName)) ∈ gtbl := gq 1366 (by decide +kernel) rfl
theorem q1367 : (Jvm.Cond.methodLink "OwnRain$State" (108 : Nat) ({ cls := "OwnRain$World", name := "copyFrom", desc := "(LOwnRain$World;)V" } : Jvm.MethodName)) ∈ gtbl := gq 1367 (by decide +kernel) rfl
theorem q1368 : (Jvm.Cond.methodLink "OwnRain$State" (111 : Nat) ({ cls := "OwnRain$Steps", name := "copyFrom", desc := "(LOwnRain$Steps;)V" } : Jvm.MethodName)) ∈ gtbl := gq 1368 (by decide +kernel) rfl
theorem q1369 : (Jvm.Cond.instanceMethod ({ cls := "OwnRain$Steps", name := "copyFrom", desc := "(LOwnRain$Steps;)V" } : Jvm.MethodName)) ∈ gtbl := gq 1369 (by decide +kernel) rfl
theorem q1370 : (Jvm.Cond.selects "OwnRain$Steps" ({ cls := "OwnRain$Steps", name := "copyFrom", desc := "(LOwnRain$Steps;)V" } : Jvm.MethodName) ({ cls := "OwnRain$Steps", name := "copyFrom", desc := "(LOwnRain$Steps;)V" } : Jvm.MethodName)) ∈ gtbl := gq 1370 (by decide +kernel) rfl
set_option maxRecDepth 100000 in
theorem q1371 : (Jvm.Cond.code ({ cls := "OwnRain$Steps", name := "copyFrom", desc := "(LOwnRain$Steps;)V" } : Jvm.MethodName) prog_7_method_4_code (3 : Nat) (Option.none : Option Jvm.ClassFile.FieldType)) ∈ gtbl := gq 1371 rfl rfl
theorem q1372 : (Jvm.Cond.methodLink "OwnRain$State" (114 : Nat) ({ cls := "OwnRain$Lists", name := "copyFrom", desc := "(LOwnRain$Lists;)V" } : Jvm.MethodName)) ∈ gtbl := gq 1372 (by decide +kernel) rfl
theorem q1373 : (Jvm.Cond.instanceMethod ({ cls := "OwnRain$Lists", name := "copyFrom", desc := "(LOwnRain$Lists;)V" } : Jvm.MethodName)) ∈ gtbl := gq 1373 (by decide +kernel) rfl
theorem q1374 : (Jvm.Cond.selects "OwnRain$Lists" ({ cls := "OwnRain$Lists", name := "copyFrom", desc := "(LOwnRain$Lists;)V" } : Jvm.MethodName) ({ cls := "OwnRain$Lists", name := "copyFrom", desc := "(LOwnRain$Lists;)V" } : Jvm.MethodName)) ∈ gtbl := gq 1374 (by decide +kernel) rfl
set_option maxRecDepth 100000 in
theorem q1375 : (Jvm.Cond.code ({ cls := "OwnRain$Lists", name := "copyFrom", desc := "(LOwnRain$Lists;)V" } : Jvm.MethodName) prog_3_method_8_code (3 : Nat) (Option.none : Option Jvm.ClassFile.FieldType)) ∈ gtbl := gq 1375 rfl rfl
theorem q1376 : (Jvm.Cond.methodLink "OwnRain$Lists" (53 : Nat) ({ cls := "java/lang/System", name := "arraycopy", desc := "(Ljava/lang/Object;ILjava/lang/Object;II)V" } : Jvm.MethodName)) ∈ gtbl := gq 1376 (by decide +kernel) rfl
theorem q1377 : (Jvm.Cond.methodLink "OwnRainLaw" (181 : Nat) ({ cls := "OwnRain", name := "back", desc := "()I" } : Jvm.MethodName)) ∈ gtbl := gq 1377 (by decide +kernel) rfl
theorem q1378 : (Jvm.Cond.instanceMethod ({ cls := "OwnRain", name := "back", desc := "()I" } : Jvm.MethodName)) ∈ gtbl := gq 1378 (by decide +kernel) rfl
theorem q1379 : (Jvm.Cond.selects "OwnRain" ({ cls := "OwnRain", name := "back", desc := "()I" } : Jvm.MethodName) ({ cls := "OwnRain", name := "back", desc := "()I" } : Jvm.MethodName)) ∈ gtbl := gq 1379 (by decide +kernel) rfl
set_option maxRecDepth 100000 in
theorem q1380 : (Jvm.Cond.code ({ cls := "OwnRain", name := "back", desc := "()I" } : Jvm.MethodName) prog_1_method_46_code (1 : Nat) (Option.some Jvm.ClassFile.FieldType.int)) ∈ gtbl := gq 1380 rfl rfl
theorem q1381 : (Jvm.Cond.methodLink "OwnRainLaw" (185 : Nat) ({ cls := "OwnRain", name := "about", desc := "(I)I" } : Jvm.MethodName)) ∈ gtbl := gq 1381 (by decide +kernel) rfl
theorem q1382 : (Jvm.Cond.instanceMethod ({ cls := "OwnRain", name := "about", desc := "(I)I" } : Jvm.MethodName)) ∈ gtbl := gq 1382 (by decide +kernel) rfl
theorem q1383 : (Jvm.Cond.selects "OwnRain" ({ cls := "OwnRain", name := "about", desc := "(I)I" } : Jvm.MethodName) ({ cls := "OwnRain", name := "about", desc := "(I)I" } : Jvm.MethodName)) ∈ gtbl := gq 1383 (by decide +kernel) rfl
set_option maxRecDepth 100000 in
theorem q1384 : (Jvm.Cond.code ({ cls := "OwnRain", name := "about", desc := "(I)I" } : Jvm.MethodName) prog_1_method_47_code (3 : Nat) (Option.some Jvm.ClassFile.FieldType.int)) ∈ gtbl := gq 1384 rfl rfl
theorem q1385 : (Jvm.Cond.classLink "OwnRainLaw" (10 : Nat) "OwnRainModel") ∈ gtbl := gq 1385 (by decide +kernel) rfl
theorem q1386 : (Jvm.Cond.instantiable "OwnRainModel" (53 : Nat)) ∈ gtbl := gq 1386 (by decide +kernel) rfl
theorem q1387 : (Jvm.Cond.methodLink "OwnRainLaw" (12 : Nat) ({ cls := "OwnRainModel", name := "<init>", desc := "()V" } : Jvm.MethodName)) ∈ gtbl := gq 1387 (by decide +kernel) rfl
theorem q1388 : (Jvm.Cond.instanceMethod ({ cls := "OwnRainModel", name := "<init>", desc := "()V" } : Jvm.MethodName)) ∈ gtbl := gq 1388 (by decide +kernel) rfl
set_option maxRecDepth 100000 in
theorem q1389 : (Jvm.Cond.code ({ cls := "OwnRainModel", name := "<init>", desc := "()V" } : Jvm.MethodName) prog_14_method_1_code (2 : Nat) (Option.none : Option Jvm.ClassFile.FieldType)) ∈ gtbl := gq 1389 rfl rfl
theorem q1390 : (Jvm.Cond.methodLink "OwnRainModel" (1 : Nat) ({ cls := "java/lang/Object", name := "<init>", desc := "()V" } : Jvm.MethodName)) ∈ gtbl := gq 1390 (by decide +kernel) rfl
theorem q1391 : (Jvm.Cond.methodLink "OwnRainModel" (109 : Nat) ({ cls := "OwnRainModel", name := "copy", desc := "([I[I)V" } : Jvm.MethodName)) ∈ gtbl := gq 1391 (by decide +kernel) rfl
theorem q1392 : (Jvm.Cond.static ({ cls := "OwnRainModel", name := "copy", desc := "([I[I)V" } : Jvm.MethodName)) ∈ gtbl := gq 1392 (by decide +kernel) rfl
set_option maxRecDepth 100000 in
theorem q1393 : (Jvm.Cond.code ({ cls := "OwnRainModel", name := "copy", desc := "([I[I)V" } : Jvm.MethodName) prog_14_method_2_code (3 : Nat) (Option.none : Option Jvm.ClassFile.FieldType)) ∈ gtbl := gq 1393 rfl rfl
theorem q1394 : (Jvm.Cond.fieldLink "OwnRainModel" (7 : Nat) "OwnRainModel" "a" "[I") ∈ gtbl := gq 1394 (by decide +kernel) rfl
theorem q1395 : (Jvm.Cond.fieldLink "OwnRainModel" (13 : Nat) "OwnRainModel" "image" "[I") ∈ gtbl := gq 1395 (by decide +kernel) rfl
theorem q1396 : (Jvm.Cond.fieldLink "OwnRainModel" (16 : Nat) "OwnRainModel" "texts" "[I") ∈ gtbl := gq 1396 (by decide +kernel) rfl
theorem q1397 : (Jvm.Cond.fieldLink "OwnRainModel" (19 : Nat) "OwnRainModel" "tape" "[I") ∈ gtbl := gq 1397 (by decide +kernel) rfl
theorem q1398 : (Jvm.Cond.fieldLink "OwnRainModel" (133 : Nat) "OwnRainModel" "taped" "I") ∈ gtbl := gq 1398 (by decide +kernel) rfl
theorem q1399 : (Jvm.Cond.fieldLink "OwnRainModel" (22 : Nat) "OwnRainModel" "fault" "I") ∈ gtbl := gq 1399 (by decide +kernel) rfl
theorem q1400 : (Jvm.Cond.fieldLink "OwnRainModel" (26 : Nat) "OwnRainModel" "faultPlace" "I") ∈ gtbl := gq 1400 (by decide +kernel) rfl
theorem q1401 : (Jvm.Cond.fieldLink "OwnRainModel" (140 : Nat) "OwnRainModel" "at" "I") ∈ gtbl := gq 1401 (by decide +kernel) rfl
theorem q1402 : (Jvm.Cond.fieldLink "OwnRainModel" (147 : Nat) "OwnRainModel" "place" "I") ∈ gtbl := gq 1402 (by decide +kernel) rfl
theorem q1403 : (Jvm.Cond.fieldLink "OwnRainModel" (150 : Nat) "OwnRainModel" "token" "I") ∈ gtbl := gq 1403 (by decide +kernel) rfl
theorem q1404 : (Jvm.Cond.fieldLink "OwnRainModel" (156 : Nat) "OwnRainModel" "number" "I") ∈ gtbl := gq 1404 (by decide +kernel) rfl
theorem q1405 : (Jvm.Cond.fieldLink "OwnRainModel" (163 : Nat) "OwnRainModel" "word" "J") ∈ gtbl := gq 1405 (by decide +kernel) rfl
theorem q1406 : (Jvm.Cond.fieldLink "OwnRainModel" (188 : Nat) "OwnRainModel" "text0" "I") ∈ gtbl := gq 1406 (by decide +kernel) rfl
theorem q1407 : (Jvm.Cond.fieldLink "OwnRainModel" (191 : Nat) "OwnRainModel" "written" "I") ∈ gtbl := gq 1407 (by decide +kernel) rfl
theorem q1408 : (Jvm.Cond.fieldLink "OwnRainModel" (194 : Nat) "OwnRainModel" "sort0" "I") ∈ gtbl := gq 1408 (by decide +kernel) rfl
theorem q1409 : (Jvm.Cond.fieldLink "OwnRainModel" (29 : Nat) "OwnRainModel" "pile" "[I") ∈ gtbl := gq 1409 (by decide +kernel) rfl
theorem q1410 : (Jvm.Cond.fieldLink "OwnRainModel" (32 : Nat) "OwnRainModel" "begins" "[I") ∈ gtbl := gq 1410 (by decide +kernel) rfl
theorem q1411 : (Jvm.Cond.fieldLink "OwnRainModel" (200 : Nat) "OwnRainModel" "piled" "I") ∈ gtbl := gq 1411 (by decide +kernel) rfl
theorem q1412 : (Jvm.Cond.fieldLink "OwnRainModel" (210 : Nat) "OwnRainModel" "opens" "I") ∈ gtbl := gq 1412 (by decide +kernel) rfl
theorem q1413 : (Jvm.Cond.fieldLink "OwnRainModel" (197 : Nat) "OwnRainModel" "inner" "I") ∈ gtbl := gq 1413 (by decide +kernel) rfl
theorem q1414 : (Jvm.Cond.fieldLink "OwnRainModel" (226 : Nat) "OwnRainModel" "isWhole" "Z") ∈ gtbl := gq 1414 (by decide +kernel) rfl
theorem q1415 : (Jvm.Cond.fieldLink "OwnRainModel" (296 : Nat) "OwnRainModel" "once" "I") ∈ gtbl := gq 1415 (by decide +kernel) rfl
theorem q1416 : (Jvm.Cond.fieldLink "OwnRainModel" (35 : Nat) "OwnRainModel" "named" "[I") ∈ gtbl := gq 1416 (by decide +kernel) rfl
theorem q1417 : (Jvm.Cond.fieldLink "OwnRainModel" (322 : Nat) "OwnRainModel" "here" "I") ∈ gtbl := gq 1417 (by decide +kernel) rfl
theorem q1418 : (Jvm.Cond.fieldLink "OwnRainModel" (38 : Nat) "OwnRainModel" "alone" "I") ∈ gtbl := gq 1418 (by decide +kernel) rfl
theorem q1419 : (Jvm.Cond.fieldLink "OwnRainModel" (41 : Nat) "OwnRainModel" "values" "[J") ∈ gtbl := gq 1419 (by decide +kernel) rfl
theorem q1420 : (Jvm.Cond.fieldLink "OwnRainModel" (45 : Nat) "OwnRainModel" "truth" "[Z") ∈ gtbl := gq 1420 (by decide +kernel) rfl
theorem q1421 : (Jvm.Cond.fieldLink "OwnRainModel" (49 : Nat) "OwnRainModel" "sums" "[J") ∈ gtbl := gq 1421 (by decide +kernel) rfl
theorem q1422 : (Jvm.Cond.fieldLink "OwnRainModel" (52 : Nat) "OwnRainModel" "within" "[I") ∈ gtbl := gq 1422 (by decide +kernel) rfl
theorem q1423 : (Jvm.Cond.fieldLink "OwnRainModel" (55 : Nat) "OwnRainModel" "ahead" "[I") ∈ gtbl := gq 1423 (by decide +kernel) rfl
theorem q1424 : (Jvm.Cond.fieldLink "OwnRainModel" (316 : Nat) "OwnRainModel" "named0" "I") ∈ gtbl := gq 1424 (by decide +kernel) rfl
theorem q1425 : (Jvm.Cond.fieldLink "OwnRainModel" (325 : Nat) "OwnRainModel" "deep" "I") ∈ gtbl := gq 1425 (by decide +kernel) rfl
theorem q1426 : (Jvm.Cond.fieldLink "OwnRainModel" (58 : Nat) "OwnRainModel" "eachAt" "[I") ∈ gtbl := gq 1426 (by decide +kernel) rfl
theorem q1427 : (Jvm.Cond.fieldLink "OwnRainModel" (61 : Nat) "OwnRainModel" "wholeOf" "[J") ∈ gtbl := gq 1427 (by decide +kernel) rfl
theorem q1428 : (Jvm.Cond.fieldLink "OwnRainModel" (64 : Nat) "OwnRainModel" "wholeIn" "[I") ∈ gtbl := gq 1428 (by decide +kernel) rfl
theorem q1429 : (Jvm.Cond.fieldLink "OwnRainModel" (334 : Nat) "OwnRainModel" "asking" "I") ∈ gtbl := gq 1429 (by decide +kernel) rfl
theorem q1430 : (Jvm.Cond.fieldLink "OwnRainModel" (351 : Nat) "OwnRainModel" "hourNow" "I") ∈ gtbl := gq 1430 (by decide +kernel) rfl
theorem q1431 : (Jvm.Cond.fieldLink "OwnRainModel" (67 : Nat) "OwnRainModel" "taxNow" "I") ∈ gtbl := gq 1431 (by decide +kernel) rfl
theorem q1432 : (Jvm.Cond.fieldLink "OwnRainModel" (367 : Nat) "OwnRainModel" "isWritten" "Z") ∈ gtbl := gq 1432 (by decide +kernel) rfl
theorem q1433 : (Jvm.Cond.fieldLink "OwnRainModel" (70 : Nat) "OwnRainModel" "firstRain" "[I") ∈ gtbl := gq 1433 (by decide +kernel) rfl
theorem q1434 : (Jvm.Cond.fieldLink "OwnRainModel" (373 : Nat) "OwnRainModel" "hoursGone" "I") ∈ gtbl := gq 1434 (by decide +kernel) rfl
theorem q1435 : (Jvm.Cond.fieldLink "OwnRainModel" (73 : Nat) "OwnRainModel" "aside" "[I") ∈ gtbl := gq 1435 (by decide +kernel) rfl
theorem q1436 : (Jvm.Cond.fieldLink "OwnRainModel" (76 : Nat) "OwnRainModel" "plans" "[I") ∈ gtbl := gq 1436 (by decide +kernel) rfl
theorem q1437 : (Jvm.Cond.fieldLink "OwnRainModel" (79 : Nat) "OwnRainModel" "worker" "[I") ∈ gtbl := gq 1437 (by decide +kernel) rfl
theorem q1438 : (Jvm.Cond.fieldLink "OwnRainModel" (82 : Nat) "OwnRainModel" "ground" "[I") ∈ gtbl := gq 1438 (by decide +kernel) rfl
theorem q1439 : (Jvm.Cond.fieldLink "OwnRainModel" (85 : Nat) "OwnRainModel" "yields" "[I") ∈ gtbl := gq 1439 (by decide +kernel) rfl
theorem q1440 : (Jvm.Cond.fieldLink "OwnRainModel" (88 : Nat) "OwnRainModel" "order" "[I") ∈ gtbl := gq 1440 (by decide +kernel) rfl
theorem q1441 : (Jvm.Cond.fieldLink "OwnRainModel" (91 : Nat) "OwnRainModel" "bestOrder" "[I") ∈ gtbl := gq 1441 (by decide +kernel) rfl
theorem q1442 : (Jvm.Cond.fieldLink "OwnRainModel" (94 : Nat) "OwnRainModel" "given" "[I") ∈ gtbl := gq 1442 (by decide +kernel) rfl
theorem q1443 : (Jvm.Cond.fieldLink "OwnRainModel" (97 : Nat) "OwnRainModel" "left" "[I") ∈ gtbl := gq 1443 (by decide +kernel) rfl
theorem q1444 : (Jvm.Cond.fieldLink "OwnRainModel" (100 : Nat) "OwnRainModel" "roads" "[I") ∈ gtbl := gq 1444 (by decide +kernel) rfl
theorem q1445 : (Jvm.Cond.fieldLink "OwnRainModel" (103 : Nat) "OwnRainModel" "hot" "[J") ∈ gtbl := gq 1445 (by decide +kernel) rfl
theorem q1446 : (Jvm.Cond.fieldLink "OwnRainModel" (106 : Nat) "OwnRainModel" "grows" "[I") ∈ gtbl := gq 1446 (by decide +kernel) rfl
theorem q1554 : (Jvm.Cond.methodLink "OwnRainLaw" (17 : Nat) ({ cls := "OwnRainModel", name := "field", desc := "(III)I" } : Jvm.MethodName)) ∈ gtbl := gq 1554 (by decide +kernel) rfl
theorem q1555 : (Jvm.Cond.instanceMethod ({ cls := "OwnRainModel", name := "field", desc := "(III)I" } : Jvm.MethodName)) ∈ gtbl := gq 1555 (by decide +kernel) rfl
theorem q1556 : (Jvm.Cond.selects "OwnRainModel" ({ cls := "OwnRainModel", name := "field", desc := "(III)I" } : Jvm.MethodName) ({ cls := "OwnRainModel", name := "field", desc := "(III)I" } : Jvm.MethodName)) ∈ gtbl := gq 1556 (by decide +kernel) rfl
set_option maxRecDepth 100000 in
theorem q1557 : (Jvm.Cond.code ({ cls := "OwnRainModel", name := "field", desc := "(III)I" } : Jvm.MethodName) prog_14_method_13_code (6 : Nat) (Option.some Jvm.ClassFile.FieldType.int)) ∈ gtbl := gq 1557 rfl rfl
theorem q1558 : (Jvm.Cond.methodLink "OwnRainModel" (113 : Nat) ({ cls := "OwnRainModel", name := "isIn", desc := "(III)Z" } : Jvm.MethodName)) ∈ gtbl := gq 1558 (by decide +kernel) rfl
theorem q1559 : (Jvm.Cond.static ({ cls := "OwnRainModel", name := "isIn", desc := "(III)Z" } : Jvm.MethodName)) ∈ gtbl := gq 1559 (by decide +kernel) rfl
set_option maxRecDepth 100000 in
theorem q1560 : (Jvm.Cond.code ({ cls := "OwnRainModel", name := "isIn", desc := "(III)Z" } : Jvm.MethodName) prog_14_method_3_code (3 : Nat) (Option.some Jvm.ClassFile.FieldType.boolean)) ∈ gtbl := gq 1560 rfl rfl
theorem q1561 : (Jvm.Cond.methodLink "OwnRainLaw" (22 : Nat) ({ cls := "OwnRainModel", name := "road", desc := "(II)Z" } : Jvm.MethodName)) ∈ gtbl := gq 1561 (by decide +kernel) rfl
theorem q1562 : (Jvm.Cond.instanceMethod ({ cls := "OwnRainModel", name := "road", desc := "(II)Z" } : Jvm.MethodName)) ∈ gtbl := gq 1562 (by decide +kernel) rfl
theorem q1563 : (Jvm.Cond.selects "OwnRainModel" ({ cls := "OwnRainModel", name := "road", desc := "(II)Z" } : Jvm.MethodName) ({ cls := "OwnRainModel", name := "road", desc := "(II)Z" } : Jvm.MethodName)) ∈ gtbl := gq 1563 (by decide +kernel) rfl
set_option maxRecDepth 100000 in
theorem q1564 : (Jvm.Cond.code ({ cls := "OwnRainModel", name := "road", desc := "(II)Z" } : Jvm.MethodName) prog_14_method_14_code (3 : Nat) (Option.some Jvm.ClassFile.FieldType.boolean)) ∈ gtbl := gq 1564 rfl rfl
theorem q1565 : (Jvm.Cond.methodLink "OwnRainModel" (117 : Nat) ({ cls := "OwnRainModel", name := "isField", desc := "(I)Z" } : Jvm.MethodName)) ∈ gtbl := gq 1565 (by decide +kernel) rfl
theorem q1567 : (Jvm.Cond.instanceMethod ({ cls := "OwnRainModel", name := "isField", desc := "(I)Z" } : Jvm.MethodName)) ∈ gtbl := gq 1567 (by decide +kernel) rfl
set_option maxRecDepth 100000 in
theorem q1568 : (Jvm.Cond.code ({ cls := "OwnRainModel", name := "isField", desc := "(I)Z" } : Jvm.MethodName) prog_14_method_6_code (2 : Nat) (Option.some Jvm.ClassFile.FieldType.boolean)) ∈ gtbl := gq 1568 rfl rfl
theorem q1569 : (Jvm.Cond.methodLink "OwnRainModel" (121 : Nat) ({ cls := "OwnRainModel", name := "fieldOf", desc := "(II)I" } : Jvm.MethodName)) ∈ gtbl := gq 1569 (by decide +kernel) rfl
theorem q1571 : (Jvm.Cond.instanceMethod ({ cls := "OwnRainModel", name := "fieldOf", desc := "(II)I" } : Jvm.MethodName)) ∈ gtbl := gq 1571 (by decide +kernel) rfl
set_option maxRecDepth 100000 in
theorem q1572 : (Jvm.Cond.code ({ cls := "OwnRainModel", name := "fieldOf", desc := "(II)I" } : Jvm.MethodName) prog_14_method_8_code (3 : Nat) (Option.some Jvm.ClassFile.FieldType.int)) ∈ gtbl := gq 1572 rfl rfl
theorem q1573 : (Jvm.Cond.methodLink "OwnRainModel" (125 : Nat) ({ cls := "OwnRainModel", name := "has", desc := "(II)Z" } : Jvm.MethodName)) ∈ gtbl := gq 1573 (by decide +kernel) rfl
theorem q1574 : (Jvm.Cond.static ({ cls := "OwnRainModel", name := "has", desc := "(II)Z" } : Jvm.MethodName)) ∈ gtbl := gq 1574 (by decide +kernel) rfl
set_option maxRecDepth 100000 in
theorem q1575 : (Jvm.Cond.code ({ cls := "OwnRainModel", name := "has", desc := "(II)Z" } : Jvm.MethodName) prog_14_method_4_code (2 : Nat) (Option.some Jvm.ClassFile.FieldType.boolean)) ∈ gtbl := gq 1575 rfl rfl
theorem q1576 : (Jvm.Cond.methodLink "OwnRainLaw" (27 : Nat) ({ cls := "OwnRainModel", name := "person", desc := "(IIII)I" } : Jvm.MethodName)) ∈ gtbl := gq 1576 (by decide +kernel) rfl
theorem q1577 : (Jvm.Cond.instanceMethod ({ cls := "OwnRainModel", name := "person", desc := "(IIII)I" } : Jvm.MethodName)) ∈ gtbl := gq 1577 (by decide +kernel) rfl
theorem q1578 : (Jvm.Cond.selects "OwnRainModel" ({ cls := "OwnRainModel", name := "person", desc := "(IIII)I" } : Jvm.MethodName) ({ cls := "OwnRainModel", name := "person", desc := "(IIII)I" } : Jvm.MethodName)) ∈ gtbl := gq 1578 (by decide +kernel) rfl
set_option maxRecDepth 100000 in
theorem q1579 : (Jvm.Cond.code ({ cls := "OwnRainModel", name := "person", desc := "(IIII)I" } : Jvm.MethodName) prog_14_method_15_code (7 : Nat) (Option.some Jvm.ClassFile.FieldType.int)) ∈ gtbl := gq 1579 rfl rfl
theorem q1580 : (Jvm.Cond.methodLink "OwnRainModel" (129 : Nat) ({ cls := "OwnRainModel", name := "set", desc := "(III)V" } : Jvm.MethodName)) ∈ gtbl := gq 1580 (by decide +kernel) rfl
theorem q1582 : (Jvm.Cond.instanceMethod ({ cls := "OwnRainModel", name := "set", desc := "(III)V" } : Jvm.MethodName)) ∈ gtbl := gq 1582 (by decide +kernel) rfl
set_option maxRecDepth 100000 in
theorem q1583 : (Jvm.Cond.code ({ cls := "OwnRainModel", name := "set", desc := "(III)V" } : Jvm.MethodName) prog_14_method_10_code (4 : Nat) (Option.none : Option Jvm.ClassFile.FieldType)) ∈ gtbl := gq 1583 rfl rfl
theorem q1584 : (Jvm.Cond.methodLink "OwnRainLaw" (32 : Nat) ({ cls := "OwnRainModel", name := "feed", desc := "(IIIII)I" } : Jvm.MethodName)) ∈ gtbl := gq 1584 (by decide +kernel) rfl
theorem q1585 : (Jvm.Cond.instanceMethod ({ cls := "OwnRainModel", name := "feed", desc := "(IIIII)I" } : Jvm.MethodName)) ∈ gtbl := gq 1585 (by decide +kernel) rfl
theorem q1586 : (Jvm.Cond.selects "OwnRainModel" ({ cls := "OwnRainModel", name := "feed", desc := "(IIIII)I" } : Jvm.MethodName) ({ cls := "OwnRainModel", name := "feed", desc := "(IIIII)I" } : Jvm.MethodName)) ∈ gtbl := gq 1586 (by decide +kernel) rfl
set_option maxRecDepth 100000 in
theorem q1587 : (Jvm.Cond.code ({ cls := "OwnRainModel", name := "feed", desc := "(IIIII)I" } : Jvm.MethodName) prog_14_method_17_code (6 : Nat) (Option.some Jvm.ClassFile.FieldType.int)) ∈ gtbl := gq 1587 rfl rfl
theorem q1588 : (Jvm.Cond.methodLink "OwnRainModel" (136 : Nat) ({ cls := "OwnRainModel", name := "four", desc := "(I)V" } : Jvm.MethodName)) ∈ gtbl := gq 1588 (by decide +kernel) rfl
theorem q1590 : (Jvm.Cond.instanceMethod ({ cls := "OwnRainModel", name := "four", desc := "(I)V" } : Jvm.MethodName)) ∈ gtbl := gq 1590 (by decide +kernel) rfl
set_option maxRecDepth 100000 in
theorem q1591 : (Jvm.Cond.code ({ cls := "OwnRainModel", name := "four", desc := "(I)V" } : Jvm.MethodName) prog_14_method_16_code (3 : Nat) (Option.none : Option Jvm.ClassFile.FieldType)) ∈ gtbl := gq 1591 rfl rfl
theorem q1592 : (Jvm.Cond.methodLink "OwnRainLaw" (37 : Nat) ({ cls := "OwnRainModel", name := "end", desc := "(I)I" } : Jvm.MethodName)) ∈ gtbl := gq 1592 (by decide +kernel) rfl
theorem q1593 : (Jvm.Cond.instanceMethod ({ cls := "OwnRainModel", name := "end", desc := "(I)I" } : Jvm.MethodName)) ∈ gtbl := gq 1593 (by decide +kernel) rfl
theorem q1594 : (Jvm.Cond.selects "OwnRainModel" ({ cls := "OwnRainModel", name := "end", desc := "(I)I" } : Jvm.MethodName) ({ cls := "OwnRainModel", name := "end", desc := "(I)I" } : Jvm.MethodName)) ∈ gtbl := gq 1594 (by decide +kernel) rfl
set_option maxRecDepth 100000 in
theorem q1595 : (Jvm.Cond.code ({ cls := "OwnRainModel", name := "end", desc := "(I)I" } : Jvm.MethodName) prog_14_method_18_code (2 : Nat) (Option.some Jvm.ClassFile.FieldType.int)) ∈ gtbl := gq 1595 rfl rfl
theorem q1596 : (Jvm.Cond.methodLink "OwnRainLaw" (42 : Nat) ({ cls := "OwnRainModel", name := "text", desc := "()I" } : Jvm.MethodName)) ∈ gtbl := gq 1596 (by decide +kernel) rfl
theorem q1597 : (Jvm.Cond.instanceMethod ({ cls := "OwnRainModel", name := "text", desc := "()I" } : Jvm.MethodName)) ∈ gtbl := gq 1597 (by decide +kernel) rfl
theorem q1598 : (Jvm.Cond.selects "OwnRainModel" ({ cls := "OwnRainModel", name := "text", desc := "()I" } : Jvm.MethodName) ({ cls := "OwnRainModel", name := "text", desc := "()I" } : Jvm.MethodName)) ∈ gtbl := gq 1598 (by decide +kernel) rfl
set_option maxRecDepth 100000 in
theorem q1599 : (Jvm.Cond.code ({ cls := "OwnRainModel", name := "text", desc := "()I" } : Jvm.MethodName) prog_14_method_56_code (1 : Nat) (Option.some Jvm.ClassFile.FieldType.int)) ∈ gtbl := gq 1599 rfl rfl
theorem q1600 : (Jvm.Cond.methodLink "OwnRainModel" (305 : Nat) ({ cls := "OwnRainModel", name := "readText", desc := "()I" } : Jvm.MethodName)) ∈ gtbl := gq 1600 (by decide +kernel) rfl
theorem q1602 : (Jvm.Cond.instanceMethod ({ cls := "OwnRainModel", name := "readText", desc := "()I" } : Jvm.MethodName)) ∈ gtbl := gq 1602 (by decide +kernel) rfl
set_option maxRecDepth 100000 in
theorem q1603 : (Jvm.Cond.code ({ cls := "OwnRainModel", name := "readText", desc := "()I" } : Jvm.MethodName) prog_14_method_55_code (2 : Nat) (Option.some Jvm.ClassFile.FieldType.int)) ∈ gtbl := gq 1603 rfl rfl
theorem q1604 : (Jvm.Cond.methodLink "OwnRainModel" (217 : Nat) ({ cls := "OwnRainModel", name := "nextToken", desc := "()V" } : Jvm.MethodName)) ∈ gtbl := gq 1604 (by decide +kernel) rfl
theorem q1606 : (Jvm.Cond.instanceMethod ({ cls := "OwnRainModel", name := "nextToken", desc := "()V" } : Jvm.MethodName)) ∈ gtbl := gq 1606 (by decide +kernel) rfl
set_option maxRecDepth 100000 in
theorem q1607 : (Jvm.Cond.code ({ cls := "OwnRainModel", name := "nextToken", desc := "()V" } : Jvm.MethodName) prog_14_method_23_code (2 : Nat) (Option.none : Option Jvm.ClassFile.FieldType)) ∈ gtbl := gq 1607 rfl rfl
theorem q1608 : (Jvm.Cond.methodLink "OwnRainModel" (143 : Nat) ({ cls := "OwnRainModel", name := "byteAt", desc := "(I)I" } : Jvm.MethodName)) ∈ gtbl := gq 1608 (by decide +kernel) rfl
theorem q1610 : (Jvm.Cond.instanceMethod ({ cls := "OwnRainModel", name := "byteAt", desc := "(I)I" } : Jvm.MethodName)) ∈ gtbl := gq 1610 (by decide +kernel) rfl
set_option maxRecDepth 100000 in
theorem q1611 : (Jvm.Cond.code ({ cls := "OwnRainModel", name := "byteAt", desc := "(I)I" } : Jvm.MethodName) prog_14_method_19_code (2 : Nat) (Option.some Jvm.ClassFile.FieldType.int)) ∈ gtbl := gq 1611 rfl rfl
theorem q1612 : (Jvm.Cond.methodLink "OwnRainModel" (153 : Nat) ({ cls := "OwnRainModel", name := "isFigure", desc := "(I)Z" } : Jvm.MethodName)) ∈ gtbl := gq 1612 (by decide +kernel) rfl
theorem q1613 : (Jvm.Cond.static ({ cls := "OwnRainModel", name := "isFigure", desc := "(I)Z" } : Jvm.MethodName)) ∈ gtbl := gq 1613 (by decide +kernel) rfl
set_option maxRecDepth 100000 in
theorem q1614 : (Jvm.Cond.code ({ cls := "OwnRainModel", name := "isFigure", desc := "(I)Z" } : Jvm.MethodName) prog_14_method_21_code (1 : Nat) (Option.some Jvm.ClassFile.FieldType.boolean)) ∈ gtbl := gq 1614 rfl rfl
theorem q1615 : (Jvm.Cond.constant "OwnRainModel" (159 : Nat) (99999 : Int32)) ∈ gtbl := gq 1615 (by decide +kernel) rfl
theorem q1616 : (Jvm.Cond.methodLink "OwnRainModel" (160 : Nat) ({ cls := "OwnRainModel", name := "isLetterByte", desc := "(I)Z" } : Jvm.MethodName)) ∈ gtbl := gq 1616 (by decide +kernel) rfl
theorem q1617 : (Jvm.Cond.static ({ cls := "OwnRainModel", name := "isLetterByte", desc := "(I)Z" } : Jvm.MethodName)) ∈ gtbl := gq 1617 (by decide +kernel) rfl
set_option maxRecDepth 100000 in
theorem q1618 : (Jvm.Cond.code ({ cls := "OwnRainModel", name := "isLetterByte", desc := "(I)Z" } : Jvm.MethodName) prog_14_method_20_code (1 : Nat) (Option.some Jvm.ClassFile.FieldType.boolean)) ∈ gtbl := gq 1618 rfl rfl
theorem q1619 : (Jvm.Cond.constantLong "OwnRainModel" (167 : Nat) (1152921504606846976 : Int64)) ∈ gtbl := gq 1619 (by decide +kernel) rfl
theorem q1620 : (Jvm.Cond.methodLink "OwnRainModel" (169 : Nat) ({ cls := "OwnRainModel", name := "isSign", desc := "(I)Z" } : Jvm.MethodName)) ∈ gtbl := gq 1620 (by decide +kernel) rfl
theorem q1621 : (Jvm.Cond.static ({ cls := "OwnRainModel", name := "isSign", desc := "(I)Z" } : Jvm.MethodName)) ∈ gtbl := gq 1621 (by decide +kernel) rfl
set_option maxRecDepth 100000 in
theorem q1622 : (Jvm.Cond.code ({ cls := "OwnRainModel", name := "isSign", desc := "(I)Z" } : Jvm.MethodName) prog_14_method_22_code (1 : Nat) (Option.some Jvm.ClassFile.FieldType.boolean)) ∈ gtbl := gq 1622 rfl rfl
theorem q1623 : (Jvm.Cond.methodLink "OwnRainModel" (302 : Nat) ({ cls := "OwnRainModel", name := "clause", desc := "()I" } : Jvm.MethodName)) ∈ gtbl := gq 1623 (by decide +kernel) rfl
theorem q1625 : (Jvm.Cond.instanceMethod ({ cls := "OwnRainModel", name := "clause", desc := "()I" } : Jvm.MethodName)) ∈ gtbl := gq 1625 (by decide +kernel) rfl
set_option maxRecDepth 100000 in
theorem q1626 : (Jvm.Cond.code ({ cls := "OwnRainModel", name := "clause", desc := "()I" } : Jvm.MethodName) prog_14_method_54_code (5 : Nat) (Option.some Jvm.ClassFile.FieldType.int)) ∈ gtbl := gq 1626 rfl rfl
theorem q1627 : (Jvm.Cond.methodLink "OwnRainModel" (293 : Nat) ({ cls := "OwnRainModel", name := "sortOf", desc := "()I" } : Jvm.MethodName)) ∈ gtbl := gq 1627 (by decide +kernel) rfl
theorem q1629 : (Jvm.Cond.instanceMethod ({ cls := "OwnRainModel", name := "sortOf", desc := "()I" } : Jvm.MethodName)) ∈ gtbl := gq 1629 (by decide +kernel) rfl
set_option maxRecDepth 100000 in
theorem q1630 : (Jvm.Cond.code ({ cls := "OwnRainModel", name := "sortOf", desc := "()I" } : Jvm.MethodName) prog_14_method_53_code (1 : Nat) (Option.some Jvm.ClassFile.FieldType.int)) ∈ gtbl := gq 1630 rfl rfl
theorem q1631 : (Jvm.Cond.methodLink "OwnRainModel" (184 : Nat) ({ cls := "OwnRainModel", name := "w5", desc := "(IIIII)J" } : Jvm.MethodName)) ∈ gtbl := gq 1631 (by decide +kernel) rfl
theorem q1632 : (Jvm.Cond.static ({ cls := "OwnRainModel", name := "w5", desc := "(IIIII)J" } : Jvm.MethodName)) ∈ gtbl := gq 1632 (by decide +kernel) rfl
set_option maxRecDepth 100000 in
theorem q1633 : (Jvm.Cond.code ({ cls := "OwnRainModel", name := "w5", desc := "(IIIII)J" } : Jvm.MethodName) prog_14_method_27_code (5 : Nat) (Option.some Jvm.ClassFile.FieldType.long)) ∈ gtbl := gq 1633 rfl rfl
theorem q1634 : (Jvm.Cond.methodLink "OwnRainModel" (180 : Nat) ({ cls := "OwnRainModel", name := "w4", desc := "(IIII)J" } : Jvm.MethodName)) ∈ gtbl := gq 1634 (by decide +kernel) rfl
theorem q1635 : (Jvm.Cond.static ({ cls := "OwnRainModel", name := "w4", desc := "(IIII)J" } : Jvm.MethodName)) ∈ gtbl := gq 1635 (by decide +kernel) rfl
set_option maxRecDepth 100000 in
theorem q1636 : (Jvm.Cond.code ({ cls := "OwnRainModel", name := "w4", desc := "(IIII)J" } : Jvm.MethodName) prog_14_method_26_code (4 : Nat) (Option.some Jvm.ClassFile.FieldType.long)) ∈ gtbl := gq 1636 rfl rfl
theorem q1637 : (Jvm.Cond.methodLink "OwnRainModel" (176 : Nat) ({ cls := "OwnRainModel", name := "w3", desc := "(III)J" } : Jvm.MethodName)) ∈ gtbl := gq 1637 (by decide +kernel) rfl
theorem q1638 : (Jvm.Cond.static ({ cls := "OwnRainModel", name := "w3", desc := "(III)J" } : Jvm.MethodName)) ∈ gtbl := gq 1638 (by decide +kernel) rfl
set_option maxRecDepth 100000 in
theorem q1639 : (Jvm.Cond.code ({ cls := "OwnRainModel", name := "w3", desc := "(III)J" } : Jvm.MethodName) prog_14_method_25_code (3 : Nat) (Option.some Jvm.ClassFile.FieldType.long)) ∈ gtbl := gq 1639 rfl rfl
theorem q1640 : (Jvm.Cond.methodLink "OwnRainModel" (172 : Nat) ({ cls := "OwnRainModel", name := "w2", desc := "(II)J" } : Jvm.MethodName)) ∈ gtbl := gq 1640 (by decide +kernel) rfl
theorem q1641 : (Jvm.Cond.static ({ cls := "OwnRainModel", name := "w2", desc := "(II)J" } : Jvm.MethodName)) ∈ gtbl := gq 1641 (by decide +kernel) rfl
set_option maxRecDepth 100000 in
theorem q1642 : (Jvm.Cond.code ({ cls := "OwnRainModel", name := "w2", desc := "(II)J" } : Jvm.MethodName) prog_14_method_24_code (2 : Nat) (Option.some Jvm.ClassFile.FieldType.long)) ∈ gtbl := gq 1642 rfl rfl
theorem q1643 : (Jvm.Cond.methodLink "OwnRainModel" (236 : Nat) ({ cls := "OwnRainModel", name := "isWord", desc := "(J)Z" } : Jvm.MethodName)) ∈ gtbl := gq 1643 (by decide +kernel) rfl
theorem q1645 : (Jvm.Cond.instanceMethod ({ cls := "OwnRainModel", name := "isWord", desc := "(J)Z" } : Jvm.MethodName)) ∈ gtbl := gq 1645 (by decide +kernel) rfl
set_option maxRecDepth 100000 in
theorem q1646 : (Jvm.Cond.code ({ cls := "OwnRainModel", name := "isWord", desc := "(J)Z" } : Jvm.MethodName) prog_14_method_29_code (3 : Nat) (Option.some Jvm.ClassFile.FieldType.boolean)) ∈ gtbl := gq 1646 rfl rfl
theorem q1647 : (Jvm.Cond.methodLink "OwnRainModel" (299 : Nat) ({ cls := "OwnRainModel", name := "body", desc := "(II)I" } : Jvm.MethodName)) ∈ gtbl := gq 1647 (by decide +kernel) rfl
theorem q1649 : (Jvm.Cond.instanceMethod ({ cls := "OwnRainModel", name := "body", desc := "(II)I" } : Jvm.MethodName)) ∈ gtbl := gq 1649 (by decide +kernel) rfl
set_option maxRecDepth 100000 in
theorem q1650 : (Jvm.Cond.code ({ cls := "OwnRainModel", name := "body", desc := "(II)I" } : Jvm.MethodName) prog_14_method_52_code (3 : Nat) (Option.some Jvm.ClassFile.FieldType.int)) ∈ gtbl := gq 1650 rfl rfl
theorem q1651 : (Jvm.Cond.methodLink "OwnRainModel" (277 : Nat) ({ cls := "OwnRainModel", name := "fieldClause", desc := "(I)I" } : Jvm.MethodName)) ∈ gtbl := gq 1651 (by decide +kernel) rfl
theorem q1653 : (Jvm.Cond.instanceMethod ({ cls := "OwnRainModel", name := "fieldClause", desc := "(I)I" } : Jvm.MethodName)) ∈ gtbl := gq 1653 (by decide +kernel) rfl
set_option maxRecDepth 100000 in
theorem q1654 : (Jvm.Cond.code ({ cls := "OwnRainModel", name := "fieldClause", desc := "(I)I" } : Jvm.MethodName) prog_14_method_48_code (3 : Nat) (Option.some Jvm.ClassFile.FieldType.int)) ∈ gtbl := gq 1654 rfl rfl
theorem q1655 : (Jvm.Cond.methodLink "OwnRainModel" (262 : Nat) ({ cls := "OwnRainModel", name := "figure", desc := "(III)I" } : Jvm.MethodName)) ∈ gtbl := gq 1655 (by decide +kernel) rfl
theorem q1657 : (Jvm.Cond.instanceMethod ({ cls := "OwnRainModel", name := "figure", desc := "(III)I" } : Jvm.MethodName)) ∈ gtbl := gq 1657 (by decide +kernel) rfl
set_option maxRecDepth 100000 in
theorem q1658 : (Jvm.Cond.code ({ cls := "OwnRainModel", name := "figure", desc := "(III)I" } : Jvm.MethodName) prog_14_method_45_code (4 : Nat) (Option.some Jvm.ClassFile.FieldType.int)) ∈ gtbl := gq 1658 rfl rfl
theorem q1659 : (Jvm.Cond.methodLink "OwnRainModel" (269 : Nat) ({ cls := "OwnRainModel", name := "worded", desc := "(JIII)I" } : Jvm.MethodName)) ∈ gtbl := gq 1659 (by decide +kernel) rfl
theorem q1661 : (Jvm.Cond.instanceMethod ({ cls := "OwnRainModel", name := "worded", desc := "(JIII)I" } : Jvm.MethodName)) ∈ gtbl := gq 1661 (by decide +kernel) rfl
set_option maxRecDepth 100000 in
theorem q1662 : (Jvm.Cond.code ({ cls := "OwnRainModel", name := "worded", desc := "(JIII)I" } : Jvm.MethodName) prog_14_method_46_code (6 : Nat) (Option.some Jvm.ClassFile.FieldType.int)) ∈ gtbl := gq 1662 rfl rfl
theorem q1663 : (Jvm.Cond.methodLink "OwnRainModel" (273 : Nat) ({ cls := "OwnRainModel", name := "w6", desc := "(IIIIII)J" } : Jvm.MethodName)) ∈ gtbl := gq 1663 (by decide +kernel) rfl
theorem q1664 : (Jvm.Cond.static ({ cls := "OwnRainModel", name := "w6", desc := "(IIIIII)J" } : Jvm.MethodName)) ∈ gtbl := gq 1664 (by decide +kernel) rfl
set_option maxRecDepth 100000 in
theorem q1665 : (Jvm.Cond.code ({ cls := "OwnRainModel", name := "w6", desc := "(IIIIII)J" } : Jvm.MethodName) prog_14_method_28_code (6 : Nat) (Option.some Jvm.ClassFile.FieldType.long)) ∈ gtbl := gq 1665 rfl rfl
theorem q1666 : (Jvm.Cond.methodLink "OwnRainModel" (280 : Nat) ({ cls := "OwnRainModel", name := "pair", desc := "(IIIJI)I" } : Jvm.MethodName)) ∈ gtbl := gq 1666 (by decide +kernel) rfl
theorem q1668 : (Jvm.Cond.instanceMethod ({ cls := "OwnRainModel", name := "pair", desc := "(IIIJI)I" } : Jvm.MethodName)) ∈ gtbl := gq 1668 (by decide +kernel) rfl
set_option maxRecDepth 100000 in
theorem q1669 : (Jvm.Cond.code ({ cls := "OwnRainModel", name := "pair", desc := "(IIIJI)I" } : Jvm.MethodName) prog_14_method_51_code (8 : Nat) (Option.some Jvm.ClassFile.FieldType.int)) ∈ gtbl := gq 1669 rfl rfl
theorem q1670 : (Jvm.Cond.methodLink "OwnRainModel" (284 : Nat) ({ cls := "OwnRainModel", name := "oneClause", desc := "(I)I" } : Jvm.MethodName)) ∈ gtbl := gq 1670 (by decide +kernel) rfl
theorem q1672 : (Jvm.Cond.instanceMethod ({ cls := "OwnRainModel", name := "oneClause", desc := "(I)I" } : Jvm.MethodName)) ∈ gtbl := gq 1672 (by decide +kernel) rfl
set_option maxRecDepth 100000 in
theorem q1673 : (Jvm.Cond.code ({ cls := "OwnRainModel", name := "oneClause", desc := "(I)I" } : Jvm.MethodName) prog_14_method_49_code (3 : Nat) (Option.some Jvm.ClassFile.FieldType.int)) ∈ gtbl := gq 1673 rfl rfl
theorem q1674 : (Jvm.Cond.methodLink "OwnRainModel" (287 : Nat) ({ cls := "OwnRainModel", name := "stealClause", desc := "(I)I" } : Jvm.MethodName)) ∈ gtbl := gq 1674 (by decide +kernel) rfl
theorem q1676 : (Jvm.Cond.instanceMethod ({ cls := "OwnRainModel", name := "stealClause", desc := "(I)I" } : Jvm.MethodName)) ∈ gtbl := gq 1676 (by decide +kernel) rfl
set_option maxRecDepth 100000 in
theorem q1677 : (Jvm.Cond.code ({ cls := "OwnRainModel", name := "stealClause", desc := "(I)I" } : Jvm.MethodName) prog_14_method_50_code (3 : Nat) (Option.some Jvm.ClassFile.FieldType.int)) ∈ gtbl := gq 1677 rfl rfl
theorem q1678 : (Jvm.Cond.methodLink "OwnRainModel" (290 : Nat) ({ cls := "OwnRainModel", name := "lawClause", desc := "(I)I" } : Jvm.MethodName)) ∈ gtbl := gq 1678 (by decide +kernel) rfl
theorem q1680 : (Jvm.Cond.instanceMethod ({ cls := "OwnRainModel", name := "lawClause", desc := "(I)I" } : Jvm.MethodName)) ∈ gtbl := gq 1680 (by decide +kernel) rfl
set_option maxRecDepth 100000 in
theorem q1681 : (Jvm.Cond.code ({ cls := "OwnRainModel", name := "lawClause", desc := "(I)I" } : Jvm.MethodName) prog_14_method_47_code (3 : Nat) (Option.some Jvm.ClassFile.FieldType.int)) ∈ gtbl := gq 1681 rfl rfl
theorem q1682 : (Jvm.Cond.methodLink "OwnRainModel" (266 : Nat) ({ cls := "OwnRainModel", name := "summed", desc := "()I" } : Jvm.MethodName)) ∈ gtbl := gq 1682 (by decide +kernel) rfl
theorem q1684 : (Jvm.Cond.instanceMethod ({ cls := "OwnRainModel", name := "summed", desc := "()I" } : Jvm.MethodName)) ∈ gtbl := gq 1684 (by decide +kernel) rfl
set_option maxRecDepth 100000 in
theorem q1685 : (Jvm.Cond.code ({ cls := "OwnRainModel", name := "summed", desc := "()I" } : Jvm.MethodName) prog_14_method_44_code (2 : Nat) (Option.some Jvm.ClassFile.FieldType.int)) ∈ gtbl := gq 1685 rfl rfl
theorem q1686 : (Jvm.Cond.methodLink "OwnRainModel" (256 : Nat) ({ cls := "OwnRainModel", name := "behindOne", desc := "()Z" } : Jvm.MethodName)) ∈ gtbl := gq 1686 (by decide +kernel) rfl
theorem q1688 : (Jvm.Cond.instanceMethod ({ cls := "OwnRainModel", name := "behindOne", desc := "()Z" } : Jvm.MethodName)) ∈ gtbl := gq 1688 (by decide +kernel) rfl
set_option maxRecDepth 100000 in
theorem q1689 : (Jvm.Cond.code ({ cls := "OwnRainModel", name := "behindOne", desc := "()Z" } : Jvm.MethodName) prog_14_method_43_code (4 : Nat) (Option.some Jvm.ClassFile.FieldType.boolean)) ∈ gtbl := gq 1689 rfl rfl
theorem q1690 : (Jvm.Cond.methodLink "OwnRainModel" (250 : Nat) ({ cls := "OwnRainModel", name := "betweenOf", desc := "()I" } : Jvm.MethodName)) ∈ gtbl := gq 1690 (by decide +kernel) rfl
theorem q1692 : (Jvm.Cond.instanceMethod ({ cls := "OwnRainModel", name := "betweenOf", desc := "()I" } : Jvm.MethodName)) ∈ gtbl := gq 1692 (by decide +kernel) rfl
set_option maxRecDepth 100000 in
theorem q1693 : (Jvm.Cond.code ({ cls := "OwnRainModel", name := "betweenOf", desc := "()I" } : Jvm.MethodName) prog_14_method_41_code (1 : Nat) (Option.some Jvm.ClassFile.FieldType.int)) ∈ gtbl := gq 1693 rfl rfl
theorem q1694 : (Jvm.Cond.methodLink "OwnRainModel" (213 : Nat) ({ cls := "OwnRainModel", name := "openNow", desc := "()I" } : Jvm.MethodName)) ∈ gtbl := gq 1694 (by decide +kernel) rfl
theorem q1696 : (Jvm.Cond.instanceMethod ({ cls := "OwnRainModel", name := "openNow", desc := "()I" } : Jvm.MethodName)) ∈ gtbl := gq 1696 (by decide +kernel) rfl
set_option maxRecDepth 100000 in
theorem q1697 : (Jvm.Cond.code ({ cls := "OwnRainModel", name := "openNow", desc := "()I" } : Jvm.MethodName) prog_14_method_35_code (2 : Nat) (Option.some Jvm.ClassFile.FieldType.int)) ∈ gtbl := gq 1697 rfl rfl
theorem q1698 : (Jvm.Cond.methodLink "OwnRainModel" (244 : Nat) ({ cls := "OwnRainModel", name := "isCompared", desc := "()Z" } : Jvm.MethodName)) ∈ gtbl := gq 1698 (by decide +kernel) rfl
theorem q1700 : (Jvm.Cond.instanceMethod ({ cls := "OwnRainModel", name := "isCompared", desc := "()Z" } : Jvm.MethodName)) ∈ gtbl := gq 1700 (by decide +kernel) rfl
set_option maxRecDepth 100000 in
theorem q1701 : (Jvm.Cond.code ({ cls := "OwnRainModel", name := "isCompared", desc := "()Z" } : Jvm.MethodName) prog_14_method_36_code (2 : Nat) (Option.some Jvm.ClassFile.FieldType.boolean)) ∈ gtbl := gq 1701 rfl rfl
theorem q1702 : (Jvm.Cond.methodLink "OwnRainModel" (203 : Nat) ({ cls := "OwnRainModel", name := "rank", desc := "(I)I" } : Jvm.MethodName)) ∈ gtbl := gq 1702 (by decide +kernel) rfl
theorem q1703 : (Jvm.Cond.static ({ cls := "OwnRainModel", name := "rank", desc := "(I)I" } : Jvm.MethodName)) ∈ gtbl := gq 1703 (by decide +kernel) rfl
set_option maxRecDepth 100000 in
theorem q1704 : (Jvm.Cond.code ({ cls := "OwnRainModel", name := "rank", desc := "(I)I" } : Jvm.MethodName) prog_14_method_33_code (1 : Nat) (Option.some Jvm.ClassFile.FieldType.int)) ∈ gtbl := gq 1704 rfl rfl
theorem q1705 : (Jvm.Cond.methodLink "OwnRainModel" (247 : Nat) ({ cls := "OwnRainModel", name := "compareOf", desc := "()I" } : Jvm.MethodName)) ∈ gtbl := gq 1705 (by decide +kernel) rfl
theorem q1707 : (Jvm.Cond.instanceMethod ({ cls := "OwnRainModel", name := "compareOf", desc := "()I" } : Jvm.MethodName)) ∈ gtbl := gq 1707 (by decide +kernel) rfl
set_option maxRecDepth 100000 in
theorem q1708 : (Jvm.Cond.code ({ cls := "OwnRainModel", name := "compareOf", desc := "()I" } : Jvm.MethodName) prog_14_method_40_code (1 : Nat) (Option.some Jvm.ClassFile.FieldType.int)) ∈ gtbl := gq 1708 rfl rfl
theorem q1709 : (Jvm.Cond.methodLink "OwnRainModel" (230 : Nat) ({ cls := "OwnRainModel", name := "settle", desc := "(I)V" } : Jvm.MethodName)) ∈ gtbl := gq 1709 (by decide +kernel) rfl
theorem q1711 : (Jvm.Cond.instanceMethod ({ cls := "OwnRainModel", name := "settle", desc := "(I)V" } : Jvm.MethodName)) ∈ gtbl := gq 1711 (by decide +kernel) rfl
set_option maxRecDepth 100000 in
theorem q1712 : (Jvm.Cond.code ({ cls := "OwnRainModel", name := "settle", desc := "(I)V" } : Jvm.MethodName) prog_14_method_34_code (2 : Nat) (Option.none : Option Jvm.ClassFile.FieldType)) ∈ gtbl := gq 1712 rfl rfl
theorem q1713 : (Jvm.Cond.methodLink "OwnRainModel" (206 : Nat) ({ cls := "OwnRainModel", name := "emit", desc := "(II)V" } : Jvm.MethodName)) ∈ gtbl := gq 1713 (by decide +kernel) rfl
theorem q1715 : (Jvm.Cond.instanceMethod ({ cls := "OwnRainModel", name := "emit", desc := "(II)V" } : Jvm.MethodName)) ∈ gtbl := gq 1715 (by decide +kernel) rfl
set_option maxRecDepth 100000 in
theorem q1716 : (Jvm.Cond.code ({ cls := "OwnRainModel", name := "emit", desc := "(II)V" } : Jvm.MethodName) prog_14_method_30_code (3 : Nat) (Option.none : Option Jvm.ClassFile.FieldType)) ∈ gtbl := gq 1716 rfl rfl
theorem q1717 : (Jvm.Cond.methodLink "OwnRainModel" (253 : Nat) ({ cls := "OwnRainModel", name := "shut", desc := "(I)V" } : Jvm.MethodName)) ∈ gtbl := gq 1717 (by decide +kernel) rfl
theorem q1719 : (Jvm.Cond.instanceMethod ({ cls := "OwnRainModel", name := "shut", desc := "(I)V" } : Jvm.MethodName)) ∈ gtbl := gq 1719 (by decide +kernel) rfl
set_option maxRecDepth 100000 in
theorem q1720 : (Jvm.Cond.code ({ cls := "OwnRainModel", name := "shut", desc := "(I)V" } : Jvm.MethodName) prog_14_method_42_code (2 : Nat) (Option.none : Option Jvm.ClassFile.FieldType)) ∈ gtbl := gq 1720 rfl rfl
theorem q1721 : (Jvm.Cond.methodLink "OwnRainModel" (259 : Nat) ({ cls := "OwnRainModel", name := "beginOne", desc := "()I" } : Jvm.MethodName)) ∈ gtbl := gq 1721 (by decide +kernel) rfl
theorem q1723 : (Jvm.Cond.instanceMethod ({ cls := "OwnRainModel", name := "beginOne", desc := "()I" } : Jvm.MethodName)) ∈ gtbl := gq 1723 (by decide +kernel) rfl
set_option maxRecDepth 100000 in
theorem q1724 : (Jvm.Cond.code ({ cls := "OwnRainModel", name := "beginOne", desc := "()I" } : Jvm.MethodName) prog_14_method_39_code (2 : Nat) (Option.some Jvm.ClassFile.FieldType.int)) ∈ gtbl := gq 1724 rfl rfl
theorem q1725 : (Jvm.Cond.methodLink "OwnRainModel" (220 : Nat) ({ cls := "OwnRainModel", name := "nameOf", desc := "()I" } : Jvm.MethodName)) ∈ gtbl := gq 1725 (by decide +kernel) rfl
theorem q1727 : (Jvm.Cond.instanceMethod ({ cls := "OwnRainModel", name := "nameOf", desc := "()I" } : Jvm.MethodName)) ∈ gtbl := gq 1727 (by decide +kernel) rfl
set_option maxRecDepth 100000 in
theorem q1728 : (Jvm.Cond.code ({ cls := "OwnRainModel", name := "nameOf", desc := "()I" } : Jvm.MethodName) prog_14_method_31_code (1 : Nat) (Option.some Jvm.ClassFile.FieldType.int)) ∈ gtbl := gq 1728 rfl rfl
theorem q1729 : (Jvm.Cond.methodLink "OwnRainModel" (223 : Nat) ({ cls := "OwnRainModel", name := "isOf", desc := "(I)Z" } : Jvm.MethodName)) ∈ gtbl := gq 1729 (by decide +kernel) rfl
theorem q1731 : (Jvm.Cond.instanceMethod ({ cls := "OwnRainModel", name := "isOf", desc := "(I)Z" } : Jvm.MethodName)) ∈ gtbl := gq 1731 (by decide +kernel) rfl
set_option maxRecDepth 100000 in
theorem q1732 : (Jvm.Cond.code ({ cls := "OwnRainModel", name := "isOf", desc := "(I)Z" } : Jvm.MethodName) prog_14_method_32_code (2 : Nat) (Option.some Jvm.ClassFile.FieldType.boolean)) ∈ gtbl := gq 1732 rfl rfl
theorem q1733 : (Jvm.Cond.methodLink "OwnRainModel" (233 : Nat) ({ cls := "OwnRainModel", name := "opened", desc := "(I)I" } : Jvm.MethodName)) ∈ gtbl := gq 1733 (by decide +kernel) rfl
theorem q1735 : (Jvm.Cond.instanceMethod ({ cls := "OwnRainModel", name := "opened", desc := "(I)I" } : Jvm.MethodName)) ∈ gtbl := gq 1735 (by decide +kernel) rfl
set_option maxRecDepth 100000 in
theorem q1736 : (Jvm.Cond.code ({ cls := "OwnRainModel", name := "opened", desc := "(I)I" } : Jvm.MethodName) prog_14_method_38_code (2 : Nat) (Option.some Jvm.ClassFile.FieldType.int)) ∈ gtbl := gq 1736 rfl rfl
theorem q1737 : (Jvm.Cond.methodLink "OwnRainModel" (240 : Nat) ({ cls := "OwnRainModel", name := "isAskAhead", desc := "()Z" } : Jvm.MethodName)) ∈ gtbl := gq 1737 (by decide +kernel) rfl
theorem q1739 : (Jvm.Cond.instanceMethod ({ cls := "OwnRainModel", name := "isAskAhead", desc := "()Z" } : Jvm.MethodName)) ∈ gtbl := gq 1739 (by decide +kernel) rfl
set_option maxRecDepth 100000 in
theorem q1740 : (Jvm.Cond.code ({ cls := "OwnRainModel", name := "isAskAhead", desc := "()Z" } : Jvm.MethodName) prog_14_method_37_code (1 : Nat) (Option.some Jvm.ClassFile.FieldType.boolean)) ∈ gtbl := gq 1740 rfl rfl
theorem q1741 : (Jvm.Cond.methodLink "OwnRainLaw" (46 : Nat) ({ cls := "OwnRainModel", name := "fault", desc := "(I)I" } : Jvm.MethodName)) ∈ gtbl := gq 1741 (by decide +kernel) rfl
theorem q1742 : (Jvm.Cond.instanceMethod ({ cls := "OwnRainModel", name := "fault", desc := "(I)I" } : Jvm.MethodName)) ∈ gtbl := gq 1742 (by decide +kernel) rfl
theorem q1743 : (Jvm.Cond.selects "OwnRainModel" ({ cls := "OwnRainModel", name := "fault", desc := "(I)I" } : Jvm.MethodName) ({ cls := "OwnRainModel", name := "fault", desc := "(I)I" } : Jvm.MethodName)) ∈ gtbl := gq 1743 (by decide +kernel) rfl
set_option maxRecDepth 100000 in
theorem q1744 : (Jvm.Cond.code ({ cls := "OwnRainModel", name := "fault", desc := "(I)I" } : Jvm.MethodName) prog_14_method_57_code (2 : Nat) (Option.some Jvm.ClassFile.FieldType.int)) ∈ gtbl := gq 1744 rfl rfl
theorem q1745 : (Jvm.Cond.methodLink "OwnRainLaw" (51 : Nat) ({ cls := "OwnRainModel", name := "by", desc := "(I)Z" } : Jvm.MethodName)) ∈ gtbl := gq 1745 (by decide +kernel) rfl
theorem q1746 : (Jvm.Cond.instanceMethod ({ cls := "OwnRainModel", name := "by", desc := "(I)Z" } : Jvm.MethodName)) ∈ gtbl := gq 1746 (by decide +kernel) rfl
theorem q1747 : (Jvm.Cond.selects "OwnRainModel" ({ cls := "OwnRainModel", name := "by", desc := "(I)Z" } : Jvm.MethodName) ({ cls := "OwnRainModel", name := "by", desc := "(I)Z" } : Jvm.MethodName)) ∈ gtbl := gq 1747 (by decide +kernel) rfl
set_option maxRecDepth 100000 in
theorem q1748 : (Jvm.Cond.code ({ cls := "OwnRainModel", name := "by", desc := "(I)Z" } : Jvm.MethodName) prog_14_method_58_code (2 : Nat) (Option.some Jvm.ClassFile.FieldType.boolean)) ∈ gtbl := gq 1748 rfl rfl
theorem q1749 : (Jvm.Cond.methodLink "OwnRainLaw" (88 : Nat) ({ cls := "OwnRainModel", name := "undo", desc := "()I" } : Jvm.MethodName)) ∈ gtbl := gq 1749 (by decide +kernel) rfl
theorem q1750 : (Jvm.Cond.instanceMethod ({ cls := "OwnRainModel", name := "undo", desc := "()I" } : Jvm.MethodName)) ∈ gtbl := gq 1750 (by decide +kernel) rfl
theorem q1751 : (Jvm.Cond.selects "OwnRainModel" ({ cls := "OwnRainModel", name := "undo", desc := "()I" } : Jvm.MethodName) ({ cls := "OwnRainModel", name := "undo", desc := "()I" } : Jvm.MethodName)) ∈ gtbl := gq 1751 (by decide +kernel) rfl
set_option maxRecDepth 100000 in
theorem q1752 : (Jvm.Cond.code ({ cls := "OwnRainModel", name := "undo", desc := "()I" } : Jvm.MethodName) prog_14_method_75_code (5 : Nat) (Option.some Jvm.ClassFile.FieldType.int)) ∈ gtbl := gq 1752 rfl rfl
theorem q1753 : (Jvm.Cond.methodLink "OwnRainModel" (319 : Nat) ({ cls := "OwnRainModel", name := "get", desc := "(II)I" } : Jvm.MethodName)) ∈ gtbl := gq 1753 (by decide +kernel) rfl
theorem q1755 : (Jvm.Cond.instanceMethod ({ cls := "OwnRainModel", name := "get", desc := "(II)I" } : Jvm.MethodName)) ∈ gtbl := gq 1755 (by decide +kernel) rfl
set_option maxRecDepth 100000 in
theorem q1756 : (Jvm.Cond.code ({ cls := "OwnRainModel", name := "get", desc := "(II)I" } : Jvm.MethodName) prog_14_method_9_code (3 : Nat) (Option.some Jvm.ClassFile.FieldType.int)) ∈ gtbl := gq 1756 rfl rfl
theorem q1757 : (Jvm.Cond.methodLink "OwnRainLaw" (55 : Nat) ({ cls := "OwnRainModel", name := "hour", desc := "(I)I" } : Jvm.MethodName)) ∈ gtbl := gq 1757 (by decide +kernel) rfl
theorem q1758 : (Jvm.Cond.instanceMethod ({ cls := "OwnRainModel", name := "hour", desc := "(I)I" } : Jvm.MethodName)) ∈ gtbl := gq 1758 (by decide +kernel) rfl
theorem q1759 : (Jvm.Cond.selects "OwnRainModel" ({ cls := "OwnRainModel", name := "hour", desc := "(I)I" } : Jvm.MethodName) ({ cls := "OwnRainModel", name := "hour", desc := "(I)I" } : Jvm.MethodName)) ∈ gtbl := gq 1759 (by decide +kernel) rfl
set_option maxRecDepth 100000 in
theorem q1760 : (Jvm.Cond.code ({ cls := "OwnRainModel", name := "hour", desc := "(I)I" } : Jvm.MethodName) prog_14_method_77_code (4 : Nat) (Option.some Jvm.ClassFile.FieldType.int)) ∈ gtbl := gq 1760 rfl rfl
theorem q1761 : (Jvm.Cond.methodLink "OwnRainModel" (394 : Nat) ({ cls := "OwnRainModel", name := "passStep", desc := "()I" } : Jvm.MethodName)) ∈ gtbl := gq 1761 (by decide +kernel) rfl
theorem q1763 : (Jvm.Cond.instanceMethod ({ cls := "OwnRainModel", name := "passStep", desc := "()I" } : Jvm.MethodName)) ∈ gtbl := gq 1763 (by decide +kernel) rfl
set_option maxRecDepth 100000 in
theorem q1764 : (Jvm.Cond.code ({ cls := "OwnRainModel", name := "passStep", desc := "()I" } : Jvm.MethodName) prog_14_method_76_code (1 : Nat) (Option.some Jvm.ClassFile.FieldType.int)) ∈ gtbl := gq 1764 rfl rfl
theorem q1765 : (Jvm.Cond.methodLink "OwnRainModel" (388 : Nat) ({ cls := "OwnRainModel", name := "keep", desc := "()V" } : Jvm.MethodName)) ∈ gtbl := gq 1765 (by decide +kernel) rfl
theorem q1767 : (Jvm.Cond.instanceMethod ({ cls := "OwnRainModel", name := "keep", desc := "()V" } : Jvm.MethodName)) ∈ gtbl := gq 1767 (by decide +kernel) rfl
set_option maxRecDepth 100000 in
theorem q1768 : (Jvm.Cond.code ({ cls := "OwnRainModel", name := "keep", desc := "()V" } : Jvm.MethodName) prog_14_method_74_code (4 : Nat) (Option.none : Option Jvm.ClassFile.FieldType)) ∈ gtbl := gq 1768 rfl rfl
theorem q1769 : (Jvm.Cond.methodLink "OwnRainModel" (391 : Nat) ({ cls := "OwnRainModel", name := "pass", desc := "()I" } : Jvm.MethodName)) ∈ gtbl := gq 1769 (by decide +kernel) rfl
theorem q1771 : (Jvm.Cond.instanceMethod ({ cls := "OwnRainModel", name := "pass", desc := "()I" } : Jvm.MethodName)) ∈ gtbl := gq 1771 (by decide +kernel) rfl
set_option maxRecDepth 100000 in
theorem q1772 : (Jvm.Cond.code ({ cls := "OwnRainModel", name := "pass", desc := "()I" } : Jvm.MethodName) prog_14_method_73_code (3 : Nat) (Option.some Jvm.ClassFile.FieldType.int)) ∈ gtbl := gq 1772 rfl rfl
theorem q1773 : (Jvm.Cond.methodLink "OwnRainModel" (382 : Nat) ({ cls := "OwnRainModel", name := "rainAll", desc := "()I" } : Jvm.MethodName)) ∈ gtbl := gq 1773 (by decide +kernel) rfl
theorem q1775 : (Jvm.Cond.instanceMethod ({ cls := "OwnRainModel", name := "rainAll", desc := "()I" } : Jvm.MethodName)) ∈ gtbl := gq 1775 (by decide +kernel) rfl
set_option maxRecDepth 100000 in
theorem q1776 : (Jvm.Cond.code ({ cls := "OwnRainModel", name := "rainAll", desc := "()I" } : Jvm.MethodName) prog_14_method_71_code (3 : Nat) (Option.some Jvm.ClassFile.FieldType.int)) ∈ gtbl := gq 1776 rfl rfl
theorem q1777 : (Jvm.Cond.methodLink "OwnRainModel" (376 : Nat) ({ cls := "OwnRainModel", name := "sweatOf", desc := "(II)I" } : Jvm.MethodName)) ∈ gtbl := gq 1777 (by decide +kernel) rfl
theorem q1779 : (Jvm.Cond.instanceMethod ({ cls := "OwnRainModel", name := "sweatOf", desc := "(II)I" } : Jvm.MethodName)) ∈ gtbl := gq 1779 (by decide +kernel) rfl
set_option maxRecDepth 100000 in
theorem q1780 : (Jvm.Cond.code ({ cls := "OwnRainModel", name := "sweatOf", desc := "(II)I" } : Jvm.MethodName) prog_14_method_68_code (4 : Nat) (Option.some Jvm.ClassFile.FieldType.int)) ∈ gtbl := gq 1780 rfl rfl
theorem q1781 : (Jvm.Cond.methodLink "OwnRainModel" (357 : Nat) ({ cls := "OwnRainModel", name := "says", desc := "(IIIIII)I" } : Jvm.MethodName)) ∈ gtbl := gq 1781 (by decide +kernel) rfl
theorem q1783 : (Jvm.Cond.instanceMethod ({ cls := "OwnRainModel", name := "says", desc := "(IIIIII)I" } : Jvm.MethodName)) ∈ gtbl := gq 1783 (by decide +kernel) rfl
set_option maxRecDepth 100000 in
theorem q1784 : (Jvm.Cond.code ({ cls := "OwnRainModel", name := "says", desc := "(IIIIII)I" } : Jvm.MethodName) prog_14_method_67_code (9 : Nat) (Option.some Jvm.ClassFile.FieldType.int)) ∈ gtbl := gq 1784 rfl rfl
theorem q1785 : (Jvm.Cond.methodLink "OwnRainModel" (331 : Nat) ({ cls := "OwnRainModel", name := "name", desc := "(I)V" } : Jvm.MethodName)) ∈ gtbl := gq 1785 (by decide +kernel) rfl
theorem q1787 : (Jvm.Cond.instanceMethod ({ cls := "OwnRainModel", name := "name", desc := "(I)V" } : Jvm.MethodName)) ∈ gtbl := gq 1787 (by decide +kernel) rfl
set_option maxRecDepth 100000 in
theorem q1788 : (Jvm.Cond.code ({ cls := "OwnRainModel", name := "name", desc := "(I)V" } : Jvm.MethodName) prog_14_method_62_code (2 : Nat) (Option.none : Option Jvm.ClassFile.FieldType)) ∈ gtbl := gq 1788 rfl rfl
theorem q1789 : (Jvm.Cond.methodLink "OwnRainModel" (354 : Nat) ({ cls := "OwnRainModel", name := "worked", desc := "(I)I" } : Jvm.MethodName)) ∈ gtbl := gq 1789 (by decide +kernel) rfl
theorem q1791 : (Jvm.Cond.instanceMethod ({ cls := "OwnRainModel", name := "worked", desc := "(I)I" } : Jvm.MethodName)) ∈ gtbl := gq 1791 (by decide +kernel) rfl
set_option maxRecDepth 100000 in
theorem q1792 : (Jvm.Cond.code ({ cls := "OwnRainModel", name := "worked", desc := "(I)I" } : Jvm.MethodName) prog_14_method_66_code (9 : Nat) (Option.some Jvm.ClassFile.FieldType.int)) ∈ gtbl := gq 1792 rfl rfl
theorem q1793 : (Jvm.Cond.methodLink "OwnRainModel" (337 : Nat) ({ cls := "OwnRainModel", name := "two", desc := "(IJJ)J" } : Jvm.MethodName)) ∈ gtbl := gq 1793 (by decide +kernel) rfl
theorem q1794 : (Jvm.Cond.static ({ cls := "OwnRainModel", name := "two", desc := "(IJJ)J" } : Jvm.MethodName)) ∈ gtbl := gq 1794 (by decide +kernel) rfl
set_option maxRecDepth 100000 in
theorem q1795 : (Jvm.Cond.code ({ cls := "OwnRainModel", name := "two", desc := "(IJJ)J" } : Jvm.MethodName) prog_14_method_60_code (5 : Nat) (Option.some Jvm.ClassFile.FieldType.long)) ∈ gtbl := gq 1795 rfl rfl
theorem q1796 : (Jvm.Cond.methodLink "OwnRainModel" (312 : Nat) ({ cls := "OwnRainModel", name := "clip", desc := "(J)J" } : Jvm.MethodName)) ∈ gtbl := gq 1796 (by decide +kernel) rfl
theorem q1797 : (Jvm.Cond.static ({ cls := "OwnRainModel", name := "clip", desc := "(J)J" } : Jvm.MethodName)) ∈ gtbl := gq 1797 (by decide +kernel) rfl
set_option maxRecDepth 100000 in
theorem q1798 : (Jvm.Cond.code ({ cls := "OwnRainModel", name := "clip", desc := "(J)J" } : Jvm.MethodName) prog_14_method_59_code (2 : Nat) (Option.some Jvm.ClassFile.FieldType.long)) ∈ gtbl := gq 1798 rfl rfl
theorem q1799 : (Jvm.Cond.constantLong "OwnRainModel" (308 : Nat) (1000000 : Int64)) ∈ gtbl := gq 1799 (by decide +kernel) rfl
theorem q1800 : (Jvm.Cond.constantLong "OwnRainModel" (310 : Nat) (-1000000 : Int64)) ∈ gtbl := gq 1800 (by decide +kernel) rfl
theorem q1801 : (Jvm.Cond.methodLink "OwnRainModel" (341 : Nat) ({ cls := "OwnRainModel", name := "isAsked", desc := "(IJJ)Z" } : Jvm.MethodName)) ∈ gtbl := gq 1801 (by decide +kernel) rfl
theorem q1802 : (Jvm.Cond.static ({ cls := "OwnRainModel", name := "isAsked", desc := "(IJJ)Z" } : Jvm.MethodName)) ∈ gtbl := gq 1802 (by decide +kernel) rfl
set_option maxRecDepth 100000 in
theorem q1803 : (Jvm.Cond.code ({ cls := "OwnRainModel", name := "isAsked", desc := "(IJJ)Z" } : Jvm.MethodName) prog_14_method_61_code (5 : Nat) (Option.some Jvm.ClassFile.FieldType.boolean)) ∈ gtbl := gq 1803 rfl rfl
theorem q1804 : (Jvm.Cond.methodLink "OwnRainModel" (345 : Nat) ({ cls := "OwnRainModel", name := "takeNext", desc := "()Z" } : Jvm.MethodName)) ∈ gtbl := gq 1804 (by decide +kernel) rfl
theorem q1806 : (Jvm.Cond.instanceMethod ({ cls := "OwnRainModel", name := "takeNext", desc := "()Z" } : Jvm.MethodName)) ∈ gtbl := gq 1806 (by decide +kernel) rfl
set_option maxRecDepth 100000 in
theorem q1807 : (Jvm.Cond.code ({ cls := "OwnRainModel", name := "takeNext", desc := "()Z" } : Jvm.MethodName) prog_14_method_64_code (1 : Nat) (Option.some Jvm.ClassFile.FieldType.boolean)) ∈ gtbl := gq 1807 rfl rfl
theorem q1808 : (Jvm.Cond.methodLink "OwnRainModel" (328 : Nat) ({ cls := "OwnRainModel", name := "nextThere", desc := "(I)I" } : Jvm.MethodName)) ∈ gtbl := gq 1808 (by decide +kernel) rfl
theorem q1810 : (Jvm.Cond.instanceMethod ({ cls := "OwnRainModel", name := "nextThere", desc := "(I)I" } : Jvm.MethodName)) ∈ gtbl := gq 1810 (by decide +kernel) rfl
set_option maxRecDepth 100000 in
theorem q1811 : (Jvm.Cond.code ({ cls := "OwnRainModel", name := "nextThere", desc := "(I)I" } : Jvm.MethodName) prog_14_method_63_code (3 : Nat) (Option.some Jvm.ClassFile.FieldType.int)) ∈ gtbl := gq 1811 rfl rfl
theorem q1812 : (Jvm.Cond.methodLink "OwnRainModel" (348 : Nat) ({ cls := "OwnRainModel", name := "endEach", desc := "(I)I" } : Jvm.MethodName)) ∈ gtbl := gq 1812 (by decide +kernel) rfl
theorem q1814 : (Jvm.Cond.instanceMethod ({ cls := "OwnRainModel", name := "endEach", desc := "(I)I" } : Jvm.MethodName)) ∈ gtbl := gq 1814 (by decide +kernel) rfl
set_option maxRecDepth 100000 in
theorem q1815 : (Jvm.Cond.code ({ cls := "OwnRainModel", name := "endEach", desc := "(I)I" } : Jvm.MethodName) prog_14_method_65_code (2 : Nat) (Option.some Jvm.ClassFile.FieldType.int)) ∈ gtbl := gq 1815 rfl rfl
theorem q1816 : (Jvm.Cond.methodLink "OwnRainModel" (364 : Nat) ({ cls := "OwnRainModel", name := "addTo", desc := "(II)V" } : Jvm.MethodName)) ∈ gtbl := gq 1816 (by decide +kernel) rfl
theorem q1818 : (Jvm.Cond.instanceMethod ({ cls := "OwnRainModel", name := "addTo", desc := "(II)V" } : Jvm.MethodName)) ∈ gtbl := gq 1818 (by decide +kernel) rfl
set_option maxRecDepth 100000 in
theorem q1819 : (Jvm.Cond.code ({ cls := "OwnRainModel", name := "addTo", desc := "(II)V" } : Jvm.MethodName) prog_14_method_11_code (3 : Nat) (Option.none : Option Jvm.ClassFile.FieldType)) ∈ gtbl := gq 1819 rfl rfl
theorem q1820 : (Jvm.Cond.methodLink "OwnRainModel" (379 : Nat) ({ cls := "OwnRainModel", name := "rainOf", desc := "(I)V" } : Jvm.MethodName)) ∈ gtbl := gq 1820 (by decide +kernel) rfl
theorem q1822 : (Jvm.Cond.instanceMethod ({ cls := "OwnRainModel", name := "rainOf", desc := "(I)V" } : Jvm.MethodName)) ∈ gtbl := gq 1822 (by decide +kernel) rfl
set_option maxRecDepth 100000 in
theorem q1823 : (Jvm.Cond.code ({ cls := "OwnRainModel", name := "rainOf", desc := "(I)V" } : Jvm.MethodName) prog_14_method_70_code (5 : Nat) (Option.none : Option Jvm.ClassFile.FieldType)) ∈ gtbl := gq 1823 rfl rfl
theorem q1824 : (Jvm.Cond.methodLink "OwnRainModel" (361 : Nat) ({ cls := "OwnRainModel", name := "wet", desc := "(II)V" } : Jvm.MethodName)) ∈ gtbl := gq 1824 (by decide +kernel) rfl
theorem q1826 : (Jvm.Cond.instanceMethod ({ cls := "OwnRainModel", name := "wet", desc := "(II)V" } : Jvm.MethodName)) ∈ gtbl := gq 1826 (by decide +kernel) rfl
set_option maxRecDepth 100000 in
theorem q1827 : (Jvm.Cond.code ({ cls := "OwnRainModel", name := "wet", desc := "(II)V" } : Jvm.MethodName) prog_14_method_12_code (3 : Nat) (Option.none : Option Jvm.ClassFile.FieldType)) ∈ gtbl := gq 1827 rfl rfl
theorem q1828 : (Jvm.Cond.methodLink "OwnRainModel" (370 : Nat) ({ cls := "OwnRainModel", name := "write", desc := "(II)V" } : Jvm.MethodName)) ∈ gtbl := gq 1828 (by decide +kernel) rfl
theorem q1830 : (Jvm.Cond.instanceMethod ({ cls := "OwnRainModel", name := "write", desc := "(II)V" } : Jvm.MethodName)) ∈ gtbl := gq 1830 (by decide +kernel) rfl
set_option maxRecDepth 100000 in
theorem q1831 : (Jvm.Cond.code ({ cls := "OwnRainModel", name := "write", desc := "(II)V" } : Jvm.MethodName) prog_14_method_69_code (3 : Nat) (Option.none : Option Jvm.ClassFile.FieldType)) ∈ gtbl := gq 1831 rfl rfl
theorem q1832 : (Jvm.Cond.methodLink "OwnRainModel" (385 : Nat) ({ cls := "OwnRainModel", name := "dryAll", desc := "()V" } : Jvm.MethodName)) ∈ gtbl := gq 1832 (by decide +kernel) rfl
theorem q1834 : (Jvm.Cond.instanceMethod ({ cls := "OwnRainModel", name := "dryAll", desc := "()V" } : Jvm.MethodName)) ∈ gtbl := gq 1834 (by decide +kernel) rfl
set_option maxRecDepth 100000 in
theorem q1835 : (Jvm.Cond.code ({ cls := "OwnRainModel", name := "dryAll", desc := "()V" } : Jvm.MethodName) prog_14_method_72_code (4 : Nat) (Option.none : Option Jvm.ClassFile.FieldType)) ∈ gtbl := gq 1835 rfl rfl
theorem q1836 : (Jvm.Cond.methodLink "OwnRainLaw" (59 : Nat) ({ cls := "OwnRainModel", name := "work", desc := "(II)Z" } : Jvm.MethodName)) ∈ gtbl := gq 1836 (by decide +kernel) rfl
theorem q1837 : (Jvm.Cond.instanceMethod ({ cls := "OwnRainModel", name := "work", desc := "(II)Z" } : Jvm.MethodName)) ∈ gtbl := gq 1837 (by decide +kernel) rfl
theorem q1838 : (Jvm.Cond.selects "OwnRainModel" ({ cls := "OwnRainModel", name := "work", desc := "(II)Z" } : Jvm.MethodName) ({ cls := "OwnRainModel", name := "work", desc := "(II)Z" } : Jvm.MethodName)) ∈ gtbl := gq 1838 (by decide +kernel) rfl
set_option maxRecDepth 100000 in
theorem q1839 : (Jvm.Cond.code ({ cls := "OwnRainModel", name := "work", desc := "(II)Z" } : Jvm.MethodName) prog_14_method_78_code (3 : Nat) (Option.some Jvm.ClassFile.FieldType.boolean)) ∈ gtbl := gq 1839 rfl rfl
theorem q1840 : (Jvm.Cond.methodLink "OwnRainModel" (397 : Nat) ({ cls := "OwnRainModel", name := "isPerson", desc := "(I)Z" } : Jvm.MethodName)) ∈ gtbl := gq 1840 (by decide +kernel) rfl
theorem q1842 : (Jvm.Cond.instanceMethod ({ cls := "OwnRainModel", name := "isPerson", desc := "(I)Z" } : Jvm.MethodName)) ∈ gtbl := gq 1842 (by decide +kernel) rfl
set_option maxRecDepth 100000 in
theorem q1843 : (Jvm.Cond.code ({ cls := "OwnRainModel", name := "isPerson", desc := "(I)Z" } : Jvm.MethodName) prog_14_method_7_code (2 : Nat) (Option.some Jvm.ClassFile.FieldType.boolean)) ∈ gtbl := gq 1843 rfl rfl
theorem q1844 : (Jvm.Cond.methodLink "OwnRainLaw" (63 : Nat) ({ cls := "OwnRainModel", name := "go", desc := "(II)Z" } : Jvm.MethodName)) ∈ gtbl := gq 1844 (by decide +kernel) rfl
theorem q1845 : (Jvm.Cond.instanceMethod ({ cls := "OwnRainModel", name := "go", desc := "(II)Z" } : Jvm.MethodName)) ∈ gtbl := gq 1845 (by decide +kernel) rfl
theorem q1846 : (Jvm.Cond.selects "OwnRainModel" ({ cls := "OwnRainModel", name := "go", desc := "(II)Z" } : Jvm.MethodName) ({ cls := "OwnRainModel", name := "go", desc := "(II)Z" } : Jvm.MethodName)) ∈ gtbl := gq 1846 (by decide +kernel) rfl
set_option maxRecDepth 100000 in
theorem q1847 : (Jvm.Cond.code ({ cls := "OwnRainModel", name := "go", desc := "(II)Z" } : Jvm.MethodName) prog_14_method_80_code (3 : Nat) (Option.some Jvm.ClassFile.FieldType.boolean)) ∈ gtbl := gq 1847 rfl rfl
theorem q1848 : (Jvm.Cond.methodLink "OwnRainModel" (400 : Nat) ({ cls := "OwnRainModel", name := "canGo", desc := "(II)Z" } : Jvm.MethodName)) ∈ gtbl := gq 1848 (by decide +kernel) rfl
theorem q1850 : (Jvm.Cond.instanceMethod ({ cls := "OwnRainModel", name := "canGo", desc := "(II)Z" } : Jvm.MethodName)) ∈ gtbl := gq 1850 (by decide +kernel) rfl
set_option maxRecDepth 100000 in
theorem q1851 : (Jvm.Cond.code ({ cls := "OwnRainModel", name := "canGo", desc := "(II)Z" } : Jvm.MethodName) prog_14_method_79_code (3 : Nat) (Option.some Jvm.ClassFile.FieldType.boolean)) ∈ gtbl := gq 1851 rfl rfl
theorem q1852 : (Jvm.Cond.methodLink "OwnRainLaw" (68 : Nat) ({ cls := "OwnRainModel", name := "shake", desc := "(II)I" } : Jvm.MethodName)) ∈ gtbl := gq 1852 (by decide +kernel) rfl
theorem q1853 : (Jvm.Cond.instanceMethod ({ cls := "OwnRainModel", name := "shake", desc := "(II)I" } : Jvm.MethodName)) ∈ gtbl := gq 1853 (by decide +kernel) rfl
theorem q1854 : (Jvm.Cond.selects "OwnRainModel" ({ cls := "OwnRainModel", name := "shake", desc := "(II)I" } : Jvm.MethodName) ({ cls := "OwnRainModel", name := "shake", desc := "(II)I" } : Jvm.MethodName)) ∈ gtbl := gq 1854 (by decide +kernel) rfl
set_option maxRecDepth 100000 in
theorem q1855 : (Jvm.Cond.code ({ cls := "OwnRainModel", name := "shake", desc := "(II)I" } : Jvm.MethodName) prog_14_method_83_code (3 : Nat) (Option.some Jvm.ClassFile.FieldType.int)) ∈ gtbl := gq 1855 rfl rfl
theorem q1856 : (Jvm.Cond.methodLink "OwnRainModel" (403 : Nat) ({ cls := "OwnRainModel", name := "canShake", desc := "(II)Z" } : Jvm.MethodName)) ∈ gtbl := gq 1856 (by decide +kernel) rfl
theorem q1858 : (Jvm.Cond.instanceMethod ({ cls := "OwnRainModel", name := "canShake", desc := "(II)Z" } : Jvm.MethodName)) ∈ gtbl := gq 1858 (by decide +kernel) rfl
set_option maxRecDepth 100000 in
theorem q1859 : (Jvm.Cond.code ({ cls := "OwnRainModel", name := "canShake", desc := "(II)Z" } : Jvm.MethodName) prog_14_method_81_code (3 : Nat) (Option.some Jvm.ClassFile.FieldType.boolean)) ∈ gtbl := gq 1859 rfl rfl
theorem q1860 : (Jvm.Cond.methodLink "OwnRainModel" (406 : Nat) ({ cls := "OwnRainModel", name := "shakeNow", desc := "(II)V" } : Jvm.MethodName)) ∈ gtbl := gq 1860 (by decide +kernel) rfl
theorem q1862 : (Jvm.Cond.instanceMethod ({ cls := "OwnRainModel", name := "shakeNow", desc := "(II)V" } : Jvm.MethodName)) ∈ gtbl := gq 1862 (by decide +kernel) rfl
set_option maxRecDepth 100000 in
theorem q1863 : (Jvm.Cond.code ({ cls := "OwnRainModel", name := "shakeNow", desc := "(II)V" } : Jvm.MethodName) prog_14_method_82_code (5 : Nat) (Option.none : Option Jvm.ClassFile.FieldType)) ∈ gtbl := gq 1863 rfl rfl
theorem q1864 : (Jvm.Cond.methodLink "OwnRainLaw" (72 : Nat) ({ cls := "OwnRainModel", name := "steal", desc := "(III)I" } : Jvm.MethodName)) ∈ gtbl := gq 1864 (by decide +kernel) rfl
theorem q1865 : (Jvm.Cond.instanceMethod ({ cls := "OwnRainModel", name := "steal", desc := "(III)I" } : Jvm.MethodName)) ∈ gtbl := gq 1865 (by decide +kernel) rfl
theorem q1866 : (Jvm.Cond.selects "OwnRainModel" ({ cls := "OwnRainModel", name := "steal", desc := "(III)I" } : Jvm.MethodName) ({ cls := "OwnRainModel", name := "steal", desc := "(III)I" } : Jvm.MethodName)) ∈ gtbl := gq 1866 (by decide +kernel) rfl
set_option maxRecDepth 100000 in
theorem q1867 : (Jvm.Cond.code ({ cls := "OwnRainModel", name := "steal", desc := "(III)I" } : Jvm.MethodName) prog_14_method_86_code (4 : Nat) (Option.some Jvm.ClassFile.FieldType.int)) ∈ gtbl := gq 1867 rfl rfl
theorem q1868 : (Jvm.Cond.methodLink "OwnRainModel" (409 : Nat) ({ cls := "OwnRainModel", name := "canSteal", desc := "(III)Z" } : Jvm.MethodName)) ∈ gtbl := gq 1868 (by decide +kernel) rfl
theorem q1870 : (Jvm.Cond.instanceMethod ({ cls := "OwnRainModel", name := "canSteal", desc := "(III)Z" } : Jvm.MethodName)) ∈ gtbl := gq 1870 (by decide +kernel) rfl
set_option maxRecDepth 100000 in
theorem q1871 : (Jvm.Cond.code ({ cls := "OwnRainModel", name := "canSteal", desc := "(III)Z" } : Jvm.MethodName) prog_14_method_84_code (4 : Nat) (Option.some Jvm.ClassFile.FieldType.boolean)) ∈ gtbl := gq 1871 rfl rfl
theorem q1872 : (Jvm.Cond.methodLink "OwnRainModel" (412 : Nat) ({ cls := "OwnRainModel", name := "stealNow", desc := "(III)V" } : Jvm.MethodName)) ∈ gtbl := gq 1872 (by decide +kernel) rfl
theorem q1874 : (Jvm.Cond.instanceMethod ({ cls := "OwnRainModel", name := "stealNow", desc := "(III)V" } : Jvm.MethodName)) ∈ gtbl := gq 1874 (by decide +kernel) rfl
set_option maxRecDepth 100000 in
theorem q1875 : (Jvm.Cond.code ({ cls := "OwnRainModel", name := "stealNow", desc := "(III)V" } : Jvm.MethodName) prog_14_method_85_code (4 : Nat) (Option.none : Option Jvm.ClassFile.FieldType)) ∈ gtbl := gq 1875 rfl rfl
theorem q1876 : (Jvm.Cond.methodLink "OwnRainLaw" (76 : Nat) ({ cls := "OwnRainModel", name := "pour", desc := "(II)I" } : Jvm.MethodName)) ∈ gtbl := gq 1876 (by decide +kernel) rfl
theorem q1877 : (Jvm.Cond.instanceMethod ({ cls := "OwnRainModel", name := "pour", desc := "(II)I" } : Jvm.MethodName)) ∈ gtbl := gq 1877 (by decide +kernel) rfl
theorem q1878 : (Jvm.Cond.selects "OwnRainModel" ({ cls := "OwnRainModel", name := "pour", desc := "(II)I" } : Jvm.MethodName) ({ cls := "OwnRainModel", name := "pour", desc := "(II)I" } : Jvm.MethodName)) ∈ gtbl := gq 1878 (by decide +kernel) rfl
set_option maxRecDepth 100000 in
theorem q1879 : (Jvm.Cond.code ({ cls := "OwnRainModel", name := "pour", desc := "(II)I" } : Jvm.MethodName) prog_14_method_87_code (3 : Nat) (Option.some Jvm.ClassFile.FieldType.int)) ∈ gtbl := gq 1879 rfl rfl
theorem q1880 : (Jvm.Cond.methodLink "OwnRainLaw" (80 : Nat) ({ cls := "OwnRainModel", name := "played", desc := "(I)I" } : Jvm.MethodName)) ∈ gtbl := gq 1880 (by decide +kernel) rfl
theorem q1881 : (Jvm.Cond.instanceMethod ({ cls := "OwnRainModel", name := "played", desc := "(I)I" } : Jvm.MethodName)) ∈ gtbl := gq 1881 (by decide +kernel) rfl
theorem q1882 : (Jvm.Cond.selects "OwnRainModel" ({ cls := "OwnRainModel", name := "played", desc := "(I)I" } : Jvm.MethodName) ({ cls := "OwnRainModel", name := "played", desc := "(I)I" } : Jvm.MethodName)) ∈ gtbl := gq 1882 (by decide +kernel) rfl
set_option maxRecDepth 100000 in
theorem q1883 : (Jvm.Cond.code ({ cls := "OwnRainModel", name := "played", desc := "(I)I" } : Jvm.MethodName) prog_14_method_90_code (3 : Nat) (Option.some Jvm.ClassFile.FieldType.int)) ∈ gtbl := gq 1883 rfl rfl
theorem q1884 : (Jvm.Cond.methodLink "OwnRainModel" (443 : Nat) ({ cls := "OwnRainModel", name := "isPlayed", desc := "(I)Z" } : Jvm.MethodName)) ∈ gtbl := gq 1884 (by decide +kernel) rfl
theorem q1886 : (Jvm.Cond.instanceMethod ({ cls := "OwnRainModel", name := "isPlayed", desc := "(I)Z" } : Jvm.MethodName)) ∈ gtbl := gq 1886 (by decide +kernel) rfl
set_option maxRecDepth 100000 in
theorem q1887 : (Jvm.Cond.code ({ cls := "OwnRainModel", name := "isPlayed", desc := "(I)Z" } : Jvm.MethodName) prog_14_method_89_code (5 : Nat) (Option.some Jvm.ClassFile.FieldType.boolean)) ∈ gtbl := gq 1887 rfl rfl
theorem q1888 : (Jvm.Cond.methodLink "OwnRainModel" (415 : Nat) ({ cls := "OwnRainModel", name := "field", desc := "(III)I" } : Jvm.MethodName)) ∈ gtbl := gq 1888 (by decide +kernel) rfl
theorem q1889 : (Jvm.Cond.methodLink "OwnRainModel" (418 : Nat) ({ cls := "OwnRainModel", name := "road", desc := "(II)Z" } : Jvm.MethodName)) ∈ gtbl := gq 1889 (by decide +kernel) rfl
theorem q1890 : (Jvm.Cond.methodLink "OwnRainModel" (421 : Nat) ({ cls := "OwnRainModel", name := "person", desc := "(IIII)I" } : Jvm.MethodName)) ∈ gtbl := gq 1890 (by decide +kernel) rfl
theorem q1891 : (Jvm.Cond.methodLink "OwnRainModel" (425 : Nat) ({ cls := "OwnRainModel", name := "work", desc := "(II)Z" } : Jvm.MethodName)) ∈ gtbl := gq 1891 (by decide +kernel) rfl
theorem q1892 : (Jvm.Cond.methodLink "OwnRainModel" (428 : Nat) ({ cls := "OwnRainModel", name := "go", desc := "(II)Z" } : Jvm.MethodName)) ∈ gtbl := gq 1892 (by decide +kernel) rfl
theorem q1893 : (Jvm.Cond.methodLink "OwnRainModel" (431 : Nat) ({ cls := "OwnRainModel", name := "shake", desc := "(II)I" } : Jvm.MethodName)) ∈ gtbl := gq 1893 (by decide +kernel) rfl
theorem q1894 : (Jvm.Cond.methodLink "OwnRainModel" (434 : Nat) ({ cls := "OwnRainModel", name := "steal", desc := "(III)I" } : Jvm.MethodName)) ∈ gtbl := gq 1894 (by decide +kernel) rfl
theorem q1895 : (Jvm.Cond.methodLink "OwnRainModel" (437 : Nat) ({ cls := "OwnRainModel", name := "pour", desc := "(II)I" } : Jvm.MethodName)) ∈ gtbl := gq 1895 (by decide +kernel) rfl
theorem q1896 : (Jvm.Cond.methodLink "OwnRainModel" (440 : Nat) ({ cls := "OwnRainModel", name := "areHours", desc := "(I)Z" } : Jvm.MethodName)) ∈ gtbl := gq 1896 (by decide +kernel) rfl
theorem q1898 : (Jvm.Cond.instanceMethod ({ cls := "OwnRainModel", name := "areHours", desc := "(I)Z" } : Jvm.MethodName)) ∈ gtbl := gq 1898 (by decide +kernel) rfl
set_option maxRecDepth 100000 in
theorem q1899 : (Jvm.Cond.code ({ cls := "OwnRainModel", name := "areHours", desc := "(I)Z" } : Jvm.MethodName) prog_14_method_88_code (3 : Nat) (Option.some Jvm.ClassFile.FieldType.boolean)) ∈ gtbl := gq 1899 rfl rfl
theorem q1900 : (Jvm.Cond.methodLink "OwnRainLaw" (84 : Nat) ({ cls := "OwnRainModel", name := "year", desc := "(II)I" } : Jvm.MethodName)) ∈ gtbl := gq 1900 (by decide +kernel) rfl
theorem q1901 : (Jvm.Cond.instanceMethod ({ cls := "OwnRainModel", name := "year", desc := "(II)I" } : Jvm.MethodName)) ∈ gtbl := gq 1901 (by decide +kernel) rfl
theorem q1902 : (Jvm.Cond.selects "OwnRainModel" ({ cls := "OwnRainModel", name := "year", desc := "(II)I" } : Jvm.MethodName) ({ cls := "OwnRainModel", name := "year", desc := "(II)I" } : Jvm.MethodName)) ∈ gtbl := gq 1902 (by decide +kernel) rfl
set_option maxRecDepth 100000 in
theorem q1903 : (Jvm.Cond.code ({ cls := "OwnRainModel", name := "year", desc := "(II)I" } : Jvm.MethodName) prog_14_method_93_code (7 : Nat) (Option.some Jvm.ClassFile.FieldType.int)) ∈ gtbl := gq 1903 rfl rfl
theorem q1904 : (Jvm.Cond.methodLink "OwnRainModel" (446 : Nat) ({ cls := "OwnRainModel", name := "anew", desc := "(I)I" } : Jvm.MethodName)) ∈ gtbl := gq 1904 (by decide +kernel) rfl
theorem q1905 : (Jvm.Cond.static ({ cls := "OwnRainModel", name := "anew", desc := "(I)I" } : Jvm.MethodName)) ∈ gtbl := gq 1905 (by decide +kernel) rfl
set_option maxRecDepth 100000 in
theorem q1906 : (Jvm.Cond.code ({ cls := "OwnRainModel", name := "anew", desc := "(I)I" } : Jvm.MethodName) prog_14_method_91_code (1 : Nat) (Option.some Jvm.ClassFile.FieldType.int)) ∈ gtbl := gq 1906 rfl rfl
theorem q1907 : (Jvm.Cond.methodLink "OwnRainModel" (449 : Nat) ({ cls := "OwnRainModel", name := "happens", desc := "(II)I" } : Jvm.MethodName)) ∈ gtbl := gq 1907 (by decide +kernel) rfl
theorem q1909 : (Jvm.Cond.instanceMethod ({ cls := "OwnRainModel", name := "happens", desc := "(II)I" } : Jvm.MethodName)) ∈ gtbl := gq 1909 (by decide +kernel) rfl
set_option maxRecDepth 100000 in
theorem q1910 : (Jvm.Cond.code ({ cls := "OwnRainModel", name := "happens", desc := "(II)I" } : Jvm.MethodName) prog_14_method_92_code (6 : Nat) (Option.some Jvm.ClassFile.FieldType.int)) ∈ gtbl := gq 1910 rfl rfl
theorem q1911 : (Jvm.Cond.methodLink "OwnRainLaw" (92 : Nat) ({ cls := "OwnRainModel", name := "ofField", desc := "(II)I" } : Jvm.MethodName)) ∈ gtbl := gq 1911 (by decide +kernel) rfl
theorem q1912 : (Jvm.Cond.instanceMethod ({ cls := "OwnRainModel", name := "ofField", desc := "(II)I" } : Jvm.MethodName)) ∈ gtbl := gq 1912 (by decide +kernel) rfl
theorem q1913 : (Jvm.Cond.selects "OwnRainModel" ({ cls := "OwnRainModel", name := "ofField", desc := "(II)I" } : Jvm.MethodName) ({ cls := "OwnRainModel", name := "ofField", desc := "(II)I" } : Jvm.MethodName)) ∈ gtbl := gq 1913 (by decide +kernel) rfl
set_option maxRecDepth 100000 in
theorem q1914 : (Jvm.Cond.code ({ cls := "OwnRainModel", name := "ofField", desc := "(II)I" } : Jvm.MethodName) prog_14_method_95_code (3 : Nat) (Option.some Jvm.ClassFile.FieldType.int)) ∈ gtbl := gq 1914 rfl rfl
theorem q1915 : (Jvm.Cond.methodLink "OwnRainModel" (452 : Nat) ({ cls := "OwnRainModel", name := "peopleOn", desc := "(I)I" } : Jvm.MethodName)) ∈ gtbl := gq 1915 (by decide +kernel) rfl
theorem q1917 : (Jvm.Cond.instanceMethod ({ cls := "OwnRainModel", name := "peopleOn", desc := "(I)I" } : Jvm.MethodName)) ∈ gtbl := gq 1917 (by decide +kernel) rfl
set_option maxRecDepth 100000 in
theorem q1918 : (Jvm.Cond.code ({ cls := "OwnRainModel", name := "peopleOn", desc := "(I)I" } : Jvm.MethodName) prog_14_method_94_code (4 : Nat) (Option.some Jvm.ClassFile.FieldType.int)) ∈ gtbl := gq 1918 rfl rfl
theorem q1919 : (Jvm.Cond.methodLink "OwnRainLaw" (96 : Nat) ({ cls := "OwnRainModel", name := "ofPerson", desc := "(II)I" } : Jvm.MethodName)) ∈ gtbl := gq 1919 (by decide +kernel) rfl
theorem q1920 : (Jvm.Cond.instanceMethod ({ cls := "OwnRainModel", name := "ofPerson", desc := "(II)I" } : Jvm.MethodName)) ∈ gtbl := gq 1920 (by decide +kernel) rfl
theorem q1921 : (Jvm.Cond.selects "OwnRainModel" ({ cls := "OwnRainModel", name := "ofPerson", desc := "(II)I" } : Jvm.MethodName) ({ cls := "OwnRainModel", name := "ofPerson", desc := "(II)I" } : Jvm.MethodName)) ∈ gtbl := gq 1921 (by decide +kernel) rfl
set_option maxRecDepth 100000 in
theorem q1922 : (Jvm.Cond.code ({ cls := "OwnRainModel", name := "ofPerson", desc := "(II)I" } : Jvm.MethodName) prog_14_method_97_code (3 : Nat) (Option.some Jvm.ClassFile.FieldType.int)) ∈ gtbl := gq 1922 rfl rfl
theorem q1923 : (Jvm.Cond.methodLink "OwnRainModel" (455 : Nat) ({ cls := "OwnRainModel", name := "wasAt", desc := "(II)I" } : Jvm.MethodName)) ∈ gtbl := gq 1923 (by decide +kernel) rfl
theorem q1925 : (Jvm.Cond.instanceMethod ({ cls := "OwnRainModel", name := "wasAt", desc := "(II)I" } : Jvm.MethodName)) ∈ gtbl := gq 1925 (by decide +kernel) rfl
set_option maxRecDepth 100000 in
theorem q1926 : (Jvm.Cond.code ({ cls := "OwnRainModel", name := "wasAt", desc := "(II)I" } : Jvm.MethodName) prog_14_method_96_code (3 : Nat) (Option.some Jvm.ClassFile.FieldType.int)) ∈ gtbl := gq 1926 rfl rfl
theorem q1927 : (Jvm.Cond.methodLink "OwnRainLaw" (100 : Nat) ({ cls := "OwnRainModel", name := "rained", desc := "(II)I" } : Jvm.MethodName)) ∈ gtbl := gq 1927 (by decide +kernel) rfl
theorem q1928 : (Jvm.Cond.instanceMethod ({ cls := "OwnRainModel", name := "rained", desc := "(II)I" } : Jvm.MethodName)) ∈ gtbl := gq 1928 (by decide +kernel) rfl
theorem q1929 : (Jvm.Cond.selects "OwnRainModel" ({ cls := "OwnRainModel", name := "rained", desc := "(II)I" } : Jvm.MethodName) ({ cls := "OwnRainModel", name := "rained", desc := "(II)I" } : Jvm.MethodName)) ∈ gtbl := gq 1929 (by decide +kernel) rfl
set_option maxRecDepth 100000 in
theorem q1930 : (Jvm.Cond.code ({ cls := "OwnRainModel", name := "rained", desc := "(II)I" } : Jvm.MethodName) prog_14_method_98_code (5 : Nat) (Option.some Jvm.ClassFile.FieldType.int)) ∈ gtbl := gq 1930 rfl rfl
theorem q1931 : (Jvm.Cond.constant "OwnRainModel" (458 : Nat) (6000000 : Int32)) ∈ gtbl := gq 1931 (by decide +kernel) rfl
theorem q1932 : (Jvm.Cond.methodLink "OwnRainLaw" (104 : Nat) ({ cls := "OwnRainModel", name := "foretoldWet", desc := "(II)I" } : Jvm.MethodName)) ∈ gtbl := gq 1932 (by decide +kernel) rfl
theorem q1933 : (Jvm.Cond.instanceMethod ({ cls := "OwnRainModel", name := "foretoldWet", desc := "(II)I" } : Jvm.MethodName)) ∈ gtbl := gq 1933 (by decide +kernel) rfl
theorem q1934 : (Jvm.Cond.selects "OwnRainModel" ({ cls := "OwnRainModel", name := "foretoldWet", desc := "(II)I" } : Jvm.MethodName) ({ cls := "OwnRainModel", name := "foretoldWet", desc := "(II)I" } : Jvm.MethodName)) ∈ gtbl := gq 1934 (by decide +kernel) rfl
set_option maxRecDepth 100000 in
theorem q1935 : (Jvm.Cond.code ({ cls := "OwnRainModel", name := "foretoldWet", desc := "(II)I" } : Jvm.MethodName) prog_14_method_102_code (4 : Nat) (Option.some Jvm.ClassFile.FieldType.int)) ∈ gtbl := gq 1935 rfl rfl
theorem q1936 : (Jvm.Cond.methodLink "OwnRainModel" (459 : Nat) ({ cls := "OwnRainModel", name := "begin", desc := "()V" } : Jvm.MethodName)) ∈ gtbl := gq 1936 (by decide +kernel) rfl
theorem q1938 : (Jvm.Cond.instanceMethod ({ cls := "OwnRainModel", name := "begin", desc := "()V" } : Jvm.MethodName)) ∈ gtbl := gq 1938 (by decide +kernel) rfl
set_option maxRecDepth 100000 in
theorem q1939 : (Jvm.Cond.code ({ cls := "OwnRainModel", name := "begin", desc := "()V" } : Jvm.MethodName) prog_14_method_99_code (2 : Nat) (Option.none : Option Jvm.ClassFile.FieldType)) ∈ gtbl := gq 1939 rfl rfl
theorem q1940 : (Jvm.Cond.methodLink "OwnRainModel" (462 : Nat) ({ cls := "OwnRainModel", name := "passOnward", desc := "()V" } : Jvm.MethodName)) ∈ gtbl := gq 1940 (by decide +kernel) rfl
theorem q1942 : (Jvm.Cond.instanceMethod ({ cls := "OwnRainModel", name := "passOnward", desc := "()V" } : Jvm.MethodName)) ∈ gtbl := gq 1942 (by decide +kernel) rfl
set_option maxRecDepth 100000 in
theorem q1943 : (Jvm.Cond.code ({ cls := "OwnRainModel", name := "passOnward", desc := "()V" } : Jvm.MethodName) prog_14_method_101_code (2 : Nat) (Option.none : Option Jvm.ClassFile.FieldType)) ∈ gtbl := gq 1943 rfl rfl
theorem q1944 : (Jvm.Cond.methodLink "OwnRainModel" (465 : Nat) ({ cls := "OwnRainModel", name := "putBack", desc := "()V" } : Jvm.MethodName)) ∈ gtbl := gq 1944 (by decide +kernel) rfl
theorem q1946 : (Jvm.Cond.instanceMethod ({ cls := "OwnRainModel", name := "putBack", desc := "()V" } : Jvm.MethodName)) ∈ gtbl := gq 1946 (by decide +kernel) rfl
set_option maxRecDepth 100000 in
theorem q1947 : (Jvm.Cond.code ({ cls := "OwnRainModel", name := "putBack", desc := "()V" } : Jvm.MethodName) prog_14_method_100_code (2 : Nat) (Option.none : Option Jvm.ClassFile.FieldType)) ∈ gtbl := gq 1947 rfl rfl
theorem q1948 : (Jvm.Cond.methodLink "OwnRainLaw" (109 : Nat) ({ cls := "OwnRainModel", name := "foretoldCloud", desc := "(IIZ)I" } : Jvm.MethodName)) ∈ gtbl := gq 1948 (by decide +kernel) rfl
theorem q1949 : (Jvm.Cond.instanceMethod ({ cls := "OwnRainModel", name := "foretoldCloud", desc := "(IIZ)I" } : Jvm.MethodName)) ∈ gtbl := gq 1949 (by decide +kernel) rfl
theorem q1950 : (Jvm.Cond.selects "OwnRainModel" ({ cls := "OwnRainModel", name := "foretoldCloud", desc := "(IIZ)I" } : Jvm.MethodName) ({ cls := "OwnRainModel", name := "foretoldCloud", desc := "(IIZ)I" } : Jvm.MethodName)) ∈ gtbl := gq 1950 (by decide +kernel) rfl
set_option maxRecDepth 100000 in
theorem q1951 : (Jvm.Cond.code ({ cls := "OwnRainModel", name := "foretoldCloud", desc := "(IIZ)I" } : Jvm.MethodName) prog_14_method_103_code (5 : Nat) (Option.some Jvm.ClassFile.FieldType.int)) ∈ gtbl := gq 1951 rfl rfl
theorem q1952 : (Jvm.Cond.methodLink "OwnRainLaw" (113 : Nat) ({ cls := "OwnRainModel", name := "plan", desc := "(III)I" } : Jvm.MethodName)) ∈ gtbl := gq 1952 (by decide +kernel) rfl
theorem q1953 : (Jvm.Cond.instanceMethod ({ cls := "OwnRainModel", name := "plan", desc := "(III)I" } : Jvm.MethodName)) ∈ gtbl := gq 1953 (by decide +kernel) rfl
theorem q1954 : (Jvm.Cond.selects "OwnRainModel" ({ cls := "OwnRainModel", name := "plan", desc := "(III)I" } : Jvm.MethodName) ({ cls := "OwnRainModel", name := "plan", desc := "(III)I" } : Jvm.MethodName)) ∈ gtbl := gq 1954 (by decide +kernel) rfl
set_option maxRecDepth 100000 in
theorem q1955 : (Jvm.Cond.code ({ cls := "OwnRainModel", name := "plan", desc := "(III)I" } : Jvm.MethodName) prog_14_method_106_code (8 : Nat) (Option.some Jvm.ClassFile.FieldType.int)) ∈ gtbl := gq 1955 rfl rfl
theorem q1956 : (Jvm.Cond.constant "OwnRainModel" (471 : Nat) (1000000 : Int32)) ∈ gtbl := gq 1956 (by decide +kernel) rfl
theorem q1957 : (Jvm.Cond.methodLink "OwnRainModel" (472 : Nat) ({ cls := "OwnRainModel", name := "sweatBy", desc := "(III)I" } : Jvm.MethodName)) ∈ gtbl := gq 1957 (by decide +kernel) rfl
theorem q1959 : (Jvm.Cond.instanceMethod ({ cls := "OwnRainModel", name := "sweatBy", desc := "(III)I" } : Jvm.MethodName)) ∈ gtbl := gq 1959 (by decide +kernel) rfl
set_option maxRecDepth 100000 in
theorem q1960 : (Jvm.Cond.code ({ cls := "OwnRainModel", name := "sweatBy", desc := "(III)I" } : Jvm.MethodName) prog_14_method_104_code (10 : Nat) (Option.some Jvm.ClassFile.FieldType.int)) ∈ gtbl := gq 1960 rfl rfl
theorem q1961 : (Jvm.Cond.methodLink "OwnRainModel" (468 : Nat) ({ cls := "OwnRainModel", name := "sweatAllFor", desc := "(I)I" } : Jvm.MethodName)) ∈ gtbl := gq 1961 (by decide +kernel) rfl
theorem q1963 : (Jvm.Cond.instanceMethod ({ cls := "OwnRainModel", name := "sweatAllFor", desc := "(I)I" } : Jvm.MethodName)) ∈ gtbl := gq 1963 (by decide +kernel) rfl
set_option maxRecDepth 100000 in
theorem q1964 : (Jvm.Cond.code ({ cls := "OwnRainModel", name := "sweatAllFor", desc := "(I)I" } : Jvm.MethodName) prog_14_method_105_code (5 : Nat) (Option.some Jvm.ClassFile.FieldType.int)) ∈ gtbl := gq 1964 rfl rfl
theorem q1965 : (Jvm.Cond.methodLink "OwnRainLaw" (117 : Nat) ({ cls := "OwnRainModel", name := "match", desc := "(III)I" } : Jvm.MethodName)) ∈ gtbl := gq 1965 (by decide +kernel) rfl
theorem q1966 : (Jvm.Cond.instanceMethod ({ cls := "OwnRainModel", name := "match", desc := "(III)I" } : Jvm.MethodName)) ∈ gtbl := gq 1966 (by decide +kernel) rfl
theorem q1967 : (Jvm.Cond.selects "OwnRainModel" ({ cls := "OwnRainModel", name := "match", desc := "(III)I" } : Jvm.MethodName) ({ cls := "OwnRainModel", name := "match", desc := "(III)I" } : Jvm.MethodName)) ∈ gtbl := gq 1967 (by decide +kernel) rfl
set_option maxRecDepth 100000 in
theorem q1968 : (Jvm.Cond.code ({ cls := "OwnRainModel", name := "match", desc := "(III)I" } : Jvm.MethodName) prog_14_method_110_code (9 : Nat) (Option.some Jvm.ClassFile.FieldType.int)) ∈ gtbl := gq 1968 rfl rfl
theorem q1969 : (Jvm.Cond.methodLink "OwnRainModel" (478 : Nat) ({ cls := "OwnRainModel", name := "layWorkers", desc := "(II)Z" } : Jvm.MethodName)) ∈ gtbl := gq 1969 (by decide +kernel) rfl
theorem q1971 : (Jvm.Cond.instanceMethod ({ cls := "OwnRainModel", name := "layWorkers", desc := "(II)Z" } : Jvm.MethodName)) ∈ gtbl := gq 1971 (by decide +kernel) rfl
set_option maxRecDepth 100000 in
theorem q1972 : (Jvm.Cond.code ({ cls := "OwnRainModel", name := "layWorkers", desc := "(II)Z" } : Jvm.MethodName) prog_14_method_109_code (5 : Nat) (Option.some Jvm.ClassFile.FieldType.boolean)) ∈ gtbl := gq 1972 rfl rfl
theorem q1973 : (Jvm.Cond.methodLink "OwnRainModel" (475 : Nat) ({ cls := "OwnRainModel", name := "bits", desc := "(I)I" } : Jvm.MethodName)) ∈ gtbl := gq 1973 (by decide +kernel) rfl
theorem q1974 : (Jvm.Cond.static ({ cls := "OwnRainModel", name := "bits", desc := "(I)I" } : Jvm.MethodName)) ∈ gtbl := gq 1974 (by decide +kernel) rfl
set_option maxRecDepth 100000 in
theorem q1975 : (Jvm.Cond.code ({ cls := "OwnRainModel", name := "bits", desc := "(I)I" } : Jvm.MethodName) prog_14_method_5_code (3 : Nat) (Option.some Jvm.ClassFile.FieldType.int)) ∈ gtbl := gq 1975 rfl rfl
theorem q1976 : (Jvm.Cond.methodLink "OwnRainModel" (481 : Nat) ({ cls := "OwnRainModel", name := "findYields", desc := "(I)V" } : Jvm.MethodName)) ∈ gtbl := gq 1976 (by decide +kernel) rfl
theorem q1978 : (Jvm.Cond.instanceMethod ({ cls := "OwnRainModel", name := "findYields", desc := "(I)V" } : Jvm.MethodName)) ∈ gtbl := gq 1978 (by decide +kernel) rfl
set_option maxRecDepth 100000 in
theorem q1979 : (Jvm.Cond.code ({ cls := "OwnRainModel", name := "findYields", desc := "(I)V" } : Jvm.MethodName) prog_14_method_108_code (4 : Nat) (Option.none : Option Jvm.ClassFile.FieldType)) ∈ gtbl := gq 1979 rfl rfl
theorem q1980 : (Jvm.Cond.methodLink "OwnRainModel" (484 : Nat) ({ cls := "OwnRainModel", name := "nextOrder", desc := "(I)Z" } : Jvm.MethodName)) ∈ gtbl := gq 1980 (by decide +kernel) rfl
theorem q1982 : (Jvm.Cond.instanceMethod ({ cls := "OwnRainModel", name := "nextOrder", desc := "(I)Z" } : Jvm.MethodName)) ∈ gtbl := gq 1982 (by decide +kernel) rfl
set_option maxRecDepth 100000 in
theorem q1983 : (Jvm.Cond.code ({ cls := "OwnRainModel", name := "nextOrder", desc := "(I)Z" } : Jvm.MethodName) prog_14_method_107_code (7 : Nat) (Option.some Jvm.ClassFile.FieldType.boolean)) ∈ gtbl := gq 1983 rfl rfl
theorem q1984 : (Jvm.Cond.methodLink "OwnRainLaw" (121 : Nat) ({ cls := "OwnRainModel", name := "shares", desc := "(III)I" } : Jvm.MethodName)) ∈ gtbl := gq 1984 (by decide +kernel) rfl
theorem q1985 : (Jvm.Cond.instanceMethod ({ cls := "OwnRainModel", name := "shares", desc := "(III)I" } : Jvm.MethodName)) ∈ gtbl := gq 1985 (by decide +kernel) rfl
theorem q1986 : (Jvm.Cond.selects "OwnRainModel" ({ cls := "OwnRainModel", name := "shares", desc := "(III)I" } : Jvm.MethodName) ({ cls := "OwnRainModel", name := "shares", desc := "(III)I" } : Jvm.MethodName)) ∈ gtbl := gq 1986 (by decide +kernel) rfl
set_option maxRecDepth 100000 in
theorem q1987 : (Jvm.Cond.code ({ cls := "OwnRainModel", name := "shares", desc := "(III)I" } : Jvm.MethodName) prog_14_method_111_code (9 : Nat) (Option.some Jvm.ClassFile.FieldType.int)) ∈ gtbl := gq 1987 rfl rfl
theorem q1988 : (Jvm.Cond.methodLink "OwnRainLaw" (125 : Nat) ({ cls := "OwnRainModel", name := "cross", desc := "(IIII)I" } : Jvm.MethodName)) ∈ gtbl := gq 1988 (by decide +kernel) rfl
theorem q1989 : (Jvm.Cond.instanceMethod ({ cls := "OwnRainModel", name := "cross", desc := "(IIII)I" } : Jvm.MethodName)) ∈ gtbl := gq 1989 (by decide +kernel) rfl
theorem q1990 : (Jvm.Cond.selects "OwnRainModel" ({ cls := "OwnRainModel", name := "cross", desc := "(IIII)I" } : Jvm.MethodName) ({ cls := "OwnRainModel", name := "cross", desc := "(IIII)I" } : Jvm.MethodName)) ∈ gtbl := gq 1990 (by decide +kernel) rfl
set_option maxRecDepth 100000 in
theorem q1991 : (Jvm.Cond.code ({ cls := "OwnRainModel", name := "cross", desc := "(IIII)I" } : Jvm.MethodName) prog_14_method_115_code (8 : Nat) (Option.some Jvm.ClassFile.FieldType.int)) ∈ gtbl := gq 1991 rfl rfl
theorem q1992 : (Jvm.Cond.methodLink "OwnRainModel" (490 : Nat) ({ cls := "OwnRainModel", name := "findRoads", desc := "(II)V" } : Jvm.MethodName)) ∈ gtbl := gq 1992 (by decide +kernel) rfl
theorem q1994 : (Jvm.Cond.instanceMethod ({ cls := "OwnRainModel", name := "findRoads", desc := "(II)V" } : Jvm.MethodName)) ∈ gtbl := gq 1994 (by decide +kernel) rfl
set_option maxRecDepth 100000 in
theorem q1995 : (Jvm.Cond.code ({ cls := "OwnRainModel", name := "findRoads", desc := "(II)V" } : Jvm.MethodName) prog_14_method_113_code (6 : Nat) (Option.none : Option Jvm.ClassFile.FieldType)) ∈ gtbl := gq 1995 rfl rfl
theorem q1996 : (Jvm.Cond.methodLink "OwnRainModel" (487 : Nat) ({ cls := "OwnRainModel", name := "canCome", desc := "(II)Z" } : Jvm.MethodName)) ∈ gtbl := gq 1996 (by decide +kernel) rfl
theorem q1998 : (Jvm.Cond.instanceMethod ({ cls := "OwnRainModel", name := "canCome", desc := "(II)Z" } : Jvm.MethodName)) ∈ gtbl := gq 1998 (by decide +kernel) rfl
set_option maxRecDepth 100000 in
theorem q1999 : (Jvm.Cond.code ({ cls := "OwnRainModel", name := "canCome", desc := "(II)Z" } : Jvm.MethodName) prog_14_method_112_code (3 : Nat) (Option.some Jvm.ClassFile.FieldType.boolean)) ∈ gtbl := gq 1999 rfl rfl
theorem q2000 : (Jvm.Cond.methodLink "OwnRainModel" (493 : Nat) ({ cls := "OwnRainModel", name := "nextField", desc := "(II)I" } : Jvm.MethodName)) ∈ gtbl := gq 2000 (by decide +kernel) rfl
theorem q2002 : (Jvm.Cond.instanceMethod ({ cls := "OwnRainModel", name := "nextField", desc := "(II)I" } : Jvm.MethodName)) ∈ gtbl := gq 2002 (by decide +kernel) rfl
set_option maxRecDepth 100000 in
theorem q2003 : (Jvm.Cond.code ({ cls := "OwnRainModel", name := "nextField", desc := "(II)I" } : Jvm.MethodName) prog_14_method_114_code (4 : Nat) (Option.some Jvm.ClassFile.FieldType.int)) ∈ gtbl := gq 2003 rfl rfl
theorem q2004 : (Jvm.Cond.methodLink "OwnRainLaw" (129 : Nat) ({ cls := "OwnRainModel", name := "widest", desc := "(II)I" } : Jvm.MethodName)) ∈ gtbl := gq 2004 (by decide +kernel) rfl
theorem q2005 : (Jvm.Cond.instanceMethod ({ cls := "OwnRainModel", name := "widest", desc := "(II)I" } : Jvm.MethodName)) ∈ gtbl := gq 2005 (by decide +kernel) rfl
theorem q2006 : (Jvm.Cond.selects "OwnRainModel" ({ cls := "OwnRainModel", name := "widest", desc := "(II)I" } : Jvm.MethodName) ({ cls := "OwnRainModel", name := "widest", desc := "(II)I" } : Jvm.MethodName)) ∈ gtbl := gq 2006 (by decide +kernel) rfl
set_option maxRecDepth 100000 in
theorem q2007 : (Jvm.Cond.code ({ cls := "OwnRainModel", name := "widest", desc := "(II)I" } : Jvm.MethodName) prog_14_method_116_code (4 : Nat) (Option.some Jvm.ClassFile.FieldType.int)) ∈ gtbl := gq 2007 rfl rfl
theorem q2008 : (Jvm.Cond.methodLink "OwnRainLaw" (133 : Nat) ({ cls := "OwnRainModel", name := "missing", desc := "(III)I" } : Jvm.MethodName)) ∈ gtbl := gq 2008 (by decide +kernel) rfl
theorem q2009 : (Jvm.Cond.instanceMethod ({ cls := "OwnRainModel", name := "missing", desc := "(III)I" } : Jvm.MethodName)) ∈ gtbl := gq 2009 (by decide +kernel) rfl
theorem q2010 : (Jvm.Cond.selects "OwnRainModel" ({ cls := "OwnRainModel", name := "missing", desc := "(III)I" } : Jvm.MethodName) ({ cls := "OwnRainModel", name := "missing", desc := "(III)I" } : Jvm.MethodName)) ∈ gtbl := gq 2010 (by decide +kernel) rfl
set_option maxRecDepth 100000 in
theorem q2011 : (Jvm.Cond.code ({ cls := "OwnRainModel", name := "missing", desc := "(III)I" } : Jvm.MethodName) prog_14_method_117_code (5 : Nat) (Option.some Jvm.ClassFile.FieldType.int)) ∈ gtbl := gq 2011 rfl rfl
theorem q2012 : (Jvm.Cond.methodLink "OwnRainLaw" (137 : Nat) ({ cls := "OwnRainModel", name := "near", desc := "(I)I" } : Jvm.MethodName)) ∈ gtbl := gq 2012 (by decide +kernel) rfl
theorem q2013 : (Jvm.Cond.instanceMethod ({ cls := "OwnRainModel", name := "near", desc := "(I)I" } : Jvm.MethodName)) ∈ gtbl := gq 2013 (by decide +kernel) rfl
theorem q2014 : (Jvm.Cond.selects "OwnRainModel" ({ cls := "OwnRainModel", name := "near", desc := "(I)I" } : Jvm.MethodName) ({ cls := "OwnRainModel", name := "near", desc := "(I)I" } : Jvm.MethodName)) ∈ gtbl := gq 2014 (by decide +kernel) rfl
set_option maxRecDepth 100000 in
theorem q2015 : (Jvm.Cond.code ({ cls := "OwnRainModel", name := "near", desc := "(I)I" } : Jvm.MethodName) prog_14_method_119_code (4 : Nat) (Option.some Jvm.ClassFile.FieldType.int)) ∈ gtbl := gq 2015 rfl rfl
theorem q2016 : (Jvm.Cond.methodLink "OwnRainModel" (496 : Nat) ({ cls := "OwnRainModel", name := "nearOf", desc := "(I)I" } : Jvm.MethodName)) ∈ gtbl := gq 2016 (by decide +kernel) rfl
theorem q2018 : (Jvm.Cond.instanceMethod ({ cls := "OwnRainModel", name := "nearOf", desc := "(I)I" } : Jvm.MethodName)) ∈ gtbl := gq 2018 (by decide +kernel) rfl
set_option maxRecDepth 100000 in
theorem q2019 : (Jvm.Cond.code ({ cls := "OwnRainModel", name := "nearOf", desc := "(I)I" } : Jvm.MethodName) prog_14_method_118_code (7 : Nat) (Option.some Jvm.ClassFile.FieldType.int)) ∈ gtbl := gq 2019 rfl rfl
theorem q2020 : (Jvm.Cond.methodLink "OwnRainLaw" (141 : Nat) ({ cls := "OwnRainModel", name := "thieves", desc := "()I" } : Jvm.MethodName)) ∈ gtbl := gq 2020 (by decide +kernel) rfl
theorem q2021 : (Jvm.Cond.instanceMethod ({ cls := "OwnRainModel", name := "thieves", desc := "()I" } : Jvm.MethodName)) ∈ gtbl := gq 2021 (by decide +kernel) rfl
theorem q2022 : (Jvm.Cond.selects "OwnRainModel" ({ cls := "OwnRainModel", name := "thieves", desc := "()I" } : Jvm.MethodName) ({ cls := "OwnRainModel", name := "thieves", desc := "()I" } : Jvm.MethodName)) ∈ gtbl := gq 2022 (by decide +kernel) rfl
set_option maxRecDepth 100000 in
theorem q2023 : (Jvm.Cond.code ({ cls := "OwnRainModel", name := "thieves", desc := "()I" } : Jvm.MethodName) prog_14_method_120_code (5 : Nat) (Option.some Jvm.ClassFile.FieldType.int)) ∈ gtbl := gq 2023 rfl rfl
theorem q2024 : (Jvm.Cond.methodLink "OwnRainLaw" (146 : Nat) ({ cls := "OwnRainModel", name := "filling", desc := "(IIIIIZ)J" } : Jvm.MethodName)) ∈ gtbl := gq 2024 (by decide +kernel) rfl
theorem q2025 : (Jvm.Cond.instanceMethod ({ cls := "OwnRainModel", name := "filling", desc := "(IIIIIZ)J" } : Jvm.MethodName)) ∈ gtbl := gq 2025 (by decide +kernel) rfl
theorem q2026 : (Jvm.Cond.selects "OwnRainModel" ({ cls := "OwnRainModel", name := "filling", desc := "(IIIIIZ)J" } : Jvm.MethodName) ({ cls := "OwnRainModel", name := "filling", desc := "(IIIIIZ)J" } : Jvm.MethodName)) ∈ gtbl := gq 2026 (by decide +kernel) rfl
set_option maxRecDepth 100000 in
theorem q2027 : (Jvm.Cond.code ({ cls := "OwnRainModel", name := "filling", desc := "(IIIIIZ)J" } : Jvm.MethodName) prog_14_method_122_code (12 : Nat) (Option.some Jvm.ClassFile.FieldType.long)) ∈ gtbl := gq 2027 rfl rfl
theorem q2028 : (Jvm.Cond.constantLong "OwnRainModel" (499 : Nat) (-1 : Int64)) ∈ gtbl := gq 2028 (by decide +kernel) rfl
theorem q2029 : (Jvm.Cond.constantLong "OwnRainModel" (501 : Nat) (10 : Int64)) ∈ gtbl := gq 2029 (by decide +kernel) rfl
theorem q2030 : (Jvm.Cond.methodLink "OwnRainModel" (503 : Nat) ({ cls := "OwnRainModel", name := "common", desc := "(JJ)J" } : Jvm.MethodName)) ∈ gtbl := gq 2030 (by decide +kernel) rfl
theorem q2031 : (Jvm.Cond.static ({ cls := "OwnRainModel", name := "common", desc := "(JJ)J" } : Jvm.MethodName)) ∈ gtbl := gq 2031 (by decide +kernel) rfl
set_option maxRecDepth 100000 in
theorem q2032 : (Jvm.Cond.code ({ cls := "OwnRainModel", name := "common", desc := "(JJ)J" } : Jvm.MethodName) prog_14_method_121_code (10 : Nat) (Option.some Jvm.ClassFile.FieldType.long)) ∈ gtbl := gq 2032 rfl rfl
theorem q2033 : (Jvm.Cond.methodLink "OwnRainLaw" (151 : Nat) ({ cls := "OwnRainModel", name := "forecast", desc := "(IZ)I" } : Jvm.MethodName)) ∈ gtbl := gq 2033 (by decide +kernel) rfl
theorem q2034 : (Jvm.Cond.instanceMethod ({ cls := "OwnRainModel", name := "forecast", desc := "(IZ)I" } : Jvm.MethodName)) ∈ gtbl := gq 2034 (by decide +kernel) rfl
theorem q2035 : (Jvm.Cond.selects "OwnRainModel" ({ cls := "OwnRainModel", name := "forecast", desc := "(IZ)I" } : Jvm.MethodName) ({ cls := "OwnRainModel", name := "forecast", desc := "(IZ)I" } : Jvm.MethodName)) ∈ gtbl := gq 2035 (by decide +kernel) rfl
set_option maxRecDepth 100000 in
theorem q2036 : (Jvm.Cond.code ({ cls := "OwnRainModel", name := "forecast", desc := "(IZ)I" } : Jvm.MethodName) prog_14_method_123_code (3 : Nat) (Option.some Jvm.ClassFile.FieldType.int)) ∈ gtbl := gq 2036 rfl rfl
theorem q2037 : (Jvm.Cond.methodLink "OwnRainLaw" (155 : Nat) ({ cls := "OwnRainModel", name := "errors", desc := "(IZ)I" } : Jvm.MethodName)) ∈ gtbl := gq 2037 (by decide +kernel) rfl
theorem q2038 : (Jvm.Cond.instanceMethod ({ cls := "OwnRainModel", name := "errors", desc := "(IZ)I" } : Jvm.MethodName)) ∈ gtbl := gq 2038 (by decide +kernel) rfl
theorem q2039 : (Jvm.Cond.selects "OwnRainModel" ({ cls := "OwnRainModel", name := "errors", desc := "(IZ)I" } : Jvm.MethodName) ({ cls := "OwnRainModel", name := "errors", desc := "(IZ)I" } : Jvm.MethodName)) ∈ gtbl := gq 2039 (by decide +kernel) rfl
set_option maxRecDepth 100000 in
theorem q2040 : (Jvm.Cond.code ({ cls := "OwnRainModel", name := "errors", desc := "(IZ)I" } : Jvm.MethodName) prog_14_method_125_code (3 : Nat) (Option.some Jvm.ClassFile.FieldType.int)) ∈ gtbl := gq 2040 rfl rfl
theorem q2041 : (Jvm.Cond.methodLink "OwnRainModel" (507 : Nat) ({ cls := "OwnRainModel", name := "errorsOf", desc := "(IZ)I" } : Jvm.MethodName)) ∈ gtbl := gq 2041 (by decide +kernel) rfl
theorem q2043 : (Jvm.Cond.instanceMethod ({ cls := "OwnRainModel", name := "errorsOf", desc := "(IZ)I" } : Jvm.MethodName)) ∈ gtbl := gq 2043 (by decide +kernel) rfl
set_option maxRecDepth 100000 in
theorem q2044 : (Jvm.Cond.code ({ cls := "OwnRainModel", name := "errorsOf", desc := "(IZ)I" } : Jvm.MethodName) prog_14_method_124_code (7 : Nat) (Option.some Jvm.ClassFile.FieldType.int)) ∈ gtbl := gq 2044 rfl rfl
theorem q2045 : (Jvm.Cond.methodLink "OwnRainLaw" (159 : Nat) ({ cls := "OwnRainModel", name := "bound", desc := "()I" } : Jvm.MethodName)) ∈ gtbl := gq 2045 (by decide +kernel) rfl
theorem q2046 : (Jvm.Cond.instanceMethod ({ cls := "OwnRainModel", name := "bound", desc := "()I" } : Jvm.MethodName)) ∈ gtbl := gq 2046 (by decide +kernel) rfl
theorem q2047 : (Jvm.Cond.selects "OwnRainModel" ({ cls := "OwnRainModel", name := "bound", desc := "()I" } : Jvm.MethodName) ({ cls := "OwnRainModel", name := "bound", desc := "()I" } : Jvm.MethodName)) ∈ gtbl := gq 2047 (by decide +kernel) rfl
set_option maxRecDepth 100000 in
theorem q2048 : (Jvm.Cond.code ({ cls := "OwnRainModel", name := "bound", desc := "()I" } : Jvm.MethodName) prog_14_method_126_code (3 : Nat) (Option.some Jvm.ClassFile.FieldType.int)) ∈ gtbl := gq 2048 rfl rfl
theorem q2049 : (Jvm.Cond.methodLink "OwnRainLaw" (164 : Nat) ({ cls := "OwnRainModel", name := "offer", desc := "(ZII)I" } : Jvm.MethodName)) ∈ gtbl := gq 2049 (by decide +kernel) rfl
theorem q2050 : (Jvm.Cond.instanceMethod ({ cls := "OwnRainModel", name := "offer", desc := "(ZII)I" } : Jvm.MethodName)) ∈ gtbl := gq 2050 (by decide +kernel) rfl
theorem q2051 : (Jvm.Cond.selects "OwnRainModel" ({ cls := "OwnRainModel", name := "offer", desc := "(ZII)I" } : Jvm.MethodName) ({ cls := "OwnRainModel", name := "offer", desc := "(ZII)I" } : Jvm.MethodName)) ∈ gtbl := gq 2051 (by decide +kernel) rfl
set_option maxRecDepth 100000 in
theorem q2052 : (Jvm.Cond.code ({ cls := "OwnRainModel", name := "offer", desc := "(ZII)I" } : Jvm.MethodName) prog_14_method_127_code (5 : Nat) (Option.some Jvm.ClassFile.FieldType.int)) ∈ gtbl := gq 2052 rfl rfl
theorem q2053 : (Jvm.Cond.methodLink "OwnRainLaw" (168 : Nat) ({ cls := "OwnRainModel", name := "market", desc := "(I)I" } : Jvm.MethodName)) ∈ gtbl := gq 2053 (by decide +kernel) rfl
theorem q2054 : (Jvm.Cond.instanceMethod ({ cls := "OwnRainModel", name := "market", desc := "(I)I" } : Jvm.MethodName)) ∈ gtbl := gq 2054 (by decide +kernel) rfl
theorem q2055 : (Jvm.Cond.selects "OwnRainModel" ({ cls := "OwnRainModel", name := "market", desc := "(I)I" } : Jvm.MethodName) ({ cls := "OwnRainModel", name := "market", desc := "(I)I" } : Jvm.MethodName)) ∈ gtbl := gq 2055 (by decide +kernel) rfl
set_option maxRecDepth 100000 in
theorem q2056 : (Jvm.Cond.code ({ cls := "OwnRainModel", name := "market", desc := "(I)I" } : Jvm.MethodName) prog_14_method_129_code (4 : Nat) (Option.some Jvm.ClassFile.FieldType.int)) ∈ gtbl := gq 2056 rfl rfl
theorem q2057 : (Jvm.Cond.methodLink "OwnRainModel" (511 : Nat) ({ cls := "OwnRainModel", name := "tradedAt", desc := "(I)I" } : Jvm.MethodName)) ∈ gtbl := gq 2057 (by decide +kernel) rfl
theorem q2059 : (Jvm.Cond.instanceMethod ({ cls := "OwnRainModel", name := "tradedAt", desc := "(I)I" } : Jvm.MethodName)) ∈ gtbl := gq 2059 (by decide +kernel) rfl
set_option maxRecDepth 100000 in
theorem q2060 : (Jvm.Cond.code ({ cls := "OwnRainModel", name := "tradedAt", desc := "(I)I" } : Jvm.MethodName) prog_14_method_128_code (6 : Nat) (Option.some Jvm.ClassFile.FieldType.int)) ∈ gtbl := gq 2060 rfl rfl
theorem q2061 : (Jvm.Cond.methodLink "OwnRainLaw" (172 : Nat) ({ cls := "OwnRainModel", name := "greatestTax", desc := "(I)I" } : Jvm.MethodName)) ∈ gtbl := gq 2061 (by decide +kernel) rfl
theorem q2062 : (Jvm.Cond.instanceMethod ({ cls := "OwnRainModel", name := "greatestTax", desc := "(I)I" } : Jvm.MethodName)) ∈ gtbl := gq 2062 (by decide +kernel) rfl
theorem q2063 : (Jvm.Cond.selects "OwnRainModel" ({ cls := "OwnRainModel", name := "greatestTax", desc := "(I)I" } : Jvm.MethodName) ({ cls := "OwnRainModel", name := "greatestTax", desc := "(I)I" } : Jvm.MethodName)) ∈ gtbl := gq 2063 (by decide +kernel) rfl
set_option maxRecDepth 100000 in
theorem q2064 : (Jvm.Cond.code ({ cls := "OwnRainModel", name := "greatestTax", desc := "(I)I" } : Jvm.MethodName) prog_14_method_130_code (6 : Nat) (Option.some Jvm.ClassFile.FieldType.int)) ∈ gtbl := gq 2064 rfl rfl
theorem q2065 : (Jvm.Cond.methodLink "OwnRainLaw" (176 : Nat) ({ cls := "OwnRainModel", name := "water", desc := "()I" } : Jvm.MethodName)) ∈ gtbl := gq 2065 (by decide +kernel) rfl
theorem q2066 : (Jvm.Cond.instanceMethod ({ cls := "OwnRainModel", name := "water", desc := "()I" } : Jvm.MethodName)) ∈ gtbl := gq 2066 (by decide +kernel) rfl
theorem q2067 : (Jvm.Cond.selects "OwnRainModel" ({ cls := "OwnRainModel", name := "water", desc := "()I" } : Jvm.MethodName) ({ cls := "OwnRainModel", name := "water", desc := "()I" } : Jvm.MethodName)) ∈ gtbl := gq 2067 (by decide +kernel) rfl
set_option maxRecDepth 100000 in
theorem q2068 : (Jvm.Cond.code ({ cls := "OwnRainModel", name := "water", desc := "()I" } : Jvm.MethodName) prog_14_method_131_code (3 : Nat) (Option.some Jvm.ClassFile.FieldType.int)) ∈ gtbl := gq 2068 rfl rfl
theorem q2069 : (Jvm.Cond.methodLink "OwnRainLaw" (180 : Nat) ({ cls := "OwnRainModel", name := "image", desc := "()I" } : Jvm.MethodName)) ∈ gtbl := gq 2069 (by decide +kernel) rfl
theorem q2070 : (Jvm.Cond.instanceMethod ({ cls := "OwnRainModel", name := "image", desc := "()I" } : Jvm.MethodName)) ∈ gtbl := gq 2070 (by decide +kernel) rfl
theorem q2071 : (Jvm.Cond.selects "OwnRainModel" ({ cls := "OwnRainModel", name := "image", desc := "()I" } : Jvm.MethodName) ({ cls := "OwnRainModel", name := "image", desc := "()I" } : Jvm.MethodName)) ∈ gtbl := gq 2071 (by decide +kernel) rfl
set_option maxRecDepth 100000 in
theorem q2072 : (Jvm.Cond.code ({ cls := "OwnRainModel", name := "image", desc := "()I" } : Jvm.MethodName) prog_14_method_132_code (1 : Nat) (Option.some Jvm.ClassFile.FieldType.int)) ∈ gtbl := gq 2072 rfl rfl
theorem q2073 : (Jvm.Cond.methodLink "OwnRainLaw" (184 : Nat) ({ cls := "OwnRainModel", name := "back", desc := "()I" } : Jvm.MethodName)) ∈ gtbl := gq 2073 (by decide +kernel) rfl
theorem q2074 : (Jvm.Cond.instanceMethod ({ cls := "OwnRainModel", name := "back", desc := "()I" } : Jvm.MethodName)) ∈ gtbl := gq 2074 (by decide +kernel) rfl
theorem q2075 : (Jvm.Cond.selects "OwnRainModel" ({ cls := "OwnRainModel", name := "back", desc := "()I" } : Jvm.MethodName) ({ cls := "OwnRainModel", name := "back", desc := "()I" } : Jvm.MethodName)) ∈ gtbl := gq 2075 (by decide +kernel) rfl
set_option maxRecDepth 100000 in
theorem q2076 : (Jvm.Cond.code ({ cls := "OwnRainModel", name := "back", desc := "()I" } : Jvm.MethodName) prog_14_method_133_code (1 : Nat) (Option.some Jvm.ClassFile.FieldType.int)) ∈ gtbl := gq 2076 rfl rfl
theorem q2077 : (Jvm.Cond.methodLink "OwnRainLaw" (188 : Nat) ({ cls := "OwnRainModel", name := "about", desc := "(I)I" } : Jvm.MethodName)) ∈ gtbl := gq 2077 (by decide +kernel) rfl
theorem q2078 : (Jvm.Cond.instanceMethod ({ cls := "OwnRainModel", name := "about", desc := "(I)I" } : Jvm.MethodName)) ∈ gtbl := gq 2078 (by decide +kernel) rfl
theorem q2079 : (Jvm.Cond.selects "OwnRainModel" ({ cls := "OwnRainModel", name := "about", desc := "(I)I" } : Jvm.MethodName) ({ cls := "OwnRainModel", name := "about", desc := "(I)I" } : Jvm.MethodName)) ∈ gtbl := gq 2079 (by decide +kernel) rfl
set_option maxRecDepth 100000 in
theorem q2080 : (Jvm.Cond.code ({ cls := "OwnRainModel", name := "about", desc := "(I)I" } : Jvm.MethodName) prog_14_method_134_code (2 : Nat) (Option.some Jvm.ClassFile.FieldType.int)) ∈ gtbl := gq 2080 rfl rfl
theorem q2081 : (Jvm.Cond.fieldLink "java/lang/String" (9 : Nat) "java/lang/String" "value" "[B") ∈ gtbl := gq 2081 (by decide +kernel) rfl
theorem q2082 : (Jvm.Cond.fieldLink "java/lang/String" (15 : Nat) "java/lang/String" "coder" "B") ∈ gtbl := gq 2082 (by decide +kernel) rfl
end
section
/-! The pool: L its addresses, σ their shapes (numbers erased), φ the numbers in objects' fields (by class, place, address), ρ the numbers in arrays. -/
def zcy (cy : Nat → ClassId) : List (ClassId × FieldType) := [(cy 0, .int), (cy 1, .long), (cy 2, .boolean), (cy 3, .object "OwnRain$Text"), (cy 4, .object "OwnRain$World")]
def znests : List (String × Nat × MethodName) := [("OwnRain", 9, ⟨"OwnRain$State", "<init>", "()V"⟩), ("OwnRain$State", 11, ⟨"OwnRain$Land", "<init>", "()V"⟩), ("OwnRain$State", 20, ⟨"OwnRain$World", "<init>", "()V"⟩), ("OwnRain$Steps", 21, ⟨"OwnRain$World", "<init>", "()V"⟩), ("OwnRain$State", 34, ⟨"OwnRain$Lists", "<init>", "()V"⟩), ("OwnRain", 21, ⟨"OwnRain$Tape", "<init>", "()V"⟩), ("OwnRain$Planner", 44, ⟨"OwnRain$World", "<init>", "()V"⟩), ("OwnRain$Reader", 24, ⟨"OwnRain$Text", "<init>", "()V"⟩), ("OwnRain$Tape", 77, ⟨"OwnRain", "isWithin", "(III)Z"⟩), ("OwnRain$Reader", 118, ⟨"OwnRain", "isWithin", "(III)Z"⟩), ("OwnRain$Weather", 95, ⟨"OwnRain", "bring", "(III)I"⟩), ("OwnRain$State", 73, ⟨"OwnRain", "isWithin", "(III)Z"⟩), ("OwnRain$Planner", 69, ⟨"OwnRain", "isOf", "(II)Z"⟩)]
def zK (D : va_G) (cy : Nat → ClassId) (U : State) : Prop := va_K D vwCl (zcy cy) U ∧ (∀ q ∈ znests, va_Nw (.methodLinkNest q.1 q.2.1 q.2.2 "OwnRain") U) ∧ va_AO "OwnRain$Text" U ∧ va_AO "OwnRain$World" U
theorem zK.warm {D : va_G} {cy : Nat → ClassId} {s U : State} (hW : s.WarmedH U.vm) (h : zK D cy s) : zK D cy U := ⟨va_K.moved hW.alike h.1, fun q hq => va_Nw.warmM hW (h.2.1 q hq), va_AO.moved hW.alike h.2.2.1, va_AO.moved hW.alike h.2.2.2⟩
def zshV : Value → Value
  | .int _ => .int 0
  | .long _ => .long 0
  | v => v
def zsh : va_E → va_E
  | .inl (c, n, .inl _) => .inl (c, n, .inl (fun _ => 0))
  | .inl (c, n, .inr (.inl _)) => .inl (c, n, .inr (.inl (fun _ => 0)))
  | .inl x => .inl x
  | .inr (ci, fs) => .inr (ci, fs.map zshV)
def zfI (e : va_E) (ci k : Nat) : Int32 := match e with
  | .inr (c, fs) => if c = ci then (match fs[k]? with
    | some (.int v) => v
    | _ => 0) else 0
  | .inl _ => 0
def zrI (e : va_E) : Nat → Int32 := match e with
  | .inl (_, _, .inl g) => g
  | _ => fun _ => 0
def zPic (L : List Nat) (σ : Nat → va_E) (φ : Nat → Nat → Nat → Int32) (ρ : Nat → Nat → Int32) (f : Nat → va_E) : Prop := ∀ a ∈ L, zsh (f a) = σ a ∧ (∀ ci k, zfI (f a) ci k = φ ci k a) ∧ zrI (f a) = ρ a
def zT (L : List Nat) (σ : Nat → va_E) (a : Nat) (e : va_E) : Prop := a ∈ L ∧ σ a = e
def zup (φ : Nat → Nat → Nat → Int32) (ci k a : Nat) (v : Int32) : Nat → Nat → Nat → Int32 := fun c j b => if c = ci ∧ j = k ∧ b = a then v else φ c j b
abbrev zIA (cy : Nat → ClassId) (n : Nat) : va_E := .inl (cy 0, n, .inl (fun _ => 0))
abbrev zJA (cy : Nat → ClassId) (n : Nat) : va_E := .inl (cy 1, n, .inr (.inl (fun _ => 0)))
abbrev zZA (cy : Nat → ClassId) (n : Nat) : va_E := .inl (cy 2, n, .inl (fun _ => 0))
abbrev zRA (c : ClassId) (n : Nat) (g : Nat → Option Nat) : va_E := .inl (c, n, .inr (.inr (.inr (.inr g))))
def zJ (D : va_G) (A : Nat → Prop) (H0 : Heap) (L : List Nat) (σ : Nat → va_E) (φ : Nat → Nat → Nat → Int32) (ρ : Nat → Nat → Int32) (H : Heap) (locs : List Loc) : Prop := ∃ f, zPic L σ φ ρ f ∧ va_P D vwCl (va_pl L f) H ∧ va_D A (va_pl L f) ∧ va_S A H0 H locs
abbrev zCx : Type := Program × Launch × Env × Room × State × MethodId × Array Value × List Frame × Method × Code × va_G × (Nat → ClassId) × (Nat → Prop) × (State → Prop)
def zW (E : zCx) (k n : Nat) (L : List Nat) (σ : Nat → va_E) (φ : Nat → Nat → Nat → Int32) (ρ : Nat → Nat → Int32) (pc : Nat) (lv : List (Nat × Value)) (st : List Value) : Prop := match E with
  | (p, l, e, R, s, m, args, below, meth, c, D, _, A, Q) => ∀ (H : Heap) (locs : List Loc) (ls : Array Slot), zJ D A s.heap L σ φ ρ H locs → lv_has ls c.maxLocals lv → W p l e R s m args below meth c H locs k n Q (F0 m pc ls st)
def zOk (E : zCx) (l0 : Launch) (D0 : va_G) (cy0 : Nat → ClassId) (own : String) (cc : ByteArray) (nL : Nat) (R0 : Room) : Prop := match E with
  | (p, l, _, R, s, m, args, _, _, c, D, cy, A, _) => p.tables.exec = Jvm.exec ∧ c.code = cc ∧ c.maxLocals = nL ∧ s.vm.findClass own = some m.cls ∧ (∀ w ∈ gtbl, w.before args s = true) ∧ zK D cy s ∧ (∀ q, s.heap.size ≤ q → A q) ∧ R = R0 ∧ l = l0 ∧ D = D0 ∧ cy = cy0
/-- within a constructor -/
def zIn (E : zCx) : Prop := match E with
  | (_, _, _, _, _, _, _, _, meth, _, _, _, _, _) => meth.name = "<init>"
section ZP
variable {E : zCx} {l0 : Launch} {D0 : va_G} {cy0 : Nat → ClassId} {own : String} {cc : ByteArray} {nL : Nat} {R0 : Room} {k n : Nat} {L : List Nat} {σ : Nat → va_E} {φ : Nat → Nat → Nat → Int32} {ρ : Nat → Nat → Int32} {pc : Nat} {lv : List (Nat × Value)} {st : List Value}
theorem x_iconst (hE : zOk E l0 D0 cy0 own cc nL R0) {i : Int} {v : Int32} (hd : decode cc pc = .ok (.iconst i, 1)) (hv : Int32.ofInt i = v) (kk : zW E k n L σ φ ρ (pc + 1) lv (.int v :: st)) : zW E k n L σ φ ρ pc lv st := by
  obtain ⟨p, l, e, R, s, m, args, below, meth, c, D, cy, A, Q⟩ := E
  obtain ⟨hx, hb, hml, hown, hts, hK, hA, rfl, rfl, rfl, rfl⟩ := hE
  intro H locs ls hJ hl
  exact lv_iconst hx hb hd hv (kk H locs ls hJ hl)
theorem x_bipush (hE : zOk E l0 D0 cy0 own cc nL R0) {i : Int} {v : Int32} (hd : decode cc pc = .ok (.bipush i, 2)) (hv : (Int8.ofInt i).toInt32 = v) (kk : zW E k n L σ φ ρ (pc + 2) lv (.int v :: st)) : zW E k n L σ φ ρ pc lv st := by
  obtain ⟨p, l, e, R, s, m, args, below, meth, c, D, cy, A, Q⟩ := E
  obtain ⟨hx, hb, hml, hown, hts, hK, hA, rfl, rfl, rfl, rfl⟩ := hE
  intro H locs ls hJ hl
  exact lv_bipush hx hb hd hv (kk H locs ls hJ hl)
theorem x_sipush (hE : zOk E l0 D0 cy0 own cc nL R0) {i : Int} {v : Int32} (hd : decode cc pc = .ok (.sipush i, 3)) (hv : (Int16.ofInt i).toInt32 = v) (kk : zW E k n L σ φ ρ (pc + 3) lv (.int v :: st)) : zW E k n L σ φ ρ pc lv st := by
  obtain ⟨p, l, e, R, s, m, args, below, meth, c, D, cy, A, Q⟩ := E
  obtain ⟨hx, hb, hml, hown, hts, hK, hA, rfl, rfl, rfl, rfl⟩ := hE
  intro H locs ls hJ hl
  exact lv_sipush hx hb hd hv (kk H locs ls hJ hl)
theorem x_lconst (hE : zOk E l0 D0 cy0 own cc nL R0) {i : Fin 2} {v : Int64} (hd : decode cc pc = .ok (.lconst i, 1)) (hv : Int64.ofNat (i : Nat) = v) (kk : zW E k n L σ φ ρ (pc + 1) lv (.long v :: st)) : zW E k n L σ φ ρ pc lv st := by
  obtain ⟨p, l, e, R, s, m, args, below, meth, c, D, cy, A, Q⟩ := E
  obtain ⟨hx, hb, hml, hown, hts, hK, hA, rfl, rfl, rfl, rfl⟩ := hE
  intro H locs ls hJ hl
  exact lv_lconst hx hb hd hv (kk H locs ls hJ hl)
theorem x_ldc (hE : zOk E l0 D0 cy0 own cc nL R0) {i : Nat} {v : Int32} (hq : Cond.constant own i v ∈ gtbl) (hd : decode cc pc = .ok (.ldc i, 2)) (kk : zW E k n L σ φ ρ (pc + 2) lv (.int v :: st)) : zW E k n L σ φ ρ pc lv st := by
  obtain ⟨p, l, e, R, s, m, args, below, meth, c, D, cy, A, Q⟩ := E
  obtain ⟨hx, hb, hml, hown, hts, hK, hA, rfl, rfl, rfl, rfl⟩ := hE
  intro H locs ls hJ hl
  exact lv_ldc hx hb hown (hts _ hq) hd (kk H locs ls hJ hl)
theorem x_ldcw (hE : zOk E l0 D0 cy0 own cc nL R0) {i : Nat} {v : Int32} (hq : Cond.constant own i v ∈ gtbl) (hd : decode cc pc = .ok (.ldc_w i, 3)) (kk : zW E k n L σ φ ρ (pc + 3) lv (.int v :: st)) : zW E k n L σ φ ρ pc lv st := by
  obtain ⟨p, l, e, R, s, m, args, below, meth, c, D, cy, A, Q⟩ := E
  obtain ⟨hx, hb, hml, hown, hts, hK, hA, rfl, rfl, rfl, rfl⟩ := hE
  intro H locs ls hJ hl
  exact lv_ldcw hx hb hown (hts _ hq) hd (kk H locs ls hJ hl)
theorem x_ldc2 (hE : zOk E l0 D0 cy0 own cc nL R0) {i : Nat} {v : Int64} (hq : Cond.constantLong own i v ∈ gtbl) (hd : decode cc pc = .ok (.ldc2_w i, 3)) (kk : zW E k n L σ φ ρ (pc + 3) lv (.long v :: st)) : zW E k n L σ φ ρ pc lv st := by
  obtain ⟨p, l, e, R, s, m, args, below, meth, c, D, cy, A, Q⟩ := E
  obtain ⟨hx, hb, hml, hown, hts, hK, hA, rfl, rfl, rfl, rfl⟩ := hE
  intro H locs ls hJ hl
  exact lv_ldc2 hx hb hown (hts _ hq) hd (kk H locs ls hJ hl)
theorem x_null (hE : zOk E l0 D0 cy0 own cc nL R0) (hd : decode cc pc = .ok (.aconst_null, 1)) (kk : zW E k n L σ φ ρ (pc + 1) lv (.null :: st)) : zW E k n L σ φ ρ pc lv st := by
  obtain ⟨p, l, e, R, s, m, args, below, meth, c, D, cy, A, Q⟩ := E
  obtain ⟨hx, hb, hml, hown, hts, hK, hA, rfl, rfl, rfl, rfl⟩ := hE
  intro H locs ls hJ hl
  exact lv_null hx hb hd (kk H locs ls hJ hl)
theorem x_iload_n (hE : zOk E l0 D0 cy0 own cc nL R0) {z : Fin 4} {i : Nat} {x : Int32} (hd : decode cc pc = .ok (.iload_n z, 1)) (hi : (z : Nat) = i) (j : Nat) (hj : lv[j]? = some (i, .int x)) (kk : zW E k n L σ φ ρ (pc + 1) lv (.int x :: st)) : zW E k n L σ φ ρ pc lv st := by
  obtain ⟨p, l, e, R, s, m, args, below, meth, c, D, cy, A, Q⟩ := E
  obtain ⟨hx, hb, hml, hown, hts, hK, hA, rfl, rfl, rfl, rfl⟩ := hE
  intro H locs ls hJ hl
  exact lv_iload_n hx hb hd hi (lv_at hl j hj) (kk H locs ls hJ hl)
theorem x_iload (hE : zOk E l0 D0 cy0 own cc nL R0) {i : Nat} {x : Int32} (hd : decode cc pc = .ok (.iload i, 2)) (j : Nat) (hj : lv[j]? = some (i, .int x)) (kk : zW E k n L σ φ ρ (pc + 2) lv (.int x :: st)) : zW E k n L σ φ ρ pc lv st := by
  obtain ⟨p, l, e, R, s, m, args, below, meth, c, D, cy, A, Q⟩ := E
  obtain ⟨hx, hb, hml, hown, hts, hK, hA, rfl, rfl, rfl, rfl⟩ := hE
  intro H locs ls hJ hl
  exact lv_iload hx hb hd (lv_at hl j hj) (kk H locs ls hJ hl)
theorem x_lload_n (hE : zOk E l0 D0 cy0 own cc nL R0) {z : Fin 4} {i : Nat} {x : Int64} (hd : decode cc pc = .ok (.lload_n z, 1)) (hi : (z : Nat) = i) (j : Nat) (hj : lv[j]? = some (i, .long x)) (kk : zW E k n L σ φ ρ (pc + 1) lv (.long x :: st)) : zW E k n L σ φ ρ pc lv st := by
  obtain ⟨p, l, e, R, s, m, args, below, meth, c, D, cy, A, Q⟩ := E
  obtain ⟨hx, hb, hml, hown, hts, hK, hA, rfl, rfl, rfl, rfl⟩ := hE
  intro H locs ls hJ hl
  exact lv_lload_n hx hb hd hi (lv_at hl j hj) (kk H locs ls hJ hl)
theorem x_lload (hE : zOk E l0 D0 cy0 own cc nL R0) {i : Nat} {x : Int64} (hd : decode cc pc = .ok (.lload i, 2)) (j : Nat) (hj : lv[j]? = some (i, .long x)) (kk : zW E k n L σ φ ρ (pc + 2) lv (.long x :: st)) : zW E k n L σ φ ρ pc lv st := by
  obtain ⟨p, l, e, R, s, m, args, below, meth, c, D, cy, A, Q⟩ := E
  obtain ⟨hx, hb, hml, hown, hts, hK, hA, rfl, rfl, rfl, rfl⟩ := hE
  intro H locs ls hJ hl
  exact lv_lload hx hb hd (lv_at hl j hj) (kk H locs ls hJ hl)
theorem x_aload_n (hE : zOk E l0 D0 cy0 own cc nL R0) {z : Fin 4} {i : Nat} {x : Nat} (hd : decode cc pc = .ok (.aload_n z, 1)) (hi : (z : Nat) = i) (j : Nat) (hj : lv[j]? = some (i, .ref x)) (kk : zW E k n L σ φ ρ (pc + 1) lv (.ref x :: st)) : zW E k n L σ φ ρ pc lv st := by
  obtain ⟨p, l, e, R, s, m, args, below, meth, c, D, cy, A, Q⟩ := E
  obtain ⟨hx, hb, hml, hown, hts, hK, hA, rfl, rfl, rfl, rfl⟩ := hE
  intro H locs ls hJ hl
  exact lv_aload_n hx hb hd hi (lv_at hl j hj) (kk H locs ls hJ hl)
theorem x_aload (hE : zOk E l0 D0 cy0 own cc nL R0) {i : Nat} {x : Nat} (hd : decode cc pc = .ok (.aload i, 2)) (j : Nat) (hj : lv[j]? = some (i, .ref x)) (kk : zW E k n L σ φ ρ (pc + 2) lv (.ref x :: st)) : zW E k n L σ φ ρ pc lv st := by
  obtain ⟨p, l, e, R, s, m, args, below, meth, c, D, cy, A, Q⟩ := E
  obtain ⟨hx, hb, hml, hown, hts, hK, hA, rfl, rfl, rfl, rfl⟩ := hE
  intro H locs ls hJ hl
  exact lv_aload hx hb hd (lv_at hl j hj) (kk H locs ls hJ hl)
theorem x_aload_nN (hE : zOk E l0 D0 cy0 own cc nL R0) {z : Fin 4} {i : Nat} (hd : decode cc pc = .ok (.aload_n z, 1)) (hi : (z : Nat) = i) (j : Nat) (hj : lv[j]? = some (i, .null)) (kk : zW E k n L σ φ ρ (pc + 1) lv (.null :: st)) : zW E k n L σ φ ρ pc lv st := by
  obtain ⟨p, l, e, R, s, m, args, below, meth, c, D, cy, A, Q⟩ := E
  obtain ⟨hx, hb, hml, hown, hts, hK, hA, rfl, rfl, rfl, rfl⟩ := hE
  intro H locs ls hJ hl
  exact lv_aload_nN hx hb hd hi (lv_at hl j hj) (kk H locs ls hJ hl)
theorem x_istore_n (hE : zOk E l0 D0 cy0 own cc nL R0) {z : Fin 4} {i : Nat} {x : Int32} {lv' : List (Nat × Value)} (hd : decode cc pc = .ok (.istore_n z, 1)) (hi : (z : Nat) = i) (hn : i < nL) (hl' : (i, Value.int x) :: lv.filter (fun q => !(q.1 == i) && !(q.1 + 1 == i && q.2.category == 2)) = lv') (kk : zW E k n L σ φ ρ (pc + 1) lv' st) : zW E k n L σ φ ρ pc lv (.int x :: st) := by
  obtain ⟨p, l, e, R, s, m, args, below, meth, c, D, cy, A, Q⟩ := E
  obtain ⟨hx, hb, hml, hown, hts, hK, hA, rfl, rfl, rfl, rfl⟩ := hE
  intro H locs ls hJ hl
  exact lv_istore_n hx hb hd hi hl (by rw [hml]; exact hn) hl' (fun ls hl => (kk H locs ls hJ hl))
theorem x_istore (hE : zOk E l0 D0 cy0 own cc nL R0) {i : Nat} {x : Int32} {lv' : List (Nat × Value)} (hd : decode cc pc = .ok (.istore i, 2)) (hn : i < nL) (hl' : (i, Value.int x) :: lv.filter (fun q => !(q.1 == i) && !(q.1 + 1 == i && q.2.category == 2)) = lv') (kk : zW E k n L σ φ ρ (pc + 2) lv' st) : zW E k n L σ φ ρ pc lv (.int x :: st) := by
  obtain ⟨p, l, e, R, s, m, args, below, meth, c, D, cy, A, Q⟩ := E
  obtain ⟨hx, hb, hml, hown, hts, hK, hA, rfl, rfl, rfl, rfl⟩ := hE
  intro H locs ls hJ hl
  exact lv_istore hx hb hd hl (by rw [hml]; exact hn) hl' (fun ls hl => (kk H locs ls hJ hl))
theorem x_astore_n (hE : zOk E l0 D0 cy0 own cc nL R0) {z : Fin 4} {i : Nat} {x : Nat} {lv' : List (Nat × Value)} (hd : decode cc pc = .ok (.astore_n z, 1)) (hi : (z : Nat) = i) (hn : i < nL) (hl' : (i, Value.ref x) :: lv.filter (fun q => !(q.1 == i) && !(q.1 + 1 == i && q.2.category == 2)) = lv') (kk : zW E k n L σ φ ρ (pc + 1) lv' st) : zW E k n L σ φ ρ pc lv (.ref x :: st) := by
  obtain ⟨p, l, e, R, s, m, args, below, meth, c, D, cy, A, Q⟩ := E
  obtain ⟨hx, hb, hml, hown, hts, hK, hA, rfl, rfl, rfl, rfl⟩ := hE
  intro H locs ls hJ hl
  exact lv_astore_n hx hb hd hi hl (by rw [hml]; exact hn) hl' (fun ls hl => (kk H locs ls hJ hl))
theorem x_astore (hE : zOk E l0 D0 cy0 own cc nL R0) {i : Nat} {x : Nat} {lv' : List (Nat × Value)} (hd : decode cc pc = .ok (.astore i, 2)) (hn : i < nL) (hl' : (i, Value.ref x) :: lv.filter (fun q => !(q.1 == i) && !(q.1 + 1 == i && q.2.category == 2)) = lv') (kk : zW E k n L σ φ ρ (pc + 2) lv' st) : zW E k n L σ φ ρ pc lv (.ref x :: st) := by
  obtain ⟨p, l, e, R, s, m, args, below, meth, c, D, cy, A, Q⟩ := E
  obtain ⟨hx, hb, hml, hown, hts, hK, hA, rfl, rfl, rfl, rfl⟩ := hE
  intro H locs ls hJ hl
  exact lv_astore hx hb hd hl (by rw [hml]; exact hn) hl' (fun ls hl => (kk H locs ls hJ hl))
theorem x_lstore (hE : zOk E l0 D0 cy0 own cc nL R0) {i : Nat} {x : Int64} {lv' : List (Nat × Value)} (hd : decode cc pc = .ok (.lstore i, 2)) (hn : i + 1 < nL) (hl' : (i, Value.long x) :: lv.filter (fun q => !(q.1 == i) && (!(q.1 == i + 1) && !(q.1 + 1 == i && q.2.category == 2))) = lv') (kk : zW E k n L σ φ ρ (pc + 2) lv' st) : zW E k n L σ φ ρ pc lv (.long x :: st) := by
  obtain ⟨p, l, e, R, s, m, args, below, meth, c, D, cy, A, Q⟩ := E
  obtain ⟨hx, hb, hml, hown, hts, hK, hA, rfl, rfl, rfl, rfl⟩ := hE
  intro H locs ls hJ hl
  exact lv_lstore hx hb hd hl (by rw [hml]; exact hn) hl' (fun ls hl => (kk H locs ls hJ hl))
theorem x_iinc (hE : zOk E l0 D0 cy0 own cc nL R0) {i : Nat} {z : Int} {x v : Int32} {lv' : List (Nat × Value)} (hd : decode cc pc = .ok (.iinc i z, 3)) (j : Nat) (hj : lv[j]? = some (i, .int x)) (hv : x + Int32.ofInt z = v) (hn : i < nL) (hl' : (i, Value.int v) :: lv.filter (fun q => !(q.1 == i) && !(q.1 + 1 == i && q.2.category == 2)) = lv') (kk : zW E k n L σ φ ρ (pc + 3) lv' st) : zW E k n L σ φ ρ pc lv st := by
  obtain ⟨p, l, e, R, s, m, args, below, meth, c, D, cy, A, Q⟩ := E
  obtain ⟨hx, hb, hml, hown, hts, hK, hA, rfl, rfl, rfl, rfl⟩ := hE
  intro H locs ls hJ hl
  exact lv_iinc hx hb hd hl hj hv (by rw [hml]; exact hn) hl' (fun ls hl => (kk H locs ls hJ hl))
theorem x_iadd (hE : zOk E l0 D0 cy0 own cc nL R0) {x y : Int32} (hd : decode cc pc = .ok (.iadd, 1)) (kk : zW E k n L σ φ ρ (pc + 1) lv (.int (x + y) :: st)) : zW E k n L σ φ ρ pc lv (.int y :: .int x :: st) := by
  obtain ⟨p, l, e, R, s, m, args, below, meth, c, D, cy, A, Q⟩ := E
  obtain ⟨hx, hb, hml, hown, hts, hK, hA, rfl, rfl, rfl, rfl⟩ := hE
  intro H locs ls hJ hl
  exact lv_iadd hx hb hd (kk H locs ls hJ hl)
theorem x_isub (hE : zOk E l0 D0 cy0 own cc nL R0) {x y : Int32} (hd : decode cc pc = .ok (.isub, 1)) (kk : zW E k n L σ φ ρ (pc + 1) lv (.int (x - y) :: st)) : zW E k n L σ φ ρ pc lv (.int y :: .int x :: st) := by
  obtain ⟨p, l, e, R, s, m, args, below, meth, c, D, cy, A, Q⟩ := E
  obtain ⟨hx, hb, hml, hown, hts, hK, hA, rfl, rfl, rfl, rfl⟩ := hE
  intro H locs ls hJ hl
  exact lv_isub hx hb hd (kk H locs ls hJ hl)
theorem x_imul (hE : zOk E l0 D0 cy0 own cc nL R0) {x y : Int32} (hd : decode cc pc = .ok (.imul, 1)) (kk : zW E k n L σ φ ρ (pc + 1) lv (.int (x * y) :: st)) : zW E k n L σ φ ρ pc lv (.int y :: .int x :: st) := by
  obtain ⟨p, l, e, R, s, m, args, below, meth, c, D, cy, A, Q⟩ := E
  obtain ⟨hx, hb, hml, hown, hts, hK, hA, rfl, rfl, rfl, rfl⟩ := hE
  intro H locs ls hJ hl
  exact lv_imul hx hb hd (kk H locs ls hJ hl)
theorem x_iand (hE : zOk E l0 D0 cy0 own cc nL R0) {x y : Int32} (hd : decode cc pc = .ok (.iand, 1)) (kk : zW E k n L σ φ ρ (pc + 1) lv (.int (x &&& y) :: st)) : zW E k n L σ φ ρ pc lv (.int y :: .int x :: st) := by
  obtain ⟨p, l, e, R, s, m, args, below, meth, c, D, cy, A, Q⟩ := E
  obtain ⟨hx, hb, hml, hown, hts, hK, hA, rfl, rfl, rfl, rfl⟩ := hE
  intro H locs ls hJ hl
  exact lv_iand hx hb hd (kk H locs ls hJ hl)
theorem x_ior (hE : zOk E l0 D0 cy0 own cc nL R0) {x y : Int32} (hd : decode cc pc = .ok (.ior, 1)) (kk : zW E k n L σ φ ρ (pc + 1) lv (.int (x ||| y) :: st)) : zW E k n L σ φ ρ pc lv (.int y :: .int x :: st) := by
  obtain ⟨p, l, e, R, s, m, args, below, meth, c, D, cy, A, Q⟩ := E
  obtain ⟨hx, hb, hml, hown, hts, hK, hA, rfl, rfl, rfl, rfl⟩ := hE
  intro H locs ls hJ hl
  exact lv_ior hx hb hd (kk H locs ls hJ hl)
theorem x_ixor (hE : zOk E l0 D0 cy0 own cc nL R0) {x y : Int32} (hd : decode cc pc = .ok (.ixor, 1)) (kk : zW E k n L σ φ ρ (pc + 1) lv (.int (x ^^^ y) :: st)) : zW E k n L σ φ ρ pc lv (.int y :: .int x :: st) := by
  obtain ⟨p, l, e, R, s, m, args, below, meth, c, D, cy, A, Q⟩ := E
  obtain ⟨hx, hb, hml, hown, hts, hK, hA, rfl, rfl, rfl, rfl⟩ := hE
  intro H locs ls hJ hl
  exact lv_ixor hx hb hd (kk H locs ls hJ hl)
theorem x_ishl (hE : zOk E l0 D0 cy0 own cc nL R0) {x y : Int32} (hd : decode cc pc = .ok (.ishl, 1)) (kk : zW E k n L σ φ ρ (pc + 1) lv (.int (x <<< (y &&& 31)) :: st)) : zW E k n L σ φ ρ pc lv (.int y :: .int x :: st) := by
  obtain ⟨p, l, e, R, s, m, args, below, meth, c, D, cy, A, Q⟩ := E
  obtain ⟨hx, hb, hml, hown, hts, hK, hA, rfl, rfl, rfl, rfl⟩ := hE
  intro H locs ls hJ hl
  exact lv_ishl hx hb hd (kk H locs ls hJ hl)
theorem x_ishr (hE : zOk E l0 D0 cy0 own cc nL R0) {x y : Int32} (hd : decode cc pc = .ok (.ishr, 1)) (kk : zW E k n L σ φ ρ (pc + 1) lv (.int (x >>> (y &&& 31)) :: st)) : zW E k n L σ φ ρ pc lv (.int y :: .int x :: st) := by
  obtain ⟨p, l, e, R, s, m, args, below, meth, c, D, cy, A, Q⟩ := E
  obtain ⟨hx, hb, hml, hown, hts, hK, hA, rfl, rfl, rfl, rfl⟩ := hE
  intro H locs ls hJ hl
  exact lv_ishr hx hb hd (kk H locs ls hJ hl)
theorem x_iushr (hE : zOk E l0 D0 cy0 own cc nL R0) {x y : Int32} (hd : decode cc pc = .ok (.iushr, 1)) (kk : zW E k n L σ φ ρ (pc + 1) lv (.int ((x.toUInt32 >>> (y.toUInt32 &&& Int32.toUInt32 31)).toInt32) :: st)) : zW E k n L σ φ ρ pc lv (.int y :: .int x :: st) := by
  obtain ⟨p, l, e, R, s, m, args, below, meth, c, D, cy, A, Q⟩ := E
  obtain ⟨hx, hb, hml, hown, hts, hK, hA, rfl, rfl, rfl, rfl⟩ := hE
  intro H locs ls hJ hl
  exact lv_iushr hx hb hd rfl (kk H locs ls hJ hl)
theorem x_ineg (hE : zOk E l0 D0 cy0 own cc nL R0) {x : Int32} (hd : decode cc pc = .ok (.ineg, 1)) (kk : zW E k n L σ φ ρ (pc + 1) lv (.int (-x) :: st)) : zW E k n L σ φ ρ pc lv (.int x :: st) := by
  obtain ⟨p, l, e, R, s, m, args, below, meth, c, D, cy, A, Q⟩ := E
  obtain ⟨hx, hb, hml, hown, hts, hK, hA, rfl, rfl, rfl, rfl⟩ := hE
  intro H locs ls hJ hl
  exact lv_ineg hx hb hd (kk H locs ls hJ hl)
theorem x_idiv (hE : zOk E l0 D0 cy0 own cc nL R0) {x y : Int32} (hd : decode cc pc = .ok (.idiv, 1)) (hne : ¬ y = 0) (kk : zW E k n L σ φ ρ (pc + 1) lv (.int (x / y) :: st)) : zW E k n L σ φ ρ pc lv (.int y :: .int x :: st) := by
  obtain ⟨p, l, e, R, s, m, args, below, meth, c, D, cy, A, Q⟩ := E
  obtain ⟨hx, hb, hml, hown, hts, hK, hA, rfl, rfl, rfl, rfl⟩ := hE
  intro H locs ls hJ hl
  exact lv_idiv hx hb hd hne (kk H locs ls hJ hl)
theorem x_irem (hE : zOk E l0 D0 cy0 own cc nL R0) {x y : Int32} (hd : decode cc pc = .ok (.irem, 1)) (hne : ¬ y = 0) (kk : zW E k n L σ φ ρ (pc + 1) lv (.int (x - x / y * y) :: st)) : zW E k n L σ φ ρ pc lv (.int y :: .int x :: st) := by
  obtain ⟨p, l, e, R, s, m, args, below, meth, c, D, cy, A, Q⟩ := E
  obtain ⟨hx, hb, hml, hown, hts, hK, hA, rfl, rfl, rfl, rfl⟩ := hE
  intro H locs ls hJ hl
  exact lv_irem hx hb hd hne (kk H locs ls hJ hl)
theorem x_i2l (hE : zOk E l0 D0 cy0 own cc nL R0) {x : Int32} {v : Int64} (hd : decode cc pc = .ok (.i2l, 1)) (hv : x.toInt64 = v) (kk : zW E k n L σ φ ρ (pc + 1) lv (.long v :: st)) : zW E k n L σ φ ρ pc lv (.int x :: st) := by
  obtain ⟨p, l, e, R, s, m, args, below, meth, c, D, cy, A, Q⟩ := E
  obtain ⟨hx, hb, hml, hown, hts, hK, hA, rfl, rfl, rfl, rfl⟩ := hE
  intro H locs ls hJ hl
  exact lv_i2l hx hb hd hv (kk H locs ls hJ hl)
theorem x_dup (hE : zOk E l0 D0 cy0 own cc nL R0) {va : Value} (hd : decode cc pc = .ok (.dup, 1)) (h1 : va.category = 1) (kk : zW E k n L σ φ ρ (pc + 1) lv (va :: va :: st)) : zW E k n L σ φ ρ pc lv (va :: st) := by
  obtain ⟨p, l, e, R, s, m, args, below, meth, c, D, cy, A, Q⟩ := E
  obtain ⟨hx, hb, hml, hown, hts, hK, hA, rfl, rfl, rfl, rfl⟩ := hE
  intro H locs ls hJ hl
  exact lv_dup hx hb hd h1 (kk H locs ls hJ hl)
theorem x_pop (hE : zOk E l0 D0 cy0 own cc nL R0) {va : Value} (hd : decode cc pc = .ok (.pop, 1)) (h1 : va.category = 1) (kk : zW E k n L σ φ ρ (pc + 1) lv st) : zW E k n L σ φ ρ pc lv (va :: st) := by
  obtain ⟨p, l, e, R, s, m, args, below, meth, c, D, cy, A, Q⟩ := E
  obtain ⟨hx, hb, hml, hown, hts, hK, hA, rfl, rfl, rfl, rfl⟩ := hE
  intro H locs ls hJ hl
  exact lv_pop hx hb hd h1 (kk H locs ls hJ hl)
theorem x_dup_x1 (hE : zOk E l0 D0 cy0 own cc nL R0) {va vb : Value} (hd : decode cc pc = .ok (.dup_x1, 1)) (h1 : va.category = 1) (h2 : vb.category = 1) (kk : zW E k n L σ φ ρ (pc + 1) lv (va :: vb :: va :: st)) : zW E k n L σ φ ρ pc lv (va :: vb :: st) := by
  obtain ⟨p, l, e, R, s, m, args, below, meth, c, D, cy, A, Q⟩ := E
  obtain ⟨hx, hb, hml, hown, hts, hK, hA, rfl, rfl, rfl, rfl⟩ := hE
  intro H locs ls hJ hl
  exact lv_dup_x1 hx hb hd h1 h2 (kk H locs ls hJ hl)
theorem x_dup_x2 (hE : zOk E l0 D0 cy0 own cc nL R0) {va vb vd : Value} (hd : decode cc pc = .ok (.dup_x2, 1)) (h1 : va.category = 1) (h2 : vb.category = 1) (h3 : vd.category = 1) (kk : zW E k n L σ φ ρ (pc + 1) lv (va :: vb :: vd :: va :: st)) : zW E k n L σ φ ρ pc lv (va :: vb :: vd :: st) := by
  obtain ⟨p, l, e, R, s, m, args, below, meth, c, D, cy, A, Q⟩ := E
  obtain ⟨hx, hb, hml, hown, hts, hK, hA, rfl, rfl, rfl, rfl⟩ := hE
  intro H locs ls hJ hl
  exact lv_dup_x2 hx hb hd h1 h2 h3 (kk H locs ls hJ hl)
theorem x_dup2 (hE : zOk E l0 D0 cy0 own cc nL R0) {va vb : Value} (hd : decode cc pc = .ok (.dup2, 1)) (h1 : va.category = 1) (h2 : vb.category = 1) (kk : zW E k n L σ φ ρ (pc + 1) lv (va :: vb :: va :: vb :: st)) : zW E k n L σ φ ρ pc lv (va :: vb :: st) := by
  obtain ⟨p, l, e, R, s, m, args, below, meth, c, D, cy, A, Q⟩ := E
  obtain ⟨hx, hb, hml, hown, hts, hK, hA, rfl, rfl, rfl, rfl⟩ := hE
  intro H locs ls hJ hl
  exact lv_dup2_11 hx hb hd h1 h2 (kk H locs ls hJ hl)
theorem x_if_eq (hE : zOk E l0 D0 cy0 own cc nL R0) {x : Int32} {off : Int} {tgt : Nat} (hd : decode cc pc = .ok (.ifCond .eq off, 3)) (ht : (pc : Int) + off = (tgt : Int)) (kt : x = 0 → zW E k n L σ φ ρ tgt lv st) (kf : ¬ (x = 0) → zW E k n L σ φ ρ (pc + 3) lv st) : zW E k n L σ φ ρ pc lv (.int x :: st) := by
  obtain ⟨p, l, e, R, s, m, args, below, meth, c, D, cy, A, Q⟩ := E
  obtain ⟨hx, hb, hml, hown, hts, hK, hA, rfl, rfl, rfl, rfl⟩ := hE
  intro H locs ls hJ hl
  exact lv_if_eq hx hb hd ht (fun hc => kt hc H locs ls hJ hl) (fun hc => kf hc H locs ls hJ hl)
theorem x_if_ne (hE : zOk E l0 D0 cy0 own cc nL R0) {x : Int32} {off : Int} {tgt : Nat} (hd : decode cc pc = .ok (.ifCond .ne off, 3)) (ht : (pc : Int) + off = (tgt : Int)) (kt : x ≠ 0 → zW E k n L σ φ ρ tgt lv st) (kf : x = 0 → zW E k n L σ φ ρ (pc + 3) lv st) : zW E k n L σ φ ρ pc lv (.int x :: st) := by
  obtain ⟨p, l, e, R, s, m, args, below, meth, c, D, cy, A, Q⟩ := E
  obtain ⟨hx, hb, hml, hown, hts, hK, hA, rfl, rfl, rfl, rfl⟩ := hE
  intro H locs ls hJ hl
  exact lv_if_ne hx hb hd ht (fun hc => kt hc H locs ls hJ hl) (fun hc => kf hc H locs ls hJ hl)
theorem x_if_lt (hE : zOk E l0 D0 cy0 own cc nL R0) {x : Int32} {off : Int} {tgt : Nat} (hd : decode cc pc = .ok (.ifCond .lt off, 3)) (ht : (pc : Int) + off = (tgt : Int)) (kt : x < 0 → zW E k n L σ φ ρ tgt lv st) (kf : ¬ (x < 0) → zW E k n L σ φ ρ (pc + 3) lv st) : zW E k n L σ φ ρ pc lv (.int x :: st) := by
  obtain ⟨p, l, e, R, s, m, args, below, meth, c, D, cy, A, Q⟩ := E
  obtain ⟨hx, hb, hml, hown, hts, hK, hA, rfl, rfl, rfl, rfl⟩ := hE
  intro H locs ls hJ hl
  exact lv_if_lt hx hb hd ht (fun hc => kt hc H locs ls hJ hl) (fun hc => kf hc H locs ls hJ hl)
theorem x_if_ge (hE : zOk E l0 D0 cy0 own cc nL R0) {x : Int32} {off : Int} {tgt : Nat} (hd : decode cc pc = .ok (.ifCond .ge off, 3)) (ht : (pc : Int) + off = (tgt : Int)) (kt : 0 ≤ x → zW E k n L σ φ ρ tgt lv st) (kf : ¬ (0 ≤ x) → zW E k n L σ φ ρ (pc + 3) lv st) : zW E k n L σ φ ρ pc lv (.int x :: st) := by
  obtain ⟨p, l, e, R, s, m, args, below, meth, c, D, cy, A, Q⟩ := E
  obtain ⟨hx, hb, hml, hown, hts, hK, hA, rfl, rfl, rfl, rfl⟩ := hE
  intro H locs ls hJ hl
  exact lv_if_ge hx hb hd ht (fun hc => kt hc H locs ls hJ hl) (fun hc => kf hc H locs ls hJ hl)
theorem x_if_gt (hE : zOk E l0 D0 cy0 own cc nL R0) {x : Int32} {off : Int} {tgt : Nat} (hd : decode cc pc = .ok (.ifCond .gt off, 3)) (ht : (pc : Int) + off = (tgt : Int)) (kt : 0 < x → zW E k n L σ φ ρ tgt lv st) (kf : ¬ (0 < x) → zW E k n L σ φ ρ (pc + 3) lv st) : zW E k n L σ φ ρ pc lv (.int x :: st) := by
  obtain ⟨p, l, e, R, s, m, args, below, meth, c, D, cy, A, Q⟩ := E
  obtain ⟨hx, hb, hml, hown, hts, hK, hA, rfl, rfl, rfl, rfl⟩ := hE
  intro H locs ls hJ hl
  exact lv_if_gt hx hb hd ht (fun hc => kt hc H locs ls hJ hl) (fun hc => kf hc H locs ls hJ hl)
theorem x_if_le (hE : zOk E l0 D0 cy0 own cc nL R0) {x : Int32} {off : Int} {tgt : Nat} (hd : decode cc pc = .ok (.ifCond .le off, 3)) (ht : (pc : Int) + off = (tgt : Int)) (kt : x ≤ 0 → zW E k n L σ φ ρ tgt lv st) (kf : ¬ (x ≤ 0) → zW E k n L σ φ ρ (pc + 3) lv st) : zW E k n L σ φ ρ pc lv (.int x :: st) := by
  obtain ⟨p, l, e, R, s, m, args, below, meth, c, D, cy, A, Q⟩ := E
  obtain ⟨hx, hb, hml, hown, hts, hK, hA, rfl, rfl, rfl, rfl⟩ := hE
  intro H locs ls hJ hl
  exact lv_if_le hx hb hd ht (fun hc => kt hc H locs ls hJ hl) (fun hc => kf hc H locs ls hJ hl)
theorem x_icmp_eq (hE : zOk E l0 D0 cy0 own cc nL R0) {x y : Int32} {off : Int} {tgt : Nat} (hd : decode cc pc = .ok (.if_icmp .eq off, 3)) (ht : (pc : Int) + off = (tgt : Int)) (kt : x = y → zW E k n L σ φ ρ tgt lv st) (kf : ¬ (x = y) → zW E k n L σ φ ρ (pc + 3) lv st) : zW E k n L σ φ ρ pc lv (.int y :: .int x :: st) := by
  obtain ⟨p, l, e, R, s, m, args, below, meth, c, D, cy, A, Q⟩ := E
  obtain ⟨hx, hb, hml, hown, hts, hK, hA, rfl, rfl, rfl, rfl⟩ := hE
  intro H locs ls hJ hl
  exact lv_icmp_eq hx hb hd ht (fun hc => kt hc H locs ls hJ hl) (fun hc => kf hc H locs ls hJ hl)
theorem x_icmp_ne (hE : zOk E l0 D0 cy0 own cc nL R0) {x y : Int32} {off : Int} {tgt : Nat} (hd : decode cc pc = .ok (.if_icmp .ne off, 3)) (ht : (pc : Int) + off = (tgt : Int)) (kt : x ≠ y → zW E k n L σ φ ρ tgt lv st) (kf : x = y → zW E k n L σ φ ρ (pc + 3) lv st) : zW E k n L σ φ ρ pc lv (.int y :: .int x :: st) := by
  obtain ⟨p, l, e, R, s, m, args, below, meth, c, D, cy, A, Q⟩ := E
  obtain ⟨hx, hb, hml, hown, hts, hK, hA, rfl, rfl, rfl, rfl⟩ := hE
  intro H locs ls hJ hl
  exact lv_icmp_ne hx hb hd ht (fun hc => kt hc H locs ls hJ hl) (fun hc => kf hc H locs ls hJ hl)
theorem x_icmp_lt (hE : zOk E l0 D0 cy0 own cc nL R0) {x y : Int32} {off : Int} {tgt : Nat} (hd : decode cc pc = .ok (.if_icmp .lt off, 3)) (ht : (pc : Int) + off = (tgt : Int)) (kt : x < y → zW E k n L σ φ ρ tgt lv st) (kf : ¬ (x < y) → zW E k n L σ φ ρ (pc + 3) lv st) : zW E k n L σ φ ρ pc lv (.int y :: .int x :: st) := by
  obtain ⟨p, l, e, R, s, m, args, below, meth, c, D, cy, A, Q⟩ := E
  obtain ⟨hx, hb, hml, hown, hts, hK, hA, rfl, rfl, rfl, rfl⟩ := hE
  intro H locs ls hJ hl
  exact lv_icmp_lt hx hb hd ht (fun hc => kt hc H locs ls hJ hl) (fun hc => kf hc H locs ls hJ hl)
theorem x_icmp_ge (hE : zOk E l0 D0 cy0 own cc nL R0) {x y : Int32} {off : Int} {tgt : Nat} (hd : decode cc pc = .ok (.if_icmp .ge off, 3)) (ht : (pc : Int) + off = (tgt : Int)) (kt : y ≤ x → zW E k n L σ φ ρ tgt lv st) (kf : ¬ (y ≤ x) → zW E k n L σ φ ρ (pc + 3) lv st) : zW E k n L σ φ ρ pc lv (.int y :: .int x :: st) := by
  obtain ⟨p, l, e, R, s, m, args, below, meth, c, D, cy, A, Q⟩ := E
  obtain ⟨hx, hb, hml, hown, hts, hK, hA, rfl, rfl, rfl, rfl⟩ := hE
  intro H locs ls hJ hl
  exact lv_icmp_ge hx hb hd ht (fun hc => kt hc H locs ls hJ hl) (fun hc => kf hc H locs ls hJ hl)
theorem x_icmp_gt (hE : zOk E l0 D0 cy0 own cc nL R0) {x y : Int32} {off : Int} {tgt : Nat} (hd : decode cc pc = .ok (.if_icmp .gt off, 3)) (ht : (pc : Int) + off = (tgt : Int)) (kt : y < x → zW E k n L σ φ ρ tgt lv st) (kf : ¬ (y < x) → zW E k n L σ φ ρ (pc + 3) lv st) : zW E k n L σ φ ρ pc lv (.int y :: .int x :: st) := by
  obtain ⟨p, l, e, R, s, m, args, below, meth, c, D, cy, A, Q⟩ := E
  obtain ⟨hx, hb, hml, hown, hts, hK, hA, rfl, rfl, rfl, rfl⟩ := hE
  intro H locs ls hJ hl
  exact lv_icmp_gt hx hb hd ht (fun hc => kt hc H locs ls hJ hl) (fun hc => kf hc H locs ls hJ hl)
theorem x_icmp_le (hE : zOk E l0 D0 cy0 own cc nL R0) {x y : Int32} {off : Int} {tgt : Nat} (hd : decode cc pc = .ok (.if_icmp .le off, 3)) (ht : (pc : Int) + off = (tgt : Int)) (kt : x ≤ y → zW E k n L σ φ ρ tgt lv st) (kf : ¬ (x ≤ y) → zW E k n L σ φ ρ (pc + 3) lv st) : zW E k n L σ φ ρ pc lv (.int y :: .int x :: st) := by
  obtain ⟨p, l, e, R, s, m, args, below, meth, c, D, cy, A, Q⟩ := E
  obtain ⟨hx, hb, hml, hown, hts, hK, hA, rfl, rfl, rfl, rfl⟩ := hE
  intro H locs ls hJ hl
  exact lv_icmp_le hx hb hd ht (fun hc => kt hc H locs ls hJ hl) (fun hc => kf hc H locs ls hJ hl)
theorem x_goto (hE : zOk E l0 D0 cy0 own cc nL R0) {off : Int} {tgt : Nat} (hd : decode cc pc = .ok (.goto off, 3)) (ht : (pc : Int) + off = (tgt : Int)) (kk : zW E k n L σ φ ρ tgt lv st) : zW E k n L σ φ ρ pc lv st := by
  obtain ⟨p, l, e, R, s, m, args, below, meth, c, D, cy, A, Q⟩ := E
  obtain ⟨hx, hb, hml, hown, hts, hK, hA, rfl, rfl, rfl, rfl⟩ := hE
  intro H locs ls hJ hl
  exact lv_goto hx hb hd ht (kk H locs ls hJ hl)
theorem x_ifnull (hE : zOk E l0 D0 cy0 own cc nL R0) {a : Nat} {off : Int} (hd : decode cc pc = .ok (.ifnull off, 3)) (kk : zW E k n L σ φ ρ (pc + 3) lv st) : zW E k n L σ φ ρ pc lv (.ref a :: st) := by
  obtain ⟨p, l, e, R, s, m, args, below, meth, c, D, cy, A, Q⟩ := E
  obtain ⟨hx, hb, hml, hown, hts, hK, hA, rfl, rfl, rfl, rfl⟩ := hE
  intro H locs ls hJ hl
  exact lv_ifnull hx hb hd (kk H locs ls hJ hl)
theorem x_ifnonnull (hE : zOk E l0 D0 cy0 own cc nL R0) {a : Nat} {off : Int} {tgt : Nat} (hd : decode cc pc = .ok (.ifnonnull off, 3)) (ht : (pc : Int) + off = (tgt : Int)) (kk : zW E k n L σ φ ρ tgt lv st) : zW E k n L σ φ ρ pc lv (.ref a :: st) := by
  obtain ⟨p, l, e, R, s, m, args, below, meth, c, D, cy, A, Q⟩ := E
  obtain ⟨hx, hb, hml, hown, hts, hK, hA, rfl, rfl, rfl, rfl⟩ := hE
  intro H locs ls hJ hl
  exact lv_ifnonnull hx hb hd ht (kk H locs ls hJ hl)
theorem x_tableOut (hE : zOk E l0 D0 cy0 own cc nL R0) {dflt lo hi : Int} {offs : Array Int} {len : Nat} {x : Int32} {tgt : Nat} (hd : decode cc pc = .ok (.tableswitch dflt lo hi offs, len)) (h : x.toInt < lo ∨ hi < x.toInt) (ht : (pc : Int) + dflt = (tgt : Int)) (kk : zW E k n L σ φ ρ tgt lv st) : zW E k n L σ φ ρ pc lv (.int x :: st) := by
  obtain ⟨p, l, e, R, s, m, args, below, meth, c, D, cy, A, Q⟩ := E
  obtain ⟨hx, hb, hml, hown, hts, hK, hA, rfl, rfl, rfl, rfl⟩ := hE
  intro H locs ls hJ hl
  exact lv_tableOut hx hb hd h ht (kk H locs ls hJ hl)
theorem x_tableIn (hE : zOk E l0 D0 cy0 own cc nL R0) {dflt lo hi : Int} {offs : Array Int} {len : Nat} {x : Int32} {off : Int} {tgt : Nat} (hd : decode cc pc = .ok (.tableswitch dflt lo hi offs, len)) (h1 : ¬ x.toInt < lo) (h2 : ¬ hi < x.toInt) (ho : offs[(x.toInt - lo).toNat]? = some off) (ht : (pc : Int) + off = (tgt : Int)) (kk : zW E k n L σ φ ρ tgt lv st) : zW E k n L σ φ ρ pc lv (.int x :: st) := by
  obtain ⟨p, l, e, R, s, m, args, below, meth, c, D, cy, A, Q⟩ := E
  obtain ⟨hx, hb, hml, hown, hts, hK, hA, rfl, rfl, rfl, rfl⟩ := hE
  intro H locs ls hJ hl
  exact lv_tableIn hx hb hd h1 h2 ho ht (kk H locs ls hJ hl)
/-- fewer locals -/
theorem x_sub {lv' : List (Nat × Value)} (hs : ∀ q ∈ lv', q ∈ lv) (kk : zW E k n L σ φ ρ pc lv' st) : zW E k n L σ φ ρ pc lv st := by
  obtain ⟨p, l, e, R, s, m, args, below, meth, c, D, cy, A, Q⟩ := E
  intro H locs ls hJ hl
  exact kk H locs ls hJ ⟨hl.1, hl.2.1, fun q hq => hl.2.2 q (hs q hq)⟩
theorem x_widen {k' n' : Nat} (h1 : k ≤ k') (h2 : n ≤ n') (kk : zW E k' n' L σ φ ρ pc lv st) : zW E k n L σ φ ρ pc lv st := by
  obtain ⟨p, l, e, R, s, m, args, below, meth, c, D, cy, A, Q⟩ := E
  intro H locs ls hJ hl
  exact W.widen h1 h2 (kk H locs ls hJ hl)
end ZP
end
section
/-! What a pool's cell is, and how it changes. -/
theorem zsh_inr {e : va_E} {ci : Nat} {S : List Value} (h : zsh e = .inr (ci, S)) : ∃ fs, e = .inr (ci, fs) ∧ fs.map zshV = S := by
  rcases e with ⟨c, m, y⟩ | ⟨c, fs⟩
  · rcases y with y | y | y | y | y <;> simp [zsh] at h
  · simp only [zsh, Sum.inr.injEq, Prod.mk.injEq] at h
    exact ⟨fs, by rw [h.1], h.2⟩
theorem zshV_int {v : Value} (h : zshV v = .int 0) : ∃ x, v = .int x := by
  cases v <;> simp [zshV] at h ⊢
theorem zshV_ref {v : Value} {b : Nat} (h : zshV v = .ref b) : v = .ref b := by
  cases v <;> simp [zshV] at h ⊢
  exact h
theorem zshV_null {v : Value} (h : zshV v = .null) : v = .null := by
  cases v <;> simp [zshV] at h ⊢
theorem zsh_ia {e : va_E} {c : ClassId} {m : Nat} (h : zsh e = .inl (c, m, .inl (fun _ => 0))) : e = .inl (c, m, .inl (zrI e)) := by
  rcases e with ⟨c', m', y⟩ | ⟨c', fs⟩
  · rcases y with y | y | y | y | y <;> simp [zsh] at h
    obtain ⟨rfl, rfl⟩ := h
    rfl
  · simp [zsh] at h
theorem zsh_ja {e : va_E} {c : ClassId} {m : Nat} (h : zsh e = .inl (c, m, .inr (.inl (fun _ => 0)))) : ∃ g, e = .inl (c, m, .inr (.inl g)) := by
  rcases e with ⟨c', m', y⟩ | ⟨c', fs⟩
  · rcases y with y | y | y | y | y <;> simp [zsh] at h
    obtain ⟨rfl, rfl⟩ := h
    exact ⟨_, rfl⟩
  · simp [zsh] at h
theorem zsh_ra {e : va_E} {c : ClassId} {m : Nat} {g : Nat → Option Nat} (h : zsh e = zRA c m g) : e = zRA c m g := by
  rcases e with ⟨c', m', y⟩ | ⟨c', fs⟩
  · rcases y with y | y | y | y | y <;> simp [zsh, zRA] at h ⊢
    exact h
  · simp [zsh, zRA] at h
section ZH
variable {L : List Nat} {σ : Nat → va_E} {φ : Nat → Nat → Nat → Int32} {ρ : Nat → Nat → Int32} {f : Nat → va_E} {a ci j : Nat} {S : List Value}
theorem z_map {fs : List Value} (h : fs.map zshV = S) {v : Value} (hS : S[j]? = some v) : ∃ w, fs[j]? = some w ∧ zshV w = v := by
  subst h
  rw [List.getElem?_map] at hS
  cases h2 : fs[j]? with
  | none => rw [h2] at hS; cases hS
  | some w => rw [h2] at hS; exact ⟨w, rfl, Option.some.inj hS⟩
theorem z_getint (hf : zPic L σ φ ρ f) (ha : zT L σ a (.inr (ci, S))) (hS : S[j]? = some (.int 0)) : ∃ fs, f a = .inr (ci, fs) ∧ fs[j]? = some (.int (φ ci j a)) ∧ fs.map zshV = S := by
  obtain ⟨h1, h2, -⟩ := hf a ha.1
  obtain ⟨fs, e1, e2⟩ := zsh_inr (h1.trans ha.2)
  obtain ⟨w, w1, w2⟩ := z_map e2 hS
  obtain ⟨x, rfl⟩ := zshV_int w2
  refine ⟨fs, e1, ?_, e2⟩
  rw [w1, ← h2 ci j, e1]
  simp [zfI, w1]
theorem z_getref {b : Nat} (hf : zPic L σ φ ρ f) (ha : zT L σ a (.inr (ci, S))) (hS : S[j]? = some (.ref b)) : ∃ fs, f a = .inr (ci, fs) ∧ fs[j]? = some (.ref b) ∧ fs.map zshV = S := by
  obtain ⟨h1, h2, -⟩ := hf a ha.1
  obtain ⟨fs, e1, e2⟩ := zsh_inr (h1.trans ha.2)
  obtain ⟨w, w1, w2⟩ := z_map e2 hS
  exact ⟨fs, e1, by rw [w1, zshV_ref w2], e2⟩
theorem z_getnull (hf : zPic L σ φ ρ f) (ha : zT L σ a (.inr (ci, S))) (hS : S[j]? = some .null) : ∃ fs, f a = .inr (ci, fs) ∧ fs[j]? = some .null ∧ fs.map zshV = S := by
  obtain ⟨h1, h2, -⟩ := hf a ha.1
  obtain ⟨fs, e1, e2⟩ := zsh_inr (h1.trans ha.2)
  obtain ⟨w, w1, w2⟩ := z_map e2 hS
  exact ⟨fs, e1, by rw [w1, zshV_null w2], e2⟩
theorem z_setsame {v : Value} (h : S[j]? = some v) : S.set j v = S := by
  apply List.ext_getElem?
  intro i
  rw [List.getElem?_set]
  split
  · rename_i h1
    subst h1
    rw [h]
    split
    · rfl
    · rename_i h2
      exact absurd (List.getElem?_eq_some_iff.mp h).1 h2
  · rfl
theorem z_putint {fs : List Value} {v : Int32} (hf : zPic L σ φ ρ f) (ha : zT L σ a (.inr (ci, S))) (e1 : f a = .inr (ci, fs)) (e2 : fs.map zshV = S) (hS : S[j]? = some (.int 0)) : zPic L σ (zup φ ci j a v) ρ (va_up f a (.inr (ci, fs.set j (.int v)))) := by
  intro b hb
  obtain ⟨h1, h2, h3⟩ := hf b hb
  by_cases hba : b = a
  · subst hba
    rw [va_up_self]
    refine ⟨?_, ?_, ?_⟩
    · rw [ha.2]
      show Sum.inr (ci, (fs.set j (.int v)).map zshV) = _
      rw [List.map_set, e2]
      show Sum.inr (ci, S.set j (.int 0)) = _
      rw [z_setsame hS]
    · intro c i
      have h4 := h2 c i
      rw [e1] at h4
      obtain ⟨w, w1, w2⟩ := z_map e2 hS
      have hlt : j < fs.length := (List.getElem?_eq_some_iff.mp w1).1
      by_cases hc : c = ci
      · subst hc
        by_cases hi : i = j
        · subst hi
          simp [zfI, zup, List.getElem?_set, hlt]
        · rw [zup, if_neg (fun h => hi h.2.1), ← h4]
          simp only [zfI, if_true]
          rw [List.getElem?_set_ne (Ne.symm hi)]
      · rw [zup, if_neg (fun h => hc h.1), ← h4]
        simp [zfI, Ne.symm hc]
    · rw [e1] at h3
      rw [← h3]
      rfl
  · rw [va_up_ne _ _ hba]
    refine ⟨h1, fun c i => ?_, h3⟩
    rw [zup, if_neg (fun h => hba h.2.2)]
    exact h2 c i
theorem z_putref {fs : List Value} {b : Nat} (hf : zPic L σ φ ρ f) (e1 : f a = .inr (ci, fs)) (e2 : fs.map zshV = S) (hS : ∃ v0, S[j]? = some v0 ∧ (v0 = .null ∨ ∃ r, v0 = .ref r)) : zPic L (va_up σ a (.inr (ci, S.set j (.ref b)))) φ ρ (va_up f a (.inr (ci, fs.set j (.ref b)))) := by
  intro x hx
  obtain ⟨h1, h2, h3⟩ := hf x hx
  by_cases hba : x = a
  · subst hba
    rw [va_up_self, va_up_self]
    refine ⟨?_, ?_, ?_⟩
    · show Sum.inr (ci, (fs.set j (.ref b)).map zshV) = _
      rw [List.map_set, e2]
      rfl
    · intro c i
      have h4 := h2 c i
      rw [e1] at h4
      obtain ⟨v0, hv0, hv1⟩ := hS
      obtain ⟨w, w1, w2⟩ := z_map e2 hv0
      have hlt : j < fs.length := (List.getElem?_eq_some_iff.mp w1).1
      rw [← h4]
      by_cases hc : c = ci
      · subst hc
        by_cases hi : i = j
        · subst hi
          have hw : w = .null ∨ ∃ r, w = .ref r := by
            rcases hv1 with rfl | ⟨r, rfl⟩
            · exact Or.inl (zshV_null w2)
            · exact Or.inr ⟨r, zshV_ref w2⟩
          rcases hw with rfl | ⟨r, rfl⟩ <;> (simp only [zfI, if_true]; rw [List.getElem?_set_self hlt, w1])
        · simp only [zfI, if_true]
          rw [List.getElem?_set_ne (Ne.symm hi)]
      · simp [zfI, Ne.symm hc]
    · rw [e1] at h3
      rw [← h3]
      rfl
  · rw [va_up_ne _ _ hba, va_up_ne _ _ hba]
    exact ⟨h1, h2, h3⟩
theorem z_row {c : ClassId} {m : Nat} {g : Nat → Int32} (hf : zPic L σ φ ρ f) (ha : zT L σ a (.inl (c, m, .inl (fun _ => 0)))) : zPic L σ φ (va_up ρ a g) (va_up f a (.inl (c, m, .inl g))) := by
  intro x hx
  obtain ⟨h1, h2, h3⟩ := hf x hx
  by_cases hba : x = a
  · subst hba
    rw [va_up_self, va_up_self]
    refine ⟨ha.2.symm, fun c' i => ?_, rfl⟩
    rw [← h2 c' i, zsh_ia (h1.trans ha.2)]
    rfl
  · rw [va_up_ne _ _ hba, va_up_ne _ _ hba]
    exact ⟨h1, h2, h3⟩
theorem z_rowR {c : ClassId} {m : Nat} {g g' : Nat → Option Nat} (hf : zPic L σ φ ρ f) (ha : zT L σ a (zRA c m g)) : zPic L (va_up σ a (zRA c m g')) φ ρ (va_up f a (zRA c m g')) := by
  intro x hx
  obtain ⟨h1, h2, h3⟩ := hf x hx
  by_cases hba : x = a
  · subst hba
    rw [va_up_self, va_up_self]
    refine ⟨rfl, fun c' i => ?_, ?_⟩
    · rw [← h2 c' i, zsh_ra (h1.trans ha.2)]
      rfl
    · rw [← h3, zsh_ra (h1.trans ha.2)]
      rfl
  · rw [va_up_ne _ _ hba, va_up_ne _ _ hba]
    exact ⟨h1, h2, h3⟩
/-- nothing that has been is other than it was, but the object w -/
def zX (w : Nat) (L : List Nat) (σ : Nat → va_E) (φ : Nat → Nat → Nat → Int32) (ρ : Nat → Nat → Int32) (L' : List Nat) (σ' : Nat → va_E) (φ' : Nat → Nat → Nat → Int32) (ρ' : Nat → Nat → Int32) : Prop := (∀ b ∈ L, b ∈ L') ∧ ∀ b ∈ L, b ≠ w → σ' b = σ b ∧ (∀ c i, φ' c i b = φ c i b) ∧ ρ' b = ρ b
theorem zX.rf {w : Nat} : zX w L σ φ ρ L σ φ ρ := ⟨fun _ h => h, fun _ _ _ => ⟨rfl, fun _ _ => rfl, rfl⟩⟩
theorem zX.tr {w : Nat} {L1 L2 : List Nat} {σ1 σ2 : Nat → va_E} {φ1 φ2 : Nat → Nat → Nat → Int32} {ρ1 ρ2 : Nat → Nat → Int32} (h : zX w L σ φ ρ L1 σ1 φ1 ρ1) (h2 : zX w L1 σ1 φ1 ρ1 L2 σ2 φ2 ρ2) : zX w L σ φ ρ L2 σ2 φ2 ρ2 := by
  refine ⟨fun b hb => h2.1 b (h.1 b hb), fun b hb hw => ?_⟩
  obtain ⟨a1, a2, a3⟩ := h.2 b hb hw
  obtain ⟨b1, b2, b3⟩ := h2.2 b (h.1 b hb) hw
  exact ⟨b1.trans a1, fun c i => (b2 c i).trans (a2 c i), b3.trans a3⟩
/-- a step that changes an object w1 that wasn't there at the beginning -/
theorem zX.tr' {w w1 : Nat} {L1 L2 : List Nat} {σ1 σ2 : Nat → va_E} {φ1 φ2 : Nat → Nat → Nat → Int32} {ρ1 ρ2 : Nat → Nat → Int32} (h : zX w L σ φ ρ L1 σ1 φ1 ρ1) (hn : w1 ∉ L) (h2 : zX w1 L1 σ1 φ1 ρ1 L2 σ2 φ2 ρ2) : zX w L σ φ ρ L2 σ2 φ2 ρ2 := by
  refine ⟨fun b hb => h2.1 b (h.1 b hb), fun b hb hw => ?_⟩
  obtain ⟨a1, a2, a3⟩ := h.2 b hb hw
  obtain ⟨b1, b2, b3⟩ := h2.2 b (h.1 b hb) (fun e => hn (e ▸ hb))
  exact ⟨b1.trans a1, fun c i => (b2 c i).trans (a2 c i), b3.trans a3⟩
theorem zX.T {w : Nat} {L1 : List Nat} {σ1 : Nat → va_E} {φ1 : Nat → Nat → Nat → Int32} {ρ1 : Nat → Nat → Int32} (h : zX w L σ φ ρ L1 σ1 φ1 ρ1) {b : Nat} {e : va_E} (hb : zT L σ b e) (hw : b ≠ w) : zT L1 σ1 b e := ⟨h.1 b hb.1, (h.2 b hb.1 hw).1.trans hb.2⟩
theorem zT.ne {b : Nat} {e1 e2 : va_E} (h1 : zT L σ a e1) (h2 : zT L σ b e2) (h : e1 ≠ e2) : a ≠ b := fun e => h (by rw [← h1.2, ← h2.2, e])
/-- the pool with one cell more -/
theorem z_push {q : Nat} {e : va_E} (hf : zPic L σ φ ρ f) (hq : q ∉ L) : zPic (L ++ [q]) (va_up σ q (zsh e)) (fun c i b => if b = q then zfI e c i else φ c i b) (va_up ρ q (zrI e)) (va_up f q e) := by
  intro x hx
  by_cases hxq : x = q
  · subst hxq
    simp [va_up_self]
  · have hxL : x ∈ L := by
      rcases List.mem_append.mp hx with h | h
      · exact h
      · exact absurd (List.mem_singleton.mp h) hxq
    obtain ⟨h1, h2, h3⟩ := hf x hxL
    rw [va_up_ne _ _ hxq, va_up_ne _ _ hxq, va_up_ne _ _ hxq]
    exact ⟨h1, fun c i => by simp only [if_neg hxq]; exact h2 c i, h3⟩
theorem z_pushX {w q : Nat} {e : va_E} (hq : q ∉ L) : zX w L σ φ ρ (L ++ [q]) (va_up σ q (zsh e)) (fun c i b => if b = q then zfI e c i else φ c i b) (va_up ρ q (zrI e)) := by
  refine ⟨fun b hb => List.mem_append_left _ hb, fun b hb _ => ?_⟩
  have hne : b ≠ q := fun h => hq (h ▸ hb)
  exact ⟨va_up_ne _ _ hne, fun c i => if_neg hne, va_up_ne _ _ hne⟩
end ZH
end
section
/-! The rows that touch the heap, in the words of the pool. -/
theorem z_plget {L : List Nat} {f : Nat → va_E} {a : Nat} (h : a ∈ L) : ∃ k : Nat, (va_pl L f)[k]? = some (a, f a) := va_pl_get (X := []) (f := f) h
theorem z_plset {A : Nat → Prop} {L : List Nat} {f : Nat → va_E} {a k : Nat} {e : va_E} (hD : va_D A (va_pl L f)) (h : a ∈ L) (hk : (va_pl L f)[k]? = some (a, f a)) : (va_pl L f).set k (a, e) = va_pl L (va_up f a e) := va_pl_set (X := []) hD h hk
section ZR
variable {E : zCx} {l0 : Launch} {D0 : va_G} {cy0 : Nat → ClassId} {own : String} {cc : ByteArray} {nL : Nat} {R0 : Room} {k n : Nat} {L : List Nat} {σ : Nat → va_E} {φ : Nat → Nat → Nat → Int32} {ρ : Nat → Nat → Int32} {pc : Nat} {lv : List (Nat × Value)} {st : List Value}
variable {a ci index N j0 : Nat} {S : List Value} {C : String} {T : u_T}
theorem h_geti (hE : zOk E l0 D0 cy0 own cc nL R0) (ha : zT L σ a (.inr (ci, S))) (hc : vwCl[ci]? = some (C, T, N)) (hin : ∀ w ∈ u_ws C T N, w ∈ gtbl) (j : Nat) (hj : j < N) (hq : Cond.fieldLink own index (T j).1 (T j).2.1 (T j).2.2.1 ∈ gtbl) (hS : S[j]? = some (.int 0)) (hd : decode cc pc = .ok (.getfield index, 3)) (kk : zW E k n L σ φ ρ (pc + 3) lv (.int (φ ci j a) :: st)) : zW E k n L σ φ ρ pc lv (.ref a :: st) := by
  obtain ⟨p, l, e, R, s, m, args, below, meth, c, D, cy, A, Q⟩ := E
  obtain ⟨hx, hb, hml, hown, hts, hK, hA, rfl, rfl, rfl, rfl⟩ := hE
  intro H locs ls hJ hl
  obtain ⟨f, hf, hP, hD, hS0⟩ := id hJ
  obtain ⟨fs, e1, e2, -⟩ := z_getint hf ha hS
  obtain ⟨q0, hq0⟩ := z_plget (f := f) ha.1
  exact va_get hx hb hts hin hown hK.1 hP q0 (by rw [← e1]; exact hq0) hc j hj (hts _ hq) (fun x h => h) e2 hd (kk H locs ls hJ hl)
theorem h_getr {b : Nat} (hE : zOk E l0 D0 cy0 own cc nL R0) (ha : zT L σ a (.inr (ci, S))) (hc : vwCl[ci]? = some (C, T, N)) (hin : ∀ w ∈ u_ws C T N, w ∈ gtbl) (j : Nat) (hj : j < N) (hq : Cond.fieldLink own index (T j).1 (T j).2.1 (T j).2.2.1 ∈ gtbl) (hS : S[j]? = some (.ref b)) (hd : decode cc pc = .ok (.getfield index, 3)) (kk : zW E k n L σ φ ρ (pc + 3) lv (.ref b :: st)) : zW E k n L σ φ ρ pc lv (.ref a :: st) := by
  obtain ⟨p, l, e, R, s, m, args, below, meth, c, D, cy, A, Q⟩ := E
  obtain ⟨hx, hb, hml, hown, hts, hK, hA, rfl, rfl, rfl, rfl⟩ := hE
  intro H locs ls hJ hl
  obtain ⟨f, hf, hP, hD, hS0⟩ := id hJ
  obtain ⟨fs, e1, e2, -⟩ := z_getref hf ha hS
  obtain ⟨q0, hq0⟩ := z_plget (f := f) ha.1
  exact va_get hx hb hts hin hown hK.1 hP q0 (by rw [← e1]; exact hq0) hc j hj (hts _ hq) (fun x h => h) e2 hd (kk H locs ls hJ hl)
theorem h_puti {v : Int32} {ty : FieldType} {ty0 : Nat → FieldType} (hE : zOk E l0 D0 cy0 own cc nL R0) (ha : zT L σ a (.inr (ci, S))) (hc : vwCl[ci]? = some (C, T, N)) (hin : ∀ w ∈ u_ws C T N, w ∈ gtbl) (hty : ∀ k, k < N → parseFieldDescriptor (T k).2.2.1 = some (ty0 k)) (hnm : ∀ a, a < N → ∀ b, b < N → a ≠ b → (T a).2.1 ≠ (T b).2.1) (j : Nat) (hj : j < N) (hq : Cond.fieldLink own index (T j).1 (T j).2.1 (T j).2.2.1 ∈ gtbl) (hfin : (T j).2.2.2 = false) (hS : S[j]? = some (.int 0)) (hdsc : parseFieldDescriptor (T j).2.2.1 = some ty) (hn : narrow ty (.int v) = .int v) (hfit : fits ty (.int v) = true) (hd : decode cc pc = .ok (.putfield index, 3)) (kk : zW E k n L σ (zup φ ci j a v) ρ (pc + 3) lv st) : zW E k n L σ φ ρ pc lv (.int v :: .ref a :: st) := by
  obtain ⟨p, l, e, R, s, m, args, below, meth, c, D, cy, A, Q⟩ := E
  obtain ⟨hx, hb, hml, hown, hts, hK, hA, rfl, rfl, rfl, rfl⟩ := hE
  intro H locs ls hJ hl
  obtain ⟨f, hf, hP, hD, hS0⟩ := id hJ
  obtain ⟨fs, e1, e2, e3⟩ := z_getint hf ha hS
  obtain ⟨q0, hq0⟩ := z_plget (f := f) ha.1
  refine va_put hx hb hts hin ty0 hty hnm hown hK.1 hP hD hS0 q0 (by rw [← e1]; exact hq0) hc j hj (hts _ hq) (fun x h => h) hfin hdsc hn hfit (List.getElem?_eq_some_iff.mp e2).1 hd (fun H1 locs1 hP1 hD1 hS1 => kk H1 locs1 ls ⟨_, z_putint hf ha e1 e3 hS, ?_, ?_, hS1⟩ hl)
  · have h9 := z_plset (e := .inr (ci, fs.set j (.int v))) hD ha.1 hq0
    exact h9 ▸ hP1
  · have h9 := z_plset (e := .inr (ci, fs.set j (.int v))) hD ha.1 hq0
    exact h9 ▸ hD1
theorem h_putr {b : Nat} {ty : FieldType} {ty0 : Nat → FieldType} (hE : zOk E l0 D0 cy0 own cc nL R0) (hI : zIn E ∧ (T j0).2.2.2 = true ∧ (T j0).1 = own ∨ (T j0).2.2.2 = false) (ha : zT L σ a (.inr (ci, S))) (hc : vwCl[ci]? = some (C, T, N)) (hin : ∀ w ∈ u_ws C T N, w ∈ gtbl) (hty : ∀ k, k < N → parseFieldDescriptor (T k).2.2.1 = some (ty0 k)) (hnm : ∀ a, a < N → ∀ b, b < N → a ≠ b → (T a).2.1 ≠ (T b).2.1) (hj : j0 < N) (hq : Cond.fieldLink own index (T j0).1 (T j0).2.1 (T j0).2.2.1 ∈ gtbl) (hS : ∃ v0, S[j0]? = some v0 ∧ (v0 = .null ∨ ∃ r, v0 = .ref r)) (hdsc : parseFieldDescriptor (T j0).2.2.1 = some ty) (hn : narrow ty (.ref b) = .ref b) (hfit : fits ty (.ref b) = true) (hd : decode cc pc = .ok (.putfield index, 3)) (kk : zW E k n L (va_up σ a (.inr (ci, S.set j0 (.ref b)))) φ ρ (pc + 3) lv st) : zW E k n L σ φ ρ pc lv (.ref b :: .ref a :: st) := by
  obtain ⟨p, l, e, R, s, m, args, below, meth, c, D, cy, A, Q⟩ := E
  obtain ⟨hx, hb, hml, hown, hts, hK, hA, rfl, rfl, rfl, rfl⟩ := hE
  intro H locs ls hJ hl
  obtain ⟨f, hf, hP, hD, hS0⟩ := id hJ
  obtain ⟨h1, h2, -⟩ := hf a ha.1
  obtain ⟨fs, e1, e2⟩ := zsh_inr (h1.trans ha.2)
  obtain ⟨q0, hq0⟩ := z_plget (f := f) ha.1
  have hlt : j0 < fs.length := by
    obtain ⟨v0, hv0, -⟩ := hS
    obtain ⟨w, w1, -⟩ := z_map e2 hv0
    exact (List.getElem?_eq_some_iff.mp w1).1
  have h9 := z_plset (e := .inr (ci, fs.set j0 (.ref b))) hD ha.1 hq0
  rcases hI with ⟨hi1, hi2, hi3⟩ | hi
  · exact va_putF hx hb hts hin ty0 hty hnm hown hK.1 hP hD hS0 q0 (by rw [← e1]; exact hq0) hc j0 hj (hts _ hq) (fun x h => h) hi2 hi1 hi3 hdsc hn hfit hlt hd (fun H1 locs1 hP1 hD1 hS1 => kk H1 locs1 ls ⟨_, z_putref hf e1 e2 hS, h9 ▸ hP1, h9 ▸ hD1, hS1⟩ hl)
  · exact va_put hx hb hts hin ty0 hty hnm hown hK.1 hP hD hS0 q0 (by rw [← e1]; exact hq0) hc j0 hj (hts _ hq) (fun x h => h) hi hdsc hn hfit hlt hd (fun H1 locs1 hP1 hD1 hS1 => kk H1 locs1 ls ⟨_, z_putref hf e1 e2 hS, h9 ▸ hP1, h9 ▸ hD1, hS1⟩ hl)
theorem h_iald {N0 : Nat} {i : Int32} (hE : zOk E l0 D0 cy0 own cc nL R0) (ha : zT L σ a (zIA cy0 N0)) (hi : vp_in i N0) (hd : decode cc pc = .ok (.iaload, 1)) (kk : zW E k n L σ φ ρ (pc + 1) lv (.int (ρ a i.toNatClampNeg) :: st)) : zW E k n L σ φ ρ pc lv (.int i :: .ref a :: st) := by
  obtain ⟨p, l, e, R, s, m, args, below, meth, c, D, cy, A, Q⟩ := E
  obtain ⟨hx, hb, hml, hown, hts, hK, hA, rfl, rfl, rfl, rfl⟩ := hE
  intro H locs ls hJ hl
  obtain ⟨f, hf, hP, hD, hS0⟩ := id hJ
  obtain ⟨h1, -, h3⟩ := hf a ha.1
  have e1 := zsh_ia (h1.trans ha.2)
  rw [h3] at e1
  obtain ⟨q0, hq0⟩ := z_plget (f := f) ha.1
  exact va_iald hx hb hK.1 hP q0 0 (by rw [← e1]; exact hq0) rfl hi hd (kk H locs ls hJ hl)
theorem h_zald {N0 : Nat} {i : Int32} (hE : zOk E l0 D0 cy0 own cc nL R0) (ha : zT L σ a (zZA cy0 N0)) (hi : vp_in i N0) (hd : decode cc pc = .ok (.baload, 1)) (kk : zW E k n L σ φ ρ (pc + 1) lv (.int (ρ a i.toNatClampNeg) :: st)) : zW E k n L σ φ ρ pc lv (.int i :: .ref a :: st) := by
  obtain ⟨p, l, e, R, s, m, args, below, meth, c, D, cy, A, Q⟩ := E
  obtain ⟨hx, hb, hml, hown, hts, hK, hA, rfl, rfl, rfl, rfl⟩ := hE
  intro H locs ls hJ hl
  obtain ⟨f, hf, hP, hD, hS0⟩ := id hJ
  obtain ⟨h1, -, h3⟩ := hf a ha.1
  have e1 := zsh_ia (h1.trans ha.2)
  rw [h3] at e1
  obtain ⟨q0, hq0⟩ := z_plget (f := f) ha.1
  exact va_zald hx hb hK.1 hP q0 2 (by rw [← e1]; exact hq0) rfl hi hd (kk H locs ls hJ hl)
theorem h_iast {N0 : Nat} {i v : Int32} (hE : zOk E l0 D0 cy0 own cc nL R0) (ha : zT L σ a (zIA cy0 N0)) (hi : vp_in i N0) (hd : decode cc pc = .ok (.iastore, 1)) (kk : zW E k n L σ φ (va_up ρ a (upd (ρ a) i.toNatClampNeg v)) (pc + 1) lv st) : zW E k n L σ φ ρ pc lv (.int v :: .int i :: .ref a :: st) := by
  obtain ⟨p, l, e, R, s, m, args, below, meth, c, D, cy, A, Q⟩ := E
  obtain ⟨hx, hb, hml, hown, hts, hK, hA, rfl, rfl, rfl, rfl⟩ := hE
  intro H locs ls hJ hl
  obtain ⟨f, hf, hP, hD, hS0⟩ := id hJ
  obtain ⟨h1, -, h3⟩ := hf a ha.1
  have e1 := zsh_ia (h1.trans ha.2)
  rw [h3] at e1
  obtain ⟨q0, hq0⟩ := z_plget (f := f) ha.1
  have h9 := z_plset (e := .inl (cy 0, N0, .inl (upd (ρ a) i.toNatClampNeg v))) hD ha.1 hq0
  exact va_iast hx hb hK.1 hP hD hS0 q0 0 (by rw [← e1]; exact hq0) rfl hi hd (fun H1 locs1 hP1 hD1 hS1 => kk H1 locs1 ls ⟨_, z_row hf ha, h9 ▸ hP1, h9 ▸ hD1, hS1⟩ hl)
theorem h_zast {N0 : Nat} {i v : Int32} (hE : zOk E l0 D0 cy0 own cc nL R0) (ha : zT L σ a (zZA cy0 N0)) (hi : vp_in i N0) (hd : decode cc pc = .ok (.bastore, 1)) (kk : zW E k n L σ φ (va_up ρ a (upd (ρ a) i.toNatClampNeg (vp_nar .boolean v))) (pc + 1) lv st) : zW E k n L σ φ ρ pc lv (.int v :: .int i :: .ref a :: st) := by
  obtain ⟨p, l, e, R, s, m, args, below, meth, c, D, cy, A, Q⟩ := E
  obtain ⟨hx, hb, hml, hown, hts, hK, hA, rfl, rfl, rfl, rfl⟩ := hE
  intro H locs ls hJ hl
  obtain ⟨f, hf, hP, hD, hS0⟩ := id hJ
  obtain ⟨h1, -, h3⟩ := hf a ha.1
  have e1 := zsh_ia (h1.trans ha.2)
  rw [h3] at e1
  obtain ⟨q0, hq0⟩ := z_plget (f := f) ha.1
  have h9 := z_plset (e := .inl (cy 2, N0, .inl (upd (ρ a) i.toNatClampNeg (vp_nar .boolean v)))) hD ha.1 hq0
  exact va_zast hx hb hK.1 hP hD hS0 q0 2 (by rw [← e1]; exact hq0) rfl hi hd (fun H1 locs1 hP1 hD1 hS1 => kk H1 locs1 ls ⟨_, z_row hf ha, h9 ▸ hP1, h9 ▸ hD1, hS1⟩ hl)
theorem h_aald {N0 b : Nat} {g : Nat → Option Nat} {i : Int32} (hE : zOk E l0 D0 cy0 own cc nL R0) (ha : zT L σ a (zRA (cy0 4) N0 g)) (hi : vp_in i N0) (hg : g i.toNatClampNeg = some b) (hd : decode cc pc = .ok (.aaload, 1)) (kk : zW E k n L σ φ ρ (pc + 1) lv (.ref b :: st)) : zW E k n L σ φ ρ pc lv (.int i :: .ref a :: st) := by
  obtain ⟨p, l, e, R, s, m, args, below, meth, c, D, cy, A, Q⟩ := E
  obtain ⟨hx, hb, hml, hown, hts, hK, hA, rfl, rfl, rfl, rfl⟩ := hE
  intro H locs ls hJ hl
  obtain ⟨f, hf, hP, hD, hS0⟩ := id hJ
  obtain ⟨h1, -, -⟩ := hf a ha.1
  have e1 := zsh_ra (h1.trans ha.2)
  obtain ⟨q0, hq0⟩ := z_plget (f := f) ha.1
  refine va_aldq hx hb hK.1 hP q0 4 (C := "OwnRain$World") (f := g) (cA := cy 4) (n := N0) (by rw [e1] at hq0; exact hq0) rfl hi hd ?_
  rw [hg]
  exact kk H locs ls hJ hl
/-- a row of references to TEXTS: what is there is null or a TEXT -/
theorem h_aaldT {N0 : Nat} {g : Nat → Option Nat} {i : Int32} (hE : zOk E l0 D0 cy0 own cc nL R0) (ha : zT L σ a (zRA (cy0 3) N0 g)) (hi : vp_in i N0) (hd : decode cc pc = .ok (.aaload, 1)) (kk : zW E k n L σ φ ρ (pc + 1) lv (va_rf (g i.toNatClampNeg) :: st)) : zW E k n L σ φ ρ pc lv (.int i :: .ref a :: st) := by
  obtain ⟨p, l, e, R, s, m, args, below, meth, c, D, cy, A, Q⟩ := E
  obtain ⟨hx, hb, hml, hown, hts, hK, hA, rfl, rfl, rfl, rfl⟩ := hE
  intro H locs ls hJ hl
  obtain ⟨f, hf, hP, hD, hS0⟩ := id hJ
  obtain ⟨h1, -, -⟩ := hf a ha.1
  have e1 := zsh_ra (h1.trans ha.2)
  obtain ⟨q0, hq0⟩ := z_plget (f := f) ha.1
  exact va_aldq hx hb hK.1 hP q0 3 (C := "OwnRain$Text") (f := g) (cA := cy 3) (n := N0) (by rw [e1] at hq0; exact hq0) rfl hi hd (kk H locs ls hJ hl)
theorem h_aast {t0 N0 v : Nat} {g : Nat → Option Nat} {i : Int32} {vs : List Value} (hE : zOk E l0 D0 cy0 own cc nL R0) (ha : zT L σ a (zRA (cy0 t0) N0 g)) (hv : zT L σ v (.inr (ci, vs))) (hc : vwCl[ci]? = some (C, T, N)) (ht : (zcy cy0)[t0]? = some (cy0 t0, .object C)) (hi : vp_in i N0) (hd : decode cc pc = .ok (.aastore, 1)) (kk : zW E k n L (va_up σ a (zRA (cy0 t0) N0 (va_up g i.toNatClampNeg (some v)))) φ ρ (pc + 1) lv st) : zW E k n L σ φ ρ pc lv (.ref v :: .int i :: .ref a :: st) := by
  obtain ⟨p, l, e, R, s, m, args, below, meth, c, D, cy, A, Q⟩ := E
  obtain ⟨hx, hb, hml, hown, hts, hK, hA, rfl, rfl, rfl, rfl⟩ := hE
  intro H locs ls hJ hl
  obtain ⟨f, hf, hP, hD, hS0⟩ := id hJ
  obtain ⟨h1, -, -⟩ := hf a ha.1
  have e1 := zsh_ra (h1.trans ha.2)
  obtain ⟨fs, e2, -⟩ := zsh_inr ((hf v hv.1).1.trans hv.2)
  obtain ⟨q0, hq0⟩ := z_plget (f := f) ha.1
  obtain ⟨q1, hq1⟩ := z_plget (f := f) hv.1
  have h9 := z_plset (e := zRA (cy t0) N0 (va_up g i.toNatClampNeg (some v))) hD ha.1 hq0
  exact va_astq hx hb hK.1 hP hD hS0 q0 t0 q1 ci (r := (C, T, N)) (f := g) (cA := cy t0) (n := N0) (by rw [e1] at hq0; exact hq0) ht (by rw [← e2]; exact hq1) hc hi hd (fun H1 locs1 hP1 hD1 hS1 => kk H1 locs1 ls ⟨_, z_rowR hf ha, h9 ▸ hP1, h9 ▸ hD1, hS1⟩ hl)
theorem h_alen {x : vp_A} {t0 : Nat} {ty : FieldType} {v : Int32} (hE : zOk E l0 D0 cy0 own cc nL R0) (ha : zT L σ a (.inl (cy0 t0, x))) (ht : (zcy cy0)[t0]? = some (cy0 t0, ty)) (hv : Int32.ofNat x.1 = v) (hd : decode cc pc = .ok (.arraylength, 1)) (kk : zW E k n L σ φ ρ (pc + 1) lv (.int v :: st)) : zW E k n L σ φ ρ pc lv (.ref a :: st) := by
  obtain ⟨p, l, e, R, s, m, args, below, meth, c, D, cy, A, Q⟩ := E
  obtain ⟨hx, hb, hml, hown, hts, hK, hA, rfl, rfl, rfl, rfl⟩ := hE
  intro H locs ls hJ hl
  obtain ⟨f, hf, hP, hD, hS0⟩ := id hJ
  obtain ⟨h1, -, -⟩ := hf a ha.1
  have e1 : ∃ y : vp_A, f a = .inl (cy t0, y) ∧ y.1 = x.1 := by
    have h2 := h1.trans ha.2
    rcases hfa : f a with ⟨c', m', y⟩ | ⟨c', fs⟩
    · rw [hfa] at h2
      rcases y with y | y | y | y | y <;> (simp only [zsh, Sum.inl.injEq, Prod.mk.injEq] at h2; obtain ⟨rfl, h3⟩ := h2; exact ⟨_, rfl, by rw [← h3]⟩)
    · rw [hfa] at h2
      simp [zsh] at h2
  obtain ⟨y, e2, e3⟩ := e1
  obtain ⟨q0, hq0⟩ := z_plget (f := f) ha.1
  exact va_alen hx hb hK.1 hP q0 t0 (by rw [← e2]; exact hq0) ht (by rw [e3]; exact hv) hd (kk H locs ls hJ hl)
theorem h_new {fs : List Value} {ty0 : Nat → FieldType} (hE : zOk E l0 D0 cy0 own cc nL R0) (hc : vwCl[ci]? = some (C, T, N)) (hin : ∀ w ∈ u_ws C T N, w ∈ gtbl) (hty : ∀ k, k < N → parseFieldDescriptor (T k).2.2.1 = some (ty0 k)) (hq1 : Cond.classLink own index C ∈ gtbl) (hq2 : Cond.instantiable C N ∈ gtbl) (hq3 : Cond.initialized C ∈ gtbl) (hfs : ∀ j, j < N → defaultValue (ty0 j) = vp_V fs j) (hsh : fs.map zshV = fs) (h0 : ∀ c i, zfI (.inr (ci, fs)) c i = 0) (hk1 : k + 1 ≤ R0.cells) (hk2 : n + N ≤ R0.slots) (hd : decode cc pc = .ok (.new index, 3))
    (kk : ∀ (q : Nat) (L1 : List Nat) (σ1 : Nat → va_E) (φ1 : Nat → Nat → Nat → Int32) (ρ1 : Nat → Nat → Int32), q ∉ L → (∀ w, zX w L σ φ ρ L1 σ1 φ1 ρ1) → zT L1 σ1 q (.inr (ci, fs)) → (∀ c i, φ1 c i q = 0) → zW E (k + 1) (n + N) L1 σ1 φ1 ρ1 (pc + 3) lv (.ref q :: st)) : zW E k n L σ φ ρ pc lv st := by
  obtain ⟨p, l, e, R, s, m, args, below, meth, c, D, cy, A, Q⟩ := E
  obtain ⟨hx, hb, hml, hown, hts, hK, hA, rfl, rfl, rfl, rfl⟩ := hE
  intro H locs ls hJ hl
  obtain ⟨f, hf, hP, hD, hS0⟩ := id hJ
  refine va_new hx hb hts hin ty0 hty hown (hts _ hq1) (hts _ hq2) (hts _ hq3) hK.1 hP hD hS0 hA hc hfs hk1 hk2 hd (fun q H1 hP1 hD1 hS1 => ?_)
  have hq : q ∉ L := va_pl_fresh2 (X := []) hD1
  have h9 := va_pl_push (f := f) (e := .inr (ci, fs)) hq
  refine kk q _ _ _ _ hq (fun w => z_pushX (e := .inr (ci, fs)) hq) ⟨List.mem_append_right _ (List.mem_singleton.mpr rfl), ?_⟩ (fun c i => ?_) H1 locs ls ⟨_, z_push hf hq, h9 ▸ hP1, h9 ▸ hD1, hS1⟩ hl
  · rw [va_up_self]
    show Sum.inr (ci, fs.map zshV) = _
    rw [hsh]
  · simp [h0]
theorem h_newa {atype : ArrayType} {t0 : Nat} {ty : FieldType} {v : Int32} {N0 : Nat} {x : vp_A} (hE : zOk E l0 D0 cy0 own cc nL R0) (hty : newarray.typeOf atype = ty) (hno : ∀ C, ty ≠ .object C) (hq : Cond.arrayClass ty ∈ gtbl) (ht : (zcy cy0)[t0]? = some (cy0 t0, ty)) (hxc : ∀ cA : ClassId, vp_cell cA x = arrV cA N0 (fun _ => defaultValue ty)) (hsh : ∀ cA : ClassId, zsh (.inl (cA, x)) = .inl (cA, x)) (hr0 : ∀ cA : ClassId, zrI (.inl (cA, x)) = fun _ => 0) (hn : ¬ v < 0) (hN : v.toNatClampNeg = N0) (hby : N0 * componentBytes ty ≤ 536870912) (hk1 : k + 1 ≤ R0.cells) (hk2 : n + N0 ≤ R0.slots) (hd : decode cc pc = .ok (.newarray atype, 2))
    (kk : ∀ (q : Nat) (L1 : List Nat) (σ1 : Nat → va_E) (φ1 : Nat → Nat → Nat → Int32) (ρ1 : Nat → Nat → Int32), q ∉ L → (∀ w, zX w L σ φ ρ L1 σ1 φ1 ρ1) → zT L1 σ1 q (.inl (cy0 t0, x)) → ρ1 q = (fun _ => 0) → zW E (k + 1) (n + N0) L1 σ1 φ1 ρ1 (pc + 2) lv (.ref q :: st)) : zW E k n L σ φ ρ pc lv (.int v :: st) := by
  obtain ⟨p, l, e, R, s, m, args, below, meth, c, D, cy, A, Q⟩ := E
  obtain ⟨hx, hb, hml, hown, hts, hK, hA, rfl, rfl, rfl, rfl⟩ := hE
  intro H locs ls hJ hl
  obtain ⟨f, hf, hP, hD, hS0⟩ := id hJ
  subst hty
  refine va_newa hx hb (hts _ hq) rfl hK.1 hP hD hS0 hA hxc hn hN hby hk1 hk2 hd (fun q cA H1 hK1 hP1 hD1 hS1 => ?_)
  have hq : q ∉ L := va_pl_fresh2 (X := []) hD1
  have hcA : cA = cy t0 := by
    have h1 := (hK1.2 5 (cA, newarray.typeOf atype) rfl).2
    have h2 := (hK.1.2 t0 _ ht).2
    cases hty2 : newarray.typeOf atype <;> rw [hty2] at h1 h2 hno <;> first | exact absurd rfl (hno _) | exact Option.some.inj (h1.symm.trans h2)
  subst hcA
  have h9 := va_pl_push (f := f) (e := .inl (cy t0, x)) hq
  refine kk q _ _ _ _ hq (fun w => z_pushX (e := .inl (cy t0, x)) hq) ⟨List.mem_append_right _ (List.mem_singleton.mpr rfl), ?_⟩ ?_ H1 locs ls ⟨_, z_push hf hq, h9 ▸ hP1, h9 ▸ hD1, hS1⟩ hl
  · rw [va_up_self, hsh]
  · rw [va_up_self, hr0]
theorem h_newq {t0 : Nat} {v : Int32} {N0 : Nat} (hE : zOk E l0 D0 cy0 own cc nL R0) (hq : Cond.classLink own index C ∈ gtbl) (ht : (zcy cy0)[t0]? = some (cy0 t0, .object C)) (hC : C = "OwnRain$Text" ∨ C = "OwnRain$World") (hn : ¬ v < 0) (hN : v.toNatClampNeg = N0) (hby : N0 * 4 ≤ 536870912) (hk1 : k + 1 ≤ R0.cells) (hk2 : n + N0 ≤ R0.slots) (hd : decode cc pc = .ok (.anewarray index, 3))
    (kk : ∀ (q : Nat) (L1 : List Nat) (σ1 : Nat → va_E) (φ1 : Nat → Nat → Nat → Int32) (ρ1 : Nat → Nat → Int32), q ∉ L → (∀ w, zX w L σ φ ρ L1 σ1 φ1 ρ1) → zT L1 σ1 q (zRA (cy0 t0) N0 (fun _ => none)) → zW E (k + 1) (n + N0) L1 σ1 φ1 ρ1 (pc + 3) lv (.ref q :: st)) : zW E k n L σ φ ρ pc lv (.int v :: st) := by
  obtain ⟨p, l, e, R, s, m, args, below, meth, c, D, cy, A, Q⟩ := E
  obtain ⟨hx, hb, hml, hown, hts, hK, hA, rfl, rfl, rfl, rfl⟩ := hE
  intro H locs ls hJ hl
  obtain ⟨f, hf, hP, hD, hS0⟩ := id hJ
  have hAO : va_AO C s := by
    rcases hC with h | h <;> rw [h]
    · exact hK.2.2.1
    · exact hK.2.2.2
  refine va_newq hx hb hown (hts _ hq) hAO hK.1 hP hD hS0 hA hn hN hby hk1 hk2 hd (fun q cA H1 hK1 hP1 hD1 hS1 => ?_)
  have hq : q ∉ L := va_pl_fresh2 (X := []) hD1
  have hcA : cA = cy t0 := by
    obtain ⟨_, _, -, -, -, h1⟩ := (hK1.2 5 (cA, .object C) rfl).2
    obtain ⟨_, _, -, -, -, h2⟩ := (hK.1.2 t0 _ ht).2
    exact Option.some.inj (h1.symm.trans h2)
  subst hcA
  have h9 := va_pl_push (f := f) (e := zRA (cy t0) N0 (fun _ => none)) hq
  exact kk q _ _ _ _ hq (fun w => z_pushX (e := zRA (cy t0) N0 (fun _ => none)) hq) ⟨List.mem_append_right _ (List.mem_singleton.mpr rfl), va_up_self _ _ _⟩ H1 locs ls ⟨_, z_push hf hq, h9 ▸ hP1, h9 ▸ hD1, hS1⟩ hl
end ZR
end
section
/-! Contracts over pools, and calls. -/
def zrm (d mc ms : Nat) : Room := { frames := d, cells := mc, slots := ms, locals := 60 * d }
def zA (L : List Nat) (sz : Nat) : Nat → Prop := fun q => q ∈ L ∨ sz ≤ q
abbrev zS : Type := List Nat × (Nat → va_E) × (Nat → Nat → Nat → Int32) × (Nat → Nat → Int32)
def zPre (D : va_G) (cy : Nat → ClassId) (av : List Value) (sz : Nat) (L : List Nat) (σ : Nat → va_E) (φ : Nat → Nat → Nat → Int32) (ρ : Nat → Nat → Int32) : Array Value → State → Prop := va_Pc av (fun U => U.heap.size = sz ∧ zK D cy U ∧ ∃ f, zPic L σ φ ρ f ∧ va_P D vwCl (va_pl L f) U.heap ∧ va_D (fun _ => True) (va_pl L f))
def zB (D : va_G) (A : Nat → Prop) (u : zS) (t : State) : Prop := ∃ f, zPic u.1 u.2.1 u.2.2.1 u.2.2.2 f ∧ va_P D vwCl (va_pl u.1 f) t.heap ∧ va_D A (va_pl u.1 f)
def zMI (l : Launch) (D : va_G) (cy : Nat → ClassId) (y : MethodName) (cc : ByteArray) (nL : Nat) (ret : FieldType) (rm : Room) (av : List Value) (L : List Nat) (σ : Nat → va_E) (φ : Nat → Nat → Nat → Int32) (ρ : Nat → Nat → Int32) (post : Int32 → zS → Prop) : Prop := ∀ sz, Met l y (Cond.code y cc nL (some ret) :: gtbl) rm (zPre D cy av sz L σ φ ρ) (va_Qi post (zB D (zA L sz)) (zA L sz)) rm.cells rm.slots (zA L sz)
def zMV (l : Launch) (D : va_G) (cy : Nat → ClassId) (y : MethodName) (cc : ByteArray) (nL : Nat) (rm : Room) (av : List Value) (L : List Nat) (σ : Nat → va_E) (φ : Nat → Nat → Nat → Int32) (ρ : Nat → Nat → Int32) (post : zS → Prop) : Prop := ∀ sz, Met l y (Cond.code y cc nL none :: gtbl) rm (zPre D cy av sz L σ φ ρ) (va_Qv post (zB D (zA L sz)) (zA L sz)) rm.cells rm.slots (zA L sz)
def zML (l : Launch) (D : va_G) (cy : Nat → ClassId) (y : MethodName) (cc : ByteArray) (nL : Nat) (rm : Room) (av : List Value) (L : List Nat) (σ : Nat → va_E) (φ : Nat → Nat → Nat → Int32) (ρ : Nat → Nat → Int32) (post : Int64 → zS → Prop) : Prop := ∀ sz, Met l y (Cond.code y cc nL (some .long) :: gtbl) rm (zPre D cy av sz L σ φ ρ) (va_Ql post (zB D (zA L sz)) (zA L sz)) rm.cells rm.slots (zA L sz)
def zMR (l : Launch) (D : va_G) (cy : Nat → ClassId) (y : MethodName) (cc : ByteArray) (nL : Nat) (ret : FieldType) (rm : Room) (av : List Value) (L : List Nat) (σ : Nat → va_E) (φ : Nat → Nat → Nat → Int32) (ρ : Nat → Nat → Int32) (post : Nat → zS → Prop) : Prop := ∀ sz, Met l y (Cond.code y cc nL (some ret) :: gtbl) rm (zPre D cy av sz L σ φ ρ) (va_Qr (fun u : Nat × zS => post u.1 u.2) (fun u a t => u.1 = a ∧ zB D (zA L sz) u.2 t) (zA L sz)) rm.cells rm.slots (zA L sz)
def zRI (E : zCx) (cc : ByteArray) (ret : FieldType) (rm : Room) (post : Int32 → zS → Prop) : Prop := ∀ (k n : Nat) (L : List Nat) (σ : Nat → va_E) (φ : Nat → Nat → Nat → Int32) (ρ : Nat → Nat → Int32) (pc : Nat) (lv : List (Nat × Value)) (v : Int32), k ≤ rm.cells → n ≤ rm.slots → decode cc pc = .ok (.ireturn, 1) → narrow ret (.int v) = .int v → post v (L, σ, φ, ρ) → zW E k n L σ φ ρ pc lv [.int v]
def zRL (E : zCx) (cc : ByteArray) (rm : Room) (post : Int64 → zS → Prop) : Prop := ∀ (k n : Nat) (L : List Nat) (σ : Nat → va_E) (φ : Nat → Nat → Nat → Int32) (ρ : Nat → Nat → Int32) (pc : Nat) (lv : List (Nat × Value)) (v : Int64), k ≤ rm.cells → n ≤ rm.slots → decode cc pc = .ok (.lreturn, 1) → post v (L, σ, φ, ρ) → zW E k n L σ φ ρ pc lv [.long v]
def zRV (E : zCx) (cc : ByteArray) (rm : Room) (post : zS → Prop) : Prop := ∀ (k n : Nat) (L : List Nat) (σ : Nat → va_E) (φ : Nat → Nat → Nat → Int32) (ρ : Nat → Nat → Int32) (pc : Nat) (lv : List (Nat × Value)), k ≤ rm.cells → n ≤ rm.slots → decode cc pc = .ok (.return_, 1) → post (L, σ, φ, ρ) → zW E k n L σ φ ρ pc lv []
def zRR (E : zCx) (cc : ByteArray) (rm : Room) (post : Nat → zS → Prop) : Prop := ∀ (k n : Nat) (L : List Nat) (σ : Nat → va_E) (φ : Nat → Nat → Nat → Int32) (ρ : Nat → Nat → Int32) (pc : Nat) (lv : List (Nat × Value)) (v : Nat), k ≤ rm.cells → n ≤ rm.slots → decode cc pc = .ok (.areturn, 1) → post v (L, σ, φ, ρ) → zW E k n L σ φ ρ pc lv [.ref v]
section ZM
variable {l : Launch} {D : va_G} {cy : Nat → ClassId} {y : MethodName} {cc : ByteArray} {nL : Nat} {ret : FieldType} {rm : Room} {av : List Value} {L : List Nat} {σ : Nat → va_E} {φ : Nat → Nat → Nat → Int32} {ρ : Nat → Nat → Int32}
theorem zD_self {f : Nat → va_E} {sz : Nat} (h : va_D (fun _ => True) (va_pl L f)) : va_D (zA L sz) (va_pl L f) := by
  refine ⟨h.1, fun k q hk => Or.inl ?_⟩
  have h2 := List.mem_of_getElem? hk
  obtain ⟨a, ha, rfl⟩ := List.mem_map.mp h2
  exact ha
theorem zMI.mk {post : Int32 → zS → Prop} (hy : plainName y.cls = true) (hlen : (lg_sl av).length ≤ nL) (body : ∀ E : zCx, zOk E l D cy y.cls cc nL rm → zRI E cc ret rm post → zW E 0 0 L σ φ ρ 0 (lv_args 0 av) []) : zMI l D cy y cc nL ret rm av L σ φ ρ post := by
  intro sz
  refine Met.ofW (cc := cc) (maxL := nL) (ret := some ret) hy rfl ?_
  intro p e s m args below meth c s₁ B hml hv
  obtain ⟨rfl, rfl, hK, f, hf, hP, hD⟩ := hv
  have hx := B.exec
  have hb := B.bytes
  have hr := B.returns
  have hts := atoms_spec (ws := Cond.code y cc nL (some ret) :: gtbl) B.pre
  have hlocks := B.notSynchronized
  have hl := lv_entry av (n := nL) hlen
  rw [lg_entry_eq]
  refine body (p, l, e, rm, s, m, av.toArray, below, meth, c, D, cy, zA L s.heap.size, MQ below (va_Qi post (zB D (zA L s.heap.size)) (zA L s.heap.size)) av.toArray s rm.cells rm.slots (zA L s.heap.size)) ⟨hx, hb, hml, findClass_of_methodNamed B.named, fun w hw => hts w (List.mem_cons_of_mem _ hw), hK, fun q h => Or.inr h, rfl, rfl, rfl, rfl⟩ ?_ s.heap [] _ ⟨f, hf, hP, zD_self hD, va_S.rf⟩ (by rw [hml]; exact hl)
  intro k n L' σ' φ' ρ' pc lv v hk hn hd hnar hpost H locs ls hJ hl
  obtain ⟨f', hf', hP', hD', hS'⟩ := hJ
  refine W.widen hk hn ?_
  exact W.zret hx hb hr hnar (fun t ht hW => ⟨⟨v, (L', σ', φ', ρ'), rfl, hpost, f', hf', by rw [ht]; exact hP', hD'⟩, hS'.F ht⟩) hS'.2.2 hd
theorem zML.mk {post : Int64 → zS → Prop} (hy : plainName y.cls = true) (hlen : (lg_sl av).length ≤ nL) (body : ∀ E : zCx, zOk E l D cy y.cls cc nL rm → zRL E cc rm post → zW E 0 0 L σ φ ρ 0 (lv_args 0 av) []) : zML l D cy y cc nL rm av L σ φ ρ post := by
  intro sz
  refine Met.ofW (cc := cc) (maxL := nL) (ret := some .long) hy rfl ?_
  intro p e s m args below meth c s₁ B hml hv
  obtain ⟨rfl, rfl, hK, f, hf, hP, hD⟩ := hv
  have hx := B.exec
  have hb := B.bytes
  have hr := B.returns
  have hts := atoms_spec (ws := Cond.code y cc nL (some .long) :: gtbl) B.pre
  have hlocks := B.notSynchronized
  have hl := lv_entry av (n := nL) hlen
  rw [lg_entry_eq]
  refine body (p, l, e, rm, s, m, av.toArray, below, meth, c, D, cy, zA L s.heap.size, MQ below (va_Ql post (zB D (zA L s.heap.size)) (zA L s.heap.size)) av.toArray s rm.cells rm.slots (zA L s.heap.size)) ⟨hx, hb, hml, findClass_of_methodNamed B.named, fun w hw => hts w (List.mem_cons_of_mem _ hw), hK, fun q h => Or.inr h, rfl, rfl, rfl, rfl⟩ ?_ s.heap [] _ ⟨f, hf, hP, zD_self hD, va_S.rf⟩ (by rw [hml]; exact hl)
  intro k n L' σ' φ' ρ' pc lv v hk hn hd hpost H locs ls hJ hl
  obtain ⟨f', hf', hP', hD', hS'⟩ := hJ
  refine W.widen hk hn ?_
  exact W.lret hx hb hr (fun t ht hW => ⟨⟨v, (L', σ', φ', ρ'), rfl, hpost, f', hf', by rw [ht]; exact hP', hD'⟩, hS'.F ht⟩) hS'.2.2 hd
theorem zMV.mk {post : zS → Prop} (hy : plainName y.cls = true) (hlen : (lg_sl av).length ≤ nL) (body : ∀ E : zCx, zOk E l D cy y.cls cc nL rm → (y.name = "<init>" → zIn E) → zRV E cc rm post → zW E 0 0 L σ φ ρ 0 (lv_args 0 av) []) : zMV l D cy y cc nL rm av L σ φ ρ post := by
  intro sz
  refine Met.ofW (cc := cc) (maxL := nL) (ret := none) hy rfl ?_
  intro p e s m args below meth c s₁ B hml hv
  obtain ⟨rfl, rfl, hK, f, hf, hP, hD⟩ := hv
  have hx := B.exec
  have hb := B.bytes
  have hr := B.returns
  have hts := atoms_spec (ws := Cond.code y cc nL none :: gtbl) B.pre
  have hlocks := B.notSynchronized
  have hin : meth.name = y.name := (name_of_methodNamed B.named B.method).1
  have hl := lv_entry av (n := nL) hlen
  rw [lg_entry_eq]
  refine body (p, l, e, rm, s, m, av.toArray, below, meth, c, D, cy, zA L s.heap.size, MQ below (va_Qv post (zB D (zA L s.heap.size)) (zA L s.heap.size)) av.toArray s rm.cells rm.slots (zA L s.heap.size)) ⟨hx, hb, hml, findClass_of_methodNamed B.named, fun w hw => hts w (List.mem_cons_of_mem _ hw), hK, fun q h => Or.inr h, rfl, rfl, rfl, rfl⟩ (fun h => hin.trans h) ?_ s.heap [] _ ⟨f, hf, hP, zD_self hD, va_S.rf⟩ (by rw [hml]; exact hl)
  intro k n L' σ' φ' ρ' pc lv hk hn hd hpost H locs ls hJ hl
  obtain ⟨f', hf', hP', hD', hS'⟩ := hJ
  refine W.widen hk hn ?_
  exact W.vret hx hb hr (fun t ht hW => ⟨⟨(L', σ', φ', ρ'), rfl, hpost, f', hf', by rw [ht]; exact hP', hD'⟩, hS'.F ht⟩) hS'.2.2 hd
theorem zMR.mk {post : Nat → zS → Prop} (hy : plainName y.cls = true) (hlen : (lg_sl av).length ≤ nL) (hrt : (∃ n, ret = .object n) ∨ ∃ t, ret = .array t) (body : ∀ E : zCx, zOk E l D cy y.cls cc nL rm → zRR E cc rm post → zW E 0 0 L σ φ ρ 0 (lv_args 0 av) []) : zMR l D cy y cc nL ret rm av L σ φ ρ post := by
  intro sz
  refine Met.ofW (cc := cc) (maxL := nL) (ret := some ret) hy rfl ?_
  intro p e s m args below meth c s₁ B hml hv
  obtain ⟨rfl, rfl, hK, f, hf, hP, hD⟩ := hv
  have hx := B.exec
  have hb := B.bytes
  have hr := B.returns
  have hts := atoms_spec (ws := Cond.code y cc nL (some ret) :: gtbl) B.pre
  have hlocks := B.notSynchronized
  have hl := lv_entry av (n := nL) hlen
  rw [lg_entry_eq]
  refine body (p, l, e, rm, s, m, av.toArray, below, meth, c, D, cy, zA L s.heap.size, MQ below (va_Qr (fun u : Nat × zS => post u.1 u.2) (fun u a t => u.1 = a ∧ zB D (zA L s.heap.size) u.2 t) (zA L s.heap.size)) av.toArray s rm.cells rm.slots (zA L s.heap.size)) ⟨hx, hb, hml, findClass_of_methodNamed B.named, fun w hw => hts w (List.mem_cons_of_mem _ hw), hK, fun q h => Or.inr h, rfl, rfl, rfl, rfl⟩ ?_ s.heap [] _ ⟨f, hf, hP, zD_self hD, va_S.rf⟩ (by rw [hml]; exact hl)
  intro k n L' σ' φ' ρ' pc lv v hk hn hd hpost H locs ls hJ hl
  obtain ⟨f', hf', hP', hD', hS'⟩ := hJ
  refine W.widen hk hn ?_
  exact W.aret hx hb hr hrt (Or.inr ⟨v, rfl⟩) (fun t ht hW => ⟨⟨(v, (L', σ', φ', ρ')), v, rfl, hpost, rfl, f', hf', by rw [ht]; exact hP', hD'⟩, hS'.F ht⟩) hS'.2.2 hd
end ZM
def zRun (E : zCx) (k n mc ms : Nat) (L : List Nat) (σ : Nat → va_E) (φ : Nat → Nat → Nat → Int32) (ρ : Nat → Nat → Int32) (pc : Nat) (lv : List (Nat × Value)) (stk st : List Value) (Qc : Nat → State → Outcome → State → Prop) : Prop := match E with
  | (p, l, e, R, s, m, args, below, meth, c, D, _, A, _) => ∀ (H : Heap) (locs : List Loc) (ls : Array Slot), zJ D A s.heap L σ φ ρ H locs → lv_has ls c.maxLocals lv → va_Run p l e R s m args below meth c H locs k n mc ms (F0 m pc ls stk) st (Qc H.size) (zA L H.size)
section ZC
variable {E : zCx} {l0 : Launch} {D0 : va_G} {cy0 : Nat → ClassId} {own : String} {cc : ByteArray} {nL : Nat} {R0 : Room} {k n : Nat} {L : List Nat} {σ : Nat → va_E} {φ : Nat → Nat → Nat → Int32} {ρ : Nat → Nat → Int32} {pc : Nat} {lv : List (Nat × Value)} {st stk : List Value}
variable {y : MethodName} {b : ByteArray} {nb index a : Nat} {ret : Option FieldType} {rm : Room} {av : List Value} {Qc : Nat → Array Value → State → Outcome → State → Prop}
theorem zPre_blind {sz : Nat} : FrameBlind (zPre D0 cy0 av sz L σ φ ρ) := by
  intro a U g mk h
  obtain ⟨h1, h2, ⟨k1, k2, k3, k4⟩, h4⟩ := h
  exact ⟨h1, h2, ⟨va_K.moved (u := U) (U := U.calling g mk a) (Vm.Alike.refl U.vm) k1, fun q hq => va_Nw.same rfl (u := U) (U := U.calling g mk a) rfl (k2 q hq), va_AO.moved (u := U) (U := U.calling g mk a) (Vm.Alike.refl U.vm) k3, va_AO.moved (u := U) (U := U.calling g mk a) (Vm.Alike.refl U.vm) k4⟩, h4⟩
theorem zD_all {A : Nat → Prop} {f : Nat → va_E} (h : va_D A (va_pl L f)) : va_D (fun _ => True) (va_pl L f) := h.weaken (fun _ _ _ _ => trivial)
theorem zA_sub {A : Nat → Prop} {f : Nat → va_E} {H0 H : Heap} {locs : List Loc} (hD : va_D A (va_pl L f)) (hS : va_S A H0 H locs) (hA : ∀ q, H0.size ≤ q → A q) (q : Nat) (h : zA L H.size q) : A q := by
  rcases h with h | h
  · obtain ⟨k, hk⟩ := z_plget (f := f) h
    exact hD.2 k _ hk
  · exact hA q (Nat.le_trans hS.1 h)
theorem r_V {ci N : Nat} {S : List Value} {C : String} {T : u_T} (hE : zOk E l0 D0 cy0 own cc nL R0) (hM : ∀ sz, Met l0 y (Cond.code y b nb ret :: gtbl) rm (zPre D0 cy0 (.ref a :: av) sz L σ φ ρ) (Qc sz) rm.cells rm.slots (zA L sz)) (hq1 : Cond.methodLink own index y ∈ gtbl) (hq2 : Cond.instanceMethod y ∈ gtbl) (hq3 : Cond.selects C y y ∈ gtbl) (hq4 : Cond.initialized y.cls ∈ gtbl) (hq5 : Cond.code y b nb ret ∈ gtbl) (ha : zT L σ a (.inr (ci, S))) (hc : vwCl[ci]? = some (C, T, N)) (hy : y.cls ≠ "java/lang/invoke/MethodHandle" ∧ y.cls ≠ "java/lang/invoke/VarHandle" ∧ (parseMethodDescriptor y.desc).map (fun d => d.parameters.length) = some av.length) (hR : rm.frames + 1 ≤ R0.frames ∧ 8 + (nb + 11) + rm.locals ≤ R0.locals) (hk : k + rm.cells ≤ R0.cells ∧ n + rm.slots ≤ R0.slots) (hst : stk = av.reverse ++ .ref a :: st) (hcat : (st.map fun v => v.category).sum ≤ 8) (hd : decode cc pc = .ok (.invokevirtual index, 3)) : zRun E k n rm.cells rm.slots L σ φ ρ pc lv stk st (fun sz => Qc sz (Value.ref a :: av).toArray) := by
  obtain ⟨p, l, e, R, s, m, args, below, meth, c, D, cy, A, Q⟩ := E
  obtain ⟨hx, hb, hml, hown, hts, hK, hA, rfl, rfl, rfl, rfl⟩ := hE
  intro H locs ls hJ hl
  obtain ⟨f, hf, hP, hD, hS0⟩ := id hJ
  obtain ⟨fs, e1, -⟩ := zsh_inr ((hf a ha.1).1.trans ha.2)
  obtain ⟨q0, hq0⟩ := z_plget (f := f) ha.1
  exact va_runV ⟨hx, hb, hml, hown, hts⟩ (hM H.size) ⟨callB_of av.length hts (gin hq5) rfl rfl rfl (hts _ hq4) (hts _ hq1) hy hR, hts _ hq2, hts _ hq3⟩ ⟨zPre_blind, va_recv hK.1 hP hc (q0 := q0) (by rw [← e1]; exact hq0), fun U hU hW => ⟨rfl, by rw [hU], hK.warm hW, f, hf, by rw [hU]; exact hP, zD_all hD⟩⟩ rfl rfl (hl.1.trans hml) hst (lv_room hcat) hd hk
theorem r_S (hE : zOk E l0 D0 cy0 own cc nL R0) (hM : ∀ sz, Met l0 y (Cond.code y b nb ret :: gtbl) rm (zPre D0 cy0 av sz L σ φ ρ) (Qc sz) rm.cells rm.slots (zA L sz)) (hq1 : Cond.methodLink own index y ∈ gtbl) (hq2 : Cond.static y ∈ gtbl) (hq4 : Cond.initialized y.cls ∈ gtbl) (hq5 : Cond.code y b nb ret ∈ gtbl) (hy : y.cls ≠ "java/lang/invoke/MethodHandle" ∧ y.cls ≠ "java/lang/invoke/VarHandle" ∧ (parseMethodDescriptor y.desc).map (fun d => d.parameters.length) = some av.length) (hR : rm.frames + 1 ≤ R0.frames ∧ 8 + (nb + 11) + rm.locals ≤ R0.locals) (hk : k + rm.cells ≤ R0.cells ∧ n + rm.slots ≤ R0.slots) (hst : stk = av.reverse ++ st) (hcat : (st.map fun v => v.category).sum ≤ 8) (hd : decode cc pc = .ok (.invokestatic index, 3)) : zRun E k n rm.cells rm.slots L σ φ ρ pc lv stk st (fun sz => Qc sz av.toArray) := by
  obtain ⟨p, l, e, R, s, m, args, below, meth, c, D, cy, A, Q⟩ := E
  obtain ⟨hx, hb, hml, hown, hts, hK, hA, rfl, rfl, rfl, rfl⟩ := hE
  intro H locs ls hJ hl
  obtain ⟨f, hf, hP, hD, hS0⟩ := id hJ
  exact va_runS ⟨hx, hb, hml, hown, hts⟩ (hM H.size) ⟨callB_of av.length hts (gin hq5) rfl rfl rfl (hts _ hq4) (hts _ hq1) hy hR, hts _ hq2⟩ ⟨zPre_blind, fun U hU hW => ⟨rfl, by rw [hU], hK.warm hW, f, hf, by rw [hU]; exact hP, zD_all hD⟩⟩ rfl rfl (hl.1.trans hml) hst (lv_room hcat) hd hk
theorem r_SN (hE : zOk E l0 D0 cy0 own cc nL R0) (hM : ∀ sz, Met l0 y (Cond.code y b nb ret :: gtbl) rm (zPre D0 cy0 av sz L σ φ ρ) (Qc sz) rm.cells rm.slots (zA L sz)) (hq1 : (own, index, y) ∈ znests) (hq2 : Cond.static y ∈ gtbl) (hq4 : Cond.initialized y.cls ∈ gtbl) (hq5 : Cond.code y b nb ret ∈ gtbl) (hy : y.cls ≠ "java/lang/invoke/MethodHandle" ∧ y.cls ≠ "java/lang/invoke/VarHandle" ∧ (parseMethodDescriptor y.desc).map (fun d => d.parameters.length) = some av.length) (hR : rm.frames + 1 ≤ R0.frames ∧ 8 + (nb + 11) + rm.locals ≤ R0.locals) (hk : k + rm.cells ≤ R0.cells ∧ n + rm.slots ≤ R0.slots) (hst : stk = av.reverse ++ st) (hcat : (st.map fun v => v.category).sum ≤ 8) (hd : decode cc pc = .ok (.invokestatic index, 3)) : zRun E k n rm.cells rm.slots L σ φ ρ pc lv stk st (fun sz => Qc sz av.toArray) := by
  obtain ⟨p, l, e, R, s, m, args, below, meth, c, D, cy, A, Q⟩ := E
  obtain ⟨hx, hb, hml, hown, hts, hK, hA, rfl, rfl, rfl, rfl⟩ := hE
  intro H locs ls hJ hl
  obtain ⟨f, hf, hP, hD, hS0⟩ := id hJ
  exact va_runSN ⟨hx, hb, hml, hown, hts⟩ (hM H.size) ⟨va_cnB av.length hts (gin hq5) rfl rfl rfl (hK.2.1 _ hq1) (hts _ hq4) hy hR, hts _ hq2, trivial⟩ ⟨zPre_blind, fun U hU hW => ⟨rfl, by rw [hU], hK.warm hW, f, hf, by rw [hU]; exact hP, zD_all hD⟩⟩ rfl rfl (hl.1.trans hml) hst (lv_room hcat) hd hk
theorem r_I (hE : zOk E l0 D0 cy0 own cc nL R0) (hM : ∀ sz, Met l0 y (Cond.code y b nb none :: gtbl) rm (zPre D0 cy0 (.ref a :: av) sz L σ φ ρ) (Qc sz) rm.cells rm.slots (zA L sz)) (hq1 : Cond.methodLink own index y ∈ gtbl) (hq2 : Cond.instanceMethod y ∈ gtbl) (hq4 : Cond.initialized y.cls ∈ gtbl) (hq5 : Cond.code y b nb none ∈ gtbl) (hi : y.name = "<init>") (hy : y.cls ≠ "java/lang/invoke/MethodHandle" ∧ y.cls ≠ "java/lang/invoke/VarHandle" ∧ (parseMethodDescriptor y.desc).map (fun d => d.parameters.length) = some av.length) (hR : rm.frames + 1 ≤ R0.frames ∧ 8 + (nb + 11) + rm.locals ≤ R0.locals) (hk : k + rm.cells ≤ R0.cells ∧ n + rm.slots ≤ R0.slots) (hst : stk = av.reverse ++ .ref a :: st) (hcat : (st.map fun v => v.category).sum ≤ 8) (hd : decode cc pc = .ok (.invokespecial index, 3)) : zRun E k n rm.cells rm.slots L σ φ ρ pc lv stk st (fun sz => Qc sz (Value.ref a :: av).toArray) := by
  obtain ⟨p, l, e, R, s, m, args, below, meth, c, D, cy, A, Q⟩ := E
  obtain ⟨hx, hb, hml, hown, hts, hK, hA, rfl, rfl, rfl, rfl⟩ := hE
  intro H locs ls hJ hl
  obtain ⟨f, hf, hP, hD, hS0⟩ := id hJ
  exact va_runI ⟨hx, hb, hml, hown, hts⟩ (hM H.size) ⟨callB_of av.length hts (gin hq5) rfl rfl rfl (hts _ hq4) (hts _ hq1) hy hR, hi, hts _ hq2⟩ ⟨zPre_blind, fun U hU hW => ⟨rfl, by rw [hU], hK.warm hW, f, hf, by rw [hU]; exact hP, zD_all hD⟩⟩ rfl rfl (hl.1.trans hml) hst (lv_room hcat) hd hk
theorem r_IN (hE : zOk E l0 D0 cy0 own cc nL R0) (hM : ∀ sz, Met l0 y (Cond.code y b nb none :: gtbl) rm (zPre D0 cy0 (.ref a :: av) sz L σ φ ρ) (Qc sz) rm.cells rm.slots (zA L sz)) (hq1 : (own, index, y) ∈ znests) (hq2 : Cond.instanceMethod y ∈ gtbl) (hq4 : Cond.initialized y.cls ∈ gtbl) (hq5 : Cond.code y b nb none ∈ gtbl) (hi : y.name = "<init>") (hy : y.cls ≠ "java/lang/invoke/MethodHandle" ∧ y.cls ≠ "java/lang/invoke/VarHandle" ∧ (parseMethodDescriptor y.desc).map (fun d => d.parameters.length) = some av.length) (hR : rm.frames + 1 ≤ R0.frames ∧ 8 + (nb + 11) + rm.locals ≤ R0.locals) (hk : k + rm.cells ≤ R0.cells ∧ n + rm.slots ≤ R0.slots) (hst : stk = av.reverse ++ .ref a :: st) (hcat : (st.map fun v => v.category).sum ≤ 8) (hd : decode cc pc = .ok (.invokespecial index, 3)) : zRun E k n rm.cells rm.slots L σ φ ρ pc lv stk st (fun sz => Qc sz (Value.ref a :: av).toArray) := by
  obtain ⟨p, l, e, R, s, m, args, below, meth, c, D, cy, A, Q⟩ := E
  obtain ⟨hx, hb, hml, hown, hts, hK, hA, rfl, rfl, rfl, rfl⟩ := hE
  intro H locs ls hJ hl
  obtain ⟨f, hf, hP, hD, hS0⟩ := id hJ
  exact va_runIN ⟨hx, hb, hml, hown, hts⟩ (hM H.size) ⟨va_cnB av.length hts (gin hq5) rfl rfl rfl (hK.2.1 _ hq1) (hts _ hq4) hy hR, hi, hts _ hq2⟩ ⟨zPre_blind, fun U hU hW => ⟨rfl, by rw [hU], hK.warm hW, f, hf, by rw [hU]; exact hP, zD_all hD⟩⟩ rfl rfl (hl.1.trans hml) hst (lv_room hcat) hd hk
variable {mc ms : Nat} {aa : Array Value}
theorem c_i {post : Int32 → zS → Prop} (hE : zOk E l0 D0 cy0 own cc nL R0) (hr : zRun E k n mc ms L σ φ ρ pc lv stk st (fun sz => va_Qi post (zB D0 (zA L sz)) (zA L sz) aa)) (kk : ∀ (r : Int32) (L' : List Nat) (σ' : Nat → va_E) (φ' : Nat → Nat → Nat → Int32) (ρ' : Nat → Nat → Int32), post r (L', σ', φ', ρ') → zW E (k + mc) (n + ms) L' σ' φ' ρ' (pc + 3) lv (.int r :: st)) : zW E k n L σ φ ρ pc lv stk := by
  obtain ⟨p, l, e, R, s, m, args, below, meth, c, D, cy, A, Q⟩ := E
  obtain ⟨hx, hb, hml, hown, hts, hK, hA, rfl, rfl, rfl, rfl⟩ := hE
  intro H locs ls hJ hl
  obtain ⟨f, hf, hP, hD, hS0⟩ := id hJ
  refine va_calli (hr H locs ls hJ hl) hS0 (fun q _ h => zA_sub hD hS0 hA q h) (fun q h => zA_sub hD hS0 hA q h) (fun r u t H1 locs1 ht hvm hw hB hz1 hk1 hS1 => ?_)
  obtain ⟨f1, hf1, hP1, hD1⟩ := hB
  exact kk r u.1 u.2.1 u.2.2.1 u.2.2.2 hw H1 locs1 ls ⟨f1, hf1, by rw [← ht]; exact hP1, hD1.weaken (fun _ _ _ h => zA_sub hD hS0 hA _ h), hS1⟩ hl
theorem c_l {post : Int64 → zS → Prop} (hE : zOk E l0 D0 cy0 own cc nL R0) (hr : zRun E k n mc ms L σ φ ρ pc lv stk st (fun sz => va_Ql post (zB D0 (zA L sz)) (zA L sz) aa)) (kk : ∀ (r : Int64) (L' : List Nat) (σ' : Nat → va_E) (φ' : Nat → Nat → Nat → Int32) (ρ' : Nat → Nat → Int32), post r (L', σ', φ', ρ') → zW E (k + mc) (n + ms) L' σ' φ' ρ' (pc + 3) lv (.long r :: st)) : zW E k n L σ φ ρ pc lv stk := by
  obtain ⟨p, l, e, R, s, m, args, below, meth, c, D, cy, A, Q⟩ := E
  obtain ⟨hx, hb, hml, hown, hts, hK, hA, rfl, rfl, rfl, rfl⟩ := hE
  intro H locs ls hJ hl
  obtain ⟨f, hf, hP, hD, hS0⟩ := id hJ
  refine va_calll (hr H locs ls hJ hl) hS0 (fun q _ h => zA_sub hD hS0 hA q h) (fun q h => zA_sub hD hS0 hA q h) (fun r u t H1 locs1 ht hvm hw hB hz1 hk1 hS1 => ?_)
  obtain ⟨f1, hf1, hP1, hD1⟩ := hB
  exact kk r u.1 u.2.1 u.2.2.1 u.2.2.2 hw H1 locs1 ls ⟨f1, hf1, by rw [← ht]; exact hP1, hD1.weaken (fun _ _ _ h => zA_sub hD hS0 hA _ h), hS1⟩ hl
theorem c_v {post : zS → Prop} (hE : zOk E l0 D0 cy0 own cc nL R0) (hr : zRun E k n mc ms L σ φ ρ pc lv stk st (fun sz => va_Qv post (zB D0 (zA L sz)) (zA L sz) aa)) (kk : ∀ (L' : List Nat) (σ' : Nat → va_E) (φ' : Nat → Nat → Nat → Int32) (ρ' : Nat → Nat → Int32), post (L', σ', φ', ρ') → zW E (k + mc) (n + ms) L' σ' φ' ρ' (pc + 3) lv st) : zW E k n L σ φ ρ pc lv stk := by
  obtain ⟨p, l, e, R, s, m, args, below, meth, c, D, cy, A, Q⟩ := E
  obtain ⟨hx, hb, hml, hown, hts, hK, hA, rfl, rfl, rfl, rfl⟩ := hE
  intro H locs ls hJ hl
  obtain ⟨f, hf, hP, hD, hS0⟩ := id hJ
  refine va_callv (hr H locs ls hJ hl) hS0 (fun q _ h => zA_sub hD hS0 hA q h) (fun q h => zA_sub hD hS0 hA q h) (fun u t H1 locs1 ht hvm hw hB hz1 hk1 hS1 => ?_)
  obtain ⟨f1, hf1, hP1, hD1⟩ := hB
  exact kk u.1 u.2.1 u.2.2.1 u.2.2.2 hw H1 locs1 ls ⟨f1, hf1, by rw [← ht]; exact hP1, hD1.weaken (fun _ _ _ h => zA_sub hD hS0 hA _ h), hS1⟩ hl
theorem c_r {post : Nat → zS → Prop} (hE : zOk E l0 D0 cy0 own cc nL R0) (hr : zRun E k n mc ms L σ φ ρ pc lv stk st (fun sz => va_Qr (fun u : Nat × zS => post u.1 u.2) (fun u a t => u.1 = a ∧ zB D0 (zA L sz) u.2 t) (zA L sz) aa)) (kk : ∀ (r : Nat) (L' : List Nat) (σ' : Nat → va_E) (φ' : Nat → Nat → Nat → Int32) (ρ' : Nat → Nat → Int32), post r (L', σ', φ', ρ') → zW E (k + mc) (n + ms) L' σ' φ' ρ' (pc + 3) lv (.ref r :: st)) : zW E k n L σ φ ρ pc lv stk := by
  obtain ⟨p, l, e, R, s, m, args, below, meth, c, D, cy, A, Q⟩ := E
  obtain ⟨hx, hb, hml, hown, hts, hK, hA, rfl, rfl, rfl, rfl⟩ := hE
  intro H locs ls hJ hl
  obtain ⟨f, hf, hP, hD, hS0⟩ := id hJ
  refine va_callr (hr H locs ls hJ hl) hS0 (fun q _ h => zA_sub hD hS0 hA q h) (fun q h => zA_sub hD hS0 hA q h) (fun u ra t H1 locs1 ht hvm hw hB hz1 hk1 hS1 => ?_)
  obtain ⟨rfl, f1, hf1, hP1, hD1⟩ := hB
  exact kk u.1 u.2.1 u.2.2.1 u.2.2.2.1 u.2.2.2.2 hw H1 locs1 ls ⟨f1, hf1, by rw [← ht]; exact hP1, hD1.weaken (fun _ _ _ h => zA_sub hD hS0 hA _ h), hS1⟩ hl
/-- what answers and changes nothing -/
abbrev zpu (L : List Nat) (σ : Nat → va_E) (φ : Nat → Nat → Nat → Int32) (ρ : Nat → Nat → Int32) (P : Int32 → Prop) : Int32 → zS → Prop := fun r u => u = (L, σ, φ, ρ) ∧ P r
/-- what leaves shapes as they are -/
abbrev zsa (L : List Nat) (σ : Nat → va_E) (P : Int32 → (Nat → Nat → Nat → Int32) → (Nat → Nat → Int32) → Prop) : Int32 → zS → Prop := fun r u => u.1 = L ∧ u.2.1 = σ ∧ P r u.2.2.1 u.2.2.2
abbrev zsv (L : List Nat) (σ : Nat → va_E) (P : (Nat → Nat → Nat → Int32) → (Nat → Nat → Int32) → Prop) : zS → Prop := fun u => u.1 = L ∧ u.2.1 = σ ∧ P u.2.2.1 u.2.2.2
abbrev zsr (L : List Nat) (σ : Nat → va_E) (P : Nat → (Nat → Nat → Nat → Int32) → (Nat → Nat → Int32) → Prop) : Nat → zS → Prop := fun r u => u.1 = L ∧ u.2.1 = σ ∧ P r u.2.2.1 u.2.2.2
theorem c_ip {P : Int32 → Prop} (hE : zOk E l0 D0 cy0 own cc nL R0) (hr : zRun E k n mc ms L σ φ ρ pc lv stk st (fun sz => va_Qi (zpu L σ φ ρ P) (zB D0 (zA L sz)) (zA L sz) aa)) (kk : ∀ r : Int32, P r → zW E (k + mc) (n + ms) L σ φ ρ (pc + 3) lv (.int r :: st)) : zW E k n L σ φ ρ pc lv stk := by
  refine c_i hE hr (fun r L' σ' φ' ρ' h => ?_)
  obtain ⟨h1, h2⟩ := h
  cases h1
  exact kk r h2
theorem c_is {P : Int32 → (Nat → Nat → Nat → Int32) → (Nat → Nat → Int32) → Prop} (hE : zOk E l0 D0 cy0 own cc nL R0) (hr : zRun E k n mc ms L σ φ ρ pc lv stk st (fun sz => va_Qi (zsa L σ P) (zB D0 (zA L sz)) (zA L sz) aa)) (kk : ∀ (r : Int32) (φ' : Nat → Nat → Nat → Int32) (ρ' : Nat → Nat → Int32), P r φ' ρ' → zW E (k + mc) (n + ms) L σ φ' ρ' (pc + 3) lv (.int r :: st)) : zW E k n L σ φ ρ pc lv stk := by
  refine c_i hE hr (fun r L' σ' φ' ρ' h => ?_)
  obtain ⟨h1, h2, h3⟩ := h
  dsimp only at h1 h2 h3
  subst h1 h2
  exact kk r φ' ρ' h3
theorem c_vs {P : (Nat → Nat → Nat → Int32) → (Nat → Nat → Int32) → Prop} (hE : zOk E l0 D0 cy0 own cc nL R0) (hr : zRun E k n mc ms L σ φ ρ pc lv stk st (fun sz => va_Qv (zsv L σ P) (zB D0 (zA L sz)) (zA L sz) aa)) (kk : ∀ (φ' : Nat → Nat → Nat → Int32) (ρ' : Nat → Nat → Int32), P φ' ρ' → zW E (k + mc) (n + ms) L σ φ' ρ' (pc + 3) lv st) : zW E k n L σ φ ρ pc lv stk := by
  refine c_v hE hr (fun L' σ' φ' ρ' h => ?_)
  obtain ⟨h1, h2, h3⟩ := h
  dsimp only at h1 h2 h3
  subst h1 h2
  exact kk φ' ρ' h3
theorem c_rs {P : Nat → (Nat → Nat → Nat → Int32) → (Nat → Nat → Int32) → Prop} (hE : zOk E l0 D0 cy0 own cc nL R0) (hr : zRun E k n mc ms L σ φ ρ pc lv stk st (fun sz => va_Qr (fun u : Nat × zS => zsr L σ P u.1 u.2) (fun u a t => u.1 = a ∧ zB D0 (zA L sz) u.2 t) (zA L sz) aa)) (kk : ∀ (r : Nat) (φ' : Nat → Nat → Nat → Int32) (ρ' : Nat → Nat → Int32), P r φ' ρ' → zW E (k + mc) (n + ms) L σ φ' ρ' (pc + 3) lv (.ref r :: st)) : zW E k n L σ φ ρ pc lv stk := by
  refine c_r (post := zsr L σ P) hE hr (fun r L' σ' φ' ρ' h => ?_)
  obtain ⟨h1, h2, h3⟩ := h
  dsimp only at h1 h2 h3
  subst h1 h2
  exact kk r φ' ρ' h3
theorem x_objinit (hE : zOk E l0 D0 cy0 own cc nL R0) (hq : Cond.methodLink own index objectInit ∈ gtbl) (hq2 : Cond.instanceMethod objectInit ∈ gtbl) (hq3 : Cond.code objectInit ⟨#[0xb1]⟩ 1 none ∈ gtbl) (hd : decode cc pc = .ok (.invokespecial index, 3)) (h1 : 1 ≤ R0.frames) (h2 : (st.map fun v => v.category).sum + 12 ≤ R0.locals) (kk : zW E k n L σ φ ρ (pc + 3) lv st) : zW E k n L σ φ ρ pc lv (.ref a :: st) := by
  obtain ⟨p, l, e, R, s, m, args, below, meth, c, D, cy, A, Q⟩ := E
  obtain ⟨hx, hb, hml, hown, hts, hK, hA, rfl, rfl, rfl, rfl⟩ := hE
  intro H locs ls hJ hl
  refine W.objInit hx hb hown (hts _ hq) (hts _ hq2) (hts _ hq3) rfl hl.1 rfl hd h1 (by simpa [JFrame.monitorRoom] using h2) (kk H locs ls hJ hl)
theorem x_min {x z : Int32} (hE : zOk E l0 D0 cy0 own cc nL R0) (hq1 : Cond.methodLink own index Lib.Math.min.name ∈ gtbl) (hq2 : Cond.static Lib.Math.min.name ∈ gtbl) (hq3 : Cond.initialized "java/lang/Math" ∈ gtbl) (hq4 : Cond.code Lib.Math.min.name Lib.Math.min.code 2 (some .int) ∈ gtbl) (h1 : 1 ≤ R0.frames) (h2 : (st.map fun v => v.category).sum + 13 ≤ R0.locals) (h3 : k ≤ R0.cells) (h4 : n ≤ R0.slots) (hd : decode cc pc = .ok (.invokestatic index, 3)) (kk : zW E k n L σ φ ρ (pc + 3) lv (.int (if z < x then z else x) :: st)) : zW E k n L σ φ ρ pc lv (.int z :: .int x :: st) := by
  obtain ⟨p, l, e, R, s, m, args, below, meth, c, D, cy, A, Q⟩ := E
  obtain ⟨hx, hb, hml, hown, hts, hK, hA, rfl, rfl, rfl, rfl⟩ := hE
  intro H locs ls hJ hl
  exact va_mmin hx hb hl.1.symm hown (hts _ hq1) (hts _ hq2) (hts _ hq3) (hts _ hq4) h1 h2 h3 h4 hd (kk H locs ls hJ hl)
theorem x_max {x z : Int32} (hE : zOk E l0 D0 cy0 own cc nL R0) (hq1 : Cond.methodLink own index Lib.Math.max.name ∈ gtbl) (hq2 : Cond.static Lib.Math.max.name ∈ gtbl) (hq3 : Cond.initialized "java/lang/Math" ∈ gtbl) (hq4 : Cond.code Lib.Math.max.name Lib.Math.max.code 2 (some .int) ∈ gtbl) (h1 : 1 ≤ R0.frames) (h2 : (st.map fun v => v.category).sum + 13 ≤ R0.locals) (h3 : k ≤ R0.cells) (h4 : n ≤ R0.slots) (hd : decode cc pc = .ok (.invokestatic index, 3)) (kk : zW E k n L σ φ ρ (pc + 3) lv (.int (if x < z then z else x) :: st)) : zW E k n L σ φ ρ pc lv (.int z :: .int x :: st) := by
  obtain ⟨p, l, e, R, s, m, args, below, meth, c, D, cy, A, Q⟩ := E
  obtain ⟨hx, hb, hml, hown, hts, hK, hA, rfl, rfl, rfl, rfl⟩ := hE
  intro H locs ls hJ hl
  exact va_mmax hx hb hl.1.symm hown (hts _ hq1) (hts _ hq2) (hts _ hq3) (hts _ hq4) h1 h2 h3 h4 hd (kk H locs ls hJ hl)
theorem h_copy {a0 N0 N1 : Nat} {sp dp z : Int32} (hE : zOk E l0 D0 cy0 own cc nL R0) (hq1 : Cond.methodLink own index arraycopyName ∈ gtbl) (hq2 : Cond.native arraycopyName ∈ gtbl) (hq3 : Cond.static arraycopyName ∈ gtbl) (hq4 : Cond.initialized "java/lang/System" ∈ gtbl) (ha0 : zT L σ a0 (zIA cy0 N0)) (ha : zT L σ a (zIA cy0 N1)) (h1 : ¬ sp < 0) (h2 : ¬ dp < 0) (h3 : ¬ z < 0) (h4 : sp.toNatClampNeg + z.toNatClampNeg ≤ N0) (h5 : dp.toNatClampNeg + z.toNatClampNeg ≤ N1) (hf1 : 1 ≤ R0.frames) (hf2 : (st.map fun v => v.category).sum + (nativeFrameWords "java/lang/System" "arraycopy" 5 + 11) ≤ R0.locals) (hd : decode cc pc = .ok (.invokestatic index, 3)) (kk : zW E k n L σ φ (va_up ρ a (va_cpy (ρ a0) (ρ a) sp.toNatClampNeg dp.toNatClampNeg z.toNatClampNeg)) (pc + 3) lv st) : zW E k n L σ φ ρ pc lv (.int z :: .int dp :: .ref a :: .int sp :: .ref a0 :: st) := by
  obtain ⟨p, l, e, R, s, m, args, below, meth, c, D, cy, A, Q⟩ := E
  obtain ⟨hx, hb, hml, hown, hts, hK, hA, rfl, rfl, rfl, rfl⟩ := hE
  intro H locs ls hJ hl
  obtain ⟨f, hf, hP, hD, hS0⟩ := id hJ
  obtain ⟨g1, -, g3⟩ := hf a ha.1
  have e1 := zsh_ia (g1.trans ha.2)
  rw [g3] at e1
  obtain ⟨g4, -, g5⟩ := hf a0 ha0.1
  have e2 := zsh_ia (g4.trans ha0.2)
  rw [g5] at e2
  obtain ⟨q1, hq1'⟩ := z_plget (f := f) ha.1
  obtain ⟨q0, hq0'⟩ := z_plget (f := f) ha0.1
  have h9 := z_plset (e := .inl (cy 0, N1, .inl (va_cpy (ρ a0) (ρ a) sp.toNatClampNeg dp.toNatClampNeg z.toNatClampNeg))) hD ha.1 hq1'
  exact va_copyi hx hb hl.1.symm hown (hts _ hq1) (hts _ hq2) (hts _ hq3) (hts _ hq4) hK.1 hP hD hS0 q0 q1 0 0 (by rw [← e2]; exact hq0') (by rw [← e1]; exact hq1') rfl rfl rfl h1 h2 h3 h4 h5 (fun _ _ => rfl) hf1 hf2 hd (fun H1 locs1 hP1 hD1 hS1 => kk H1 locs1 ls ⟨_, z_row hf ha, h9 ▸ hP1, h9 ▸ hD1, hS1⟩ hl)
end ZC
end
section
theorem fa_lt (a b : Int32) : a < b ↔ a.toInt < b.toInt := Int32.lt_iff_toInt_lt
theorem fa_le (a b : Int32) : a ≤ b ↔ a.toInt ≤ b.toInt := Int32.le_iff_toInt_le
theorem fa_eq (a b : Int32) : a = b ↔ a.toInt = b.toInt := Int32.toInt_inj.symm
def zb (p : Prop) [Decidable p] : Int32 := if p then 1 else 0
theorem zb_t {p : Prop} [Decidable p] (h : p) : zb p = 1 := if_pos h
theorem zb_f {p : Prop} [Decidable p] (h : ¬ p) : zb p = 0 := if_neg h
theorem zb_z {p : Prop} [Decidable p] : zb p = 0 ↔ ¬ p := by
  unfold zb
  split
  · rename_i h
    exact ⟨fun e => absurd e (by decide), fun e => absurd h e⟩
  · rename_i h
    exact ⟨fun _ => h, fun _ => rfl⟩
theorem z_nlt {a b : Int32} (h : ¬ a < b) : b ≤ a := by rw [fa_lt] at h; rw [fa_le]; omega
theorem z_nle {a b : Int32} (h : ¬ a ≤ b) : b < a := by rw [fa_le] at h; rw [fa_lt]; omega
theorem z_lt_nle {a b : Int32} (h : a < b) : ¬ b ≤ a := by rw [fa_lt] at h; rw [fa_le]; omega
theorem z_le_nlt {a b : Int32} (h : a ≤ b) : ¬ b < a := by rw [fa_le] at h; rw [fa_lt]; omega
section ZN
variable {E : zCx} {k n : Nat} {L : List Nat} {σ : Nat → va_E} {φ : Nat → Nat → Nat → Int32} {ρ : Nat → Nat → Int32} {pc : Nat} {lv : List (Nat × Value)} {st : List Value}
theorem x_norm {x y : Int32} (h : x = y) (kk : zW E k n L σ φ ρ pc lv (.int y :: st)) : zW E k n L σ φ ρ pc lv (.int x :: st) := by
  rw [h]
  exact kk
theorem x_name {x : Int32} (kk : ∀ y : Int32, y = x → zW E k n L σ φ ρ pc lv (.int y :: st)) : zW E k n L σ φ ρ pc lv (.int x :: st) := kk x rfl
end ZN
end
section
/-! Rows for constructors, and the structures that they make. -/
section ZK
variable {E : zCx} {l0 : Launch} {D0 : va_G} {cy0 : Nat → ClassId} {own : String} {cc : ByteArray} {nL : Nat} {R0 : Room} {k n : Nat} {L : List Nat} {σ : Nat → va_E} {φ : Nat → Nat → Nat → Int32} {ρ : Nat → Nat → Int32} {pc : Nat} {lv : List (Nat × Value)} {st : List Value}
variable {w ci index N j0 : Nat} {S : List Value} {C : String} {T : u_T}
theorem zX.put {b : Nat} (h : zT L σ w (.inr (ci, S))) {e : va_E} : zX w L σ φ ρ L (va_up σ w e) φ ρ := ⟨fun _ h => h, fun b hb hw => ⟨va_up_ne _ _ hw, fun _ _ => rfl, rfl⟩⟩
theorem x_putr {b : Nat} {ty : FieldType} {ty0 : Nat → FieldType} (hE : zOk E l0 D0 cy0 own cc nL R0) (hI : zIn E ∧ (T j0).2.2.2 = true ∧ (T j0).1 = own ∨ (T j0).2.2.2 = false) (ha : zT L σ w (.inr (ci, S))) (hc : vwCl[ci]? = some (C, T, N)) (hin : ∀ w ∈ u_ws C T N, w ∈ gtbl) (hty : ∀ k, k < N → parseFieldDescriptor (T k).2.2.1 = some (ty0 k)) (hnm : ∀ a, a < N → ∀ b, b < N → a ≠ b → (T a).2.1 ≠ (T b).2.1) (hj : j0 < N) (hq : Cond.fieldLink own index (T j0).1 (T j0).2.1 (T j0).2.2.1 ∈ gtbl) (hS : ∃ v0, S[j0]? = some v0 ∧ (v0 = .null ∨ ∃ r, v0 = .ref r)) (hdsc : parseFieldDescriptor (T j0).2.2.1 = some ty) (hn : narrow ty (.ref b) = .ref b) (hfit : fits ty (.ref b) = true) (hd : decode cc pc = .ok (.putfield index, 3)) (kk : ∀ σ1 : Nat → va_E, zX w L σ φ ρ L σ1 φ ρ → zT L σ1 w (.inr (ci, S.set j0 (.ref b))) → zW E k n L σ1 φ ρ (pc + 3) lv st) : zW E k n L σ φ ρ pc lv (.ref b :: .ref w :: st) :=
  h_putr hE hI ha hc hin hty hnm hj hq hS hdsc hn hfit hd (kk _ (zX.put (b := b) ha) ⟨ha.1, va_up_self _ _ _⟩)
theorem x_puti {v : Int32} {ty : FieldType} {ty0 : Nat → FieldType} (hE : zOk E l0 D0 cy0 own cc nL R0) (ha : zT L σ w (.inr (ci, S))) (hc : vwCl[ci]? = some (C, T, N)) (hin : ∀ w ∈ u_ws C T N, w ∈ gtbl) (hty : ∀ k, k < N → parseFieldDescriptor (T k).2.2.1 = some (ty0 k)) (hnm : ∀ a, a < N → ∀ b, b < N → a ≠ b → (T a).2.1 ≠ (T b).2.1) (hj : j0 < N) (hq : Cond.fieldLink own index (T j0).1 (T j0).2.1 (T j0).2.2.1 ∈ gtbl) (hfin : (T j0).2.2.2 = false) (hS : S[j0]? = some (.int 0)) (hdsc : parseFieldDescriptor (T j0).2.2.1 = some ty) (hn : narrow ty (.int v) = .int v) (hfit : fits ty (.int v) = true) (hd : decode cc pc = .ok (.putfield index, 3)) (kk : ∀ φ1 : Nat → Nat → Nat → Int32, zX w L σ φ ρ L σ φ1 ρ → (∀ c i, φ1 c i w = if c = ci ∧ i = j0 then v else φ c i w) → zW E k n L σ φ1 ρ (pc + 3) lv st) : zW E k n L σ φ ρ pc lv (.int v :: .ref w :: st) := by
  refine h_puti hE ha hc hin hty hnm j0 hj hq hfin hS hdsc hn hfit hd (kk _ ⟨fun _ h => h, fun b hb hw => ⟨rfl, fun c i => ?_, rfl⟩⟩ (fun c i => ?_))
  · rw [zup, if_neg (fun h => hw h.2.2)]
  · simp [zup]
theorem x_np {atype : ArrayType} {t0 : Nat} {ty fty : FieldType} {ty0 : Nat → FieldType} {v : Int32} {N0 : Nat} {x : vp_A} (hE : zOk E l0 D0 cy0 own cc nL R0) (hI : zIn E) (hw : zT L σ w (.inr (ci, S))) (hc : vwCl[ci]? = some (C, T, N)) (hin : ∀ w ∈ u_ws C T N, w ∈ gtbl) (hty0 : ∀ k, k < N → parseFieldDescriptor (T k).2.2.1 = some (ty0 k)) (hnm : ∀ a, a < N → ∀ b, b < N → a ≠ b → (T a).2.1 ≠ (T b).2.1) (hj : j0 < N) (hq : Cond.fieldLink own index (T j0).1 (T j0).2.1 (T j0).2.2.1 ∈ gtbl) (hfin : (T j0).2.2.2 = true) (how : (T j0).1 = own) (hS : S[j0]? = some .null) (hdsc : parseFieldDescriptor (T j0).2.2.1 = some fty) (hfit : ∀ b, narrow fty (.ref b) = .ref b ∧ fits fty (.ref b) = true)
    (hty : newarray.typeOf atype = ty) (hno : ∀ C, ty ≠ .object C) (hq2 : Cond.arrayClass ty ∈ gtbl) (ht : (zcy cy0)[t0]? = some (cy0 t0, ty)) (hxc : ∀ cA : ClassId, vp_cell cA x = arrV cA N0 (fun _ => defaultValue ty)) (hsh : ∀ cA : ClassId, zsh (.inl (cA, x)) = .inl (cA, x)) (hr0 : ∀ cA : ClassId, zrI (.inl (cA, x)) = fun _ => 0) (hn : ¬ v < 0) (hN : v.toNatClampNeg = N0) (hby : N0 * componentBytes ty ≤ 536870912) (hk1 : k + 1 ≤ R0.cells) (hk2 : n + N0 ≤ R0.slots) (hd1 : decode cc pc = .ok (.newarray atype, 2)) (hd2 : decode cc (pc + 2) = .ok (.putfield index, 3))
    (kk : ∀ (q : Nat) (L1 : List Nat) (σ1 : Nat → va_E) (φ1 : Nat → Nat → Nat → Int32) (ρ1 : Nat → Nat → Int32), q ∉ L → zX w L σ φ ρ L1 σ1 φ1 ρ1 → zT L1 σ1 w (.inr (ci, S.set j0 (.ref q))) → (∀ c i, φ1 c i w = φ c i w) → zT L1 σ1 q (.inl (cy0 t0, x)) → ρ1 q = (fun _ => 0) → zW E (k + 1) (n + N0) L1 σ1 φ1 ρ1 (pc + 5) lv st) : zW E k n L σ φ ρ pc lv (.int v :: .ref w :: st) := by
  refine h_newa hE hty hno hq2 ht hxc hsh hr0 hn hN hby hk1 hk2 hd1 (fun q L1 σ1 φ1 ρ1 hqL hX hT hr => ?_)
  have hne : w ≠ q := fun h => hqL (h ▸ hw.1)
  have hw1 := (hX q).T hw hne
  refine h_putr hE (Or.inl ⟨hI, hfin, how⟩) hw1 hc hin hty0 hnm hj hq ⟨_, hS, Or.inl rfl⟩ hdsc (hfit q).1 (hfit q).2 hd2 (kk q L1 _ φ1 ρ1 hqL ((hX w).tr (zX.put (b := q) hw1)) ⟨hw1.1, va_up_self _ _ _⟩ (fun c i => ((hX q).2 w hw.1 hne).2.1 c i) ⟨hT.1, (va_up_ne _ _ hne.symm).trans hT.2⟩ hr)
end ZK
section ZD
variable {cy : Nat → ClassId} {L L1 : List Nat} {σ σ1 : Nat → va_E} {φ φ1 : Nat → Nat → Nat → Int32} {ρ ρ1 : Nat → Nat → Int32} {a w : Nat}
def zLand (cy : Nat → ClassId) (L : List Nat) (σ : Nat → va_E) (a : Nat) : Prop := ∃ a0 a1 a2 a3 a4 a5 a6 a7 : Nat, zT L σ a (.inr (0, [.int 0, .int 0, .ref a0, .ref a1, .ref a2, .ref a3, .ref a4, .ref a5, .ref a6, .ref a7])) ∧ zT L σ a0 (zIA cy 6) ∧ zT L σ a1 (zIA cy 6) ∧ zT L σ a2 (zIA cy 6) ∧ zT L σ a3 (zIA cy 6) ∧ zT L σ a4 (zIA cy 8) ∧ zT L σ a5 (zIA cy 8) ∧ zT L σ a6 (zIA cy 8) ∧ zT L σ a7 (zIA cy 8)
def zWorld (cy : Nat → ClassId) (L : List Nat) (σ : Nat → va_E) (a : Nat) : Prop := ∃ a0 a1 a2 a3 a4 a5 a6 a7 : Nat, zT L σ a (.inr (10, [.ref a0, .ref a1, .ref a2, .ref a3, .ref a4, .ref a5, .int 0, .int 0, .int 0, .int 0, .int 0, .int 0, .int 0, .ref a6, .ref a7])) ∧ zT L σ a0 (zIA cy 6) ∧ zT L σ a1 (zIA cy 6) ∧ zT L σ a2 (zIA cy 6) ∧ zT L σ a3 (zIA cy 8) ∧ zT L σ a4 (zIA cy 8) ∧ zT L σ a5 (zIA cy 8) ∧ zT L σ a6 (zIA cy 40) ∧ zT L σ a7 (zIA cy 20)
def zLists (cy : Nat → ClassId) (L : List Nat) (σ : Nat → va_E) (a : Nat) : Prop := ∃ a0 a1 a2 a3 a4 a5 a6 a7 : Nat, zT L σ a (.inr (1, [.int 0, .int 0, .int 0, .ref a0, .ref a1, .ref a2, .ref a3, .ref a4, .ref a5, .ref a6, .ref a7])) ∧ zT L σ a0 (zIA cy 6) ∧ zT L σ a1 (zIA cy 6) ∧ zT L σ a2 (zIA cy 6) ∧ zT L σ a3 (zIA cy 12) ∧ zT L σ a4 (zZA cy 12) ∧ zT L σ a5 (zZA cy 10) ∧ zT L σ a6 (zIA cy 10) ∧ zT L σ a7 (zIA cy 10)
def zSteps (cy : Nat → ClassId) (L : List Nat) (σ : Nat → va_E) (a : Nat) (g : Nat → Option Nat) : Prop := ∃ a0 a1 : Nat, zT L σ a (.inr (5, [.int 0, .int 0, .ref a0, .ref a1])) ∧ zT L σ a0 (zRA (cy 4) 30 g) ∧ zT L σ a1 (zIA cy 30) ∧ ∀ i, i < 30 → ∃ w, g i = some w ∧ zWorld cy L σ w
def zText (cy : Nat → ClassId) (L : List Nat) (σ : Nat → va_E) (a : Nat) : Prop := ∃ a0 a1 a2 a3 a4 a5 a6 a7 a8 a9 : Nat, zT L σ a (.inr (7, [.int 0, .ref a0, .ref a1, .ref a2, .ref a3, .int 0, .ref a4, .ref a5, .int 0, .ref a6, .ref a7, .ref a8, .ref a9])) ∧ zT L σ a0 (zIA cy 24) ∧ zT L σ a1 (zIA cy 72) ∧ zT L σ a2 (zIA cy 300) ∧ zT L σ a3 (zIA cy 300) ∧ zT L σ a4 (zIA cy 300) ∧ zT L σ a5 (zIA cy 300) ∧ zT L σ a6 (zIA cy 5) ∧ zT L σ a7 (zIA cy 5) ∧ zT L σ a8 (zIA cy 5) ∧ zT L σ a9 (zIA cy 5)
theorem zLand.mono (h : zLand cy L σ a) (hX : zX w L σ φ ρ L1 σ1 φ1 ρ1) (hw : ∃ c S, zT L σ w (.inr (c, S))) (ha : a ≠ w) : zLand cy L1 σ1 a := by
  obtain ⟨c, S, hw⟩ := hw
  obtain ⟨a0, a1, a2, a3, a4, a5, a6, a7, h, h0, h1, h2, h3, h4, h5, h6, h7⟩ := h
  exact ⟨a0, a1, a2, a3, a4, a5, a6, a7, hX.T h ha, hX.T h0 (zT.ne h0 hw (by simp)), hX.T h1 (zT.ne h1 hw (by simp)), hX.T h2 (zT.ne h2 hw (by simp)), hX.T h3 (zT.ne h3 hw (by simp)), hX.T h4 (zT.ne h4 hw (by simp)), hX.T h5 (zT.ne h5 hw (by simp)), hX.T h6 (zT.ne h6 hw (by simp)), hX.T h7 (zT.ne h7 hw (by simp))⟩
theorem zWorld.mono (h : zWorld cy L σ a) (hX : zX w L σ φ ρ L1 σ1 φ1 ρ1) (hw : ∃ c S, zT L σ w (.inr (c, S))) (ha : a ≠ w) : zWorld cy L1 σ1 a := by
  obtain ⟨c, S, hw⟩ := hw
  obtain ⟨a0, a1, a2, a3, a4, a5, a6, a7, h, h0, h1, h2, h3, h4, h5, h6, h7⟩ := h
  exact ⟨a0, a1, a2, a3, a4, a5, a6, a7, hX.T h ha, hX.T h0 (zT.ne h0 hw (by simp)), hX.T h1 (zT.ne h1 hw (by simp)), hX.T h2 (zT.ne h2 hw (by simp)), hX.T h3 (zT.ne h3 hw (by simp)), hX.T h4 (zT.ne h4 hw (by simp)), hX.T h5 (zT.ne h5 hw (by simp)), hX.T h6 (zT.ne h6 hw (by simp)), hX.T h7 (zT.ne h7 hw (by simp))⟩
theorem zLists.mono (h : zLists cy L σ a) (hX : zX w L σ φ ρ L1 σ1 φ1 ρ1) (hw : ∃ c S, zT L σ w (.inr (c, S))) (ha : a ≠ w) : zLists cy L1 σ1 a := by
  obtain ⟨c, S, hw⟩ := hw
  obtain ⟨a0, a1, a2, a3, a4, a5, a6, a7, h, h0, h1, h2, h3, h4, h5, h6, h7⟩ := h
  exact ⟨a0, a1, a2, a3, a4, a5, a6, a7, hX.T h ha, hX.T h0 (zT.ne h0 hw (by simp)), hX.T h1 (zT.ne h1 hw (by simp)), hX.T h2 (zT.ne h2 hw (by simp)), hX.T h3 (zT.ne h3 hw (by simp)), hX.T h4 (zT.ne h4 hw (by simp)), hX.T h5 (zT.ne h5 hw (by simp)), hX.T h6 (zT.ne h6 hw (by simp)), hX.T h7 (zT.ne h7 hw (by simp))⟩
theorem zSteps.mono {g : Nat → Option Nat} (h : zSteps cy L σ a g) (hX : zX w L σ φ ρ L1 σ1 φ1 ρ1) (hw : ∃ c S, zT L σ w (.inr (c, S)) ∧ c ≠ 10) (ha : a ≠ w) : zSteps cy L1 σ1 a g := by
  obtain ⟨c, S, hw, hc⟩ := hw
  obtain ⟨a0, a1, h, h0, h1, h2⟩ := h
  refine ⟨a0, a1, hX.T h ha, hX.T h0 (zT.ne h0 hw (by simp [zRA])), hX.T h1 (zT.ne h1 hw (by simp)), fun i hi => ?_⟩
  obtain ⟨x, hx, hx2⟩ := h2 i hi
  refine ⟨x, hx, hx2.mono hX ⟨c, S, hw⟩ ?_⟩
  obtain ⟨_, _, _, _, _, _, _, _, hx3, -⟩ := hx2
  refine zT.ne hx3 hw (fun e => hc ?_)
  simp only [Sum.inr.injEq, Prod.mk.injEq] at e
  exact e.1.symm
/-- a cell that is new is no cell of before -/
theorem zX.new {q : Nat} (hX : ∀ w, zX w L σ φ ρ L1 σ1 φ1 ρ1) (hq : q ∉ L) {b : Nat} {e : va_E} (hb : zT L σ b e) : zT L1 σ1 b e ∧ b ≠ q := ⟨(hX q).T hb (fun h => hq (h ▸ hb.1)), fun h => hq (h ▸ hb.1)⟩
theorem zLand.new (h : zLand cy L σ a) (hX : ∀ w, zX w L σ φ ρ L1 σ1 φ1 ρ1) : zLand cy L1 σ1 a := by
  obtain ⟨a0, a1, a2, a3, a4, a5, a6, a7, h, h0, h1, h2, h3, h4, h5, h6, h7⟩ := h
  have t : ∀ b e, zT L σ b e → zT L1 σ1 b e := fun b e hb => (hX (b + 1)).T hb (Nat.ne_of_lt (Nat.lt_succ_self b))
  exact ⟨a0, a1, a2, a3, a4, a5, a6, a7, t _ _ h, t _ _ h0, t _ _ h1, t _ _ h2, t _ _ h3, t _ _ h4, t _ _ h5, t _ _ h6, t _ _ h7⟩
theorem zX.all (hX : ∀ w, zX w L σ φ ρ L1 σ1 φ1 ρ1) {b : Nat} {e : va_E} (hb : zT L σ b e) : zT L1 σ1 b e := (hX (b + 1)).T hb (Nat.ne_of_lt (Nat.lt_succ_self b))
theorem zWorld.new (h : zWorld cy L σ a) (hX : ∀ w, zX w L σ φ ρ L1 σ1 φ1 ρ1) : zWorld cy L1 σ1 a := by
  obtain ⟨a0, a1, a2, a3, a4, a5, a6, a7, h, h0, h1, h2, h3, h4, h5, h6, h7⟩ := h
  exact ⟨a0, a1, a2, a3, a4, a5, a6, a7, zX.all hX h, zX.all hX h0, zX.all hX h1, zX.all hX h2, zX.all hX h3, zX.all hX h4, zX.all hX h5, zX.all hX h6, zX.all hX h7⟩
theorem zLists.new (h : zLists cy L σ a) (hX : ∀ w, zX w L σ φ ρ L1 σ1 φ1 ρ1) : zLists cy L1 σ1 a := by
  obtain ⟨a0, a1, a2, a3, a4, a5, a6, a7, h, h0, h1, h2, h3, h4, h5, h6, h7⟩ := h
  exact ⟨a0, a1, a2, a3, a4, a5, a6, a7, zX.all hX h, zX.all hX h0, zX.all hX h1, zX.all hX h2, zX.all hX h3, zX.all hX h4, zX.all hX h5, zX.all hX h6, zX.all hX h7⟩
theorem zSteps.new {g : Nat → Option Nat} (h : zSteps cy L σ a g) (hX : ∀ w, zX w L σ φ ρ L1 σ1 φ1 ρ1) : zSteps cy L1 σ1 a g := by
  obtain ⟨a0, a1, h, h0, h1, h2⟩ := h
  refine ⟨a0, a1, zX.all hX h, zX.all hX h0, zX.all hX h1, fun i hi => ?_⟩
  obtain ⟨x, hx, hx2⟩ := h2 i hi
  exact ⟨x, hx, hx2.new hX⟩
theorem zWorld.monoR (h : zWorld cy L σ a) (hX : zX w L σ φ ρ L1 σ1 φ1 ρ1) (hw : ∃ c m g, zT L σ w (zRA c m g)) : zWorld cy L1 σ1 a := by
  obtain ⟨c, m, g, hw⟩ := hw
  obtain ⟨a0, a1, a2, a3, a4, a5, a6, a7, h, h0, h1, h2, h3, h4, h5, h6, h7⟩ := h
  exact ⟨a0, a1, a2, a3, a4, a5, a6, a7, hX.T h (zT.ne h hw (by simp [zRA])), hX.T h0 (zT.ne h0 hw (by simp [zRA])), hX.T h1 (zT.ne h1 hw (by simp [zRA])), hX.T h2 (zT.ne h2 hw (by simp [zRA])), hX.T h3 (zT.ne h3 hw (by simp [zRA])), hX.T h4 (zT.ne h4 hw (by simp [zRA])), hX.T h5 (zT.ne h5 hw (by simp [zRA])), hX.T h6 (zT.ne h6 hw (by simp [zRA])), hX.T h7 (zT.ne h7 hw (by simp [zRA]))⟩
theorem zX.up {e : va_E} : zX w L σ φ ρ L (va_up σ w e) φ ρ := ⟨fun _ h => h, fun b hb hw => ⟨va_up_ne _ _ hw, fun _ _ => rfl, rfl⟩⟩
/-- a row of WORLDS, the first i of them made, each at HOUR 0 -/
def zWs (cy : Nat → ClassId) (L : List Nat) (σ : Nat → va_E) (φ : Nat → Nat → Nat → Int32) (g : Nat → Option Nat) (i : Nat) : Prop := ∀ j, j < i → ∃ x, g j = some x ∧ zWorld cy L σ x ∧ φ 10 9 x = 0
theorem zWs.next {g : Nat → Option Nat} {i q ar N0 : Nat} {L2 : List Nat} {σ2 : Nat → va_E} {φ2 : Nat → Nat → Nat → Int32} {ρ2 : Nat → Nat → Int32} {S : List Value} (h : zWs cy L σ φ g i) (hn : q ∉ L) (hX : ∀ w, zX w L σ φ ρ L1 σ1 φ1 ρ1) (hq : zT L1 σ1 q (.inr (10, S))) (hX2 : zX q L1 σ1 φ1 ρ1 L2 σ2 φ2 ρ2) (hW : zWorld cy L2 σ2 q) (h0 : φ2 10 9 q = 0) (har : zT L2 σ2 ar (zRA (cy 4) N0 g)) : zWs cy L2 (va_up σ2 ar (zRA (cy 4) N0 (va_up g i (some q)))) φ2 (va_up g i (some q)) (i + 1) := by
  intro j hj
  by_cases hji : j = i
  · subst hji
    exact ⟨q, va_up_self _ _ _, hW.monoR (φ := φ2) (ρ := ρ2) (φ1 := φ2) (ρ1 := ρ2) zX.up ⟨_, _, _, har⟩, h0⟩
  · obtain ⟨x, x1, x2, x3⟩ := h j (by omega)
    have hxL : x ∈ L := by obtain ⟨_, _, _, _, _, _, _, _, hx, -⟩ := x2; exact hx.1
    have hxq : x ≠ q := fun e => hn (e ▸ hxL)
    have hx1 := (x2.new hX).mono hX2 ⟨_, _, hq⟩ hxq
    refine ⟨x, by rw [va_up_ne _ _ hji]; exact x1, hx1.monoR (φ := φ2) (ρ := ρ2) (φ1 := φ2) (ρ1 := ρ2) zX.up ⟨_, _, _, har⟩, ?_⟩
    rw [(hX2.2 x ((hX q).1 x hxL) hxq).2.1, ((hX q).2 x hxL hxq).2.1, x3]
def zTape (cy : Nat → ClassId) (L : List Nat) (σ : Nat → va_E) (a : Nat) : Prop := ∃ a0 a1 a2 a3 : Nat, zT L σ a (.inr (6, [.int 0, .int 0, .ref a0, .ref a1, .ref a2, .ref a3])) ∧ zT L σ a0 (zIA cy 301) ∧ zT L σ a1 (zIA cy 301) ∧ zT L σ a2 (zIA cy 301) ∧ zT L σ a3 (zIA cy 300) ∧ a0 ≠ a1 ∧ a0 ≠ a2
def zReader (L : List Nat) (σ : Nat → va_E) (a t : Nat) : Prop := zT L σ a (.inr (3, [.int 0, .int 0, .ref t, .null, .int 0, .int 0, .int 0]))
def zWeather (cy : Nat → ClassId) (L : List Nat) (σ : Nat → va_E) (a s : Nat) : Prop := ∃ a0 a1 a2 a3 : Nat, zT L σ a (.inr (9, [.int 0, .ref a0, .ref a1, .int 0, .ref s, .ref a2, .ref a3, .null, .int 0, .int 0])) ∧ zT L σ a0 (zIA cy 8) ∧ zT L σ a1 (zIA cy 6) ∧ zT L σ a2 (zIA cy 96) ∧ zT L σ a3 (zIA cy 300)
def zWays (cy : Nat → ClassId) (L : List Nat) (σ : Nat → va_E) (a s : Nat) : Prop := ∃ a0 a1 : Nat, zT L σ a (.inr (8, [.ref a0, .ref a1, .ref s])) ∧ zT L σ a0 (zIA cy 6) ∧ zT L σ a1 (zIA cy 6)
def zPlanner (cy : Nat → ClassId) (L : List Nat) (σ : Nat → va_E) (a s t : Nat) : Prop := ∃ (a0 a1 a2 a3 a4 a5 a6 : Nat) (g : Nat → Option Nat), zT L σ a (.inr (2, [.int 0, .ref a0, .ref s, .ref t, .ref a1, .ref a2, .ref a3, .ref a4, .ref a5, .ref a6])) ∧ zT L σ a0 (zIA cy 5) ∧ zT L σ a1 (zRA (cy 4) 6 g) ∧ zT L σ a2 (zIA cy 5) ∧ zT L σ a3 (zIA cy 6) ∧ zT L σ a4 (zIA cy 8) ∧ zT L σ a5 (zIA cy 48) ∧ zT L σ a6 (zIA cy 64) ∧ ∀ i, i < 6 → ∃ w, g i = some w ∧ zWorld cy L σ w
end ZD
section ZQ
variable {E : zCx} {l0 : Launch} {D0 : va_G} {cy0 : Nat → ClassId} {own : String} {cc : ByteArray} {nL : Nat} {R0 : Room} {k n : Nat} {L : List Nat} {σ : Nat → va_E} {φ : Nat → Nat → Nat → Int32} {ρ : Nat → Nat → Int32} {pc : Nat} {lv : List (Nat × Value)} {st : List Value}
variable {w ci index index2 N j0 : Nat} {S : List Value} {C C2 : String} {T : u_T}
theorem x_nq {t0 : Nat} {fty : FieldType} {ty0 : Nat → FieldType} {v : Int32} {N0 : Nat} (hE : zOk E l0 D0 cy0 own cc nL R0) (hI : zIn E) (hw : zT L σ w (.inr (ci, S))) (hc : vwCl[ci]? = some (C, T, N)) (hin : ∀ w ∈ u_ws C T N, w ∈ gtbl) (hty0 : ∀ k, k < N → parseFieldDescriptor (T k).2.2.1 = some (ty0 k)) (hnm : ∀ a, a < N → ∀ b, b < N → a ≠ b → (T a).2.1 ≠ (T b).2.1) (hj : j0 < N) (hq : Cond.fieldLink own index (T j0).1 (T j0).2.1 (T j0).2.2.1 ∈ gtbl) (hfin : (T j0).2.2.2 = true) (how : (T j0).1 = own) (hS : S[j0]? = some .null) (hdsc : parseFieldDescriptor (T j0).2.2.1 = some fty) (hfit : ∀ b, narrow fty (.ref b) = .ref b ∧ fits fty (.ref b) = true)
    (hq2 : Cond.classLink own index2 C2 ∈ gtbl) (ht : (zcy cy0)[t0]? = some (cy0 t0, .object C2)) (hC : C2 = "OwnRain$Text" ∨ C2 = "OwnRain$World") (hn : ¬ v < 0) (hN : v.toNatClampNeg = N0) (hby : N0 * 4 ≤ 536870912) (hk1 : k + 1 ≤ R0.cells) (hk2 : n + N0 ≤ R0.slots) (hd1 : decode cc pc = .ok (.anewarray index2, 3)) (hd2 : decode cc (pc + 3) = .ok (.putfield index, 3))
    (kk : ∀ (q : Nat) (L1 : List Nat) (σ1 : Nat → va_E) (φ1 : Nat → Nat → Nat → Int32) (ρ1 : Nat → Nat → Int32), q ∉ L → zX w L σ φ ρ L1 σ1 φ1 ρ1 → zT L1 σ1 w (.inr (ci, S.set j0 (.ref q))) → (∀ c i, φ1 c i w = φ c i w) → zT L1 σ1 q (zRA (cy0 t0) N0 (fun _ => none)) → zW E (k + 1) (n + N0) L1 σ1 φ1 ρ1 (pc + 6) lv st) : zW E k n L σ φ ρ pc lv (.int v :: .ref w :: st) := by
  refine h_newq hE hq2 ht hC hn hN hby hk1 hk2 hd1 (fun q L1 σ1 φ1 ρ1 hqL hX hT => ?_)
  have hne : w ≠ q := fun h => hqL (h ▸ hw.1)
  have hw1 := (hX q).T hw hne
  refine h_putr hE (Or.inl ⟨hI, hfin, how⟩) hw1 hc hin hty0 hnm hj hq ⟨_, hS, Or.inl rfl⟩ hdsc (hfit q).1 (hfit q).2 hd2 (kk q L1 _ φ1 ρ1 hqL ((hX w).tr (zX.put (b := q) hw1)) ⟨hw1.1, va_up_self _ _ _⟩ (fun c i => ((hX q).2 w hw.1 hne).2.1 c i) ⟨hT.1, (va_up_ne _ _ hne.symm).trans hT.2⟩)
end ZQ
end
section
theorem pn_X0_init : (parseMethodDescriptor yX0_init.desc).map (fun d => d.parameters.length) = some 0 := by decide +kernel
theorem pn_X0_hasField : (parseMethodDescriptor yX0_hasField.desc).map (fun d => d.parameters.length) = some 1 := by decide +kernel
theorem pn_X0_hasPerson : (parseMethodDescriptor yX0_hasPerson.desc).map (fun d => d.parameters.length) = some 1 := by decide +kernel
theorem pn_X0_hasRoad : (parseMethodDescriptor yX0_hasRoad.desc).map (fun d => d.parameters.length) = some 2 := by decide +kernel
theorem pn_X0_addField : (parseMethodDescriptor yX0_addField.desc).map (fun d => d.parameters.length) = some 3 := by decide +kernel
theorem pn_X0_addRoad : (parseMethodDescriptor yX0_addRoad.desc).map (fun d => d.parameters.length) = some 2 := by decide +kernel
theorem pn_X0_addPerson : (parseMethodDescriptor yX0_addPerson.desc).map (fun d => d.parameters.length) = some 4 := by decide +kernel
theorem pn_X0_copyFrom : (parseMethodDescriptor yX0_copyFrom.desc).map (fun d => d.parameters.length) = some 1 := by decide +kernel
theorem pn_X1_init : (parseMethodDescriptor yX1_init.desc).map (fun d => d.parameters.length) = some 0 := by decide +kernel
theorem pn_X1_addMissing : (parseMethodDescriptor yX1_addMissing.desc).map (fun d => d.parameters.length) = some 3 := by decide +kernel
theorem pn_X1_addForecast : (parseMethodDescriptor yX1_addForecast.desc).map (fun d => d.parameters.length) = some 2 := by decide +kernel
theorem pn_X1_addOffer : (parseMethodDescriptor yX1_addOffer.desc).map (fun d => d.parameters.length) = some 3 := by decide +kernel
theorem pn_X1_misses : (parseMethodDescriptor yX1_misses.desc).map (fun d => d.parameters.length) = some 1 := by decide +kernel
theorem pn_X1_falseAlarms : (parseMethodDescriptor yX1_falseAlarms.desc).map (fun d => d.parameters.length) = some 1 := by decide +kernel
theorem pn_X1_traded : (parseMethodDescriptor yX1_traded.desc).map (fun d => d.parameters.length) = some 1 := by decide +kernel
theorem pn_X1_copyFrom : (parseMethodDescriptor yX1_copyFrom.desc).map (fun d => d.parameters.length) = some 1 := by decide +kernel
theorem pn_X2_init : (parseMethodDescriptor yX2_init.desc).map (fun d => d.parameters.length) = some 2 := by decide +kernel
theorem pn_X2_freshWorld : (parseMethodDescriptor yX2_freshWorld.desc).map (fun d => d.parameters.length) = some 0 := by decide +kernel
theorem pn_X2_foretell : (parseMethodDescriptor yX2_foretell.desc).map (fun d => d.parameters.length) = some 1 := by decide +kernel
theorem pn_X2_firstRain : (parseMethodDescriptor yX2_firstRain.desc).map (fun d => d.parameters.length) = some 2 := by decide +kernel
theorem pn_X2_planWork : (parseMethodDescriptor yX2_planWork.desc).map (fun d => d.parameters.length) = some 2 := by decide +kernel
theorem pn_X2_tryWork : (parseMethodDescriptor yX2_tryWork.desc).map (fun d => d.parameters.length) = some 5 := by decide +kernel
theorem pn_X2_harmlessTax : (parseMethodDescriptor yX2_harmlessTax.desc).map (fun d => d.parameters.length) = some 1 := by decide +kernel
theorem pn_X2_growsAsMuch : (parseMethodDescriptor yX2_growsAsMuch.desc).map (fun d => d.parameters.length) = some 1 := by decide +kernel
theorem pn_X2_assign : (parseMethodDescriptor yX2_assign.desc).map (fun d => d.parameters.length) = some 2 := by decide +kernel
theorem pn_X2_sweatAt : (parseMethodDescriptor yX2_sweatAt.desc).map (fun d => d.parameters.length) = some 2 := by decide +kernel
theorem pn_X2_mostBeyond : (parseMethodDescriptor yX2_mostBeyond.desc).map (fun d => d.parameters.length) = some 3 := by decide +kernel
theorem pn_X2_nextOf : (parseMethodDescriptor yX2_nextOf.desc).map (fun d => d.parameters.length) = some 2 := by decide +kernel
theorem pn_X2_lowestPlace : (parseMethodDescriptor yX2_lowestPlace.desc).map (fun d => d.parameters.length) = some 3 := by decide +kernel
theorem pn_X3_init : (parseMethodDescriptor yX3_init.desc).map (fun d => d.parameters.length) = some 1 := by decide +kernel
theorem pn_X3_readTape : (parseMethodDescriptor yX3_readTape.desc).map (fun d => d.parameters.length) = some 0 := by decide +kernel
theorem pn_X3_advance : (parseMethodDescriptor yX3_advance.desc).map (fun d => d.parameters.length) = some 0 := by decide +kernel
theorem pn_X3_fail : (parseMethodDescriptor yX3_fail.desc).map (fun d => d.parameters.length) = some 1 := by decide +kernel
theorem pn_X3_readClause : (parseMethodDescriptor yX3_readClause.desc).map (fun d => d.parameters.length) = some 1 := by decide +kernel
theorem pn_X3_readLaw : (parseMethodDescriptor yX3_readLaw.desc).map (fun d => d.parameters.length) = some 1 := by decide +kernel
theorem pn_X3_readParts : (parseMethodDescriptor yX3_readParts.desc).map (fun d => d.parameters.length) = some 2 := by decide +kernel
theorem pn_X3_expect : (parseMethodDescriptor yX3_expect.desc).map (fun d => d.parameters.length) = some 1 := by decide +kernel
theorem pn_X3_expectNumber : (parseMethodDescriptor yX3_expectNumber.desc).map (fun d => d.parameters.length) = some 2 := by decide +kernel
theorem pn_X3_readEither : (parseMethodDescriptor yX3_readEither.desc).map (fun d => d.parameters.length) = some 1 := by decide +kernel
theorem pn_X3_readBoth : (parseMethodDescriptor yX3_readBoth.desc).map (fun d => d.parameters.length) = some 1 := by decide +kernel
theorem pn_X3_readAsk : (parseMethodDescriptor yX3_readAsk.desc).map (fun d => d.parameters.length) = some 1 := by decide +kernel
theorem pn_X3_readSum : (parseMethodDescriptor yX3_readSum.desc).map (fun d => d.parameters.length) = some 2 := by decide +kernel
theorem pn_X3_readProduct : (parseMethodDescriptor yX3_readProduct.desc).map (fun d => d.parameters.length) = some 2 := by decide +kernel
theorem pn_X3_readOne : (parseMethodDescriptor yX3_readOne.desc).map (fun d => d.parameters.length) = some 2 := by decide +kernel
theorem pn_X3_readGroup : (parseMethodDescriptor yX3_readGroup.desc).map (fun d => d.parameters.length) = some 1 := by decide +kernel
theorem pn_X3_readName : (parseMethodDescriptor yX3_readName.desc).map (fun d => d.parameters.length) = some 1 := by decide +kernel
theorem pn_X3_opens : (parseMethodDescriptor yX3_opens.desc).map (fun d => d.parameters.length) = some 1 := by decide +kernel
theorem pn_X3_isName : (parseMethodDescriptor yX3_isName.desc).map (fun d => d.parameters.length) = some 1 := by decide +kernel
theorem pn_X3_isOwnName : (parseMethodDescriptor yX3_isOwnName.desc).map (fun d => d.parameters.length) = some 1 := by decide +kernel
theorem pn_X4_init : (parseMethodDescriptor yX4_init.desc).map (fun d => d.parameters.length) = some 0 := by decide +kernel
theorem pn_X4_hasText : (parseMethodDescriptor yX4_hasText.desc).map (fun d => d.parameters.length) = some 1 := by decide +kernel
theorem pn_X4_addText : (parseMethodDescriptor yX4_addText.desc).map (fun d => d.parameters.length) = some 1 := by decide +kernel
theorem pn_X4_rules : (parseMethodDescriptor yX4_rules.desc).map (fun d => d.parameters.length) = some 0 := by decide +kernel
theorem pn_X4_canGo : (parseMethodDescriptor yX4_canGo.desc).map (fun d => d.parameters.length) = some 2 := by decide +kernel
theorem pn_X4_canMeet : (parseMethodDescriptor yX4_canMeet.desc).map (fun d => d.parameters.length) = some 2 := by decide +kernel
theorem pn_X4_canTake : (parseMethodDescriptor yX4_canTake.desc).map (fun d => d.parameters.length) = some 3 := by decide +kernel
theorem pn_X4_keepStep : (parseMethodDescriptor yX4_keepStep.desc).map (fun d => d.parameters.length) = some 0 := by decide +kernel
theorem pn_X4_takeBack : (parseMethodDescriptor yX4_takeBack.desc).map (fun d => d.parameters.length) = some 0 := by decide +kernel
theorem pn_X4_copyFrom : (parseMethodDescriptor yX4_copyFrom.desc).map (fun d => d.parameters.length) = some 1 := by decide +kernel
theorem pn_X5_init : (parseMethodDescriptor yX5_init.desc).map (fun d => d.parameters.length) = some 0 := by decide +kernel
theorem pn_X5_keep : (parseMethodDescriptor yX5_keep.desc).map (fun d => d.parameters.length) = some 2 := by decide +kernel
theorem pn_X5_takeBack : (parseMethodDescriptor yX5_takeBack.desc).map (fun d => d.parameters.length) = some 1 := by decide +kernel
theorem pn_X5_copyFrom : (parseMethodDescriptor yX5_copyFrom.desc).map (fun d => d.parameters.length) = some 1 := by decide +kernel
theorem pn_X6_init : (parseMethodDescriptor yX6_init.desc).map (fun d => d.parameters.length) = some 0 := by decide +kernel
theorem pn_X6_append : (parseMethodDescriptor yX6_append.desc).map (fun d => d.parameters.length) = some 1 := by decide +kernel
theorem pn_X6_findTokens : (parseMethodDescriptor yX6_findTokens.desc).map (fun d => d.parameters.length) = some 0 := by decide +kernel
theorem pn_X6_addToken : (parseMethodDescriptor yX6_addToken.desc).map (fun d => d.parameters.length) = some 2 := by decide +kernel
theorem pn_X6_addWord : (parseMethodDescriptor yX6_addWord.desc).map (fun d => d.parameters.length) = some 1 := by decide +kernel
theorem pn_X6_addNumber : (parseMethodDescriptor yX6_addNumber.desc).map (fun d => d.parameters.length) = some 1 := by decide +kernel
theorem pn_X6_addSign : (parseMethodDescriptor yX6_addSign.desc).map (fun d => d.parameters.length) = some 1 := by decide +kernel
theorem pn_X6_wordOf : (parseMethodDescriptor yX6_wordOf.desc).map (fun d => d.parameters.length) = some 2 := by decide +kernel
theorem pn_X6_isLetter : (parseMethodDescriptor yX6_isLetter.desc).map (fun d => d.parameters.length) = some 1 := by decide +kernel
theorem pn_X6_isDigit : (parseMethodDescriptor yX6_isDigit.desc).map (fun d => d.parameters.length) = some 1 := by decide +kernel
theorem pn_X7_init : (parseMethodDescriptor yX7_init.desc).map (fun d => d.parameters.length) = some 0 := by decide +kernel
theorem pn_X7_hasLaw : (parseMethodDescriptor yX7_hasLaw.desc).map (fun d => d.parameters.length) = some 1 := by decide +kernel
theorem pn_X7_write : (parseMethodDescriptor yX7_write.desc).map (fun d => d.parameters.length) = some 2 := by decide +kernel
theorem pn_X8_init : (parseMethodDescriptor yX8_init.desc).map (fun d => d.parameters.length) = some 1 := by decide +kernel
theorem pn_X8_measure : (parseMethodDescriptor yX8_measure.desc).map (fun d => d.parameters.length) = some 2 := by decide +kernel
theorem pn_X8_nextField : (parseMethodDescriptor yX8_nextField.desc).map (fun d => d.parameters.length) = some 3 := by decide +kernel
theorem pn_X8_comeTo : (parseMethodDescriptor yX8_comeTo.desc).map (fun d => d.parameters.length) = some 3 := by decide +kernel
theorem pn_X8_width : (parseMethodDescriptor yX8_width.desc).map (fun d => d.parameters.length) = some 2 := by decide +kernel
theorem pn_X8_widen : (parseMethodDescriptor yX8_widen.desc).map (fun d => d.parameters.length) = some 1 := by decide +kernel
theorem pn_X9_init : (parseMethodDescriptor yX9_init.desc).map (fun d => d.parameters.length) = some 1 := by decide +kernel
theorem pn_X9_pass : (parseMethodDescriptor yX9_pass.desc).map (fun d => d.parameters.length) = some 1 := by decide +kernel
theorem pn_X9_sweatOf : (parseMethodDescriptor yX9_sweatOf.desc).map (fun d => d.parameters.length) = some 2 := by decide +kernel
theorem pn_X9_rainFrom : (parseMethodDescriptor yX9_rainFrom.desc).map (fun d => d.parameters.length) = some 2 := by decide +kernel
theorem pn_X9_closeHour : (parseMethodDescriptor yX9_closeHour.desc).map (fun d => d.parameters.length) = some 2 := by decide +kernel
theorem pn_X9_merge : (parseMethodDescriptor yX9_merge.desc).map (fun d => d.parameters.length) = some 3 := by decide +kernel
theorem pn_X9_law : (parseMethodDescriptor yX9_law.desc).map (fun d => d.parameters.length) = some 5 := by decide +kernel
theorem pn_X9_run : (parseMethodDescriptor yX9_run.desc).map (fun d => d.parameters.length) = some 4 := by decide +kernel
theorem pn_X9_bounded : (parseMethodDescriptor yX9_bounded.desc).map (fun d => d.parameters.length) = some 1 := by decide +kernel
theorem pn_X9_joined : (parseMethodDescriptor yX9_joined.desc).map (fun d => d.parameters.length) = some 3 := by decide +kernel
theorem pn_X9_named : (parseMethodDescriptor yX9_named.desc).map (fun d => d.parameters.length) = some 2 := by decide +kernel
theorem pn_X10_init : (parseMethodDescriptor yX10_init.desc).map (fun d => d.parameters.length) = some 0 := by decide +kernel
theorem pn_X10_copyFrom : (parseMethodDescriptor yX10_copyFrom.desc).map (fun d => d.parameters.length) = some 1 := by decide +kernel
theorem pn_X10_settle : (parseMethodDescriptor yX10_settle.desc).map (fun d => d.parameters.length) = some 3 := by decide +kernel
theorem pn_X10_take : (parseMethodDescriptor yX10_take.desc).map (fun d => d.parameters.length) = some 3 := by decide +kernel
theorem pn_X10_drawAnew : (parseMethodDescriptor yX10_drawAnew.desc).map (fun d => d.parameters.length) = some 0 := by decide +kernel
theorem pn_X10_peopleOn : (parseMethodDescriptor yX10_peopleOn.desc).map (fun d => d.parameters.length) = some 2 := by decide +kernel
theorem pn_X10_writeRain : (parseMethodDescriptor yX10_writeRain.desc).map (fun d => d.parameters.length) = some 3 := by decide +kernel
theorem pn_X10_rain : (parseMethodDescriptor yX10_rain.desc).map (fun d => d.parameters.length) = some 1 := by decide +kernel
theorem pn_X10_rainDrops : (parseMethodDescriptor yX10_rainDrops.desc).map (fun d => d.parameters.length) = some 1 := by decide +kernel
theorem pn_X10_rainField : (parseMethodDescriptor yX10_rainField.desc).map (fun d => d.parameters.length) = some 1 := by decide +kernel
theorem pn_X10_rainPerson : (parseMethodDescriptor yX10_rainPerson.desc).map (fun d => d.parameters.length) = some 1 := by decide +kernel
theorem pn_X10_rainHour : (parseMethodDescriptor yX10_rainHour.desc).map (fun d => d.parameters.length) = some 1 := by decide +kernel
theorem pn_X10_writeWhere : (parseMethodDescriptor yX10_writeWhere.desc).map (fun d => d.parameters.length) = some 1 := by decide +kernel
theorem pn_X10_whereWas : (parseMethodDescriptor yX10_whereWas.desc).map (fun d => d.parameters.length) = some 2 := by decide +kernel
theorem pn_X11_init : (parseMethodDescriptor yX11_init.desc).map (fun d => d.parameters.length) = some 0 := by decide +kernel
theorem pn_X11_field : (parseMethodDescriptor yX11_field.desc).map (fun d => d.parameters.length) = some 3 := by decide +kernel
theorem pn_X11_road : (parseMethodDescriptor yX11_road.desc).map (fun d => d.parameters.length) = some 2 := by decide +kernel
theorem pn_X11_person : (parseMethodDescriptor yX11_person.desc).map (fun d => d.parameters.length) = some 4 := by decide +kernel
theorem pn_X11_feed : (parseMethodDescriptor yX11_feed.desc).map (fun d => d.parameters.length) = some 5 := by decide +kernel
theorem pn_X11_end : (parseMethodDescriptor yX11_end.desc).map (fun d => d.parameters.length) = some 1 := by decide +kernel
theorem pn_X11_text : (parseMethodDescriptor yX11_text.desc).map (fun d => d.parameters.length) = some 0 := by decide +kernel
theorem pn_X11_fault : (parseMethodDescriptor yX11_fault.desc).map (fun d => d.parameters.length) = some 1 := by decide +kernel
theorem pn_X11_by : (parseMethodDescriptor yX11_by.desc).map (fun d => d.parameters.length) = some 1 := by decide +kernel
theorem pn_X11_hour : (parseMethodDescriptor yX11_hour.desc).map (fun d => d.parameters.length) = some 1 := by decide +kernel
theorem pn_X11_work : (parseMethodDescriptor yX11_work.desc).map (fun d => d.parameters.length) = some 2 := by decide +kernel
theorem pn_X11_go : (parseMethodDescriptor yX11_go.desc).map (fun d => d.parameters.length) = some 2 := by decide +kernel
theorem pn_X11_shake : (parseMethodDescriptor yX11_shake.desc).map (fun d => d.parameters.length) = some 2 := by decide +kernel
theorem pn_X11_steal : (parseMethodDescriptor yX11_steal.desc).map (fun d => d.parameters.length) = some 3 := by decide +kernel
theorem pn_X11_pour : (parseMethodDescriptor yX11_pour.desc).map (fun d => d.parameters.length) = some 2 := by decide +kernel
theorem pn_X11_played : (parseMethodDescriptor yX11_played.desc).map (fun d => d.parameters.length) = some 1 := by decide +kernel
theorem pn_X11_canDo : (parseMethodDescriptor yX11_canDo.desc).map (fun d => d.parameters.length) = some 2 := by decide +kernel
theorem pn_X11_year : (parseMethodDescriptor yX11_year.desc).map (fun d => d.parameters.length) = some 2 := by decide +kernel
theorem pn_X11_draw : (parseMethodDescriptor yX11_draw.desc).map (fun d => d.parameters.length) = some 0 := by decide +kernel
theorem pn_X11_undo : (parseMethodDescriptor yX11_undo.desc).map (fun d => d.parameters.length) = some 0 := by decide +kernel
theorem pn_X11_ofField : (parseMethodDescriptor yX11_ofField.desc).map (fun d => d.parameters.length) = some 2 := by decide +kernel
theorem pn_X11_ofPerson : (parseMethodDescriptor yX11_ofPerson.desc).map (fun d => d.parameters.length) = some 2 := by decide +kernel
theorem pn_X11_rained : (parseMethodDescriptor yX11_rained.desc).map (fun d => d.parameters.length) = some 2 := by decide +kernel
theorem pn_X11_foretoldWet : (parseMethodDescriptor yX11_foretoldWet.desc).map (fun d => d.parameters.length) = some 2 := by decide +kernel
theorem pn_X11_foretoldCloud : (parseMethodDescriptor yX11_foretoldCloud.desc).map (fun d => d.parameters.length) = some 3 := by decide +kernel
theorem pn_X11_plan : (parseMethodDescriptor yX11_plan.desc).map (fun d => d.parameters.length) = some 3 := by decide +kernel
theorem pn_X11_match : (parseMethodDescriptor yX11_match.desc).map (fun d => d.parameters.length) = some 3 := by decide +kernel
theorem pn_X11_shares : (parseMethodDescriptor yX11_shares.desc).map (fun d => d.parameters.length) = some 3 := by decide +kernel
theorem pn_X11_cross : (parseMethodDescriptor yX11_cross.desc).map (fun d => d.parameters.length) = some 4 := by decide +kernel
theorem pn_X11_widest : (parseMethodDescriptor yX11_widest.desc).map (fun d => d.parameters.length) = some 2 := by decide +kernel
theorem pn_X11_missing : (parseMethodDescriptor yX11_missing.desc).map (fun d => d.parameters.length) = some 3 := by decide +kernel
theorem pn_X11_near : (parseMethodDescriptor yX11_near.desc).map (fun d => d.parameters.length) = some 1 := by decide +kernel
theorem pn_X11_nearOnes : (parseMethodDescriptor yX11_nearOnes.desc).map (fun d => d.parameters.length) = some 1 := by decide +kernel
theorem pn_X11_thieves : (parseMethodDescriptor yX11_thieves.desc).map (fun d => d.parameters.length) = some 0 := by decide +kernel
theorem pn_X11_filling : (parseMethodDescriptor yX11_filling.desc).map (fun d => d.parameters.length) = some 6 := by decide +kernel
theorem pn_X11_hotHours : (parseMethodDescriptor yX11_hotHours.desc).map (fun d => d.parameters.length) = some 2 := by decide +kernel
theorem pn_X11_commonDivisor : (parseMethodDescriptor yX11_commonDivisor.desc).map (fun d => d.parameters.length) = some 2 := by decide +kernel
theorem pn_X11_forecast : (parseMethodDescriptor yX11_forecast.desc).map (fun d => d.parameters.length) = some 2 := by decide +kernel
theorem pn_X11_errors : (parseMethodDescriptor yX11_errors.desc).map (fun d => d.parameters.length) = some 2 := by decide +kernel
theorem pn_X11_bound : (parseMethodDescriptor yX11_bound.desc).map (fun d => d.parameters.length) = some 0 := by decide +kernel
theorem pn_X11_offer : (parseMethodDescriptor yX11_offer.desc).map (fun d => d.parameters.length) = some 3 := by decide +kernel
theorem pn_X11_market : (parseMethodDescriptor yX11_market.desc).map (fun d => d.parameters.length) = some 1 := by decide +kernel
theorem pn_X11_greatestTax : (parseMethodDescriptor yX11_greatestTax.desc).map (fun d => d.parameters.length) = some 1 := by decide +kernel
theorem pn_X11_water : (parseMethodDescriptor yX11_water.desc).map (fun d => d.parameters.length) = some 0 := by decide +kernel
theorem pn_X11_image : (parseMethodDescriptor yX11_image.desc).map (fun d => d.parameters.length) = some 0 := by decide +kernel
theorem pn_X11_back : (parseMethodDescriptor yX11_back.desc).map (fun d => d.parameters.length) = some 0 := by decide +kernel
theorem pn_X11_about : (parseMethodDescriptor yX11_about.desc).map (fun d => d.parameters.length) = some 1 := by decide +kernel
theorem pn_X11_isWithin : (parseMethodDescriptor yX11_isWithin.desc).map (fun d => d.parameters.length) = some 3 := by decide +kernel
theorem pn_X11_bring : (parseMethodDescriptor yX11_bring.desc).map (fun d => d.parameters.length) = some 3 := by decide +kernel
theorem pn_X11_isSet : (parseMethodDescriptor yX11_isSet.desc).map (fun d => d.parameters.length) = some 2 := by decide +kernel
theorem pn_X11_isOf : (parseMethodDescriptor yX11_isOf.desc).map (fun d => d.parameters.length) = some 2 := by decide +kernel
theorem pn_X12_init : (parseMethodDescriptor yX12_init.desc).map (fun d => d.parameters.length) = some 0 := by decide +kernel
theorem pn_X12_copy : (parseMethodDescriptor yX12_copy.desc).map (fun d => d.parameters.length) = some 2 := by decide +kernel
theorem pn_X12_isIn : (parseMethodDescriptor yX12_isIn.desc).map (fun d => d.parameters.length) = some 3 := by decide +kernel
theorem pn_X12_has : (parseMethodDescriptor yX12_has.desc).map (fun d => d.parameters.length) = some 2 := by decide +kernel
theorem pn_X12_bits : (parseMethodDescriptor yX12_bits.desc).map (fun d => d.parameters.length) = some 1 := by decide +kernel
theorem pn_X12_isField : (parseMethodDescriptor yX12_isField.desc).map (fun d => d.parameters.length) = some 1 := by decide +kernel
theorem pn_X12_isPerson : (parseMethodDescriptor yX12_isPerson.desc).map (fun d => d.parameters.length) = some 1 := by decide +kernel
theorem pn_X12_fieldOf : (parseMethodDescriptor yX12_fieldOf.desc).map (fun d => d.parameters.length) = some 2 := by decide +kernel
theorem pn_X12_get : (parseMethodDescriptor yX12_get.desc).map (fun d => d.parameters.length) = some 2 := by decide +kernel
theorem pn_X12_set : (parseMethodDescriptor yX12_set.desc).map (fun d => d.parameters.length) = some 3 := by decide +kernel
theorem pn_X12_addTo : (parseMethodDescriptor yX12_addTo.desc).map (fun d => d.parameters.length) = some 2 := by decide +kernel
theorem pn_X12_wet : (parseMethodDescriptor yX12_wet.desc).map (fun d => d.parameters.length) = some 2 := by decide +kernel
theorem pn_X12_field : (parseMethodDescriptor yX12_field.desc).map (fun d => d.parameters.length) = some 3 := by decide +kernel
theorem pn_X12_road : (parseMethodDescriptor yX12_road.desc).map (fun d => d.parameters.length) = some 2 := by decide +kernel
theorem pn_X12_person : (parseMethodDescriptor yX12_person.desc).map (fun d => d.parameters.length) = some 4 := by decide +kernel
theorem pn_X12_four : (parseMethodDescriptor yX12_four.desc).map (fun d => d.parameters.length) = some 1 := by decide +kernel
theorem pn_X12_feed : (parseMethodDescriptor yX12_feed.desc).map (fun d => d.parameters.length) = some 5 := by decide +kernel
theorem pn_X12_end : (parseMethodDescriptor yX12_end.desc).map (fun d => d.parameters.length) = some 1 := by decide +kernel
theorem pn_X12_byteAt : (parseMethodDescriptor yX12_byteAt.desc).map (fun d => d.parameters.length) = some 1 := by decide +kernel
theorem pn_X12_isLetterByte : (parseMethodDescriptor yX12_isLetterByte.desc).map (fun d => d.parameters.length) = some 1 := by decide +kernel
theorem pn_X12_isFigure : (parseMethodDescriptor yX12_isFigure.desc).map (fun d => d.parameters.length) = some 1 := by decide +kernel
theorem pn_X12_isSign : (parseMethodDescriptor yX12_isSign.desc).map (fun d => d.parameters.length) = some 1 := by decide +kernel
theorem pn_X12_nextToken : (parseMethodDescriptor yX12_nextToken.desc).map (fun d => d.parameters.length) = some 0 := by decide +kernel
theorem pn_X12_w2 : (parseMethodDescriptor yX12_w2.desc).map (fun d => d.parameters.length) = some 2 := by decide +kernel
theorem pn_X12_w3 : (parseMethodDescriptor yX12_w3.desc).map (fun d => d.parameters.length) = some 3 := by decide +kernel
theorem pn_X12_w4 : (parseMethodDescriptor yX12_w4.desc).map (fun d => d.parameters.length) = some 4 := by decide +kernel
theorem pn_X12_w5 : (parseMethodDescriptor yX12_w5.desc).map (fun d => d.parameters.length) = some 5 := by decide +kernel
theorem pn_X12_w6 : (parseMethodDescriptor yX12_w6.desc).map (fun d => d.parameters.length) = some 6 := by decide +kernel
theorem pn_X12_isWord : (parseMethodDescriptor yX12_isWord.desc).map (fun d => d.parameters.length) = some 1 := by decide +kernel
theorem pn_X12_emit : (parseMethodDescriptor yX12_emit.desc).map (fun d => d.parameters.length) = some 2 := by decide +kernel
theorem pn_X12_nameOf : (parseMethodDescriptor yX12_nameOf.desc).map (fun d => d.parameters.length) = some 0 := by decide +kernel
theorem pn_X12_isOf : (parseMethodDescriptor yX12_isOf.desc).map (fun d => d.parameters.length) = some 1 := by decide +kernel
theorem pn_X12_rank : (parseMethodDescriptor yX12_rank.desc).map (fun d => d.parameters.length) = some 1 := by decide +kernel
theorem pn_X12_settle : (parseMethodDescriptor yX12_settle.desc).map (fun d => d.parameters.length) = some 1 := by decide +kernel
theorem pn_X12_openNow : (parseMethodDescriptor yX12_openNow.desc).map (fun d => d.parameters.length) = some 0 := by decide +kernel
theorem pn_X12_isCompared : (parseMethodDescriptor yX12_isCompared.desc).map (fun d => d.parameters.length) = some 0 := by decide +kernel
theorem pn_X12_isAskAhead : (parseMethodDescriptor yX12_isAskAhead.desc).map (fun d => d.parameters.length) = some 0 := by decide +kernel
theorem pn_X12_opened : (parseMethodDescriptor yX12_opened.desc).map (fun d => d.parameters.length) = some 1 := by decide +kernel
theorem pn_X12_beginOne : (parseMethodDescriptor yX12_beginOne.desc).map (fun d => d.parameters.length) = some 0 := by decide +kernel
theorem pn_X12_compareOf : (parseMethodDescriptor yX12_compareOf.desc).map (fun d => d.parameters.length) = some 0 := by decide +kernel
theorem pn_X12_betweenOf : (parseMethodDescriptor yX12_betweenOf.desc).map (fun d => d.parameters.length) = some 0 := by decide +kernel
theorem pn_X12_shut : (parseMethodDescriptor yX12_shut.desc).map (fun d => d.parameters.length) = some 1 := by decide +kernel
theorem pn_X12_behindOne : (parseMethodDescriptor yX12_behindOne.desc).map (fun d => d.parameters.length) = some 0 := by decide +kernel
theorem pn_X12_summed : (parseMethodDescriptor yX12_summed.desc).map (fun d => d.parameters.length) = some 0 := by decide +kernel
theorem pn_X12_figure : (parseMethodDescriptor yX12_figure.desc).map (fun d => d.parameters.length) = some 3 := by decide +kernel
theorem pn_X12_worded : (parseMethodDescriptor yX12_worded.desc).map (fun d => d.parameters.length) = some 4 := by decide +kernel
theorem pn_X12_lawClause : (parseMethodDescriptor yX12_lawClause.desc).map (fun d => d.parameters.length) = some 1 := by decide +kernel
theorem pn_X12_fieldClause : (parseMethodDescriptor yX12_fieldClause.desc).map (fun d => d.parameters.length) = some 1 := by decide +kernel
theorem pn_X12_oneClause : (parseMethodDescriptor yX12_oneClause.desc).map (fun d => d.parameters.length) = some 1 := by decide +kernel
theorem pn_X12_stealClause : (parseMethodDescriptor yX12_stealClause.desc).map (fun d => d.parameters.length) = some 1 := by decide +kernel
theorem pn_X12_pair : (parseMethodDescriptor yX12_pair.desc).map (fun d => d.parameters.length) = some 5 := by decide +kernel
theorem pn_X12_body : (parseMethodDescriptor yX12_body.desc).map (fun d => d.parameters.length) = some 2 := by decide +kernel
theorem pn_X12_sortOf : (parseMethodDescriptor yX12_sortOf.desc).map (fun d => d.parameters.length) = some 0 := by decide +kernel
theorem pn_X12_clause : (parseMethodDescriptor yX12_clause.desc).map (fun d => d.parameters.length) = some 0 := by decide +kernel
theorem pn_X12_readText : (parseMethodDescriptor yX12_readText.desc).map (fun d => d.parameters.length) = some 0 := by decide +kernel
theorem pn_X12_text : (parseMethodDescriptor yX12_text.desc).map (fun d => d.parameters.length) = some 0 := by decide +kernel
theorem pn_X12_fault : (parseMethodDescriptor yX12_fault.desc).map (fun d => d.parameters.length) = some 1 := by decide +kernel
theorem pn_X12_by : (parseMethodDescriptor yX12_by.desc).map (fun d => d.parameters.length) = some 1 := by decide +kernel
theorem pn_X12_clip : (parseMethodDescriptor yX12_clip.desc).map (fun d => d.parameters.length) = some 1 := by decide +kernel
theorem pn_X12_two : (parseMethodDescriptor yX12_two.desc).map (fun d => d.parameters.length) = some 3 := by decide +kernel
theorem pn_X12_isAsked : (parseMethodDescriptor yX12_isAsked.desc).map (fun d => d.parameters.length) = some 3 := by decide +kernel
theorem pn_X12_name : (parseMethodDescriptor yX12_name.desc).map (fun d => d.parameters.length) = some 1 := by decide +kernel
theorem pn_X12_nextThere : (parseMethodDescriptor yX12_nextThere.desc).map (fun d => d.parameters.length) = some 1 := by decide +kernel
theorem pn_X12_takeNext : (parseMethodDescriptor yX12_takeNext.desc).map (fun d => d.parameters.length) = some 0 := by decide +kernel
theorem pn_X12_endEach : (parseMethodDescriptor yX12_endEach.desc).map (fun d => d.parameters.length) = some 1 := by decide +kernel
theorem pn_X12_worked : (parseMethodDescriptor yX12_worked.desc).map (fun d => d.parameters.length) = some 1 := by decide +kernel
theorem pn_X12_says : (parseMethodDescriptor yX12_says.desc).map (fun d => d.parameters.length) = some 6 := by decide +kernel
theorem pn_X12_sweatOf : (parseMethodDescriptor yX12_sweatOf.desc).map (fun d => d.parameters.length) = some 2 := by decide +kernel
theorem pn_X12_write : (parseMethodDescriptor yX12_write.desc).map (fun d => d.parameters.length) = some 2 := by decide +kernel
theorem pn_X12_rainOf : (parseMethodDescriptor yX12_rainOf.desc).map (fun d => d.parameters.length) = some 1 := by decide +kernel
theorem pn_X12_rainAll : (parseMethodDescriptor yX12_rainAll.desc).map (fun d => d.parameters.length) = some 0 := by decide +kernel
theorem pn_X12_dryAll : (parseMethodDescriptor yX12_dryAll.desc).map (fun d => d.parameters.length) = some 0 := by decide +kernel
theorem pn_X12_pass : (parseMethodDescriptor yX12_pass.desc).map (fun d => d.parameters.length) = some 0 := by decide +kernel
theorem pn_X12_keep : (parseMethodDescriptor yX12_keep.desc).map (fun d => d.parameters.length) = some 0 := by decide +kernel
theorem pn_X12_undo : (parseMethodDescriptor yX12_undo.desc).map (fun d => d.parameters.length) = some 0 := by decide +kernel
theorem pn_X12_passStep : (parseMethodDescriptor yX12_passStep.desc).map (fun d => d.parameters.length) = some 0 := by decide +kernel
theorem pn_X12_hour : (parseMethodDescriptor yX12_hour.desc).map (fun d => d.parameters.length) = some 1 := by decide +kernel
theorem pn_X12_work : (parseMethodDescriptor yX12_work.desc).map (fun d => d.parameters.length) = some 2 := by decide +kernel
theorem pn_X12_canGo : (parseMethodDescriptor yX12_canGo.desc).map (fun d => d.parameters.length) = some 2 := by decide +kernel
theorem pn_X12_go : (parseMethodDescriptor yX12_go.desc).map (fun d => d.parameters.length) = some 2 := by decide +kernel
theorem pn_X12_canShake : (parseMethodDescriptor yX12_canShake.desc).map (fun d => d.parameters.length) = some 2 := by decide +kernel
theorem pn_X12_shakeNow : (parseMethodDescriptor yX12_shakeNow.desc).map (fun d => d.parameters.length) = some 2 := by decide +kernel
theorem pn_X12_shake : (parseMethodDescriptor yX12_shake.desc).map (fun d => d.parameters.length) = some 2 := by decide +kernel
theorem pn_X12_canSteal : (parseMethodDescriptor yX12_canSteal.desc).map (fun d => d.parameters.length) = some 3 := by decide +kernel
theorem pn_X12_stealNow : (parseMethodDescriptor yX12_stealNow.desc).map (fun d => d.parameters.length) = some 3 := by decide +kernel
theorem pn_X12_steal : (parseMethodDescriptor yX12_steal.desc).map (fun d => d.parameters.length) = some 3 := by decide +kernel
theorem pn_X12_pour : (parseMethodDescriptor yX12_pour.desc).map (fun d => d.parameters.length) = some 2 := by decide +kernel
theorem pn_X12_areHours : (parseMethodDescriptor yX12_areHours.desc).map (fun d => d.parameters.length) = some 1 := by decide +kernel
theorem pn_X12_isPlayed : (parseMethodDescriptor yX12_isPlayed.desc).map (fun d => d.parameters.length) = some 1 := by decide +kernel
theorem pn_X12_played : (parseMethodDescriptor yX12_played.desc).map (fun d => d.parameters.length) = some 1 := by decide +kernel
theorem pn_X12_anew : (parseMethodDescriptor yX12_anew.desc).map (fun d => d.parameters.length) = some 1 := by decide +kernel
theorem pn_X12_happens : (parseMethodDescriptor yX12_happens.desc).map (fun d => d.parameters.length) = some 2 := by decide +kernel
theorem pn_X12_year : (parseMethodDescriptor yX12_year.desc).map (fun d => d.parameters.length) = some 2 := by decide +kernel
theorem pn_X12_peopleOn : (parseMethodDescriptor yX12_peopleOn.desc).map (fun d => d.parameters.length) = some 1 := by decide +kernel
theorem pn_X12_ofField : (parseMethodDescriptor yX12_ofField.desc).map (fun d => d.parameters.length) = some 2 := by decide +kernel
theorem pn_X12_wasAt : (parseMethodDescriptor yX12_wasAt.desc).map (fun d => d.parameters.length) = some 2 := by decide +kernel
theorem pn_X12_ofPerson : (parseMethodDescriptor yX12_ofPerson.desc).map (fun d => d.parameters.length) = some 2 := by decide +kernel
theorem pn_X12_rained : (parseMethodDescriptor yX12_rained.desc).map (fun d => d.parameters.length) = some 2 := by decide +kernel
theorem pn_X12_begin : (parseMethodDescriptor yX12_begin.desc).map (fun d => d.parameters.length) = some 0 := by decide +kernel
theorem pn_X12_putBack : (parseMethodDescriptor yX12_putBack.desc).map (fun d => d.parameters.length) = some 0 := by decide +kernel
theorem pn_X12_passOnward : (parseMethodDescriptor yX12_passOnward.desc).map (fun d => d.parameters.length) = some 0 := by decide +kernel
theorem pn_X12_foretoldWet : (parseMethodDescriptor yX12_foretoldWet.desc).map (fun d => d.parameters.length) = some 2 := by decide +kernel
theorem pn_X12_foretoldCloud : (parseMethodDescriptor yX12_foretoldCloud.desc).map (fun d => d.parameters.length) = some 3 := by decide +kernel
theorem pn_X12_sweatBy : (parseMethodDescriptor yX12_sweatBy.desc).map (fun d => d.parameters.length) = some 3 := by decide +kernel
theorem pn_X12_sweatAllFor : (parseMethodDescriptor yX12_sweatAllFor.desc).map (fun d => d.parameters.length) = some 1 := by decide +kernel
theorem pn_X12_plan : (parseMethodDescriptor yX12_plan.desc).map (fun d => d.parameters.length) = some 3 := by decide +kernel
theorem pn_X12_nextOrder : (parseMethodDescriptor yX12_nextOrder.desc).map (fun d => d.parameters.length) = some 1 := by decide +kernel
theorem pn_X12_findYields : (parseMethodDescriptor yX12_findYields.desc).map (fun d => d.parameters.length) = some 1 := by decide +kernel
theorem pn_X12_layWorkers : (parseMethodDescriptor yX12_layWorkers.desc).map (fun d => d.parameters.length) = some 2 := by decide +kernel
theorem pn_X12_match : (parseMethodDescriptor yX12_match.desc).map (fun d => d.parameters.length) = some 3 := by decide +kernel
theorem pn_X12_shares : (parseMethodDescriptor yX12_shares.desc).map (fun d => d.parameters.length) = some 3 := by decide +kernel
theorem pn_X12_canCome : (parseMethodDescriptor yX12_canCome.desc).map (fun d => d.parameters.length) = some 2 := by decide +kernel
theorem pn_X12_findRoads : (parseMethodDescriptor yX12_findRoads.desc).map (fun d => d.parameters.length) = some 2 := by decide +kernel
theorem pn_X12_nextField : (parseMethodDescriptor yX12_nextField.desc).map (fun d => d.parameters.length) = some 2 := by decide +kernel
theorem pn_X12_cross : (parseMethodDescriptor yX12_cross.desc).map (fun d => d.parameters.length) = some 4 := by decide +kernel
theorem pn_X12_widest : (parseMethodDescriptor yX12_widest.desc).map (fun d => d.parameters.length) = some 2 := by decide +kernel
theorem pn_X12_missing : (parseMethodDescriptor yX12_missing.desc).map (fun d => d.parameters.length) = some 3 := by decide +kernel
theorem pn_X12_nearOf : (parseMethodDescriptor yX12_nearOf.desc).map (fun d => d.parameters.length) = some 1 := by decide +kernel
theorem pn_X12_near : (parseMethodDescriptor yX12_near.desc).map (fun d => d.parameters.length) = some 1 := by decide +kernel
theorem pn_X12_thieves : (parseMethodDescriptor yX12_thieves.desc).map (fun d => d.parameters.length) = some 0 := by decide +kernel
theorem pn_X12_common : (parseMethodDescriptor yX12_common.desc).map (fun d => d.parameters.length) = some 2 := by decide +kernel
theorem pn_X12_filling : (parseMethodDescriptor yX12_filling.desc).map (fun d => d.parameters.length) = some 6 := by decide +kernel
theorem pn_X12_forecast : (parseMethodDescriptor yX12_forecast.desc).map (fun d => d.parameters.length) = some 2 := by decide +kernel
theorem pn_X12_errorsOf : (parseMethodDescriptor yX12_errorsOf.desc).map (fun d => d.parameters.length) = some 2 := by decide +kernel
theorem pn_X12_errors : (parseMethodDescriptor yX12_errors.desc).map (fun d => d.parameters.length) = some 2 := by decide +kernel
theorem pn_X12_bound : (parseMethodDescriptor yX12_bound.desc).map (fun d => d.parameters.length) = some 0 := by decide +kernel
theorem pn_X12_offer : (parseMethodDescriptor yX12_offer.desc).map (fun d => d.parameters.length) = some 3 := by decide +kernel
theorem pn_X12_tradedAt : (parseMethodDescriptor yX12_tradedAt.desc).map (fun d => d.parameters.length) = some 1 := by decide +kernel
theorem pn_X12_market : (parseMethodDescriptor yX12_market.desc).map (fun d => d.parameters.length) = some 1 := by decide +kernel
theorem pn_X12_greatestTax : (parseMethodDescriptor yX12_greatestTax.desc).map (fun d => d.parameters.length) = some 1 := by decide +kernel
theorem pn_X12_water : (parseMethodDescriptor yX12_water.desc).map (fun d => d.parameters.length) = some 0 := by decide +kernel
theorem pn_X12_image : (parseMethodDescriptor yX12_image.desc).map (fun d => d.parameters.length) = some 0 := by decide +kernel
theorem pn_X12_back : (parseMethodDescriptor yX12_back.desc).map (fun d => d.parameters.length) = some 0 := by decide +kernel
theorem pn_X12_about : (parseMethodDescriptor yX12_about.desc).map (fun d => d.parameters.length) = some 1 := by decide +kernel
theorem pn_J11_isValidCodePoint_9a6ad : (parseMethodDescriptor yJ11_isValidCodePoint_9a6ad.desc).map (fun d => d.parameters.length) = some 1 := by decide +kernel
theorem pn_J11_highSurrogate_5068e : (parseMethodDescriptor yJ11_highSurrogate_5068e.desc).map (fun d => d.parameters.length) = some 1 := by decide +kernel
theorem pn_J11_lowSurrogate_5068e : (parseMethodDescriptor yJ11_lowSurrogate_5068e.desc).map (fun d => d.parameters.length) = some 1 := by decide +kernel
theorem pn_J6_bitCount_0f7a4 : (parseMethodDescriptor yJ6_bitCount_0f7a4.desc).map (fun d => d.parameters.length) = some 1 := by decide +kernel
theorem pn_J9_max_7cf53 : (parseMethodDescriptor yJ9_max_7cf53.desc).map (fun d => d.parameters.length) = some 2 := by decide +kernel
theorem pn_J9_min_7cf53 : (parseMethodDescriptor yJ9_min_7cf53.desc).map (fun d => d.parameters.length) = some 2 := by decide +kernel
theorem pn_J0_length_8abf5 : (parseMethodDescriptor yJ0_length_8abf5.desc).map (fun d => d.parameters.length) = some 0 := by decide +kernel
theorem pn_J0_charAt_5068e : (parseMethodDescriptor yJ0_charAt_5068e.desc).map (fun d => d.parameters.length) = some 1 := by decide +kernel
theorem pn_J0_indexOf_0f7a4 : (parseMethodDescriptor yJ0_indexOf_0f7a4.desc).map (fun d => d.parameters.length) = some 1 := by decide +kernel
theorem pn_J0_indexOf_7cf53 : (parseMethodDescriptor yJ0_indexOf_7cf53.desc).map (fun d => d.parameters.length) = some 2 := by decide +kernel
theorem pn_J0_coder_7d493 : (parseMethodDescriptor yJ0_coder_7d493.desc).map (fun d => d.parameters.length) = some 0 := by decide +kernel
theorem pn_J0_isLatin1_aae02 : (parseMethodDescriptor yJ0_isLatin1_aae02.desc).map (fun d => d.parameters.length) = some 0 := by decide +kernel
theorem pn_J0_checkIndex_df160 : (parseMethodDescriptor yJ0_checkIndex_df160.desc).map (fun d => d.parameters.length) = some 2 := by decide +kernel
theorem pn_J0_checkBoundsBeginEnd_23922 : (parseMethodDescriptor yJ0_checkBoundsBeginEnd_23922.desc).map (fun d => d.parameters.length) = some 3 := by decide +kernel
theorem pn_J1_charAt_3b067 : (parseMethodDescriptor yJ1_charAt_3b067.desc).map (fun d => d.parameters.length) = some 2 := by decide +kernel
theorem pn_J1_canEncode_9a6ad : (parseMethodDescriptor yJ1_canEncode_9a6ad.desc).map (fun d => d.parameters.length) = some 1 := by decide +kernel
theorem pn_J1_indexOf_4cfef : (parseMethodDescriptor yJ1_indexOf_4cfef.desc).map (fun d => d.parameters.length) = some 4 := by decide +kernel
theorem pn_J1_indexOfChar_4cfef : (parseMethodDescriptor yJ1_indexOfChar_4cfef.desc).map (fun d => d.parameters.length) = some 4 := by decide +kernel
theorem pn_J2_getChar_3b067 : (parseMethodDescriptor yJ2_getChar_3b067.desc).map (fun d => d.parameters.length) = some 2 := by decide +kernel
theorem pn_J2_length_9d52b : (parseMethodDescriptor yJ2_length_9d52b.desc).map (fun d => d.parameters.length) = some 1 := by decide +kernel
theorem pn_J2_indexOf_4cfef : (parseMethodDescriptor yJ2_indexOf_4cfef.desc).map (fun d => d.parameters.length) = some 4 := by decide +kernel
theorem pn_J2_indexOfChar_4cfef : (parseMethodDescriptor yJ2_indexOfChar_4cfef.desc).map (fun d => d.parameters.length) = some 4 := by decide +kernel
theorem pn_J2_indexOfCharUnsafe_4cfef : (parseMethodDescriptor yJ2_indexOfCharUnsafe_4cfef.desc).map (fun d => d.parameters.length) = some 4 := by decide +kernel
theorem pn_J2_indexOfSupplementary_4cfef : (parseMethodDescriptor yJ2_indexOfSupplementary_4cfef.desc).map (fun d => d.parameters.length) = some 4 := by decide +kernel
theorem pn_J2_charAt_3b067 : (parseMethodDescriptor yJ2_charAt_3b067.desc).map (fun d => d.parameters.length) = some 2 := by decide +kernel
theorem pn_J2_checkIndex_2214a : (parseMethodDescriptor yJ2_checkIndex_2214a.desc).map (fun d => d.parameters.length) = some 2 := by decide +kernel
theorem pn_J2_checkBoundsBeginEnd_d044e : (parseMethodDescriptor yJ2_checkBoundsBeginEnd_d044e.desc).map (fun d => d.parameters.length) = some 3 := by decide +kernel
theorem pn_J3_checkIndex_8e157 : (parseMethodDescriptor yJ3_checkIndex_8e157.desc).map (fun d => d.parameters.length) = some 3 := by decide +kernel
theorem pn_J3_checkFromToIndex_8c36e : (parseMethodDescriptor yJ3_checkFromToIndex_8c36e.desc).map (fun d => d.parameters.length) = some 4 := by decide +kernel
end
section
theorem dX0_hasField_0 : decode cX0_hasField 0 = .ok (.iload_n 1, 1) := by decide +kernel
theorem dX0_hasField_1 : decode cX0_hasField 1 = .ok (.ifCond .lt 15, 3) := by decide +kernel
theorem dX0_hasField_4 : decode cX0_hasField 4 = .ok (.iload_n 1, 1) := by decide +kernel
theorem dX0_hasField_5 : decode cX0_hasField 5 = .ok (.aload_n 0, 1) := by decide +kernel
theorem dX0_hasField_6 : decode cX0_hasField 6 = .ok (.getfield 36, 3) := by decide +kernel
theorem dX0_hasField_9 : decode cX0_hasField 9 = .ok (.if_icmp .ge 7, 3) := by decide +kernel
theorem dX0_hasField_12 : decode cX0_hasField 12 = .ok (.iconst 1, 1) := by decide +kernel
theorem dX0_hasField_13 : decode cX0_hasField 13 = .ok (.goto 4, 3) := by decide +kernel
theorem dX0_hasField_16 : decode cX0_hasField 16 = .ok (.iconst 0, 1) := by decide +kernel
theorem dX0_hasField_17 : decode cX0_hasField 17 = .ok (.ireturn, 1) := by decide +kernel
theorem dX0_hasPerson_0 : decode cX0_hasPerson 0 = .ok (.iload_n 1, 1) := by decide +kernel
theorem dX0_hasPerson_1 : decode cX0_hasPerson 1 = .ok (.ifCond .lt 15, 3) := by decide +kernel
theorem dX0_hasPerson_4 : decode cX0_hasPerson 4 = .ok (.iload_n 1, 1) := by decide +kernel
theorem dX0_hasPerson_5 : decode cX0_hasPerson 5 = .ok (.aload_n 0, 1) := by decide +kernel
theorem dX0_hasPerson_6 : decode cX0_hasPerson 6 = .ok (.getfield 40, 3) := by decide +kernel
theorem dX0_hasPerson_9 : decode cX0_hasPerson 9 = .ok (.if_icmp .ge 7, 3) := by decide +kernel
theorem dX0_hasPerson_12 : decode cX0_hasPerson 12 = .ok (.iconst 1, 1) := by decide +kernel
theorem dX0_hasPerson_13 : decode cX0_hasPerson 13 = .ok (.goto 4, 3) := by decide +kernel
theorem dX0_hasPerson_16 : decode cX0_hasPerson 16 = .ok (.iconst 0, 1) := by decide +kernel
theorem dX0_hasPerson_17 : decode cX0_hasPerson 17 = .ok (.ireturn, 1) := by decide +kernel
theorem dX11_isWithin_0 : decode cX11_isWithin 0 = .ok (.iload_n 0, 1) := by decide +kernel
theorem dX11_isWithin_1 : decode cX11_isWithin 1 = .ok (.iload_n 1, 1) := by decide +kernel
theorem dX11_isWithin_2 : decode cX11_isWithin 2 = .ok (.if_icmp .lt 12, 3) := by decide +kernel
theorem dX11_isWithin_5 : decode cX11_isWithin 5 = .ok (.iload_n 0, 1) := by decide +kernel
theorem dX11_isWithin_6 : decode cX11_isWithin 6 = .ok (.iload_n 2, 1) := by decide +kernel
theorem dX11_isWithin_7 : decode cX11_isWithin 7 = .ok (.if_icmp .gt 7, 3) := by decide +kernel
theorem dX11_isWithin_10 : decode cX11_isWithin 10 = .ok (.iconst 1, 1) := by decide +kernel
theorem dX11_isWithin_11 : decode cX11_isWithin 11 = .ok (.goto 4, 3) := by decide +kernel
theorem dX11_isWithin_14 : decode cX11_isWithin 14 = .ok (.iconst 0, 1) := by decide +kernel
theorem dX11_isWithin_15 : decode cX11_isWithin 15 = .ok (.ireturn, 1) := by decide +kernel
set_option maxHeartbeats 4000000 in
set_option maxRecDepth 100000 in
theorem k_isWithin (l : Launch) (D : va_G) (cy : Nat → ClassId) (L : List Nat) (σ : Nat → va_E) (φ : Nat → Nat → Nat → Int32) (ρ : Nat → Nat → Int32) (v a b : Int32) : zMI l D cy yX11_isWithin cX11_isWithin 3 .boolean (zrm 0 0 0) [.int v, .int a, .int b] L σ φ ρ (zpu L σ φ ρ (fun r => r = zb (a ≤ v ∧ v ≤ b))) := by
  refine zMI.mk (by decide) (Nat.le_of_ble_eq_true rfl) (fun E hE hret => ?_)
  show zW E 0 0 L σ φ ρ 0 [(0, .int v), (1, .int a), (2, .int b)] []
  refine x_iload_n hE dX11_isWithin_0 rfl 0 rfl ?_
  refine x_iload_n hE dX11_isWithin_1 rfl 1 rfl ?_
  refine x_icmp_lt (tgt := 14) hE dX11_isWithin_2 (by decide) (fun c_2 => ?_) (fun c_2 => ?_)
  · refine x_iconst (v := 0) hE dX11_isWithin_14 (by decide) ?_
    exact hret _ _ _ _ _ _ _ _ (0) (Nat.le_of_ble_eq_true rfl) (Nat.le_of_ble_eq_true rfl) dX11_isWithin_15 (rfl) (⟨rfl, (zb_f (fun h => z_lt_nle c_2 h.1)).symm⟩)
  · refine x_iload_n hE dX11_isWithin_5 rfl 0 rfl ?_
    refine x_iload_n hE dX11_isWithin_6 rfl 2 rfl ?_
    refine x_icmp_gt (tgt := 14) hE dX11_isWithin_7 (by decide) (fun c_7 => ?_) (fun c_7 => ?_)
    · refine x_iconst (v := 0) hE dX11_isWithin_14 (by decide) ?_
      exact hret _ _ _ _ _ _ _ _ (0) (Nat.le_of_ble_eq_true rfl) (Nat.le_of_ble_eq_true rfl) dX11_isWithin_15 (rfl) (⟨rfl, (zb_f (fun h => z_lt_nle c_7 h.2)).symm⟩)
    · refine x_iconst (v := 1) hE dX11_isWithin_10 (by decide) ?_
      refine x_goto (tgt := 15) hE dX11_isWithin_11 (by decide) ?_
      exact hret _ _ _ _ _ _ _ _ (1) (Nat.le_of_ble_eq_true rfl) (Nat.le_of_ble_eq_true rfl) dX11_isWithin_15 (rfl) (⟨rfl, (zb_t ⟨z_nlt c_2, z_nlt c_7⟩).symm⟩)
set_option maxHeartbeats 4000000 in
set_option maxRecDepth 100000 in
theorem k_hasField (l : Launch) (D : va_G) (cy : Nat → ClassId) (L : List Nat) (σ : Nat → va_E) (φ : Nat → Nat → Nat → Int32) (ρ : Nat → Nat → Int32) {a a0 a1 a2 a3 a4 a5 a6 a7 : Nat} (f : Int32) (ha : zT L σ a (.inr (0, [.int 0, .int 0, .ref a0, .ref a1, .ref a2, .ref a3, .ref a4, .ref a5, .ref a6, .ref a7]))) : zMI l D cy yX0_hasField cX0_hasField 2 .boolean (zrm 0 0 0) [.ref a, .int f] L σ φ ρ (zpu L σ φ ρ (fun r => r = zb (0 ≤ f ∧ f < φ 0 0 a))) := by
  refine zMI.mk (by decide) (Nat.le_of_ble_eq_true rfl) (fun E hE hret => ?_)
  show zW E 0 0 L σ φ ρ 0 [(0, .ref a), (1, .int f)] []
  refine x_iload_n hE dX0_hasField_0 rfl 1 rfl ?_
  refine x_if_lt (tgt := 16) hE dX0_hasField_1 (by decide) (fun c_1 => ?_) (fun c_1 => ?_)
  · refine x_iconst (v := 0) hE dX0_hasField_16 (by decide) ?_
    exact hret _ _ _ _ _ _ _ _ (0) (Nat.le_of_ble_eq_true rfl) (Nat.le_of_ble_eq_true rfl) dX0_hasField_17 (rfl) (⟨rfl, (zb_f (fun h => z_lt_nle c_1 h.1)).symm⟩)
  · refine x_iload_n hE dX0_hasField_4 rfl 1 rfl ?_
    refine x_aload_n hE dX0_hasField_5 rfl 0 rfl ?_
    refine h_geti hE ha rfl inZX0 0 (by decide) q154 rfl dX0_hasField_6 ?_
    refine x_icmp_ge (tgt := 16) hE dX0_hasField_9 (by decide) (fun c_9 => ?_) (fun c_9 => ?_)
    · refine x_iconst (v := 0) hE dX0_hasField_16 (by decide) ?_
      exact hret _ _ _ _ _ _ _ _ (0) (Nat.le_of_ble_eq_true rfl) (Nat.le_of_ble_eq_true rfl) dX0_hasField_17 (rfl) (⟨rfl, (zb_f (fun h => absurd h.2 (z_le_nlt c_9))).symm⟩)
    · refine x_iconst (v := 1) hE dX0_hasField_12 (by decide) ?_
      refine x_goto (tgt := 17) hE dX0_hasField_13 (by decide) ?_
      exact hret _ _ _ _ _ _ _ _ (1) (Nat.le_of_ble_eq_true rfl) (Nat.le_of_ble_eq_true rfl) dX0_hasField_17 (rfl) (⟨rfl, (zb_t ⟨z_nlt c_1, z_nle c_9⟩).symm⟩)
set_option maxHeartbeats 4000000 in
set_option maxRecDepth 100000 in
theorem k_hasPerson (l : Launch) (D : va_G) (cy : Nat → ClassId) (L : List Nat) (σ : Nat → va_E) (φ : Nat → Nat → Nat → Int32) (ρ : Nat → Nat → Int32) {a a0 a1 a2 a3 a4 a5 a6 a7 : Nat} (f : Int32) (ha : zT L σ a (.inr (0, [.int 0, .int 0, .ref a0, .ref a1, .ref a2, .ref a3, .ref a4, .ref a5, .ref a6, .ref a7]))) : zMI l D cy yX0_hasPerson cX0_hasPerson 2 .boolean (zrm 0 0 0) [.ref a, .int f] L σ φ ρ (zpu L σ φ ρ (fun r => r = zb (0 ≤ f ∧ f < φ 0 1 a))) := by
  refine zMI.mk (by decide) (Nat.le_of_ble_eq_true rfl) (fun E hE hret => ?_)
  show zW E 0 0 L σ φ ρ 0 [(0, .ref a), (1, .int f)] []
  refine x_iload_n hE dX0_hasPerson_0 rfl 1 rfl ?_
  refine x_if_lt (tgt := 16) hE dX0_hasPerson_1 (by decide) (fun c_1 => ?_) (fun c_1 => ?_)
  · refine x_iconst (v := 0) hE dX0_hasPerson_16 (by decide) ?_
    exact hret _ _ _ _ _ _ _ _ (0) (Nat.le_of_ble_eq_true rfl) (Nat.le_of_ble_eq_true rfl) dX0_hasPerson_17 (rfl) (⟨rfl, (zb_f (fun h => z_lt_nle c_1 h.1)).symm⟩)
  · refine x_iload_n hE dX0_hasPerson_4 rfl 1 rfl ?_
    refine x_aload_n hE dX0_hasPerson_5 rfl 0 rfl ?_
    refine h_geti hE ha rfl inZX0 1 (by decide) q160 rfl dX0_hasPerson_6 ?_
    refine x_icmp_ge (tgt := 16) hE dX0_hasPerson_9 (by decide) (fun c_9 => ?_) (fun c_9 => ?_)
    · refine x_iconst (v := 0) hE dX0_hasPerson_16 (by decide) ?_
      exact hret _ _ _ _ _ _ _ _ (0) (Nat.le_of_ble_eq_true rfl) (Nat.le_of_ble_eq_true rfl) dX0_hasPerson_17 (rfl) (⟨rfl, (zb_f (fun h => absurd h.2 (z_le_nlt c_9))).symm⟩)
    · refine x_iconst (v := 1) hE dX0_hasPerson_12 (by decide) ?_
      refine x_goto (tgt := 17) hE dX0_hasPerson_13 (by decide) ?_
      exact hret _ _ _ _ _ _ _ _ (1) (Nat.le_of_ble_eq_true rfl) (Nat.le_of_ble_eq_true rfl) dX0_hasPerson_17 (rfl) (⟨rfl, (zb_t ⟨z_nlt c_1, z_nle c_9⟩).symm⟩)
end
section
theorem dX0_init_0 : decode cX0_init 0 = .ok (.aload_n 0, 1) := by decide +kernel
theorem dX0_init_1 : decode cX0_init 1 = .ok (.invokespecial 3, 3) := by decide +kernel
theorem dX0_init_4 : decode cX0_init 4 = .ok (.aload_n 0, 1) := by decide +kernel
theorem dX0_init_5 : decode cX0_init 5 = .ok (.bipush 6, 2) := by decide +kernel
theorem dX0_init_7 : decode cX0_init 7 = .ok (.newarray .int, 2) := by decide +kernel
theorem dX0_init_9 : decode cX0_init 9 = .ok (.putfield 9, 3) := by decide +kernel
theorem dX0_init_12 : decode cX0_init 12 = .ok (.aload_n 0, 1) := by decide +kernel
theorem dX0_init_13 : decode cX0_init 13 = .ok (.bipush 6, 2) := by decide +kernel
theorem dX0_init_15 : decode cX0_init 15 = .ok (.newarray .int, 2) := by decide +kernel
theorem dX0_init_17 : decode cX0_init 17 = .ok (.putfield 15, 3) := by decide +kernel
theorem dX0_init_20 : decode cX0_init 20 = .ok (.aload_n 0, 1) := by decide +kernel
theorem dX0_init_21 : decode cX0_init 21 = .ok (.bipush 6, 2) := by decide +kernel
theorem dX0_init_23 : decode cX0_init 23 = .ok (.newarray .int, 2) := by decide +kernel
theorem dX0_init_25 : decode cX0_init 25 = .ok (.putfield 18, 3) := by decide +kernel
theorem dX0_init_28 : decode cX0_init 28 = .ok (.aload_n 0, 1) := by decide +kernel
theorem dX0_init_29 : decode cX0_init 29 = .ok (.bipush 6, 2) := by decide +kernel
theorem dX0_init_31 : decode cX0_init 31 = .ok (.newarray .int, 2) := by decide +kernel
theorem dX0_init_33 : decode cX0_init 33 = .ok (.putfield 21, 3) := by decide +kernel
theorem dX0_init_36 : decode cX0_init 36 = .ok (.aload_n 0, 1) := by decide +kernel
theorem dX0_init_37 : decode cX0_init 37 = .ok (.bipush 8, 2) := by decide +kernel
theorem dX0_init_39 : decode cX0_init 39 = .ok (.newarray .int, 2) := by decide +kernel
theorem dX0_init_41 : decode cX0_init 41 = .ok (.putfield 24, 3) := by decide +kernel
theorem dX0_init_44 : decode cX0_init 44 = .ok (.aload_n 0, 1) := by decide +kernel
theorem dX0_init_45 : decode cX0_init 45 = .ok (.bipush 8, 2) := by decide +kernel
theorem dX0_init_47 : decode cX0_init 47 = .ok (.newarray .int, 2) := by decide +kernel
theorem dX0_init_49 : decode cX0_init 49 = .ok (.putfield 27, 3) := by decide +kernel
theorem dX0_init_52 : decode cX0_init 52 = .ok (.aload_n 0, 1) := by decide +kernel
theorem dX0_init_53 : decode cX0_init 53 = .ok (.bipush 8, 2) := by decide +kernel
theorem dX0_init_55 : decode cX0_init 55 = .ok (.newarray .int, 2) := by decide +kernel
theorem dX0_init_57 : decode cX0_init 57 = .ok (.putfield 30, 3) := by decide +kernel
theorem dX0_init_60 : decode cX0_init 60 = .ok (.aload_n 0, 1) := by decide +kernel
theorem dX0_init_61 : decode cX0_init 61 = .ok (.bipush 8, 2) := by decide +kernel
theorem dX0_init_63 : decode cX0_init 63 = .ok (.newarray .int, 2) := by decide +kernel
theorem dX0_init_65 : decode cX0_init 65 = .ok (.putfield 33, 3) := by decide +kernel
theorem dX0_init_68 : decode cX0_init 68 = .ok (.return_, 1) := by decide +kernel
theorem dX10_init_0 : decode cX10_init 0 = .ok (.aload_n 0, 1) := by decide +kernel
theorem dX10_init_1 : decode cX10_init 1 = .ok (.invokespecial 3, 3) := by decide +kernel
theorem dX10_init_4 : decode cX10_init 4 = .ok (.aload_n 0, 1) := by decide +kernel
theorem dX10_init_5 : decode cX10_init 5 = .ok (.bipush 6, 2) := by decide +kernel
theorem dX10_init_7 : decode cX10_init 7 = .ok (.newarray .int, 2) := by decide +kernel
theorem dX10_init_9 : decode cX10_init 9 = .ok (.putfield 9, 3) := by decide +kernel
theorem dX10_init_12 : decode cX10_init 12 = .ok (.aload_n 0, 1) := by decide +kernel
theorem dX10_init_13 : decode cX10_init 13 = .ok (.bipush 6, 2) := by decide +kernel
theorem dX10_init_15 : decode cX10_init 15 = .ok (.newarray .int, 2) := by decide +kernel
theorem dX10_init_17 : decode cX10_init 17 = .ok (.putfield 15, 3) := by decide +kernel
theorem dX10_init_20 : decode cX10_init 20 = .ok (.aload_n 0, 1) := by decide +kernel
theorem dX10_init_21 : decode cX10_init 21 = .ok (.bipush 6, 2) := by decide +kernel
theorem dX10_init_23 : decode cX10_init 23 = .ok (.newarray .int, 2) := by decide +kernel
theorem dX10_init_25 : decode cX10_init 25 = .ok (.putfield 18, 3) := by decide +kernel
theorem dX10_init_28 : decode cX10_init 28 = .ok (.aload_n 0, 1) := by decide +kernel
theorem dX10_init_29 : decode cX10_init 29 = .ok (.bipush 8, 2) := by decide +kernel
theorem dX10_init_31 : decode cX10_init 31 = .ok (.newarray .int, 2) := by decide +kernel
theorem dX10_init_33 : decode cX10_init 33 = .ok (.putfield 21, 3) := by decide +kernel
theorem dX10_init_36 : decode cX10_init 36 = .ok (.aload_n 0, 1) := by decide +kernel
theorem dX10_init_37 : decode cX10_init 37 = .ok (.bipush 8, 2) := by decide +kernel
theorem dX10_init_39 : decode cX10_init 39 = .ok (.newarray .int, 2) := by decide +kernel
theorem dX10_init_41 : decode cX10_init 41 = .ok (.putfield 24, 3) := by decide +kernel
theorem dX10_init_44 : decode cX10_init 44 = .ok (.aload_n 0, 1) := by decide +kernel
theorem dX10_init_45 : decode cX10_init 45 = .ok (.bipush 8, 2) := by decide +kernel
theorem dX10_init_47 : decode cX10_init 47 = .ok (.newarray .int, 2) := by decide +kernel
theorem dX10_init_49 : decode cX10_init 49 = .ok (.putfield 27, 3) := by decide +kernel
theorem dX10_init_52 : decode cX10_init 52 = .ok (.aload_n 0, 1) := by decide +kernel
theorem dX10_init_53 : decode cX10_init 53 = .ok (.bipush 37, 2) := by decide +kernel
theorem dX10_init_55 : decode cX10_init 55 = .ok (.putfield 30, 3) := by decide +kernel
theorem dX10_init_58 : decode cX10_init 58 = .ok (.aload_n 0, 1) := by decide +kernel
theorem dX10_init_59 : decode cX10_init 59 = .ok (.bipush 40, 2) := by decide +kernel
theorem dX10_init_61 : decode cX10_init 61 = .ok (.newarray .int, 2) := by decide +kernel
theorem dX10_init_63 : decode cX10_init 63 = .ok (.putfield 34, 3) := by decide +kernel
theorem dX10_init_66 : decode cX10_init 66 = .ok (.aload_n 0, 1) := by decide +kernel
theorem dX10_init_67 : decode cX10_init 67 = .ok (.bipush 20, 2) := by decide +kernel
theorem dX10_init_69 : decode cX10_init 69 = .ok (.newarray .int, 2) := by decide +kernel
theorem dX10_init_71 : decode cX10_init 71 = .ok (.putfield 37, 3) := by decide +kernel
theorem dX10_init_74 : decode cX10_init 74 = .ok (.return_, 1) := by decide +kernel
theorem dX1_init_0 : decode cX1_init 0 = .ok (.aload_n 0, 1) := by decide +kernel
theorem dX1_init_1 : decode cX1_init 1 = .ok (.invokespecial 3, 3) := by decide +kernel
theorem dX1_init_4 : decode cX1_init 4 = .ok (.aload_n 0, 1) := by decide +kernel
theorem dX1_init_5 : decode cX1_init 5 = .ok (.bipush 6, 2) := by decide +kernel
theorem dX1_init_7 : decode cX1_init 7 = .ok (.newarray .int, 2) := by decide +kernel
theorem dX1_init_9 : decode cX1_init 9 = .ok (.putfield 9, 3) := by decide +kernel
theorem dX1_init_12 : decode cX1_init 12 = .ok (.aload_n 0, 1) := by decide +kernel
theorem dX1_init_13 : decode cX1_init 13 = .ok (.bipush 6, 2) := by decide +kernel
theorem dX1_init_15 : decode cX1_init 15 = .ok (.newarray .int, 2) := by decide +kernel
theorem dX1_init_17 : decode cX1_init 17 = .ok (.putfield 15, 3) := by decide +kernel
theorem dX1_init_20 : decode cX1_init 20 = .ok (.aload_n 0, 1) := by decide +kernel
theorem dX1_init_21 : decode cX1_init 21 = .ok (.bipush 6, 2) := by decide +kernel
theorem dX1_init_23 : decode cX1_init 23 = .ok (.newarray .int, 2) := by decide +kernel
theorem dX1_init_25 : decode cX1_init 25 = .ok (.putfield 18, 3) := by decide +kernel
theorem dX1_init_28 : decode cX1_init 28 = .ok (.aload_n 0, 1) := by decide +kernel
theorem dX1_init_29 : decode cX1_init 29 = .ok (.bipush 12, 2) := by decide +kernel
theorem dX1_init_31 : decode cX1_init 31 = .ok (.newarray .int, 2) := by decide +kernel
theorem dX1_init_33 : decode cX1_init 33 = .ok (.putfield 21, 3) := by decide +kernel
theorem dX1_init_36 : decode cX1_init 36 = .ok (.aload_n 0, 1) := by decide +kernel
theorem dX1_init_37 : decode cX1_init 37 = .ok (.bipush 12, 2) := by decide +kernel
theorem dX1_init_39 : decode cX1_init 39 = .ok (.newarray .boolean, 2) := by decide +kernel
theorem dX1_init_41 : decode cX1_init 41 = .ok (.putfield 24, 3) := by decide +kernel
theorem dX1_init_44 : decode cX1_init 44 = .ok (.aload_n 0, 1) := by decide +kernel
theorem dX1_init_45 : decode cX1_init 45 = .ok (.bipush 10, 2) := by decide +kernel
theorem dX1_init_47 : decode cX1_init 47 = .ok (.newarray .boolean, 2) := by decide +kernel
theorem dX1_init_49 : decode cX1_init 49 = .ok (.putfield 28, 3) := by decide +kernel
theorem dX1_init_52 : decode cX1_init 52 = .ok (.aload_n 0, 1) := by decide +kernel
theorem dX1_init_53 : decode cX1_init 53 = .ok (.bipush 10, 2) := by decide +kernel
theorem dX1_init_55 : decode cX1_init 55 = .ok (.newarray .int, 2) := by decide +kernel
theorem dX1_init_57 : decode cX1_init 57 = .ok (.putfield 31, 3) := by decide +kernel
theorem dX1_init_60 : decode cX1_init 60 = .ok (.aload_n 0, 1) := by decide +kernel
theorem dX1_init_61 : decode cX1_init 61 = .ok (.bipush 10, 2) := by decide +kernel
theorem dX1_init_63 : decode cX1_init 63 = .ok (.newarray .int, 2) := by decide +kernel
theorem dX1_init_65 : decode cX1_init 65 = .ok (.putfield 34, 3) := by decide +kernel
theorem dX1_init_68 : decode cX1_init 68 = .ok (.return_, 1) := by decide +kernel
theorem dX3_init_0 : decode cX3_init 0 = .ok (.aload_n 0, 1) := by decide +kernel
theorem dX3_init_1 : decode cX3_init 1 = .ok (.invokespecial 3, 3) := by decide +kernel
theorem dX3_init_4 : decode cX3_init 4 = .ok (.aload_n 0, 1) := by decide +kernel
theorem dX3_init_5 : decode cX3_init 5 = .ok (.iconst (-1), 1) := by decide +kernel
theorem dX3_init_6 : decode cX3_init 6 = .ok (.putfield 9, 3) := by decide +kernel
theorem dX3_init_9 : decode cX3_init 9 = .ok (.aload_n 0, 1) := by decide +kernel
theorem dX3_init_10 : decode cX3_init 10 = .ok (.iconst (-1), 1) := by decide +kernel
theorem dX3_init_11 : decode cX3_init 11 = .ok (.putfield 15, 3) := by decide +kernel
theorem dX3_init_14 : decode cX3_init 14 = .ok (.aload_n 0, 1) := by decide +kernel
theorem dX3_init_15 : decode cX3_init 15 = .ok (.aload_n 1, 1) := by decide +kernel
theorem dX3_init_16 : decode cX3_init 16 = .ok (.putfield 18, 3) := by decide +kernel
theorem dX3_init_19 : decode cX3_init 19 = .ok (.return_, 1) := by decide +kernel
theorem dX6_init_0 : decode cX6_init 0 = .ok (.aload_n 0, 1) := by decide +kernel
theorem dX6_init_1 : decode cX6_init 1 = .ok (.invokespecial 3, 3) := by decide +kernel
theorem dX6_init_4 : decode cX6_init 4 = .ok (.aload_n 0, 1) := by decide +kernel
theorem dX6_init_5 : decode cX6_init 5 = .ok (.sipush 301, 3) := by decide +kernel
theorem dX6_init_8 : decode cX6_init 8 = .ok (.newarray .int, 2) := by decide +kernel
theorem dX6_init_10 : decode cX6_init 10 = .ok (.putfield 9, 3) := by decide +kernel
theorem dX6_init_13 : decode cX6_init 13 = .ok (.aload_n 0, 1) := by decide +kernel
theorem dX6_init_14 : decode cX6_init 14 = .ok (.sipush 301, 3) := by decide +kernel
theorem dX6_init_17 : decode cX6_init 17 = .ok (.newarray .int, 2) := by decide +kernel
theorem dX6_init_19 : decode cX6_init 19 = .ok (.putfield 15, 3) := by decide +kernel
theorem dX6_init_22 : decode cX6_init 22 = .ok (.aload_n 0, 1) := by decide +kernel
theorem dX6_init_23 : decode cX6_init 23 = .ok (.sipush 301, 3) := by decide +kernel
theorem dX6_init_26 : decode cX6_init 26 = .ok (.newarray .int, 2) := by decide +kernel
theorem dX6_init_28 : decode cX6_init 28 = .ok (.putfield 18, 3) := by decide +kernel
theorem dX6_init_31 : decode cX6_init 31 = .ok (.aload_n 0, 1) := by decide +kernel
theorem dX6_init_32 : decode cX6_init 32 = .ok (.sipush 300, 3) := by decide +kernel
theorem dX6_init_35 : decode cX6_init 35 = .ok (.newarray .int, 2) := by decide +kernel
theorem dX6_init_37 : decode cX6_init 37 = .ok (.putfield 21, 3) := by decide +kernel
theorem dX6_init_40 : decode cX6_init 40 = .ok (.return_, 1) := by decide +kernel
theorem dX7_init_0 : decode cX7_init 0 = .ok (.aload_n 0, 1) := by decide +kernel
theorem dX7_init_1 : decode cX7_init 1 = .ok (.invokespecial 3, 3) := by decide +kernel
theorem dX7_init_4 : decode cX7_init 4 = .ok (.aload_n 0, 1) := by decide +kernel
theorem dX7_init_5 : decode cX7_init 5 = .ok (.bipush 24, 2) := by decide +kernel
theorem dX7_init_7 : decode cX7_init 7 = .ok (.newarray .int, 2) := by decide +kernel
theorem dX7_init_9 : decode cX7_init 9 = .ok (.putfield 9, 3) := by decide +kernel
theorem dX7_init_12 : decode cX7_init 12 = .ok (.aload_n 0, 1) := by decide +kernel
theorem dX7_init_13 : decode cX7_init 13 = .ok (.bipush 72, 2) := by decide +kernel
theorem dX7_init_15 : decode cX7_init 15 = .ok (.newarray .int, 2) := by decide +kernel
theorem dX7_init_17 : decode cX7_init 17 = .ok (.putfield 15, 3) := by decide +kernel
theorem dX7_init_20 : decode cX7_init 20 = .ok (.aload_n 0, 1) := by decide +kernel
theorem dX7_init_21 : decode cX7_init 21 = .ok (.sipush 300, 3) := by decide +kernel
theorem dX7_init_24 : decode cX7_init 24 = .ok (.newarray .int, 2) := by decide +kernel
theorem dX7_init_26 : decode cX7_init 26 = .ok (.putfield 18, 3) := by decide +kernel
theorem dX7_init_29 : decode cX7_init 29 = .ok (.aload_n 0, 1) := by decide +kernel
theorem dX7_init_30 : decode cX7_init 30 = .ok (.sipush 300, 3) := by decide +kernel
theorem dX7_init_33 : decode cX7_init 33 = .ok (.newarray .int, 2) := by decide +kernel
theorem dX7_init_35 : decode cX7_init 35 = .ok (.putfield 21, 3) := by decide +kernel
theorem dX7_init_38 : decode cX7_init 38 = .ok (.aload_n 0, 1) := by decide +kernel
theorem dX7_init_39 : decode cX7_init 39 = .ok (.sipush 300, 3) := by decide +kernel
theorem dX7_init_42 : decode cX7_init 42 = .ok (.newarray .int, 2) := by decide +kernel
theorem dX7_init_44 : decode cX7_init 44 = .ok (.putfield 24, 3) := by decide +kernel
theorem dX7_init_47 : decode cX7_init 47 = .ok (.aload_n 0, 1) := by decide +kernel
theorem dX7_init_48 : decode cX7_init 48 = .ok (.sipush 300, 3) := by decide +kernel
theorem dX7_init_51 : decode cX7_init 51 = .ok (.newarray .int, 2) := by decide +kernel
theorem dX7_init_53 : decode cX7_init 53 = .ok (.putfield 27, 3) := by decide +kernel
theorem dX7_init_56 : decode cX7_init 56 = .ok (.aload_n 0, 1) := by decide +kernel
theorem dX7_init_57 : decode cX7_init 57 = .ok (.iconst 5, 1) := by decide +kernel
theorem dX7_init_58 : decode cX7_init 58 = .ok (.newarray .int, 2) := by decide +kernel
theorem dX7_init_60 : decode cX7_init 60 = .ok (.putfield 30, 3) := by decide +kernel
theorem dX7_init_63 : decode cX7_init 63 = .ok (.aload_n 0, 1) := by decide +kernel
theorem dX7_init_64 : decode cX7_init 64 = .ok (.iconst 5, 1) := by decide +kernel
theorem dX7_init_65 : decode cX7_init 65 = .ok (.newarray .int, 2) := by decide +kernel
theorem dX7_init_67 : decode cX7_init 67 = .ok (.putfield 33, 3) := by decide +kernel
theorem dX7_init_70 : decode cX7_init 70 = .ok (.aload_n 0, 1) := by decide +kernel
theorem dX7_init_71 : decode cX7_init 71 = .ok (.iconst 5, 1) := by decide +kernel
theorem dX7_init_72 : decode cX7_init 72 = .ok (.newarray .int, 2) := by decide +kernel
theorem dX7_init_74 : decode cX7_init 74 = .ok (.putfield 36, 3) := by decide +kernel
theorem dX7_init_77 : decode cX7_init 77 = .ok (.aload_n 0, 1) := by decide +kernel
theorem dX7_init_78 : decode cX7_init 78 = .ok (.iconst 5, 1) := by decide +kernel
theorem dX7_init_79 : decode cX7_init 79 = .ok (.newarray .int, 2) := by decide +kernel
theorem dX7_init_81 : decode cX7_init 81 = .ok (.putfield 39, 3) := by decide +kernel
theorem dX7_init_84 : decode cX7_init 84 = .ok (.return_, 1) := by decide +kernel
theorem dX8_init_0 : decode cX8_init 0 = .ok (.aload_n 0, 1) := by decide +kernel
theorem dX8_init_1 : decode cX8_init 1 = .ok (.invokespecial 3, 3) := by decide +kernel
theorem dX8_init_4 : decode cX8_init 4 = .ok (.aload_n 0, 1) := by decide +kernel
theorem dX8_init_5 : decode cX8_init 5 = .ok (.bipush 6, 2) := by decide +kernel
theorem dX8_init_7 : decode cX8_init 7 = .ok (.newarray .int, 2) := by decide +kernel
theorem dX8_init_9 : decode cX8_init 9 = .ok (.putfield 9, 3) := by decide +kernel
theorem dX8_init_12 : decode cX8_init 12 = .ok (.aload_n 0, 1) := by decide +kernel
theorem dX8_init_13 : decode cX8_init 13 = .ok (.bipush 6, 2) := by decide +kernel
theorem dX8_init_15 : decode cX8_init 15 = .ok (.newarray .int, 2) := by decide +kernel
theorem dX8_init_17 : decode cX8_init 17 = .ok (.putfield 15, 3) := by decide +kernel
theorem dX8_init_20 : decode cX8_init 20 = .ok (.aload_n 0, 1) := by decide +kernel
theorem dX8_init_21 : decode cX8_init 21 = .ok (.aload_n 1, 1) := by decide +kernel
theorem dX8_init_22 : decode cX8_init 22 = .ok (.putfield 18, 3) := by decide +kernel
theorem dX8_init_25 : decode cX8_init 25 = .ok (.return_, 1) := by decide +kernel
theorem dX9_init_0 : decode cX9_init 0 = .ok (.aload_n 0, 1) := by decide +kernel
theorem dX9_init_1 : decode cX9_init 1 = .ok (.invokespecial 3, 3) := by decide +kernel
theorem dX9_init_4 : decode cX9_init 4 = .ok (.aload_n 0, 1) := by decide +kernel
theorem dX9_init_5 : decode cX9_init 5 = .ok (.iconst (-1), 1) := by decide +kernel
theorem dX9_init_6 : decode cX9_init 6 = .ok (.putfield 9, 3) := by decide +kernel
theorem dX9_init_9 : decode cX9_init 9 = .ok (.aload_n 0, 1) := by decide +kernel
theorem dX9_init_10 : decode cX9_init 10 = .ok (.bipush 8, 2) := by decide +kernel
theorem dX9_init_12 : decode cX9_init 12 = .ok (.newarray .int, 2) := by decide +kernel
theorem dX9_init_14 : decode cX9_init 14 = .ok (.putfield 15, 3) := by decide +kernel
theorem dX9_init_17 : decode cX9_init 17 = .ok (.aload_n 0, 1) := by decide +kernel
theorem dX9_init_18 : decode cX9_init 18 = .ok (.bipush 6, 2) := by decide +kernel
theorem dX9_init_20 : decode cX9_init 20 = .ok (.newarray .int, 2) := by decide +kernel
theorem dX9_init_22 : decode cX9_init 22 = .ok (.putfield 19, 3) := by decide +kernel
theorem dX9_init_25 : decode cX9_init 25 = .ok (.aload_n 0, 1) := by decide +kernel
theorem dX9_init_26 : decode cX9_init 26 = .ok (.bipush 96, 2) := by decide +kernel
theorem dX9_init_28 : decode cX9_init 28 = .ok (.newarray .int, 2) := by decide +kernel
theorem dX9_init_30 : decode cX9_init 30 = .ok (.putfield 22, 3) := by decide +kernel
theorem dX9_init_33 : decode cX9_init 33 = .ok (.aload_n 0, 1) := by decide +kernel
theorem dX9_init_34 : decode cX9_init 34 = .ok (.sipush 300, 3) := by decide +kernel
theorem dX9_init_37 : decode cX9_init 37 = .ok (.newarray .int, 2) := by decide +kernel
theorem dX9_init_39 : decode cX9_init 39 = .ok (.putfield 25, 3) := by decide +kernel
theorem dX9_init_42 : decode cX9_init 42 = .ok (.aload_n 0, 1) := by decide +kernel
theorem dX9_init_43 : decode cX9_init 43 = .ok (.aload_n 1, 1) := by decide +kernel
theorem dX9_init_44 : decode cX9_init 44 = .ok (.putfield 28, 3) := by decide +kernel
theorem dX9_init_47 : decode cX9_init 47 = .ok (.return_, 1) := by decide +kernel
-- Land()
set_option maxHeartbeats 4000000 in
set_option maxRecDepth 100000 in
theorem k_Land (l : Launch) (D : va_G) (cy : Nat → ClassId) (L : List Nat) (σ : Nat → va_E) (φ : Nat → Nat → Nat → Int32) (ρ : Nat → Nat → Int32) {w  : Nat} (hw_0 : zT L σ w (.inr (0, [.int 0, .int 0, .null, .null, .null, .null, .null, .null, .null, .null]))) : zMV l D cy yX0_init cX0_init 1 (zrm 1 8 56) [.ref w] L σ φ ρ (fun u => zX w L σ φ ρ u.1 u.2.1 u.2.2.1 u.2.2.2 ∧ zLand cy u.1 u.2.1 w ∧ ∀ c i, u.2.2.1 c i w = φ c i w) := by
  refine zMV.mk (by decide) (Nat.le_of_ble_eq_true rfl) (fun E hE hI hret => ?_)
  have hI := hI rfl
  show zW E 0 0 L σ φ ρ 0 [(0, .ref w)] []
  refine x_aload_n hE dX0_init_0 rfl 0 rfl ?_
  refine x_objinit hE q153 q140 q141 dX0_init_1 (Nat.le_of_ble_eq_true rfl) (Nat.le_of_ble_eq_true rfl) ?_
  refine x_aload_n hE dX0_init_4 rfl 0 rfl ?_
  refine x_bipush (v := 6) hE dX0_init_5 (by decide) ?_
  refine x_np (t0 := 0) (ty := .int) (fty := (.array .int)) (ty0 := tyX0) (N0 := 6) (x := (6, .inl (fun _ => 0))) (j0 := 2) hE hI hw_0 rfl inZX0 tyX0_ok nmX0 (by decide) q163 rfl rfl rfl (by decide +kernel) (fun _ => ⟨rfl, rfl⟩) rfl (fun _ h => nomatch h) q207 rfl (fun _ => rfl) (fun _ => rfl) (fun _ => rfl) (by decide) (by decide) (Nat.le_of_ble_eq_true rfl) (Nat.le_of_ble_eq_true rfl) (Nat.le_of_ble_eq_true rfl) dX0_init_7 dX0_init_9 (fun q_1 L_1 σ_1 φ_1 ρ_1 hn_1 hx_1 hw_1 hp_1 ha_1 hr_1 => ?_)
  refine x_aload_n hE dX0_init_12 rfl 0 rfl ?_
  refine x_bipush (v := 6) hE dX0_init_13 (by decide) ?_
  refine x_np (t0 := 0) (ty := .int) (fty := (.array .int)) (ty0 := tyX0) (N0 := 6) (x := (6, .inl (fun _ => 0))) (j0 := 3) hE hI hw_1 rfl inZX0 tyX0_ok nmX0 (by decide) q166 rfl rfl rfl (by decide +kernel) (fun _ => ⟨rfl, rfl⟩) rfl (fun _ h => nomatch h) q207 rfl (fun _ => rfl) (fun _ => rfl) (fun _ => rfl) (by decide) (by decide) (Nat.le_of_ble_eq_true rfl) (Nat.le_of_ble_eq_true rfl) (Nat.le_of_ble_eq_true rfl) dX0_init_15 dX0_init_17 (fun q_2 L_2 σ_2 φ_2 ρ_2 hn_2 hx_2 hw_2 hp_2 ha_2 hr_2 => ?_)
  refine x_aload_n hE dX0_init_20 rfl 0 rfl ?_
  refine x_bipush (v := 6) hE dX0_init_21 (by decide) ?_
  refine x_np (t0 := 0) (ty := .int) (fty := (.array .int)) (ty0 := tyX0) (N0 := 6) (x := (6, .inl (fun _ => 0))) (j0 := 4) hE hI hw_2 rfl inZX0 tyX0_ok nmX0 (by decide) q170 rfl rfl rfl (by decide +kernel) (fun _ => ⟨rfl, rfl⟩) rfl (fun _ h => nomatch h) q207 rfl (fun _ => rfl) (fun _ => rfl) (fun _ => rfl) (by decide) (by decide) (Nat.le_of_ble_eq_true rfl) (Nat.le_of_ble_eq_true rfl) (Nat.le_of_ble_eq_true rfl) dX0_init_23 dX0_init_25 (fun q_3 L_3 σ_3 φ_3 ρ_3 hn_3 hx_3 hw_3 hp_3 ha_3 hr_3 => ?_)
  refine x_aload_n hE dX0_init_28 rfl 0 rfl ?_
  refine x_bipush (v := 6) hE dX0_init_29 (by decide) ?_
  refine x_np (t0 := 0) (ty := .int) (fty := (.array .int)) (ty0 := tyX0) (N0 := 6) (x := (6, .inl (fun _ => 0))) (j0 := 5) hE hI hw_3 rfl inZX0 tyX0_ok nmX0 (by decide) q174 rfl rfl rfl (by decide +kernel) (fun _ => ⟨rfl, rfl⟩) rfl (fun _ h => nomatch h) q207 rfl (fun _ => rfl) (fun _ => rfl) (fun _ => rfl) (by decide) (by decide) (Nat.le_of_ble_eq_true rfl) (Nat.le_of_ble_eq_true rfl) (Nat.le_of_ble_eq_true rfl) dX0_init_31 dX0_init_33 (fun q_4 L_4 σ_4 φ_4 ρ_4 hn_4 hx_4 hw_4 hp_4 ha_4 hr_4 => ?_)
  refine x_aload_n hE dX0_init_36 rfl 0 rfl ?_
  refine x_bipush (v := 8) hE dX0_init_37 (by decide) ?_
  refine x_np (t0 := 0) (ty := .int) (fty := (.array .int)) (ty0 := tyX0) (N0 := 8) (x := (8, .inl (fun _ => 0))) (j0 := 6) hE hI hw_4 rfl inZX0 tyX0_ok nmX0 (by decide) q176 rfl rfl rfl (by decide +kernel) (fun _ => ⟨rfl, rfl⟩) rfl (fun _ h => nomatch h) q207 rfl (fun _ => rfl) (fun _ => rfl) (fun _ => rfl) (by decide) (by decide) (Nat.le_of_ble_eq_true rfl) (Nat.le_of_ble_eq_true rfl) (Nat.le_of_ble_eq_true rfl) dX0_init_39 dX0_init_41 (fun q_5 L_5 σ_5 φ_5 ρ_5 hn_5 hx_5 hw_5 hp_5 ha_5 hr_5 => ?_)
  refine x_aload_n hE dX0_init_44 rfl 0 rfl ?_
  refine x_bipush (v := 8) hE dX0_init_45 (by decide) ?_
  refine x_np (t0 := 0) (ty := .int) (fty := (.array .int)) (ty0 := tyX0) (N0 := 8) (x := (8, .inl (fun _ => 0))) (j0 := 7) hE hI hw_5 rfl inZX0 tyX0_ok nmX0 (by decide) q179 rfl rfl rfl (by decide +kernel) (fun _ => ⟨rfl, rfl⟩) rfl (fun _ h => nomatch h) q207 rfl (fun _ => rfl) (fun _ => rfl) (fun _ => rfl) (by decide) (by decide) (Nat.le_of_ble_eq_true rfl) (Nat.le_of_ble_eq_true rfl) (Nat.le_of_ble_eq_true rfl) dX0_init_47 dX0_init_49 (fun q_6 L_6 σ_6 φ_6 ρ_6 hn_6 hx_6 hw_6 hp_6 ha_6 hr_6 => ?_)
  refine x_aload_n hE dX0_init_52 rfl 0 rfl ?_
  refine x_bipush (v := 8) hE dX0_init_53 (by decide) ?_
  refine x_np (t0 := 0) (ty := .int) (fty := (.array .int)) (ty0 := tyX0) (N0 := 8) (x := (8, .inl (fun _ => 0))) (j0 := 8) hE hI hw_6 rfl inZX0 tyX0_ok nmX0 (by decide) q182 rfl rfl rfl (by decide +kernel) (fun _ => ⟨rfl, rfl⟩) rfl (fun _ h => nomatch h) q207 rfl (fun _ => rfl) (fun _ => rfl) (fun _ => rfl) (by decide) (by decide) (Nat.le_of_ble_eq_true rfl) (Nat.le_of_ble_eq_true rfl) (Nat.le_of_ble_eq_true rfl) dX0_init_55 dX0_init_57 (fun q_7 L_7 σ_7 φ_7 ρ_7 hn_7 hx_7 hw_7 hp_7 ha_7 hr_7 => ?_)
  refine x_aload_n hE dX0_init_60 rfl 0 rfl ?_
  refine x_bipush (v := 8) hE dX0_init_61 (by decide) ?_
  refine x_np (t0 := 0) (ty := .int) (fty := (.array .int)) (ty0 := tyX0) (N0 := 8) (x := (8, .inl (fun _ => 0))) (j0 := 9) hE hI hw_7 rfl inZX0 tyX0_ok nmX0 (by decide) q184 rfl rfl rfl (by decide +kernel) (fun _ => ⟨rfl, rfl⟩) rfl (fun _ h => nomatch h) q207 rfl (fun _ => rfl) (fun _ => rfl) (fun _ => rfl) (by decide) (by decide) (Nat.le_of_ble_eq_true rfl) (Nat.le_of_ble_eq_true rfl) (Nat.le_of_ble_eq_true rfl) dX0_init_63 dX0_init_65 (fun q_8 L_8 σ_8 φ_8 ρ_8 hn_8 hx_8 hw_8 hp_8 ha_8 hr_8 => ?_)
  have hX_8 := hx_8
  have hX_7 := hx_7.tr hX_8
  have hX_6 := hx_6.tr hX_7
  have hX_5 := hx_5.tr hX_6
  have hX_4 := hx_4.tr hX_5
  have hX_3 := hx_3.tr hX_4
  have hX_2 := hx_2.tr hX_3
  have hX_1 := hx_1.tr hX_2
  exact hret _ _ _ _ _ _ _ _ (Nat.le_of_ble_eq_true rfl) (Nat.le_of_ble_eq_true rfl) dX0_init_68 ⟨hX_1, ⟨q_1, q_2, q_3, q_4, q_5, q_6, q_7, q_8, hw_8, (hX_2.T ha_1 (zT.ne ha_1 hw_1 (by simp))), (hX_3.T ha_2 (zT.ne ha_2 hw_2 (by simp))), (hX_4.T ha_3 (zT.ne ha_3 hw_3 (by simp))), (hX_5.T ha_4 (zT.ne ha_4 hw_4 (by simp))), (hX_6.T ha_5 (zT.ne ha_5 hw_5 (by simp))), (hX_7.T ha_6 (zT.ne ha_6 hw_6 (by simp))), (hX_8.T ha_7 (zT.ne ha_7 hw_7 (by simp))), ha_8⟩, fun c i => by show φ_8 c i w = _; rw [hp_8, hp_7, hp_6, hp_5, hp_4, hp_3, hp_2, hp_1]⟩
-- World()
set_option maxHeartbeats 4000000 in
set_option maxRecDepth 100000 in
theorem k_World (l : Launch) (D : va_G) (cy : Nat → ClassId) (L : List Nat) (σ : Nat → va_E) (φ : Nat → Nat → Nat → Int32) (ρ : Nat → Nat → Int32) {w  : Nat} (hw_0 : zT L σ w (.inr (10, [.null, .null, .null, .null, .null, .null, .int 0, .int 0, .int 0, .int 0, .int 0, .int 0, .int 0, .null, .null]))) : zMV l D cy yX10_init cX10_init 1 (zrm 1 8 102) [.ref w] L σ φ ρ (fun u => zX w L σ φ ρ u.1 u.2.1 u.2.2.1 u.2.2.2 ∧ zWorld cy u.1 u.2.1 w ∧ ∀ c i, u.2.2.1 c i w = if c = 10 ∧ i = 10 then 37 else φ c i w) := by
  refine zMV.mk (by decide) (Nat.le_of_ble_eq_true rfl) (fun E hE hI hret => ?_)
  have hI := hI rfl
  show zW E 0 0 L σ φ ρ 0 [(0, .ref w)] []
  refine x_aload_n hE dX10_init_0 rfl 0 rfl ?_
  refine x_objinit hE q213 q140 q141 dX10_init_1 (Nat.le_of_ble_eq_true rfl) (Nat.le_of_ble_eq_true rfl) ?_
  refine x_aload_n hE dX10_init_4 rfl 0 rfl ?_
  refine x_bipush (v := 6) hE dX10_init_5 (by decide) ?_
  refine x_np (t0 := 0) (ty := .int) (fty := (.array .int)) (ty0 := tyX10) (N0 := 6) (x := (6, .inl (fun _ => 0))) (j0 := 0) hE hI hw_0 rfl inZX10 tyX10_ok nmX10 (by decide) q214 rfl rfl rfl (by decide +kernel) (fun _ => ⟨rfl, rfl⟩) rfl (fun _ h => nomatch h) q207 rfl (fun _ => rfl) (fun _ => rfl) (fun _ => rfl) (by decide) (by decide) (Nat.le_of_ble_eq_true rfl) (Nat.le_of_ble_eq_true rfl) (Nat.le_of_ble_eq_true rfl) dX10_init_7 dX10_init_9 (fun q_1 L_1 σ_1 φ_1 ρ_1 hn_1 hx_1 hw_1 hp_1 ha_1 hr_1 => ?_)
  refine x_aload_n hE dX10_init_12 rfl 0 rfl ?_
  refine x_bipush (v := 6) hE dX10_init_13 (by decide) ?_
  refine x_np (t0 := 0) (ty := .int) (fty := (.array .int)) (ty0 := tyX10) (N0 := 6) (x := (6, .inl (fun _ => 0))) (j0 := 1) hE hI hw_1 rfl inZX10 tyX10_ok nmX10 (by decide) q218 rfl rfl rfl (by decide +kernel) (fun _ => ⟨rfl, rfl⟩) rfl (fun _ h => nomatch h) q207 rfl (fun _ => rfl) (fun _ => rfl) (fun _ => rfl) (by decide) (by decide) (Nat.le_of_ble_eq_true rfl) (Nat.le_of_ble_eq_true rfl) (Nat.le_of_ble_eq_true rfl) dX10_init_15 dX10_init_17 (fun q_2 L_2 σ_2 φ_2 ρ_2 hn_2 hx_2 hw_2 hp_2 ha_2 hr_2 => ?_)
  refine x_aload_n hE dX10_init_20 rfl 0 rfl ?_
  refine x_bipush (v := 6) hE dX10_init_21 (by decide) ?_
  refine x_np (t0 := 0) (ty := .int) (fty := (.array .int)) (ty0 := tyX10) (N0 := 6) (x := (6, .inl (fun _ => 0))) (j0 := 2) hE hI hw_2 rfl inZX10 tyX10_ok nmX10 (by decide) q222 rfl rfl rfl (by decide +kernel) (fun _ => ⟨rfl, rfl⟩) rfl (fun _ h => nomatch h) q207 rfl (fun _ => rfl) (fun _ => rfl) (fun _ => rfl) (by decide) (by decide) (Nat.le_of_ble_eq_true rfl) (Nat.le_of_ble_eq_true rfl) (Nat.le_of_ble_eq_true rfl) dX10_init_23 dX10_init_25 (fun q_3 L_3 σ_3 φ_3 ρ_3 hn_3 hx_3 hw_3 hp_3 ha_3 hr_3 => ?_)
  refine x_aload_n hE dX10_init_28 rfl 0 rfl ?_
  refine x_bipush (v := 8) hE dX10_init_29 (by decide) ?_
  refine x_np (t0 := 0) (ty := .int) (fty := (.array .int)) (ty0 := tyX10) (N0 := 8) (x := (8, .inl (fun _ => 0))) (j0 := 3) hE hI hw_3 rfl inZX10 tyX10_ok nmX10 (by decide) q225 rfl rfl rfl (by decide +kernel) (fun _ => ⟨rfl, rfl⟩) rfl (fun _ h => nomatch h) q207 rfl (fun _ => rfl) (fun _ => rfl) (fun _ => rfl) (by decide) (by decide) (Nat.le_of_ble_eq_true rfl) (Nat.le_of_ble_eq_true rfl) (Nat.le_of_ble_eq_true rfl) dX10_init_31 dX10_init_33 (fun q_4 L_4 σ_4 φ_4 ρ_4 hn_4 hx_4 hw_4 hp_4 ha_4 hr_4 => ?_)
  refine x_aload_n hE dX10_init_36 rfl 0 rfl ?_
  refine x_bipush (v := 8) hE dX10_init_37 (by decide) ?_
  refine x_np (t0 := 0) (ty := .int) (fty := (.array .int)) (ty0 := tyX10) (N0 := 8) (x := (8, .inl (fun _ => 0))) (j0 := 4) hE hI hw_4 rfl inZX10 tyX10_ok nmX10 (by decide) q229 rfl rfl rfl (by decide +kernel) (fun _ => ⟨rfl, rfl⟩) rfl (fun _ h => nomatch h) q207 rfl (fun _ => rfl) (fun _ => rfl) (fun _ => rfl) (by decide) (by decide) (Nat.le_of_ble_eq_true rfl) (Nat.le_of_ble_eq_true rfl) (Nat.le_of_ble_eq_true rfl) dX10_init_39 dX10_init_41 (fun q_5 L_5 σ_5 φ_5 ρ_5 hn_5 hx_5 hw_5 hp_5 ha_5 hr_5 => ?_)
  refine x_aload_n hE dX10_init_44 rfl 0 rfl ?_
  refine x_bipush (v := 8) hE dX10_init_45 (by decide) ?_
  refine x_np (t0 := 0) (ty := .int) (fty := (.array .int)) (ty0 := tyX10) (N0 := 8) (x := (8, .inl (fun _ => 0))) (j0 := 5) hE hI hw_5 rfl inZX10 tyX10_ok nmX10 (by decide) q233 rfl rfl rfl (by decide +kernel) (fun _ => ⟨rfl, rfl⟩) rfl (fun _ h => nomatch h) q207 rfl (fun _ => rfl) (fun _ => rfl) (fun _ => rfl) (by decide) (by decide) (Nat.le_of_ble_eq_true rfl) (Nat.le_of_ble_eq_true rfl) (Nat.le_of_ble_eq_true rfl) dX10_init_47 dX10_init_49 (fun q_6 L_6 σ_6 φ_6 ρ_6 hn_6 hx_6 hw_6 hp_6 ha_6 hr_6 => ?_)
  refine x_aload_n hE dX10_init_52 rfl 0 rfl ?_
  refine x_bipush (v := 37) hE dX10_init_53 (by decide) ?_
  refine x_puti (ty := .int) (ty0 := tyX10) (j0 := 10) (v := 37) hE hw_6 rfl inZX10 tyX10_ok nmX10 (by decide) q250 rfl rfl (by decide +kernel) rfl rfl dX10_init_55 (fun φ_7 hx_7 hp_7 => ?_)
  refine x_aload_n hE dX10_init_58 rfl 0 rfl ?_
  refine x_bipush (v := 40) hE dX10_init_59 (by decide) ?_
  refine x_np (t0 := 0) (ty := .int) (fty := (.array .int)) (ty0 := tyX10) (N0 := 40) (x := (40, .inl (fun _ => 0))) (j0 := 13) hE hI hw_6 rfl inZX10 tyX10_ok nmX10 (by decide) q255 rfl rfl rfl (by decide +kernel) (fun _ => ⟨rfl, rfl⟩) rfl (fun _ h => nomatch h) q207 rfl (fun _ => rfl) (fun _ => rfl) (fun _ => rfl) (by decide) (by decide) (Nat.le_of_ble_eq_true rfl) (Nat.le_of_ble_eq_true rfl) (Nat.le_of_ble_eq_true rfl) dX10_init_61 dX10_init_63 (fun q_8 L_8 σ_8 φ_8 ρ_8 hn_8 hx_8 hw_8 hp_8 ha_8 hr_8 => ?_)
  refine x_aload_n hE dX10_init_66 rfl 0 rfl ?_
  refine x_bipush (v := 20) hE dX10_init_67 (by decide) ?_
  refine x_np (t0 := 0) (ty := .int) (fty := (.array .int)) (ty0 := tyX10) (N0 := 20) (x := (20, .inl (fun _ => 0))) (j0 := 14) hE hI hw_8 rfl inZX10 tyX10_ok nmX10 (by decide) q256 rfl rfl rfl (by decide +kernel) (fun _ => ⟨rfl, rfl⟩) rfl (fun _ h => nomatch h) q207 rfl (fun _ => rfl) (fun _ => rfl) (fun _ => rfl) (by decide) (by decide) (Nat.le_of_ble_eq_true rfl) (Nat.le_of_ble_eq_true rfl) (Nat.le_of_ble_eq_true rfl) dX10_init_69 dX10_init_71 (fun q_9 L_9 σ_9 φ_9 ρ_9 hn_9 hx_9 hw_9 hp_9 ha_9 hr_9 => ?_)
  have hX_9 := hx_9
  have hX_8 := hx_8.tr hX_9
  have hX_7 := hx_7.tr hX_8
  have hX_6 := hx_6.tr hX_7
  have hX_5 := hx_5.tr hX_6
  have hX_4 := hx_4.tr hX_5
  have hX_3 := hx_3.tr hX_4
  have hX_2 := hx_2.tr hX_3
  have hX_1 := hx_1.tr hX_2
  exact hret _ _ _ _ _ _ _ _ (Nat.le_of_ble_eq_true rfl) (Nat.le_of_ble_eq_true rfl) dX10_init_74 ⟨hX_1, ⟨q_1, q_2, q_3, q_4, q_5, q_6, q_8, q_9, hw_9, (hX_2.T ha_1 (zT.ne ha_1 hw_1 (by simp))), (hX_3.T ha_2 (zT.ne ha_2 hw_2 (by simp))), (hX_4.T ha_3 (zT.ne ha_3 hw_3 (by simp))), (hX_5.T ha_4 (zT.ne ha_4 hw_4 (by simp))), (hX_6.T ha_5 (zT.ne ha_5 hw_5 (by simp))), (hX_7.T ha_6 (zT.ne ha_6 hw_6 (by simp))), (hX_9.T ha_8 (zT.ne ha_8 hw_8 (by simp))), ha_9⟩, fun c i => by show φ_9 c i w = _; rw [hp_9, hp_8, hp_7, hp_6, hp_5, hp_4, hp_3, hp_2, hp_1]⟩
-- Lists()
set_option maxHeartbeats 4000000 in
set_option maxRecDepth 100000 in
theorem k_Lists (l : Launch) (D : va_G) (cy : Nat → ClassId) (L : List Nat) (σ : Nat → va_E) (φ : Nat → Nat → Nat → Int32) (ρ : Nat → Nat → Int32) {w  : Nat} (hw_0 : zT L σ w (.inr (1, [.int 0, .int 0, .int 0, .null, .null, .null, .null, .null, .null, .null, .null]))) : zMV l D cy yX1_init cX1_init 1 (zrm 1 8 72) [.ref w] L σ φ ρ (fun u => zX w L σ φ ρ u.1 u.2.1 u.2.2.1 u.2.2.2 ∧ zLists cy u.1 u.2.1 w ∧ ∀ c i, u.2.2.1 c i w = φ c i w) := by
  refine zMV.mk (by decide) (Nat.le_of_ble_eq_true rfl) (fun E hE hI hret => ?_)
  have hI := hI rfl
  show zW E 0 0 L σ φ ρ 0 [(0, .ref w)] []
  refine x_aload_n hE dX1_init_0 rfl 0 rfl ?_
  refine x_objinit hE q317 q140 q141 dX1_init_1 (Nat.le_of_ble_eq_true rfl) (Nat.le_of_ble_eq_true rfl) ?_
  refine x_aload_n hE dX1_init_4 rfl 0 rfl ?_
  refine x_bipush (v := 6) hE dX1_init_5 (by decide) ?_
  refine x_np (t0 := 0) (ty := .int) (fty := (.array .int)) (ty0 := tyX1) (N0 := 6) (x := (6, .inl (fun _ => 0))) (j0 := 3) hE hI hw_0 rfl inZX1 tyX1_ok nmX1 (by decide) q324 rfl rfl rfl (by decide +kernel) (fun _ => ⟨rfl, rfl⟩) rfl (fun _ h => nomatch h) q207 rfl (fun _ => rfl) (fun _ => rfl) (fun _ => rfl) (by decide) (by decide) (Nat.le_of_ble_eq_true rfl) (Nat.le_of_ble_eq_true rfl) (Nat.le_of_ble_eq_true rfl) dX1_init_7 dX1_init_9 (fun q_1 L_1 σ_1 φ_1 ρ_1 hn_1 hx_1 hw_1 hp_1 ha_1 hr_1 => ?_)
  refine x_aload_n hE dX1_init_12 rfl 0 rfl ?_
  refine x_bipush (v := 6) hE dX1_init_13 (by decide) ?_
  refine x_np (t0 := 0) (ty := .int) (fty := (.array .int)) (ty0 := tyX1) (N0 := 6) (x := (6, .inl (fun _ => 0))) (j0 := 4) hE hI hw_1 rfl inZX1 tyX1_ok nmX1 (by decide) q326 rfl rfl rfl (by decide +kernel) (fun _ => ⟨rfl, rfl⟩) rfl (fun _ h => nomatch h) q207 rfl (fun _ => rfl) (fun _ => rfl) (fun _ => rfl) (by decide) (by decide) (Nat.le_of_ble_eq_true rfl) (Nat.le_of_ble_eq_true rfl) (Nat.le_of_ble_eq_true rfl) dX1_init_15 dX1_init_17 (fun q_2 L_2 σ_2 φ_2 ρ_2 hn_2 hx_2 hw_2 hp_2 ha_2 hr_2 => ?_)
  refine x_aload_n hE dX1_init_20 rfl 0 rfl ?_
  refine x_bipush (v := 6) hE dX1_init_21 (by decide) ?_
  refine x_np (t0 := 0) (ty := .int) (fty := (.array .int)) (ty0 := tyX1) (N0 := 6) (x := (6, .inl (fun _ => 0))) (j0 := 5) hE hI hw_2 rfl inZX1 tyX1_ok nmX1 (by decide) q328 rfl rfl rfl (by decide +kernel) (fun _ => ⟨rfl, rfl⟩) rfl (fun _ h => nomatch h) q207 rfl (fun _ => rfl) (fun _ => rfl) (fun _ => rfl) (by decide) (by decide) (Nat.le_of_ble_eq_true rfl) (Nat.le_of_ble_eq_true rfl) (Nat.le_of_ble_eq_true rfl) dX1_init_23 dX1_init_25 (fun q_3 L_3 σ_3 φ_3 ρ_3 hn_3 hx_3 hw_3 hp_3 ha_3 hr_3 => ?_)
  refine x_aload_n hE dX1_init_28 rfl 0 rfl ?_
  refine x_bipush (v := 12) hE dX1_init_29 (by decide) ?_
  refine x_np (t0 := 0) (ty := .int) (fty := (.array .int)) (ty0 := tyX1) (N0 := 12) (x := (12, .inl (fun _ => 0))) (j0 := 6) hE hI hw_3 rfl inZX1 tyX1_ok nmX1 (by decide) q330 rfl rfl rfl (by decide +kernel) (fun _ => ⟨rfl, rfl⟩) rfl (fun _ h => nomatch h) q207 rfl (fun _ => rfl) (fun _ => rfl) (fun _ => rfl) (by decide) (by decide) (Nat.le_of_ble_eq_true rfl) (Nat.le_of_ble_eq_true rfl) (Nat.le_of_ble_eq_true rfl) dX1_init_31 dX1_init_33 (fun q_4 L_4 σ_4 φ_4 ρ_4 hn_4 hx_4 hw_4 hp_4 ha_4 hr_4 => ?_)
  refine x_aload_n hE dX1_init_36 rfl 0 rfl ?_
  refine x_bipush (v := 12) hE dX1_init_37 (by decide) ?_
  refine x_np (t0 := 2) (ty := .boolean) (fty := (.array .boolean)) (ty0 := tyX1) (N0 := 12) (x := (12, .inl (fun _ => 0))) (j0 := 7) hE hI hw_4 rfl inZX1 tyX1_ok nmX1 (by decide) q331 rfl rfl rfl (by decide +kernel) (fun _ => ⟨rfl, rfl⟩) rfl (fun _ h => nomatch h) q358 rfl (fun _ => rfl) (fun _ => rfl) (fun _ => rfl) (by decide) (by decide) (Nat.le_of_ble_eq_true rfl) (Nat.le_of_ble_eq_true rfl) (Nat.le_of_ble_eq_true rfl) dX1_init_39 dX1_init_41 (fun q_5 L_5 σ_5 φ_5 ρ_5 hn_5 hx_5 hw_5 hp_5 ha_5 hr_5 => ?_)
  refine x_aload_n hE dX1_init_44 rfl 0 rfl ?_
  refine x_bipush (v := 10) hE dX1_init_45 (by decide) ?_
  refine x_np (t0 := 2) (ty := .boolean) (fty := (.array .boolean)) (ty0 := tyX1) (N0 := 10) (x := (10, .inl (fun _ => 0))) (j0 := 8) hE hI hw_5 rfl inZX1 tyX1_ok nmX1 (by decide) q332 rfl rfl rfl (by decide +kernel) (fun _ => ⟨rfl, rfl⟩) rfl (fun _ h => nomatch h) q358 rfl (fun _ => rfl) (fun _ => rfl) (fun _ => rfl) (by decide) (by decide) (Nat.le_of_ble_eq_true rfl) (Nat.le_of_ble_eq_true rfl) (Nat.le_of_ble_eq_true rfl) dX1_init_47 dX1_init_49 (fun q_6 L_6 σ_6 φ_6 ρ_6 hn_6 hx_6 hw_6 hp_6 ha_6 hr_6 => ?_)
  refine x_aload_n hE dX1_init_52 rfl 0 rfl ?_
  refine x_bipush (v := 10) hE dX1_init_53 (by decide) ?_
  refine x_np (t0 := 0) (ty := .int) (fty := (.array .int)) (ty0 := tyX1) (N0 := 10) (x := (10, .inl (fun _ => 0))) (j0 := 9) hE hI hw_6 rfl inZX1 tyX1_ok nmX1 (by decide) q333 rfl rfl rfl (by decide +kernel) (fun _ => ⟨rfl, rfl⟩) rfl (fun _ h => nomatch h) q207 rfl (fun _ => rfl) (fun _ => rfl) (fun _ => rfl) (by decide) (by decide) (Nat.le_of_ble_eq_true rfl) (Nat.le_of_ble_eq_true rfl) (Nat.le_of_ble_eq_true rfl) dX1_init_55 dX1_init_57 (fun q_7 L_7 σ_7 φ_7 ρ_7 hn_7 hx_7 hw_7 hp_7 ha_7 hr_7 => ?_)
  refine x_aload_n hE dX1_init_60 rfl 0 rfl ?_
  refine x_bipush (v := 10) hE dX1_init_61 (by decide) ?_
  refine x_np (t0 := 0) (ty := .int) (fty := (.array .int)) (ty0 := tyX1) (N0 := 10) (x := (10, .inl (fun _ => 0))) (j0 := 10) hE hI hw_7 rfl inZX1 tyX1_ok nmX1 (by decide) q334 rfl rfl rfl (by decide +kernel) (fun _ => ⟨rfl, rfl⟩) rfl (fun _ h => nomatch h) q207 rfl (fun _ => rfl) (fun _ => rfl) (fun _ => rfl) (by decide) (by decide) (Nat.le_of_ble_eq_true rfl) (Nat.le_of_ble_eq_true rfl) (Nat.le_of_ble_eq_true rfl) dX1_init_63 dX1_init_65 (fun q_8 L_8 σ_8 φ_8 ρ_8 hn_8 hx_8 hw_8 hp_8 ha_8 hr_8 => ?_)
  have hX_8 := hx_8
  have hX_7 := hx_7.tr hX_8
  have hX_6 := hx_6.tr hX_7
  have hX_5 := hx_5.tr hX_6
  have hX_4 := hx_4.tr hX_5
  have hX_3 := hx_3.tr hX_4
  have hX_2 := hx_2.tr hX_3
  have hX_1 := hx_1.tr hX_2
  exact hret _ _ _ _ _ _ _ _ (Nat.le_of_ble_eq_true rfl) (Nat.le_of_ble_eq_true rfl) dX1_init_68 ⟨hX_1, ⟨q_1, q_2, q_3, q_4, q_5, q_6, q_7, q_8, hw_8, (hX_2.T ha_1 (zT.ne ha_1 hw_1 (by simp))), (hX_3.T ha_2 (zT.ne ha_2 hw_2 (by simp))), (hX_4.T ha_3 (zT.ne ha_3 hw_3 (by simp))), (hX_5.T ha_4 (zT.ne ha_4 hw_4 (by simp))), (hX_6.T ha_5 (zT.ne ha_5 hw_5 (by simp))), (hX_7.T ha_6 (zT.ne ha_6 hw_6 (by simp))), (hX_8.T ha_7 (zT.ne ha_7 hw_7 (by simp))), ha_8⟩, fun c i => by show φ_8 c i w = _; rw [hp_8, hp_7, hp_6, hp_5, hp_4, hp_3, hp_2, hp_1]⟩
-- Text()
set_option maxHeartbeats 4000000 in
set_option maxRecDepth 100000 in
theorem k_Text (l : Launch) (D : va_G) (cy : Nat → ClassId) (L : List Nat) (σ : Nat → va_E) (φ : Nat → Nat → Nat → Int32) (ρ : Nat → Nat → Int32) {w  : Nat} (hw_0 : zT L σ w (.inr (7, [.int 0, .null, .null, .null, .null, .int 0, .null, .null, .int 0, .null, .null, .null, .null]))) : zMV l D cy yX7_init cX7_init 1 (zrm 1 10 1316) [.ref w] L σ φ ρ (fun u => zX w L σ φ ρ u.1 u.2.1 u.2.2.1 u.2.2.2 ∧ zText cy u.1 u.2.1 w ∧ ∀ c i, u.2.2.1 c i w = φ c i w) := by
  refine zMV.mk (by decide) (Nat.le_of_ble_eq_true rfl) (fun E hE hI hret => ?_)
  have hI := hI rfl
  show zW E 0 0 L σ φ ρ 0 [(0, .ref w)] []
  refine x_aload_n hE dX7_init_0 rfl 0 rfl ?_
  refine x_objinit hE q642 q140 q141 dX7_init_1 (Nat.le_of_ble_eq_true rfl) (Nat.le_of_ble_eq_true rfl) ?_
  refine x_aload_n hE dX7_init_4 rfl 0 rfl ?_
  refine x_bipush (v := 24) hE dX7_init_5 (by decide) ?_
  refine x_np (t0 := 0) (ty := .int) (fty := (.array .int)) (ty0 := tyX7) (N0 := 24) (x := (24, .inl (fun _ => 0))) (j0 := 1) hE hI hw_0 rfl inZX7 tyX7_ok nmX7 (by decide) q645 rfl rfl rfl (by decide +kernel) (fun _ => ⟨rfl, rfl⟩) rfl (fun _ h => nomatch h) q207 rfl (fun _ => rfl) (fun _ => rfl) (fun _ => rfl) (by decide) (by decide) (Nat.le_of_ble_eq_true rfl) (Nat.le_of_ble_eq_true rfl) (Nat.le_of_ble_eq_true rfl) dX7_init_7 dX7_init_9 (fun q_1 L_1 σ_1 φ_1 ρ_1 hn_1 hx_1 hw_1 hp_1 ha_1 hr_1 => ?_)
  refine x_aload_n hE dX7_init_12 rfl 0 rfl ?_
  refine x_bipush (v := 72) hE dX7_init_13 (by decide) ?_
  refine x_np (t0 := 0) (ty := .int) (fty := (.array .int)) (ty0 := tyX7) (N0 := 72) (x := (72, .inl (fun _ => 0))) (j0 := 2) hE hI hw_1 rfl inZX7 tyX7_ok nmX7 (by decide) q648 rfl rfl rfl (by decide +kernel) (fun _ => ⟨rfl, rfl⟩) rfl (fun _ h => nomatch h) q207 rfl (fun _ => rfl) (fun _ => rfl) (fun _ => rfl) (by decide) (by decide) (Nat.le_of_ble_eq_true rfl) (Nat.le_of_ble_eq_true rfl) (Nat.le_of_ble_eq_true rfl) dX7_init_15 dX7_init_17 (fun q_2 L_2 σ_2 φ_2 ρ_2 hn_2 hx_2 hw_2 hp_2 ha_2 hr_2 => ?_)
  refine x_aload_n hE dX7_init_20 rfl 0 rfl ?_
  refine x_sipush (v := 300) hE dX7_init_21 (by decide) ?_
  refine x_np (t0 := 0) (ty := .int) (fty := (.array .int)) (ty0 := tyX7) (N0 := 300) (x := (300, .inl (fun _ => 0))) (j0 := 3) hE hI hw_2 rfl inZX7 tyX7_ok nmX7 (by decide) q651 rfl rfl rfl (by decide +kernel) (fun _ => ⟨rfl, rfl⟩) rfl (fun _ h => nomatch h) q207 rfl (fun _ => rfl) (fun _ => rfl) (fun _ => rfl) (by decide) (by decide) (Nat.le_of_ble_eq_true rfl) (Nat.le_of_ble_eq_true rfl) (Nat.le_of_ble_eq_true rfl) dX7_init_24 dX7_init_26 (fun q_3 L_3 σ_3 φ_3 ρ_3 hn_3 hx_3 hw_3 hp_3 ha_3 hr_3 => ?_)
  refine x_aload_n hE dX7_init_29 rfl 0 rfl ?_
  refine x_sipush (v := 300) hE dX7_init_30 (by decide) ?_
  refine x_np (t0 := 0) (ty := .int) (fty := (.array .int)) (ty0 := tyX7) (N0 := 300) (x := (300, .inl (fun _ => 0))) (j0 := 4) hE hI hw_3 rfl inZX7 tyX7_ok nmX7 (by decide) q653 rfl rfl rfl (by decide +kernel) (fun _ => ⟨rfl, rfl⟩) rfl (fun _ h => nomatch h) q207 rfl (fun _ => rfl) (fun _ => rfl) (fun _ => rfl) (by decide) (by decide) (Nat.le_of_ble_eq_true rfl) (Nat.le_of_ble_eq_true rfl) (Nat.le_of_ble_eq_true rfl) dX7_init_33 dX7_init_35 (fun q_4 L_4 σ_4 φ_4 ρ_4 hn_4 hx_4 hw_4 hp_4 ha_4 hr_4 => ?_)
  refine x_aload_n hE dX7_init_38 rfl 0 rfl ?_
  refine x_sipush (v := 300) hE dX7_init_39 (by decide) ?_
  refine x_np (t0 := 0) (ty := .int) (fty := (.array .int)) (ty0 := tyX7) (N0 := 300) (x := (300, .inl (fun _ => 0))) (j0 := 6) hE hI hw_4 rfl inZX7 tyX7_ok nmX7 (by decide) q657 rfl rfl rfl (by decide +kernel) (fun _ => ⟨rfl, rfl⟩) rfl (fun _ h => nomatch h) q207 rfl (fun _ => rfl) (fun _ => rfl) (fun _ => rfl) (by decide) (by decide) (Nat.le_of_ble_eq_true rfl) (Nat.le_of_ble_eq_true rfl) (Nat.le_of_ble_eq_true rfl) dX7_init_42 dX7_init_44 (fun q_5 L_5 σ_5 φ_5 ρ_5 hn_5 hx_5 hw_5 hp_5 ha_5 hr_5 => ?_)
  refine x_aload_n hE dX7_init_47 rfl 0 rfl ?_
  refine x_sipush (v := 300) hE dX7_init_48 (by decide) ?_
  refine x_np (t0 := 0) (ty := .int) (fty := (.array .int)) (ty0 := tyX7) (N0 := 300) (x := (300, .inl (fun _ => 0))) (j0 := 7) hE hI hw_5 rfl inZX7 tyX7_ok nmX7 (by decide) q660 rfl rfl rfl (by decide +kernel) (fun _ => ⟨rfl, rfl⟩) rfl (fun _ h => nomatch h) q207 rfl (fun _ => rfl) (fun _ => rfl) (fun _ => rfl) (by decide) (by decide) (Nat.le_of_ble_eq_true rfl) (Nat.le_of_ble_eq_true rfl) (Nat.le_of_ble_eq_true rfl) dX7_init_51 dX7_init_53 (fun q_6 L_6 σ_6 φ_6 ρ_6 hn_6 hx_6 hw_6 hp_6 ha_6 hr_6 => ?_)
  refine x_aload_n hE dX7_init_56 rfl 0 rfl ?_
  refine x_iconst (v := 5) hE dX7_init_57 (by decide) ?_
  refine x_np (t0 := 0) (ty := .int) (fty := (.array .int)) (ty0 := tyX7) (N0 := 5) (x := (5, .inl (fun _ => 0))) (j0 := 9) hE hI hw_6 rfl inZX7 tyX7_ok nmX7 (by decide) q664 rfl rfl rfl (by decide +kernel) (fun _ => ⟨rfl, rfl⟩) rfl (fun _ h => nomatch h) q207 rfl (fun _ => rfl) (fun _ => rfl) (fun _ => rfl) (by decide) (by decide) (Nat.le_of_ble_eq_true rfl) (Nat.le_of_ble_eq_true rfl) (Nat.le_of_ble_eq_true rfl) dX7_init_58 dX7_init_60 (fun q_7 L_7 σ_7 φ_7 ρ_7 hn_7 hx_7 hw_7 hp_7 ha_7 hr_7 => ?_)
  refine x_aload_n hE dX7_init_63 rfl 0 rfl ?_
  refine x_iconst (v := 5) hE dX7_init_64 (by decide) ?_
  refine x_np (t0 := 0) (ty := .int) (fty := (.array .int)) (ty0 := tyX7) (N0 := 5) (x := (5, .inl (fun _ => 0))) (j0 := 10) hE hI hw_7 rfl inZX7 tyX7_ok nmX7 (by decide) q667 rfl rfl rfl (by decide +kernel) (fun _ => ⟨rfl, rfl⟩) rfl (fun _ h => nomatch h) q207 rfl (fun _ => rfl) (fun _ => rfl) (fun _ => rfl) (by decide) (by decide) (Nat.le_of_ble_eq_true rfl) (Nat.le_of_ble_eq_true rfl) (Nat.le_of_ble_eq_true rfl) dX7_init_65 dX7_init_67 (fun q_8 L_8 σ_8 φ_8 ρ_8 hn_8 hx_8 hw_8 hp_8 ha_8 hr_8 => ?_)
  refine x_aload_n hE dX7_init_70 rfl 0 rfl ?_
  refine x_iconst (v := 5) hE dX7_init_71 (by decide) ?_
  refine x_np (t0 := 0) (ty := .int) (fty := (.array .int)) (ty0 := tyX7) (N0 := 5) (x := (5, .inl (fun _ => 0))) (j0 := 11) hE hI hw_8 rfl inZX7 tyX7_ok nmX7 (by decide) q670 rfl rfl rfl (by decide +kernel) (fun _ => ⟨rfl, rfl⟩) rfl (fun _ h => nomatch h) q207 rfl (fun _ => rfl) (fun _ => rfl) (fun _ => rfl) (by decide) (by decide) (Nat.le_of_ble_eq_true rfl) (Nat.le_of_ble_eq_true rfl) (Nat.le_of_ble_eq_true rfl) dX7_init_72 dX7_init_74 (fun q_9 L_9 σ_9 φ_9 ρ_9 hn_9 hx_9 hw_9 hp_9 ha_9 hr_9 => ?_)
  refine x_aload_n hE dX7_init_77 rfl 0 rfl ?_
  refine x_iconst (v := 5) hE dX7_init_78 (by decide) ?_
  refine x_np (t0 := 0) (ty := .int) (fty := (.array .int)) (ty0 := tyX7) (N0 := 5) (x := (5, .inl (fun _ => 0))) (j0 := 12) hE hI hw_9 rfl inZX7 tyX7_ok nmX7 (by decide) q673 rfl rfl rfl (by decide +kernel) (fun _ => ⟨rfl, rfl⟩) rfl (fun _ h => nomatch h) q207 rfl (fun _ => rfl) (fun _ => rfl) (fun _ => rfl) (by decide) (by decide) (Nat.le_of_ble_eq_true rfl) (Nat.le_of_ble_eq_true rfl) (Nat.le_of_ble_eq_true rfl) dX7_init_79 dX7_init_81 (fun q_10 L_10 σ_10 φ_10 ρ_10 hn_10 hx_10 hw_10 hp_10 ha_10 hr_10 => ?_)
  have hX_10 := hx_10
  have hX_9 := hx_9.tr hX_10
  have hX_8 := hx_8.tr hX_9
  have hX_7 := hx_7.tr hX_8
  have hX_6 := hx_6.tr hX_7
  have hX_5 := hx_5.tr hX_6
  have hX_4 := hx_4.tr hX_5
  have hX_3 := hx_3.tr hX_4
  have hX_2 := hx_2.tr hX_3
  have hX_1 := hx_1.tr hX_2
  exact hret _ _ _ _ _ _ _ _ (Nat.le_of_ble_eq_true rfl) (Nat.le_of_ble_eq_true rfl) dX7_init_84 ⟨hX_1, ⟨q_1, q_2, q_3, q_4, q_5, q_6, q_7, q_8, q_9, q_10, hw_10, (hX_2.T ha_1 (zT.ne ha_1 hw_1 (by simp))), (hX_3.T ha_2 (zT.ne ha_2 hw_2 (by simp))), (hX_4.T ha_3 (zT.ne ha_3 hw_3 (by simp))), (hX_5.T ha_4 (zT.ne ha_4 hw_4 (by simp))), (hX_6.T ha_5 (zT.ne ha_5 hw_5 (by simp))), (hX_7.T ha_6 (zT.ne ha_6 hw_6 (by simp))), (hX_8.T ha_7 (zT.ne ha_7 hw_7 (by simp))), (hX_9.T ha_8 (zT.ne ha_8 hw_8 (by simp))), (hX_10.T ha_9 (zT.ne ha_9 hw_9 (by simp))), ha_10⟩, fun c i => by show φ_10 c i w = _; rw [hp_10, hp_9, hp_8, hp_7, hp_6, hp_5, hp_4, hp_3, hp_2, hp_1]⟩
-- Tape()
set_option maxHeartbeats 4000000 in
set_option maxRecDepth 100000 in
theorem k_Tape (l : Launch) (D : va_G) (cy : Nat → ClassId) (L : List Nat) (σ : Nat → va_E) (φ : Nat → Nat → Nat → Int32) (ρ : Nat → Nat → Int32) {w  : Nat} (hw_0 : zT L σ w (.inr (6, [.int 0, .int 0, .null, .null, .null, .null]))) : zMV l D cy yX6_init cX6_init 1 (zrm 1 4 1203) [.ref w] L σ φ ρ (fun u => zX w L σ φ ρ u.1 u.2.1 u.2.2.1 u.2.2.2 ∧ zTape cy u.1 u.2.1 w ∧ ∀ c i, u.2.2.1 c i w = φ c i w) := by
  refine zMV.mk (by decide) (Nat.le_of_ble_eq_true rfl) (fun E hE hI hret => ?_)
  have hI := hI rfl
  show zW E 0 0 L σ φ ρ 0 [(0, .ref w)] []
  refine x_aload_n hE dX6_init_0 rfl 0 rfl ?_
  refine x_objinit hE q400 q140 q141 dX6_init_1 (Nat.le_of_ble_eq_true rfl) (Nat.le_of_ble_eq_true rfl) ?_
  refine x_aload_n hE dX6_init_4 rfl 0 rfl ?_
  refine x_sipush (v := 301) hE dX6_init_5 (by decide) ?_
  refine x_np (t0 := 0) (ty := .int) (fty := (.array .int)) (ty0 := tyX6) (N0 := 301) (x := (301, .inl (fun _ => 0))) (j0 := 2) hE hI hw_0 rfl inZX6 tyX6_ok nmX6 (by decide) q406 rfl rfl rfl (by decide +kernel) (fun _ => ⟨rfl, rfl⟩) rfl (fun _ h => nomatch h) q207 rfl (fun _ => rfl) (fun _ => rfl) (fun _ => rfl) (by decide) (by decide) (Nat.le_of_ble_eq_true rfl) (Nat.le_of_ble_eq_true rfl) (Nat.le_of_ble_eq_true rfl) dX6_init_8 dX6_init_10 (fun q_1 L_1 σ_1 φ_1 ρ_1 hn_1 hx_1 hw_1 hp_1 ha_1 hr_1 => ?_)
  refine x_aload_n hE dX6_init_13 rfl 0 rfl ?_
  refine x_sipush (v := 301) hE dX6_init_14 (by decide) ?_
  refine x_np (t0 := 0) (ty := .int) (fty := (.array .int)) (ty0 := tyX6) (N0 := 301) (x := (301, .inl (fun _ => 0))) (j0 := 3) hE hI hw_1 rfl inZX6 tyX6_ok nmX6 (by decide) q408 rfl rfl rfl (by decide +kernel) (fun _ => ⟨rfl, rfl⟩) rfl (fun _ h => nomatch h) q207 rfl (fun _ => rfl) (fun _ => rfl) (fun _ => rfl) (by decide) (by decide) (Nat.le_of_ble_eq_true rfl) (Nat.le_of_ble_eq_true rfl) (Nat.le_of_ble_eq_true rfl) dX6_init_17 dX6_init_19 (fun q_2 L_2 σ_2 φ_2 ρ_2 hn_2 hx_2 hw_2 hp_2 ha_2 hr_2 => ?_)
  refine x_aload_n hE dX6_init_22 rfl 0 rfl ?_
  refine x_sipush (v := 301) hE dX6_init_23 (by decide) ?_
  refine x_np (t0 := 0) (ty := .int) (fty := (.array .int)) (ty0 := tyX6) (N0 := 301) (x := (301, .inl (fun _ => 0))) (j0 := 4) hE hI hw_2 rfl inZX6 tyX6_ok nmX6 (by decide) q410 rfl rfl rfl (by decide +kernel) (fun _ => ⟨rfl, rfl⟩) rfl (fun _ h => nomatch h) q207 rfl (fun _ => rfl) (fun _ => rfl) (fun _ => rfl) (by decide) (by decide) (Nat.le_of_ble_eq_true rfl) (Nat.le_of_ble_eq_true rfl) (Nat.le_of_ble_eq_true rfl) dX6_init_26 dX6_init_28 (fun q_3 L_3 σ_3 φ_3 ρ_3 hn_3 hx_3 hw_3 hp_3 ha_3 hr_3 => ?_)
  refine x_aload_n hE dX6_init_31 rfl 0 rfl ?_
  refine x_sipush (v := 300) hE dX6_init_32 (by decide) ?_
  refine x_np (t0 := 0) (ty := .int) (fty := (.array .int)) (ty0 := tyX6) (N0 := 300) (x := (300, .inl (fun _ => 0))) (j0 := 5) hE hI hw_3 rfl inZX6 tyX6_ok nmX6 (by decide) q412 rfl rfl rfl (by decide +kernel) (fun _ => ⟨rfl, rfl⟩) rfl (fun _ h => nomatch h) q207 rfl (fun _ => rfl) (fun _ => rfl) (fun _ => rfl) (by decide) (by decide) (Nat.le_of_ble_eq_true rfl) (Nat.le_of_ble_eq_true rfl) (Nat.le_of_ble_eq_true rfl) dX6_init_35 dX6_init_37 (fun q_4 L_4 σ_4 φ_4 ρ_4 hn_4 hx_4 hw_4 hp_4 ha_4 hr_4 => ?_)
  have hX_4 := hx_4
  have hX_3 := hx_3.tr hX_4
  have hX_2 := hx_2.tr hX_3
  have hX_1 := hx_1.tr hX_2
  exact hret _ _ _ _ _ _ _ _ (Nat.le_of_ble_eq_true rfl) (Nat.le_of_ble_eq_true rfl) dX6_init_40 ⟨hX_1, ⟨q_1, q_2, q_3, q_4, hw_4, (hX_2.T ha_1 (zT.ne ha_1 hw_1 (by simp))), (hX_3.T ha_2 (zT.ne ha_2 hw_2 (by simp))), (hX_4.T ha_3 (zT.ne ha_3 hw_3 (by simp))), ha_4, (fun h => hn_2 (h ▸ ha_1.1)), (fun h => hn_3 (h ▸ hx_2.1 _ ha_1.1))⟩, fun c i => by show φ_4 c i w = _; rw [hp_4, hp_3, hp_2, hp_1]⟩
-- Reader(t)
set_option maxHeartbeats 4000000 in
set_option maxRecDepth 100000 in
theorem k_Reader (l : Launch) (D : va_G) (cy : Nat → ClassId) (L : List Nat) (σ : Nat → va_E) (φ : Nat → Nat → Nat → Int32) (ρ : Nat → Nat → Int32) {w t : Nat} (hw_0 : zT L σ w (.inr (3, [.int 0, .int 0, .null, .null, .int 0, .int 0, .int 0]))) : zMV l D cy yX3_init cX3_init 2 (zrm 1 0 0) [.ref w, .ref t] L σ φ ρ (fun u => zX w L σ φ ρ u.1 u.2.1 u.2.2.1 u.2.2.2 ∧ zReader u.1 u.2.1 w t ∧ ∀ c i, u.2.2.1 c i w = if c = 3 ∧ i = 1 then -1 else if c = 3 ∧ i = 0 then -1 else φ c i w) := by
  refine zMV.mk (by decide) (Nat.le_of_ble_eq_true rfl) (fun E hE hI hret => ?_)
  have hI := hI rfl
  show zW E 0 0 L σ φ ρ 0 [(0, .ref w), (1, .ref t)] []
  refine x_aload_n hE dX3_init_0 rfl 0 rfl ?_
  refine x_objinit hE q431 q140 q141 dX3_init_1 (Nat.le_of_ble_eq_true rfl) (Nat.le_of_ble_eq_true rfl) ?_
  refine x_aload_n hE dX3_init_4 rfl 0 rfl ?_
  refine x_iconst (v := -1) hE dX3_init_5 (by decide) ?_
  refine x_puti (ty := .int) (ty0 := tyX3) (j0 := 0) (v := -1) hE hw_0 rfl inZX3 tyX3_ok nmX3 (by decide) q432 rfl rfl (by decide +kernel) rfl rfl dX3_init_6 (fun φ_1 hx_1 hp_1 => ?_)
  refine x_aload_n hE dX3_init_9 rfl 0 rfl ?_
  refine x_iconst (v := -1) hE dX3_init_10 (by decide) ?_
  refine x_puti (ty := .int) (ty0 := tyX3) (j0 := 1) (v := -1) hE hw_0 rfl inZX3 tyX3_ok nmX3 (by decide) q434 rfl rfl (by decide +kernel) rfl rfl dX3_init_11 (fun φ_2 hx_2 hp_2 => ?_)
  refine x_aload_n hE dX3_init_14 rfl 0 rfl ?_
  refine x_aload_n hE dX3_init_15 rfl 1 rfl ?_
  refine x_putr (ty := .object "OwnRain$Tape") (ty0 := tyX3) (j0 := 2) hE (Or.inl ⟨hI, rfl, rfl⟩) hw_0 rfl inZX3 tyX3_ok nmX3 (by decide) q436 ⟨_, rfl, Or.inl rfl⟩ (by decide +kernel) rfl rfl dX3_init_16 (fun σ_3 hx_3 hw_3 => ?_)
  have hX_3 := hx_3
  have hX_2 := hx_2.tr hX_3
  have hX_1 := hx_1.tr hX_2
  exact hret _ _ _ _ _ _ _ _ (Nat.le_of_ble_eq_true rfl) (Nat.le_of_ble_eq_true rfl) dX3_init_19 ⟨hX_1, hw_3, fun c i => by show φ_2 c i w = _; rw [hp_2, hp_1]⟩
-- Weather(s)
set_option maxHeartbeats 4000000 in
set_option maxRecDepth 100000 in
theorem k_Weather (l : Launch) (D : va_G) (cy : Nat → ClassId) (L : List Nat) (σ : Nat → va_E) (φ : Nat → Nat → Nat → Int32) (ρ : Nat → Nat → Int32) {w s : Nat} (hw_0 : zT L σ w (.inr (9, [.int 0, .null, .null, .int 0, .null, .null, .null, .null, .int 0, .int 0]))) : zMV l D cy yX9_init cX9_init 2 (zrm 1 4 410) [.ref w, .ref s] L σ φ ρ (fun u => zX w L σ φ ρ u.1 u.2.1 u.2.2.1 u.2.2.2 ∧ zWeather cy u.1 u.2.1 w s ∧ ∀ c i, u.2.2.1 c i w = if c = 9 ∧ i = 0 then -1 else φ c i w) := by
  refine zMV.mk (by decide) (Nat.le_of_ble_eq_true rfl) (fun E hE hI hret => ?_)
  have hI := hI rfl
  show zW E 0 0 L σ φ ρ 0 [(0, .ref w), (1, .ref s)] []
  refine x_aload_n hE dX9_init_0 rfl 0 rfl ?_
  refine x_objinit hE q461 q140 q141 dX9_init_1 (Nat.le_of_ble_eq_true rfl) (Nat.le_of_ble_eq_true rfl) ?_
  refine x_aload_n hE dX9_init_4 rfl 0 rfl ?_
  refine x_iconst (v := -1) hE dX9_init_5 (by decide) ?_
  refine x_puti (ty := .int) (ty0 := tyX9) (j0 := 0) (v := -1) hE hw_0 rfl inZX9 tyX9_ok nmX9 (by decide) q462 rfl rfl (by decide +kernel) rfl rfl dX9_init_6 (fun φ_1 hx_1 hp_1 => ?_)
  refine x_aload_n hE dX9_init_9 rfl 0 rfl ?_
  refine x_bipush (v := 8) hE dX9_init_10 (by decide) ?_
  refine x_np (t0 := 0) (ty := .int) (fty := (.array .int)) (ty0 := tyX9) (N0 := 8) (x := (8, .inl (fun _ => 0))) (j0 := 1) hE hI hw_0 rfl inZX9 tyX9_ok nmX9 (by decide) q464 rfl rfl rfl (by decide +kernel) (fun _ => ⟨rfl, rfl⟩) rfl (fun _ h => nomatch h) q207 rfl (fun _ => rfl) (fun _ => rfl) (fun _ => rfl) (by decide) (by decide) (Nat.le_of_ble_eq_true rfl) (Nat.le_of_ble_eq_true rfl) (Nat.le_of_ble_eq_true rfl) dX9_init_12 dX9_init_14 (fun q_2 L_2 σ_2 φ_2 ρ_2 hn_2 hx_2 hw_2 hp_2 ha_2 hr_2 => ?_)
  refine x_aload_n hE dX9_init_17 rfl 0 rfl ?_
  refine x_bipush (v := 6) hE dX9_init_18 (by decide) ?_
  refine x_np (t0 := 0) (ty := .int) (fty := (.array .int)) (ty0 := tyX9) (N0 := 6) (x := (6, .inl (fun _ => 0))) (j0 := 2) hE hI hw_2 rfl inZX9 tyX9_ok nmX9 (by decide) q466 rfl rfl rfl (by decide +kernel) (fun _ => ⟨rfl, rfl⟩) rfl (fun _ h => nomatch h) q207 rfl (fun _ => rfl) (fun _ => rfl) (fun _ => rfl) (by decide) (by decide) (Nat.le_of_ble_eq_true rfl) (Nat.le_of_ble_eq_true rfl) (Nat.le_of_ble_eq_true rfl) dX9_init_20 dX9_init_22 (fun q_3 L_3 σ_3 φ_3 ρ_3 hn_3 hx_3 hw_3 hp_3 ha_3 hr_3 => ?_)
  refine x_aload_n hE dX9_init_25 rfl 0 rfl ?_
  refine x_bipush (v := 96) hE dX9_init_26 (by decide) ?_
  refine x_np (t0 := 0) (ty := .int) (fty := (.array .int)) (ty0 := tyX9) (N0 := 96) (x := (96, .inl (fun _ => 0))) (j0 := 5) hE hI hw_3 rfl inZX9 tyX9_ok nmX9 (by decide) q471 rfl rfl rfl (by decide +kernel) (fun _ => ⟨rfl, rfl⟩) rfl (fun _ h => nomatch h) q207 rfl (fun _ => rfl) (fun _ => rfl) (fun _ => rfl) (by decide) (by decide) (Nat.le_of_ble_eq_true rfl) (Nat.le_of_ble_eq_true rfl) (Nat.le_of_ble_eq_true rfl) dX9_init_28 dX9_init_30 (fun q_4 L_4 σ_4 φ_4 ρ_4 hn_4 hx_4 hw_4 hp_4 ha_4 hr_4 => ?_)
  refine x_aload_n hE dX9_init_33 rfl 0 rfl ?_
  refine x_sipush (v := 300) hE dX9_init_34 (by decide) ?_
  refine x_np (t0 := 0) (ty := .int) (fty := (.array .int)) (ty0 := tyX9) (N0 := 300) (x := (300, .inl (fun _ => 0))) (j0 := 6) hE hI hw_4 rfl inZX9 tyX9_ok nmX9 (by decide) q472 rfl rfl rfl (by decide +kernel) (fun _ => ⟨rfl, rfl⟩) rfl (fun _ h => nomatch h) q207 rfl (fun _ => rfl) (fun _ => rfl) (fun _ => rfl) (by decide) (by decide) (Nat.le_of_ble_eq_true rfl) (Nat.le_of_ble_eq_true rfl) (Nat.le_of_ble_eq_true rfl) dX9_init_37 dX9_init_39 (fun q_5 L_5 σ_5 φ_5 ρ_5 hn_5 hx_5 hw_5 hp_5 ha_5 hr_5 => ?_)
  refine x_aload_n hE dX9_init_42 rfl 0 rfl ?_
  refine x_aload_n hE dX9_init_43 rfl 1 rfl ?_
  refine x_putr (ty := .object "OwnRain$State") (ty0 := tyX9) (j0 := 4) hE (Or.inl ⟨hI, rfl, rfl⟩) hw_5 rfl inZX9 tyX9_ok nmX9 (by decide) q470 ⟨_, rfl, Or.inl rfl⟩ (by decide +kernel) rfl rfl dX9_init_44 (fun σ_6 hx_6 hw_6 => ?_)
  have hX_6 := hx_6
  have hX_5 := hx_5.tr hX_6
  have hX_4 := hx_4.tr hX_5
  have hX_3 := hx_3.tr hX_4
  have hX_2 := hx_2.tr hX_3
  have hX_1 := hx_1.tr hX_2
  exact hret _ _ _ _ _ _ _ _ (Nat.le_of_ble_eq_true rfl) (Nat.le_of_ble_eq_true rfl) dX9_init_47 ⟨hX_1, ⟨q_2, q_3, q_4, q_5, hw_6, (hX_3.T ha_2 (zT.ne ha_2 hw_2 (by simp))), (hX_4.T ha_3 (zT.ne ha_3 hw_3 (by simp))), (hX_5.T ha_4 (zT.ne ha_4 hw_4 (by simp))), (hX_6.T ha_5 (zT.ne ha_5 hw_5 (by simp)))⟩, fun c i => by show φ_5 c i w = _; rw [hp_5, hp_4, hp_3, hp_2, hp_1]⟩
-- Ways(s)
set_option maxHeartbeats 4000000 in
set_option maxRecDepth 100000 in
theorem k_Ways (l : Launch) (D : va_G) (cy : Nat → ClassId) (L : List Nat) (σ : Nat → va_E) (φ : Nat → Nat → Nat → Int32) (ρ : Nat → Nat → Int32) {w s : Nat} (hw_0 : zT L σ w (.inr (8, [.null, .null, .null]))) : zMV l D cy yX8_init cX8_init 2 (zrm 1 2 12) [.ref w, .ref s] L σ φ ρ (fun u => zX w L σ φ ρ u.1 u.2.1 u.2.2.1 u.2.2.2 ∧ zWays cy u.1 u.2.1 w s ∧ ∀ c i, u.2.2.1 c i w = φ c i w) := by
  refine zMV.mk (by decide) (Nat.le_of_ble_eq_true rfl) (fun E hE hI hret => ?_)
  have hI := hI rfl
  show zW E 0 0 L σ φ ρ 0 [(0, .ref w), (1, .ref s)] []
  refine x_aload_n hE dX8_init_0 rfl 0 rfl ?_
  refine x_objinit hE q544 q140 q141 dX8_init_1 (Nat.le_of_ble_eq_true rfl) (Nat.le_of_ble_eq_true rfl) ?_
  refine x_aload_n hE dX8_init_4 rfl 0 rfl ?_
  refine x_bipush (v := 6) hE dX8_init_5 (by decide) ?_
  refine x_np (t0 := 0) (ty := .int) (fty := (.array .int)) (ty0 := tyX8) (N0 := 6) (x := (6, .inl (fun _ => 0))) (j0 := 0) hE hI hw_0 rfl inZX8 tyX8_ok nmX8 (by decide) q545 rfl rfl rfl (by decide +kernel) (fun _ => ⟨rfl, rfl⟩) rfl (fun _ h => nomatch h) q207 rfl (fun _ => rfl) (fun _ => rfl) (fun _ => rfl) (by decide) (by decide) (Nat.le_of_ble_eq_true rfl) (Nat.le_of_ble_eq_true rfl) (Nat.le_of_ble_eq_true rfl) dX8_init_7 dX8_init_9 (fun q_1 L_1 σ_1 φ_1 ρ_1 hn_1 hx_1 hw_1 hp_1 ha_1 hr_1 => ?_)
  refine x_aload_n hE dX8_init_12 rfl 0 rfl ?_
  refine x_bipush (v := 6) hE dX8_init_13 (by decide) ?_
  refine x_np (t0 := 0) (ty := .int) (fty := (.array .int)) (ty0 := tyX8) (N0 := 6) (x := (6, .inl (fun _ => 0))) (j0 := 1) hE hI hw_1 rfl inZX8 tyX8_ok nmX8 (by decide) q547 rfl rfl rfl (by decide +kernel) (fun _ => ⟨rfl, rfl⟩) rfl (fun _ h => nomatch h) q207 rfl (fun _ => rfl) (fun _ => rfl) (fun _ => rfl) (by decide) (by decide) (Nat.le_of_ble_eq_true rfl) (Nat.le_of_ble_eq_true rfl) (Nat.le_of_ble_eq_true rfl) dX8_init_15 dX8_init_17 (fun q_2 L_2 σ_2 φ_2 ρ_2 hn_2 hx_2 hw_2 hp_2 ha_2 hr_2 => ?_)
  refine x_aload_n hE dX8_init_20 rfl 0 rfl ?_
  refine x_aload_n hE dX8_init_21 rfl 1 rfl ?_
  refine x_putr (ty := .object "OwnRain$State") (ty0 := tyX8) (j0 := 2) hE (Or.inl ⟨hI, rfl, rfl⟩) hw_2 rfl inZX8 tyX8_ok nmX8 (by decide) q548 ⟨_, rfl, Or.inl rfl⟩ (by decide +kernel) rfl rfl dX8_init_22 (fun σ_3 hx_3 hw_3 => ?_)
  have hX_3 := hx_3
  have hX_2 := hx_2.tr hX_3
  have hX_1 := hx_1.tr hX_2
  exact hret _ _ _ _ _ _ _ _ (Nat.le_of_ble_eq_true rfl) (Nat.le_of_ble_eq_true rfl) dX8_init_25 ⟨hX_1, ⟨q_1, q_2, hw_3, (hX_2.T ha_1 (zT.ne ha_1 hw_1 (by simp))), (hX_3.T ha_2 (zT.ne ha_2 hw_2 (by simp)))⟩, fun c i => by show φ_2 c i w = _; rw [hp_2, hp_1]⟩
end
section
theorem dX2_init_0 : decode cX2_init 0 = .ok (.aload_n 0, 1) := by decide +kernel
theorem dX2_init_1 : decode cX2_init 1 = .ok (.invokespecial 3, 3) := by decide +kernel
theorem dX2_init_4 : decode cX2_init 4 = .ok (.aload_n 0, 1) := by decide +kernel
theorem dX2_init_5 : decode cX2_init 5 = .ok (.iconst 5, 1) := by decide +kernel
theorem dX2_init_6 : decode cX2_init 6 = .ok (.newarray .int, 2) := by decide +kernel
theorem dX2_init_8 : decode cX2_init 8 = .ok (.putfield 9, 3) := by decide +kernel
theorem dX2_init_11 : decode cX2_init 11 = .ok (.aload_n 0, 1) := by decide +kernel
theorem dX2_init_12 : decode cX2_init 12 = .ok (.bipush 6, 2) := by decide +kernel
theorem dX2_init_14 : decode cX2_init 14 = .ok (.anewarray 15, 3) := by decide +kernel
theorem dX2_init_17 : decode cX2_init 17 = .ok (.putfield 17, 3) := by decide +kernel
theorem dX2_init_20 : decode cX2_init 20 = .ok (.aload_n 0, 1) := by decide +kernel
theorem dX2_init_21 : decode cX2_init 21 = .ok (.iconst 5, 1) := by decide +kernel
theorem dX2_init_22 : decode cX2_init 22 = .ok (.newarray .int, 2) := by decide +kernel
theorem dX2_init_24 : decode cX2_init 24 = .ok (.putfield 21, 3) := by decide +kernel
theorem dX2_init_27 : decode cX2_init 27 = .ok (.aload_n 0, 1) := by decide +kernel
theorem dX2_init_28 : decode cX2_init 28 = .ok (.bipush 6, 2) := by decide +kernel
theorem dX2_init_30 : decode cX2_init 30 = .ok (.newarray .int, 2) := by decide +kernel
theorem dX2_init_32 : decode cX2_init 32 = .ok (.putfield 24, 3) := by decide +kernel
theorem dX2_init_35 : decode cX2_init 35 = .ok (.aload_n 0, 1) := by decide +kernel
theorem dX2_init_36 : decode cX2_init 36 = .ok (.bipush 8, 2) := by decide +kernel
theorem dX2_init_38 : decode cX2_init 38 = .ok (.newarray .int, 2) := by decide +kernel
theorem dX2_init_40 : decode cX2_init 40 = .ok (.putfield 27, 3) := by decide +kernel
theorem dX2_init_43 : decode cX2_init 43 = .ok (.aload_n 0, 1) := by decide +kernel
theorem dX2_init_44 : decode cX2_init 44 = .ok (.bipush 48, 2) := by decide +kernel
theorem dX2_init_46 : decode cX2_init 46 = .ok (.newarray .int, 2) := by decide +kernel
theorem dX2_init_48 : decode cX2_init 48 = .ok (.putfield 30, 3) := by decide +kernel
theorem dX2_init_51 : decode cX2_init 51 = .ok (.aload_n 0, 1) := by decide +kernel
theorem dX2_init_52 : decode cX2_init 52 = .ok (.bipush 64, 2) := by decide +kernel
theorem dX2_init_54 : decode cX2_init 54 = .ok (.newarray .int, 2) := by decide +kernel
theorem dX2_init_56 : decode cX2_init 56 = .ok (.putfield 33, 3) := by decide +kernel
theorem dX2_init_59 : decode cX2_init 59 = .ok (.aload_n 0, 1) := by decide +kernel
theorem dX2_init_60 : decode cX2_init 60 = .ok (.aload_n 1, 1) := by decide +kernel
theorem dX2_init_61 : decode cX2_init 61 = .ok (.putfield 36, 3) := by decide +kernel
theorem dX2_init_64 : decode cX2_init 64 = .ok (.aload_n 0, 1) := by decide +kernel
theorem dX2_init_65 : decode cX2_init 65 = .ok (.aload_n 2, 1) := by decide +kernel
theorem dX2_init_66 : decode cX2_init 66 = .ok (.putfield 40, 3) := by decide +kernel
theorem dX2_init_69 : decode cX2_init 69 = .ok (.iconst 0, 1) := by decide +kernel
theorem dX2_init_70 : decode cX2_init 70 = .ok (.istore_n 3, 1) := by decide +kernel
theorem dX2_init_71 : decode cX2_init 71 = .ok (.iload_n 3, 1) := by decide +kernel
theorem dX2_init_72 : decode cX2_init 72 = .ok (.iconst 5, 1) := by decide +kernel
theorem dX2_init_73 : decode cX2_init 73 = .ok (.if_icmp .gt 22, 3) := by decide +kernel
theorem dX2_init_76 : decode cX2_init 76 = .ok (.aload_n 0, 1) := by decide +kernel
theorem dX2_init_77 : decode cX2_init 77 = .ok (.getfield 17, 3) := by decide +kernel
theorem dX2_init_80 : decode cX2_init 80 = .ok (.iload_n 3, 1) := by decide +kernel
theorem dX2_init_81 : decode cX2_init 81 = .ok (.new 15, 3) := by decide +kernel
theorem dX2_init_84 : decode cX2_init 84 = .ok (.dup, 1) := by decide +kernel
theorem dX2_init_85 : decode cX2_init 85 = .ok (.invokespecial 44, 3) := by decide +kernel
theorem dX2_init_88 : decode cX2_init 88 = .ok (.aastore, 1) := by decide +kernel
theorem dX2_init_89 : decode cX2_init 89 = .ok (.iinc 3 1, 3) := by decide +kernel
theorem dX2_init_92 : decode cX2_init 92 = .ok (.goto (-21), 3) := by decide +kernel
theorem dX2_init_95 : decode cX2_init 95 = .ok (.return_, 1) := by decide +kernel
theorem dX5_init_0 : decode cX5_init 0 = .ok (.aload_n 0, 1) := by decide +kernel
theorem dX5_init_1 : decode cX5_init 1 = .ok (.invokespecial 3, 3) := by decide +kernel
theorem dX5_init_4 : decode cX5_init 4 = .ok (.aload_n 0, 1) := by decide +kernel
theorem dX5_init_5 : decode cX5_init 5 = .ok (.bipush 30, 2) := by decide +kernel
theorem dX5_init_7 : decode cX5_init 7 = .ok (.anewarray 9, 3) := by decide +kernel
theorem dX5_init_10 : decode cX5_init 10 = .ok (.putfield 11, 3) := by decide +kernel
theorem dX5_init_13 : decode cX5_init 13 = .ok (.aload_n 0, 1) := by decide +kernel
theorem dX5_init_14 : decode cX5_init 14 = .ok (.bipush 30, 2) := by decide +kernel
theorem dX5_init_16 : decode cX5_init 16 = .ok (.newarray .int, 2) := by decide +kernel
theorem dX5_init_18 : decode cX5_init 18 = .ok (.putfield 17, 3) := by decide +kernel
theorem dX5_init_21 : decode cX5_init 21 = .ok (.iconst 0, 1) := by decide +kernel
theorem dX5_init_22 : decode cX5_init 22 = .ok (.istore_n 1, 1) := by decide +kernel
theorem dX5_init_23 : decode cX5_init 23 = .ok (.iload_n 1, 1) := by decide +kernel
theorem dX5_init_24 : decode cX5_init 24 = .ok (.bipush 30, 2) := by decide +kernel
theorem dX5_init_26 : decode cX5_init 26 = .ok (.if_icmp .ge 22, 3) := by decide +kernel
theorem dX5_init_29 : decode cX5_init 29 = .ok (.aload_n 0, 1) := by decide +kernel
theorem dX5_init_30 : decode cX5_init 30 = .ok (.getfield 11, 3) := by decide +kernel
theorem dX5_init_33 : decode cX5_init 33 = .ok (.iload_n 1, 1) := by decide +kernel
theorem dX5_init_34 : decode cX5_init 34 = .ok (.new 9, 3) := by decide +kernel
theorem dX5_init_37 : decode cX5_init 37 = .ok (.dup, 1) := by decide +kernel
theorem dX5_init_38 : decode cX5_init 38 = .ok (.invokespecial 21, 3) := by decide +kernel
theorem dX5_init_41 : decode cX5_init 41 = .ok (.aastore, 1) := by decide +kernel
theorem dX5_init_42 : decode cX5_init 42 = .ok (.iinc 1 1, 3) := by decide +kernel
theorem dX5_init_45 : decode cX5_init 45 = .ok (.goto (-22), 3) := by decide +kernel
theorem dX5_init_48 : decode cX5_init 48 = .ok (.return_, 1) := by decide +kernel
-- Steps()
set_option maxHeartbeats 4000000 in
set_option maxRecDepth 100000 in
theorem k_Steps (l : Launch) (D : va_G) (cy : Nat → ClassId) (L : List Nat) (σ : Nat → va_E) (φ : Nat → Nat → Nat → Int32) (ρ : Nat → Nat → Int32) {w  : Nat} (hw_0 : zT L σ w (.inr (5, [.int 0, .int 0, .null, .null]))) : zMV l D cy yX5_init cX5_init 2 (zrm 2 272 3570) [.ref w] L σ φ ρ (fun u => zX w L σ φ ρ u.1 u.2.1 u.2.2.1 u.2.2.2 ∧ (∃ g, zSteps cy u.1 u.2.1 w g ∧ zWs cy u.1 u.2.1 u.2.2.1 g 30) ∧ ∀ c i, u.2.2.1 c i w = φ c i w) := by
  refine zMV.mk (by decide) (Nat.le_of_ble_eq_true rfl) (fun E hE hI hret => ?_)
  have hI := hI rfl
  show zW E 0 0 L σ φ ρ 0 [(0, .ref w)] []
  refine x_aload_n hE dX5_init_0 rfl 0 rfl ?_
  refine x_objinit hE q293 q140 q141 dX5_init_1 (Nat.le_of_ble_eq_true rfl) (Nat.le_of_ble_eq_true rfl) ?_
  refine x_aload_n hE dX5_init_4 rfl 0 rfl ?_
  refine x_bipush (v := 30) hE dX5_init_5 (by decide) ?_
  refine x_nq (t0 := 4) (fty := .array (.object "OwnRain$World")) (ty0 := tyX5) (N0 := 30) (j0 := 2) hE hI hw_0 rfl inZX5 tyX5_ok nmX5 (by decide) q301 rfl rfl rfl (by decide +kernel) (fun _ => ⟨rfl, rfl⟩) q294 rfl (Or.inr rfl) (by decide) (by decide) (Nat.le_of_ble_eq_true rfl) (Nat.le_of_ble_eq_true rfl) (Nat.le_of_ble_eq_true rfl) dX5_init_7 dX5_init_10 (fun q_1 L_1 σ_1 φ_1 ρ_1 hn_1 hx_1 hw_1 hp_1 ha_1 => ?_)
  refine x_aload_n hE dX5_init_13 rfl 0 rfl ?_
  refine x_bipush (v := 30) hE dX5_init_14 (by decide) ?_
  refine x_np (t0 := 0) (ty := .int) (fty := (.array .int)) (ty0 := tyX5) (N0 := 30) (x := (30, .inl (fun _ => 0))) (j0 := 3) hE hI hw_1 rfl inZX5 tyX5_ok nmX5 (by decide) q302 rfl rfl rfl (by decide +kernel) (fun _ => ⟨rfl, rfl⟩) rfl (fun _ h => nomatch h) q207 rfl (fun _ => rfl) (fun _ => rfl) (fun _ => rfl) (by decide) (by decide) (Nat.le_of_ble_eq_true rfl) (Nat.le_of_ble_eq_true rfl) (Nat.le_of_ble_eq_true rfl) dX5_init_16 dX5_init_18 (fun q_2 L_2 σ_2 φ_2 ρ_2 hn_2 hx_2 hw_2 hp_2 ha_2 hr_2 => ?_)
  refine x_iconst (v := 0) hE dX5_init_21 (by decide) ?_
  refine x_istore_n (lv' := [(1, .int 0), (0, .ref w)]) hE dX5_init_22 rfl (by decide) rfl ?_
  have hX_2 := hx_2
  have hX_1 := hx_1.tr hX_2
  have hnar : q_1 ∉ L := fun h => hn_1 (h)
  have loop : ∀ (m i : Nat) (L' : List Nat) (σ' : Nat → va_E) (φ' : Nat → Nat → Nat → Int32) (ρ' : Nat → Nat → Int32) (g : Nat → Option Nat), i ≤ 30 → 30 - i < m → zX w L σ φ ρ L' σ' φ' ρ' → zT L' σ' w (.inr (5, [.int 0, .int 0, .ref q_1, .ref q_2])) → zT L' σ' q_1 (zRA (cy 4) 30 g) → zT L' σ' q_2 (zIA cy 30) → (∀ c j, φ' c j w = φ c j w) → zWs cy L' σ' φ' g i → zW E (2 + 9 * i) (60 + 117 * i) L' σ' φ' ρ' 23 [(1, .int (nI i)), (0, .ref w)] [] := by
    intro m
    induction m with
    | zero => intro i L' σ' φ' ρ' g h1 h2; omega
    | succ m ih =>
      intro i L' σ' φ' ρ' g hi hm hX hw har hb_2 hp hws
      rcases Nat.lt_or_ge i 30 with hlt | hge
      · refine x_iload_n hE dX5_init_23 rfl 0 rfl ?_
        refine x_bipush (v := 30) hE dX5_init_24 (by decide) ?_
        refine x_icmp_ge (tgt := 48) hE dX5_init_26 (by decide) (fun c_26 => absurd c_26 (fun h => Nat.not_le.mpr hlt ((nI_leI (a := 30) (by omega) (by omega)).mp h))) (fun c_26 => ?_)
        refine x_aload_n hE dX5_init_29 rfl 1 rfl ?_
        refine h_getr hE hw rfl inZX5 2 (by decide) q301 rfl dX5_init_30 ?_
        refine x_iload_n hE dX5_init_33 rfl 0 rfl ?_
        refine h_new (ci := 10) (fs := [.null, .null, .null, .null, .null, .null, .int 0, .int 0, .int 0, .int 0, .int 0, .int 0, .int 0, .null, .null]) (ty0 := tyX10) hE rfl inZX10 tyX10_ok q294 q209 q116 (by decide +kernel) rfl (fun c i => by by_cases hc : 10 = c <;> simp [zfI, hc] <;> (rcases i with _ | _ | _ | _ | _ | _ | _ | _ | _ | _ | _ | _ | _ | _ | _ | i <;> rfl)) (by simp only [zrm]; omega) (by simp only [zrm]; omega) dX5_init_34 (fun q_101 L_101 σ_101 φ_101 ρ_101 hn_101 hx_101 hw_101 hp_101 => ?_)
        refine x_dup hE dX5_init_37 rfl ?_
        refine c_v hE (r_IN (st := [.ref q_101, .int (nI i), .ref q_1]) hE (k_World l D cy L_101 σ_101 φ_101 ρ_101 hw_101) (by decide +kernel) q211 q116 q212 rfl ⟨by decide, by decide, pn_X10_init⟩ ⟨Nat.le_of_ble_eq_true rfl, Nat.le_of_ble_eq_true rfl⟩ ⟨by simp only [zrm]; omega, by simp only [zrm]; omega⟩ rfl (Nat.le_of_ble_eq_true rfl) dX5_init_38) (fun L2 σ2 φ2 ρ2 h2 => ?_)
        refine x_widen (k' := 2 + 9 * (i + 1)) (n' := 60 + 117 * (i + 1)) (by simp only [zrm]; omega) (by simp only [zrm]; omega) ?_
        obtain ⟨hX2, hW2, hp2⟩ := h2
        dsimp only at hX2 hW2 hp2
        have hne : ∀ b ∈ L', b ≠ q_101 := fun b hb h => hn_101 (h ▸ hb)
        have har2 := hX2.T (zX.all hx_101 har) (hne _ har.1)
        obtain ⟨_, _, _, _, _, _, _, _, hv2, -⟩ := id hW2
        refine h_aast (t0 := 4) (ci := 10) hE har2 hv2 rfl rfl (vp_in_nI hlt (by omega)) dX5_init_41 ?_
        rw [nI_clamp (show i < 2 ^ 31 by omega)]
        refine x_iinc (v := nI (i + 1)) (lv' := [(1, .int (nI (i + 1))), (0, .ref w)]) hE dX5_init_42 0 rfl (nI_1 i) (by decide) rfl ?_
        refine x_goto (tgt := 23) hE dX5_init_45 (by decide) ?_
        have tr : ∀ b e, zT L' σ' b e → b ≠ q_1 → zT L2 (va_up σ2 q_1 (zRA (cy 4) 30 (va_up g i (some q_101)))) b e := fun b e hb hn => (zX.up (φ := φ2) (ρ := ρ2)).T (hX2.T (zX.all hx_101 hb) (hne _ hb.1)) hn
        refine x_sub (lv' := [(1, .int (nI (i + 1))), (0, .ref w)]) (by simp) ?_
        exact ih (i + 1) L2 _ φ2 ρ2 (va_up g i (some q_101)) (by omega) (by omega) (((hX.tr (hx_101 w)).tr' (fun h => hn_101 (hX.1 _ h)) hX2).tr' hnar zX.up) (tr _ _ hw (zT.ne hw har (by simp [zRA]))) ⟨har2.1, va_up_self _ _ _⟩ (tr _ _ hb_2 (zT.ne hb_2 har (by simp [zRA]))) (fun c j => ((hX2.2 w ((hx_101 w).1 w hw.1) (hne w hw.1)).2.1 c j).trans ((((hx_101 q_101).2 w hw.1 (hne w hw.1)).2.1 c j).trans (hp c j))) (hws.next hn_101 hx_101 hw_101 hX2 hW2 (by rw [hp2, hp_101]; rfl) har2)
      · have hi30 : i = 30 := by omega
        subst hi30
        refine x_iload_n hE dX5_init_23 rfl 0 rfl ?_
        refine x_bipush (v := 30) hE dX5_init_24 (by decide) ?_
        refine x_icmp_ge (tgt := 48) hE dX5_init_26 (by decide) (fun c_26 => ?_) (fun c_26 => absurd ((nI_leI (a := 30) (b := 30) (by omega) (by omega)).mpr (Nat.le_refl _)) c_26)
        exact hret _ _ _ _ _ _ _ _ (Nat.le_of_ble_eq_true rfl) (Nat.le_of_ble_eq_true rfl) dX5_init_48 ⟨hX, ⟨g, ⟨_, _, hw, har, hb_2, fun i hi => (hws i hi).imp (fun x hx => ⟨hx.1, hx.2.1⟩)⟩, hws⟩, hp⟩
  refine x_sub (lv' := [(1, .int (nI 0)), (0, .ref w)]) (by simp [nI_0]) ?_
  exact loop 31 0 _ _ _ _ (fun _ => none) (by omega) (by omega) hX_1 hw_2 (hX_2.T ha_1 (zT.ne ha_1 hw_1 (by simp [zRA]))) ha_2 (fun c i => by rw [hp_2, hp_1]) (fun j h => absurd h (Nat.not_lt_zero j))
-- Planner(s, t)
set_option maxHeartbeats 4000000 in
set_option maxRecDepth 100000 in
theorem k_Planner (l : Launch) (D : va_G) (cy : Nat → ClassId) (L : List Nat) (σ : Nat → va_E) (φ : Nat → Nat → Nat → Int32) (ρ : Nat → Nat → Int32) {w s t : Nat} (hw_0 : zT L σ w (.inr (2, [.int 0, .null, .null, .null, .null, .null, .null, .null, .null, .null]))) : zMV l D cy yX2_init cX2_init 4 (zrm 2 61 844) [.ref w, .ref s, .ref t] L σ φ ρ (fun u => zX w L σ φ ρ u.1 u.2.1 u.2.2.1 u.2.2.2 ∧ zPlanner cy u.1 u.2.1 w s t ∧ ∀ c i, u.2.2.1 c i w = φ c i w) := by
  refine zMV.mk (by decide) (Nat.le_of_ble_eq_true rfl) (fun E hE hI hret => ?_)
  have hI := hI rfl
  show zW E 0 0 L σ φ ρ 0 [(0, .ref w), (1, .ref s), (2, .ref t)] []
  refine x_aload_n hE dX2_init_0 rfl 0 rfl ?_
  refine x_objinit hE q502 q140 q141 dX2_init_1 (Nat.le_of_ble_eq_true rfl) (Nat.le_of_ble_eq_true rfl) ?_
  refine x_aload_n hE dX2_init_4 rfl 0 rfl ?_
  refine x_iconst (v := 5) hE dX2_init_5 (by decide) ?_
  refine x_np (t0 := 0) (ty := .int) (fty := (.array .int)) (ty0 := tyX2) (N0 := 5) (x := (5, .inl (fun _ => 0))) (j0 := 1) hE hI hw_0 rfl inZX2 tyX2_ok nmX2 (by decide) q507 rfl rfl rfl (by decide +kernel) (fun _ => ⟨rfl, rfl⟩) rfl (fun _ h => nomatch h) q207 rfl (fun _ => rfl) (fun _ => rfl) (fun _ => rfl) (by decide) (by decide) (Nat.le_of_ble_eq_true rfl) (Nat.le_of_ble_eq_true rfl) (Nat.le_of_ble_eq_true rfl) dX2_init_6 dX2_init_8 (fun q_1 L_1 σ_1 φ_1 ρ_1 hn_1 hx_1 hw_1 hp_1 ha_1 hr_1 => ?_)
  refine x_aload_n hE dX2_init_11 rfl 0 rfl ?_
  refine x_bipush (v := 6) hE dX2_init_12 (by decide) ?_
  refine x_nq (t0 := 4) (fty := .array (.object "OwnRain$World")) (ty0 := tyX2) (N0 := 6) (j0 := 4) hE hI hw_1 rfl inZX2 tyX2_ok nmX2 (by decide) q511 rfl rfl rfl (by decide +kernel) (fun _ => ⟨rfl, rfl⟩) q503 rfl (Or.inr rfl) (by decide) (by decide) (Nat.le_of_ble_eq_true rfl) (Nat.le_of_ble_eq_true rfl) (Nat.le_of_ble_eq_true rfl) dX2_init_14 dX2_init_17 (fun q_2 L_2 σ_2 φ_2 ρ_2 hn_2 hx_2 hw_2 hp_2 ha_2 => ?_)
  refine x_aload_n hE dX2_init_20 rfl 0 rfl ?_
  refine x_iconst (v := 5) hE dX2_init_21 (by decide) ?_
  refine x_np (t0 := 0) (ty := .int) (fty := (.array .int)) (ty0 := tyX2) (N0 := 5) (x := (5, .inl (fun _ => 0))) (j0 := 5) hE hI hw_2 rfl inZX2 tyX2_ok nmX2 (by decide) q512 rfl rfl rfl (by decide +kernel) (fun _ => ⟨rfl, rfl⟩) rfl (fun _ h => nomatch h) q207 rfl (fun _ => rfl) (fun _ => rfl) (fun _ => rfl) (by decide) (by decide) (Nat.le_of_ble_eq_true rfl) (Nat.le_of_ble_eq_true rfl) (Nat.le_of_ble_eq_true rfl) dX2_init_22 dX2_init_24 (fun q_3 L_3 σ_3 φ_3 ρ_3 hn_3 hx_3 hw_3 hp_3 ha_3 hr_3 => ?_)
  refine x_aload_n hE dX2_init_27 rfl 0 rfl ?_
  refine x_bipush (v := 6) hE dX2_init_28 (by decide) ?_
  refine x_np (t0 := 0) (ty := .int) (fty := (.array .int)) (ty0 := tyX2) (N0 := 6) (x := (6, .inl (fun _ => 0))) (j0 := 6) hE hI hw_3 rfl inZX2 tyX2_ok nmX2 (by decide) q513 rfl rfl rfl (by decide +kernel) (fun _ => ⟨rfl, rfl⟩) rfl (fun _ h => nomatch h) q207 rfl (fun _ => rfl) (fun _ => rfl) (fun _ => rfl) (by decide) (by decide) (Nat.le_of_ble_eq_true rfl) (Nat.le_of_ble_eq_true rfl) (Nat.le_of_ble_eq_true rfl) dX2_init_30 dX2_init_32 (fun q_4 L_4 σ_4 φ_4 ρ_4 hn_4 hx_4 hw_4 hp_4 ha_4 hr_4 => ?_)
  refine x_aload_n hE dX2_init_35 rfl 0 rfl ?_
  refine x_bipush (v := 8) hE dX2_init_36 (by decide) ?_
  refine x_np (t0 := 0) (ty := .int) (fty := (.array .int)) (ty0 := tyX2) (N0 := 8) (x := (8, .inl (fun _ => 0))) (j0 := 7) hE hI hw_4 rfl inZX2 tyX2_ok nmX2 (by decide) q514 rfl rfl rfl (by decide +kernel) (fun _ => ⟨rfl, rfl⟩) rfl (fun _ h => nomatch h) q207 rfl (fun _ => rfl) (fun _ => rfl) (fun _ => rfl) (by decide) (by decide) (Nat.le_of_ble_eq_true rfl) (Nat.le_of_ble_eq_true rfl) (Nat.le_of_ble_eq_true rfl) dX2_init_38 dX2_init_40 (fun q_5 L_5 σ_5 φ_5 ρ_5 hn_5 hx_5 hw_5 hp_5 ha_5 hr_5 => ?_)
  refine x_aload_n hE dX2_init_43 rfl 0 rfl ?_
  refine x_bipush (v := 48) hE dX2_init_44 (by decide) ?_
  refine x_np (t0 := 0) (ty := .int) (fty := (.array .int)) (ty0 := tyX2) (N0 := 48) (x := (48, .inl (fun _ => 0))) (j0 := 8) hE hI hw_5 rfl inZX2 tyX2_ok nmX2 (by decide) q516 rfl rfl rfl (by decide +kernel) (fun _ => ⟨rfl, rfl⟩) rfl (fun _ h => nomatch h) q207 rfl (fun _ => rfl) (fun _ => rfl) (fun _ => rfl) (by decide) (by decide) (Nat.le_of_ble_eq_true rfl) (Nat.le_of_ble_eq_true rfl) (Nat.le_of_ble_eq_true rfl) dX2_init_46 dX2_init_48 (fun q_6 L_6 σ_6 φ_6 ρ_6 hn_6 hx_6 hw_6 hp_6 ha_6 hr_6 => ?_)
  refine x_aload_n hE dX2_init_51 rfl 0 rfl ?_
  refine x_bipush (v := 64) hE dX2_init_52 (by decide) ?_
  refine x_np (t0 := 0) (ty := .int) (fty := (.array .int)) (ty0 := tyX2) (N0 := 64) (x := (64, .inl (fun _ => 0))) (j0 := 9) hE hI hw_6 rfl inZX2 tyX2_ok nmX2 (by decide) q517 rfl rfl rfl (by decide +kernel) (fun _ => ⟨rfl, rfl⟩) rfl (fun _ h => nomatch h) q207 rfl (fun _ => rfl) (fun _ => rfl) (fun _ => rfl) (by decide) (by decide) (Nat.le_of_ble_eq_true rfl) (Nat.le_of_ble_eq_true rfl) (Nat.le_of_ble_eq_true rfl) dX2_init_54 dX2_init_56 (fun q_7 L_7 σ_7 φ_7 ρ_7 hn_7 hx_7 hw_7 hp_7 ha_7 hr_7 => ?_)
  refine x_aload_n hE dX2_init_59 rfl 0 rfl ?_
  refine x_aload_n hE dX2_init_60 rfl 1 rfl ?_
  refine x_putr (ty := .object "OwnRain$State") (ty0 := tyX2) (j0 := 2) hE (Or.inl ⟨hI, rfl, rfl⟩) hw_7 rfl inZX2 tyX2_ok nmX2 (by decide) q509 ⟨_, rfl, Or.inl rfl⟩ (by decide +kernel) rfl rfl dX2_init_61 (fun σ_8 hx_8 hw_8 => ?_)
  refine x_aload_n hE dX2_init_64 rfl 0 rfl ?_
  refine x_aload_n hE dX2_init_65 rfl 2 rfl ?_
  refine x_putr (ty := .object "OwnRain$Weather") (ty0 := tyX2) (j0 := 3) hE (Or.inl ⟨hI, rfl, rfl⟩) hw_8 rfl inZX2 tyX2_ok nmX2 (by decide) q510 ⟨_, rfl, Or.inl rfl⟩ (by decide +kernel) rfl rfl dX2_init_66 (fun σ_9 hx_9 hw_9 => ?_)
  refine x_iconst (v := 0) hE dX2_init_69 (by decide) ?_
  refine x_istore_n (lv' := [(3, .int 0), (0, .ref w), (1, .ref s), (2, .ref t)]) hE dX2_init_70 rfl (by decide) rfl ?_
  have hX_9 := hx_9
  have hX_8 := hx_8.tr hX_9
  have hX_7 := hx_7.tr hX_8
  have hX_6 := hx_6.tr hX_7
  have hX_5 := hx_5.tr hX_6
  have hX_4 := hx_4.tr hX_5
  have hX_3 := hx_3.tr hX_4
  have hX_2 := hx_2.tr hX_3
  have hX_1 := hx_1.tr hX_2
  have hnar : q_2 ∉ L := fun h => hn_2 (hx_1.1 _ h)
  have loop : ∀ (m i : Nat) (L' : List Nat) (σ' : Nat → va_E) (φ' : Nat → Nat → Nat → Int32) (ρ' : Nat → Nat → Int32) (g : Nat → Option Nat), i ≤ 6 → 6 - i < m → zX w L σ φ ρ L' σ' φ' ρ' → zT L' σ' w (.inr (2, [.int 0, .ref q_1, .ref s, .ref t, .ref q_2, .ref q_3, .ref q_4, .ref q_5, .ref q_6, .ref q_7])) → zT L' σ' q_2 (zRA (cy 4) 6 g) → zT L' σ' q_1 (zIA cy 5) → zT L' σ' q_3 (zIA cy 5) → zT L' σ' q_4 (zIA cy 6) → zT L' σ' q_5 (zIA cy 8) → zT L' σ' q_6 (zIA cy 48) → zT L' σ' q_7 (zIA cy 64) → (∀ c j, φ' c j w = φ c j w) → zWs cy L' σ' φ' g i → zW E (7 + 9 * i) (142 + 117 * i) L' σ' φ' ρ' 71 [(3, .int (nI i)), (0, .ref w), (1, .ref s), (2, .ref t)] [] := by
    intro m
    induction m with
    | zero => intro i L' σ' φ' ρ' g h1 h2; omega
    | succ m ih =>
      intro i L' σ' φ' ρ' g hi hm hX hw har hb_1 hb_3 hb_4 hb_5 hb_6 hb_7 hp hws
      rcases Nat.lt_or_ge i 6 with hlt | hge
      · refine x_iload_n hE dX2_init_71 rfl 0 rfl ?_
        refine x_iconst (v := 5) hE dX2_init_72 (by decide) ?_
        refine x_icmp_gt (tgt := 95) hE dX2_init_73 (by decide) (fun c_73 => absurd c_73 (fun h => absurd ((nI_ltI (a := 5) (by omega) (by omega)).mp h) (by omega))) (fun c_73 => ?_)
        refine x_aload_n hE dX2_init_76 rfl 1 rfl ?_
        refine h_getr hE hw rfl inZX2 4 (by decide) q511 rfl dX2_init_77 ?_
        refine x_iload_n hE dX2_init_80 rfl 0 rfl ?_
        refine h_new (ci := 10) (fs := [.null, .null, .null, .null, .null, .null, .int 0, .int 0, .int 0, .int 0, .int 0, .int 0, .int 0, .null, .null]) (ty0 := tyX10) hE rfl inZX10 tyX10_ok q503 q209 q116 (by decide +kernel) rfl (fun c i => by by_cases hc : 10 = c <;> simp [zfI, hc] <;> (rcases i with _ | _ | _ | _ | _ | _ | _ | _ | _ | _ | _ | _ | _ | _ | _ | i <;> rfl)) (by simp only [zrm]; omega) (by simp only [zrm]; omega) dX2_init_81 (fun q_101 L_101 σ_101 φ_101 ρ_101 hn_101 hx_101 hw_101 hp_101 => ?_)
        refine x_dup hE dX2_init_84 rfl ?_
        refine c_v hE (r_IN (st := [.ref q_101, .int (nI i), .ref q_2]) hE (k_World l D cy L_101 σ_101 φ_101 ρ_101 hw_101) (by decide +kernel) q211 q116 q212 rfl ⟨by decide, by decide, pn_X10_init⟩ ⟨Nat.le_of_ble_eq_true rfl, Nat.le_of_ble_eq_true rfl⟩ ⟨by simp only [zrm]; omega, by simp only [zrm]; omega⟩ rfl (Nat.le_of_ble_eq_true rfl) dX2_init_85) (fun L2 σ2 φ2 ρ2 h2 => ?_)
        refine x_widen (k' := 7 + 9 * (i + 1)) (n' := 142 + 117 * (i + 1)) (by simp only [zrm]; omega) (by simp only [zrm]; omega) ?_
        obtain ⟨hX2, hW2, hp2⟩ := h2
        dsimp only at hX2 hW2 hp2
        have hne : ∀ b ∈ L', b ≠ q_101 := fun b hb h => hn_101 (h ▸ hb)
        have har2 := hX2.T (zX.all hx_101 har) (hne _ har.1)
        obtain ⟨_, _, _, _, _, _, _, _, hv2, -⟩ := id hW2
        refine h_aast (t0 := 4) (ci := 10) hE har2 hv2 rfl rfl (vp_in_nI hlt (by omega)) dX2_init_88 ?_
        rw [nI_clamp (show i < 2 ^ 31 by omega)]
        refine x_iinc (v := nI (i + 1)) (lv' := [(3, .int (nI (i + 1))), (0, .ref w), (1, .ref s), (2, .ref t)]) hE dX2_init_89 0 rfl (nI_1 i) (by decide) rfl ?_
        refine x_goto (tgt := 71) hE dX2_init_92 (by decide) ?_
        have tr : ∀ b e, zT L' σ' b e → b ≠ q_2 → zT L2 (va_up σ2 q_2 (zRA (cy 4) 6 (va_up g i (some q_101)))) b e := fun b e hb hn => (zX.up (φ := φ2) (ρ := ρ2)).T (hX2.T (zX.all hx_101 hb) (hne _ hb.1)) hn
        refine x_sub (lv' := [(3, .int (nI (i + 1))), (0, .ref w), (1, .ref s), (2, .ref t)]) (by simp) ?_
        exact ih (i + 1) L2 _ φ2 ρ2 (va_up g i (some q_101)) (by omega) (by omega) (((hX.tr (hx_101 w)).tr' (fun h => hn_101 (hX.1 _ h)) hX2).tr' hnar zX.up) (tr _ _ hw (zT.ne hw har (by simp [zRA]))) ⟨har2.1, va_up_self _ _ _⟩ (tr _ _ hb_1 (zT.ne hb_1 har (by simp [zRA]))) (tr _ _ hb_3 (zT.ne hb_3 har (by simp [zRA]))) (tr _ _ hb_4 (zT.ne hb_4 har (by simp [zRA]))) (tr _ _ hb_5 (zT.ne hb_5 har (by simp [zRA]))) (tr _ _ hb_6 (zT.ne hb_6 har (by simp [zRA]))) (tr _ _ hb_7 (zT.ne hb_7 har (by simp [zRA]))) (fun c j => ((hX2.2 w ((hx_101 w).1 w hw.1) (hne w hw.1)).2.1 c j).trans ((((hx_101 q_101).2 w hw.1 (hne w hw.1)).2.1 c j).trans (hp c j))) (hws.next hn_101 hx_101 hw_101 hX2 hW2 (by rw [hp2, hp_101]; rfl) har2)
      · have hi30 : i = 6 := by omega
        subst hi30
        refine x_iload_n hE dX2_init_71 rfl 0 rfl ?_
        refine x_iconst (v := 5) hE dX2_init_72 (by decide) ?_
        refine x_icmp_gt (tgt := 95) hE dX2_init_73 (by decide) (fun c_73 => ?_) (fun c_73 => absurd ((nI_ltI (a := 5) (b := 6) (by omega) (by omega)).mpr (by omega)) c_73)
        exact hret _ _ _ _ _ _ _ _ (Nat.le_of_ble_eq_true rfl) (Nat.le_of_ble_eq_true rfl) dX2_init_95 ⟨hX, ⟨_, _, _, _, _, _, _, g, hw, hb_1, har, hb_3, hb_4, hb_5, hb_6, hb_7, fun i hi => (hws i hi).imp (fun x hx => ⟨hx.1, hx.2.1⟩)⟩, hp⟩
  refine x_sub (lv' := [(3, .int (nI 0)), (0, .ref w), (1, .ref s), (2, .ref t)]) (by simp [nI_0]) ?_
  exact loop 7 0 _ _ _ _ (fun _ => none) (by omega) (by omega) hX_1 hw_9 (hX_3.T ha_2 (zT.ne ha_2 hw_2 (by simp [zRA]))) (hX_2.T ha_1 (zT.ne ha_1 hw_1 (by simp))) (hX_4.T ha_3 (zT.ne ha_3 hw_3 (by simp))) (hX_5.T ha_4 (zT.ne ha_4 hw_4 (by simp))) (hX_6.T ha_5 (zT.ne ha_5 hw_5 (by simp))) (hX_7.T ha_6 (zT.ne ha_6 hw_6 (by simp))) (hX_8.T ha_7 (zT.ne ha_7 hw_7 (by simp))) (fun c i => by rw [hp_7, hp_6, hp_5, hp_4, hp_3, hp_2, hp_1]) (fun j h => absurd h (Nat.not_lt_zero j))
end
section
/-! What lasts while something else is being made: all cells but objects of class c. -/
section ZG
variable {cy : Nat → ClassId} {L L1 L2 : List Nat} {σ σ1 σ2 : Nat → va_E} {φ φ1 φ2 : Nat → Nat → Nat → Int32} {ρ ρ1 ρ2 : Nat → Nat → Int32} {a w q c : Nat}
def zG (c : Nat) (L : List Nat) (σ : Nat → va_E) (φ : Nat → Nat → Nat → Int32) (L2 : List Nat) (σ2 : Nat → va_E) (φ2 : Nat → Nat → Nat → Int32) : Prop := ∀ b ∈ L, (∀ S, σ b ≠ .inr (c, S)) → b ∈ L2 ∧ σ2 b = σ b ∧ ∀ c' i, φ2 c' i b = φ c' i b
theorem zG.rf : zG c L σ φ L σ φ := fun _ h _ => ⟨h, rfl, fun _ _ => rfl⟩
theorem zG.tr (h : zG c L σ φ L1 σ1 φ1) (h2 : zG c L1 σ1 φ1 L2 σ2 φ2) : zG c L σ φ L2 σ2 φ2 := by
  intro b hb hn
  obtain ⟨a1, a2, a3⟩ := h b hb hn
  obtain ⟨b1, b2, b3⟩ := h2 b a1 (fun S => by rw [a2]; exact hn S)
  exact ⟨b1, b2.trans a2, fun c' i => (b3 c' i).trans (a3 c' i)⟩
theorem zX.g {S : List Value} (h : zX w L σ φ ρ L1 σ1 φ1 ρ1) (hw : zT L σ w (.inr (c, S))) : zG c L σ φ L1 σ1 φ1 := by
  intro b hb hn
  have hbw : b ≠ w := fun e => hn S (by rw [e]; exact hw.2)
  obtain ⟨a1, a2, -⟩ := h.2 b hb hbw
  exact ⟨h.1 b hb, a1, a2⟩
/-- a new object, and its constructor -/
theorem zN.all (hX : ∀ w, zX w L σ φ ρ L1 σ1 φ1 ρ1) (hn : q ∉ L) (h2 : zX q L1 σ1 φ1 ρ1 L2 σ2 φ2 ρ2) {b : Nat} (hb : b ∈ L) : b ∈ L2 ∧ σ2 b = σ b ∧ ∀ c' i, φ2 c' i b = φ c' i b := by
  have hbq : b ≠ q := fun e => hn (e ▸ hb)
  obtain ⟨a1, a2, -⟩ := (hX q).2 b hb hbq
  obtain ⟨b1, b2, -⟩ := h2.2 b ((hX q).1 b hb) hbq
  exact ⟨h2.1 b ((hX q).1 b hb), b1.trans a1, fun c' i => (b2 c' i).trans (a2 c' i)⟩
theorem zN.g (hX : ∀ w, zX w L σ φ ρ L1 σ1 φ1 ρ1) (hn : q ∉ L) (h2 : zX q L1 σ1 φ1 ρ1 L2 σ2 φ2 ρ2) : zG c L σ φ L2 σ2 φ2 := fun _ hb _ => zN.all hX hn h2 hb
theorem zN.T (hX : ∀ w, zX w L σ φ ρ L1 σ1 φ1 ρ1) (hn : q ∉ L) (h2 : zX q L1 σ1 φ1 ρ1 L2 σ2 φ2 ρ2) {b : Nat} {e : va_E} (hb : zT L σ b e) : zT L2 σ2 b e := ⟨(zN.all hX hn h2 hb.1).1, (zN.all hX hn h2 hb.1).2.1.trans hb.2⟩
theorem zG.T {b : Nat} {e : va_E} (h : zG c L σ φ L1 σ1 φ1) (hb : zT L σ b e) (hn : ∀ S, e ≠ .inr (c, S)) : zT L1 σ1 b e := by
  obtain ⟨a1, a2, -⟩ := h b hb.1 (fun S => by rw [hb.2]; exact hn S)
  exact ⟨a1, a2.trans hb.2⟩
theorem zG.p {b : Nat} {e : va_E} (h : zG c L σ φ L1 σ1 φ1) (hb : zT L σ b e) (hn : ∀ S, e ≠ .inr (c, S)) (c' i : Nat) : φ1 c' i b = φ c' i b := (h b hb.1 (fun S => by rw [hb.2]; exact hn S)).2.2 c' i
theorem z_cls {c1 c : Nat} {S1 : List Value} (h : c1 ≠ c) (S : List Value) : (.inr (c1, S1) : va_E) ≠ .inr (c, S) := fun e => h (by simp only [Sum.inr.injEq, Prod.mk.injEq] at e; exact e.1)
theorem z_arr {x : ClassId × vp_A} (S : List Value) : (.inl x : va_E) ≠ .inr (c, S) := fun e => nomatch e
theorem zLand.g (h : zLand cy L σ a) (hg : zG c L σ φ L1 σ1 φ1) (hc : 0 ≠ c) : zLand cy L1 σ1 a := by
  obtain ⟨a0, a1, a2, a3, a4, a5, a6, a7, h, h0, h1, h2, h3, h4, h5, h6, h7⟩ := h
  exact ⟨a0, a1, a2, a3, a4, a5, a6, a7, hg.T h (z_cls hc), hg.T h0 z_arr, hg.T h1 z_arr, hg.T h2 z_arr, hg.T h3 z_arr, hg.T h4 z_arr, hg.T h5 z_arr, hg.T h6 z_arr, hg.T h7 z_arr⟩
theorem zWorld.g (h : zWorld cy L σ a) (hg : zG c L σ φ L1 σ1 φ1) (hc : 10 ≠ c) : zWorld cy L1 σ1 a := by
  obtain ⟨a0, a1, a2, a3, a4, a5, a6, a7, h, h0, h1, h2, h3, h4, h5, h6, h7⟩ := h
  exact ⟨a0, a1, a2, a3, a4, a5, a6, a7, hg.T h (z_cls hc), hg.T h0 z_arr, hg.T h1 z_arr, hg.T h2 z_arr, hg.T h3 z_arr, hg.T h4 z_arr, hg.T h5 z_arr, hg.T h6 z_arr, hg.T h7 z_arr⟩
theorem zLists.g (h : zLists cy L σ a) (hg : zG c L σ φ L1 σ1 φ1) (hc : 1 ≠ c) : zLists cy L1 σ1 a := by
  obtain ⟨a0, a1, a2, a3, a4, a5, a6, a7, h, h0, h1, h2, h3, h4, h5, h6, h7⟩ := h
  exact ⟨a0, a1, a2, a3, a4, a5, a6, a7, hg.T h (z_cls hc), hg.T h0 z_arr, hg.T h1 z_arr, hg.T h2 z_arr, hg.T h3 z_arr, hg.T h4 z_arr, hg.T h5 z_arr, hg.T h6 z_arr, hg.T h7 z_arr⟩
theorem zSteps.g {g : Nat → Option Nat} (h : zSteps cy L σ a g) (hg : zG c L σ φ L1 σ1 φ1) (hc : 5 ≠ c) (hc2 : 10 ≠ c) : zSteps cy L1 σ1 a g := by
  obtain ⟨a0, a1, h, h0, h1, h2⟩ := h
  refine ⟨a0, a1, hg.T h (z_cls hc), hg.T h0 z_arr, hg.T h1 z_arr, fun i hi => ?_⟩
  obtain ⟨x, hx, hx2⟩ := h2 i hi
  exact ⟨x, hx, hx2.g hg hc2⟩
theorem zWorld.at (h : zWorld cy L σ a) : ∃ S, zT L σ a (.inr (10, S)) := by
  obtain ⟨_, _, _, _, _, _, _, _, h, -⟩ := h
  exact ⟨_, h⟩
theorem zLand.at (h : zLand cy L σ a) : ∃ S, zT L σ a (.inr (0, S)) := by
  obtain ⟨_, _, _, _, _, _, _, _, h, -⟩ := h
  exact ⟨_, h⟩
theorem zLists.at (h : zLists cy L σ a) : ∃ S, zT L σ a (.inr (1, S)) := by
  obtain ⟨_, _, _, _, _, _, _, _, h, -⟩ := h
  exact ⟨_, h⟩
theorem zSteps.at {g : Nat → Option Nat} (h : zSteps cy L σ a g) : ∃ S, zT L σ a (.inr (5, S)) := by
  obtain ⟨_, _, h, -⟩ := h
  exact ⟨_, h⟩
theorem zG.o {c1 : Nat} (h : zG c L σ φ L1 σ1 φ1) (ha : ∃ S, zT L σ a (.inr (c1, S))) (hc : c1 ≠ c) (c' i : Nat) : φ1 c' i a = φ c' i a := by
  obtain ⟨S, ha⟩ := ha
  exact h.p ha (z_cls hc) c' i
theorem zWs.g {g : Nat → Option Nat} {n : Nat} (h : zWs cy L σ φ g n) (hg : zG c L σ φ L1 σ1 φ1) (hc : 10 ≠ c) : zWs cy L1 σ1 φ1 g n := by
  intro j hj
  obtain ⟨x, x1, x2, x3⟩ := h j hj
  exact ⟨x, x1, x2.g hg hc, by rw [hg.o x2.at hc, x3]⟩
/-- a STATE's cells -/
def zState (cy : Nat → ClassId) (L : List Nat) (σ : Nat → va_E) (s land world steps lists texts : Nat) (g : Nat → Option Nat) : Prop := zT L σ s (.inr (4, [.ref land, .ref world, .ref steps, .ref lists, .ref texts, .int 0, .int 0])) ∧ zLand cy L σ land ∧ zWorld cy L σ world ∧ zSteps cy L σ steps g ∧ zLists cy L σ lists ∧ zT L σ texts (zRA (cy 3) 4 (fun _ => none))
/-- its numbers when it is new -/
def zSt0 (φ : Nat → Nat → Nat → Int32) (s land world steps lists : Nat) (g : Nat → Option Nat) : Prop := φ 4 5 s = 0 ∧ φ 4 6 s = -1 ∧ φ 0 0 land = 0 ∧ φ 0 1 land = 0 ∧ (∀ i, φ 10 i world = if i = 10 then 37 else 0) ∧ φ 5 0 steps = 0 ∧ φ 5 1 steps = 0 ∧ φ 1 0 lists = 0 ∧ φ 1 1 lists = 0 ∧ φ 1 2 lists = 0 ∧ ∀ i, i < 30 → ∀ x, g i = some x → φ 10 9 x = 0
theorem zState.g {s land world steps lists texts : Nat} {g : Nat → Option Nat} (h : zState cy L σ s land world steps lists texts g) (hg : zG c L σ φ L1 σ1 φ1) (h0 : 0 ≠ c) (h1 : 1 ≠ c) (h4 : 4 ≠ c) (h5 : 5 ≠ c) (h10 : 10 ≠ c) : zState cy L1 σ1 s land world steps lists texts g := ⟨hg.T h.1 (z_cls h4), h.2.1.g hg h0, h.2.2.1.g hg h10, h.2.2.2.1.g hg h5 h10, h.2.2.2.2.1.g hg h1, hg.T h.2.2.2.2.2 z_arr⟩
theorem zSt0.g {s land world steps lists texts : Nat} {g : Nat → Option Nat} (h : zSt0 φ s land world steps lists g) (hs : zState cy L σ s land world steps lists texts g) (hg : zG c L σ φ L1 σ1 φ1) (h0 : 0 ≠ c) (h1 : 1 ≠ c) (h4 : 4 ≠ c) (h5 : 5 ≠ c) (h10 : 10 ≠ c) : zSt0 φ1 s land world steps lists g := by
  obtain ⟨p1, p2, p3, p4, p5, p6, p7, p8, p9, p10, p11⟩ := h
  obtain ⟨s1, s2, s3, s4, s5, s6⟩ := hs
  refine ⟨by rw [hg.o ⟨_, s1⟩ h4, p1], by rw [hg.o ⟨_, s1⟩ h4, p2], by rw [hg.o s2.at h0, p3], by rw [hg.o s2.at h0, p4], fun i => by rw [hg.o s3.at h10, p5], by rw [hg.o s4.at h5, p6], by rw [hg.o s4.at h5, p7], by rw [hg.o s5.at h1, p8], by rw [hg.o s5.at h1, p9], by rw [hg.o s5.at h1, p10], fun i hi x hx => ?_⟩
  obtain ⟨_, _, -, -, -, s7⟩ := s4
  obtain ⟨y, y1, y2⟩ := s7 i hi
  have hxy : x = y := Option.some.inj (hx.symm.trans y1)
  subst hxy
  rw [hg.o y2.at h10, p11 i hi x hx]
/-- a new object of class c2 that isn't of class c -/
theorem zT.fresh {S S2 : List Value} {c2 : Nat} (hX : ∀ w, zX w L σ φ ρ L1 σ1 φ1 ρ1) (hw : zT L σ w (.inr (c, S))) (hq : zT L1 σ1 q (.inr (c2, S2))) (hn : q ∉ L) : w ≠ q := fun e => hn (e ▸ hw.1)
end ZG
end
section
theorem dX4_init_0 : decode cX4_init 0 = .ok (.aload_n 0, 1) := by decide +kernel
theorem dX4_init_1 : decode cX4_init 1 = .ok (.invokespecial 3, 3) := by decide +kernel
theorem dX4_init_4 : decode cX4_init 4 = .ok (.aload_n 0, 1) := by decide +kernel
theorem dX4_init_5 : decode cX4_init 5 = .ok (.new 9, 3) := by decide +kernel
theorem dX4_init_8 : decode cX4_init 8 = .ok (.dup, 1) := by decide +kernel
theorem dX4_init_9 : decode cX4_init 9 = .ok (.invokespecial 11, 3) := by decide +kernel
theorem dX4_init_12 : decode cX4_init 12 = .ok (.putfield 12, 3) := by decide +kernel
theorem dX4_init_15 : decode cX4_init 15 = .ok (.aload_n 0, 1) := by decide +kernel
theorem dX4_init_16 : decode cX4_init 16 = .ok (.new 18, 3) := by decide +kernel
theorem dX4_init_19 : decode cX4_init 19 = .ok (.dup, 1) := by decide +kernel
theorem dX4_init_20 : decode cX4_init 20 = .ok (.invokespecial 20, 3) := by decide +kernel
theorem dX4_init_23 : decode cX4_init 23 = .ok (.putfield 21, 3) := by decide +kernel
theorem dX4_init_26 : decode cX4_init 26 = .ok (.aload_n 0, 1) := by decide +kernel
theorem dX4_init_27 : decode cX4_init 27 = .ok (.new 25, 3) := by decide +kernel
theorem dX4_init_30 : decode cX4_init 30 = .ok (.dup, 1) := by decide +kernel
theorem dX4_init_31 : decode cX4_init 31 = .ok (.invokespecial 27, 3) := by decide +kernel
theorem dX4_init_34 : decode cX4_init 34 = .ok (.putfield 28, 3) := by decide +kernel
theorem dX4_init_37 : decode cX4_init 37 = .ok (.aload_n 0, 1) := by decide +kernel
theorem dX4_init_38 : decode cX4_init 38 = .ok (.new 32, 3) := by decide +kernel
theorem dX4_init_41 : decode cX4_init 41 = .ok (.dup, 1) := by decide +kernel
theorem dX4_init_42 : decode cX4_init 42 = .ok (.invokespecial 34, 3) := by decide +kernel
theorem dX4_init_45 : decode cX4_init 45 = .ok (.putfield 35, 3) := by decide +kernel
theorem dX4_init_48 : decode cX4_init 48 = .ok (.aload_n 0, 1) := by decide +kernel
theorem dX4_init_49 : decode cX4_init 49 = .ok (.iconst 4, 1) := by decide +kernel
theorem dX4_init_50 : decode cX4_init 50 = .ok (.anewarray 39, 3) := by decide +kernel
theorem dX4_init_53 : decode cX4_init 53 = .ok (.putfield 41, 3) := by decide +kernel
theorem dX4_init_56 : decode cX4_init 56 = .ok (.aload_n 0, 1) := by decide +kernel
theorem dX4_init_57 : decode cX4_init 57 = .ok (.iconst (-1), 1) := by decide +kernel
theorem dX4_init_58 : decode cX4_init 58 = .ok (.putfield 45, 3) := by decide +kernel
theorem dX4_init_61 : decode cX4_init 61 = .ok (.return_, 1) := by decide +kernel
-- State()
set_option maxHeartbeats 4000000 in
set_option maxRecDepth 100000 in
theorem k_State (l : Launch) (D : va_G) (cy : Nat → ClassId) (L : List Nat) (σ : Nat → va_E) (φ : Nat → Nat → Nat → Int32) (ρ : Nat → Nat → Int32) {w : Nat} (hw_0 : zT L σ w (.inr (4, [.null, .null, .null, .null, .null, .int 0, .int 0]))) (h0 : ∀ c i, φ c i w = 0) : zMV l D cy yX4_init cX4_init 1 (zrm 3 301 3844) [.ref w] L σ φ ρ (fun u => zX w L σ φ ρ u.1 u.2.1 u.2.2.1 u.2.2.2 ∧ ∃ (land world steps lists texts : Nat) (g : Nat → Option Nat), zState cy u.1 u.2.1 w land world steps lists texts g ∧ zSt0 u.2.2.1 w land world steps lists g) := by
  refine zMV.mk (by decide) (Nat.le_of_ble_eq_true rfl) (fun E hE hI hret => ?_)
  have hI := hI rfl
  show zW E 0 0 L σ φ ρ 0 [(0, .ref w)] []
  refine x_aload_n hE dX4_init_0 rfl 0 rfl ?_
  refine x_objinit hE q147 q140 q141 dX4_init_1 (Nat.le_of_ble_eq_true rfl) (Nat.le_of_ble_eq_true rfl) ?_
  refine x_aload_n hE dX4_init_4 rfl 0 rfl ?_
  refine h_new (ci := 0) (fs := [.int 0, .int 0, .null, .null, .null, .null, .null, .null, .null, .null]) (ty0 := tyX0) hE rfl inZX0 tyX0_ok q148 q149 q115 (by decide +kernel) rfl (fun c i => by by_cases hc : 0 = c <;> simp [zfI, hc] <;> (rcases i with _ | _ | _ | _ | _ | _ | _ | _ | _ | _ | _ | _ | _ | _ | _ | i <;> rfl)) (Nat.le_of_ble_eq_true rfl) (Nat.le_of_ble_eq_true rfl) dX4_init_5 (fun q_1 L_1 σ_1 φ_1 ρ_1 hn_1 hx_1 hw_1 hp_1 => ?_)
  refine x_dup hE dX4_init_8 rfl ?_
  refine c_v hE (r_IN (st := [.ref q_1, .ref w]) hE (k_Land l D cy L_1 σ_1 φ_1 ρ_1 hw_1) (by decide +kernel) q151 q115 q152 rfl ⟨by decide, by decide, pn_X0_init⟩ ⟨Nat.le_of_ble_eq_true rfl, Nat.le_of_ble_eq_true rfl⟩ ⟨Nat.le_of_ble_eq_true rfl, Nat.le_of_ble_eq_true rfl⟩ rfl (Nat.le_of_ble_eq_true rfl) dX4_init_9) (fun L_51 σ_51 φ_51 ρ_51 h_51 => ?_)
  refine x_widen (k' := 9) (n' := 66) (Nat.le_of_ble_eq_true rfl) (Nat.le_of_ble_eq_true rfl) ?_
  obtain ⟨hc_51, hs_51, hf_51⟩ := h_51
  dsimp only at hc_51 hs_51 hf_51
  have hg_201 := zN.g (c := 4) hx_1 hn_1 hc_51
  have hw_51 := zN.T hx_1 hn_1 hc_51 hw_0
  have hq_51 : q_1 ∉ L := fun h => hn_1 ((zX.rf (w := w) (L := L) (σ := σ) (φ := φ) (ρ := ρ)).1 _ h)
  have ht_51 := ((zX.rf (w := w) (L := L) (σ := σ) (φ := φ) (ρ := ρ)).tr (hx_1 w)).tr' hq_51 hc_51
  have hz_51 := fun c i => ((zN.all hx_1 hn_1 hc_51 hw_0.1).2.2 c i).trans (h0 c i)
  refine x_putr (ty := .object "OwnRain$Land") (ty0 := tyX4) (j0 := 0) hE (Or.inl ⟨hI, rfl, rfl⟩) hw_51 rfl inZX4 tyX4_ok nmX4 (by decide) q361 ⟨_, rfl, Or.inl rfl⟩ (by decide +kernel) rfl rfl dX4_init_12 (fun σ_2 hx_2 hw_2 => ?_)
  have hg_202 := zX.g hx_2 hw_51
  have ht_2 := ht_51.tr hx_2
  refine x_aload_n hE dX4_init_15 rfl 0 rfl ?_
  refine h_new (ci := 10) (fs := [.null, .null, .null, .null, .null, .null, .int 0, .int 0, .int 0, .int 0, .int 0, .int 0, .int 0, .null, .null]) (ty0 := tyX10) hE rfl inZX10 tyX10_ok q208 q209 q116 (by decide +kernel) rfl (fun c i => by by_cases hc : 10 = c <;> simp [zfI, hc] <;> (rcases i with _ | _ | _ | _ | _ | _ | _ | _ | _ | _ | _ | _ | _ | _ | _ | i <;> rfl)) (Nat.le_of_ble_eq_true rfl) (Nat.le_of_ble_eq_true rfl) dX4_init_16 (fun q_3 L_3 σ_3 φ_3 ρ_3 hn_3 hx_3 hw_3 hp_3 => ?_)
  refine x_dup hE dX4_init_19 rfl ?_
  refine c_v hE (r_IN (st := [.ref q_3, .ref w]) hE (k_World l D cy L_3 σ_3 φ_3 ρ_3 hw_3) (by decide +kernel) q211 q116 q212 rfl ⟨by decide, by decide, pn_X10_init⟩ ⟨Nat.le_of_ble_eq_true rfl, Nat.le_of_ble_eq_true rfl⟩ ⟨Nat.le_of_ble_eq_true rfl, Nat.le_of_ble_eq_true rfl⟩ rfl (Nat.le_of_ble_eq_true rfl) dX4_init_20) (fun L_53 σ_53 φ_53 ρ_53 h_53 => ?_)
  refine x_widen (k' := 18) (n' := 183) (Nat.le_of_ble_eq_true rfl) (Nat.le_of_ble_eq_true rfl) ?_
  obtain ⟨hc_53, hs_53, hf_53⟩ := h_53
  dsimp only at hc_53 hs_53 hf_53
  have hg_203 := zN.g (c := 4) hx_3 hn_3 hc_53
  have hw_53 := zN.T hx_3 hn_3 hc_53 hw_2
  have hq_53 : q_3 ∉ L := fun h => hn_3 (ht_2.1 _ h)
  have ht_53 := (ht_2.tr (hx_3 w)).tr' hq_53 hc_53
  have hz_53 := fun c i => ((zN.all hx_3 hn_3 hc_53 hw_2.1).2.2 c i).trans (hz_51 c i)
  refine x_putr (ty := .object "OwnRain$World") (ty0 := tyX4) (j0 := 1) hE (Or.inl ⟨hI, rfl, rfl⟩) hw_53 rfl inZX4 tyX4_ok nmX4 (by decide) q366 ⟨_, rfl, Or.inl rfl⟩ (by decide +kernel) rfl rfl dX4_init_23 (fun σ_4 hx_4 hw_4 => ?_)
  have hg_204 := zX.g hx_4 hw_53
  have ht_4 := ht_53.tr hx_4
  refine x_aload_n hE dX4_init_26 rfl 0 rfl ?_
  refine h_new (ci := 5) (fs := [.int 0, .int 0, .null, .null]) (ty0 := tyX5) hE rfl inZX5 tyX5_ok q288 q289 q117 (by decide +kernel) rfl (fun c i => by by_cases hc : 5 = c <;> simp [zfI, hc] <;> (rcases i with _ | _ | _ | _ | _ | _ | _ | _ | _ | _ | _ | _ | _ | _ | _ | i <;> rfl)) (Nat.le_of_ble_eq_true rfl) (Nat.le_of_ble_eq_true rfl) dX4_init_27 (fun q_5 L_5 σ_5 φ_5 ρ_5 hn_5 hx_5 hw_5 hp_5 => ?_)
  refine x_dup hE dX4_init_30 rfl ?_
  refine c_v hE (r_I (st := [.ref q_5, .ref w]) hE (k_Steps l D cy L_5 σ_5 φ_5 ρ_5 hw_5) q290 q291 q117 q292 rfl ⟨by decide, by decide, pn_X5_init⟩ ⟨Nat.le_of_ble_eq_true rfl, Nat.le_of_ble_eq_true rfl⟩ ⟨Nat.le_of_ble_eq_true rfl, Nat.le_of_ble_eq_true rfl⟩ rfl (Nat.le_of_ble_eq_true rfl) dX4_init_31) (fun L_55 σ_55 φ_55 ρ_55 h_55 => ?_)
  refine x_widen (k' := 291) (n' := 3757) (Nat.le_of_ble_eq_true rfl) (Nat.le_of_ble_eq_true rfl) ?_
  obtain ⟨hc_55, hs_55, hf_55⟩ := h_55
  dsimp only at hc_55 hs_55 hf_55
  have hg_205 := zN.g (c := 4) hx_5 hn_5 hc_55
  have hw_55 := zN.T hx_5 hn_5 hc_55 hw_4
  have hq_55 : q_5 ∉ L := fun h => hn_5 (ht_4.1 _ h)
  have ht_55 := (ht_4.tr (hx_5 w)).tr' hq_55 hc_55
  have hz_55 := fun c i => ((zN.all hx_5 hn_5 hc_55 hw_4.1).2.2 c i).trans (hz_53 c i)
  refine x_putr (ty := .object "OwnRain$Steps") (ty0 := tyX4) (j0 := 2) hE (Or.inl ⟨hI, rfl, rfl⟩) hw_55 rfl inZX4 tyX4_ok nmX4 (by decide) q370 ⟨_, rfl, Or.inl rfl⟩ (by decide +kernel) rfl rfl dX4_init_34 (fun σ_6 hx_6 hw_6 => ?_)
  have hg_206 := zX.g hx_6 hw_55
  have ht_6 := ht_55.tr hx_6
  refine x_aload_n hE dX4_init_37 rfl 0 rfl ?_
  refine h_new (ci := 1) (fs := [.int 0, .int 0, .int 0, .null, .null, .null, .null, .null, .null, .null, .null]) (ty0 := tyX1) hE rfl inZX1 tyX1_ok q312 q313 q118 (by decide +kernel) rfl (fun c i => by by_cases hc : 1 = c <;> simp [zfI, hc] <;> (rcases i with _ | _ | _ | _ | _ | _ | _ | _ | _ | _ | _ | _ | _ | _ | _ | i <;> rfl)) (Nat.le_of_ble_eq_true rfl) (Nat.le_of_ble_eq_true rfl) dX4_init_38 (fun q_7 L_7 σ_7 φ_7 ρ_7 hn_7 hx_7 hw_7 hp_7 => ?_)
  refine x_dup hE dX4_init_41 rfl ?_
  refine c_v hE (r_IN (st := [.ref q_7, .ref w]) hE (k_Lists l D cy L_7 σ_7 φ_7 ρ_7 hw_7) (by decide +kernel) q315 q118 q316 rfl ⟨by decide, by decide, pn_X1_init⟩ ⟨Nat.le_of_ble_eq_true rfl, Nat.le_of_ble_eq_true rfl⟩ ⟨Nat.le_of_ble_eq_true rfl, Nat.le_of_ble_eq_true rfl⟩ rfl (Nat.le_of_ble_eq_true rfl) dX4_init_42) (fun L_57 σ_57 φ_57 ρ_57 h_57 => ?_)
  refine x_widen (k' := 300) (n' := 3840) (Nat.le_of_ble_eq_true rfl) (Nat.le_of_ble_eq_true rfl) ?_
  obtain ⟨hc_57, hs_57, hf_57⟩ := h_57
  dsimp only at hc_57 hs_57 hf_57
  have hg_207 := zN.g (c := 4) hx_7 hn_7 hc_57
  have hw_57 := zN.T hx_7 hn_7 hc_57 hw_6
  have hq_57 : q_7 ∉ L := fun h => hn_7 (ht_6.1 _ h)
  have ht_57 := (ht_6.tr (hx_7 w)).tr' hq_57 hc_57
  have hz_57 := fun c i => ((zN.all hx_7 hn_7 hc_57 hw_6.1).2.2 c i).trans (hz_55 c i)
  refine x_putr (ty := .object "OwnRain$Lists") (ty0 := tyX4) (j0 := 3) hE (Or.inl ⟨hI, rfl, rfl⟩) hw_57 rfl inZX4 tyX4_ok nmX4 (by decide) q372 ⟨_, rfl, Or.inl rfl⟩ (by decide +kernel) rfl rfl dX4_init_45 (fun σ_8 hx_8 hw_8 => ?_)
  have hg_208 := zX.g hx_8 hw_57
  have ht_8 := ht_57.tr hx_8
  refine x_aload_n hE dX4_init_48 rfl 0 rfl ?_
  refine x_iconst (v := 4) hE dX4_init_49 (by decide) ?_
  refine x_nq (t0 := 3) (fty := .array (.object "OwnRain$Text")) (ty0 := tyX4) (N0 := 4) (j0 := 4) hE hI hw_8 rfl inZX4 tyX4_ok nmX4 (by decide) q374 rfl rfl rfl (by decide +kernel) (fun _ => ⟨rfl, rfl⟩) q359 rfl (Or.inl rfl) (by decide) (by decide) (Nat.le_of_ble_eq_true rfl) (Nat.le_of_ble_eq_true rfl) (Nat.le_of_ble_eq_true rfl) dX4_init_50 dX4_init_53 (fun q_9 L_9 σ_9 φ_9 ρ_9 hn_9 hx_9 hw_9 hp_9 ha_9 => ?_)
  have hg_209 := zX.g hx_9 hw_8
  have ht_9 := ht_8.tr hx_9
  have hz_9 := fun c i => (hp_9 c i).trans (hz_57 c i)
  refine x_aload_n hE dX4_init_56 rfl 0 rfl ?_
  refine x_iconst (v := -1) hE dX4_init_57 (by decide) ?_
  refine x_puti (ty := .int) (ty0 := tyX4) (j0 := 6) (v := -1) hE hw_9 rfl inZX4 tyX4_ok nmX4 (by decide) q378 rfl rfl (by decide +kernel) rfl rfl dX4_init_58 (fun φ_10 hx_10 hp_10 => ?_)
  have hg_210 := zX.g hx_10 hw_9
  have ht_10 := ht_9.tr hx_10
  have hz_10 : ∀ c i, φ_10 c i w = if c = 4 ∧ i = 6 then -1 else 0 := fun c i => by rw [hp_10, hz_9]
  have hT_210 := zG.rf (c := 4) (L := L_9) (σ := σ_9) (φ := φ_10)
  have hT_209 := hg_210.tr hT_210
  have hT_208 := hg_209.tr hT_209
  have hT_207 := hg_208.tr hT_208
  have hT_206 := hg_207.tr hT_207
  have hT_205 := hg_206.tr hT_206
  have hT_204 := hg_205.tr hT_205
  have hT_203 := hg_204.tr hT_204
  have hT_202 := hg_203.tr hT_203
  have hT_201 := hg_202.tr hT_202
  obtain ⟨g, hs1, hs2⟩ := hs_55
  have f1 := hs_51.g hT_201 (by decide)
  have f2 := hs_53.g hT_203 (by decide)
  have f3 := hs1.g hT_205 (by decide) (by decide)
  have f4 := hs_57.g hT_207 (by decide)
  have f5 := hT_209.T ha_9 z_arr
  have f6 := hs2.g hT_205 (by decide)
  refine hret _ _ _ _ _ _ _ _ (Nat.le_of_ble_eq_true rfl) (Nat.le_of_ble_eq_true rfl) dX4_init_61 ⟨ht_10, q_1, q_3, q_5, q_7, q_9, g, ⟨hw_9, f1, f2, f3, f4, f5⟩, (hz_10 4 5).trans (by simp), (hz_10 4 6).trans (by simp), ?_, ?_, fun i => ?_, ?_, ?_, ?_, ?_, ?_, fun i hi x hx => ?_⟩
  · show φ_10 0 0 q_1 = _
    rw [hT_201.o hs_51.at (by decide), hf_51, hp_1]
  · show φ_10 0 1 q_1 = _
    rw [hT_201.o hs_51.at (by decide), hf_51, hp_1]
  · show φ_10 10 i q_3 = _
    rw [hT_203.o hs_53.at (by decide), hf_53, hp_3]
    simp
  · show φ_10 5 0 q_5 = _
    rw [hT_205.o hs1.at (by decide), hf_55, hp_5]
  · show φ_10 5 1 q_5 = _
    rw [hT_205.o hs1.at (by decide), hf_55, hp_5]
  · show φ_10 1 0 q_7 = _
    rw [hT_207.o hs_57.at (by decide), hf_57, hp_7]
  · show φ_10 1 1 q_7 = _
    rw [hT_207.o hs_57.at (by decide), hf_57, hp_7]
  · show φ_10 1 2 q_7 = _
    rw [hT_207.o hs_57.at (by decide), hf_57, hp_7]
  · obtain ⟨y, y1, y2, y3⟩ := f6 i hi
    rw [Option.some.inj (hx.symm.trans y1)]
    exact y3
end
section
theorem dX11_init_0 : decode cX11_init 0 = .ok (.aload_n 0, 1) := by decide +kernel
theorem dX11_init_1 : decode cX11_init 1 = .ok (.invokespecial 1, 3) := by decide +kernel
theorem dX11_init_4 : decode cX11_init 4 = .ok (.aload_n 0, 1) := by decide +kernel
theorem dX11_init_5 : decode cX11_init 5 = .ok (.new 7, 3) := by decide +kernel
theorem dX11_init_8 : decode cX11_init 8 = .ok (.dup, 1) := by decide +kernel
theorem dX11_init_9 : decode cX11_init 9 = .ok (.invokespecial 9, 3) := by decide +kernel
theorem dX11_init_12 : decode cX11_init 12 = .ok (.putfield 10, 3) := by decide +kernel
theorem dX11_init_15 : decode cX11_init 15 = .ok (.aload_n 0, 1) := by decide +kernel
theorem dX11_init_16 : decode cX11_init 16 = .ok (.new 7, 3) := by decide +kernel
theorem dX11_init_19 : decode cX11_init 19 = .ok (.dup, 1) := by decide +kernel
theorem dX11_init_20 : decode cX11_init 20 = .ok (.invokespecial 9, 3) := by decide +kernel
theorem dX11_init_23 : decode cX11_init 23 = .ok (.putfield 16, 3) := by decide +kernel
theorem dX11_init_26 : decode cX11_init 26 = .ok (.aload_n 0, 1) := by decide +kernel
theorem dX11_init_27 : decode cX11_init 27 = .ok (.new 19, 3) := by decide +kernel
theorem dX11_init_30 : decode cX11_init 30 = .ok (.dup, 1) := by decide +kernel
theorem dX11_init_31 : decode cX11_init 31 = .ok (.invokespecial 21, 3) := by decide +kernel
theorem dX11_init_34 : decode cX11_init 34 = .ok (.putfield 22, 3) := by decide +kernel
theorem dX11_init_37 : decode cX11_init 37 = .ok (.aload_n 0, 1) := by decide +kernel
theorem dX11_init_38 : decode cX11_init 38 = .ok (.new 26, 3) := by decide +kernel
theorem dX11_init_41 : decode cX11_init 41 = .ok (.dup, 1) := by decide +kernel
theorem dX11_init_42 : decode cX11_init 42 = .ok (.aload_n 0, 1) := by decide +kernel
theorem dX11_init_43 : decode cX11_init 43 = .ok (.getfield 22, 3) := by decide +kernel
theorem dX11_init_46 : decode cX11_init 46 = .ok (.invokespecial 28, 3) := by decide +kernel
theorem dX11_init_49 : decode cX11_init 49 = .ok (.putfield 31, 3) := by decide +kernel
theorem dX11_init_52 : decode cX11_init 52 = .ok (.aload_n 0, 1) := by decide +kernel
theorem dX11_init_53 : decode cX11_init 53 = .ok (.new 35, 3) := by decide +kernel
theorem dX11_init_56 : decode cX11_init 56 = .ok (.dup, 1) := by decide +kernel
theorem dX11_init_57 : decode cX11_init 57 = .ok (.aload_n 0, 1) := by decide +kernel
theorem dX11_init_58 : decode cX11_init 58 = .ok (.getfield 10, 3) := by decide +kernel
theorem dX11_init_61 : decode cX11_init 61 = .ok (.invokespecial 37, 3) := by decide +kernel
theorem dX11_init_64 : decode cX11_init 64 = .ok (.putfield 40, 3) := by decide +kernel
theorem dX11_init_67 : decode cX11_init 67 = .ok (.aload_n 0, 1) := by decide +kernel
theorem dX11_init_68 : decode cX11_init 68 = .ok (.new 44, 3) := by decide +kernel
theorem dX11_init_71 : decode cX11_init 71 = .ok (.dup, 1) := by decide +kernel
theorem dX11_init_72 : decode cX11_init 72 = .ok (.aload_n 0, 1) := by decide +kernel
theorem dX11_init_73 : decode cX11_init 73 = .ok (.getfield 10, 3) := by decide +kernel
theorem dX11_init_76 : decode cX11_init 76 = .ok (.aload_n 0, 1) := by decide +kernel
theorem dX11_init_77 : decode cX11_init 77 = .ok (.getfield 40, 3) := by decide +kernel
theorem dX11_init_80 : decode cX11_init 80 = .ok (.invokespecial 46, 3) := by decide +kernel
theorem dX11_init_83 : decode cX11_init 83 = .ok (.putfield 49, 3) := by decide +kernel
theorem dX11_init_86 : decode cX11_init 86 = .ok (.aload_n 0, 1) := by decide +kernel
theorem dX11_init_87 : decode cX11_init 87 = .ok (.new 53, 3) := by decide +kernel
theorem dX11_init_90 : decode cX11_init 90 = .ok (.dup, 1) := by decide +kernel
theorem dX11_init_91 : decode cX11_init 91 = .ok (.aload_n 0, 1) := by decide +kernel
theorem dX11_init_92 : decode cX11_init 92 = .ok (.getfield 10, 3) := by decide +kernel
theorem dX11_init_95 : decode cX11_init 95 = .ok (.invokespecial 55, 3) := by decide +kernel
theorem dX11_init_98 : decode cX11_init 98 = .ok (.putfield 56, 3) := by decide +kernel
theorem dX11_init_101 : decode cX11_init 101 = .ok (.return_, 1) := by decide +kernel
section ZG2
variable {cy : Nat → ClassId} {L L1 : List Nat} {σ σ1 : Nat → va_E} {φ φ1 : Nat → Nat → Nat → Int32} {a s t c : Nat}
theorem zTape.g (h : zTape cy L σ a) (hg : zG c L σ φ L1 σ1 φ1) (hc : 6 ≠ c) : zTape cy L1 σ1 a := by
  obtain ⟨a0, a1, a2, a3, h, h0, h1, h2, h3, n1, n2⟩ := h
  exact ⟨a0, a1, a2, a3, hg.T h (z_cls hc), hg.T h0 z_arr, hg.T h1 z_arr, hg.T h2 z_arr, hg.T h3 z_arr, n1, n2⟩
theorem zReader.g (h : zReader L σ a t) (hg : zG c L σ φ L1 σ1 φ1) (hc : 3 ≠ c) : zReader L1 σ1 a t := hg.T h (z_cls hc)
theorem zWeather.g (h : zWeather cy L σ a s) (hg : zG c L σ φ L1 σ1 φ1) (hc : 9 ≠ c) : zWeather cy L1 σ1 a s := by
  obtain ⟨a0, a1, a2, a3, h, h0, h1, h2, h3⟩ := h
  exact ⟨a0, a1, a2, a3, hg.T h (z_cls hc), hg.T h0 z_arr, hg.T h1 z_arr, hg.T h2 z_arr, hg.T h3 z_arr⟩
theorem zWays.g (h : zWays cy L σ a s) (hg : zG c L σ φ L1 σ1 φ1) (hc : 8 ≠ c) : zWays cy L1 σ1 a s := by
  obtain ⟨a0, a1, h, h0, h1⟩ := h
  exact ⟨a0, a1, hg.T h (z_cls hc), hg.T h0 z_arr, hg.T h1 z_arr⟩
theorem zPlanner.g (h : zPlanner cy L σ a s t) (hg : zG c L σ φ L1 σ1 φ1) (hc : 2 ≠ c) (hc2 : 10 ≠ c) : zPlanner cy L1 σ1 a s t := by
  obtain ⟨a0, a1, a2, a3, a4, a5, a6, g, h, h0, h1, h2, h3, h4, h5, h6, h7⟩ := h
  refine ⟨a0, a1, a2, a3, a4, a5, a6, g, hg.T h (z_cls hc), hg.T h0 z_arr, hg.T h1 z_arr, hg.T h2 z_arr, hg.T h3 z_arr, hg.T h4 z_arr, hg.T h5 z_arr, hg.T h6 z_arr, fun i hi => ?_⟩
  obtain ⟨x, hx, hx2⟩ := h7 i hi
  exact ⟨x, hx, hx2.g hg hc2⟩
theorem zTape.at (h : zTape cy L σ a) : ∃ S, zT L σ a (.inr (6, S)) := by
  obtain ⟨_, _, _, _, h, -⟩ := h
  exact ⟨_, h⟩
theorem zWeather.at (h : zWeather cy L σ a s) : ∃ S, zT L σ a (.inr (9, S)) := by
  obtain ⟨_, _, _, _, h, -⟩ := h
  exact ⟨_, h⟩
/-- a new OwnRain -/
def zOR (cy : Nat → ClassId) (L : List Nat) (σ : Nat → va_E) (φ : Nat → Nat → Nat → Int32) (x : Nat) : Prop := ∃ (now kept tape reader weather planner ways la wo sp li te : Nat) (g : Nat → Option Nat) (la' wo' sp' li' te' : Nat) (g' : Nat → Option Nat), zT L σ x (.inr (11, [.ref now, .ref kept, .ref tape, .ref reader, .ref weather, .ref planner, .ref ways])) ∧ zState cy L σ now la wo sp li te g ∧ zSt0 φ now la wo sp li g ∧ zState cy L σ kept la' wo' sp' li' te' g' ∧ zSt0 φ kept la' wo' sp' li' g' ∧ zTape cy L σ tape ∧ φ 6 0 tape = 0 ∧ zReader L σ reader tape ∧ φ 3 0 reader = -1 ∧ φ 3 1 reader = -1 ∧ zWeather cy L σ weather now ∧ φ 9 0 weather = -1 ∧ zPlanner cy L σ planner now weather ∧ zWays cy L σ ways now
end ZG2

-- OwnRain()
set_option maxHeartbeats 4000000 in
set_option maxRecDepth 100000 in
theorem k_OwnRain (l : Launch) (D : va_G) (cy : Nat → ClassId) (L : List Nat) (σ : Nat → va_E) (φ : Nat → Nat → Nat → Int32) (ρ : Nat → Nat → Int32) {w : Nat} (hw_0 : zT L σ w (.inr (11, [.null, .null, .null, .null, .null, .null, .null]))) : zMV l D cy yX11_init cX11_init 1 (zrm 4 680 10207) [.ref w] L σ φ ρ (fun u => zX w L σ φ ρ u.1 u.2.1 u.2.2.1 u.2.2.2 ∧ zOR cy u.1 u.2.1 u.2.2.1 w) := by
  refine zMV.mk (by decide) (Nat.le_of_ble_eq_true rfl) (fun E hE hI hret => ?_)
  have hI := hI rfl
  show zW E 0 0 L σ φ ρ 0 [(0, .ref w)] []
  refine x_aload_n hE dX11_init_0 rfl 0 rfl ?_
  refine x_objinit hE q139 q140 q141 dX11_init_1 (Nat.le_of_ble_eq_true rfl) (Nat.le_of_ble_eq_true rfl) ?_
  refine x_aload_n hE dX11_init_4 rfl 0 rfl ?_
  refine h_new (ci := 4) (fs := [.null, .null, .null, .null, .null, .int 0, .int 0]) (ty0 := tyX4) hE rfl inZX4 tyX4_ok q142 q143 q114 (by decide +kernel) rfl (fun c i => by by_cases hc : 4 = c <;> simp [zfI, hc] <;> (rcases i with _ | _ | _ | _ | _ | _ | _ | _ | _ | _ | _ | _ | _ | _ | _ | i <;> rfl)) (Nat.le_of_ble_eq_true rfl) (Nat.le_of_ble_eq_true rfl) dX11_init_5 (fun q_1 L_1 σ_1 φ_1 ρ_1 hn_1 hx_1 hw_1 hp_1 => ?_)
  have hwn_1 := zX.all hx_1 hw_0
  refine x_dup hE dX11_init_8 rfl ?_
  refine c_v hE (r_IN (st := [.ref q_1, .ref w]) hE (k_State l D cy L_1 σ_1 φ_1 ρ_1 hw_1 hp_1) (by decide +kernel) q145 q114 q146 rfl ⟨by decide, by decide, pn_X4_init⟩ ⟨Nat.le_of_ble_eq_true rfl, Nat.le_of_ble_eq_true rfl⟩ ⟨Nat.le_of_ble_eq_true rfl, Nat.le_of_ble_eq_true rfl⟩ rfl (Nat.le_of_ble_eq_true rfl) dX11_init_9) (fun L_51 σ_51 φ_51 ρ_51 h_51 => ?_)
  refine x_widen (k' := 302) (n' := 3851) (Nat.le_of_ble_eq_true rfl) (Nat.le_of_ble_eq_true rfl) ?_
  obtain ⟨hc_51, la_51, wo_51, sp_51, li_51, te_51, g_51, hs_51, hf_51⟩ := h_51
  dsimp only at hc_51 hs_51 hf_51
  have hg_201 := zN.g (c := 11) hx_1 hn_1 hc_51
  have hw_51 := zN.T hx_1 hn_1 hc_51 hw_0
  have hq_51 : q_1 ∉ L := fun h => hn_1 ((zX.rf (w := w) (L := L) (σ := σ) (φ := φ) (ρ := ρ)).1 _ h)
  have ht_51 := ((zX.rf (w := w) (L := L) (σ := σ) (φ := φ) (ρ := ρ)).tr (hx_1 w)).tr' hq_51 hc_51
  refine x_putr (ty := .object "OwnRain$State") (ty0 := tyX11) (j0 := 0) hE (Or.inl ⟨hI, rfl, rfl⟩) hw_51 rfl inZX11 tyX11_ok nmX11 (by decide) q556 ⟨_, rfl, Or.inl rfl⟩ (by decide +kernel) rfl rfl dX11_init_12 (fun σ_2 hx_2 hw_2 => ?_)
  have hg_202 := zX.g hx_2 hw_51
  have ht_2 := ht_51.tr hx_2
  refine x_aload_n hE dX11_init_15 rfl 0 rfl ?_
  refine h_new (ci := 4) (fs := [.null, .null, .null, .null, .null, .int 0, .int 0]) (ty0 := tyX4) hE rfl inZX4 tyX4_ok q142 q143 q114 (by decide +kernel) rfl (fun c i => by by_cases hc : 4 = c <;> simp [zfI, hc] <;> (rcases i with _ | _ | _ | _ | _ | _ | _ | _ | _ | _ | _ | _ | _ | _ | _ | i <;> rfl)) (Nat.le_of_ble_eq_true rfl) (Nat.le_of_ble_eq_true rfl) dX11_init_16 (fun q_3 L_3 σ_3 φ_3 ρ_3 hn_3 hx_3 hw_3 hp_3 => ?_)
  have hwn_3 := zX.all hx_3 hw_2
  refine x_dup hE dX11_init_19 rfl ?_
  refine c_v hE (r_IN (st := [.ref q_3, .ref w]) hE (k_State l D cy L_3 σ_3 φ_3 ρ_3 hw_3 hp_3) (by decide +kernel) q145 q114 q146 rfl ⟨by decide, by decide, pn_X4_init⟩ ⟨Nat.le_of_ble_eq_true rfl, Nat.le_of_ble_eq_true rfl⟩ ⟨Nat.le_of_ble_eq_true rfl, Nat.le_of_ble_eq_true rfl⟩ rfl (Nat.le_of_ble_eq_true rfl) dX11_init_20) (fun L_53 σ_53 φ_53 ρ_53 h_53 => ?_)
  refine x_widen (k' := 604) (n' := 7702) (Nat.le_of_ble_eq_true rfl) (Nat.le_of_ble_eq_true rfl) ?_
  obtain ⟨hc_53, la_53, wo_53, sp_53, li_53, te_53, g_53, hs_53, hf_53⟩ := h_53
  dsimp only at hc_53 hs_53 hf_53
  have hg_203 := zN.g (c := 11) hx_3 hn_3 hc_53
  have hw_53 := zN.T hx_3 hn_3 hc_53 hw_2
  have hq_53 : q_3 ∉ L := fun h => hn_3 (ht_2.1 _ h)
  have ht_53 := (ht_2.tr (hx_3 w)).tr' hq_53 hc_53
  refine x_putr (ty := .object "OwnRain$State") (ty0 := tyX11) (j0 := 1) hE (Or.inl ⟨hI, rfl, rfl⟩) hw_53 rfl inZX11 tyX11_ok nmX11 (by decide) q557 ⟨_, rfl, Or.inl rfl⟩ (by decide +kernel) rfl rfl dX11_init_23 (fun σ_4 hx_4 hw_4 => ?_)
  have hg_204 := zX.g hx_4 hw_53
  have ht_4 := ht_53.tr hx_4
  refine x_aload_n hE dX11_init_26 rfl 0 rfl ?_
  refine h_new (ci := 6) (fs := [.int 0, .int 0, .null, .null, .null, .null]) (ty0 := tyX6) hE rfl inZX6 tyX6_ok q395 q396 q119 (by decide +kernel) rfl (fun c i => by by_cases hc : 6 = c <;> simp [zfI, hc] <;> (rcases i with _ | _ | _ | _ | _ | _ | _ | _ | _ | _ | _ | _ | _ | _ | _ | i <;> rfl)) (Nat.le_of_ble_eq_true rfl) (Nat.le_of_ble_eq_true rfl) dX11_init_27 (fun q_5 L_5 σ_5 φ_5 ρ_5 hn_5 hx_5 hw_5 hp_5 => ?_)
  have hwn_5 := zX.all hx_5 hw_4
  refine x_dup hE dX11_init_30 rfl ?_
  refine c_v hE (r_IN (st := [.ref q_5, .ref w]) hE (k_Tape l D cy L_5 σ_5 φ_5 ρ_5 hw_5) (by decide +kernel) q398 q119 q399 rfl ⟨by decide, by decide, pn_X6_init⟩ ⟨Nat.le_of_ble_eq_true rfl, Nat.le_of_ble_eq_true rfl⟩ ⟨Nat.le_of_ble_eq_true rfl, Nat.le_of_ble_eq_true rfl⟩ rfl (Nat.le_of_ble_eq_true rfl) dX11_init_31) (fun L_55 σ_55 φ_55 ρ_55 h_55 => ?_)
  refine x_widen (k' := 609) (n' := 8911) (Nat.le_of_ble_eq_true rfl) (Nat.le_of_ble_eq_true rfl) ?_
  obtain ⟨hc_55, hs_55, hf_55⟩ := h_55
  dsimp only at hc_55 hs_55 hf_55
  have hg_205 := zN.g (c := 11) hx_5 hn_5 hc_55
  have hw_55 := zN.T hx_5 hn_5 hc_55 hw_4
  have hq_55 : q_5 ∉ L := fun h => hn_5 (ht_4.1 _ h)
  have ht_55 := (ht_4.tr (hx_5 w)).tr' hq_55 hc_55
  refine x_putr (ty := .object "OwnRain$Tape") (ty0 := tyX11) (j0 := 2) hE (Or.inl ⟨hI, rfl, rfl⟩) hw_55 rfl inZX11 tyX11_ok nmX11 (by decide) q558 ⟨_, rfl, Or.inl rfl⟩ (by decide +kernel) rfl rfl dX11_init_34 (fun σ_6 hx_6 hw_6 => ?_)
  have hg_206 := zX.g hx_6 hw_55
  have ht_6 := ht_55.tr hx_6
  refine x_aload_n hE dX11_init_37 rfl 0 rfl ?_
  refine h_new (ci := 3) (fs := [.int 0, .int 0, .null, .null, .int 0, .int 0, .int 0]) (ty0 := tyX3) hE rfl inZX3 tyX3_ok q426 q427 q120 (by decide +kernel) rfl (fun c i => by by_cases hc : 3 = c <;> simp [zfI, hc] <;> (rcases i with _ | _ | _ | _ | _ | _ | _ | _ | _ | _ | _ | _ | _ | _ | _ | i <;> rfl)) (Nat.le_of_ble_eq_true rfl) (Nat.le_of_ble_eq_true rfl) dX11_init_38 (fun q_7 L_7 σ_7 φ_7 ρ_7 hn_7 hx_7 hw_7 hp_7 => ?_)
  have hwn_7 := zX.all hx_7 hw_6
  refine x_dup hE dX11_init_41 rfl ?_
  refine x_aload_n hE dX11_init_42 rfl 0 rfl ?_
  refine h_getr hE hwn_7 rfl inZX11 2 (by decide) q558 rfl dX11_init_43 ?_
  refine c_v hE (r_I (st := [.ref q_7, .ref w]) hE (k_Reader l D cy L_7 σ_7 φ_7 ρ_7 hw_7) q428 q429 q120 q430 rfl ⟨by decide, by decide, pn_X3_init⟩ ⟨Nat.le_of_ble_eq_true rfl, Nat.le_of_ble_eq_true rfl⟩ ⟨Nat.le_of_ble_eq_true rfl, Nat.le_of_ble_eq_true rfl⟩ rfl (Nat.le_of_ble_eq_true rfl) dX11_init_46) (fun L_57 σ_57 φ_57 ρ_57 h_57 => ?_)
  refine x_widen (k' := 610) (n' := 8918) (Nat.le_of_ble_eq_true rfl) (Nat.le_of_ble_eq_true rfl) ?_
  obtain ⟨hc_57, hs_57, hf_57⟩ := h_57
  dsimp only at hc_57 hs_57 hf_57
  have hg_207 := zN.g (c := 11) hx_7 hn_7 hc_57
  have hw_57 := zN.T hx_7 hn_7 hc_57 hw_6
  have hq_57 : q_7 ∉ L := fun h => hn_7 (ht_6.1 _ h)
  have ht_57 := (ht_6.tr (hx_7 w)).tr' hq_57 hc_57
  refine x_putr (ty := .object "OwnRain$Reader") (ty0 := tyX11) (j0 := 3) hE (Or.inl ⟨hI, rfl, rfl⟩) hw_57 rfl inZX11 tyX11_ok nmX11 (by decide) q559 ⟨_, rfl, Or.inl rfl⟩ (by decide +kernel) rfl rfl dX11_init_49 (fun σ_8 hx_8 hw_8 => ?_)
  have hg_208 := zX.g hx_8 hw_57
  have ht_8 := ht_57.tr hx_8
  refine x_aload_n hE dX11_init_52 rfl 0 rfl ?_
  refine h_new (ci := 9) (fs := [.int 0, .null, .null, .int 0, .null, .null, .null, .null, .int 0, .int 0]) (ty0 := tyX9) hE rfl inZX9 tyX9_ok q456 q457 q121 (by decide +kernel) rfl (fun c i => by by_cases hc : 9 = c <;> simp [zfI, hc] <;> (rcases i with _ | _ | _ | _ | _ | _ | _ | _ | _ | _ | _ | _ | _ | _ | _ | i <;> rfl)) (Nat.le_of_ble_eq_true rfl) (Nat.le_of_ble_eq_true rfl) dX11_init_53 (fun q_9 L_9 σ_9 φ_9 ρ_9 hn_9 hx_9 hw_9 hp_9 => ?_)
  have hwn_9 := zX.all hx_9 hw_8
  refine x_dup hE dX11_init_56 rfl ?_
  refine x_aload_n hE dX11_init_57 rfl 0 rfl ?_
  refine h_getr hE hwn_9 rfl inZX11 0 (by decide) q556 rfl dX11_init_58 ?_
  refine c_v hE (r_I (st := [.ref q_9, .ref w]) hE (k_Weather l D cy L_9 σ_9 φ_9 ρ_9 hw_9) q458 q459 q121 q460 rfl ⟨by decide, by decide, pn_X9_init⟩ ⟨Nat.le_of_ble_eq_true rfl, Nat.le_of_ble_eq_true rfl⟩ ⟨Nat.le_of_ble_eq_true rfl, Nat.le_of_ble_eq_true rfl⟩ rfl (Nat.le_of_ble_eq_true rfl) dX11_init_61) (fun L_59 σ_59 φ_59 ρ_59 h_59 => ?_)
  refine x_widen (k' := 615) (n' := 9338) (Nat.le_of_ble_eq_true rfl) (Nat.le_of_ble_eq_true rfl) ?_
  obtain ⟨hc_59, hs_59, hf_59⟩ := h_59
  dsimp only at hc_59 hs_59 hf_59
  have hg_209 := zN.g (c := 11) hx_9 hn_9 hc_59
  have hw_59 := zN.T hx_9 hn_9 hc_59 hw_8
  have hq_59 : q_9 ∉ L := fun h => hn_9 (ht_8.1 _ h)
  have ht_59 := (ht_8.tr (hx_9 w)).tr' hq_59 hc_59
  refine x_putr (ty := .object "OwnRain$Weather") (ty0 := tyX11) (j0 := 4) hE (Or.inl ⟨hI, rfl, rfl⟩) hw_59 rfl inZX11 tyX11_ok nmX11 (by decide) q560 ⟨_, rfl, Or.inl rfl⟩ (by decide +kernel) rfl rfl dX11_init_64 (fun σ_10 hx_10 hw_10 => ?_)
  have hg_210 := zX.g hx_10 hw_59
  have ht_10 := ht_59.tr hx_10
  refine x_aload_n hE dX11_init_67 rfl 0 rfl ?_
  refine h_new (ci := 2) (fs := [.int 0, .null, .null, .null, .null, .null, .null, .null, .null, .null]) (ty0 := tyX2) hE rfl inZX2 tyX2_ok q497 q498 q122 (by decide +kernel) rfl (fun c i => by by_cases hc : 2 = c <;> simp [zfI, hc] <;> (rcases i with _ | _ | _ | _ | _ | _ | _ | _ | _ | _ | _ | _ | _ | _ | _ | i <;> rfl)) (Nat.le_of_ble_eq_true rfl) (Nat.le_of_ble_eq_true rfl) dX11_init_68 (fun q_11 L_11 σ_11 φ_11 ρ_11 hn_11 hx_11 hw_11 hp_11 => ?_)
  have hwn_11 := zX.all hx_11 hw_10
  refine x_dup hE dX11_init_71 rfl ?_
  refine x_aload_n hE dX11_init_72 rfl 0 rfl ?_
  refine h_getr hE hwn_11 rfl inZX11 0 (by decide) q556 rfl dX11_init_73 ?_
  refine x_aload_n hE dX11_init_76 rfl 0 rfl ?_
  refine h_getr hE hwn_11 rfl inZX11 4 (by decide) q560 rfl dX11_init_77 ?_
  refine c_v hE (r_I (st := [.ref q_11, .ref w]) hE (k_Planner l D cy L_11 σ_11 φ_11 ρ_11 hw_11) q499 q500 q122 q501 rfl ⟨by decide, by decide, pn_X2_init⟩ ⟨Nat.le_of_ble_eq_true rfl, Nat.le_of_ble_eq_true rfl⟩ ⟨Nat.le_of_ble_eq_true rfl, Nat.le_of_ble_eq_true rfl⟩ rfl (Nat.le_of_ble_eq_true rfl) dX11_init_80) (fun L_61 σ_61 φ_61 ρ_61 h_61 => ?_)
  refine x_widen (k' := 677) (n' := 10192) (Nat.le_of_ble_eq_true rfl) (Nat.le_of_ble_eq_true rfl) ?_
  obtain ⟨hc_61, hs_61, hf_61⟩ := h_61
  dsimp only at hc_61 hs_61 hf_61
  have hg_211 := zN.g (c := 11) hx_11 hn_11 hc_61
  have hw_61 := zN.T hx_11 hn_11 hc_61 hw_10
  have hq_61 : q_11 ∉ L := fun h => hn_11 (ht_10.1 _ h)
  have ht_61 := (ht_10.tr (hx_11 w)).tr' hq_61 hc_61
  refine x_putr (ty := .object "OwnRain$Planner") (ty0 := tyX11) (j0 := 5) hE (Or.inl ⟨hI, rfl, rfl⟩) hw_61 rfl inZX11 tyX11_ok nmX11 (by decide) q561 ⟨_, rfl, Or.inl rfl⟩ (by decide +kernel) rfl rfl dX11_init_83 (fun σ_12 hx_12 hw_12 => ?_)
  have hg_212 := zX.g hx_12 hw_61
  have ht_12 := ht_61.tr hx_12
  refine x_aload_n hE dX11_init_86 rfl 0 rfl ?_
  refine h_new (ci := 8) (fs := [.null, .null, .null]) (ty0 := tyX8) hE rfl inZX8 tyX8_ok q539 q540 q123 (by decide +kernel) rfl (fun c i => by by_cases hc : 8 = c <;> simp [zfI, hc] <;> (rcases i with _ | _ | _ | _ | _ | _ | _ | _ | _ | _ | _ | _ | _ | _ | _ | i <;> rfl)) (Nat.le_of_ble_eq_true rfl) (Nat.le_of_ble_eq_true rfl) dX11_init_87 (fun q_13 L_13 σ_13 φ_13 ρ_13 hn_13 hx_13 hw_13 hp_13 => ?_)
  have hwn_13 := zX.all hx_13 hw_12
  refine x_dup hE dX11_init_90 rfl ?_
  refine x_aload_n hE dX11_init_91 rfl 0 rfl ?_
  refine h_getr hE hwn_13 rfl inZX11 0 (by decide) q556 rfl dX11_init_92 ?_
  refine c_v hE (r_I (st := [.ref q_13, .ref w]) hE (k_Ways l D cy L_13 σ_13 φ_13 ρ_13 hw_13) q541 q542 q123 q543 rfl ⟨by decide, by decide, pn_X8_init⟩ ⟨Nat.le_of_ble_eq_true rfl, Nat.le_of_ble_eq_true rfl⟩ ⟨Nat.le_of_ble_eq_true rfl, Nat.le_of_ble_eq_true rfl⟩ rfl (Nat.le_of_ble_eq_true rfl) dX11_init_95) (fun L_63 σ_63 φ_63 ρ_63 h_63 => ?_)
  refine x_widen (k' := 680) (n' := 10207) (Nat.le_of_ble_eq_true rfl) (Nat.le_of_ble_eq_true rfl) ?_
  obtain ⟨hc_63, hs_63, hf_63⟩ := h_63
  dsimp only at hc_63 hs_63 hf_63
  have hg_213 := zN.g (c := 11) hx_13 hn_13 hc_63
  have hw_63 := zN.T hx_13 hn_13 hc_63 hw_12
  have hq_63 : q_13 ∉ L := fun h => hn_13 (ht_12.1 _ h)
  have ht_63 := (ht_12.tr (hx_13 w)).tr' hq_63 hc_63
  refine x_putr (ty := .object "OwnRain$Ways") (ty0 := tyX11) (j0 := 6) hE (Or.inl ⟨hI, rfl, rfl⟩) hw_63 rfl inZX11 tyX11_ok nmX11 (by decide) q562 ⟨_, rfl, Or.inl rfl⟩ (by decide +kernel) rfl rfl dX11_init_98 (fun σ_14 hx_14 hw_14 => ?_)
  have hg_214 := zX.g hx_14 hw_63
  have ht_14 := ht_63.tr hx_14
  have hT_214 := zG.rf (c := 11) (L := L_63) (σ := σ_14) (φ := φ_63)
  have hT_213 := hg_214.tr hT_214
  have hT_212 := hg_213.tr hT_213
  have hT_211 := hg_212.tr hT_212
  have hT_210 := hg_211.tr hT_211
  have hT_209 := hg_210.tr hT_210
  have hT_208 := hg_209.tr hT_209
  have hT_207 := hg_208.tr hT_208
  have hT_206 := hg_207.tr hT_207
  have hT_205 := hg_206.tr hT_206
  have hT_204 := hg_205.tr hT_205
  have hT_203 := hg_204.tr hT_204
  have hT_202 := hg_203.tr hT_203
  have hT_201 := hg_202.tr hT_202
  exact hret _ _ _ _ _ _ _ _ (Nat.le_of_ble_eq_true rfl) (Nat.le_of_ble_eq_true rfl) dX11_init_101 ⟨ht_14, q_1, q_3, q_5, q_7, q_9, q_11, q_13, la_51, wo_51, sp_51, li_51, te_51, g_51, la_53, wo_53, sp_53, li_53, te_53, g_53, hw_14, (hs_51.g hT_201 (by decide) (by decide) (by decide) (by decide) (by decide)), (hf_51.g hs_51 hT_201 (by decide) (by decide) (by decide) (by decide) (by decide)), (hs_53.g hT_203 (by decide) (by decide) (by decide) (by decide) (by decide)), (hf_53.g hs_53 hT_203 (by decide) (by decide) (by decide) (by decide) (by decide)), (hs_55.g hT_205 (by decide)), (by show φ_63 6 0 _ = _; rw [hT_205.o hs_55.at (by decide), hf_55, hp_5]), (hs_57.g hT_207 (by decide)), (by show φ_63 3 0 _ = _; rw [hT_207.o ⟨_, hs_57⟩ (by decide), hf_57]; simp), (by show φ_63 3 1 _ = _; rw [hT_207.o ⟨_, hs_57⟩ (by decide), hf_57]; simp), (hs_59.g hT_209 (by decide)), (by show φ_63 9 0 _ = _; rw [hT_209.o hs_59.at (by decide), hf_59]; simp), (hs_61.g hT_211 (by decide) (by decide)), (hs_63.g hT_213 (by decide))⟩
end
section
theorem dX0_addField_0 : decode cX0_addField 0 = .ok (.aload_n 0, 1) := by decide +kernel
theorem dX0_addField_1 : decode cX0_addField 1 = .ok (.getfield 9, 3) := by decide +kernel
theorem dX0_addField_4 : decode cX0_addField 4 = .ok (.aload_n 0, 1) := by decide +kernel
theorem dX0_addField_5 : decode cX0_addField 5 = .ok (.getfield 36, 3) := by decide +kernel
theorem dX0_addField_8 : decode cX0_addField 8 = .ok (.iload_n 1, 1) := by decide +kernel
theorem dX0_addField_9 : decode cX0_addField 9 = .ok (.iastore, 1) := by decide +kernel
theorem dX0_addField_10 : decode cX0_addField 10 = .ok (.aload_n 0, 1) := by decide +kernel
theorem dX0_addField_11 : decode cX0_addField 11 = .ok (.getfield 15, 3) := by decide +kernel
theorem dX0_addField_14 : decode cX0_addField 14 = .ok (.aload_n 0, 1) := by decide +kernel
theorem dX0_addField_15 : decode cX0_addField 15 = .ok (.getfield 36, 3) := by decide +kernel
theorem dX0_addField_18 : decode cX0_addField 18 = .ok (.iload_n 2, 1) := by decide +kernel
theorem dX0_addField_19 : decode cX0_addField 19 = .ok (.iastore, 1) := by decide +kernel
theorem dX0_addField_20 : decode cX0_addField 20 = .ok (.aload_n 0, 1) := by decide +kernel
theorem dX0_addField_21 : decode cX0_addField 21 = .ok (.getfield 18, 3) := by decide +kernel
theorem dX0_addField_24 : decode cX0_addField 24 = .ok (.aload_n 0, 1) := by decide +kernel
theorem dX0_addField_25 : decode cX0_addField 25 = .ok (.getfield 36, 3) := by decide +kernel
theorem dX0_addField_28 : decode cX0_addField 28 = .ok (.iload_n 3, 1) := by decide +kernel
theorem dX0_addField_29 : decode cX0_addField 29 = .ok (.iastore, 1) := by decide +kernel
theorem dX0_addField_30 : decode cX0_addField 30 = .ok (.aload_n 0, 1) := by decide +kernel
theorem dX0_addField_31 : decode cX0_addField 31 = .ok (.dup, 1) := by decide +kernel
theorem dX0_addField_32 : decode cX0_addField 32 = .ok (.getfield 36, 3) := by decide +kernel
theorem dX0_addField_35 : decode cX0_addField 35 = .ok (.dup_x1, 1) := by decide +kernel
theorem dX0_addField_36 : decode cX0_addField 36 = .ok (.iconst 1, 1) := by decide +kernel
theorem dX0_addField_37 : decode cX0_addField 37 = .ok (.iadd, 1) := by decide +kernel
theorem dX0_addField_38 : decode cX0_addField 38 = .ok (.putfield 36, 3) := by decide +kernel
theorem dX0_addField_41 : decode cX0_addField 41 = .ok (.ireturn, 1) := by decide +kernel
theorem dX11_end_0 : decode cX11_end 0 = .ok (.iload_n 1, 1) := by decide +kernel
theorem dX11_end_1 : decode cX11_end 1 = .ok (.ifCond .lt 14, 3) := by decide +kernel
theorem dX11_end_4 : decode cX11_end 4 = .ok (.iload_n 1, 1) := by decide +kernel
theorem dX11_end_5 : decode cX11_end 5 = .ok (.aload_n 0, 1) := by decide +kernel
theorem dX11_end_6 : decode cX11_end 6 = .ok (.getfield 22, 3) := by decide +kernel
theorem dX11_end_9 : decode cX11_end 9 = .ok (.getfield 107, 3) := by decide +kernel
theorem dX11_end_12 : decode cX11_end 12 = .ok (.if_icmp .le 5, 3) := by decide +kernel
theorem dX11_end_15 : decode cX11_end 15 = .ok (.iconst (-1), 1) := by decide +kernel
theorem dX11_end_16 : decode cX11_end 16 = .ok (.ireturn, 1) := by decide +kernel
theorem dX11_end_17 : decode cX11_end 17 = .ok (.aload_n 0, 1) := by decide +kernel
theorem dX11_end_18 : decode cX11_end 18 = .ok (.getfield 22, 3) := by decide +kernel
theorem dX11_end_21 : decode cX11_end 21 = .ok (.iload_n 1, 1) := by decide +kernel
theorem dX11_end_22 : decode cX11_end 22 = .ok (.putfield 107, 3) := by decide +kernel
theorem dX11_end_25 : decode cX11_end 25 = .ok (.iload_n 1, 1) := by decide +kernel
theorem dX11_end_26 : decode cX11_end 26 = .ok (.ireturn, 1) := by decide +kernel
theorem dX11_field_0 : decode cX11_field 0 = .ok (.aload_n 0, 1) := by decide +kernel
theorem dX11_field_1 : decode cX11_field 1 = .ok (.getfield 10, 3) := by decide +kernel
theorem dX11_field_4 : decode cX11_field 4 = .ok (.getfield 60, 3) := by decide +kernel
theorem dX11_field_7 : decode cX11_field 7 = .ok (.astore 4, 2) := by decide +kernel
theorem dX11_field_9 : decode cX11_field 9 = .ok (.iload_n 1, 1) := by decide +kernel
theorem dX11_field_10 : decode cX11_field 10 = .ok (.iconst 0, 1) := by decide +kernel
theorem dX11_field_11 : decode cX11_field 11 = .ok (.bipush 9, 2) := by decide +kernel
theorem dX11_field_13 : decode cX11_field 13 = .ok (.invokestatic 64, 3) := by decide +kernel
theorem dX11_field_16 : decode cX11_field 16 = .ok (.ifCond .eq 34, 3) := by decide +kernel
theorem dX11_field_19 : decode cX11_field 19 = .ok (.iload_n 2, 1) := by decide +kernel
theorem dX11_field_20 : decode cX11_field 20 = .ok (.iconst 0, 1) := by decide +kernel
theorem dX11_field_21 : decode cX11_field 21 = .ok (.sipush 999, 3) := by decide +kernel
theorem dX11_field_24 : decode cX11_field 24 = .ok (.invokestatic 64, 3) := by decide +kernel
theorem dX11_field_27 : decode cX11_field 27 = .ok (.ifCond .eq 23, 3) := by decide +kernel
theorem dX11_field_30 : decode cX11_field 30 = .ok (.iload_n 3, 1) := by decide +kernel
theorem dX11_field_31 : decode cX11_field 31 = .ok (.iconst 1, 1) := by decide +kernel
theorem dX11_field_32 : decode cX11_field 32 = .ok (.sipush 999, 3) := by decide +kernel
theorem dX11_field_35 : decode cX11_field 35 = .ok (.invokestatic 64, 3) := by decide +kernel
theorem dX11_field_38 : decode cX11_field 38 = .ok (.ifCond .eq 12, 3) := by decide +kernel
theorem dX11_field_41 : decode cX11_field 41 = .ok (.iload_n 3, 1) := by decide +kernel
theorem dX11_field_42 : decode cX11_field 42 = .ok (.iload_n 2, 1) := by decide +kernel
theorem dX11_field_43 : decode cX11_field 43 = .ok (.if_icmp .le 7, 3) := by decide +kernel
theorem dX11_field_46 : decode cX11_field 46 = .ok (.iconst 1, 1) := by decide +kernel
theorem dX11_field_47 : decode cX11_field 47 = .ok (.goto 4, 3) := by decide +kernel
theorem dX11_field_50 : decode cX11_field 50 = .ok (.iconst 0, 1) := by decide +kernel
theorem dX11_field_51 : decode cX11_field 51 = .ok (.istore 5, 2) := by decide +kernel
theorem dX11_field_53 : decode cX11_field 53 = .ok (.iload 5, 2) := by decide +kernel
theorem dX11_field_55 : decode cX11_field 55 = .ok (.ifCond .eq 13, 3) := by decide +kernel
theorem dX11_field_58 : decode cX11_field 58 = .ok (.aload 4, 2) := by decide +kernel
theorem dX11_field_60 : decode cX11_field 60 = .ok (.getfield 68, 3) := by decide +kernel
theorem dX11_field_63 : decode cX11_field 63 = .ok (.bipush 6, 2) := by decide +kernel
theorem dX11_field_65 : decode cX11_field 65 = .ok (.if_icmp .lt 5, 3) := by decide +kernel
theorem dX11_field_68 : decode cX11_field 68 = .ok (.iconst (-1), 1) := by decide +kernel
theorem dX11_field_69 : decode cX11_field 69 = .ok (.ireturn, 1) := by decide +kernel
theorem dX11_field_70 : decode cX11_field 70 = .ok (.aload 4, 2) := by decide +kernel
theorem dX11_field_72 : decode cX11_field 72 = .ok (.iload_n 1, 1) := by decide +kernel
theorem dX11_field_73 : decode cX11_field 73 = .ok (.iload_n 2, 1) := by decide +kernel
theorem dX11_field_74 : decode cX11_field 74 = .ok (.iload_n 3, 1) := by decide +kernel
theorem dX11_field_75 : decode cX11_field 75 = .ok (.invokevirtual 74, 3) := by decide +kernel
theorem dX11_field_78 : decode cX11_field 78 = .ok (.ireturn, 1) := by decide +kernel
set_option maxHeartbeats 4000000 in
set_option maxRecDepth 100000 in
theorem k_addField (l : Launch) (D : va_G) (cy : Nat → ClassId) (L : List Nat) (σ : Nat → va_E) (φ : Nat → Nat → Nat → Int32) (ρ : Nat → Nat → Int32) {a a0 a1 a2 a3 a4 a5 a6 a7 : Nat} (x y z : Int32) (ha : zT L σ a (.inr (0, [.int 0, .int 0, .ref a0, .ref a1, .ref a2, .ref a3, .ref a4, .ref a5, .ref a6, .ref a7]))) (ha0 : zT L σ a0 (zIA cy 6)) (ha1 : zT L σ a1 (zIA cy 6)) (ha2 : zT L σ a2 (zIA cy 6)) (h0 : φ 0 0 a = 0) : zMI l D cy yX0_addField cX0_addField 4 .int (zrm 0 0 0) [.ref a, .int x, .int y, .int z] L σ φ ρ (fun r _ => r = 0) := by
  refine zMI.mk (by decide) (Nat.le_of_ble_eq_true rfl) (fun E hE hret => ?_)
  show zW E 0 0 L σ φ ρ 0 [(0, .ref a), (1, .int x), (2, .int y), (3, .int z)] []
  refine x_aload_n hE dX0_addField_0 rfl 0 rfl ?_
  refine h_getr hE ha rfl inZX0 2 (by decide) q163 rfl dX0_addField_1 ?_
  refine x_aload_n hE dX0_addField_4 rfl 0 rfl ?_
  refine h_geti hE ha rfl inZX0 0 (by decide) q154 rfl dX0_addField_5 ?_
  refine x_norm (y := 0) (h0) ?_
  refine x_iload_n hE dX0_addField_8 rfl 1 rfl ?_
  refine h_iast hE ha0 (by unfold vp_in; decide) dX0_addField_9 ?_
  refine x_aload_n hE dX0_addField_10 rfl 0 rfl ?_
  refine h_getr hE ha rfl inZX0 3 (by decide) q166 rfl dX0_addField_11 ?_
  refine x_aload_n hE dX0_addField_14 rfl 0 rfl ?_
  refine h_geti hE ha rfl inZX0 0 (by decide) q154 rfl dX0_addField_15 ?_
  refine x_norm (y := 0) (h0) ?_
  refine x_iload_n hE dX0_addField_18 rfl 2 rfl ?_
  refine h_iast hE ha1 (by unfold vp_in; decide) dX0_addField_19 ?_
  refine x_aload_n hE dX0_addField_20 rfl 0 rfl ?_
  refine h_getr hE ha rfl inZX0 4 (by decide) q170 rfl dX0_addField_21 ?_
  refine x_aload_n hE dX0_addField_24 rfl 0 rfl ?_
  refine h_geti hE ha rfl inZX0 0 (by decide) q154 rfl dX0_addField_25 ?_
  refine x_norm (y := 0) (h0) ?_
  refine x_iload_n hE dX0_addField_28 rfl 3 rfl ?_
  refine h_iast hE ha2 (by unfold vp_in; decide) dX0_addField_29 ?_
  refine x_aload_n hE dX0_addField_30 rfl 0 rfl ?_
  refine x_dup hE dX0_addField_31 rfl ?_
  refine h_geti hE ha rfl inZX0 0 (by decide) q154 rfl dX0_addField_32 ?_
  refine x_norm (y := 0) (h0) ?_
  refine x_dup_x1 hE dX0_addField_35 rfl rfl ?_
  refine x_iconst (v := 1) hE dX0_addField_36 (by decide) ?_
  refine x_iadd hE dX0_addField_37 ?_
  refine h_puti (ty := .int) (ty0 := tyX0) hE ha rfl inZX0 tyX0_ok nmX0 0 (by decide) q154 rfl rfl (by decide +kernel) rfl rfl dX0_addField_38 ?_
  exact hret _ _ _ _ _ _ _ _ (0) (Nat.le_of_ble_eq_true rfl) (Nat.le_of_ble_eq_true rfl) dX0_addField_41 (rfl) (rfl)
set_option maxHeartbeats 4000000 in
set_option maxRecDepth 100000 in
theorem o_field (l : Launch) (D : va_G) (cy : Nat → ClassId) (L : List Nat) (σ : Nat → va_E) (φ : Nat → Nat → Nat → Int32) (ρ : Nat → Nat → Int32) {x : Nat} (h : Int32) (n : Int32) (d : Int32) (hx : zOR cy L σ φ x) : zMI l D cy yX11_field cX11_field 6 .int (zrm 3 0 0) [.ref x, .int h, .int n, .int d] L σ φ ρ (fun r _ => r = if (0 ≤ h ∧ h ≤ 9) ∧ (0 ≤ n ∧ n ≤ 999) ∧ (1 ≤ d ∧ d ≤ 999) ∧ n < d then 0 else -1) := by
  refine zMI.mk (by decide) (Nat.le_of_ble_eq_true rfl) (fun E hE hret => ?_)
  show zW E 0 0 L σ φ ρ 0 [(0, .ref x), (1, .int h), (2, .int n), (3, .int d)] []
  obtain ⟨now, kept, tape, reader, weather, planner, ways, la, wo, sp, li, te, g, la', wo', sp', li', te', g', hx, hs, hs0, hk, hk0, htp, htp0, hrd, hrd0, hrd1, hwe, hwe0, hpl, hwy⟩ := hx
  obtain ⟨hn, hla, hwo, hsp, hli, hte⟩ := id hs
  obtain ⟨p45, p46, p00, p01, p10, p50, p51, pl0, pl1, pl2, pg⟩ := id hs0
  obtain ⟨f0, f1, f2, f3, f4, f5, f6, f7, hL, hL0, hL1, hL2, hL3, hL4, hL5, hL6, hL7⟩ := id hla
  obtain ⟨w0, w1, w2, w3, w4, w5, w6, w7, hW, hW0, hW1, hW2, hW3, hW4, hW5, hW6, hW7⟩ := id hwo
  obtain ⟨s0, s1, hSp, hSp0, hSp1, hSpW⟩ := id hsp
  obtain ⟨i0, i1, i2, i3, i4, i5, i6, i7, hLi, hLi0, hLi1, hLi2, hLi3, hLi4, hLi5, hLi6, hLi7⟩ := id hli
  obtain ⟨t0, t1, t2, t3, hTp, hTp0, hTp1, hTp2, hTp3, hTn1, hTn2⟩ := id htp
  refine x_aload_n hE dX11_field_0 rfl 0 rfl ?_
  refine h_getr hE hx rfl inZX11 0 (by decide) q556 rfl dX11_field_1 ?_
  refine h_getr hE hn rfl inZX4 0 (by decide) q362 rfl dX11_field_4 ?_
  refine x_astore (lv' := [(4, .ref la), (0, .ref x), (1, .int h), (2, .int n), (3, .int d)]) hE dX11_field_7 (by decide) rfl ?_
  refine x_iload_n hE dX11_field_9 rfl 2 rfl ?_
  refine x_iconst (v := 0) hE dX11_field_10 (by decide) ?_
  refine x_bipush (v := 9) hE dX11_field_11 (by decide) ?_
  refine c_ip hE (r_S (st := []) hE (k_isWithin l D cy L σ φ ρ (h) (0) (9)) q582 q583 q113 q584 ⟨by decide, by decide, pn_X11_isWithin⟩ ⟨Nat.le_of_ble_eq_true rfl, Nat.le_of_ble_eq_true rfl⟩ ⟨Nat.le_of_ble_eq_true rfl, Nat.le_of_ble_eq_true rfl⟩ rfl (Nat.le_of_ble_eq_true rfl) dX11_field_13) (fun r13 h13 => ?_)
  refine x_widen (k' := 0) (n' := 0) (Nat.le_of_ble_eq_true rfl) (Nat.le_of_ble_eq_true rfl) ?_
  refine x_if_eq (tgt := 50) hE dX11_field_16 (by decide) (fun c_16 => ?_) (fun c_16 => ?_)
  · refine x_iconst (v := 0) hE dX11_field_50 (by decide) ?_
    refine x_istore (lv' := [(5, .int 0), (4, .ref la), (0, .ref x), (1, .int h), (2, .int n), (3, .int d)]) hE dX11_field_51 (by decide) rfl ?_
    refine x_iload hE dX11_field_53 0 rfl ?_
    refine x_if_eq (tgt := 68) hE dX11_field_55 (by decide) (fun c_55 => ?_) (fun c_55 => absurd (by decide) c_55)
    refine x_iconst (v := -1) hE dX11_field_68 (by decide) ?_
    exact hret _ _ _ _ _ _ _ _ (-1) (Nat.le_of_ble_eq_true rfl) (Nat.le_of_ble_eq_true rfl) dX11_field_69 (rfl) (by grind [zb])
  · refine x_iload_n hE dX11_field_19 rfl 3 rfl ?_
    refine x_iconst (v := 0) hE dX11_field_20 (by decide) ?_
    refine x_sipush (v := 999) hE dX11_field_21 (by decide) ?_
    refine c_ip hE (r_S (st := []) hE (k_isWithin l D cy L σ φ ρ (n) (0) (999)) q582 q583 q113 q584 ⟨by decide, by decide, pn_X11_isWithin⟩ ⟨Nat.le_of_ble_eq_true rfl, Nat.le_of_ble_eq_true rfl⟩ ⟨Nat.le_of_ble_eq_true rfl, Nat.le_of_ble_eq_true rfl⟩ rfl (Nat.le_of_ble_eq_true rfl) dX11_field_24) (fun r24 h24 => ?_)
    refine x_widen (k' := 0) (n' := 0) (Nat.le_of_ble_eq_true rfl) (Nat.le_of_ble_eq_true rfl) ?_
    refine x_if_eq (tgt := 50) hE dX11_field_27 (by decide) (fun c_27 => ?_) (fun c_27 => ?_)
    · refine x_iconst (v := 0) hE dX11_field_50 (by decide) ?_
      refine x_istore (lv' := [(5, .int 0), (4, .ref la), (0, .ref x), (1, .int h), (2, .int n), (3, .int d)]) hE dX11_field_51 (by decide) rfl ?_
      refine x_iload hE dX11_field_53 0 rfl ?_
      refine x_if_eq (tgt := 68) hE dX11_field_55 (by decide) (fun c_55 => ?_) (fun c_55 => absurd (by decide) c_55)
      refine x_iconst (v := -1) hE dX11_field_68 (by decide) ?_
      exact hret _ _ _ _ _ _ _ _ (-1) (Nat.le_of_ble_eq_true rfl) (Nat.le_of_ble_eq_true rfl) dX11_field_69 (rfl) (by grind [zb])
    · refine x_iload_n hE dX11_field_30 rfl 4 rfl ?_
      refine x_iconst (v := 1) hE dX11_field_31 (by decide) ?_
      refine x_sipush (v := 999) hE dX11_field_32 (by decide) ?_
      refine c_ip hE (r_S (st := []) hE (k_isWithin l D cy L σ φ ρ (d) (1) (999)) q582 q583 q113 q584 ⟨by decide, by decide, pn_X11_isWithin⟩ ⟨Nat.le_of_ble_eq_true rfl, Nat.le_of_ble_eq_true rfl⟩ ⟨Nat.le_of_ble_eq_true rfl, Nat.le_of_ble_eq_true rfl⟩ rfl (Nat.le_of_ble_eq_true rfl) dX11_field_35) (fun r35 h35 => ?_)
      refine x_widen (k' := 0) (n' := 0) (Nat.le_of_ble_eq_true rfl) (Nat.le_of_ble_eq_true rfl) ?_
      refine x_if_eq (tgt := 50) hE dX11_field_38 (by decide) (fun c_38 => ?_) (fun c_38 => ?_)
      · refine x_iconst (v := 0) hE dX11_field_50 (by decide) ?_
        refine x_istore (lv' := [(5, .int 0), (4, .ref la), (0, .ref x), (1, .int h), (2, .int n), (3, .int d)]) hE dX11_field_51 (by decide) rfl ?_
        refine x_iload hE dX11_field_53 0 rfl ?_
        refine x_if_eq (tgt := 68) hE dX11_field_55 (by decide) (fun c_55 => ?_) (fun c_55 => absurd (by decide) c_55)
        refine x_iconst (v := -1) hE dX11_field_68 (by decide) ?_
        exact hret _ _ _ _ _ _ _ _ (-1) (Nat.le_of_ble_eq_true rfl) (Nat.le_of_ble_eq_true rfl) dX11_field_69 (rfl) (by grind [zb])
      · refine x_iload_n hE dX11_field_41 rfl 4 rfl ?_
        refine x_iload_n hE dX11_field_42 rfl 3 rfl ?_
        refine x_icmp_le (tgt := 50) hE dX11_field_43 (by decide) (fun c_43 => ?_) (fun c_43 => ?_)
        · refine x_iconst (v := 0) hE dX11_field_50 (by decide) ?_
          refine x_istore (lv' := [(5, .int 0), (4, .ref la), (0, .ref x), (1, .int h), (2, .int n), (3, .int d)]) hE dX11_field_51 (by decide) rfl ?_
          refine x_iload hE dX11_field_53 0 rfl ?_
          refine x_if_eq (tgt := 68) hE dX11_field_55 (by decide) (fun c_55 => ?_) (fun c_55 => absurd (by decide) c_55)
          refine x_iconst (v := -1) hE dX11_field_68 (by decide) ?_
          exact hret _ _ _ _ _ _ _ _ (-1) (Nat.le_of_ble_eq_true rfl) (Nat.le_of_ble_eq_true rfl) dX11_field_69 (rfl) (by grind [zb])
        · refine x_iconst (v := 1) hE dX11_field_46 (by decide) ?_
          refine x_goto (tgt := 51) hE dX11_field_47 (by decide) ?_
          refine x_istore (lv' := [(5, .int 1), (4, .ref la), (0, .ref x), (1, .int h), (2, .int n), (3, .int d)]) hE dX11_field_51 (by decide) rfl ?_
          refine x_iload hE dX11_field_53 0 rfl ?_
          refine x_if_eq (tgt := 68) hE dX11_field_55 (by decide) (fun c_55 => absurd c_55 (by decide)) (fun c_55 => ?_)
          refine x_aload hE dX11_field_58 1 rfl ?_
          refine h_geti hE hL rfl inZX0 0 (by decide) q156 rfl dX11_field_60 ?_
          refine x_norm (y := 0) (p00) ?_
          refine x_bipush (v := 6) hE dX11_field_63 (by decide) ?_
          refine x_icmp_lt (tgt := 70) hE dX11_field_65 (by decide) (fun c_65 => ?_) (fun c_65 => absurd (by decide) c_65)
          refine x_aload hE dX11_field_70 1 rfl ?_
          refine x_iload_n hE dX11_field_72 rfl 3 rfl ?_
          refine x_iload_n hE dX11_field_73 rfl 4 rfl ?_
          refine x_iload_n hE dX11_field_74 rfl 5 rfl ?_
          refine c_i hE (r_V (st := []) hE (k_addField l D cy L σ φ ρ h n d hL hL0 hL1 hL2 p00) q585 q586 q587 q115 q588 hL rfl ⟨by decide, by decide, pn_X0_addField⟩ ⟨Nat.le_of_ble_eq_true rfl, Nat.le_of_ble_eq_true rfl⟩ ⟨Nat.le_of_ble_eq_true rfl, Nat.le_of_ble_eq_true rfl⟩ rfl (Nat.le_of_ble_eq_true rfl) dX11_field_75) (fun r75 L' σ' φ' ρ' h75 => ?_)
          refine x_widen (k' := 0) (n' := 0) (Nat.le_of_ble_eq_true rfl) (Nat.le_of_ble_eq_true rfl) ?_
          exact hret _ _ _ _ _ _ _ _ (r75) (Nat.le_of_ble_eq_true rfl) (Nat.le_of_ble_eq_true rfl) dX11_field_78 (rfl) (by grind [zb])
set_option maxHeartbeats 4000000 in
set_option maxRecDepth 100000 in
theorem o_end (l : Launch) (D : va_G) (cy : Nat → ClassId) (L : List Nat) (σ : Nat → va_E) (φ : Nat → Nat → Nat → Int32) (ρ : Nat → Nat → Int32) {x : Nat} (n : Int32) (hx : zOR cy L σ φ x) : zMI l D cy yX11_end cX11_end 2 .int (zrm 3 0 0) [.ref x, .int n] L σ φ ρ (fun r _ => r = if n = 0 then 0 else -1) := by
  refine zMI.mk (by decide) (Nat.le_of_ble_eq_true rfl) (fun E hE hret => ?_)
  show zW E 0 0 L σ φ ρ 0 [(0, .ref x), (1, .int n)] []
  obtain ⟨now, kept, tape, reader, weather, planner, ways, la, wo, sp, li, te, g, la', wo', sp', li', te', g', hx, hs, hs0, hk, hk0, htp, htp0, hrd, hrd0, hrd1, hwe, hwe0, hpl, hwy⟩ := hx
  obtain ⟨hn, hla, hwo, hsp, hli, hte⟩ := id hs
  obtain ⟨p45, p46, p00, p01, p10, p50, p51, pl0, pl1, pl2, pg⟩ := id hs0
  obtain ⟨f0, f1, f2, f3, f4, f5, f6, f7, hL, hL0, hL1, hL2, hL3, hL4, hL5, hL6, hL7⟩ := id hla
  obtain ⟨w0, w1, w2, w3, w4, w5, w6, w7, hW, hW0, hW1, hW2, hW3, hW4, hW5, hW6, hW7⟩ := id hwo
  obtain ⟨s0, s1, hSp, hSp0, hSp1, hSpW⟩ := id hsp
  obtain ⟨i0, i1, i2, i3, i4, i5, i6, i7, hLi, hLi0, hLi1, hLi2, hLi3, hLi4, hLi5, hLi6, hLi7⟩ := id hli
  obtain ⟨t0, t1, t2, t3, hTp, hTp0, hTp1, hTp2, hTp3, hTn1, hTn2⟩ := id htp
  refine x_iload_n hE dX11_end_0 rfl 1 rfl ?_
  refine x_if_lt (tgt := 15) hE dX11_end_1 (by decide) (fun c_1 => ?_) (fun c_1 => ?_)
  · refine x_iconst (v := -1) hE dX11_end_15 (by decide) ?_
    exact hret _ _ _ _ _ _ _ _ (-1) (Nat.le_of_ble_eq_true rfl) (Nat.le_of_ble_eq_true rfl) dX11_end_16 (rfl) (by grind [zb])
  · refine x_iload_n hE dX11_end_4 rfl 1 rfl ?_
    refine x_aload_n hE dX11_end_5 rfl 0 rfl ?_
    refine h_getr hE hx rfl inZX11 2 (by decide) q558 rfl dX11_end_6 ?_
    refine h_geti hE hTp rfl inZX6 0 (by decide) q403 rfl dX11_end_9 ?_
    refine x_norm (y := 0) (htp0) ?_
    refine x_icmp_le (tgt := 17) hE dX11_end_12 (by decide) (fun c_12 => ?_) (fun c_12 => ?_)
    · refine x_aload_n hE dX11_end_17 rfl 0 rfl ?_
      refine h_getr hE hx rfl inZX11 2 (by decide) q558 rfl dX11_end_18 ?_
      refine x_iload_n hE dX11_end_21 rfl 1 rfl ?_
      refine h_puti (ty := .int) (ty0 := tyX6) hE hTp rfl inZX6 tyX6_ok nmX6 0 (by decide) q403 rfl rfl (by decide +kernel) rfl rfl dX11_end_22 ?_
      refine x_iload_n hE dX11_end_25 rfl 1 rfl ?_
      exact hret _ _ _ _ _ _ _ _ (n) (Nat.le_of_ble_eq_true rfl) (Nat.le_of_ble_eq_true rfl) dX11_end_26 (rfl) (by grind [zb])
    · refine x_iconst (v := -1) hE dX11_end_15 (by decide) ?_
      exact hret _ _ _ _ _ _ _ _ (-1) (Nat.le_of_ble_eq_true rfl) (Nat.le_of_ble_eq_true rfl) dX11_end_16 (rfl) (by grind [zb])
end
section
theorem dJ6_bitCount_0f7a4_0 : decode cJ6_bitCount_0f7a4 0 = .ok (.iload_n 0, 1) := by decide +kernel
theorem dJ6_bitCount_0f7a4_1 : decode cJ6_bitCount_0f7a4 1 = .ok (.iload_n 0, 1) := by decide +kernel
theorem dJ6_bitCount_0f7a4_2 : decode cJ6_bitCount_0f7a4 2 = .ok (.iconst 1, 1) := by decide +kernel
theorem dJ6_bitCount_0f7a4_3 : decode cJ6_bitCount_0f7a4 3 = .ok (.iushr, 1) := by decide +kernel
theorem dJ6_bitCount_0f7a4_4 : decode cJ6_bitCount_0f7a4 4 = .ok (.ldc_w 265, 3) := by decide +kernel
theorem dJ6_bitCount_0f7a4_7 : decode cJ6_bitCount_0f7a4 7 = .ok (.iand, 1) := by decide +kernel
theorem dJ6_bitCount_0f7a4_8 : decode cJ6_bitCount_0f7a4 8 = .ok (.isub, 1) := by decide +kernel
theorem dJ6_bitCount_0f7a4_9 : decode cJ6_bitCount_0f7a4 9 = .ok (.istore_n 0, 1) := by decide +kernel
theorem dJ6_bitCount_0f7a4_10 : decode cJ6_bitCount_0f7a4 10 = .ok (.iload_n 0, 1) := by decide +kernel
theorem dJ6_bitCount_0f7a4_11 : decode cJ6_bitCount_0f7a4 11 = .ok (.ldc_w 266, 3) := by decide +kernel
theorem dJ6_bitCount_0f7a4_14 : decode cJ6_bitCount_0f7a4 14 = .ok (.iand, 1) := by decide +kernel
theorem dJ6_bitCount_0f7a4_15 : decode cJ6_bitCount_0f7a4 15 = .ok (.iload_n 0, 1) := by decide +kernel
theorem dJ6_bitCount_0f7a4_16 : decode cJ6_bitCount_0f7a4 16 = .ok (.iconst 2, 1) := by decide +kernel
theorem dJ6_bitCount_0f7a4_17 : decode cJ6_bitCount_0f7a4 17 = .ok (.iushr, 1) := by decide +kernel
theorem dJ6_bitCount_0f7a4_18 : decode cJ6_bitCount_0f7a4 18 = .ok (.ldc_w 266, 3) := by decide +kernel
theorem dJ6_bitCount_0f7a4_21 : decode cJ6_bitCount_0f7a4 21 = .ok (.iand, 1) := by decide +kernel
theorem dJ6_bitCount_0f7a4_22 : decode cJ6_bitCount_0f7a4 22 = .ok (.iadd, 1) := by decide +kernel
theorem dJ6_bitCount_0f7a4_23 : decode cJ6_bitCount_0f7a4 23 = .ok (.istore_n 0, 1) := by decide +kernel
theorem dJ6_bitCount_0f7a4_24 : decode cJ6_bitCount_0f7a4 24 = .ok (.iload_n 0, 1) := by decide +kernel
theorem dJ6_bitCount_0f7a4_25 : decode cJ6_bitCount_0f7a4 25 = .ok (.iload_n 0, 1) := by decide +kernel
theorem dJ6_bitCount_0f7a4_26 : decode cJ6_bitCount_0f7a4 26 = .ok (.iconst 4, 1) := by decide +kernel
theorem dJ6_bitCount_0f7a4_27 : decode cJ6_bitCount_0f7a4 27 = .ok (.iushr, 1) := by decide +kernel
theorem dJ6_bitCount_0f7a4_28 : decode cJ6_bitCount_0f7a4 28 = .ok (.iadd, 1) := by decide +kernel
theorem dJ6_bitCount_0f7a4_29 : decode cJ6_bitCount_0f7a4 29 = .ok (.ldc_w 267, 3) := by decide +kernel
theorem dJ6_bitCount_0f7a4_32 : decode cJ6_bitCount_0f7a4 32 = .ok (.iand, 1) := by decide +kernel
theorem dJ6_bitCount_0f7a4_33 : decode cJ6_bitCount_0f7a4 33 = .ok (.istore_n 0, 1) := by decide +kernel
theorem dJ6_bitCount_0f7a4_34 : decode cJ6_bitCount_0f7a4 34 = .ok (.iload_n 0, 1) := by decide +kernel
theorem dJ6_bitCount_0f7a4_35 : decode cJ6_bitCount_0f7a4 35 = .ok (.iload_n 0, 1) := by decide +kernel
theorem dJ6_bitCount_0f7a4_36 : decode cJ6_bitCount_0f7a4 36 = .ok (.bipush 8, 2) := by decide +kernel
theorem dJ6_bitCount_0f7a4_38 : decode cJ6_bitCount_0f7a4 38 = .ok (.iushr, 1) := by decide +kernel
theorem dJ6_bitCount_0f7a4_39 : decode cJ6_bitCount_0f7a4 39 = .ok (.iadd, 1) := by decide +kernel
theorem dJ6_bitCount_0f7a4_40 : decode cJ6_bitCount_0f7a4 40 = .ok (.istore_n 0, 1) := by decide +kernel
theorem dJ6_bitCount_0f7a4_41 : decode cJ6_bitCount_0f7a4 41 = .ok (.iload_n 0, 1) := by decide +kernel
theorem dJ6_bitCount_0f7a4_42 : decode cJ6_bitCount_0f7a4 42 = .ok (.iload_n 0, 1) := by decide +kernel
theorem dJ6_bitCount_0f7a4_43 : decode cJ6_bitCount_0f7a4 43 = .ok (.bipush 16, 2) := by decide +kernel
theorem dJ6_bitCount_0f7a4_45 : decode cJ6_bitCount_0f7a4 45 = .ok (.iushr, 1) := by decide +kernel
theorem dJ6_bitCount_0f7a4_46 : decode cJ6_bitCount_0f7a4 46 = .ok (.iadd, 1) := by decide +kernel
theorem dJ6_bitCount_0f7a4_47 : decode cJ6_bitCount_0f7a4 47 = .ok (.istore_n 0, 1) := by decide +kernel
theorem dJ6_bitCount_0f7a4_48 : decode cJ6_bitCount_0f7a4 48 = .ok (.iload_n 0, 1) := by decide +kernel
theorem dJ6_bitCount_0f7a4_49 : decode cJ6_bitCount_0f7a4 49 = .ok (.bipush 63, 2) := by decide +kernel
theorem dJ6_bitCount_0f7a4_51 : decode cJ6_bitCount_0f7a4 51 = .ok (.iand, 1) := by decide +kernel
theorem dJ6_bitCount_0f7a4_52 : decode cJ6_bitCount_0f7a4 52 = .ok (.ireturn, 1) := by decide +kernel
theorem dX11_isSet_0 : decode cX11_isSet 0 = .ok (.iload_n 0, 1) := by decide +kernel
theorem dX11_isSet_1 : decode cX11_isSet 1 = .ok (.iconst 1, 1) := by decide +kernel
theorem dX11_isSet_2 : decode cX11_isSet 2 = .ok (.iload_n 1, 1) := by decide +kernel
theorem dX11_isSet_3 : decode cX11_isSet 3 = .ok (.ishl, 1) := by decide +kernel
theorem dX11_isSet_4 : decode cX11_isSet 4 = .ok (.ineg, 1) := by decide +kernel
theorem dX11_isSet_5 : decode cX11_isSet 5 = .ok (.iand, 1) := by decide +kernel
theorem dX11_isSet_6 : decode cX11_isSet 6 = .ok (.ifCond .ne 7, 3) := by decide +kernel
theorem dX11_isSet_9 : decode cX11_isSet 9 = .ok (.iconst 1, 1) := by decide +kernel
theorem dX11_isSet_10 : decode cX11_isSet 10 = .ok (.goto 4, 3) := by decide +kernel
theorem dX11_isSet_13 : decode cX11_isSet 13 = .ok (.iconst 0, 1) := by decide +kernel
theorem dX11_isSet_14 : decode cX11_isSet 14 = .ok (.ireturn, 1) := by decide +kernel
theorem dX4_canGo_0 : decode cX4_canGo 0 = .ok (.aload_n 0, 1) := by decide +kernel
theorem dX4_canGo_1 : decode cX4_canGo 1 = .ok (.getfield 12, 3) := by decide +kernel
theorem dX4_canGo_4 : decode cX4_canGo 4 = .ok (.iload_n 1, 1) := by decide +kernel
theorem dX4_canGo_5 : decode cX4_canGo 5 = .ok (.invokevirtual 56, 3) := by decide +kernel
theorem dX4_canGo_8 : decode cX4_canGo 8 = .ok (.ifCond .eq 38, 3) := by decide +kernel
theorem dX4_canGo_46 : decode cX4_canGo 46 = .ok (.iconst 0, 1) := by decide +kernel
theorem dX4_canGo_47 : decode cX4_canGo 47 = .ok (.ireturn, 1) := by decide +kernel
theorem dX4_canMeet_0 : decode cX4_canMeet 0 = .ok (.aload_n 0, 1) := by decide +kernel
theorem dX4_canMeet_1 : decode cX4_canMeet 1 = .ok (.getfield 12, 3) := by decide +kernel
theorem dX4_canMeet_4 : decode cX4_canMeet 4 = .ok (.iload_n 1, 1) := by decide +kernel
theorem dX4_canMeet_5 : decode cX4_canMeet 5 = .ok (.invokevirtual 56, 3) := by decide +kernel
theorem dX4_canMeet_8 : decode cX4_canMeet 8 = .ok (.ifCond .eq 44, 3) := by decide +kernel
theorem dX4_canMeet_52 : decode cX4_canMeet 52 = .ok (.iconst 0, 1) := by decide +kernel
theorem dX4_canMeet_53 : decode cX4_canMeet 53 = .ok (.ireturn, 1) := by decide +kernel
theorem dX4_canTake_0 : decode cX4_canTake 0 = .ok (.aload_n 0, 1) := by decide +kernel
theorem dX4_canTake_1 : decode cX4_canTake 1 = .ok (.iload_n 1, 1) := by decide +kernel
theorem dX4_canTake_2 : decode cX4_canTake 2 = .ok (.iload_n 2, 1) := by decide +kernel
theorem dX4_canTake_3 : decode cX4_canTake 3 = .ok (.invokevirtual 70, 3) := by decide +kernel
theorem dX4_canTake_6 : decode cX4_canTake 6 = .ok (.ifCond .eq 47, 3) := by decide +kernel
theorem dX4_canTake_53 : decode cX4_canTake 53 = .ok (.iconst 0, 1) := by decide +kernel
theorem dX4_canTake_54 : decode cX4_canTake 54 = .ok (.ireturn, 1) := by decide +kernel
theorem dX4_hasText_0 : decode cX4_hasText 0 = .ok (.iload_n 1, 1) := by decide +kernel
theorem dX4_hasText_1 : decode cX4_hasText 1 = .ok (.ifCond .lt 24, 3) := by decide +kernel
theorem dX4_hasText_4 : decode cX4_hasText 4 = .ok (.iload_n 1, 1) := by decide +kernel
theorem dX4_hasText_5 : decode cX4_hasText 5 = .ok (.aload_n 0, 1) := by decide +kernel
theorem dX4_hasText_6 : decode cX4_hasText 6 = .ok (.getfield 49, 3) := by decide +kernel
theorem dX4_hasText_9 : decode cX4_hasText 9 = .ok (.if_icmp .ge 16, 3) := by decide +kernel
theorem dX4_hasText_25 : decode cX4_hasText 25 = .ok (.iconst 0, 1) := by decide +kernel
theorem dX4_hasText_26 : decode cX4_hasText 26 = .ok (.ireturn, 1) := by decide +kernel
theorem dX4_takeBack_0 : decode cX4_takeBack 0 = .ok (.aload_n 0, 1) := by decide +kernel
theorem dX4_takeBack_1 : decode cX4_takeBack 1 = .ok (.getfield 28, 3) := by decide +kernel
theorem dX4_takeBack_4 : decode cX4_takeBack 4 = .ok (.getfield 87, 3) := by decide +kernel
theorem dX4_takeBack_7 : decode cX4_takeBack 7 = .ok (.iconst 1, 1) := by decide +kernel
theorem dX4_takeBack_8 : decode cX4_takeBack 8 = .ok (.if_icmp .ge 5, 3) := by decide +kernel
theorem dX4_takeBack_11 : decode cX4_takeBack 11 = .ok (.iconst (-1), 1) := by decide +kernel
theorem dX4_takeBack_12 : decode cX4_takeBack 12 = .ok (.ireturn, 1) := by decide +kernel
theorem z_and1 (b : Int32) : b &&& (-1) = b := by
  apply Int32.toBitVec_inj.mp
  simp
set_option maxHeartbeats 4000000 in
set_option maxRecDepth 100000 in
theorem k_isSet0 (l : Launch) (D : va_G) (cy : Nat → ClassId) (L : List Nat) (σ : Nat → va_E) (φ : Nat → Nat → Nat → Int32) (ρ : Nat → Nat → Int32) (b : Int32) : zMI l D cy yX11_isSet cX11_isSet 2 .boolean (zrm 0 0 0) [.int b, .int 0] L σ φ ρ (zpu L σ φ ρ (fun r => r = zb (b = 0))) := by
  refine zMI.mk (by decide) (Nat.le_of_ble_eq_true rfl) (fun E hE hret => ?_)
  show zW E 0 0 L σ φ ρ 0 [(0, .int b), (1, .int 0)] []
  refine x_iload_n hE dX11_isSet_0 rfl 0 rfl ?_
  refine x_iconst (v := 1) hE dX11_isSet_1 (by decide) ?_
  refine x_iload_n hE dX11_isSet_2 rfl 1 rfl ?_
  refine x_ishl hE dX11_isSet_3 ?_
  refine x_norm (y := 1) (by decide) ?_
  refine x_ineg hE dX11_isSet_4 ?_
  refine x_norm (y := -1) (by decide) ?_
  refine x_iand hE dX11_isSet_5 ?_
  refine x_norm (y := b) (z_and1 b) ?_
  refine x_if_ne (tgt := 13) hE dX11_isSet_6 (by decide) (fun c_6 => ?_) (fun c_6 => ?_)
  · refine x_iconst (v := 0) hE dX11_isSet_13 (by decide) ?_
    exact hret _ _ _ _ _ _ _ _ (0) (Nat.le_of_ble_eq_true rfl) (Nat.le_of_ble_eq_true rfl) dX11_isSet_14 (rfl) (⟨rfl, by grind [zb]⟩)
  · refine x_iconst (v := 1) hE dX11_isSet_9 (by decide) ?_
    refine x_goto (tgt := 14) hE dX11_isSet_10 (by decide) ?_
    exact hret _ _ _ _ _ _ _ _ (1) (Nat.le_of_ble_eq_true rfl) (Nat.le_of_ble_eq_true rfl) dX11_isSet_14 (rfl) (⟨rfl, by grind [zb]⟩)
set_option maxHeartbeats 4000000 in
set_option maxRecDepth 100000 in
theorem k_bitCount (l : Launch) (D : va_G) (cy : Nat → ClassId) (L : List Nat) (σ : Nat → va_E) (φ : Nat → Nat → Nat → Int32) (ρ : Nat → Nat → Int32) (x : Int32) : zMI l D cy yJ6_bitCount_0f7a4 cJ6_bitCount_0f7a4 1 .int (zrm 0 0 0) [.int x] L σ φ ρ (zpu L σ φ ρ (fun r => x = 0 → r = 0)) := by
  refine zMI.mk (by decide) (Nat.le_of_ble_eq_true rfl) (fun E hE hret => ?_)
  show zW E 0 0 L σ φ ρ 0 [(0, .int x)] []
  refine x_iload_n hE dJ6_bitCount_0f7a4_0 rfl 0 rfl ?_
  refine x_iload_n hE dJ6_bitCount_0f7a4_1 rfl 0 rfl ?_
  refine x_iconst (v := 1) hE dJ6_bitCount_0f7a4_2 (by decide) ?_
  refine x_iushr hE dJ6_bitCount_0f7a4_3 ?_
  refine x_ldcw (v := 1431655765) hE q1025 dJ6_bitCount_0f7a4_4 ?_
  refine x_iand hE dJ6_bitCount_0f7a4_7 ?_
  refine x_isub hE dJ6_bitCount_0f7a4_8 ?_
  refine x_istore_n (lv' := [(0, .int ((x) - (((Int32.toUInt32 (x) >>> (Int32.toUInt32 (1) &&& Int32.toUInt32 31)).toInt32) &&& (1431655765))))]) hE dJ6_bitCount_0f7a4_9 rfl (by decide) rfl ?_
  refine x_iload_n hE dJ6_bitCount_0f7a4_10 rfl 0 rfl ?_
  refine x_ldcw (v := 858993459) hE q1026 dJ6_bitCount_0f7a4_11 ?_
  refine x_iand hE dJ6_bitCount_0f7a4_14 ?_
  refine x_iload_n hE dJ6_bitCount_0f7a4_15 rfl 0 rfl ?_
  refine x_iconst (v := 2) hE dJ6_bitCount_0f7a4_16 (by decide) ?_
  refine x_iushr hE dJ6_bitCount_0f7a4_17 ?_
  refine x_ldcw (v := 858993459) hE q1026 dJ6_bitCount_0f7a4_18 ?_
  refine x_iand hE dJ6_bitCount_0f7a4_21 ?_
  refine x_iadd hE dJ6_bitCount_0f7a4_22 ?_
  refine x_istore_n (lv' := [(0, .int ((((x) - (((Int32.toUInt32 (x) >>> (Int32.toUInt32 (1) &&& Int32.toUInt32 31)).toInt32) &&& (1431655765))) &&& (858993459)) + (((Int32.toUInt32 ((x) - (((Int32.toUInt32 (x) >>> (Int32.toUInt32 (1) &&& Int32.toUInt32 31)).toInt32) &&& (1431655765))) >>> (Int32.toUInt32 (2) &&& Int32.toUInt32 31)).toInt32) &&& (858993459))))]) hE dJ6_bitCount_0f7a4_23 rfl (by decide) rfl ?_
  refine x_iload_n hE dJ6_bitCount_0f7a4_24 rfl 0 rfl ?_
  refine x_iload_n hE dJ6_bitCount_0f7a4_25 rfl 0 rfl ?_
  refine x_iconst (v := 4) hE dJ6_bitCount_0f7a4_26 (by decide) ?_
  refine x_iushr hE dJ6_bitCount_0f7a4_27 ?_
  refine x_iadd hE dJ6_bitCount_0f7a4_28 ?_
  refine x_ldcw (v := 252645135) hE q1027 dJ6_bitCount_0f7a4_29 ?_
  refine x_iand hE dJ6_bitCount_0f7a4_32 ?_
  refine x_istore_n (lv' := [(0, .int ((((((x) - (((Int32.toUInt32 (x) >>> (Int32.toUInt32 (1) &&& Int32.toUInt32 31)).toInt32) &&& (1431655765))) &&& (858993459)) + (((Int32.toUInt32 ((x) - (((Int32.toUInt32 (x) >>> (Int32.toUInt32 (1) &&& Int32.toUInt32 31)).toInt32) &&& (1431655765))) >>> (Int32.toUInt32 (2) &&& Int32.toUInt32 31)).toInt32) &&& (858993459))) + ((Int32.toUInt32 ((((x) - (((Int32.toUInt32 (x) >>> (Int32.toUInt32 (1) &&& Int32.toUInt32 31)).toInt32) &&& (1431655765))) &&& (858993459)) + (((Int32.toUInt32 ((x) - (((Int32.toUInt32 (x) >>> (Int32.toUInt32 (1) &&& Int32.toUInt32 31)).toInt32) &&& (1431655765))) >>> (Int32.toUInt32 (2) &&& Int32.toUInt32 31)).toInt32) &&& (858993459))) >>> (Int32.toUInt32 (4) &&& Int32.toUInt32 31)).toInt32)) &&& (252645135)))]) hE dJ6_bitCount_0f7a4_33 rfl (by decide) rfl ?_
  refine x_iload_n hE dJ6_bitCount_0f7a4_34 rfl 0 rfl ?_
  refine x_iload_n hE dJ6_bitCount_0f7a4_35 rfl 0 rfl ?_
  refine x_bipush (v := 8) hE dJ6_bitCount_0f7a4_36 (by decide) ?_
  refine x_iushr hE dJ6_bitCount_0f7a4_38 ?_
  refine x_iadd hE dJ6_bitCount_0f7a4_39 ?_
  refine x_istore_n (lv' := [(0, .int (((((((x) - (((Int32.toUInt32 (x) >>> (Int32.toUInt32 (1) &&& Int32.toUInt32 31)).toInt32) &&& (1431655765))) &&& (858993459)) + (((Int32.toUInt32 ((x) - (((Int32.toUInt32 (x) >>> (Int32.toUInt32 (1) &&& Int32.toUInt32 31)).toInt32) &&& (1431655765))) >>> (Int32.toUInt32 (2) &&& Int32.toUInt32 31)).toInt32) &&& (858993459))) + ((Int32.toUInt32 ((((x) - (((Int32.toUInt32 (x) >>> (Int32.toUInt32 (1) &&& Int32.toUInt32 31)).toInt32) &&& (1431655765))) &&& (858993459)) + (((Int32.toUInt32 ((x) - (((Int32.toUInt32 (x) >>> (Int32.toUInt32 (1) &&& Int32.toUInt32 31)).toInt32) &&& (1431655765))) >>> (Int32.toUInt32 (2) &&& Int32.toUInt32 31)).toInt32) &&& (858993459))) >>> (Int32.toUInt32 (4) &&& Int32.toUInt32 31)).toInt32)) &&& (252645135)) + ((Int32.toUInt32 ((((((x) - (((Int32.toUInt32 (x) >>> (Int32.toUInt32 (1) &&& Int32.toUInt32 31)).toInt32) &&& (1431655765))) &&& (858993459)) + (((Int32.toUInt32 ((x) - (((Int32.toUInt32 (x) >>> (Int32.toUInt32 (1) &&& Int32.toUInt32 31)).toInt32) &&& (1431655765))) >>> (Int32.toUInt32 (2) &&& Int32.toUInt32 31)).toInt32) &&& (858993459))) + ((Int32.toUInt32 ((((x) - (((Int32.toUInt32 (x) >>> (Int32.toUInt32 (1) &&& Int32.toUInt32 31)).toInt32) &&& (1431655765))) &&& (858993459)) + (((Int32.toUInt32 ((x) - (((Int32.toUInt32 (x) >>> (Int32.toUInt32 (1) &&& Int32.toUInt32 31)).toInt32) &&& (1431655765))) >>> (Int32.toUInt32 (2) &&& Int32.toUInt32 31)).toInt32) &&& (858993459))) >>> (Int32.toUInt32 (4) &&& Int32.toUInt32 31)).toInt32)) &&& (252645135)) >>> (Int32.toUInt32 (8) &&& Int32.toUInt32 31)).toInt32)))]) hE dJ6_bitCount_0f7a4_40 rfl (by decide) rfl ?_
  refine x_iload_n hE dJ6_bitCount_0f7a4_41 rfl 0 rfl ?_
  refine x_iload_n hE dJ6_bitCount_0f7a4_42 rfl 0 rfl ?_
  refine x_bipush (v := 16) hE dJ6_bitCount_0f7a4_43 (by decide) ?_
  refine x_iushr hE dJ6_bitCount_0f7a4_45 ?_
  refine x_iadd hE dJ6_bitCount_0f7a4_46 ?_
  refine x_istore_n (lv' := [(0, .int ((((((((x) - (((Int32.toUInt32 (x) >>> (Int32.toUInt32 (1) &&& Int32.toUInt32 31)).toInt32) &&& (1431655765))) &&& (858993459)) + (((Int32.toUInt32 ((x) - (((Int32.toUInt32 (x) >>> (Int32.toUInt32 (1) &&& Int32.toUInt32 31)).toInt32) &&& (1431655765))) >>> (Int32.toUInt32 (2) &&& Int32.toUInt32 31)).toInt32) &&& (858993459))) + ((Int32.toUInt32 ((((x) - (((Int32.toUInt32 (x) >>> (Int32.toUInt32 (1) &&& Int32.toUInt32 31)).toInt32) &&& (1431655765))) &&& (858993459)) + (((Int32.toUInt32 ((x) - (((Int32.toUInt32 (x) >>> (Int32.toUInt32 (1) &&& Int32.toUInt32 31)).toInt32) &&& (1431655765))) >>> (Int32.toUInt32 (2) &&& Int32.toUInt32 31)).toInt32) &&& (858993459))) >>> (Int32.toUInt32 (4) &&& Int32.toUInt32 31)).toInt32)) &&& (252645135)) + ((Int32.toUInt32 ((((((x) - (((Int32.toUInt32 (x) >>> (Int32.toUInt32 (1) &&& Int32.toUInt32 31)).toInt32) &&& (1431655765))) &&& (858993459)) + (((Int32.toUInt32 ((x) - (((Int32.toUInt32 (x) >>> (Int32.toUInt32 (1) &&& Int32.toUInt32 31)).toInt32) &&& (1431655765))) >>> (Int32.toUInt32 (2) &&& Int32.toUInt32 31)).toInt32) &&& (858993459))) + ((Int32.toUInt32 ((((x) - (((Int32.toUInt32 (x) >>> (Int32.toUInt32 (1) &&& Int32.toUInt32 31)).toInt32) &&& (1431655765))) &&& (858993459)) + (((Int32.toUInt32 ((x) - (((Int32.toUInt32 (x) >>> (Int32.toUInt32 (1) &&& Int32.toUInt32 31)).toInt32) &&& (1431655765))) >>> (Int32.toUInt32 (2) &&& Int32.toUInt32 31)).toInt32) &&& (858993459))) >>> (Int32.toUInt32 (4) &&& Int32.toUInt32 31)).toInt32)) &&& (252645135)) >>> (Int32.toUInt32 (8) &&& Int32.toUInt32 31)).toInt32)) + ((Int32.toUInt32 (((((((x) - (((Int32.toUInt32 (x) >>> (Int32.toUInt32 (1) &&& Int32.toUInt32 31)).toInt32) &&& (1431655765))) &&& (858993459)) + (((Int32.toUInt32 ((x) - (((Int32.toUInt32 (x) >>> (Int32.toUInt32 (1) &&& Int32.toUInt32 31)).toInt32) &&& (1431655765))) >>> (Int32.toUInt32 (2) &&& Int32.toUInt32 31)).toInt32) &&& (858993459))) + ((Int32.toUInt32 ((((x) - (((Int32.toUInt32 (x) >>> (Int32.toUInt32 (1) &&& Int32.toUInt32 31)).toInt32) &&& (1431655765))) &&& (858993459)) + (((Int32.toUInt32 ((x) - (((Int32.toUInt32 (x) >>> (Int32.toUInt32 (1) &&& Int32.toUInt32 31)).toInt32) &&& (1431655765))) >>> (Int32.toUInt32 (2) &&& Int32.toUInt32 31)).toInt32) &&& (858993459))) >>> (Int32.toUInt32 (4) &&& Int32.toUInt32 31)).toInt32)) &&& (252645135)) + ((Int32.toUInt32 ((((((x) - (((Int32.toUInt32 (x) >>> (Int32.toUInt32 (1) &&& Int32.toUInt32 31)).toInt32) &&& (1431655765))) &&& (858993459)) + (((Int32.toUInt32 ((x) - (((Int32.toUInt32 (x) >>> (Int32.toUInt32 (1) &&& Int32.toUInt32 31)).toInt32) &&& (1431655765))) >>> (Int32.toUInt32 (2) &&& Int32.toUInt32 31)).toInt32) &&& (858993459))) + ((Int32.toUInt32 ((((x) - (((Int32.toUInt32 (x) >>> (Int32.toUInt32 (1) &&& Int32.toUInt32 31)).toInt32) &&& (1431655765))) &&& (858993459)) + (((Int32.toUInt32 ((x) - (((Int32.toUInt32 (x) >>> (Int32.toUInt32 (1) &&& Int32.toUInt32 31)).toInt32) &&& (1431655765))) >>> (Int32.toUInt32 (2) &&& Int32.toUInt32 31)).toInt32) &&& (858993459))) >>> (Int32.toUInt32 (4) &&& Int32.toUInt32 31)).toInt32)) &&& (252645135)) >>> (Int32.toUInt32 (8) &&& Int32.toUInt32 31)).toInt32)) >>> (Int32.toUInt32 (16) &&& Int32.toUInt32 31)).toInt32)))]) hE dJ6_bitCount_0f7a4_47 rfl (by decide) rfl ?_
  refine x_iload_n hE dJ6_bitCount_0f7a4_48 rfl 0 rfl ?_
  refine x_bipush (v := 63) hE dJ6_bitCount_0f7a4_49 (by decide) ?_
  refine x_iand hE dJ6_bitCount_0f7a4_51 ?_
  exact hret _ _ _ _ _ _ _ _ (((((((((x) - (((Int32.toUInt32 (x) >>> (Int32.toUInt32 (1) &&& Int32.toUInt32 31)).toInt32) &&& (1431655765))) &&& (858993459)) + (((Int32.toUInt32 ((x) - (((Int32.toUInt32 (x) >>> (Int32.toUInt32 (1) &&& Int32.toUInt32 31)).toInt32) &&& (1431655765))) >>> (Int32.toUInt32 (2) &&& Int32.toUInt32 31)).toInt32) &&& (858993459))) + ((Int32.toUInt32 ((((x) - (((Int32.toUInt32 (x) >>> (Int32.toUInt32 (1) &&& Int32.toUInt32 31)).toInt32) &&& (1431655765))) &&& (858993459)) + (((Int32.toUInt32 ((x) - (((Int32.toUInt32 (x) >>> (Int32.toUInt32 (1) &&& Int32.toUInt32 31)).toInt32) &&& (1431655765))) >>> (Int32.toUInt32 (2) &&& Int32.toUInt32 31)).toInt32) &&& (858993459))) >>> (Int32.toUInt32 (4) &&& Int32.toUInt32 31)).toInt32)) &&& (252645135)) + ((Int32.toUInt32 ((((((x) - (((Int32.toUInt32 (x) >>> (Int32.toUInt32 (1) &&& Int32.toUInt32 31)).toInt32) &&& (1431655765))) &&& (858993459)) + (((Int32.toUInt32 ((x) - (((Int32.toUInt32 (x) >>> (Int32.toUInt32 (1) &&& Int32.toUInt32 31)).toInt32) &&& (1431655765))) >>> (Int32.toUInt32 (2) &&& Int32.toUInt32 31)).toInt32) &&& (858993459))) + ((Int32.toUInt32 ((((x) - (((Int32.toUInt32 (x) >>> (Int32.toUInt32 (1) &&& Int32.toUInt32 31)).toInt32) &&& (1431655765))) &&& (858993459)) + (((Int32.toUInt32 ((x) - (((Int32.toUInt32 (x) >>> (Int32.toUInt32 (1) &&& Int32.toUInt32 31)).toInt32) &&& (1431655765))) >>> (Int32.toUInt32 (2) &&& Int32.toUInt32 31)).toInt32) &&& (858993459))) >>> (Int32.toUInt32 (4) &&& Int32.toUInt32 31)).toInt32)) &&& (252645135)) >>> (Int32.toUInt32 (8) &&& Int32.toUInt32 31)).toInt32)) + ((Int32.toUInt32 (((((((x) - (((Int32.toUInt32 (x) >>> (Int32.toUInt32 (1) &&& Int32.toUInt32 31)).toInt32) &&& (1431655765))) &&& (858993459)) + (((Int32.toUInt32 ((x) - (((Int32.toUInt32 (x) >>> (Int32.toUInt32 (1) &&& Int32.toUInt32 31)).toInt32) &&& (1431655765))) >>> (Int32.toUInt32 (2) &&& Int32.toUInt32 31)).toInt32) &&& (858993459))) + ((Int32.toUInt32 ((((x) - (((Int32.toUInt32 (x) >>> (Int32.toUInt32 (1) &&& Int32.toUInt32 31)).toInt32) &&& (1431655765))) &&& (858993459)) + (((Int32.toUInt32 ((x) - (((Int32.toUInt32 (x) >>> (Int32.toUInt32 (1) &&& Int32.toUInt32 31)).toInt32) &&& (1431655765))) >>> (Int32.toUInt32 (2) &&& Int32.toUInt32 31)).toInt32) &&& (858993459))) >>> (Int32.toUInt32 (4) &&& Int32.toUInt32 31)).toInt32)) &&& (252645135)) + ((Int32.toUInt32 ((((((x) - (((Int32.toUInt32 (x) >>> (Int32.toUInt32 (1) &&& Int32.toUInt32 31)).toInt32) &&& (1431655765))) &&& (858993459)) + (((Int32.toUInt32 ((x) - (((Int32.toUInt32 (x) >>> (Int32.toUInt32 (1) &&& Int32.toUInt32 31)).toInt32) &&& (1431655765))) >>> (Int32.toUInt32 (2) &&& Int32.toUInt32 31)).toInt32) &&& (858993459))) + ((Int32.toUInt32 ((((x) - (((Int32.toUInt32 (x) >>> (Int32.toUInt32 (1) &&& Int32.toUInt32 31)).toInt32) &&& (1431655765))) &&& (858993459)) + (((Int32.toUInt32 ((x) - (((Int32.toUInt32 (x) >>> (Int32.toUInt32 (1) &&& Int32.toUInt32 31)).toInt32) &&& (1431655765))) >>> (Int32.toUInt32 (2) &&& Int32.toUInt32 31)).toInt32) &&& (858993459))) >>> (Int32.toUInt32 (4) &&& Int32.toUInt32 31)).toInt32)) &&& (252645135)) >>> (Int32.toUInt32 (8) &&& Int32.toUInt32 31)).toInt32)) >>> (Int32.toUInt32 (16) &&& Int32.toUInt32 31)).toInt32)) &&& (63)) (Nat.le_of_ble_eq_true rfl) (Nat.le_of_ble_eq_true rfl) dJ6_bitCount_0f7a4_52 (rfl) (⟨rfl, fun h => by subst h; decide⟩)
set_option maxHeartbeats 4000000 in
set_option maxRecDepth 100000 in
theorem k_hasText (l : Launch) (D : va_G) (cy : Nat → ClassId) (L : List Nat) (σ : Nat → va_E) (φ : Nat → Nat → Nat → Int32) (ρ : Nat → Nat → Int32) {a la wo sp li te : Nat} (t : Int32) (ha : zT L σ a (.inr (4, [.ref la, .ref wo, .ref sp, .ref li, .ref te, .int 0, .int 0]))) (h5 : φ 4 5 a = 0) : zMI l D cy yX4_hasText cX4_hasText 2 .boolean (zrm 0 0 0) [.ref a, .int t] L σ φ ρ (zpu L σ φ ρ (fun r => r = 0)) := by
  refine zMI.mk (by decide) (Nat.le_of_ble_eq_true rfl) (fun E hE hret => ?_)
  show zW E 0 0 L σ φ ρ 0 [(0, .ref a), (1, .int t)] []
  refine x_iload_n hE dX4_hasText_0 rfl 1 rfl ?_
  refine x_if_lt (tgt := 25) hE dX4_hasText_1 (by decide) (fun c_1 => ?_) (fun c_1 => ?_)
  · refine x_iconst (v := 0) hE dX4_hasText_25 (by decide) ?_
    exact hret _ _ _ _ _ _ _ _ (0) (Nat.le_of_ble_eq_true rfl) (Nat.le_of_ble_eq_true rfl) dX4_hasText_26 (rfl) (⟨rfl, rfl⟩)
  · refine x_iload_n hE dX4_hasText_4 rfl 1 rfl ?_
    refine x_aload_n hE dX4_hasText_5 rfl 0 rfl ?_
    refine h_geti hE ha rfl inZX4 5 (by decide) q376 rfl dX4_hasText_6 ?_
    refine x_norm (y := 0) (h5) ?_
    refine x_icmp_ge (tgt := 25) hE dX4_hasText_9 (by decide) (fun c_9 => ?_) (fun c_9 => absurd (z_nlt c_1) c_9)
    refine x_iconst (v := 0) hE dX4_hasText_25 (by decide) ?_
    exact hret _ _ _ _ _ _ _ _ (0) (Nat.le_of_ble_eq_true rfl) (Nat.le_of_ble_eq_true rfl) dX4_hasText_26 (rfl) (⟨rfl, rfl⟩)
set_option maxHeartbeats 4000000 in
set_option maxRecDepth 100000 in
theorem k_canGo (l : Launch) (D : va_G) (cy : Nat → ClassId) (L : List Nat) (σ : Nat → va_E) (φ : Nat → Nat → Nat → Int32) (ρ : Nat → Nat → Int32) {a la wo sp li te f0 f1 f2 f3 f4 f5 f6 f7 : Nat} (p : Int32) (f : Int32) (ha : zT L σ a (.inr (4, [.ref la, .ref wo, .ref sp, .ref li, .ref te, .int 0, .int 0]))) (hL : zT L σ la (.inr (0, [.int 0, .int 0, .ref f0, .ref f1, .ref f2, .ref f3, .ref f4, .ref f5, .ref f6, .ref f7]))) (h1 : φ 0 1 la = 0) : zMI l D cy yX4_canGo cX4_canGo 3 .boolean (zrm 1 0 0) [.ref a, .int p, .int f] L σ φ ρ (zpu L σ φ ρ (fun r => r = 0)) := by
  refine zMI.mk (by decide) (Nat.le_of_ble_eq_true rfl) (fun E hE hret => ?_)
  show zW E 0 0 L σ φ ρ 0 [(0, .ref a), (1, .int p), (2, .int f)] []
  refine x_aload_n hE dX4_canGo_0 rfl 0 rfl ?_
  refine h_getr hE ha rfl inZX4 0 (by decide) q361 rfl dX4_canGo_1 ?_
  refine x_iload_n hE dX4_canGo_4 rfl 1 rfl ?_
  refine c_ip hE (r_V (st := []) hE (k_hasPerson l D cy L σ φ ρ (p) hL) q1044 q1033 q1034 q115 q1035 hL rfl ⟨by decide, by decide, pn_X0_hasPerson⟩ ⟨Nat.le_of_ble_eq_true rfl, Nat.le_of_ble_eq_true rfl⟩ ⟨Nat.le_of_ble_eq_true rfl, Nat.le_of_ble_eq_true rfl⟩ rfl (Nat.le_of_ble_eq_true rfl) dX4_canGo_5) (fun r5 h_5 => ?_)
  refine x_widen (k' := 0) (n' := 0) (Nat.le_of_ble_eq_true rfl) (Nat.le_of_ble_eq_true rfl) ?_
  refine x_norm (y := 0) (h_5.trans (zb_f (fun e => z_le_nlt e.1 (h1 ▸ e.2)))) ?_
  refine x_if_eq (tgt := 46) hE dX4_canGo_8 (by decide) (fun c_8 => ?_) (fun c_8 => absurd (by decide) c_8)
  refine x_iconst (v := 0) hE dX4_canGo_46 (by decide) ?_
  exact hret _ _ _ _ _ _ _ _ (0) (Nat.le_of_ble_eq_true rfl) (Nat.le_of_ble_eq_true rfl) dX4_canGo_47 (rfl) (⟨rfl, rfl⟩)
set_option maxHeartbeats 4000000 in
set_option maxRecDepth 100000 in
theorem k_canMeet (l : Launch) (D : va_G) (cy : Nat → ClassId) (L : List Nat) (σ : Nat → va_E) (φ : Nat → Nat → Nat → Int32) (ρ : Nat → Nat → Int32) {a la wo sp li te f0 f1 f2 f3 f4 f5 f6 f7 : Nat} (p : Int32) (q : Int32) (ha : zT L σ a (.inr (4, [.ref la, .ref wo, .ref sp, .ref li, .ref te, .int 0, .int 0]))) (hL : zT L σ la (.inr (0, [.int 0, .int 0, .ref f0, .ref f1, .ref f2, .ref f3, .ref f4, .ref f5, .ref f6, .ref f7]))) (h1 : φ 0 1 la = 0) : zMI l D cy yX4_canMeet cX4_canMeet 3 .boolean (zrm 1 0 0) [.ref a, .int p, .int q] L σ φ ρ (zpu L σ φ ρ (fun r => r = 0)) := by
  refine zMI.mk (by decide) (Nat.le_of_ble_eq_true rfl) (fun E hE hret => ?_)
  show zW E 0 0 L σ φ ρ 0 [(0, .ref a), (1, .int p), (2, .int q)] []
  refine x_aload_n hE dX4_canMeet_0 rfl 0 rfl ?_
  refine h_getr hE ha rfl inZX4 0 (by decide) q361 rfl dX4_canMeet_1 ?_
  refine x_iload_n hE dX4_canMeet_4 rfl 1 rfl ?_
  refine c_ip hE (r_V (st := []) hE (k_hasPerson l D cy L σ φ ρ (p) hL) q1044 q1033 q1034 q115 q1035 hL rfl ⟨by decide, by decide, pn_X0_hasPerson⟩ ⟨Nat.le_of_ble_eq_true rfl, Nat.le_of_ble_eq_true rfl⟩ ⟨Nat.le_of_ble_eq_true rfl, Nat.le_of_ble_eq_true rfl⟩ rfl (Nat.le_of_ble_eq_true rfl) dX4_canMeet_5) (fun r5 h_5 => ?_)
  refine x_widen (k' := 0) (n' := 0) (Nat.le_of_ble_eq_true rfl) (Nat.le_of_ble_eq_true rfl) ?_
  refine x_norm (y := 0) (h_5.trans (zb_f (fun e => z_le_nlt e.1 (h1 ▸ e.2)))) ?_
  refine x_if_eq (tgt := 52) hE dX4_canMeet_8 (by decide) (fun c_8 => ?_) (fun c_8 => absurd (by decide) c_8)
  refine x_iconst (v := 0) hE dX4_canMeet_52 (by decide) ?_
  exact hret _ _ _ _ _ _ _ _ (0) (Nat.le_of_ble_eq_true rfl) (Nat.le_of_ble_eq_true rfl) dX4_canMeet_53 (rfl) (⟨rfl, rfl⟩)
set_option maxHeartbeats 4000000 in
set_option maxRecDepth 100000 in
theorem k_canTake (l : Launch) (D : va_G) (cy : Nat → ClassId) (L : List Nat) (σ : Nat → va_E) (φ : Nat → Nat → Nat → Int32) (ρ : Nat → Nat → Int32) {a la wo sp li te f0 f1 f2 f3 f4 f5 f6 f7 : Nat} (p q v : Int32) (ha : zT L σ a (.inr (4, [.ref la, .ref wo, .ref sp, .ref li, .ref te, .int 0, .int 0]))) (hL : zT L σ la (.inr (0, [.int 0, .int 0, .ref f0, .ref f1, .ref f2, .ref f3, .ref f4, .ref f5, .ref f6, .ref f7]))) (h1 : φ 0 1 la = 0) : zMI l D cy yX4_canTake cX4_canTake 4 .boolean (zrm 2 0 0) [.ref a, .int p, .int q, .int v] L σ φ ρ (zpu L σ φ ρ (fun r => r = 0)) := by
  refine zMI.mk (by decide) (Nat.le_of_ble_eq_true rfl) (fun E hE hret => ?_)
  show zW E 0 0 L σ φ ρ 0 [(0, .ref a), (1, .int p), (2, .int q), (3, .int v)] []
  refine x_aload_n hE dX4_canTake_0 rfl 0 rfl ?_
  refine x_iload_n hE dX4_canTake_1 rfl 1 rfl ?_
  refine x_iload_n hE dX4_canTake_2 rfl 2 rfl ?_
  refine c_ip hE (r_V (st := []) hE (k_canMeet l D cy L σ φ ρ p q ha hL h1) q1067 q1052 q1053 q114 q1054 ha rfl ⟨by decide, by decide, pn_X4_canMeet⟩ ⟨Nat.le_of_ble_eq_true rfl, Nat.le_of_ble_eq_true rfl⟩ ⟨Nat.le_of_ble_eq_true rfl, Nat.le_of_ble_eq_true rfl⟩ rfl (Nat.le_of_ble_eq_true rfl) dX4_canTake_3) (fun rm hm => ?_)
  refine x_widen (k' := 0) (n' := 0) (Nat.le_of_ble_eq_true rfl) (Nat.le_of_ble_eq_true rfl) ?_
  refine x_norm (y := 0) (hm) ?_
  refine x_if_eq (tgt := 53) hE dX4_canTake_6 (by decide) (fun c_6 => ?_) (fun c_6 => absurd (by decide) c_6)
  refine x_iconst (v := 0) hE dX4_canTake_53 (by decide) ?_
  exact hret _ _ _ _ _ _ _ _ (0) (Nat.le_of_ble_eq_true rfl) (Nat.le_of_ble_eq_true rfl) dX4_canTake_54 (rfl) (⟨rfl, rfl⟩)
set_option maxHeartbeats 4000000 in
set_option maxRecDepth 100000 in
theorem k_takeBack (l : Launch) (D : va_G) (cy : Nat → ClassId) (L : List Nat) (σ : Nat → va_E) (φ : Nat → Nat → Nat → Int32) (ρ : Nat → Nat → Int32) {a la wo sp li te s0 s1 : Nat} (ha : zT L σ a (.inr (4, [.ref la, .ref wo, .ref sp, .ref li, .ref te, .int 0, .int 0]))) (hS : zT L σ sp (.inr (5, [.int 0, .int 0, .ref s0, .ref s1]))) (h50 : φ 5 0 sp = 0) : zMI l D cy yX4_takeBack cX4_takeBack 3 .int (zrm 0 0 0) [.ref a] L σ φ ρ (fun r _ => r = -1) := by
  refine zMI.mk (by decide) (Nat.le_of_ble_eq_true rfl) (fun E hE hret => ?_)
  show zW E 0 0 L σ φ ρ 0 [(0, .ref a)] []
  refine x_aload_n hE dX4_takeBack_0 rfl 0 rfl ?_
  refine h_getr hE ha rfl inZX4 2 (by decide) q370 rfl dX4_takeBack_1 ?_
  refine h_geti hE hS rfl inZX5 0 (by decide) q298 rfl dX4_takeBack_4 ?_
  refine x_norm (y := 0) (h50) ?_
  refine x_iconst (v := 1) hE dX4_takeBack_7 (by decide) ?_
  refine x_icmp_ge (tgt := 13) hE dX4_takeBack_8 (by decide) (fun c_8 => absurd c_8 (by decide)) (fun c_8 => ?_)
  refine x_iconst (v := -1) hE dX4_takeBack_11 (by decide) ?_
  exact hret _ _ _ _ _ _ _ _ (-1) (Nat.le_of_ble_eq_true rfl) (Nat.le_of_ble_eq_true rfl) dX4_takeBack_12 (rfl) (rfl)
end
section
theorem dX11_by_0 : decode cX11_by 0 = .ok (.iload_n 1, 1) := by decide +kernel
theorem dX11_by_1 : decode cX11_by 1 = .ok (.iconst (-1), 1) := by decide +kernel
theorem dX11_by_2 : decode cX11_by 2 = .ok (.if_icmp .eq 16, 3) := by decide +kernel
theorem dX11_by_5 : decode cX11_by 5 = .ok (.aload_n 0, 1) := by decide +kernel
theorem dX11_by_6 : decode cX11_by 6 = .ok (.getfield 10, 3) := by decide +kernel
theorem dX11_by_9 : decode cX11_by 9 = .ok (.iload_n 1, 1) := by decide +kernel
theorem dX11_by_10 : decode cX11_by 10 = .ok (.invokevirtual 131, 3) := by decide +kernel
theorem dX11_by_13 : decode cX11_by 13 = .ok (.ifCond .ne 5, 3) := by decide +kernel
theorem dX11_by_16 : decode cX11_by 16 = .ok (.iconst 0, 1) := by decide +kernel
theorem dX11_by_17 : decode cX11_by 17 = .ok (.ireturn, 1) := by decide +kernel
theorem dX11_by_18 : decode cX11_by 18 = .ok (.aload_n 0, 1) := by decide +kernel
theorem dX11_by_19 : decode cX11_by 19 = .ok (.getfield 10, 3) := by decide +kernel
theorem dX11_by_22 : decode cX11_by 22 = .ok (.iload_n 1, 1) := by decide +kernel
theorem dX11_by_23 : decode cX11_by 23 = .ok (.putfield 134, 3) := by decide +kernel
theorem dX11_by_26 : decode cX11_by 26 = .ok (.iconst 1, 1) := by decide +kernel
theorem dX11_by_27 : decode cX11_by 27 = .ok (.ireturn, 1) := by decide +kernel
theorem dX11_cross_0 : decode cX11_cross 0 = .ok (.aload_n 0, 1) := by decide +kernel
theorem dX11_cross_1 : decode cX11_cross 1 = .ok (.getfield 10, 3) := by decide +kernel
theorem dX11_cross_4 : decode cX11_cross 4 = .ok (.getfield 60, 3) := by decide +kernel
theorem dX11_cross_7 : decode cX11_cross 7 = .ok (.iload_n 1, 1) := by decide +kernel
theorem dX11_cross_8 : decode cX11_cross 8 = .ok (.invokevirtual 78, 3) := by decide +kernel
theorem dX11_cross_11 : decode cX11_cross 11 = .ok (.ifCond .eq 28, 3) := by decide +kernel
theorem dX11_cross_39 : decode cX11_cross 39 = .ok (.iconst (-1), 1) := by decide +kernel
theorem dX11_cross_40 : decode cX11_cross 40 = .ok (.ireturn, 1) := by decide +kernel
theorem dX11_fault_0 : decode cX11_fault 0 = .ok (.iload_n 1, 1) := by decide +kernel
theorem dX11_fault_1 : decode cX11_fault 1 = .ok (.ifCond .ne 11, 3) := by decide +kernel
theorem dX11_fault_4 : decode cX11_fault 4 = .ok (.aload_n 0, 1) := by decide +kernel
theorem dX11_fault_5 : decode cX11_fault 5 = .ok (.getfield 31, 3) := by decide +kernel
theorem dX11_fault_8 : decode cX11_fault 8 = .ok (.getfield 125, 3) := by decide +kernel
theorem dX11_fault_11 : decode cX11_fault 11 = .ok (.ireturn, 1) := by decide +kernel
theorem dX11_fault_12 : decode cX11_fault 12 = .ok (.iload_n 1, 1) := by decide +kernel
theorem dX11_fault_13 : decode cX11_fault 13 = .ok (.iconst 1, 1) := by decide +kernel
theorem dX11_fault_14 : decode cX11_fault 14 = .ok (.if_icmp .ne 13, 3) := by decide +kernel
theorem dX11_fault_17 : decode cX11_fault 17 = .ok (.aload_n 0, 1) := by decide +kernel
theorem dX11_fault_18 : decode cX11_fault 18 = .ok (.getfield 31, 3) := by decide +kernel
theorem dX11_fault_21 : decode cX11_fault 21 = .ok (.getfield 128, 3) := by decide +kernel
theorem dX11_fault_24 : decode cX11_fault 24 = .ok (.goto 4, 3) := by decide +kernel
theorem dX11_fault_27 : decode cX11_fault 27 = .ok (.iconst (-1), 1) := by decide +kernel
theorem dX11_fault_28 : decode cX11_fault 28 = .ok (.ireturn, 1) := by decide +kernel
theorem dX11_foretoldCloud_0 : decode cX11_foretoldCloud 0 = .ok (.iload_n 1, 1) := by decide +kernel
theorem dX11_foretoldCloud_1 : decode cX11_foretoldCloud 1 = .ok (.iconst 1, 1) := by decide +kernel
theorem dX11_foretoldCloud_2 : decode cX11_foretoldCloud 2 = .ok (.bipush 30, 2) := by decide +kernel
theorem dX11_foretoldCloud_4 : decode cX11_foretoldCloud 4 = .ok (.invokestatic 64, 3) := by decide +kernel
theorem dX11_foretoldCloud_7 : decode cX11_foretoldCloud 7 = .ok (.ifCond .eq 17, 3) := by decide +kernel
theorem dX11_foretoldCloud_10 : decode cX11_foretoldCloud 10 = .ok (.aload_n 0, 1) := by decide +kernel
theorem dX11_foretoldCloud_11 : decode cX11_foretoldCloud 11 = .ok (.getfield 10, 3) := by decide +kernel
theorem dX11_foretoldCloud_14 : decode cX11_foretoldCloud 14 = .ok (.getfield 60, 3) := by decide +kernel
theorem dX11_foretoldCloud_17 : decode cX11_foretoldCloud 17 = .ok (.iload_n 2, 1) := by decide +kernel
theorem dX11_foretoldCloud_18 : decode cX11_foretoldCloud 18 = .ok (.invokevirtual 147, 3) := by decide +kernel
theorem dX11_foretoldCloud_21 : decode cX11_foretoldCloud 21 = .ok (.ifCond .ne 5, 3) := by decide +kernel
theorem dX11_foretoldCloud_24 : decode cX11_foretoldCloud 24 = .ok (.iconst (-1), 1) := by decide +kernel
theorem dX11_foretoldCloud_25 : decode cX11_foretoldCloud 25 = .ok (.ireturn, 1) := by decide +kernel
theorem dX11_foretoldWet_0 : decode cX11_foretoldWet 0 = .ok (.iload_n 1, 1) := by decide +kernel
theorem dX11_foretoldWet_1 : decode cX11_foretoldWet 1 = .ok (.iconst 1, 1) := by decide +kernel
theorem dX11_foretoldWet_2 : decode cX11_foretoldWet 2 = .ok (.bipush 30, 2) := by decide +kernel
theorem dX11_foretoldWet_4 : decode cX11_foretoldWet 4 = .ok (.invokestatic 64, 3) := by decide +kernel
theorem dX11_foretoldWet_7 : decode cX11_foretoldWet 7 = .ok (.ifCond .eq 17, 3) := by decide +kernel
theorem dX11_foretoldWet_10 : decode cX11_foretoldWet 10 = .ok (.aload_n 0, 1) := by decide +kernel
theorem dX11_foretoldWet_11 : decode cX11_foretoldWet 11 = .ok (.getfield 10, 3) := by decide +kernel
theorem dX11_foretoldWet_14 : decode cX11_foretoldWet 14 = .ok (.getfield 60, 3) := by decide +kernel
theorem dX11_foretoldWet_17 : decode cX11_foretoldWet 17 = .ok (.iload_n 2, 1) := by decide +kernel
theorem dX11_foretoldWet_18 : decode cX11_foretoldWet 18 = .ok (.invokevirtual 78, 3) := by decide +kernel
theorem dX11_foretoldWet_21 : decode cX11_foretoldWet 21 = .ok (.ifCond .ne 5, 3) := by decide +kernel
theorem dX11_foretoldWet_24 : decode cX11_foretoldWet 24 = .ok (.iconst (-1), 1) := by decide +kernel
theorem dX11_foretoldWet_25 : decode cX11_foretoldWet 25 = .ok (.ireturn, 1) := by decide +kernel
theorem dX11_go_0 : decode cX11_go 0 = .ok (.aload_n 0, 1) := by decide +kernel
theorem dX11_go_1 : decode cX11_go 1 = .ok (.getfield 10, 3) := by decide +kernel
theorem dX11_go_4 : decode cX11_go 4 = .ok (.iload_n 1, 1) := by decide +kernel
theorem dX11_go_5 : decode cX11_go 5 = .ok (.iload_n 2, 1) := by decide +kernel
theorem dX11_go_6 : decode cX11_go 6 = .ok (.invokevirtual 154, 3) := by decide +kernel
theorem dX11_go_9 : decode cX11_go 9 = .ok (.ifCond .ne 5, 3) := by decide +kernel
theorem dX11_go_12 : decode cX11_go 12 = .ok (.iconst 0, 1) := by decide +kernel
theorem dX11_go_13 : decode cX11_go 13 = .ok (.ireturn, 1) := by decide +kernel
theorem dX11_missing_0 : decode cX11_missing 0 = .ok (.aload_n 0, 1) := by decide +kernel
theorem dX11_missing_1 : decode cX11_missing 1 = .ok (.getfield 10, 3) := by decide +kernel
theorem dX11_missing_4 : decode cX11_missing 4 = .ok (.getfield 343, 3) := by decide +kernel
theorem dX11_missing_7 : decode cX11_missing 7 = .ok (.astore 4, 2) := by decide +kernel
theorem dX11_missing_9 : decode cX11_missing 9 = .ok (.iload_n 1, 1) := by decide +kernel
theorem dX11_missing_10 : decode cX11_missing 10 = .ok (.iconst (-1), 1) := by decide +kernel
theorem dX11_missing_11 : decode cX11_missing 11 = .ok (.if_icmp .ne 11, 3) := by decide +kernel
theorem dX11_missing_14 : decode cX11_missing 14 = .ok (.aload 4, 2) := by decide +kernel
theorem dX11_missing_16 : decode cX11_missing 16 = .ok (.iconst 0, 1) := by decide +kernel
theorem dX11_missing_17 : decode cX11_missing 17 = .ok (.putfield 347, 3) := by decide +kernel
theorem dX11_missing_20 : decode cX11_missing 20 = .ok (.iconst 0, 1) := by decide +kernel
theorem dX11_missing_21 : decode cX11_missing 21 = .ok (.ireturn, 1) := by decide +kernel
theorem dX11_missing_22 : decode cX11_missing 22 = .ok (.aload_n 0, 1) := by decide +kernel
theorem dX11_missing_23 : decode cX11_missing 23 = .ok (.getfield 10, 3) := by decide +kernel
theorem dX11_missing_26 : decode cX11_missing 26 = .ok (.getfield 60, 3) := by decide +kernel
theorem dX11_missing_29 : decode cX11_missing 29 = .ok (.iload_n 1, 1) := by decide +kernel
theorem dX11_missing_30 : decode cX11_missing 30 = .ok (.invokevirtual 147, 3) := by decide +kernel
theorem dX11_missing_33 : decode cX11_missing 33 = .ok (.ifCond .eq 29, 3) := by decide +kernel
theorem dX11_missing_62 : decode cX11_missing 62 = .ok (.bipush (-2), 2) := by decide +kernel
theorem dX11_missing_64 : decode cX11_missing 64 = .ok (.ireturn, 1) := by decide +kernel
theorem dX11_ofField_0 : decode cX11_ofField 0 = .ok (.aload_n 0, 1) := by decide +kernel
theorem dX11_ofField_1 : decode cX11_ofField 1 = .ok (.getfield 10, 3) := by decide +kernel
theorem dX11_ofField_4 : decode cX11_ofField 4 = .ok (.getfield 60, 3) := by decide +kernel
theorem dX11_ofField_7 : decode cX11_ofField 7 = .ok (.astore_n 3, 1) := by decide +kernel
theorem dX11_ofField_8 : decode cX11_ofField 8 = .ok (.aload_n 0, 1) := by decide +kernel
theorem dX11_ofField_9 : decode cX11_ofField 9 = .ok (.getfield 10, 3) := by decide +kernel
theorem dX11_ofField_12 : decode cX11_ofField 12 = .ok (.getfield 97, 3) := by decide +kernel
theorem dX11_ofField_15 : decode cX11_ofField 15 = .ok (.astore 4, 2) := by decide +kernel
theorem dX11_ofField_17 : decode cX11_ofField 17 = .ok (.aload_n 3, 1) := by decide +kernel
theorem dX11_ofField_18 : decode cX11_ofField 18 = .ok (.iload_n 1, 1) := by decide +kernel
theorem dX11_ofField_19 : decode cX11_ofField 19 = .ok (.invokevirtual 78, 3) := by decide +kernel
theorem dX11_ofField_22 : decode cX11_ofField 22 = .ok (.ifCond .ne 5, 3) := by decide +kernel
theorem dX11_ofField_25 : decode cX11_ofField 25 = .ok (.iconst (-1), 1) := by decide +kernel
theorem dX11_ofField_26 : decode cX11_ofField 26 = .ok (.ireturn, 1) := by decide +kernel
theorem dX11_ofPerson_0 : decode cX11_ofPerson 0 = .ok (.aload_n 0, 1) := by decide +kernel
theorem dX11_ofPerson_1 : decode cX11_ofPerson 1 = .ok (.getfield 10, 3) := by decide +kernel
theorem dX11_ofPerson_4 : decode cX11_ofPerson 4 = .ok (.getfield 60, 3) := by decide +kernel
theorem dX11_ofPerson_7 : decode cX11_ofPerson 7 = .ok (.astore_n 3, 1) := by decide +kernel
theorem dX11_ofPerson_8 : decode cX11_ofPerson 8 = .ok (.aload_n 0, 1) := by decide +kernel
theorem dX11_ofPerson_9 : decode cX11_ofPerson 9 = .ok (.getfield 10, 3) := by decide +kernel
theorem dX11_ofPerson_12 : decode cX11_ofPerson 12 = .ok (.getfield 97, 3) := by decide +kernel
theorem dX11_ofPerson_15 : decode cX11_ofPerson 15 = .ok (.astore 4, 2) := by decide +kernel
theorem dX11_ofPerson_17 : decode cX11_ofPerson 17 = .ok (.aload_n 3, 1) := by decide +kernel
theorem dX11_ofPerson_18 : decode cX11_ofPerson 18 = .ok (.iload_n 1, 1) := by decide +kernel
theorem dX11_ofPerson_19 : decode cX11_ofPerson 19 = .ok (.invokevirtual 147, 3) := by decide +kernel
theorem dX11_ofPerson_22 : decode cX11_ofPerson 22 = .ok (.ifCond .ne 6, 3) := by decide +kernel
theorem dX11_ofPerson_25 : decode cX11_ofPerson 25 = .ok (.bipush (-2), 2) := by decide +kernel
theorem dX11_ofPerson_27 : decode cX11_ofPerson 27 = .ok (.ireturn, 1) := by decide +kernel
theorem dX11_person_0 : decode cX11_person 0 = .ok (.aload_n 0, 1) := by decide +kernel
theorem dX11_person_1 : decode cX11_person 1 = .ok (.getfield 10, 3) := by decide +kernel
theorem dX11_person_4 : decode cX11_person 4 = .ok (.getfield 60, 3) := by decide +kernel
theorem dX11_person_7 : decode cX11_person 7 = .ok (.astore 5, 2) := by decide +kernel
theorem dX11_person_9 : decode cX11_person 9 = .ok (.iload_n 1, 1) := by decide +kernel
theorem dX11_person_10 : decode cX11_person 10 = .ok (.iconst 1, 1) := by decide +kernel
theorem dX11_person_11 : decode cX11_person 11 = .ok (.bipush 99, 2) := by decide +kernel
theorem dX11_person_13 : decode cX11_person 13 = .ok (.invokestatic 64, 3) := by decide +kernel
theorem dX11_person_16 : decode cX11_person 16 = .ok (.ifCond .eq 38, 3) := by decide +kernel
theorem dX11_person_19 : decode cX11_person 19 = .ok (.iload_n 2, 1) := by decide +kernel
theorem dX11_person_20 : decode cX11_person 20 = .ok (.iconst 0, 1) := by decide +kernel
theorem dX11_person_21 : decode cX11_person 21 = .ok (.bipush 99, 2) := by decide +kernel
theorem dX11_person_23 : decode cX11_person 23 = .ok (.invokestatic 64, 3) := by decide +kernel
theorem dX11_person_26 : decode cX11_person 26 = .ok (.ifCond .eq 28, 3) := by decide +kernel
theorem dX11_person_29 : decode cX11_person 29 = .ok (.aload 5, 2) := by decide +kernel
theorem dX11_person_31 : decode cX11_person 31 = .ok (.iload_n 3, 1) := by decide +kernel
theorem dX11_person_32 : decode cX11_person 32 = .ok (.invokevirtual 78, 3) := by decide +kernel
theorem dX11_person_35 : decode cX11_person 35 = .ok (.ifCond .eq 19, 3) := by decide +kernel
theorem dX11_person_54 : decode cX11_person 54 = .ok (.iconst 0, 1) := by decide +kernel
theorem dX11_person_55 : decode cX11_person 55 = .ok (.istore 6, 2) := by decide +kernel
theorem dX11_person_57 : decode cX11_person 57 = .ok (.iload 6, 2) := by decide +kernel
theorem dX11_person_59 : decode cX11_person 59 = .ok (.ifCond .eq 13, 3) := by decide +kernel
theorem dX11_person_72 : decode cX11_person 72 = .ok (.iconst (-1), 1) := by decide +kernel
theorem dX11_person_73 : decode cX11_person 73 = .ok (.ireturn, 1) := by decide +kernel
theorem dX11_plan_0 : decode cX11_plan 0 = .ok (.aload_n 0, 1) := by decide +kernel
theorem dX11_plan_1 : decode cX11_plan 1 = .ok (.getfield 10, 3) := by decide +kernel
theorem dX11_plan_4 : decode cX11_plan 4 = .ok (.getfield 60, 3) := by decide +kernel
theorem dX11_plan_7 : decode cX11_plan 7 = .ok (.iload_n 1, 1) := by decide +kernel
theorem dX11_plan_8 : decode cX11_plan 8 = .ok (.invokevirtual 147, 3) := by decide +kernel
theorem dX11_plan_11 : decode cX11_plan 11 = .ok (.ifCond .eq 23, 3) := by decide +kernel
theorem dX11_plan_34 : decode cX11_plan 34 = .ok (.iconst (-1), 1) := by decide +kernel
theorem dX11_plan_35 : decode cX11_plan 35 = .ok (.ireturn, 1) := by decide +kernel
theorem dX11_played_0 : decode cX11_played 0 = .ok (.aload_n 0, 1) := by decide +kernel
theorem dX11_played_1 : decode cX11_played 1 = .ok (.getfield 10, 3) := by decide +kernel
theorem dX11_played_4 : decode cX11_played 4 = .ok (.iload_n 1, 1) := by decide +kernel
theorem dX11_played_5 : decode cX11_played 5 = .ok (.invokevirtual 131, 3) := by decide +kernel
theorem dX11_played_8 : decode cX11_played 8 = .ok (.ifCond .ne 6, 3) := by decide +kernel
theorem dX11_played_11 : decode cX11_played 11 = .ok (.bipush (-2), 2) := by decide +kernel
theorem dX11_played_13 : decode cX11_played 13 = .ok (.ireturn, 1) := by decide +kernel
theorem dX11_pour_0 : decode cX11_pour 0 = .ok (.aload_n 0, 1) := by decide +kernel
theorem dX11_pour_1 : decode cX11_pour 1 = .ok (.getfield 10, 3) := by decide +kernel
theorem dX11_pour_4 : decode cX11_pour 4 = .ok (.getfield 97, 3) := by decide +kernel
theorem dX11_pour_7 : decode cX11_pour 7 = .ok (.astore_n 3, 1) := by decide +kernel
theorem dX11_pour_8 : decode cX11_pour 8 = .ok (.iload_n 1, 1) := by decide +kernel
theorem dX11_pour_9 : decode cX11_pour 9 = .ok (.iconst 1, 1) := by decide +kernel
theorem dX11_pour_10 : decode cX11_pour 10 = .ok (.sipush 999, 3) := by decide +kernel
theorem dX11_pour_13 : decode cX11_pour 13 = .ok (.invokestatic 64, 3) := by decide +kernel
theorem dX11_pour_16 : decode cX11_pour 16 = .ok (.ifCond .eq 25, 3) := by decide +kernel
theorem dX11_pour_19 : decode cX11_pour 19 = .ok (.iload_n 1, 1) := by decide +kernel
theorem dX11_pour_20 : decode cX11_pour 20 = .ok (.aload_n 3, 1) := by decide +kernel
theorem dX11_pour_21 : decode cX11_pour 21 = .ok (.getfield 176, 3) := by decide +kernel
theorem dX11_pour_24 : decode cX11_pour 24 = .ok (.if_icmp .gt 17, 3) := by decide +kernel
theorem dX11_pour_27 : decode cX11_pour 27 = .ok (.aload_n 0, 1) := by decide +kernel
theorem dX11_pour_28 : decode cX11_pour 28 = .ok (.getfield 10, 3) := by decide +kernel
theorem dX11_pour_31 : decode cX11_pour 31 = .ok (.getfield 60, 3) := by decide +kernel
theorem dX11_pour_34 : decode cX11_pour 34 = .ok (.iload_n 2, 1) := by decide +kernel
theorem dX11_pour_35 : decode cX11_pour 35 = .ok (.invokevirtual 78, 3) := by decide +kernel
theorem dX11_pour_38 : decode cX11_pour 38 = .ok (.ifCond .ne 5, 3) := by decide +kernel
theorem dX11_pour_41 : decode cX11_pour 41 = .ok (.iconst (-1), 1) := by decide +kernel
theorem dX11_pour_42 : decode cX11_pour 42 = .ok (.ireturn, 1) := by decide +kernel
theorem dX11_road_0 : decode cX11_road 0 = .ok (.aload_n 0, 1) := by decide +kernel
theorem dX11_road_1 : decode cX11_road 1 = .ok (.getfield 10, 3) := by decide +kernel
theorem dX11_road_4 : decode cX11_road 4 = .ok (.getfield 60, 3) := by decide +kernel
theorem dX11_road_7 : decode cX11_road 7 = .ok (.astore_n 3, 1) := by decide +kernel
theorem dX11_road_8 : decode cX11_road 8 = .ok (.aload_n 3, 1) := by decide +kernel
theorem dX11_road_9 : decode cX11_road 9 = .ok (.iload_n 1, 1) := by decide +kernel
theorem dX11_road_10 : decode cX11_road 10 = .ok (.invokevirtual 78, 3) := by decide +kernel
theorem dX11_road_13 : decode cX11_road 13 = .ok (.ifCond .eq 25, 3) := by decide +kernel
theorem dX11_road_38 : decode cX11_road 38 = .ok (.iconst 0, 1) := by decide +kernel
theorem dX11_road_39 : decode cX11_road 39 = .ok (.ireturn, 1) := by decide +kernel
theorem dX11_shake_0 : decode cX11_shake 0 = .ok (.aload_n 0, 1) := by decide +kernel
theorem dX11_shake_1 : decode cX11_shake 1 = .ok (.getfield 10, 3) := by decide +kernel
theorem dX11_shake_4 : decode cX11_shake 4 = .ok (.iload_n 1, 1) := by decide +kernel
theorem dX11_shake_5 : decode cX11_shake 5 = .ok (.iload_n 2, 1) := by decide +kernel
theorem dX11_shake_6 : decode cX11_shake 6 = .ok (.invokevirtual 160, 3) := by decide +kernel
theorem dX11_shake_9 : decode cX11_shake 9 = .ok (.ifCond .ne 5, 3) := by decide +kernel
theorem dX11_shake_12 : decode cX11_shake 12 = .ok (.iconst (-1), 1) := by decide +kernel
theorem dX11_shake_13 : decode cX11_shake 13 = .ok (.ireturn, 1) := by decide +kernel
theorem dX11_steal_0 : decode cX11_steal 0 = .ok (.aload_n 0, 1) := by decide +kernel
theorem dX11_steal_1 : decode cX11_steal 1 = .ok (.getfield 10, 3) := by decide +kernel
theorem dX11_steal_4 : decode cX11_steal 4 = .ok (.iload_n 1, 1) := by decide +kernel
theorem dX11_steal_5 : decode cX11_steal 5 = .ok (.iload_n 2, 1) := by decide +kernel
theorem dX11_steal_6 : decode cX11_steal 6 = .ok (.iload_n 3, 1) := by decide +kernel
theorem dX11_steal_7 : decode cX11_steal 7 = .ok (.invokevirtual 170, 3) := by decide +kernel
theorem dX11_steal_10 : decode cX11_steal 10 = .ok (.ifCond .ne 5, 3) := by decide +kernel
theorem dX11_steal_13 : decode cX11_steal 13 = .ok (.iconst (-1), 1) := by decide +kernel
theorem dX11_steal_14 : decode cX11_steal 14 = .ok (.ireturn, 1) := by decide +kernel
theorem dX11_undo_0 : decode cX11_undo 0 = .ok (.aload_n 0, 1) := by decide +kernel
theorem dX11_undo_1 : decode cX11_undo 1 = .ok (.getfield 10, 3) := by decide +kernel
theorem dX11_undo_4 : decode cX11_undo 4 = .ok (.invokevirtual 246, 3) := by decide +kernel
theorem dX11_undo_7 : decode cX11_undo 7 = .ok (.ireturn, 1) := by decide +kernel
theorem dX11_water_0 : decode cX11_water 0 = .ok (.aload_n 0, 1) := by decide +kernel
theorem dX11_water_1 : decode cX11_water 1 = .ok (.getfield 10, 3) := by decide +kernel
theorem dX11_water_4 : decode cX11_water 4 = .ok (.getfield 97, 3) := by decide +kernel
theorem dX11_water_7 : decode cX11_water 7 = .ok (.astore_n 1, 1) := by decide +kernel
theorem dX11_water_8 : decode cX11_water 8 = .ok (.aload_n 1, 1) := by decide +kernel
theorem dX11_water_9 : decode cX11_water 9 = .ok (.getfield 176, 3) := by decide +kernel
theorem dX11_water_12 : decode cX11_water 12 = .ok (.aload_n 1, 1) := by decide +kernel
theorem dX11_water_13 : decode cX11_water 13 = .ok (.getfield 403, 3) := by decide +kernel
theorem dX11_water_16 : decode cX11_water 16 = .ok (.iadd, 1) := by decide +kernel
theorem dX11_water_17 : decode cX11_water 17 = .ok (.aload_n 1, 1) := by decide +kernel
theorem dX11_water_18 : decode cX11_water 18 = .ok (.getfield 406, 3) := by decide +kernel
theorem dX11_water_21 : decode cX11_water 21 = .ok (.isub, 1) := by decide +kernel
theorem dX11_water_22 : decode cX11_water 22 = .ok (.istore_n 2, 1) := by decide +kernel
theorem dX11_water_23 : decode cX11_water 23 = .ok (.iconst 0, 1) := by decide +kernel
theorem dX11_water_24 : decode cX11_water 24 = .ok (.istore_n 3, 1) := by decide +kernel
theorem dX11_water_25 : decode cX11_water 25 = .ok (.iload_n 3, 1) := by decide +kernel
theorem dX11_water_26 : decode cX11_water 26 = .ok (.aload_n 0, 1) := by decide +kernel
theorem dX11_water_27 : decode cX11_water 27 = .ok (.getfield 10, 3) := by decide +kernel
theorem dX11_water_30 : decode cX11_water 30 = .ok (.getfield 60, 3) := by decide +kernel
theorem dX11_water_33 : decode cX11_water 33 = .ok (.getfield 90, 3) := by decide +kernel
theorem dX11_water_36 : decode cX11_water 36 = .ok (.if_icmp .ge 18, 3) := by decide +kernel
theorem dX11_water_54 : decode cX11_water 54 = .ok (.iconst 0, 1) := by decide +kernel
theorem dX11_water_55 : decode cX11_water 55 = .ok (.istore_n 3, 1) := by decide +kernel
theorem dX11_water_56 : decode cX11_water 56 = .ok (.iload_n 3, 1) := by decide +kernel
theorem dX11_water_57 : decode cX11_water 57 = .ok (.aload_n 0, 1) := by decide +kernel
theorem dX11_water_58 : decode cX11_water 58 = .ok (.getfield 10, 3) := by decide +kernel
theorem dX11_water_61 : decode cX11_water 61 = .ok (.getfield 60, 3) := by decide +kernel
theorem dX11_water_64 : decode cX11_water 64 = .ok (.getfield 68, 3) := by decide +kernel
theorem dX11_water_67 : decode cX11_water 67 = .ok (.if_icmp .ge 18, 3) := by decide +kernel
theorem dX11_water_85 : decode cX11_water 85 = .ok (.iload_n 2, 1) := by decide +kernel
theorem dX11_water_86 : decode cX11_water 86 = .ok (.ireturn, 1) := by decide +kernel
theorem dX11_widest_0 : decode cX11_widest 0 = .ok (.aload_n 0, 1) := by decide +kernel
theorem dX11_widest_1 : decode cX11_widest 1 = .ok (.getfield 10, 3) := by decide +kernel
theorem dX11_widest_4 : decode cX11_widest 4 = .ok (.getfield 60, 3) := by decide +kernel
theorem dX11_widest_7 : decode cX11_widest 7 = .ok (.iload_n 1, 1) := by decide +kernel
theorem dX11_widest_8 : decode cX11_widest 8 = .ok (.invokevirtual 78, 3) := by decide +kernel
theorem dX11_widest_11 : decode cX11_widest 11 = .ok (.ifCond .eq 17, 3) := by decide +kernel
theorem dX11_widest_28 : decode cX11_widest 28 = .ok (.iconst (-1), 1) := by decide +kernel
theorem dX11_widest_29 : decode cX11_widest 29 = .ok (.ireturn, 1) := by decide +kernel
theorem dX11_work_0 : decode cX11_work 0 = .ok (.aload_n 0, 1) := by decide +kernel
theorem dX11_work_1 : decode cX11_work 1 = .ok (.getfield 10, 3) := by decide +kernel
theorem dX11_work_4 : decode cX11_work 4 = .ok (.getfield 60, 3) := by decide +kernel
theorem dX11_work_7 : decode cX11_work 7 = .ok (.iload_n 1, 1) := by decide +kernel
theorem dX11_work_8 : decode cX11_work 8 = .ok (.invokevirtual 147, 3) := by decide +kernel
theorem dX11_work_11 : decode cX11_work 11 = .ok (.ifCond .eq 29, 3) := by decide +kernel
theorem dX11_work_40 : decode cX11_work 40 = .ok (.iconst 0, 1) := by decide +kernel
theorem dX11_work_41 : decode cX11_work 41 = .ok (.ireturn, 1) := by decide +kernel
theorem dX11_year_0 : decode cX11_year 0 = .ok (.iload_n 1, 1) := by decide +kernel
theorem dX11_year_1 : decode cX11_year 1 = .ok (.iconst 0, 1) := by decide +kernel
theorem dX11_year_2 : decode cX11_year 2 = .ok (.sipush 9999, 3) := by decide +kernel
theorem dX11_year_5 : decode cX11_year 5 = .ok (.invokestatic 64, 3) := by decide +kernel
theorem dX11_year_8 : decode cX11_year 8 = .ok (.ifCond .eq 27, 3) := by decide +kernel
theorem dX11_year_11 : decode cX11_year 11 = .ok (.iload_n 2, 1) := by decide +kernel
theorem dX11_year_12 : decode cX11_year 12 = .ok (.iconst 1, 1) := by decide +kernel
theorem dX11_year_13 : decode cX11_year 13 = .ok (.bipush 30, 2) := by decide +kernel
theorem dX11_year_15 : decode cX11_year 15 = .ok (.invokestatic 64, 3) := by decide +kernel
theorem dX11_year_18 : decode cX11_year 18 = .ok (.ifCond .eq 17, 3) := by decide +kernel
theorem dX11_year_21 : decode cX11_year 21 = .ok (.aload_n 0, 1) := by decide +kernel
theorem dX11_year_22 : decode cX11_year 22 = .ok (.getfield 10, 3) := by decide +kernel
theorem dX11_year_25 : decode cX11_year 25 = .ok (.getfield 60, 3) := by decide +kernel
theorem dX11_year_28 : decode cX11_year 28 = .ok (.getfield 90, 3) := by decide +kernel
theorem dX11_year_31 : decode cX11_year 31 = .ok (.iconst 1, 1) := by decide +kernel
theorem dX11_year_32 : decode cX11_year 32 = .ok (.if_icmp .ge 5, 3) := by decide +kernel
theorem dX11_year_35 : decode cX11_year 35 = .ok (.iconst (-1), 1) := by decide +kernel
theorem dX11_year_36 : decode cX11_year 36 = .ok (.ireturn, 1) := by decide +kernel
set_option maxHeartbeats 4000000 in
set_option maxRecDepth 100000 in
theorem o_road (l : Launch) (D : va_G) (cy : Nat → ClassId) (L : List Nat) (σ : Nat → va_E) (φ : Nat → Nat → Nat → Int32) (ρ : Nat → Nat → Int32) {x : Nat} (a : Int32) (b : Int32) (hx : zOR cy L σ φ x) : zMI l D cy yX11_road cX11_road 4 .boolean (zrm 3 0 0) [.ref x, .int a, .int b] L σ φ ρ (fun r _ => r = 0) := by
  refine zMI.mk (by decide) (Nat.le_of_ble_eq_true rfl) (fun E hE hret => ?_)
  show zW E 0 0 L σ φ ρ 0 [(0, .ref x), (1, .int a), (2, .int b)] []
  obtain ⟨now, kept, tape, reader, weather, planner, ways, la, wo, sp, li, te, g, la', wo', sp', li', te', g', hx, hs, hs0, hk, hk0, htp, htp0, hrd, hrd0, hrd1, hwe, hwe0, hpl, hwy⟩ := hx
  obtain ⟨hn, hla, hwo, hsp, hli, hte⟩ := id hs
  obtain ⟨p45, p46, p00, p01, p10, p50, p51, pl0, pl1, pl2, pg⟩ := id hs0
  obtain ⟨f0, f1, f2, f3, f4, f5, f6, f7, hL, hL0, hL1, hL2, hL3, hL4, hL5, hL6, hL7⟩ := id hla
  obtain ⟨w0, w1, w2, w3, w4, w5, w6, w7, hW, hW0, hW1, hW2, hW3, hW4, hW5, hW6, hW7⟩ := id hwo
  obtain ⟨s0, s1, hSp, hSp0, hSp1, hSpW⟩ := id hsp
  obtain ⟨i0, i1, i2, i3, i4, i5, i6, i7, hLi, hLi0, hLi1, hLi2, hLi3, hLi4, hLi5, hLi6, hLi7⟩ := id hli
  obtain ⟨t0, t1, t2, t3, hTp, hTp0, hTp1, hTp2, hTp3, hTn1, hTn2⟩ := id htp
  refine x_aload_n hE dX11_road_0 rfl 0 rfl ?_
  refine h_getr hE hx rfl inZX11 0 (by decide) q556 rfl dX11_road_1 ?_
  refine h_getr hE hn rfl inZX4 0 (by decide) q362 rfl dX11_road_4 ?_
  refine x_astore_n (lv' := [(3, .ref la), (0, .ref x), (1, .int a), (2, .int b)]) hE dX11_road_7 rfl (by decide) rfl ?_
  refine x_aload_n hE dX11_road_8 rfl 0 rfl ?_
  refine x_iload_n hE dX11_road_9 rfl 2 rfl ?_
  refine c_ip hE (r_V (st := []) hE (k_hasField l D cy L σ φ ρ (a) hL) q593 q594 q595 q115 q596 hL rfl ⟨by decide, by decide, pn_X0_hasField⟩ ⟨Nat.le_of_ble_eq_true rfl, Nat.le_of_ble_eq_true rfl⟩ ⟨Nat.le_of_ble_eq_true rfl, Nat.le_of_ble_eq_true rfl⟩ rfl (Nat.le_of_ble_eq_true rfl) dX11_road_10) (fun r10 h10 => ?_)
  refine x_widen (k' := 0) (n' := 0) (Nat.le_of_ble_eq_true rfl) (Nat.le_of_ble_eq_true rfl) ?_
  refine x_norm (y := 0) (h10.trans (zb_f (fun e => z_le_nlt e.1 (p00 ▸ e.2)))) ?_
  refine x_if_eq (tgt := 38) hE dX11_road_13 (by decide) (fun c_13 => ?_) (fun c_13 => absurd (by decide) c_13)
  refine x_iconst (v := 0) hE dX11_road_38 (by decide) ?_
  exact hret _ _ _ _ _ _ _ _ (0) (Nat.le_of_ble_eq_true rfl) (Nat.le_of_ble_eq_true rfl) dX11_road_39 (rfl) (by grind [zb])
set_option maxHeartbeats 4000000 in
set_option maxRecDepth 100000 in
theorem o_person (l : Launch) (D : va_G) (cy : Nat → ClassId) (L : List Nat) (σ : Nat → va_E) (φ : Nat → Nat → Nat → Int32) (ρ : Nat → Nat → Int32) {x : Nat} (a : Int32) (b : Int32) (c : Int32) (d : Int32) (hx : zOR cy L σ φ x) : zMI l D cy yX11_person cX11_person 8 .int (zrm 3 0 0) [.ref x, .int a, .int b, .int c, .int d] L σ φ ρ (fun r _ => r = -1) := by
  refine zMI.mk (by decide) (Nat.le_of_ble_eq_true rfl) (fun E hE hret => ?_)
  show zW E 0 0 L σ φ ρ 0 [(0, .ref x), (1, .int a), (2, .int b), (3, .int c), (4, .int d)] []
  obtain ⟨now, kept, tape, reader, weather, planner, ways, la, wo, sp, li, te, g, la', wo', sp', li', te', g', hx, hs, hs0, hk, hk0, htp, htp0, hrd, hrd0, hrd1, hwe, hwe0, hpl, hwy⟩ := hx
  obtain ⟨hn, hla, hwo, hsp, hli, hte⟩ := id hs
  obtain ⟨p45, p46, p00, p01, p10, p50, p51, pl0, pl1, pl2, pg⟩ := id hs0
  obtain ⟨f0, f1, f2, f3, f4, f5, f6, f7, hL, hL0, hL1, hL2, hL3, hL4, hL5, hL6, hL7⟩ := id hla
  obtain ⟨w0, w1, w2, w3, w4, w5, w6, w7, hW, hW0, hW1, hW2, hW3, hW4, hW5, hW6, hW7⟩ := id hwo
  obtain ⟨s0, s1, hSp, hSp0, hSp1, hSpW⟩ := id hsp
  obtain ⟨i0, i1, i2, i3, i4, i5, i6, i7, hLi, hLi0, hLi1, hLi2, hLi3, hLi4, hLi5, hLi6, hLi7⟩ := id hli
  obtain ⟨t0, t1, t2, t3, hTp, hTp0, hTp1, hTp2, hTp3, hTn1, hTn2⟩ := id htp
  refine x_aload_n hE dX11_person_0 rfl 0 rfl ?_
  refine h_getr hE hx rfl inZX11 0 (by decide) q556 rfl dX11_person_1 ?_
  refine h_getr hE hn rfl inZX4 0 (by decide) q362 rfl dX11_person_4 ?_
  refine x_astore (lv' := [(5, .ref la), (0, .ref x), (1, .int a), (2, .int b), (3, .int c), (4, .int d)]) hE dX11_person_7 (by decide) rfl ?_
  refine x_iload_n hE dX11_person_9 rfl 2 rfl ?_
  refine x_iconst (v := 1) hE dX11_person_10 (by decide) ?_
  refine x_bipush (v := 99) hE dX11_person_11 (by decide) ?_
  refine c_ip hE (r_S (st := []) hE (k_isWithin l D cy L σ φ ρ (a) (1) (99)) q582 q583 q113 q584 ⟨by decide, by decide, pn_X11_isWithin⟩ ⟨Nat.le_of_ble_eq_true rfl, Nat.le_of_ble_eq_true rfl⟩ ⟨Nat.le_of_ble_eq_true rfl, Nat.le_of_ble_eq_true rfl⟩ rfl (Nat.le_of_ble_eq_true rfl) dX11_person_13) (fun r13 h13 => ?_)
  refine x_widen (k' := 0) (n' := 0) (Nat.le_of_ble_eq_true rfl) (Nat.le_of_ble_eq_true rfl) ?_
  refine x_if_eq (tgt := 54) hE dX11_person_16 (by decide) (fun c_16 => ?_) (fun c_16 => ?_)
  · refine x_iconst (v := 0) hE dX11_person_54 (by decide) ?_
    refine x_istore (lv' := [(6, .int 0), (5, .ref la), (0, .ref x), (1, .int a), (2, .int b), (3, .int c), (4, .int d)]) hE dX11_person_55 (by decide) rfl ?_
    refine x_iload hE dX11_person_57 0 rfl ?_
    refine x_if_eq (tgt := 72) hE dX11_person_59 (by decide) (fun c_59 => ?_) (fun c_59 => absurd (by decide) c_59)
    refine x_iconst (v := -1) hE dX11_person_72 (by decide) ?_
    exact hret _ _ _ _ _ _ _ _ (-1) (Nat.le_of_ble_eq_true rfl) (Nat.le_of_ble_eq_true rfl) dX11_person_73 (rfl) (by grind [zb])
  · refine x_iload_n hE dX11_person_19 rfl 3 rfl ?_
    refine x_iconst (v := 0) hE dX11_person_20 (by decide) ?_
    refine x_bipush (v := 99) hE dX11_person_21 (by decide) ?_
    refine c_ip hE (r_S (st := []) hE (k_isWithin l D cy L σ φ ρ (b) (0) (99)) q582 q583 q113 q584 ⟨by decide, by decide, pn_X11_isWithin⟩ ⟨Nat.le_of_ble_eq_true rfl, Nat.le_of_ble_eq_true rfl⟩ ⟨Nat.le_of_ble_eq_true rfl, Nat.le_of_ble_eq_true rfl⟩ rfl (Nat.le_of_ble_eq_true rfl) dX11_person_23) (fun r23 h23 => ?_)
    refine x_widen (k' := 0) (n' := 0) (Nat.le_of_ble_eq_true rfl) (Nat.le_of_ble_eq_true rfl) ?_
    refine x_if_eq (tgt := 54) hE dX11_person_26 (by decide) (fun c_26 => ?_) (fun c_26 => ?_)
    · refine x_iconst (v := 0) hE dX11_person_54 (by decide) ?_
      refine x_istore (lv' := [(6, .int 0), (5, .ref la), (0, .ref x), (1, .int a), (2, .int b), (3, .int c), (4, .int d)]) hE dX11_person_55 (by decide) rfl ?_
      refine x_iload hE dX11_person_57 0 rfl ?_
      refine x_if_eq (tgt := 72) hE dX11_person_59 (by decide) (fun c_59 => ?_) (fun c_59 => absurd (by decide) c_59)
      refine x_iconst (v := -1) hE dX11_person_72 (by decide) ?_
      exact hret _ _ _ _ _ _ _ _ (-1) (Nat.le_of_ble_eq_true rfl) (Nat.le_of_ble_eq_true rfl) dX11_person_73 (rfl) (by grind [zb])
    · refine x_aload hE dX11_person_29 0 rfl ?_
      refine x_iload_n hE dX11_person_31 rfl 4 rfl ?_
      refine c_ip hE (r_V (st := []) hE (k_hasField l D cy L σ φ ρ (c) hL) q593 q594 q595 q115 q596 hL rfl ⟨by decide, by decide, pn_X0_hasField⟩ ⟨Nat.le_of_ble_eq_true rfl, Nat.le_of_ble_eq_true rfl⟩ ⟨Nat.le_of_ble_eq_true rfl, Nat.le_of_ble_eq_true rfl⟩ rfl (Nat.le_of_ble_eq_true rfl) dX11_person_32) (fun r32 h32 => ?_)
      refine x_widen (k' := 0) (n' := 0) (Nat.le_of_ble_eq_true rfl) (Nat.le_of_ble_eq_true rfl) ?_
      refine x_norm (y := 0) (h32.trans (zb_f (fun e => z_le_nlt e.1 (p00 ▸ e.2)))) ?_
      refine x_if_eq (tgt := 54) hE dX11_person_35 (by decide) (fun c_35 => ?_) (fun c_35 => absurd (by decide) c_35)
      refine x_iconst (v := 0) hE dX11_person_54 (by decide) ?_
      refine x_istore (lv' := [(6, .int 0), (5, .ref la), (0, .ref x), (1, .int a), (2, .int b), (3, .int c), (4, .int d)]) hE dX11_person_55 (by decide) rfl ?_
      refine x_iload hE dX11_person_57 0 rfl ?_
      refine x_if_eq (tgt := 72) hE dX11_person_59 (by decide) (fun c_59 => ?_) (fun c_59 => absurd (by decide) c_59)
      refine x_iconst (v := -1) hE dX11_person_72 (by decide) ?_
      exact hret _ _ _ _ _ _ _ _ (-1) (Nat.le_of_ble_eq_true rfl) (Nat.le_of_ble_eq_true rfl) dX11_person_73 (rfl) (by grind [zb])
set_option maxHeartbeats 4000000 in
set_option maxRecDepth 100000 in
theorem o_fault (l : Launch) (D : va_G) (cy : Nat → ClassId) (L : List Nat) (σ : Nat → va_E) (φ : Nat → Nat → Nat → Int32) (ρ : Nat → Nat → Int32) {x : Nat} (w : Int32) (hx : zOR cy L σ φ x) : zMI l D cy yX11_fault cX11_fault 2 .int (zrm 3 0 0) [.ref x, .int w] L σ φ ρ (fun r _ => r = -1) := by
  refine zMI.mk (by decide) (Nat.le_of_ble_eq_true rfl) (fun E hE hret => ?_)
  show zW E 0 0 L σ φ ρ 0 [(0, .ref x), (1, .int w)] []
  obtain ⟨now, kept, tape, reader, weather, planner, ways, la, wo, sp, li, te, g, la', wo', sp', li', te', g', hx, hs, hs0, hk, hk0, htp, htp0, hrd, hrd0, hrd1, hwe, hwe0, hpl, hwy⟩ := hx
  obtain ⟨hn, hla, hwo, hsp, hli, hte⟩ := id hs
  obtain ⟨p45, p46, p00, p01, p10, p50, p51, pl0, pl1, pl2, pg⟩ := id hs0
  obtain ⟨f0, f1, f2, f3, f4, f5, f6, f7, hL, hL0, hL1, hL2, hL3, hL4, hL5, hL6, hL7⟩ := id hla
  obtain ⟨w0, w1, w2, w3, w4, w5, w6, w7, hW, hW0, hW1, hW2, hW3, hW4, hW5, hW6, hW7⟩ := id hwo
  obtain ⟨s0, s1, hSp, hSp0, hSp1, hSpW⟩ := id hsp
  obtain ⟨i0, i1, i2, i3, i4, i5, i6, i7, hLi, hLi0, hLi1, hLi2, hLi3, hLi4, hLi5, hLi6, hLi7⟩ := id hli
  obtain ⟨t0, t1, t2, t3, hTp, hTp0, hTp1, hTp2, hTp3, hTn1, hTn2⟩ := id htp
  refine x_iload_n hE dX11_fault_0 rfl 1 rfl ?_
  refine x_if_ne (tgt := 12) hE dX11_fault_1 (by decide) (fun c_1 => ?_) (fun c_1 => ?_)
  · refine x_iload_n hE dX11_fault_12 rfl 1 rfl ?_
    refine x_iconst (v := 1) hE dX11_fault_13 (by decide) ?_
    refine x_icmp_ne (tgt := 27) hE dX11_fault_14 (by decide) (fun c_14 => ?_) (fun c_14 => ?_)
    · refine x_iconst (v := -1) hE dX11_fault_27 (by decide) ?_
      exact hret _ _ _ _ _ _ _ _ (-1) (Nat.le_of_ble_eq_true rfl) (Nat.le_of_ble_eq_true rfl) dX11_fault_28 (rfl) (by grind [zb])
    · refine x_aload_n hE dX11_fault_17 rfl 0 rfl ?_
      refine h_getr hE hx rfl inZX11 3 (by decide) q559 rfl dX11_fault_18 ?_
      refine h_geti hE hrd rfl inZX3 1 (by decide) q435 rfl dX11_fault_21 ?_
      refine x_norm (y := -1) (hrd1) ?_
      refine x_goto (tgt := 28) hE dX11_fault_24 (by decide) ?_
      exact hret _ _ _ _ _ _ _ _ (-1) (Nat.le_of_ble_eq_true rfl) (Nat.le_of_ble_eq_true rfl) dX11_fault_28 (rfl) (by grind [zb])
  · refine x_aload_n hE dX11_fault_4 rfl 0 rfl ?_
    refine h_getr hE hx rfl inZX11 3 (by decide) q559 rfl dX11_fault_5 ?_
    refine h_geti hE hrd rfl inZX3 0 (by decide) q433 rfl dX11_fault_8 ?_
    refine x_norm (y := -1) (hrd0) ?_
    exact hret _ _ _ _ _ _ _ _ (-1) (Nat.le_of_ble_eq_true rfl) (Nat.le_of_ble_eq_true rfl) dX11_fault_11 (rfl) (by grind [zb])
set_option maxHeartbeats 4000000 in
set_option maxRecDepth 100000 in
theorem o_by (l : Launch) (D : va_G) (cy : Nat → ClassId) (L : List Nat) (σ : Nat → va_E) (φ : Nat → Nat → Nat → Int32) (ρ : Nat → Nat → Int32) {x : Nat} (t : Int32) (hx : zOR cy L σ φ x) : zMI l D cy yX11_by cX11_by 2 .boolean (zrm 3 0 0) [.ref x, .int t] L σ φ ρ (fun r _ => r = zb (t = -1)) := by
  refine zMI.mk (by decide) (Nat.le_of_ble_eq_true rfl) (fun E hE hret => ?_)
  show zW E 0 0 L σ φ ρ 0 [(0, .ref x), (1, .int t)] []
  obtain ⟨now, kept, tape, reader, weather, planner, ways, la, wo, sp, li, te, g, la', wo', sp', li', te', g', hx, hs, hs0, hk, hk0, htp, htp0, hrd, hrd0, hrd1, hwe, hwe0, hpl, hwy⟩ := hx
  obtain ⟨hn, hla, hwo, hsp, hli, hte⟩ := id hs
  obtain ⟨p45, p46, p00, p01, p10, p50, p51, pl0, pl1, pl2, pg⟩ := id hs0
  obtain ⟨f0, f1, f2, f3, f4, f5, f6, f7, hL, hL0, hL1, hL2, hL3, hL4, hL5, hL6, hL7⟩ := id hla
  obtain ⟨w0, w1, w2, w3, w4, w5, w6, w7, hW, hW0, hW1, hW2, hW3, hW4, hW5, hW6, hW7⟩ := id hwo
  obtain ⟨s0, s1, hSp, hSp0, hSp1, hSpW⟩ := id hsp
  obtain ⟨i0, i1, i2, i3, i4, i5, i6, i7, hLi, hLi0, hLi1, hLi2, hLi3, hLi4, hLi5, hLi6, hLi7⟩ := id hli
  obtain ⟨t0, t1, t2, t3, hTp, hTp0, hTp1, hTp2, hTp3, hTn1, hTn2⟩ := id htp
  refine x_iload_n hE dX11_by_0 rfl 1 rfl ?_
  refine x_iconst (v := -1) hE dX11_by_1 (by decide) ?_
  refine x_icmp_eq (tgt := 18) hE dX11_by_2 (by decide) (fun c_2 => ?_) (fun c_2 => ?_)
  · refine x_aload_n hE dX11_by_18 rfl 0 rfl ?_
    refine h_getr hE hx rfl inZX11 0 (by decide) q556 rfl dX11_by_19 ?_
    refine x_iload_n hE dX11_by_22 rfl 1 rfl ?_
    refine h_puti (ty := .int) (ty0 := tyX4) hE hn rfl inZX4 tyX4_ok nmX4 6 (by decide) q379 rfl rfl (by decide +kernel) rfl rfl dX11_by_23 ?_
    refine x_iconst (v := 1) hE dX11_by_26 (by decide) ?_
    exact hret _ _ _ _ _ _ _ _ (1) (Nat.le_of_ble_eq_true rfl) (Nat.le_of_ble_eq_true rfl) dX11_by_27 (rfl) (by grind [zb])
  · refine x_aload_n hE dX11_by_5 rfl 0 rfl ?_
    refine h_getr hE hx rfl inZX11 0 (by decide) q556 rfl dX11_by_6 ?_
    refine x_iload_n hE dX11_by_9 rfl 1 rfl ?_
    refine c_ip hE (r_V (st := []) hE (k_hasText l D cy L σ φ ρ (t) hn p45) q938 q939 q940 q114 q941 hn rfl ⟨by decide, by decide, pn_X4_hasText⟩ ⟨Nat.le_of_ble_eq_true rfl, Nat.le_of_ble_eq_true rfl⟩ ⟨Nat.le_of_ble_eq_true rfl, Nat.le_of_ble_eq_true rfl⟩ rfl (Nat.le_of_ble_eq_true rfl) dX11_by_10) (fun r10 h_10 => ?_)
    refine x_widen (k' := 0) (n' := 0) (Nat.le_of_ble_eq_true rfl) (Nat.le_of_ble_eq_true rfl) ?_
    refine x_norm (y := 0) (h_10) ?_
    refine x_if_ne (tgt := 18) hE dX11_by_13 (by decide) (fun c_13 => absurd c_13 (fun h => h (by decide))) (fun c_13 => ?_)
    refine x_iconst (v := 0) hE dX11_by_16 (by decide) ?_
    exact hret _ _ _ _ _ _ _ _ (0) (Nat.le_of_ble_eq_true rfl) (Nat.le_of_ble_eq_true rfl) dX11_by_17 (rfl) (by grind [zb])
set_option maxHeartbeats 4000000 in
set_option maxRecDepth 100000 in
theorem o_work (l : Launch) (D : va_G) (cy : Nat → ClassId) (L : List Nat) (σ : Nat → va_E) (φ : Nat → Nat → Nat → Int32) (ρ : Nat → Nat → Int32) {x : Nat} (p : Int32) (w : Int32) (hx : zOR cy L σ φ x) : zMI l D cy yX11_work cX11_work 3 .boolean (zrm 3 0 0) [.ref x, .int p, .int w] L σ φ ρ (fun r _ => r = 0) := by
  refine zMI.mk (by decide) (Nat.le_of_ble_eq_true rfl) (fun E hE hret => ?_)
  show zW E 0 0 L σ φ ρ 0 [(0, .ref x), (1, .int p), (2, .int w)] []
  obtain ⟨now, kept, tape, reader, weather, planner, ways, la, wo, sp, li, te, g, la', wo', sp', li', te', g', hx, hs, hs0, hk, hk0, htp, htp0, hrd, hrd0, hrd1, hwe, hwe0, hpl, hwy⟩ := hx
  obtain ⟨hn, hla, hwo, hsp, hli, hte⟩ := id hs
  obtain ⟨p45, p46, p00, p01, p10, p50, p51, pl0, pl1, pl2, pg⟩ := id hs0
  obtain ⟨f0, f1, f2, f3, f4, f5, f6, f7, hL, hL0, hL1, hL2, hL3, hL4, hL5, hL6, hL7⟩ := id hla
  obtain ⟨w0, w1, w2, w3, w4, w5, w6, w7, hW, hW0, hW1, hW2, hW3, hW4, hW5, hW6, hW7⟩ := id hwo
  obtain ⟨s0, s1, hSp, hSp0, hSp1, hSpW⟩ := id hsp
  obtain ⟨i0, i1, i2, i3, i4, i5, i6, i7, hLi, hLi0, hLi1, hLi2, hLi3, hLi4, hLi5, hLi6, hLi7⟩ := id hli
  obtain ⟨t0, t1, t2, t3, hTp, hTp0, hTp1, hTp2, hTp3, hTn1, hTn2⟩ := id htp
  refine x_aload_n hE dX11_work_0 rfl 0 rfl ?_
  refine h_getr hE hx rfl inZX11 0 (by decide) q556 rfl dX11_work_1 ?_
  refine h_getr hE hn rfl inZX4 0 (by decide) q362 rfl dX11_work_4 ?_
  refine x_iload_n hE dX11_work_7 rfl 1 rfl ?_
  refine c_ip hE (r_V (st := []) hE (k_hasPerson l D cy L σ φ ρ (p) hL) q1032 q1033 q1034 q115 q1035 hL rfl ⟨by decide, by decide, pn_X0_hasPerson⟩ ⟨Nat.le_of_ble_eq_true rfl, Nat.le_of_ble_eq_true rfl⟩ ⟨Nat.le_of_ble_eq_true rfl, Nat.le_of_ble_eq_true rfl⟩ rfl (Nat.le_of_ble_eq_true rfl) dX11_work_8) (fun r8 h8 => ?_)
  refine x_widen (k' := 0) (n' := 0) (Nat.le_of_ble_eq_true rfl) (Nat.le_of_ble_eq_true rfl) ?_
  refine x_norm (y := 0) (h8.trans (zb_f (fun e => z_le_nlt e.1 (p01 ▸ e.2)))) ?_
  refine x_if_eq (tgt := 40) hE dX11_work_11 (by decide) (fun c_11 => ?_) (fun c_11 => absurd (by decide) c_11)
  refine x_iconst (v := 0) hE dX11_work_40 (by decide) ?_
  exact hret _ _ _ _ _ _ _ _ (0) (Nat.le_of_ble_eq_true rfl) (Nat.le_of_ble_eq_true rfl) dX11_work_41 (rfl) (by grind [zb])
set_option maxHeartbeats 4000000 in
set_option maxRecDepth 100000 in
theorem o_go (l : Launch) (D : va_G) (cy : Nat → ClassId) (L : List Nat) (σ : Nat → va_E) (φ : Nat → Nat → Nat → Int32) (ρ : Nat → Nat → Int32) {x : Nat} (p : Int32) (f : Int32) (hx : zOR cy L σ φ x) : zMI l D cy yX11_go cX11_go 3 .boolean (zrm 3 0 0) [.ref x, .int p, .int f] L σ φ ρ (fun r _ => r = 0) := by
  refine zMI.mk (by decide) (Nat.le_of_ble_eq_true rfl) (fun E hE hret => ?_)
  show zW E 0 0 L σ φ ρ 0 [(0, .ref x), (1, .int p), (2, .int f)] []
  obtain ⟨now, kept, tape, reader, weather, planner, ways, la, wo, sp, li, te, g, la', wo', sp', li', te', g', hx, hs, hs0, hk, hk0, htp, htp0, hrd, hrd0, hrd1, hwe, hwe0, hpl, hwy⟩ := hx
  obtain ⟨hn, hla, hwo, hsp, hli, hte⟩ := id hs
  obtain ⟨p45, p46, p00, p01, p10, p50, p51, pl0, pl1, pl2, pg⟩ := id hs0
  obtain ⟨f0, f1, f2, f3, f4, f5, f6, f7, hL, hL0, hL1, hL2, hL3, hL4, hL5, hL6, hL7⟩ := id hla
  obtain ⟨w0, w1, w2, w3, w4, w5, w6, w7, hW, hW0, hW1, hW2, hW3, hW4, hW5, hW6, hW7⟩ := id hwo
  obtain ⟨s0, s1, hSp, hSp0, hSp1, hSpW⟩ := id hsp
  obtain ⟨i0, i1, i2, i3, i4, i5, i6, i7, hLi, hLi0, hLi1, hLi2, hLi3, hLi4, hLi5, hLi6, hLi7⟩ := id hli
  obtain ⟨t0, t1, t2, t3, hTp, hTp0, hTp1, hTp2, hTp3, hTn1, hTn2⟩ := id htp
  refine x_aload_n hE dX11_go_0 rfl 0 rfl ?_
  refine h_getr hE hx rfl inZX11 0 (by decide) q556 rfl dX11_go_1 ?_
  refine x_iload_n hE dX11_go_4 rfl 1 rfl ?_
  refine x_iload_n hE dX11_go_5 rfl 2 rfl ?_
  refine c_ip hE (r_V (st := []) hE (k_canGo l D cy L σ φ ρ (p) (f) hn hL p01) q1040 q1041 q1042 q114 q1043 hn rfl ⟨by decide, by decide, pn_X4_canGo⟩ ⟨Nat.le_of_ble_eq_true rfl, Nat.le_of_ble_eq_true rfl⟩ ⟨Nat.le_of_ble_eq_true rfl, Nat.le_of_ble_eq_true rfl⟩ rfl (Nat.le_of_ble_eq_true rfl) dX11_go_6) (fun r6 h_6 => ?_)
  refine x_widen (k' := 0) (n' := 0) (Nat.le_of_ble_eq_true rfl) (Nat.le_of_ble_eq_true rfl) ?_
  refine x_norm (y := 0) (h_6) ?_
  refine x_if_ne (tgt := 14) hE dX11_go_9 (by decide) (fun c_9 => absurd c_9 (fun h => h (by decide))) (fun c_9 => ?_)
  refine x_iconst (v := 0) hE dX11_go_12 (by decide) ?_
  exact hret _ _ _ _ _ _ _ _ (0) (Nat.le_of_ble_eq_true rfl) (Nat.le_of_ble_eq_true rfl) dX11_go_13 (rfl) (by grind [zb])
set_option maxHeartbeats 4000000 in
set_option maxRecDepth 100000 in
theorem o_shake (l : Launch) (D : va_G) (cy : Nat → ClassId) (L : List Nat) (σ : Nat → va_E) (φ : Nat → Nat → Nat → Int32) (ρ : Nat → Nat → Int32) {x : Nat} (p : Int32) (q : Int32) (hx : zOR cy L σ φ x) : zMI l D cy yX11_shake cX11_shake 3 .int (zrm 3 0 0) [.ref x, .int p, .int q] L σ φ ρ (fun r _ => r = -1) := by
  refine zMI.mk (by decide) (Nat.le_of_ble_eq_true rfl) (fun E hE hret => ?_)
  show zW E 0 0 L σ φ ρ 0 [(0, .ref x), (1, .int p), (2, .int q)] []
  obtain ⟨now, kept, tape, reader, weather, planner, ways, la, wo, sp, li, te, g, la', wo', sp', li', te', g', hx, hs, hs0, hk, hk0, htp, htp0, hrd, hrd0, hrd1, hwe, hwe0, hpl, hwy⟩ := hx
  obtain ⟨hn, hla, hwo, hsp, hli, hte⟩ := id hs
  obtain ⟨p45, p46, p00, p01, p10, p50, p51, pl0, pl1, pl2, pg⟩ := id hs0
  obtain ⟨f0, f1, f2, f3, f4, f5, f6, f7, hL, hL0, hL1, hL2, hL3, hL4, hL5, hL6, hL7⟩ := id hla
  obtain ⟨w0, w1, w2, w3, w4, w5, w6, w7, hW, hW0, hW1, hW2, hW3, hW4, hW5, hW6, hW7⟩ := id hwo
  obtain ⟨s0, s1, hSp, hSp0, hSp1, hSpW⟩ := id hsp
  obtain ⟨i0, i1, i2, i3, i4, i5, i6, i7, hLi, hLi0, hLi1, hLi2, hLi3, hLi4, hLi5, hLi6, hLi7⟩ := id hli
  obtain ⟨t0, t1, t2, t3, hTp, hTp0, hTp1, hTp2, hTp3, hTn1, hTn2⟩ := id htp
  refine x_aload_n hE dX11_shake_0 rfl 0 rfl ?_
  refine h_getr hE hx rfl inZX11 0 (by decide) q556 rfl dX11_shake_1 ?_
  refine x_iload_n hE dX11_shake_4 rfl 1 rfl ?_
  refine x_iload_n hE dX11_shake_5 rfl 2 rfl ?_
  refine c_ip hE (r_V (st := []) hE (k_canMeet l D cy L σ φ ρ (p) (q) hn hL p01) q1051 q1052 q1053 q114 q1054 hn rfl ⟨by decide, by decide, pn_X4_canMeet⟩ ⟨Nat.le_of_ble_eq_true rfl, Nat.le_of_ble_eq_true rfl⟩ ⟨Nat.le_of_ble_eq_true rfl, Nat.le_of_ble_eq_true rfl⟩ rfl (Nat.le_of_ble_eq_true rfl) dX11_shake_6) (fun r6 h_6 => ?_)
  refine x_widen (k' := 0) (n' := 0) (Nat.le_of_ble_eq_true rfl) (Nat.le_of_ble_eq_true rfl) ?_
  refine x_norm (y := 0) (h_6) ?_
  refine x_if_ne (tgt := 14) hE dX11_shake_9 (by decide) (fun c_9 => absurd c_9 (fun h => h (by decide))) (fun c_9 => ?_)
  refine x_iconst (v := -1) hE dX11_shake_12 (by decide) ?_
  exact hret _ _ _ _ _ _ _ _ (-1) (Nat.le_of_ble_eq_true rfl) (Nat.le_of_ble_eq_true rfl) dX11_shake_13 (rfl) (by grind [zb])
set_option maxHeartbeats 4000000 in
set_option maxRecDepth 100000 in
theorem o_steal (l : Launch) (D : va_G) (cy : Nat → ClassId) (L : List Nat) (σ : Nat → va_E) (φ : Nat → Nat → Nat → Int32) (ρ : Nat → Nat → Int32) {x : Nat} (p : Int32) (q : Int32) (v : Int32) (hx : zOR cy L σ φ x) : zMI l D cy yX11_steal cX11_steal 4 .int (zrm 3 0 0) [.ref x, .int p, .int q, .int v] L σ φ ρ (fun r _ => r = -1) := by
  refine zMI.mk (by decide) (Nat.le_of_ble_eq_true rfl) (fun E hE hret => ?_)
  show zW E 0 0 L σ φ ρ 0 [(0, .ref x), (1, .int p), (2, .int q), (3, .int v)] []
  obtain ⟨now, kept, tape, reader, weather, planner, ways, la, wo, sp, li, te, g, la', wo', sp', li', te', g', hx, hs, hs0, hk, hk0, htp, htp0, hrd, hrd0, hrd1, hwe, hwe0, hpl, hwy⟩ := hx
  obtain ⟨hn, hla, hwo, hsp, hli, hte⟩ := id hs
  obtain ⟨p45, p46, p00, p01, p10, p50, p51, pl0, pl1, pl2, pg⟩ := id hs0
  obtain ⟨f0, f1, f2, f3, f4, f5, f6, f7, hL, hL0, hL1, hL2, hL3, hL4, hL5, hL6, hL7⟩ := id hla
  obtain ⟨w0, w1, w2, w3, w4, w5, w6, w7, hW, hW0, hW1, hW2, hW3, hW4, hW5, hW6, hW7⟩ := id hwo
  obtain ⟨s0, s1, hSp, hSp0, hSp1, hSpW⟩ := id hsp
  obtain ⟨i0, i1, i2, i3, i4, i5, i6, i7, hLi, hLi0, hLi1, hLi2, hLi3, hLi4, hLi5, hLi6, hLi7⟩ := id hli
  obtain ⟨t0, t1, t2, t3, hTp, hTp0, hTp1, hTp2, hTp3, hTn1, hTn2⟩ := id htp
  refine x_aload_n hE dX11_steal_0 rfl 0 rfl ?_
  refine h_getr hE hx rfl inZX11 0 (by decide) q556 rfl dX11_steal_1 ?_
  refine x_iload_n hE dX11_steal_4 rfl 1 rfl ?_
  refine x_iload_n hE dX11_steal_5 rfl 2 rfl ?_
  refine x_iload_n hE dX11_steal_6 rfl 3 rfl ?_
  refine c_ip hE (r_V (st := []) hE (k_canTake l D cy L σ φ ρ (p) (q) (v) hn hL p01) q1063 q1064 q1065 q114 q1066 hn rfl ⟨by decide, by decide, pn_X4_canTake⟩ ⟨Nat.le_of_ble_eq_true rfl, Nat.le_of_ble_eq_true rfl⟩ ⟨Nat.le_of_ble_eq_true rfl, Nat.le_of_ble_eq_true rfl⟩ rfl (Nat.le_of_ble_eq_true rfl) dX11_steal_7) (fun r7 h_7 => ?_)
  refine x_widen (k' := 0) (n' := 0) (Nat.le_of_ble_eq_true rfl) (Nat.le_of_ble_eq_true rfl) ?_
  refine x_norm (y := 0) (h_7) ?_
  refine x_if_ne (tgt := 15) hE dX11_steal_10 (by decide) (fun c_10 => absurd c_10 (fun h => h (by decide))) (fun c_10 => ?_)
  refine x_iconst (v := -1) hE dX11_steal_13 (by decide) ?_
  exact hret _ _ _ _ _ _ _ _ (-1) (Nat.le_of_ble_eq_true rfl) (Nat.le_of_ble_eq_true rfl) dX11_steal_14 (rfl) (by grind [zb])
set_option maxHeartbeats 4000000 in
set_option maxRecDepth 100000 in
theorem o_pour (l : Launch) (D : va_G) (cy : Nat → ClassId) (L : List Nat) (σ : Nat → va_E) (φ : Nat → Nat → Nat → Int32) (ρ : Nat → Nat → Int32) {x : Nat} (d : Int32) (f : Int32) (hx : zOR cy L σ φ x) : zMI l D cy yX11_pour cX11_pour 4 .int (zrm 3 0 0) [.ref x, .int d, .int f] L σ φ ρ (fun r _ => r = -1) := by
  refine zMI.mk (by decide) (Nat.le_of_ble_eq_true rfl) (fun E hE hret => ?_)
  show zW E 0 0 L σ φ ρ 0 [(0, .ref x), (1, .int d), (2, .int f)] []
  obtain ⟨now, kept, tape, reader, weather, planner, ways, la, wo, sp, li, te, g, la', wo', sp', li', te', g', hx, hs, hs0, hk, hk0, htp, htp0, hrd, hrd0, hrd1, hwe, hwe0, hpl, hwy⟩ := hx
  obtain ⟨hn, hla, hwo, hsp, hli, hte⟩ := id hs
  obtain ⟨p45, p46, p00, p01, p10, p50, p51, pl0, pl1, pl2, pg⟩ := id hs0
  obtain ⟨f0, f1, f2, f3, f4, f5, f6, f7, hL, hL0, hL1, hL2, hL3, hL4, hL5, hL6, hL7⟩ := id hla
  obtain ⟨w0, w1, w2, w3, w4, w5, w6, w7, hW, hW0, hW1, hW2, hW3, hW4, hW5, hW6, hW7⟩ := id hwo
  obtain ⟨s0, s1, hSp, hSp0, hSp1, hSpW⟩ := id hsp
  obtain ⟨i0, i1, i2, i3, i4, i5, i6, i7, hLi, hLi0, hLi1, hLi2, hLi3, hLi4, hLi5, hLi6, hLi7⟩ := id hli
  obtain ⟨t0, t1, t2, t3, hTp, hTp0, hTp1, hTp2, hTp3, hTn1, hTn2⟩ := id htp
  refine x_aload_n hE dX11_pour_0 rfl 0 rfl ?_
  refine h_getr hE hx rfl inZX11 0 (by decide) q556 rfl dX11_pour_1 ?_
  refine h_getr hE hn rfl inZX4 1 (by decide) q369 rfl dX11_pour_4 ?_
  refine x_astore_n (lv' := [(3, .ref wo), (0, .ref x), (1, .int d), (2, .int f)]) hE dX11_pour_7 rfl (by decide) rfl ?_
  refine x_iload_n hE dX11_pour_8 rfl 2 rfl ?_
  refine x_iconst (v := 1) hE dX11_pour_9 (by decide) ?_
  refine x_sipush (v := 999) hE dX11_pour_10 (by decide) ?_
  refine c_ip hE (r_S (st := []) hE (k_isWithin l D cy L σ φ ρ (d) (1) (999)) q582 q583 q113 q584 ⟨by decide, by decide, pn_X11_isWithin⟩ ⟨Nat.le_of_ble_eq_true rfl, Nat.le_of_ble_eq_true rfl⟩ ⟨Nat.le_of_ble_eq_true rfl, Nat.le_of_ble_eq_true rfl⟩ rfl (Nat.le_of_ble_eq_true rfl) dX11_pour_13) (fun r13 h13 => ?_)
  refine x_widen (k' := 0) (n' := 0) (Nat.le_of_ble_eq_true rfl) (Nat.le_of_ble_eq_true rfl) ?_
  refine x_if_eq (tgt := 41) hE dX11_pour_16 (by decide) (fun c_16 => ?_) (fun c_16 => ?_)
  · refine x_iconst (v := -1) hE dX11_pour_41 (by decide) ?_
    exact hret _ _ _ _ _ _ _ _ (-1) (Nat.le_of_ble_eq_true rfl) (Nat.le_of_ble_eq_true rfl) dX11_pour_42 (rfl) (by grind [zb])
  · refine x_iload_n hE dX11_pour_19 rfl 2 rfl ?_
    refine x_aload_n hE dX11_pour_20 rfl 0 rfl ?_
    refine h_geti hE hW rfl inZX10 6 (by decide) q240 rfl dX11_pour_21 ?_
    refine x_norm (y := 0) (by simpa using p10 6) ?_
    refine x_icmp_gt (tgt := 41) hE dX11_pour_24 (by decide) (fun c_24 => ?_) (fun c_24 => ?_)
    · refine x_iconst (v := -1) hE dX11_pour_41 (by decide) ?_
      exact hret _ _ _ _ _ _ _ _ (-1) (Nat.le_of_ble_eq_true rfl) (Nat.le_of_ble_eq_true rfl) dX11_pour_42 (rfl) (by grind [zb])
    · refine x_aload_n hE dX11_pour_27 rfl 1 rfl ?_
      refine h_getr hE hx rfl inZX11 0 (by decide) q556 rfl dX11_pour_28 ?_
      refine h_getr hE hn rfl inZX4 0 (by decide) q362 rfl dX11_pour_31 ?_
      refine x_iload_n hE dX11_pour_34 rfl 3 rfl ?_
      refine c_ip hE (r_V (st := []) hE (k_hasField l D cy L σ φ ρ (f) hL) q593 q594 q595 q115 q596 hL rfl ⟨by decide, by decide, pn_X0_hasField⟩ ⟨Nat.le_of_ble_eq_true rfl, Nat.le_of_ble_eq_true rfl⟩ ⟨Nat.le_of_ble_eq_true rfl, Nat.le_of_ble_eq_true rfl⟩ rfl (Nat.le_of_ble_eq_true rfl) dX11_pour_35) (fun r35 h35 => ?_)
      refine x_widen (k' := 0) (n' := 0) (Nat.le_of_ble_eq_true rfl) (Nat.le_of_ble_eq_true rfl) ?_
      refine x_norm (y := 0) (h35.trans (zb_f (fun e => z_le_nlt e.1 (p00 ▸ e.2)))) ?_
      refine x_if_ne (tgt := 43) hE dX11_pour_38 (by decide) (fun c_38 => absurd c_38 (fun h => h (by decide))) (fun c_38 => ?_)
      refine x_iconst (v := -1) hE dX11_pour_41 (by decide) ?_
      exact hret _ _ _ _ _ _ _ _ (-1) (Nat.le_of_ble_eq_true rfl) (Nat.le_of_ble_eq_true rfl) dX11_pour_42 (rfl) (by grind [zb])
set_option maxHeartbeats 4000000 in
set_option maxRecDepth 100000 in
theorem o_played (l : Launch) (D : va_G) (cy : Nat → ClassId) (L : List Nat) (σ : Nat → va_E) (φ : Nat → Nat → Nat → Int32) (ρ : Nat → Nat → Int32) {x : Nat} (t : Int32) (hx : zOR cy L σ φ x) : zMI l D cy yX11_played cX11_played 4 .int (zrm 3 0 0) [.ref x, .int t] L σ φ ρ (fun r _ => r = -2) := by
  refine zMI.mk (by decide) (Nat.le_of_ble_eq_true rfl) (fun E hE hret => ?_)
  show zW E 0 0 L σ φ ρ 0 [(0, .ref x), (1, .int t)] []
  obtain ⟨now, kept, tape, reader, weather, planner, ways, la, wo, sp, li, te, g, la', wo', sp', li', te', g', hx, hs, hs0, hk, hk0, htp, htp0, hrd, hrd0, hrd1, hwe, hwe0, hpl, hwy⟩ := hx
  obtain ⟨hn, hla, hwo, hsp, hli, hte⟩ := id hs
  obtain ⟨p45, p46, p00, p01, p10, p50, p51, pl0, pl1, pl2, pg⟩ := id hs0
  obtain ⟨f0, f1, f2, f3, f4, f5, f6, f7, hL, hL0, hL1, hL2, hL3, hL4, hL5, hL6, hL7⟩ := id hla
  obtain ⟨w0, w1, w2, w3, w4, w5, w6, w7, hW, hW0, hW1, hW2, hW3, hW4, hW5, hW6, hW7⟩ := id hwo
  obtain ⟨s0, s1, hSp, hSp0, hSp1, hSpW⟩ := id hsp
  obtain ⟨i0, i1, i2, i3, i4, i5, i6, i7, hLi, hLi0, hLi1, hLi2, hLi3, hLi4, hLi5, hLi6, hLi7⟩ := id hli
  obtain ⟨t0, t1, t2, t3, hTp, hTp0, hTp1, hTp2, hTp3, hTn1, hTn2⟩ := id htp
  refine x_aload_n hE dX11_played_0 rfl 0 rfl ?_
  refine h_getr hE hx rfl inZX11 0 (by decide) q556 rfl dX11_played_1 ?_
  refine x_iload_n hE dX11_played_4 rfl 1 rfl ?_
  refine c_ip hE (r_V (st := []) hE (k_hasText l D cy L σ φ ρ (t) hn p45) q938 q939 q940 q114 q941 hn rfl ⟨by decide, by decide, pn_X4_hasText⟩ ⟨Nat.le_of_ble_eq_true rfl, Nat.le_of_ble_eq_true rfl⟩ ⟨Nat.le_of_ble_eq_true rfl, Nat.le_of_ble_eq_true rfl⟩ rfl (Nat.le_of_ble_eq_true rfl) dX11_played_5) (fun r5 h_5 => ?_)
  refine x_widen (k' := 0) (n' := 0) (Nat.le_of_ble_eq_true rfl) (Nat.le_of_ble_eq_true rfl) ?_
  refine x_norm (y := 0) (h_5) ?_
  refine x_if_ne (tgt := 14) hE dX11_played_8 (by decide) (fun c_8 => absurd c_8 (fun h => h (by decide))) (fun c_8 => ?_)
  refine x_bipush (v := -2) hE dX11_played_11 (by decide) ?_
  exact hret _ _ _ _ _ _ _ _ (-2) (Nat.le_of_ble_eq_true rfl) (Nat.le_of_ble_eq_true rfl) dX11_played_13 (rfl) (by grind [zb])
set_option maxHeartbeats 4000000 in
set_option maxRecDepth 100000 in
theorem o_year (l : Launch) (D : va_G) (cy : Nat → ClassId) (L : List Nat) (σ : Nat → va_E) (φ : Nat → Nat → Nat → Int32) (ρ : Nat → Nat → Int32) {x : Nat} (s : Int32) (n : Int32) (hx : zOR cy L σ φ x) : zMI l D cy yX11_year cX11_year 5 .int (zrm 3 0 0) [.ref x, .int s, .int n] L σ φ ρ (fun r _ => r = -1) := by
  refine zMI.mk (by decide) (Nat.le_of_ble_eq_true rfl) (fun E hE hret => ?_)
  show zW E 0 0 L σ φ ρ 0 [(0, .ref x), (1, .int s), (2, .int n)] []
  obtain ⟨now, kept, tape, reader, weather, planner, ways, la, wo, sp, li, te, g, la', wo', sp', li', te', g', hx, hs, hs0, hk, hk0, htp, htp0, hrd, hrd0, hrd1, hwe, hwe0, hpl, hwy⟩ := hx
  obtain ⟨hn, hla, hwo, hsp, hli, hte⟩ := id hs
  obtain ⟨p45, p46, p00, p01, p10, p50, p51, pl0, pl1, pl2, pg⟩ := id hs0
  obtain ⟨f0, f1, f2, f3, f4, f5, f6, f7, hL, hL0, hL1, hL2, hL3, hL4, hL5, hL6, hL7⟩ := id hla
  obtain ⟨w0, w1, w2, w3, w4, w5, w6, w7, hW, hW0, hW1, hW2, hW3, hW4, hW5, hW6, hW7⟩ := id hwo
  obtain ⟨s0, s1, hSp, hSp0, hSp1, hSpW⟩ := id hsp
  obtain ⟨i0, i1, i2, i3, i4, i5, i6, i7, hLi, hLi0, hLi1, hLi2, hLi3, hLi4, hLi5, hLi6, hLi7⟩ := id hli
  obtain ⟨t0, t1, t2, t3, hTp, hTp0, hTp1, hTp2, hTp3, hTn1, hTn2⟩ := id htp
  refine x_iload_n hE dX11_year_0 rfl 1 rfl ?_
  refine x_iconst (v := 0) hE dX11_year_1 (by decide) ?_
  refine x_sipush (v := 9999) hE dX11_year_2 (by decide) ?_
  refine c_ip hE (r_S (st := []) hE (k_isWithin l D cy L σ φ ρ (s) (0) (9999)) q582 q583 q113 q584 ⟨by decide, by decide, pn_X11_isWithin⟩ ⟨Nat.le_of_ble_eq_true rfl, Nat.le_of_ble_eq_true rfl⟩ ⟨Nat.le_of_ble_eq_true rfl, Nat.le_of_ble_eq_true rfl⟩ rfl (Nat.le_of_ble_eq_true rfl) dX11_year_5) (fun r5 h5 => ?_)
  refine x_widen (k' := 0) (n' := 0) (Nat.le_of_ble_eq_true rfl) (Nat.le_of_ble_eq_true rfl) ?_
  refine x_if_eq (tgt := 35) hE dX11_year_8 (by decide) (fun c_8 => ?_) (fun c_8 => ?_)
  · refine x_iconst (v := -1) hE dX11_year_35 (by decide) ?_
    exact hret _ _ _ _ _ _ _ _ (-1) (Nat.le_of_ble_eq_true rfl) (Nat.le_of_ble_eq_true rfl) dX11_year_36 (rfl) (by grind [zb])
  · refine x_iload_n hE dX11_year_11 rfl 2 rfl ?_
    refine x_iconst (v := 1) hE dX11_year_12 (by decide) ?_
    refine x_bipush (v := 30) hE dX11_year_13 (by decide) ?_
    refine c_ip hE (r_S (st := []) hE (k_isWithin l D cy L σ φ ρ (n) (1) (30)) q582 q583 q113 q584 ⟨by decide, by decide, pn_X11_isWithin⟩ ⟨Nat.le_of_ble_eq_true rfl, Nat.le_of_ble_eq_true rfl⟩ ⟨Nat.le_of_ble_eq_true rfl, Nat.le_of_ble_eq_true rfl⟩ rfl (Nat.le_of_ble_eq_true rfl) dX11_year_15) (fun r15 h15 => ?_)
    refine x_widen (k' := 0) (n' := 0) (Nat.le_of_ble_eq_true rfl) (Nat.le_of_ble_eq_true rfl) ?_
    refine x_if_eq (tgt := 35) hE dX11_year_18 (by decide) (fun c_18 => ?_) (fun c_18 => ?_)
    · refine x_iconst (v := -1) hE dX11_year_35 (by decide) ?_
      exact hret _ _ _ _ _ _ _ _ (-1) (Nat.le_of_ble_eq_true rfl) (Nat.le_of_ble_eq_true rfl) dX11_year_36 (rfl) (by grind [zb])
    · refine x_aload_n hE dX11_year_21 rfl 0 rfl ?_
      refine h_getr hE hx rfl inZX11 0 (by decide) q556 rfl dX11_year_22 ?_
      refine h_getr hE hn rfl inZX4 0 (by decide) q362 rfl dX11_year_25 ?_
      refine h_geti hE hL rfl inZX0 1 (by decide) q161 rfl dX11_year_28 ?_
      refine x_norm (y := 0) (p01) ?_
      refine x_iconst (v := 1) hE dX11_year_31 (by decide) ?_
      refine x_icmp_ge (tgt := 37) hE dX11_year_32 (by decide) (fun c_32 => absurd c_32 (by decide)) (fun c_32 => ?_)
      refine x_iconst (v := -1) hE dX11_year_35 (by decide) ?_
      exact hret _ _ _ _ _ _ _ _ (-1) (Nat.le_of_ble_eq_true rfl) (Nat.le_of_ble_eq_true rfl) dX11_year_36 (rfl) (by grind [zb])
set_option maxHeartbeats 4000000 in
set_option maxRecDepth 100000 in
theorem o_undo (l : Launch) (D : va_G) (cy : Nat → ClassId) (L : List Nat) (σ : Nat → va_E) (φ : Nat → Nat → Nat → Int32) (ρ : Nat → Nat → Int32) {x : Nat}  (hx : zOR cy L σ φ x) : zMI l D cy yX11_undo cX11_undo 1 .int (zrm 3 0 0) [.ref x] L σ φ ρ (fun r _ => r = -1) := by
  refine zMI.mk (by decide) (Nat.le_of_ble_eq_true rfl) (fun E hE hret => ?_)
  show zW E 0 0 L σ φ ρ 0 [(0, .ref x)] []
  obtain ⟨now, kept, tape, reader, weather, planner, ways, la, wo, sp, li, te, g, la', wo', sp', li', te', g', hx, hs, hs0, hk, hk0, htp, htp0, hrd, hrd0, hrd1, hwe, hwe0, hpl, hwy⟩ := hx
  obtain ⟨hn, hla, hwo, hsp, hli, hte⟩ := id hs
  obtain ⟨p45, p46, p00, p01, p10, p50, p51, pl0, pl1, pl2, pg⟩ := id hs0
  obtain ⟨f0, f1, f2, f3, f4, f5, f6, f7, hL, hL0, hL1, hL2, hL3, hL4, hL5, hL6, hL7⟩ := id hla
  obtain ⟨w0, w1, w2, w3, w4, w5, w6, w7, hW, hW0, hW1, hW2, hW3, hW4, hW5, hW6, hW7⟩ := id hwo
  obtain ⟨s0, s1, hSp, hSp0, hSp1, hSpW⟩ := id hsp
  obtain ⟨i0, i1, i2, i3, i4, i5, i6, i7, hLi, hLi0, hLi1, hLi2, hLi3, hLi4, hLi5, hLi6, hLi7⟩ := id hli
  obtain ⟨t0, t1, t2, t3, hTp, hTp0, hTp1, hTp2, hTp3, hTn1, hTn2⟩ := id htp
  refine x_aload_n hE dX11_undo_0 rfl 0 rfl ?_
  refine h_getr hE hx rfl inZX11 0 (by decide) q556 rfl dX11_undo_1 ?_
  refine c_i hE (r_V (st := []) hE (k_takeBack l D cy L σ φ ρ hn hSp p50) q1110 q1111 q1112 q114 q1113 hn rfl ⟨by decide, by decide, pn_X4_takeBack⟩ ⟨Nat.le_of_ble_eq_true rfl, Nat.le_of_ble_eq_true rfl⟩ ⟨Nat.le_of_ble_eq_true rfl, Nat.le_of_ble_eq_true rfl⟩ rfl (Nat.le_of_ble_eq_true rfl) dX11_undo_4) (fun rt L' σ' φ' ρ' ht => ?_)
  refine x_widen (k' := 0) (n' := 0) (Nat.le_of_ble_eq_true rfl) (Nat.le_of_ble_eq_true rfl) ?_
  exact hret _ _ _ _ _ _ _ _ (rt) (Nat.le_of_ble_eq_true rfl) (Nat.le_of_ble_eq_true rfl) dX11_undo_7 (rfl) (by grind [zb])
set_option maxHeartbeats 4000000 in
set_option maxRecDepth 100000 in
theorem o_ofField (l : Launch) (D : va_G) (cy : Nat → ClassId) (L : List Nat) (σ : Nat → va_E) (φ : Nat → Nat → Nat → Int32) (ρ : Nat → Nat → Int32) {x : Nat} (f : Int32) (w : Int32) (hx : zOR cy L σ φ x) : zMI l D cy yX11_ofField cX11_ofField 5 .int (zrm 3 0 0) [.ref x, .int f, .int w] L σ φ ρ (fun r _ => r = -1) := by
  refine zMI.mk (by decide) (Nat.le_of_ble_eq_true rfl) (fun E hE hret => ?_)
  show zW E 0 0 L σ φ ρ 0 [(0, .ref x), (1, .int f), (2, .int w)] []
  obtain ⟨now, kept, tape, reader, weather, planner, ways, la, wo, sp, li, te, g, la', wo', sp', li', te', g', hx, hs, hs0, hk, hk0, htp, htp0, hrd, hrd0, hrd1, hwe, hwe0, hpl, hwy⟩ := hx
  obtain ⟨hn, hla, hwo, hsp, hli, hte⟩ := id hs
  obtain ⟨p45, p46, p00, p01, p10, p50, p51, pl0, pl1, pl2, pg⟩ := id hs0
  obtain ⟨f0, f1, f2, f3, f4, f5, f6, f7, hL, hL0, hL1, hL2, hL3, hL4, hL5, hL6, hL7⟩ := id hla
  obtain ⟨w0, w1, w2, w3, w4, w5, w6, w7, hW, hW0, hW1, hW2, hW3, hW4, hW5, hW6, hW7⟩ := id hwo
  obtain ⟨s0, s1, hSp, hSp0, hSp1, hSpW⟩ := id hsp
  obtain ⟨i0, i1, i2, i3, i4, i5, i6, i7, hLi, hLi0, hLi1, hLi2, hLi3, hLi4, hLi5, hLi6, hLi7⟩ := id hli
  obtain ⟨t0, t1, t2, t3, hTp, hTp0, hTp1, hTp2, hTp3, hTn1, hTn2⟩ := id htp
  refine x_aload_n hE dX11_ofField_0 rfl 0 rfl ?_
  refine h_getr hE hx rfl inZX11 0 (by decide) q556 rfl dX11_ofField_1 ?_
  refine h_getr hE hn rfl inZX4 0 (by decide) q362 rfl dX11_ofField_4 ?_
  refine x_astore_n (lv' := [(3, .ref la), (0, .ref x), (1, .int f), (2, .int w)]) hE dX11_ofField_7 rfl (by decide) rfl ?_
  refine x_aload_n hE dX11_ofField_8 rfl 1 rfl ?_
  refine h_getr hE hx rfl inZX11 0 (by decide) q556 rfl dX11_ofField_9 ?_
  refine h_getr hE hn rfl inZX4 1 (by decide) q369 rfl dX11_ofField_12 ?_
  refine x_astore (lv' := [(4, .ref wo), (3, .ref la), (0, .ref x), (1, .int f), (2, .int w)]) hE dX11_ofField_15 (by decide) rfl ?_
  refine x_aload_n hE dX11_ofField_17 rfl 1 rfl ?_
  refine x_iload_n hE dX11_ofField_18 rfl 3 rfl ?_
  refine c_ip hE (r_V (st := []) hE (k_hasField l D cy L σ φ ρ (f) hL) q593 q594 q595 q115 q596 hL rfl ⟨by decide, by decide, pn_X0_hasField⟩ ⟨Nat.le_of_ble_eq_true rfl, Nat.le_of_ble_eq_true rfl⟩ ⟨Nat.le_of_ble_eq_true rfl, Nat.le_of_ble_eq_true rfl⟩ rfl (Nat.le_of_ble_eq_true rfl) dX11_ofField_19) (fun r19 h19 => ?_)
  refine x_widen (k' := 0) (n' := 0) (Nat.le_of_ble_eq_true rfl) (Nat.le_of_ble_eq_true rfl) ?_
  refine x_norm (y := 0) (h19.trans (zb_f (fun e => z_le_nlt e.1 (p00 ▸ e.2)))) ?_
  refine x_if_ne (tgt := 27) hE dX11_ofField_22 (by decide) (fun c_22 => absurd c_22 (fun h => h (by decide))) (fun c_22 => ?_)
  refine x_iconst (v := -1) hE dX11_ofField_25 (by decide) ?_
  exact hret _ _ _ _ _ _ _ _ (-1) (Nat.le_of_ble_eq_true rfl) (Nat.le_of_ble_eq_true rfl) dX11_ofField_26 (rfl) (by grind [zb])
set_option maxHeartbeats 4000000 in
set_option maxRecDepth 100000 in
theorem o_ofPerson (l : Launch) (D : va_G) (cy : Nat → ClassId) (L : List Nat) (σ : Nat → va_E) (φ : Nat → Nat → Nat → Int32) (ρ : Nat → Nat → Int32) {x : Nat} (p : Int32) (w : Int32) (hx : zOR cy L σ φ x) : zMI l D cy yX11_ofPerson cX11_ofPerson 5 .int (zrm 3 0 0) [.ref x, .int p, .int w] L σ φ ρ (fun r _ => r = -2) := by
  refine zMI.mk (by decide) (Nat.le_of_ble_eq_true rfl) (fun E hE hret => ?_)
  show zW E 0 0 L σ φ ρ 0 [(0, .ref x), (1, .int p), (2, .int w)] []
  obtain ⟨now, kept, tape, reader, weather, planner, ways, la, wo, sp, li, te, g, la', wo', sp', li', te', g', hx, hs, hs0, hk, hk0, htp, htp0, hrd, hrd0, hrd1, hwe, hwe0, hpl, hwy⟩ := hx
  obtain ⟨hn, hla, hwo, hsp, hli, hte⟩ := id hs
  obtain ⟨p45, p46, p00, p01, p10, p50, p51, pl0, pl1, pl2, pg⟩ := id hs0
  obtain ⟨f0, f1, f2, f3, f4, f5, f6, f7, hL, hL0, hL1, hL2, hL3, hL4, hL5, hL6, hL7⟩ := id hla
  obtain ⟨w0, w1, w2, w3, w4, w5, w6, w7, hW, hW0, hW1, hW2, hW3, hW4, hW5, hW6, hW7⟩ := id hwo
  obtain ⟨s0, s1, hSp, hSp0, hSp1, hSpW⟩ := id hsp
  obtain ⟨i0, i1, i2, i3, i4, i5, i6, i7, hLi, hLi0, hLi1, hLi2, hLi3, hLi4, hLi5, hLi6, hLi7⟩ := id hli
  obtain ⟨t0, t1, t2, t3, hTp, hTp0, hTp1, hTp2, hTp3, hTn1, hTn2⟩ := id htp
  refine x_aload_n hE dX11_ofPerson_0 rfl 0 rfl ?_
  refine h_getr hE hx rfl inZX11 0 (by decide) q556 rfl dX11_ofPerson_1 ?_
  refine h_getr hE hn rfl inZX4 0 (by decide) q362 rfl dX11_ofPerson_4 ?_
  refine x_astore_n (lv' := [(3, .ref la), (0, .ref x), (1, .int p), (2, .int w)]) hE dX11_ofPerson_7 rfl (by decide) rfl ?_
  refine x_aload_n hE dX11_ofPerson_8 rfl 1 rfl ?_
  refine h_getr hE hx rfl inZX11 0 (by decide) q556 rfl dX11_ofPerson_9 ?_
  refine h_getr hE hn rfl inZX4 1 (by decide) q369 rfl dX11_ofPerson_12 ?_
  refine x_astore (lv' := [(4, .ref wo), (3, .ref la), (0, .ref x), (1, .int p), (2, .int w)]) hE dX11_ofPerson_15 (by decide) rfl ?_
  refine x_aload_n hE dX11_ofPerson_17 rfl 1 rfl ?_
  refine x_iload_n hE dX11_ofPerson_18 rfl 3 rfl ?_
  refine c_ip hE (r_V (st := []) hE (k_hasPerson l D cy L σ φ ρ (p) hL) q1032 q1033 q1034 q115 q1035 hL rfl ⟨by decide, by decide, pn_X0_hasPerson⟩ ⟨Nat.le_of_ble_eq_true rfl, Nat.le_of_ble_eq_true rfl⟩ ⟨Nat.le_of_ble_eq_true rfl, Nat.le_of_ble_eq_true rfl⟩ rfl (Nat.le_of_ble_eq_true rfl) dX11_ofPerson_19) (fun r19 h19 => ?_)
  refine x_widen (k' := 0) (n' := 0) (Nat.le_of_ble_eq_true rfl) (Nat.le_of_ble_eq_true rfl) ?_
  refine x_norm (y := 0) (h19.trans (zb_f (fun e => z_le_nlt e.1 (p01 ▸ e.2)))) ?_
  refine x_if_ne (tgt := 28) hE dX11_ofPerson_22 (by decide) (fun c_22 => absurd c_22 (fun h => h (by decide))) (fun c_22 => ?_)
  refine x_bipush (v := -2) hE dX11_ofPerson_25 (by decide) ?_
  exact hret _ _ _ _ _ _ _ _ (-2) (Nat.le_of_ble_eq_true rfl) (Nat.le_of_ble_eq_true rfl) dX11_ofPerson_27 (rfl) (by grind [zb])
set_option maxHeartbeats 4000000 in
set_option maxRecDepth 100000 in
theorem o_foretoldWet (l : Launch) (D : va_G) (cy : Nat → ClassId) (L : List Nat) (σ : Nat → va_E) (φ : Nat → Nat → Nat → Int32) (ρ : Nat → Nat → Int32) {x : Nat} (n : Int32) (f : Int32) (hx : zOR cy L σ φ x) : zMI l D cy yX11_foretoldWet cX11_foretoldWet 3 .int (zrm 3 0 0) [.ref x, .int n, .int f] L σ φ ρ (fun r _ => r = -1) := by
  refine zMI.mk (by decide) (Nat.le_of_ble_eq_true rfl) (fun E hE hret => ?_)
  show zW E 0 0 L σ φ ρ 0 [(0, .ref x), (1, .int n), (2, .int f)] []
  obtain ⟨now, kept, tape, reader, weather, planner, ways, la, wo, sp, li, te, g, la', wo', sp', li', te', g', hx, hs, hs0, hk, hk0, htp, htp0, hrd, hrd0, hrd1, hwe, hwe0, hpl, hwy⟩ := hx
  obtain ⟨hn, hla, hwo, hsp, hli, hte⟩ := id hs
  obtain ⟨p45, p46, p00, p01, p10, p50, p51, pl0, pl1, pl2, pg⟩ := id hs0
  obtain ⟨f0, f1, f2, f3, f4, f5, f6, f7, hL, hL0, hL1, hL2, hL3, hL4, hL5, hL6, hL7⟩ := id hla
  obtain ⟨w0, w1, w2, w3, w4, w5, w6, w7, hW, hW0, hW1, hW2, hW3, hW4, hW5, hW6, hW7⟩ := id hwo
  obtain ⟨s0, s1, hSp, hSp0, hSp1, hSpW⟩ := id hsp
  obtain ⟨i0, i1, i2, i3, i4, i5, i6, i7, hLi, hLi0, hLi1, hLi2, hLi3, hLi4, hLi5, hLi6, hLi7⟩ := id hli
  obtain ⟨t0, t1, t2, t3, hTp, hTp0, hTp1, hTp2, hTp3, hTn1, hTn2⟩ := id htp
  refine x_iload_n hE dX11_foretoldWet_0 rfl 1 rfl ?_
  refine x_iconst (v := 1) hE dX11_foretoldWet_1 (by decide) ?_
  refine x_bipush (v := 30) hE dX11_foretoldWet_2 (by decide) ?_
  refine c_ip hE (r_S (st := []) hE (k_isWithin l D cy L σ φ ρ (n) (1) (30)) q582 q583 q113 q584 ⟨by decide, by decide, pn_X11_isWithin⟩ ⟨Nat.le_of_ble_eq_true rfl, Nat.le_of_ble_eq_true rfl⟩ ⟨Nat.le_of_ble_eq_true rfl, Nat.le_of_ble_eq_true rfl⟩ rfl (Nat.le_of_ble_eq_true rfl) dX11_foretoldWet_4) (fun r4 h4 => ?_)
  refine x_widen (k' := 0) (n' := 0) (Nat.le_of_ble_eq_true rfl) (Nat.le_of_ble_eq_true rfl) ?_
  refine x_if_eq (tgt := 24) hE dX11_foretoldWet_7 (by decide) (fun c_7 => ?_) (fun c_7 => ?_)
  · refine x_iconst (v := -1) hE dX11_foretoldWet_24 (by decide) ?_
    exact hret _ _ _ _ _ _ _ _ (-1) (Nat.le_of_ble_eq_true rfl) (Nat.le_of_ble_eq_true rfl) dX11_foretoldWet_25 (rfl) (by grind [zb])
  · refine x_aload_n hE dX11_foretoldWet_10 rfl 0 rfl ?_
    refine h_getr hE hx rfl inZX11 0 (by decide) q556 rfl dX11_foretoldWet_11 ?_
    refine h_getr hE hn rfl inZX4 0 (by decide) q362 rfl dX11_foretoldWet_14 ?_
    refine x_iload_n hE dX11_foretoldWet_17 rfl 2 rfl ?_
    refine c_ip hE (r_V (st := []) hE (k_hasField l D cy L σ φ ρ (f) hL) q593 q594 q595 q115 q596 hL rfl ⟨by decide, by decide, pn_X0_hasField⟩ ⟨Nat.le_of_ble_eq_true rfl, Nat.le_of_ble_eq_true rfl⟩ ⟨Nat.le_of_ble_eq_true rfl, Nat.le_of_ble_eq_true rfl⟩ rfl (Nat.le_of_ble_eq_true rfl) dX11_foretoldWet_18) (fun r18 h18 => ?_)
    refine x_widen (k' := 0) (n' := 0) (Nat.le_of_ble_eq_true rfl) (Nat.le_of_ble_eq_true rfl) ?_
    refine x_norm (y := 0) (h18.trans (zb_f (fun e => z_le_nlt e.1 (p00 ▸ e.2)))) ?_
    refine x_if_ne (tgt := 26) hE dX11_foretoldWet_21 (by decide) (fun c_21 => absurd c_21 (fun h => h (by decide))) (fun c_21 => ?_)
    refine x_iconst (v := -1) hE dX11_foretoldWet_24 (by decide) ?_
    exact hret _ _ _ _ _ _ _ _ (-1) (Nat.le_of_ble_eq_true rfl) (Nat.le_of_ble_eq_true rfl) dX11_foretoldWet_25 (rfl) (by grind [zb])
set_option maxHeartbeats 4000000 in
set_option maxRecDepth 100000 in
theorem o_foretoldCloud (l : Launch) (D : va_G) (cy : Nat → ClassId) (L : List Nat) (σ : Nat → va_E) (φ : Nat → Nat → Nat → Int32) (ρ : Nat → Nat → Int32) {x : Nat} (n : Int32) (p : Int32) (b : Int32) (hx : zOR cy L σ φ x) : zMI l D cy yX11_foretoldCloud cX11_foretoldCloud 4 .int (zrm 3 0 0) [.ref x, .int n, .int p, .int b] L σ φ ρ (fun r _ => r = -1) := by
  refine zMI.mk (by decide) (Nat.le_of_ble_eq_true rfl) (fun E hE hret => ?_)
  show zW E 0 0 L σ φ ρ 0 [(0, .ref x), (1, .int n), (2, .int p), (3, .int b)] []
  obtain ⟨now, kept, tape, reader, weather, planner, ways, la, wo, sp, li, te, g, la', wo', sp', li', te', g', hx, hs, hs0, hk, hk0, htp, htp0, hrd, hrd0, hrd1, hwe, hwe0, hpl, hwy⟩ := hx
  obtain ⟨hn, hla, hwo, hsp, hli, hte⟩ := id hs
  obtain ⟨p45, p46, p00, p01, p10, p50, p51, pl0, pl1, pl2, pg⟩ := id hs0
  obtain ⟨f0, f1, f2, f3, f4, f5, f6, f7, hL, hL0, hL1, hL2, hL3, hL4, hL5, hL6, hL7⟩ := id hla
  obtain ⟨w0, w1, w2, w3, w4, w5, w6, w7, hW, hW0, hW1, hW2, hW3, hW4, hW5, hW6, hW7⟩ := id hwo
  obtain ⟨s0, s1, hSp, hSp0, hSp1, hSpW⟩ := id hsp
  obtain ⟨i0, i1, i2, i3, i4, i5, i6, i7, hLi, hLi0, hLi1, hLi2, hLi3, hLi4, hLi5, hLi6, hLi7⟩ := id hli
  obtain ⟨t0, t1, t2, t3, hTp, hTp0, hTp1, hTp2, hTp3, hTn1, hTn2⟩ := id htp
  refine x_iload_n hE dX11_foretoldCloud_0 rfl 1 rfl ?_
  refine x_iconst (v := 1) hE dX11_foretoldCloud_1 (by decide) ?_
  refine x_bipush (v := 30) hE dX11_foretoldCloud_2 (by decide) ?_
  refine c_ip hE (r_S (st := []) hE (k_isWithin l D cy L σ φ ρ (n) (1) (30)) q582 q583 q113 q584 ⟨by decide, by decide, pn_X11_isWithin⟩ ⟨Nat.le_of_ble_eq_true rfl, Nat.le_of_ble_eq_true rfl⟩ ⟨Nat.le_of_ble_eq_true rfl, Nat.le_of_ble_eq_true rfl⟩ rfl (Nat.le_of_ble_eq_true rfl) dX11_foretoldCloud_4) (fun r4 h4 => ?_)
  refine x_widen (k' := 0) (n' := 0) (Nat.le_of_ble_eq_true rfl) (Nat.le_of_ble_eq_true rfl) ?_
  refine x_if_eq (tgt := 24) hE dX11_foretoldCloud_7 (by decide) (fun c_7 => ?_) (fun c_7 => ?_)
  · refine x_iconst (v := -1) hE dX11_foretoldCloud_24 (by decide) ?_
    exact hret _ _ _ _ _ _ _ _ (-1) (Nat.le_of_ble_eq_true rfl) (Nat.le_of_ble_eq_true rfl) dX11_foretoldCloud_25 (rfl) (by grind [zb])
  · refine x_aload_n hE dX11_foretoldCloud_10 rfl 0 rfl ?_
    refine h_getr hE hx rfl inZX11 0 (by decide) q556 rfl dX11_foretoldCloud_11 ?_
    refine h_getr hE hn rfl inZX4 0 (by decide) q362 rfl dX11_foretoldCloud_14 ?_
    refine x_iload_n hE dX11_foretoldCloud_17 rfl 2 rfl ?_
    refine c_ip hE (r_V (st := []) hE (k_hasPerson l D cy L σ φ ρ (p) hL) q1032 q1033 q1034 q115 q1035 hL rfl ⟨by decide, by decide, pn_X0_hasPerson⟩ ⟨Nat.le_of_ble_eq_true rfl, Nat.le_of_ble_eq_true rfl⟩ ⟨Nat.le_of_ble_eq_true rfl, Nat.le_of_ble_eq_true rfl⟩ rfl (Nat.le_of_ble_eq_true rfl) dX11_foretoldCloud_18) (fun r18 h18 => ?_)
    refine x_widen (k' := 0) (n' := 0) (Nat.le_of_ble_eq_true rfl) (Nat.le_of_ble_eq_true rfl) ?_
    refine x_norm (y := 0) (h18.trans (zb_f (fun e => z_le_nlt e.1 (p01 ▸ e.2)))) ?_
    refine x_if_ne (tgt := 26) hE dX11_foretoldCloud_21 (by decide) (fun c_21 => absurd c_21 (fun h => h (by decide))) (fun c_21 => ?_)
    refine x_iconst (v := -1) hE dX11_foretoldCloud_24 (by decide) ?_
    exact hret _ _ _ _ _ _ _ _ (-1) (Nat.le_of_ble_eq_true rfl) (Nat.le_of_ble_eq_true rfl) dX11_foretoldCloud_25 (rfl) (by grind [zb])
set_option maxHeartbeats 4000000 in
set_option maxRecDepth 100000 in
theorem o_plan (l : Launch) (D : va_G) (cy : Nat → ClassId) (L : List Nat) (σ : Nat → va_E) (φ : Nat → Nat → Nat → Int32) (ρ : Nat → Nat → Int32) {x : Nat} (p : Int32) (n : Int32) (i : Int32) (hx : zOR cy L σ φ x) : zMI l D cy yX11_plan cX11_plan 4 .int (zrm 3 0 0) [.ref x, .int p, .int n, .int i] L σ φ ρ (fun r _ => r = -1) := by
  refine zMI.mk (by decide) (Nat.le_of_ble_eq_true rfl) (fun E hE hret => ?_)
  show zW E 0 0 L σ φ ρ 0 [(0, .ref x), (1, .int p), (2, .int n), (3, .int i)] []
  obtain ⟨now, kept, tape, reader, weather, planner, ways, la, wo, sp, li, te, g, la', wo', sp', li', te', g', hx, hs, hs0, hk, hk0, htp, htp0, hrd, hrd0, hrd1, hwe, hwe0, hpl, hwy⟩ := hx
  obtain ⟨hn, hla, hwo, hsp, hli, hte⟩ := id hs
  obtain ⟨p45, p46, p00, p01, p10, p50, p51, pl0, pl1, pl2, pg⟩ := id hs0
  obtain ⟨f0, f1, f2, f3, f4, f5, f6, f7, hL, hL0, hL1, hL2, hL3, hL4, hL5, hL6, hL7⟩ := id hla
  obtain ⟨w0, w1, w2, w3, w4, w5, w6, w7, hW, hW0, hW1, hW2, hW3, hW4, hW5, hW6, hW7⟩ := id hwo
  obtain ⟨s0, s1, hSp, hSp0, hSp1, hSpW⟩ := id hsp
  obtain ⟨i0, i1, i2, i3, i4, i5, i6, i7, hLi, hLi0, hLi1, hLi2, hLi3, hLi4, hLi5, hLi6, hLi7⟩ := id hli
  obtain ⟨t0, t1, t2, t3, hTp, hTp0, hTp1, hTp2, hTp3, hTn1, hTn2⟩ := id htp
  refine x_aload_n hE dX11_plan_0 rfl 0 rfl ?_
  refine h_getr hE hx rfl inZX11 0 (by decide) q556 rfl dX11_plan_1 ?_
  refine h_getr hE hn rfl inZX4 0 (by decide) q362 rfl dX11_plan_4 ?_
  refine x_iload_n hE dX11_plan_7 rfl 1 rfl ?_
  refine c_ip hE (r_V (st := []) hE (k_hasPerson l D cy L σ φ ρ (p) hL) q1032 q1033 q1034 q115 q1035 hL rfl ⟨by decide, by decide, pn_X0_hasPerson⟩ ⟨Nat.le_of_ble_eq_true rfl, Nat.le_of_ble_eq_true rfl⟩ ⟨Nat.le_of_ble_eq_true rfl, Nat.le_of_ble_eq_true rfl⟩ rfl (Nat.le_of_ble_eq_true rfl) dX11_plan_8) (fun r8 h8 => ?_)
  refine x_widen (k' := 0) (n' := 0) (Nat.le_of_ble_eq_true rfl) (Nat.le_of_ble_eq_true rfl) ?_
  refine x_norm (y := 0) (h8.trans (zb_f (fun e => z_le_nlt e.1 (p01 ▸ e.2)))) ?_
  refine x_if_eq (tgt := 34) hE dX11_plan_11 (by decide) (fun c_11 => ?_) (fun c_11 => absurd (by decide) c_11)
  refine x_iconst (v := -1) hE dX11_plan_34 (by decide) ?_
  exact hret _ _ _ _ _ _ _ _ (-1) (Nat.le_of_ble_eq_true rfl) (Nat.le_of_ble_eq_true rfl) dX11_plan_35 (rfl) (by grind [zb])
set_option maxHeartbeats 4000000 in
set_option maxRecDepth 100000 in
theorem o_cross (l : Launch) (D : va_G) (cy : Nat → ClassId) (L : List Nat) (σ : Nat → va_E) (φ : Nat → Nat → Nat → Int32) (ρ : Nat → Nat → Int32) {x : Nat} (a : Int32) (b : Int32) (t : Int32) (i : Int32) (hx : zOR cy L σ φ x) : zMI l D cy yX11_cross cX11_cross 6 .int (zrm 3 0 0) [.ref x, .int a, .int b, .int t, .int i] L σ φ ρ (fun r _ => r = -1) := by
  refine zMI.mk (by decide) (Nat.le_of_ble_eq_true rfl) (fun E hE hret => ?_)
  show zW E 0 0 L σ φ ρ 0 [(0, .ref x), (1, .int a), (2, .int b), (3, .int t), (4, .int i)] []
  obtain ⟨now, kept, tape, reader, weather, planner, ways, la, wo, sp, li, te, g, la', wo', sp', li', te', g', hx, hs, hs0, hk, hk0, htp, htp0, hrd, hrd0, hrd1, hwe, hwe0, hpl, hwy⟩ := hx
  obtain ⟨hn, hla, hwo, hsp, hli, hte⟩ := id hs
  obtain ⟨p45, p46, p00, p01, p10, p50, p51, pl0, pl1, pl2, pg⟩ := id hs0
  obtain ⟨f0, f1, f2, f3, f4, f5, f6, f7, hL, hL0, hL1, hL2, hL3, hL4, hL5, hL6, hL7⟩ := id hla
  obtain ⟨w0, w1, w2, w3, w4, w5, w6, w7, hW, hW0, hW1, hW2, hW3, hW4, hW5, hW6, hW7⟩ := id hwo
  obtain ⟨s0, s1, hSp, hSp0, hSp1, hSpW⟩ := id hsp
  obtain ⟨i0, i1, i2, i3, i4, i5, i6, i7, hLi, hLi0, hLi1, hLi2, hLi3, hLi4, hLi5, hLi6, hLi7⟩ := id hli
  obtain ⟨t0, t1, t2, t3, hTp, hTp0, hTp1, hTp2, hTp3, hTn1, hTn2⟩ := id htp
  refine x_aload_n hE dX11_cross_0 rfl 0 rfl ?_
  refine h_getr hE hx rfl inZX11 0 (by decide) q556 rfl dX11_cross_1 ?_
  refine h_getr hE hn rfl inZX4 0 (by decide) q362 rfl dX11_cross_4 ?_
  refine x_iload_n hE dX11_cross_7 rfl 1 rfl ?_
  refine c_ip hE (r_V (st := []) hE (k_hasField l D cy L σ φ ρ (a) hL) q593 q594 q595 q115 q596 hL rfl ⟨by decide, by decide, pn_X0_hasField⟩ ⟨Nat.le_of_ble_eq_true rfl, Nat.le_of_ble_eq_true rfl⟩ ⟨Nat.le_of_ble_eq_true rfl, Nat.le_of_ble_eq_true rfl⟩ rfl (Nat.le_of_ble_eq_true rfl) dX11_cross_8) (fun r8 h8 => ?_)
  refine x_widen (k' := 0) (n' := 0) (Nat.le_of_ble_eq_true rfl) (Nat.le_of_ble_eq_true rfl) ?_
  refine x_norm (y := 0) (h8.trans (zb_f (fun e => z_le_nlt e.1 (p00 ▸ e.2)))) ?_
  refine x_if_eq (tgt := 39) hE dX11_cross_11 (by decide) (fun c_11 => ?_) (fun c_11 => absurd (by decide) c_11)
  refine x_iconst (v := -1) hE dX11_cross_39 (by decide) ?_
  exact hret _ _ _ _ _ _ _ _ (-1) (Nat.le_of_ble_eq_true rfl) (Nat.le_of_ble_eq_true rfl) dX11_cross_40 (rfl) (by grind [zb])
set_option maxHeartbeats 4000000 in
set_option maxRecDepth 100000 in
theorem o_widest (l : Launch) (D : va_G) (cy : Nat → ClassId) (L : List Nat) (σ : Nat → va_E) (φ : Nat → Nat → Nat → Int32) (ρ : Nat → Nat → Int32) {x : Nat} (a : Int32) (b : Int32) (hx : zOR cy L σ φ x) : zMI l D cy yX11_widest cX11_widest 3 .int (zrm 3 0 0) [.ref x, .int a, .int b] L σ φ ρ (fun r _ => r = -1) := by
  refine zMI.mk (by decide) (Nat.le_of_ble_eq_true rfl) (fun E hE hret => ?_)
  show zW E 0 0 L σ φ ρ 0 [(0, .ref x), (1, .int a), (2, .int b)] []
  obtain ⟨now, kept, tape, reader, weather, planner, ways, la, wo, sp, li, te, g, la', wo', sp', li', te', g', hx, hs, hs0, hk, hk0, htp, htp0, hrd, hrd0, hrd1, hwe, hwe0, hpl, hwy⟩ := hx
  obtain ⟨hn, hla, hwo, hsp, hli, hte⟩ := id hs
  obtain ⟨p45, p46, p00, p01, p10, p50, p51, pl0, pl1, pl2, pg⟩ := id hs0
  obtain ⟨f0, f1, f2, f3, f4, f5, f6, f7, hL, hL0, hL1, hL2, hL3, hL4, hL5, hL6, hL7⟩ := id hla
  obtain ⟨w0, w1, w2, w3, w4, w5, w6, w7, hW, hW0, hW1, hW2, hW3, hW4, hW5, hW6, hW7⟩ := id hwo
  obtain ⟨s0, s1, hSp, hSp0, hSp1, hSpW⟩ := id hsp
  obtain ⟨i0, i1, i2, i3, i4, i5, i6, i7, hLi, hLi0, hLi1, hLi2, hLi3, hLi4, hLi5, hLi6, hLi7⟩ := id hli
  obtain ⟨t0, t1, t2, t3, hTp, hTp0, hTp1, hTp2, hTp3, hTn1, hTn2⟩ := id htp
  refine x_aload_n hE dX11_widest_0 rfl 0 rfl ?_
  refine h_getr hE hx rfl inZX11 0 (by decide) q556 rfl dX11_widest_1 ?_
  refine h_getr hE hn rfl inZX4 0 (by decide) q362 rfl dX11_widest_4 ?_
  refine x_iload_n hE dX11_widest_7 rfl 1 rfl ?_
  refine c_ip hE (r_V (st := []) hE (k_hasField l D cy L σ φ ρ (a) hL) q593 q594 q595 q115 q596 hL rfl ⟨by decide, by decide, pn_X0_hasField⟩ ⟨Nat.le_of_ble_eq_true rfl, Nat.le_of_ble_eq_true rfl⟩ ⟨Nat.le_of_ble_eq_true rfl, Nat.le_of_ble_eq_true rfl⟩ rfl (Nat.le_of_ble_eq_true rfl) dX11_widest_8) (fun r8 h8 => ?_)
  refine x_widen (k' := 0) (n' := 0) (Nat.le_of_ble_eq_true rfl) (Nat.le_of_ble_eq_true rfl) ?_
  refine x_norm (y := 0) (h8.trans (zb_f (fun e => z_le_nlt e.1 (p00 ▸ e.2)))) ?_
  refine x_if_eq (tgt := 28) hE dX11_widest_11 (by decide) (fun c_11 => ?_) (fun c_11 => absurd (by decide) c_11)
  refine x_iconst (v := -1) hE dX11_widest_28 (by decide) ?_
  exact hret _ _ _ _ _ _ _ _ (-1) (Nat.le_of_ble_eq_true rfl) (Nat.le_of_ble_eq_true rfl) dX11_widest_29 (rfl) (by grind [zb])
set_option maxHeartbeats 4000000 in
set_option maxRecDepth 100000 in
theorem o_missing (l : Launch) (D : va_G) (cy : Nat → ClassId) (L : List Nat) (σ : Nat → va_E) (φ : Nat → Nat → Nat → Int32) (ρ : Nat → Nat → Int32) {x : Nat} (p : Int32) (a : Int32) (b : Int32) (hx : zOR cy L σ φ x) : zMI l D cy yX11_missing cX11_missing 5 .int (zrm 3 0 0) [.ref x, .int p, .int a, .int b] L σ φ ρ (fun r _ => r = if p = -1 then 0 else -2) := by
  refine zMI.mk (by decide) (Nat.le_of_ble_eq_true rfl) (fun E hE hret => ?_)
  show zW E 0 0 L σ φ ρ 0 [(0, .ref x), (1, .int p), (2, .int a), (3, .int b)] []
  obtain ⟨now, kept, tape, reader, weather, planner, ways, la, wo, sp, li, te, g, la', wo', sp', li', te', g', hx, hs, hs0, hk, hk0, htp, htp0, hrd, hrd0, hrd1, hwe, hwe0, hpl, hwy⟩ := hx
  obtain ⟨hn, hla, hwo, hsp, hli, hte⟩ := id hs
  obtain ⟨p45, p46, p00, p01, p10, p50, p51, pl0, pl1, pl2, pg⟩ := id hs0
  obtain ⟨f0, f1, f2, f3, f4, f5, f6, f7, hL, hL0, hL1, hL2, hL3, hL4, hL5, hL6, hL7⟩ := id hla
  obtain ⟨w0, w1, w2, w3, w4, w5, w6, w7, hW, hW0, hW1, hW2, hW3, hW4, hW5, hW6, hW7⟩ := id hwo
  obtain ⟨s0, s1, hSp, hSp0, hSp1, hSpW⟩ := id hsp
  obtain ⟨i0, i1, i2, i3, i4, i5, i6, i7, hLi, hLi0, hLi1, hLi2, hLi3, hLi4, hLi5, hLi6, hLi7⟩ := id hli
  obtain ⟨t0, t1, t2, t3, hTp, hTp0, hTp1, hTp2, hTp3, hTn1, hTn2⟩ := id htp
  refine x_aload_n hE dX11_missing_0 rfl 0 rfl ?_
  refine h_getr hE hx rfl inZX11 0 (by decide) q556 rfl dX11_missing_1 ?_
  refine h_getr hE hn rfl inZX4 3 (by decide) q373 rfl dX11_missing_4 ?_
  refine x_astore (lv' := [(4, .ref li), (0, .ref x), (1, .int p), (2, .int a), (3, .int b)]) hE dX11_missing_7 (by decide) rfl ?_
  refine x_iload_n hE dX11_missing_9 rfl 2 rfl ?_
  refine x_iconst (v := -1) hE dX11_missing_10 (by decide) ?_
  refine x_icmp_ne (tgt := 22) hE dX11_missing_11 (by decide) (fun c_11 => ?_) (fun c_11 => ?_)
  · refine x_aload_n hE dX11_missing_22 rfl 1 rfl ?_
    refine h_getr hE hx rfl inZX11 0 (by decide) q556 rfl dX11_missing_23 ?_
    refine h_getr hE hn rfl inZX4 0 (by decide) q362 rfl dX11_missing_26 ?_
    refine x_iload_n hE dX11_missing_29 rfl 2 rfl ?_
    refine c_ip hE (r_V (st := []) hE (k_hasPerson l D cy L σ φ ρ (p) hL) q1032 q1033 q1034 q115 q1035 hL rfl ⟨by decide, by decide, pn_X0_hasPerson⟩ ⟨Nat.le_of_ble_eq_true rfl, Nat.le_of_ble_eq_true rfl⟩ ⟨Nat.le_of_ble_eq_true rfl, Nat.le_of_ble_eq_true rfl⟩ rfl (Nat.le_of_ble_eq_true rfl) dX11_missing_30) (fun r30 h30 => ?_)
    refine x_widen (k' := 0) (n' := 0) (Nat.le_of_ble_eq_true rfl) (Nat.le_of_ble_eq_true rfl) ?_
    refine x_norm (y := 0) (h30.trans (zb_f (fun e => z_le_nlt e.1 (p01 ▸ e.2)))) ?_
    refine x_if_eq (tgt := 62) hE dX11_missing_33 (by decide) (fun c_33 => ?_) (fun c_33 => absurd (by decide) c_33)
    refine x_bipush (v := -2) hE dX11_missing_62 (by decide) ?_
    exact hret _ _ _ _ _ _ _ _ (-2) (Nat.le_of_ble_eq_true rfl) (Nat.le_of_ble_eq_true rfl) dX11_missing_64 (rfl) (by grind [zb])
  · refine x_aload hE dX11_missing_14 0 rfl ?_
    refine x_iconst (v := 0) hE dX11_missing_16 (by decide) ?_
    refine h_puti (ty := .int) (ty0 := tyX1) hE hLi rfl inZX1 tyX1_ok nmX1 0 (by decide) q319 rfl rfl (by decide +kernel) rfl rfl dX11_missing_17 ?_
    refine x_iconst (v := 0) hE dX11_missing_20 (by decide) ?_
    exact hret _ _ _ _ _ _ _ _ (0) (Nat.le_of_ble_eq_true rfl) (Nat.le_of_ble_eq_true rfl) dX11_missing_21 (rfl) (by grind [zb])
set_option maxHeartbeats 4000000 in
set_option maxRecDepth 100000 in
theorem o_water (l : Launch) (D : va_G) (cy : Nat → ClassId) (L : List Nat) (σ : Nat → va_E) (φ : Nat → Nat → Nat → Int32) (ρ : Nat → Nat → Int32) {x : Nat}  (hx : zOR cy L σ φ x) : zMI l D cy yX11_water cX11_water 4 .int (zrm 3 0 0) [.ref x] L σ φ ρ (fun r _ => r = 0) := by
  refine zMI.mk (by decide) (Nat.le_of_ble_eq_true rfl) (fun E hE hret => ?_)
  show zW E 0 0 L σ φ ρ 0 [(0, .ref x)] []
  obtain ⟨now, kept, tape, reader, weather, planner, ways, la, wo, sp, li, te, g, la', wo', sp', li', te', g', hx, hs, hs0, hk, hk0, htp, htp0, hrd, hrd0, hrd1, hwe, hwe0, hpl, hwy⟩ := hx
  obtain ⟨hn, hla, hwo, hsp, hli, hte⟩ := id hs
  obtain ⟨p45, p46, p00, p01, p10, p50, p51, pl0, pl1, pl2, pg⟩ := id hs0
  obtain ⟨f0, f1, f2, f3, f4, f5, f6, f7, hL, hL0, hL1, hL2, hL3, hL4, hL5, hL6, hL7⟩ := id hla
  obtain ⟨w0, w1, w2, w3, w4, w5, w6, w7, hW, hW0, hW1, hW2, hW3, hW4, hW5, hW6, hW7⟩ := id hwo
  obtain ⟨s0, s1, hSp, hSp0, hSp1, hSpW⟩ := id hsp
  obtain ⟨i0, i1, i2, i3, i4, i5, i6, i7, hLi, hLi0, hLi1, hLi2, hLi3, hLi4, hLi5, hLi6, hLi7⟩ := id hli
  obtain ⟨t0, t1, t2, t3, hTp, hTp0, hTp1, hTp2, hTp3, hTn1, hTn2⟩ := id htp
  refine x_aload_n hE dX11_water_0 rfl 0 rfl ?_
  refine h_getr hE hx rfl inZX11 0 (by decide) q556 rfl dX11_water_1 ?_
  refine h_getr hE hn rfl inZX4 1 (by decide) q369 rfl dX11_water_4 ?_
  refine x_astore_n (lv' := [(1, .ref wo), (0, .ref x)]) hE dX11_water_7 rfl (by decide) rfl ?_
  refine x_aload_n hE dX11_water_8 rfl 0 rfl ?_
  refine h_geti hE hW rfl inZX10 6 (by decide) q240 rfl dX11_water_9 ?_
  refine x_norm (y := 0) (by simpa using p10 6) ?_
  refine x_aload_n hE dX11_water_12 rfl 0 rfl ?_
  refine h_geti hE hW rfl inZX10 8 (by decide) q246 rfl dX11_water_13 ?_
  refine x_norm (y := 0) (by simpa using p10 8) ?_
  refine x_iadd hE dX11_water_16 ?_
  refine x_norm (y := 0) (by decide) ?_
  refine x_aload_n hE dX11_water_17 rfl 0 rfl ?_
  refine h_geti hE hW rfl inZX10 7 (by decide) q243 rfl dX11_water_18 ?_
  refine x_norm (y := 0) (by simpa using p10 7) ?_
  refine x_isub hE dX11_water_21 ?_
  refine x_norm (y := 0) (by decide) ?_
  refine x_istore_n (lv' := [(2, .int 0), (1, .ref wo), (0, .ref x)]) hE dX11_water_22 rfl (by decide) rfl ?_
  refine x_iconst (v := 0) hE dX11_water_23 (by decide) ?_
  refine x_istore_n (lv' := [(3, .int 0), (2, .int 0), (1, .ref wo), (0, .ref x)]) hE dX11_water_24 rfl (by decide) rfl ?_
  refine x_iload_n hE dX11_water_25 rfl 0 rfl ?_
  refine x_aload_n hE dX11_water_26 rfl 3 rfl ?_
  refine h_getr hE hx rfl inZX11 0 (by decide) q556 rfl dX11_water_27 ?_
  refine h_getr hE hn rfl inZX4 0 (by decide) q362 rfl dX11_water_30 ?_
  refine h_geti hE hL rfl inZX0 1 (by decide) q161 rfl dX11_water_33 ?_
  refine x_norm (y := 0) (p01) ?_
  refine x_icmp_ge (tgt := 54) hE dX11_water_36 (by decide) (fun c_36 => ?_) (fun c_36 => absurd (by decide) c_36)
  refine x_iconst (v := 0) hE dX11_water_54 (by decide) ?_
  refine x_istore_n (lv' := [(3, .int 0), (2, .int 0), (1, .ref wo), (0, .ref x)]) hE dX11_water_55 rfl (by decide) rfl ?_
  refine x_iload_n hE dX11_water_56 rfl 0 rfl ?_
  refine x_aload_n hE dX11_water_57 rfl 3 rfl ?_
  refine h_getr hE hx rfl inZX11 0 (by decide) q556 rfl dX11_water_58 ?_
  refine h_getr hE hn rfl inZX4 0 (by decide) q362 rfl dX11_water_61 ?_
  refine h_geti hE hL rfl inZX0 0 (by decide) q156 rfl dX11_water_64 ?_
  refine x_norm (y := 0) (p00) ?_
  refine x_icmp_ge (tgt := 85) hE dX11_water_67 (by decide) (fun c_67 => ?_) (fun c_67 => absurd (by decide) c_67)
  refine x_iload_n hE dX11_water_85 rfl 1 rfl ?_
  exact hret _ _ _ _ _ _ _ _ (0) (Nat.le_of_ble_eq_true rfl) (Nat.le_of_ble_eq_true rfl) dX11_water_86 (rfl) (by grind [zb])
end
section
theorem dX11_bound_0 : decode cX11_bound 0 = .ok (.aload_n 0, 1) := by decide +kernel
theorem dX11_bound_1 : decode cX11_bound 1 = .ok (.getfield 10, 3) := by decide +kernel
theorem dX11_bound_4 : decode cX11_bound 4 = .ok (.getfield 343, 3) := by decide +kernel
theorem dX11_bound_7 : decode cX11_bound 7 = .ok (.astore_n 1, 1) := by decide +kernel
theorem dX11_bound_8 : decode cX11_bound 8 = .ok (.iconst 0, 1) := by decide +kernel
theorem dX11_bound_9 : decode cX11_bound 9 = .ok (.istore_n 2, 1) := by decide +kernel
theorem dX11_bound_10 : decode cX11_bound 10 = .ok (.iconst 1, 1) := by decide +kernel
theorem dX11_bound_11 : decode cX11_bound 11 = .ok (.istore_n 3, 1) := by decide +kernel
theorem dX11_bound_12 : decode cX11_bound 12 = .ok (.iload_n 3, 1) := by decide +kernel
theorem dX11_bound_13 : decode cX11_bound 13 = .ok (.bipush 10, 2) := by decide +kernel
theorem dX11_bound_15 : decode cX11_bound 15 = .ok (.if_icmp .gt 36, 3) := by decide +kernel
theorem dX11_bound_18 : decode cX11_bound 18 = .ok (.aload_n 1, 1) := by decide +kernel
theorem dX11_bound_19 : decode cX11_bound 19 = .ok (.iload_n 3, 1) := by decide +kernel
theorem dX11_bound_20 : decode cX11_bound 20 = .ok (.invokevirtual 384, 3) := by decide +kernel
theorem dX11_bound_23 : decode cX11_bound 23 = .ok (.aload_n 1, 1) := by decide +kernel
theorem dX11_bound_24 : decode cX11_bound 24 = .ok (.iload_n 3, 1) := by decide +kernel
theorem dX11_bound_25 : decode cX11_bound 25 = .ok (.invokevirtual 387, 3) := by decide +kernel
theorem dX11_bound_28 : decode cX11_bound 28 = .ok (.iadd, 1) := by decide +kernel
theorem dX11_bound_29 : decode cX11_bound 29 = .ok (.aload_n 1, 1) := by decide +kernel
theorem dX11_bound_30 : decode cX11_bound 30 = .ok (.iload_n 2, 1) := by decide +kernel
theorem dX11_bound_31 : decode cX11_bound 31 = .ok (.invokevirtual 384, 3) := by decide +kernel
theorem dX11_bound_34 : decode cX11_bound 34 = .ok (.aload_n 1, 1) := by decide +kernel
theorem dX11_bound_35 : decode cX11_bound 35 = .ok (.iload_n 2, 1) := by decide +kernel
theorem dX11_bound_36 : decode cX11_bound 36 = .ok (.invokevirtual 387, 3) := by decide +kernel
theorem dX11_bound_39 : decode cX11_bound 39 = .ok (.iadd, 1) := by decide +kernel
theorem dX11_bound_40 : decode cX11_bound 40 = .ok (.if_icmp .ge 5, 3) := by decide +kernel
theorem dX11_bound_45 : decode cX11_bound 45 = .ok (.iinc 3 1, 3) := by decide +kernel
theorem dX11_bound_48 : decode cX11_bound 48 = .ok (.goto (-36), 3) := by decide +kernel
theorem dX11_bound_51 : decode cX11_bound 51 = .ok (.iload_n 2, 1) := by decide +kernel
theorem dX11_bound_52 : decode cX11_bound 52 = .ok (.ireturn, 1) := by decide +kernel
theorem dX11_errors_0 : decode cX11_errors 0 = .ok (.iload_n 1, 1) := by decide +kernel
theorem dX11_errors_1 : decode cX11_errors 1 = .ok (.iconst 0, 1) := by decide +kernel
theorem dX11_errors_2 : decode cX11_errors 2 = .ok (.bipush 10, 2) := by decide +kernel
theorem dX11_errors_4 : decode cX11_errors 4 = .ok (.invokestatic 64, 3) := by decide +kernel
theorem dX11_errors_7 : decode cX11_errors 7 = .ok (.ifCond .ne 5, 3) := by decide +kernel
theorem dX11_errors_10 : decode cX11_errors 10 = .ok (.iconst (-1), 1) := by decide +kernel
theorem dX11_errors_11 : decode cX11_errors 11 = .ok (.ireturn, 1) := by decide +kernel
theorem dX11_errors_12 : decode cX11_errors 12 = .ok (.iload_n 2, 1) := by decide +kernel
theorem dX11_errors_13 : decode cX11_errors 13 = .ok (.ifCond .eq 17, 3) := by decide +kernel
theorem dX11_errors_16 : decode cX11_errors 16 = .ok (.aload_n 0, 1) := by decide +kernel
theorem dX11_errors_17 : decode cX11_errors 17 = .ok (.getfield 10, 3) := by decide +kernel
theorem dX11_errors_20 : decode cX11_errors 20 = .ok (.getfield 343, 3) := by decide +kernel
theorem dX11_errors_23 : decode cX11_errors 23 = .ok (.iload_n 1, 1) := by decide +kernel
theorem dX11_errors_24 : decode cX11_errors 24 = .ok (.invokevirtual 384, 3) := by decide +kernel
theorem dX11_errors_27 : decode cX11_errors 27 = .ok (.goto 14, 3) := by decide +kernel
theorem dX11_errors_30 : decode cX11_errors 30 = .ok (.aload_n 0, 1) := by decide +kernel
theorem dX11_errors_31 : decode cX11_errors 31 = .ok (.getfield 10, 3) := by decide +kernel
theorem dX11_errors_34 : decode cX11_errors 34 = .ok (.getfield 343, 3) := by decide +kernel
theorem dX11_errors_37 : decode cX11_errors 37 = .ok (.iload_n 1, 1) := by decide +kernel
theorem dX11_errors_38 : decode cX11_errors 38 = .ok (.invokevirtual 387, 3) := by decide +kernel
theorem dX11_errors_41 : decode cX11_errors 41 = .ok (.ireturn, 1) := by decide +kernel
theorem dX11_filling_0 : decode cX11_filling 0 = .ok (.aload_n 0, 1) := by decide +kernel
theorem dX11_filling_1 : decode cX11_filling 1 = .ok (.getfield 10, 3) := by decide +kernel
theorem dX11_filling_4 : decode cX11_filling 4 = .ok (.getfield 60, 3) := by decide +kernel
theorem dX11_filling_7 : decode cX11_filling 7 = .ok (.iload_n 1, 1) := by decide +kernel
theorem dX11_filling_8 : decode cX11_filling 8 = .ok (.invokevirtual 147, 3) := by decide +kernel
theorem dX11_filling_11 : decode cX11_filling 11 = .ok (.ifCond .eq 45, 3) := by decide +kernel
theorem dX11_filling_56 : decode cX11_filling 56 = .ok (.ldc2_w 367, 3) := by decide +kernel
theorem dX11_filling_59 : decode cX11_filling 59 = .ok (.lreturn, 1) := by decide +kernel
theorem dX11_forecast_0 : decode cX11_forecast 0 = .ok (.aload_n 0, 1) := by decide +kernel
theorem dX11_forecast_1 : decode cX11_forecast 1 = .ok (.getfield 10, 3) := by decide +kernel
theorem dX11_forecast_4 : decode cX11_forecast 4 = .ok (.getfield 343, 3) := by decide +kernel
theorem dX11_forecast_7 : decode cX11_forecast 7 = .ok (.astore_n 3, 1) := by decide +kernel
theorem dX11_forecast_8 : decode cX11_forecast 8 = .ok (.iload_n 1, 1) := by decide +kernel
theorem dX11_forecast_9 : decode cX11_forecast 9 = .ok (.iconst (-1), 1) := by decide +kernel
theorem dX11_forecast_10 : decode cX11_forecast 10 = .ok (.if_icmp .ne 10, 3) := by decide +kernel
theorem dX11_forecast_13 : decode cX11_forecast 13 = .ok (.aload_n 3, 1) := by decide +kernel
theorem dX11_forecast_14 : decode cX11_forecast 14 = .ok (.iconst 0, 1) := by decide +kernel
theorem dX11_forecast_15 : decode cX11_forecast 15 = .ok (.putfield 377, 3) := by decide +kernel
theorem dX11_forecast_18 : decode cX11_forecast 18 = .ok (.iconst 0, 1) := by decide +kernel
theorem dX11_forecast_19 : decode cX11_forecast 19 = .ok (.ireturn, 1) := by decide +kernel
theorem dX11_forecast_20 : decode cX11_forecast 20 = .ok (.iload_n 1, 1) := by decide +kernel
theorem dX11_forecast_21 : decode cX11_forecast 21 = .ok (.iconst 0, 1) := by decide +kernel
theorem dX11_forecast_22 : decode cX11_forecast 22 = .ok (.bipush 9, 2) := by decide +kernel
theorem dX11_forecast_24 : decode cX11_forecast 24 = .ok (.invokestatic 64, 3) := by decide +kernel
theorem dX11_forecast_27 : decode cX11_forecast 27 = .ok (.ifCond .eq 12, 3) := by decide +kernel
theorem dX11_forecast_30 : decode cX11_forecast 30 = .ok (.aload_n 3, 1) := by decide +kernel
theorem dX11_forecast_31 : decode cX11_forecast 31 = .ok (.getfield 377, 3) := by decide +kernel
theorem dX11_forecast_34 : decode cX11_forecast 34 = .ok (.bipush 12, 2) := by decide +kernel
theorem dX11_forecast_36 : decode cX11_forecast 36 = .ok (.if_icmp .lt 6, 3) := by decide +kernel
theorem dX11_forecast_39 : decode cX11_forecast 39 = .ok (.bipush (-2), 2) := by decide +kernel
theorem dX11_forecast_41 : decode cX11_forecast 41 = .ok (.ireturn, 1) := by decide +kernel
theorem dX11_forecast_42 : decode cX11_forecast 42 = .ok (.aload_n 3, 1) := by decide +kernel
theorem dX11_forecast_43 : decode cX11_forecast 43 = .ok (.iload_n 1, 1) := by decide +kernel
theorem dX11_forecast_44 : decode cX11_forecast 44 = .ok (.iload_n 2, 1) := by decide +kernel
theorem dX11_forecast_45 : decode cX11_forecast 45 = .ok (.invokevirtual 380, 3) := by decide +kernel
theorem dX11_forecast_48 : decode cX11_forecast 48 = .ok (.ireturn, 1) := by decide +kernel
theorem dX11_isOf_0 : decode cX11_isOf 0 = .ok (.iload_n 1, 1) := by decide +kernel
theorem dX11_isOf_1 : decode cX11_isOf 1 = .ok (.iconst 0, 1) := by decide +kernel
theorem dX11_isOf_2 : decode cX11_isOf 2 = .ok (.bipush 7, 2) := by decide +kernel
theorem dX11_isOf_4 : decode cX11_isOf 4 = .ok (.invokestatic 64, 3) := by decide +kernel
theorem dX11_isOf_7 : decode cX11_isOf 7 = .ok (.ifCond .eq 16, 3) := by decide +kernel
theorem dX11_isOf_10 : decode cX11_isOf 10 = .ok (.iload_n 0, 1) := by decide +kernel
theorem dX11_isOf_11 : decode cX11_isOf 11 = .ok (.iload_n 1, 1) := by decide +kernel
theorem dX11_isOf_12 : decode cX11_isOf 12 = .ok (.ishr, 1) := by decide +kernel
theorem dX11_isOf_13 : decode cX11_isOf 13 = .ok (.iconst 1, 1) := by decide +kernel
theorem dX11_isOf_14 : decode cX11_isOf 14 = .ok (.iand, 1) := by decide +kernel
theorem dX11_isOf_15 : decode cX11_isOf 15 = .ok (.iconst 1, 1) := by decide +kernel
theorem dX11_isOf_16 : decode cX11_isOf 16 = .ok (.if_icmp .ne 7, 3) := by decide +kernel
theorem dX11_isOf_19 : decode cX11_isOf 19 = .ok (.iconst 1, 1) := by decide +kernel
theorem dX11_isOf_20 : decode cX11_isOf 20 = .ok (.goto 4, 3) := by decide +kernel
theorem dX11_isOf_23 : decode cX11_isOf 23 = .ok (.iconst 0, 1) := by decide +kernel
theorem dX11_isOf_24 : decode cX11_isOf 24 = .ok (.ireturn, 1) := by decide +kernel
theorem dX11_match_0 : decode cX11_match 0 = .ok (.iload_n 1, 1) := by decide +kernel
theorem dX11_match_1 : decode cX11_match 1 = .ok (.invokestatic 314, 3) := by decide +kernel
theorem dX11_match_4 : decode cX11_match 4 = .ok (.istore 4, 2) := by decide +kernel
theorem dX11_match_6 : decode cX11_match 6 = .ok (.iload_n 1, 1) := by decide +kernel
theorem dX11_match_7 : decode cX11_match 7 = .ok (.aload_n 0, 1) := by decide +kernel
theorem dX11_match_8 : decode cX11_match 8 = .ok (.getfield 10, 3) := by decide +kernel
theorem dX11_match_11 : decode cX11_match 11 = .ok (.getfield 60, 3) := by decide +kernel
theorem dX11_match_14 : decode cX11_match 14 = .ok (.getfield 90, 3) := by decide +kernel
theorem dX11_match_17 : decode cX11_match 17 = .ok (.invokestatic 319, 3) := by decide +kernel
theorem dX11_match_20 : decode cX11_match 20 = .ok (.ifCond .eq 40, 3) := by decide +kernel
theorem dX11_match_23 : decode cX11_match 23 = .ok (.iload_n 2, 1) := by decide +kernel
theorem dX11_match_24 : decode cX11_match 24 = .ok (.aload_n 0, 1) := by decide +kernel
theorem dX11_match_25 : decode cX11_match 25 = .ok (.getfield 10, 3) := by decide +kernel
theorem dX11_match_28 : decode cX11_match 28 = .ok (.getfield 60, 3) := by decide +kernel
theorem dX11_match_31 : decode cX11_match 31 = .ok (.getfield 68, 3) := by decide +kernel
theorem dX11_match_34 : decode cX11_match 34 = .ok (.invokestatic 319, 3) := by decide +kernel
theorem dX11_match_37 : decode cX11_match 37 = .ok (.ifCond .eq 23, 3) := by decide +kernel
theorem dX11_match_40 : decode cX11_match 40 = .ok (.iload 4, 2) := by decide +kernel
theorem dX11_match_42 : decode cX11_match 42 = .ok (.iconst 1, 1) := by decide +kernel
theorem dX11_match_43 : decode cX11_match 43 = .ok (.bipush 6, 2) := by decide +kernel
theorem dX11_match_45 : decode cX11_match 45 = .ok (.invokestatic 64, 3) := by decide +kernel
theorem dX11_match_48 : decode cX11_match 48 = .ok (.ifCond .eq 12, 3) := by decide +kernel
theorem dX11_match_60 : decode cX11_match 60 = .ok (.iconst (-1), 1) := by decide +kernel
theorem dX11_match_61 : decode cX11_match 61 = .ok (.ireturn, 1) := by decide +kernel
theorem dX11_near_0 : decode cX11_near 0 = .ok (.iload_n 1, 1) := by decide +kernel
theorem dX11_near_1 : decode cX11_near 1 = .ok (.iconst (-1), 1) := by decide +kernel
theorem dX11_near_2 : decode cX11_near 2 = .ok (.if_icmp .eq 34, 3) := by decide +kernel
theorem dX11_near_5 : decode cX11_near 5 = .ok (.iload_n 1, 1) := by decide +kernel
theorem dX11_near_6 : decode cX11_near 6 = .ok (.iconst 0, 1) := by decide +kernel
theorem dX11_near_7 : decode cX11_near 7 = .ok (.aload_n 0, 1) := by decide +kernel
theorem dX11_near_8 : decode cX11_near 8 = .ok (.getfield 10, 3) := by decide +kernel
theorem dX11_near_11 : decode cX11_near 11 = .ok (.getfield 343, 3) := by decide +kernel
theorem dX11_near_14 : decode cX11_near 14 = .ok (.getfield 347, 3) := by decide +kernel
theorem dX11_near_17 : decode cX11_near 17 = .ok (.iconst 1, 1) := by decide +kernel
theorem dX11_near_18 : decode cX11_near 18 = .ok (.isub, 1) := by decide +kernel
theorem dX11_near_19 : decode cX11_near 19 = .ok (.invokestatic 64, 3) := by decide +kernel
theorem dX11_near_22 : decode cX11_near 22 = .ok (.ifCond .eq 11, 3) := by decide +kernel
theorem dX11_near_33 : decode cX11_near 33 = .ok (.bipush (-2), 2) := by decide +kernel
theorem dX11_near_35 : decode cX11_near 35 = .ok (.ireturn, 1) := by decide +kernel
theorem dX11_near_36 : decode cX11_near 36 = .ok (.iconst 1, 1) := by decide +kernel
theorem dX11_near_37 : decode cX11_near 37 = .ok (.aload_n 0, 1) := by decide +kernel
theorem dX11_near_38 : decode cX11_near 38 = .ok (.getfield 10, 3) := by decide +kernel
theorem dX11_near_41 : decode cX11_near 41 = .ok (.getfield 60, 3) := by decide +kernel
theorem dX11_near_44 : decode cX11_near 44 = .ok (.getfield 90, 3) := by decide +kernel
theorem dX11_near_47 : decode cX11_near 47 = .ok (.ishl, 1) := by decide +kernel
theorem dX11_near_48 : decode cX11_near 48 = .ok (.iconst 1, 1) := by decide +kernel
theorem dX11_near_49 : decode cX11_near 49 = .ok (.isub, 1) := by decide +kernel
theorem dX11_near_50 : decode cX11_near 50 = .ok (.istore_n 2, 1) := by decide +kernel
theorem dX11_near_51 : decode cX11_near 51 = .ok (.iconst 0, 1) := by decide +kernel
theorem dX11_near_52 : decode cX11_near 52 = .ok (.istore_n 3, 1) := by decide +kernel
theorem dX11_near_53 : decode cX11_near 53 = .ok (.iload_n 3, 1) := by decide +kernel
theorem dX11_near_54 : decode cX11_near 54 = .ok (.aload_n 0, 1) := by decide +kernel
theorem dX11_near_55 : decode cX11_near 55 = .ok (.getfield 10, 3) := by decide +kernel
theorem dX11_near_58 : decode cX11_near 58 = .ok (.getfield 343, 3) := by decide +kernel
theorem dX11_near_61 : decode cX11_near 61 = .ok (.getfield 347, 3) := by decide +kernel
theorem dX11_near_64 : decode cX11_near 64 = .ok (.if_icmp .ge 17, 3) := by decide +kernel
theorem dX11_near_81 : decode cX11_near 81 = .ok (.iload_n 2, 1) := by decide +kernel
theorem dX11_near_82 : decode cX11_near 82 = .ok (.ireturn, 1) := by decide +kernel
theorem dX11_offer_0 : decode cX11_offer 0 = .ok (.aload_n 0, 1) := by decide +kernel
theorem dX11_offer_1 : decode cX11_offer 1 = .ok (.getfield 10, 3) := by decide +kernel
theorem dX11_offer_4 : decode cX11_offer 4 = .ok (.getfield 343, 3) := by decide +kernel
theorem dX11_offer_7 : decode cX11_offer 7 = .ok (.astore 4, 2) := by decide +kernel
theorem dX11_offer_9 : decode cX11_offer 9 = .ok (.iload_n 3, 1) := by decide +kernel
theorem dX11_offer_10 : decode cX11_offer 10 = .ok (.ifCond .ne 11, 3) := by decide +kernel
theorem dX11_offer_13 : decode cX11_offer 13 = .ok (.aload 4, 2) := by decide +kernel
theorem dX11_offer_15 : decode cX11_offer 15 = .ok (.iconst 0, 1) := by decide +kernel
theorem dX11_offer_16 : decode cX11_offer 16 = .ok (.putfield 390, 3) := by decide +kernel
theorem dX11_offer_19 : decode cX11_offer 19 = .ok (.iconst 0, 1) := by decide +kernel
theorem dX11_offer_20 : decode cX11_offer 20 = .ok (.ireturn, 1) := by decide +kernel
theorem dX11_offer_21 : decode cX11_offer 21 = .ok (.iload_n 2, 1) := by decide +kernel
theorem dX11_offer_22 : decode cX11_offer 22 = .ok (.iconst 0, 1) := by decide +kernel
theorem dX11_offer_23 : decode cX11_offer 23 = .ok (.bipush 99, 2) := by decide +kernel
theorem dX11_offer_25 : decode cX11_offer 25 = .ok (.invokestatic 64, 3) := by decide +kernel
theorem dX11_offer_28 : decode cX11_offer 28 = .ok (.ifCond .eq 23, 3) := by decide +kernel
theorem dX11_offer_31 : decode cX11_offer 31 = .ok (.iload_n 3, 1) := by decide +kernel
theorem dX11_offer_32 : decode cX11_offer 32 = .ok (.iconst 1, 1) := by decide +kernel
theorem dX11_offer_33 : decode cX11_offer 33 = .ok (.bipush 99, 2) := by decide +kernel
theorem dX11_offer_35 : decode cX11_offer 35 = .ok (.invokestatic 64, 3) := by decide +kernel
theorem dX11_offer_38 : decode cX11_offer 38 = .ok (.ifCond .eq 13, 3) := by decide +kernel
theorem dX11_offer_41 : decode cX11_offer 41 = .ok (.aload 4, 2) := by decide +kernel
theorem dX11_offer_43 : decode cX11_offer 43 = .ok (.getfield 390, 3) := by decide +kernel
theorem dX11_offer_46 : decode cX11_offer 46 = .ok (.bipush 10, 2) := by decide +kernel
theorem dX11_offer_48 : decode cX11_offer 48 = .ok (.if_icmp .lt 5, 3) := by decide +kernel
theorem dX11_offer_51 : decode cX11_offer 51 = .ok (.iconst (-1), 1) := by decide +kernel
theorem dX11_offer_52 : decode cX11_offer 52 = .ok (.ireturn, 1) := by decide +kernel
theorem dX11_offer_53 : decode cX11_offer 53 = .ok (.aload 4, 2) := by decide +kernel
theorem dX11_offer_55 : decode cX11_offer 55 = .ok (.iload_n 1, 1) := by decide +kernel
theorem dX11_offer_56 : decode cX11_offer 56 = .ok (.iload_n 2, 1) := by decide +kernel
theorem dX11_offer_57 : decode cX11_offer 57 = .ok (.iload_n 3, 1) := by decide +kernel
theorem dX11_offer_58 : decode cX11_offer 58 = .ok (.invokevirtual 393, 3) := by decide +kernel
theorem dX11_offer_61 : decode cX11_offer 61 = .ok (.ireturn, 1) := by decide +kernel
theorem dX11_rained_0 : decode cX11_rained 0 = .ok (.aload_n 0, 1) := by decide +kernel
theorem dX11_rained_1 : decode cX11_rained 1 = .ok (.getfield 10, 3) := by decide +kernel
theorem dX11_rained_4 : decode cX11_rained 4 = .ok (.getfield 97, 3) := by decide +kernel
theorem dX11_rained_7 : decode cX11_rained 7 = .ok (.astore_n 3, 1) := by decide +kernel
theorem dX11_rained_8 : decode cX11_rained 8 = .ok (.iload_n 1, 1) := by decide +kernel
theorem dX11_rained_9 : decode cX11_rained 9 = .ok (.iconst (-1), 1) := by decide +kernel
theorem dX11_rained_10 : decode cX11_rained 10 = .ok (.if_icmp .ne 8, 3) := by decide +kernel
theorem dX11_rained_13 : decode cX11_rained 13 = .ok (.aload_n 3, 1) := by decide +kernel
theorem dX11_rained_14 : decode cX11_rained 14 = .ok (.getfield 283, 3) := by decide +kernel
theorem dX11_rained_17 : decode cX11_rained 17 = .ok (.ireturn, 1) := by decide +kernel
theorem dX11_rained_18 : decode cX11_rained 18 = .ok (.iload_n 1, 1) := by decide +kernel
theorem dX11_rained_19 : decode cX11_rained 19 = .ok (.ifCond .lt 11, 3) := by decide +kernel
theorem dX11_rained_22 : decode cX11_rained 22 = .ok (.iload_n 1, 1) := by decide +kernel
theorem dX11_rained_23 : decode cX11_rained 23 = .ok (.aload_n 3, 1) := by decide +kernel
theorem dX11_rained_24 : decode cX11_rained 24 = .ok (.getfield 283, 3) := by decide +kernel
theorem dX11_rained_27 : decode cX11_rained 27 = .ok (.if_icmp .lt 6, 3) := by decide +kernel
theorem dX11_rained_30 : decode cX11_rained 30 = .ok (.bipush (-2), 2) := by decide +kernel
theorem dX11_rained_32 : decode cX11_rained 32 = .ok (.ireturn, 1) := by decide +kernel
theorem dX11_shares_0 : decode cX11_shares 0 = .ok (.iload_n 1, 1) := by decide +kernel
theorem dX11_shares_1 : decode cX11_shares 1 = .ok (.aload_n 0, 1) := by decide +kernel
theorem dX11_shares_2 : decode cX11_shares 2 = .ok (.getfield 10, 3) := by decide +kernel
theorem dX11_shares_5 : decode cX11_shares 5 = .ok (.getfield 60, 3) := by decide +kernel
theorem dX11_shares_8 : decode cX11_shares 8 = .ok (.getfield 90, 3) := by decide +kernel
theorem dX11_shares_11 : decode cX11_shares 11 = .ok (.invokestatic 319, 3) := by decide +kernel
theorem dX11_shares_14 : decode cX11_shares 14 = .ok (.ifCond .eq 22, 3) := by decide +kernel
theorem dX11_shares_17 : decode cX11_shares 17 = .ok (.iload_n 2, 1) := by decide +kernel
theorem dX11_shares_18 : decode cX11_shares 18 = .ok (.iconst 0, 1) := by decide +kernel
theorem dX11_shares_19 : decode cX11_shares 19 = .ok (.sipush 999, 3) := by decide +kernel
theorem dX11_shares_22 : decode cX11_shares 22 = .ok (.invokestatic 64, 3) := by decide +kernel
theorem dX11_shares_25 : decode cX11_shares 25 = .ok (.ifCond .eq 11, 3) := by decide +kernel
theorem dX11_shares_28 : decode cX11_shares 28 = .ok (.iload_n 1, 1) := by decide +kernel
theorem dX11_shares_29 : decode cX11_shares 29 = .ok (.iload_n 3, 1) := by decide +kernel
theorem dX11_shares_30 : decode cX11_shares 30 = .ok (.invokestatic 325, 3) := by decide +kernel
theorem dX11_shares_33 : decode cX11_shares 33 = .ok (.ifCond .ne 5, 3) := by decide +kernel
theorem dX11_shares_36 : decode cX11_shares 36 = .ok (.iconst (-1), 1) := by decide +kernel
theorem dX11_shares_37 : decode cX11_shares 37 = .ok (.ireturn, 1) := by decide +kernel
theorem dX11_thieves_0 : decode cX11_thieves 0 = .ok (.bipush 6, 2) := by decide +kernel
theorem dX11_thieves_2 : decode cX11_thieves 2 = .ok (.newarray .int, 2) := by decide +kernel
theorem dX11_thieves_4 : decode cX11_thieves 4 = .ok (.astore_n 1, 1) := by decide +kernel
theorem dX11_thieves_5 : decode cX11_thieves 5 = .ok (.iconst 0, 1) := by decide +kernel
theorem dX11_thieves_6 : decode cX11_thieves 6 = .ok (.istore_n 2, 1) := by decide +kernel
theorem dX11_thieves_7 : decode cX11_thieves 7 = .ok (.iload_n 2, 1) := by decide +kernel
theorem dX11_thieves_8 : decode cX11_thieves 8 = .ok (.aload_n 0, 1) := by decide +kernel
theorem dX11_thieves_9 : decode cX11_thieves 9 = .ok (.getfield 10, 3) := by decide +kernel
theorem dX11_thieves_12 : decode cX11_thieves 12 = .ok (.getfield 343, 3) := by decide +kernel
theorem dX11_thieves_15 : decode cX11_thieves 15 = .ok (.getfield 347, 3) := by decide +kernel
theorem dX11_thieves_18 : decode cX11_thieves 18 = .ok (.if_icmp .ge 17, 3) := by decide +kernel
theorem dX11_thieves_35 : decode cX11_thieves 35 = .ok (.iconst (-1), 1) := by decide +kernel
theorem dX11_thieves_36 : decode cX11_thieves 36 = .ok (.istore_n 2, 1) := by decide +kernel
theorem dX11_thieves_37 : decode cX11_thieves 37 = .ok (.iconst 0, 1) := by decide +kernel
theorem dX11_thieves_38 : decode cX11_thieves 38 = .ok (.istore_n 3, 1) := by decide +kernel
theorem dX11_thieves_39 : decode cX11_thieves 39 = .ok (.iload_n 3, 1) := by decide +kernel
theorem dX11_thieves_40 : decode cX11_thieves 40 = .ok (.iconst 1, 1) := by decide +kernel
theorem dX11_thieves_41 : decode cX11_thieves 41 = .ok (.aload_n 0, 1) := by decide +kernel
theorem dX11_thieves_42 : decode cX11_thieves 42 = .ok (.getfield 10, 3) := by decide +kernel
theorem dX11_thieves_45 : decode cX11_thieves 45 = .ok (.getfield 60, 3) := by decide +kernel
theorem dX11_thieves_48 : decode cX11_thieves 48 = .ok (.getfield 90, 3) := by decide +kernel
theorem dX11_thieves_51 : decode cX11_thieves 51 = .ok (.ishl, 1) := by decide +kernel
theorem dX11_thieves_52 : decode cX11_thieves 52 = .ok (.if_icmp .ge 88, 3) := by decide +kernel
theorem dX11_thieves_55 : decode cX11_thieves 55 = .ok (.iload_n 2, 1) := by decide +kernel
theorem dX11_thieves_56 : decode cX11_thieves 56 = .ok (.iconst (-1), 1) := by decide +kernel
theorem dX11_thieves_57 : decode cX11_thieves 57 = .ok (.if_icmp .eq 14, 3) := by decide +kernel
theorem dX11_thieves_71 : decode cX11_thieves 71 = .ok (.iconst 1, 1) := by decide +kernel
theorem dX11_thieves_72 : decode cX11_thieves 72 = .ok (.goto 4, 3) := by decide +kernel
theorem dX11_thieves_76 : decode cX11_thieves 76 = .ok (.istore 4, 2) := by decide +kernel
theorem dX11_thieves_78 : decode cX11_thieves 78 = .ok (.iconst 0, 1) := by decide +kernel
theorem dX11_thieves_79 : decode cX11_thieves 79 = .ok (.istore 5, 2) := by decide +kernel
theorem dX11_thieves_81 : decode cX11_thieves 81 = .ok (.iload 5, 2) := by decide +kernel
theorem dX11_thieves_83 : decode cX11_thieves 83 = .ok (.aload_n 0, 1) := by decide +kernel
theorem dX11_thieves_84 : decode cX11_thieves 84 = .ok (.getfield 10, 3) := by decide +kernel
theorem dX11_thieves_87 : decode cX11_thieves 87 = .ok (.getfield 343, 3) := by decide +kernel
theorem dX11_thieves_90 : decode cX11_thieves 90 = .ok (.getfield 347, 3) := by decide +kernel
theorem dX11_thieves_93 : decode cX11_thieves 93 = .ok (.if_icmp .ge 30, 3) := by decide +kernel
theorem dX11_thieves_123 : decode cX11_thieves 123 = .ok (.iload 4, 2) := by decide +kernel
theorem dX11_thieves_125 : decode cX11_thieves 125 = .ok (.ifCond .eq 7, 3) := by decide +kernel
theorem dX11_thieves_128 : decode cX11_thieves 128 = .ok (.iload_n 3, 1) := by decide +kernel
theorem dX11_thieves_129 : decode cX11_thieves 129 = .ok (.goto 4, 3) := by decide +kernel
theorem dX11_thieves_133 : decode cX11_thieves 133 = .ok (.istore_n 2, 1) := by decide +kernel
theorem dX11_thieves_134 : decode cX11_thieves 134 = .ok (.iinc 3 1, 3) := by decide +kernel
theorem dX11_thieves_137 : decode cX11_thieves 137 = .ok (.goto (-98), 3) := by decide +kernel
theorem dX11_thieves_140 : decode cX11_thieves 140 = .ok (.iload_n 2, 1) := by decide +kernel
theorem dX11_thieves_141 : decode cX11_thieves 141 = .ok (.ireturn, 1) := by decide +kernel
theorem dX1_addForecast_0 : decode cX1_addForecast 0 = .ok (.aload_n 0, 1) := by decide +kernel
theorem dX1_addForecast_1 : decode cX1_addForecast 1 = .ok (.getfield 21, 3) := by decide +kernel
theorem dX1_addForecast_4 : decode cX1_addForecast 4 = .ok (.aload_n 0, 1) := by decide +kernel
theorem dX1_addForecast_5 : decode cX1_addForecast 5 = .ok (.getfield 41, 3) := by decide +kernel
theorem dX1_addForecast_8 : decode cX1_addForecast 8 = .ok (.iload_n 1, 1) := by decide +kernel
theorem dX1_addForecast_9 : decode cX1_addForecast 9 = .ok (.iastore, 1) := by decide +kernel
theorem dX1_addForecast_10 : decode cX1_addForecast 10 = .ok (.aload_n 0, 1) := by decide +kernel
theorem dX1_addForecast_11 : decode cX1_addForecast 11 = .ok (.getfield 24, 3) := by decide +kernel
theorem dX1_addForecast_14 : decode cX1_addForecast 14 = .ok (.aload_n 0, 1) := by decide +kernel
theorem dX1_addForecast_15 : decode cX1_addForecast 15 = .ok (.getfield 41, 3) := by decide +kernel
theorem dX1_addForecast_18 : decode cX1_addForecast 18 = .ok (.iload_n 2, 1) := by decide +kernel
theorem dX1_addForecast_19 : decode cX1_addForecast 19 = .ok (.bastore, 1) := by decide +kernel
theorem dX1_addForecast_20 : decode cX1_addForecast 20 = .ok (.aload_n 0, 1) := by decide +kernel
theorem dX1_addForecast_21 : decode cX1_addForecast 21 = .ok (.dup, 1) := by decide +kernel
theorem dX1_addForecast_22 : decode cX1_addForecast 22 = .ok (.getfield 41, 3) := by decide +kernel
theorem dX1_addForecast_25 : decode cX1_addForecast 25 = .ok (.iconst 1, 1) := by decide +kernel
theorem dX1_addForecast_26 : decode cX1_addForecast 26 = .ok (.iadd, 1) := by decide +kernel
theorem dX1_addForecast_27 : decode cX1_addForecast 27 = .ok (.dup_x1, 1) := by decide +kernel
theorem dX1_addForecast_28 : decode cX1_addForecast 28 = .ok (.putfield 41, 3) := by decide +kernel
theorem dX1_addForecast_31 : decode cX1_addForecast 31 = .ok (.ireturn, 1) := by decide +kernel
theorem dX1_addOffer_0 : decode cX1_addOffer 0 = .ok (.aload_n 0, 1) := by decide +kernel
theorem dX1_addOffer_1 : decode cX1_addOffer 1 = .ok (.getfield 28, 3) := by decide +kernel
theorem dX1_addOffer_4 : decode cX1_addOffer 4 = .ok (.aload_n 0, 1) := by decide +kernel
theorem dX1_addOffer_5 : decode cX1_addOffer 5 = .ok (.getfield 44, 3) := by decide +kernel
theorem dX1_addOffer_8 : decode cX1_addOffer 8 = .ok (.iload_n 1, 1) := by decide +kernel
theorem dX1_addOffer_9 : decode cX1_addOffer 9 = .ok (.bastore, 1) := by decide +kernel
theorem dX1_addOffer_10 : decode cX1_addOffer 10 = .ok (.aload_n 0, 1) := by decide +kernel
theorem dX1_addOffer_11 : decode cX1_addOffer 11 = .ok (.getfield 31, 3) := by decide +kernel
theorem dX1_addOffer_14 : decode cX1_addOffer 14 = .ok (.aload_n 0, 1) := by decide +kernel
theorem dX1_addOffer_15 : decode cX1_addOffer 15 = .ok (.getfield 44, 3) := by decide +kernel
theorem dX1_addOffer_18 : decode cX1_addOffer 18 = .ok (.iload_n 2, 1) := by decide +kernel
theorem dX1_addOffer_19 : decode cX1_addOffer 19 = .ok (.iastore, 1) := by decide +kernel
theorem dX1_addOffer_20 : decode cX1_addOffer 20 = .ok (.aload_n 0, 1) := by decide +kernel
theorem dX1_addOffer_21 : decode cX1_addOffer 21 = .ok (.getfield 34, 3) := by decide +kernel
theorem dX1_addOffer_24 : decode cX1_addOffer 24 = .ok (.aload_n 0, 1) := by decide +kernel
theorem dX1_addOffer_25 : decode cX1_addOffer 25 = .ok (.getfield 44, 3) := by decide +kernel
theorem dX1_addOffer_28 : decode cX1_addOffer 28 = .ok (.iload_n 3, 1) := by decide +kernel
theorem dX1_addOffer_29 : decode cX1_addOffer 29 = .ok (.iastore, 1) := by decide +kernel
theorem dX1_addOffer_30 : decode cX1_addOffer 30 = .ok (.aload_n 0, 1) := by decide +kernel
theorem dX1_addOffer_31 : decode cX1_addOffer 31 = .ok (.dup, 1) := by decide +kernel
theorem dX1_addOffer_32 : decode cX1_addOffer 32 = .ok (.getfield 44, 3) := by decide +kernel
theorem dX1_addOffer_35 : decode cX1_addOffer 35 = .ok (.iconst 1, 1) := by decide +kernel
theorem dX1_addOffer_36 : decode cX1_addOffer 36 = .ok (.iadd, 1) := by decide +kernel
theorem dX1_addOffer_37 : decode cX1_addOffer 37 = .ok (.dup_x1, 1) := by decide +kernel
theorem dX1_addOffer_38 : decode cX1_addOffer 38 = .ok (.putfield 44, 3) := by decide +kernel
theorem dX1_addOffer_41 : decode cX1_addOffer 41 = .ok (.ireturn, 1) := by decide +kernel
theorem dX1_falseAlarms_0 : decode cX1_falseAlarms 0 = .ok (.iconst 0, 1) := by decide +kernel
theorem dX1_falseAlarms_1 : decode cX1_falseAlarms 1 = .ok (.istore_n 2, 1) := by decide +kernel
theorem dX1_falseAlarms_2 : decode cX1_falseAlarms 2 = .ok (.iconst 0, 1) := by decide +kernel
theorem dX1_falseAlarms_3 : decode cX1_falseAlarms 3 = .ok (.istore_n 3, 1) := by decide +kernel
theorem dX1_falseAlarms_4 : decode cX1_falseAlarms 4 = .ok (.iload_n 3, 1) := by decide +kernel
theorem dX1_falseAlarms_5 : decode cX1_falseAlarms 5 = .ok (.aload_n 0, 1) := by decide +kernel
theorem dX1_falseAlarms_6 : decode cX1_falseAlarms 6 = .ok (.getfield 41, 3) := by decide +kernel
theorem dX1_falseAlarms_9 : decode cX1_falseAlarms 9 = .ok (.if_icmp .ge 36, 3) := by decide +kernel
theorem dX1_falseAlarms_45 : decode cX1_falseAlarms 45 = .ok (.iload_n 2, 1) := by decide +kernel
theorem dX1_falseAlarms_46 : decode cX1_falseAlarms 46 = .ok (.ireturn, 1) := by decide +kernel
theorem dX1_misses_0 : decode cX1_misses 0 = .ok (.iconst 0, 1) := by decide +kernel
theorem dX1_misses_1 : decode cX1_misses 1 = .ok (.istore_n 2, 1) := by decide +kernel
theorem dX1_misses_2 : decode cX1_misses 2 = .ok (.iconst 0, 1) := by decide +kernel
theorem dX1_misses_3 : decode cX1_misses 3 = .ok (.istore_n 3, 1) := by decide +kernel
theorem dX1_misses_4 : decode cX1_misses 4 = .ok (.iload_n 3, 1) := by decide +kernel
theorem dX1_misses_5 : decode cX1_misses 5 = .ok (.aload_n 0, 1) := by decide +kernel
theorem dX1_misses_6 : decode cX1_misses 6 = .ok (.getfield 41, 3) := by decide +kernel
theorem dX1_misses_9 : decode cX1_misses 9 = .ok (.if_icmp .ge 36, 3) := by decide +kernel
theorem dX1_misses_45 : decode cX1_misses 45 = .ok (.iload_n 2, 1) := by decide +kernel
theorem dX1_misses_46 : decode cX1_misses 46 = .ok (.ireturn, 1) := by decide +kernel
theorem dX1_traded_0 : decode cX1_traded 0 = .ok (.iconst 0, 1) := by decide +kernel
theorem dX1_traded_1 : decode cX1_traded 1 = .ok (.istore_n 2, 1) := by decide +kernel
theorem dX1_traded_2 : decode cX1_traded 2 = .ok (.iconst 0, 1) := by decide +kernel
theorem dX1_traded_3 : decode cX1_traded 3 = .ok (.istore_n 3, 1) := by decide +kernel
theorem dX1_traded_4 : decode cX1_traded 4 = .ok (.iconst 0, 1) := by decide +kernel
theorem dX1_traded_5 : decode cX1_traded 5 = .ok (.istore 4, 2) := by decide +kernel
theorem dX1_traded_7 : decode cX1_traded 7 = .ok (.iload 4, 2) := by decide +kernel
theorem dX1_traded_9 : decode cX1_traded 9 = .ok (.aload_n 0, 1) := by decide +kernel
theorem dX1_traded_10 : decode cX1_traded 10 = .ok (.getfield 44, 3) := by decide +kernel
theorem dX1_traded_13 : decode cX1_traded 13 = .ok (.if_icmp .ge 79, 3) := by decide +kernel
theorem dX1_traded_92 : decode cX1_traded 92 = .ok (.iload_n 2, 1) := by decide +kernel
theorem dX1_traded_93 : decode cX1_traded 93 = .ok (.iload_n 3, 1) := by decide +kernel
theorem dX1_traded_94 : decode cX1_traded 94 = .ok (.invokestatic 47, 3) := by decide +kernel
theorem dX1_traded_97 : decode cX1_traded 97 = .ok (.ireturn, 1) := by decide +kernel
theorem z_m1 {i : Int32} (h : 0 ≤ i ∧ i ≤ -1) : False := by
  obtain ⟨h1, h2⟩ := h
  rw [fa_le] at h1 h2
  have e1 : (0 : Int32).toInt = 0 := by decide
  have e2 : (-1 : Int32).toInt = -1 := by decide
  omega
theorem z_shr0 (n : Int32) : ((0 : Int32) >>> n) &&& 1 = 0 := by
  have h : (0 : Int32) >>> n = 0 := by
    apply Int32.toBitVec_inj.mp
    simp
  rw [h]
  decide
set_option maxHeartbeats 4000000 in
set_option maxRecDepth 100000 in
theorem k_isOf (l : Launch) (D : va_G) (cy : Nat → ClassId) (L : List Nat) (σ : Nat → va_E) (φ : Nat → Nat → Nat → Int32) (ρ : Nat → Nat → Int32) (b n : Int32) : zMI l D cy yX11_isOf cX11_isOf 2 .boolean (zrm 1 0 0) [.int b, .int n] L σ φ ρ (zpu L σ φ ρ (fun r => b = 0 → r = 0)) := by
  refine zMI.mk (by decide) (Nat.le_of_ble_eq_true rfl) (fun E hE hret => ?_)
  show zW E 0 0 L σ φ ρ 0 [(0, .int b), (1, .int n)] []
  refine x_iload_n hE dX11_isOf_0 rfl 1 rfl ?_
  refine x_iconst (v := 0) hE dX11_isOf_1 (by decide) ?_
  refine x_bipush (v := 7) hE dX11_isOf_2 (by decide) ?_
  refine c_ip hE (r_S (st := []) hE (k_isWithin l D cy L σ φ ρ (n) (0) (7)) q582 q583 q113 q584 ⟨by decide, by decide, pn_X11_isWithin⟩ ⟨Nat.le_of_ble_eq_true rfl, Nat.le_of_ble_eq_true rfl⟩ ⟨Nat.le_of_ble_eq_true rfl, Nat.le_of_ble_eq_true rfl⟩ rfl (Nat.le_of_ble_eq_true rfl) dX11_isOf_4) (fun r4 h4 => ?_)
  refine x_widen (k' := 0) (n' := 0) (Nat.le_of_ble_eq_true rfl) (Nat.le_of_ble_eq_true rfl) ?_
  refine x_if_eq (tgt := 23) hE dX11_isOf_7 (by decide) (fun c_7 => ?_) (fun c_7 => ?_)
  · refine x_iconst (v := 0) hE dX11_isOf_23 (by decide) ?_
    exact hret _ _ _ _ _ _ _ _ (0) (Nat.le_of_ble_eq_true rfl) (Nat.le_of_ble_eq_true rfl) dX11_isOf_24 (rfl) (⟨rfl, fun _ => rfl⟩)
  · refine x_iload_n hE dX11_isOf_10 rfl 0 rfl ?_
    refine x_iload_n hE dX11_isOf_11 rfl 1 rfl ?_
    refine x_ishr hE dX11_isOf_12 ?_
    refine x_iconst (v := 1) hE dX11_isOf_13 (by decide) ?_
    refine x_iand hE dX11_isOf_14 ?_
    refine x_iconst (v := 1) hE dX11_isOf_15 (by decide) ?_
    refine x_icmp_ne (tgt := 23) hE dX11_isOf_16 (by decide) (fun c_16 => ?_) (fun c_16 => ?_)
    · refine x_iconst (v := 0) hE dX11_isOf_23 (by decide) ?_
      exact hret _ _ _ _ _ _ _ _ (0) (Nat.le_of_ble_eq_true rfl) (Nat.le_of_ble_eq_true rfl) dX11_isOf_24 (rfl) (⟨rfl, fun _ => rfl⟩)
    · refine x_iconst (v := 1) hE dX11_isOf_19 (by decide) ?_
      refine x_goto (tgt := 24) hE dX11_isOf_20 (by decide) ?_
      exact hret _ _ _ _ _ _ _ _ (1) (Nat.le_of_ble_eq_true rfl) (Nat.le_of_ble_eq_true rfl) dX11_isOf_24 (rfl) (⟨rfl, fun h => absurd (h ▸ c_16 : ((0 : Int32) >>> _) &&& 1 = 1) (by rw [z_shr0]; decide)⟩)
set_option maxHeartbeats 4000000 in
set_option maxRecDepth 100000 in
theorem k_addForecast (l : Launch) (D : va_G) (cy : Nat → ClassId) (L : List Nat) (σ : Nat → va_E) (φ : Nat → Nat → Nat → Int32) (ρ : Nat → Nat → Int32) {a i0 i1 i2 i3 i4 i5 i6 i7 : Nat} (v h : Int32) (ha : zT L σ a (.inr (1, [.int 0, .int 0, .int 0, .ref i0, .ref i1, .ref i2, .ref i3, .ref i4, .ref i5, .ref i6, .ref i7]))) (hi3 : zT L σ i3 (zIA cy 12)) (hi4 : zT L σ i4 (zZA cy 12)) (h1 : φ 1 1 a = 0) : zMI l D cy yX1_addForecast cX1_addForecast 3 .int (zrm 0 0 0) [.ref a, .int v, .int h] L σ φ ρ (fun r _ => r = 1) := by
  refine zMI.mk (by decide) (Nat.le_of_ble_eq_true rfl) (fun E hE hret => ?_)
  show zW E 0 0 L σ φ ρ 0 [(0, .ref a), (1, .int v), (2, .int h)] []
  refine x_aload_n hE dX1_addForecast_0 rfl 0 rfl ?_
  refine h_getr hE ha rfl inZX1 6 (by decide) q330 rfl dX1_addForecast_1 ?_
  refine x_aload_n hE dX1_addForecast_4 rfl 0 rfl ?_
  refine h_geti hE ha rfl inZX1 1 (by decide) q320 rfl dX1_addForecast_5 ?_
  refine x_norm (y := 0) (h1) ?_
  refine x_iload_n hE dX1_addForecast_8 rfl 1 rfl ?_
  refine h_iast hE hi3 (by unfold vp_in; decide) dX1_addForecast_9 ?_
  refine x_aload_n hE dX1_addForecast_10 rfl 0 rfl ?_
  refine h_getr hE ha rfl inZX1 7 (by decide) q331 rfl dX1_addForecast_11 ?_
  refine x_aload_n hE dX1_addForecast_14 rfl 0 rfl ?_
  refine h_geti hE ha rfl inZX1 1 (by decide) q320 rfl dX1_addForecast_15 ?_
  refine x_norm (y := 0) (h1) ?_
  refine x_iload_n hE dX1_addForecast_18 rfl 2 rfl ?_
  refine h_zast hE hi4 (by unfold vp_in; decide) dX1_addForecast_19 ?_
  refine x_aload_n hE dX1_addForecast_20 rfl 0 rfl ?_
  refine x_dup hE dX1_addForecast_21 rfl ?_
  refine h_geti hE ha rfl inZX1 1 (by decide) q320 rfl dX1_addForecast_22 ?_
  refine x_norm (y := 0) (h1) ?_
  refine x_iconst (v := 1) hE dX1_addForecast_25 (by decide) ?_
  refine x_iadd hE dX1_addForecast_26 ?_
  refine x_norm (y := 1) (by decide) ?_
  refine x_dup_x1 hE dX1_addForecast_27 rfl rfl ?_
  refine h_puti (ty := .int) (ty0 := tyX1) hE ha rfl inZX1 tyX1_ok nmX1 1 (by decide) q320 rfl rfl (by decide +kernel) rfl rfl dX1_addForecast_28 ?_
  exact hret _ _ _ _ _ _ _ _ (1) (Nat.le_of_ble_eq_true rfl) (Nat.le_of_ble_eq_true rfl) dX1_addForecast_31 (rfl) (rfl)
set_option maxHeartbeats 4000000 in
set_option maxRecDepth 100000 in
theorem k_addOffer (l : Launch) (D : va_G) (cy : Nat → ClassId) (L : List Nat) (σ : Nat → va_E) (φ : Nat → Nat → Nat → Int32) (ρ : Nat → Nat → Int32) {a i0 i1 i2 i3 i4 i5 i6 i7 : Nat} (b p d : Int32) (ha : zT L σ a (.inr (1, [.int 0, .int 0, .int 0, .ref i0, .ref i1, .ref i2, .ref i3, .ref i4, .ref i5, .ref i6, .ref i7]))) (hi5 : zT L σ i5 (zZA cy 10)) (hi6 : zT L σ i6 (zIA cy 10)) (hi7 : zT L σ i7 (zIA cy 10)) (h2 : φ 1 2 a = 0) : zMI l D cy yX1_addOffer cX1_addOffer 4 .int (zrm 0 0 0) [.ref a, .int b, .int p, .int d] L σ φ ρ (fun r _ => r = 1) := by
  refine zMI.mk (by decide) (Nat.le_of_ble_eq_true rfl) (fun E hE hret => ?_)
  show zW E 0 0 L σ φ ρ 0 [(0, .ref a), (1, .int b), (2, .int p), (3, .int d)] []
  refine x_aload_n hE dX1_addOffer_0 rfl 0 rfl ?_
  refine h_getr hE ha rfl inZX1 8 (by decide) q332 rfl dX1_addOffer_1 ?_
  refine x_aload_n hE dX1_addOffer_4 rfl 0 rfl ?_
  refine h_geti hE ha rfl inZX1 2 (by decide) q322 rfl dX1_addOffer_5 ?_
  refine x_norm (y := 0) (h2) ?_
  refine x_iload_n hE dX1_addOffer_8 rfl 1 rfl ?_
  refine h_zast hE hi5 (by unfold vp_in; decide) dX1_addOffer_9 ?_
  refine x_aload_n hE dX1_addOffer_10 rfl 0 rfl ?_
  refine h_getr hE ha rfl inZX1 9 (by decide) q333 rfl dX1_addOffer_11 ?_
  refine x_aload_n hE dX1_addOffer_14 rfl 0 rfl ?_
  refine h_geti hE ha rfl inZX1 2 (by decide) q322 rfl dX1_addOffer_15 ?_
  refine x_norm (y := 0) (h2) ?_
  refine x_iload_n hE dX1_addOffer_18 rfl 2 rfl ?_
  refine h_iast hE hi6 (by unfold vp_in; decide) dX1_addOffer_19 ?_
  refine x_aload_n hE dX1_addOffer_20 rfl 0 rfl ?_
  refine h_getr hE ha rfl inZX1 10 (by decide) q334 rfl dX1_addOffer_21 ?_
  refine x_aload_n hE dX1_addOffer_24 rfl 0 rfl ?_
  refine h_geti hE ha rfl inZX1 2 (by decide) q322 rfl dX1_addOffer_25 ?_
  refine x_norm (y := 0) (h2) ?_
  refine x_iload_n hE dX1_addOffer_28 rfl 3 rfl ?_
  refine h_iast hE hi7 (by unfold vp_in; decide) dX1_addOffer_29 ?_
  refine x_aload_n hE dX1_addOffer_30 rfl 0 rfl ?_
  refine x_dup hE dX1_addOffer_31 rfl ?_
  refine h_geti hE ha rfl inZX1 2 (by decide) q322 rfl dX1_addOffer_32 ?_
  refine x_norm (y := 0) (h2) ?_
  refine x_iconst (v := 1) hE dX1_addOffer_35 (by decide) ?_
  refine x_iadd hE dX1_addOffer_36 ?_
  refine x_norm (y := 1) (by decide) ?_
  refine x_dup_x1 hE dX1_addOffer_37 rfl rfl ?_
  refine h_puti (ty := .int) (ty0 := tyX1) hE ha rfl inZX1 tyX1_ok nmX1 2 (by decide) q322 rfl rfl (by decide +kernel) rfl rfl dX1_addOffer_38 ?_
  exact hret _ _ _ _ _ _ _ _ (1) (Nat.le_of_ble_eq_true rfl) (Nat.le_of_ble_eq_true rfl) dX1_addOffer_41 (rfl) (rfl)
set_option maxHeartbeats 4000000 in
set_option maxRecDepth 100000 in
theorem k_misses (l : Launch) (D : va_G) (cy : Nat → ClassId) (L : List Nat) (σ : Nat → va_E) (φ : Nat → Nat → Nat → Int32) (ρ : Nat → Nat → Int32) {a i0 i1 i2 i3 i4 i5 i6 i7 : Nat} (t : Int32) (ha : zT L σ a (.inr (1, [.int 0, .int 0, .int 0, .ref i0, .ref i1, .ref i2, .ref i3, .ref i4, .ref i5, .ref i6, .ref i7]))) (h1 : φ 1 1 a = 0) : zMI l D cy yX1_misses cX1_misses 4 .int (zrm 1 0 0) [.ref a, .int t] L σ φ ρ (zpu L σ φ ρ (fun r => r = 0)) := by
  refine zMI.mk (by decide) (Nat.le_of_ble_eq_true rfl) (fun E hE hret => ?_)
  show zW E 0 0 L σ φ ρ 0 [(0, .ref a), (1, .int t)] []
  refine x_iconst (v := 0) hE dX1_misses_0 (by decide) ?_
  refine x_istore_n (lv' := [(2, .int 0), (0, .ref a), (1, .int t)]) hE dX1_misses_1 rfl (by decide) rfl ?_
  refine x_iconst (v := 0) hE dX1_misses_2 (by decide) ?_
  refine x_istore_n (lv' := [(3, .int 0), (2, .int 0), (0, .ref a), (1, .int t)]) hE dX1_misses_3 rfl (by decide) rfl ?_
  refine x_iload_n hE dX1_misses_4 rfl 0 rfl ?_
  refine x_aload_n hE dX1_misses_5 rfl 2 rfl ?_
  refine h_geti hE ha rfl inZX1 1 (by decide) q320 rfl dX1_misses_6 ?_
  refine x_norm (y := 0) (h1) ?_
  refine x_icmp_ge (tgt := 45) hE dX1_misses_9 (by decide) (fun c_9 => ?_) (fun c_9 => absurd (by decide) c_9)
  refine x_iload_n hE dX1_misses_45 rfl 1 rfl ?_
  exact hret _ _ _ _ _ _ _ _ (0) (Nat.le_of_ble_eq_true rfl) (Nat.le_of_ble_eq_true rfl) dX1_misses_46 (rfl) (⟨rfl, rfl⟩)
set_option maxHeartbeats 4000000 in
set_option maxRecDepth 100000 in
theorem k_falseAlarms (l : Launch) (D : va_G) (cy : Nat → ClassId) (L : List Nat) (σ : Nat → va_E) (φ : Nat → Nat → Nat → Int32) (ρ : Nat → Nat → Int32) {a i0 i1 i2 i3 i4 i5 i6 i7 : Nat} (t : Int32) (ha : zT L σ a (.inr (1, [.int 0, .int 0, .int 0, .ref i0, .ref i1, .ref i2, .ref i3, .ref i4, .ref i5, .ref i6, .ref i7]))) (h1 : φ 1 1 a = 0) : zMI l D cy yX1_falseAlarms cX1_falseAlarms 4 .int (zrm 1 0 0) [.ref a, .int t] L σ φ ρ (zpu L σ φ ρ (fun r => r = 0)) := by
  refine zMI.mk (by decide) (Nat.le_of_ble_eq_true rfl) (fun E hE hret => ?_)
  show zW E 0 0 L σ φ ρ 0 [(0, .ref a), (1, .int t)] []
  refine x_iconst (v := 0) hE dX1_falseAlarms_0 (by decide) ?_
  refine x_istore_n (lv' := [(2, .int 0), (0, .ref a), (1, .int t)]) hE dX1_falseAlarms_1 rfl (by decide) rfl ?_
  refine x_iconst (v := 0) hE dX1_falseAlarms_2 (by decide) ?_
  refine x_istore_n (lv' := [(3, .int 0), (2, .int 0), (0, .ref a), (1, .int t)]) hE dX1_falseAlarms_3 rfl (by decide) rfl ?_
  refine x_iload_n hE dX1_falseAlarms_4 rfl 0 rfl ?_
  refine x_aload_n hE dX1_falseAlarms_5 rfl 2 rfl ?_
  refine h_geti hE ha rfl inZX1 1 (by decide) q320 rfl dX1_falseAlarms_6 ?_
  refine x_norm (y := 0) (h1) ?_
  refine x_icmp_ge (tgt := 45) hE dX1_falseAlarms_9 (by decide) (fun c_9 => ?_) (fun c_9 => absurd (by decide) c_9)
  refine x_iload_n hE dX1_falseAlarms_45 rfl 1 rfl ?_
  exact hret _ _ _ _ _ _ _ _ (0) (Nat.le_of_ble_eq_true rfl) (Nat.le_of_ble_eq_true rfl) dX1_falseAlarms_46 (rfl) (⟨rfl, rfl⟩)
set_option maxHeartbeats 4000000 in
set_option maxRecDepth 100000 in
theorem k_traded (l : Launch) (D : va_G) (cy : Nat → ClassId) (L : List Nat) (σ : Nat → va_E) (φ : Nat → Nat → Nat → Int32) (ρ : Nat → Nat → Int32) {a i0 i1 i2 i3 i4 i5 i6 i7 : Nat} (t : Int32) (ha : zT L σ a (.inr (1, [.int 0, .int 0, .int 0, .ref i0, .ref i1, .ref i2, .ref i3, .ref i4, .ref i5, .ref i6, .ref i7]))) (h2 : φ 1 2 a = 0) : zMI l D cy yX1_traded cX1_traded 5 .int (zrm 1 0 0) [.ref a, .int t] L σ φ ρ (zpu L σ φ ρ (fun r => r = 0)) := by
  refine zMI.mk (by decide) (Nat.le_of_ble_eq_true rfl) (fun E hE hret => ?_)
  show zW E 0 0 L σ φ ρ 0 [(0, .ref a), (1, .int t)] []
  refine x_iconst (v := 0) hE dX1_traded_0 (by decide) ?_
  refine x_istore_n (lv' := [(2, .int 0), (0, .ref a), (1, .int t)]) hE dX1_traded_1 rfl (by decide) rfl ?_
  refine x_iconst (v := 0) hE dX1_traded_2 (by decide) ?_
  refine x_istore_n (lv' := [(3, .int 0), (2, .int 0), (0, .ref a), (1, .int t)]) hE dX1_traded_3 rfl (by decide) rfl ?_
  refine x_iconst (v := 0) hE dX1_traded_4 (by decide) ?_
  refine x_istore (lv' := [(4, .int 0), (3, .int 0), (2, .int 0), (0, .ref a), (1, .int t)]) hE dX1_traded_5 (by decide) rfl ?_
  refine x_iload hE dX1_traded_7 0 rfl ?_
  refine x_aload_n hE dX1_traded_9 rfl 3 rfl ?_
  refine h_geti hE ha rfl inZX1 2 (by decide) q322 rfl dX1_traded_10 ?_
  refine x_norm (y := 0) (h2) ?_
  refine x_icmp_ge (tgt := 92) hE dX1_traded_13 (by decide) (fun c_13 => ?_) (fun c_13 => absurd (by decide) c_13)
  refine x_iload_n hE dX1_traded_92 rfl 2 rfl ?_
  refine x_iload_n hE dX1_traded_93 rfl 1 rfl ?_
  refine x_min hE q1336 q780 q130 q781 (Nat.le_of_ble_eq_true rfl) (Nat.le_of_ble_eq_true rfl) (Nat.le_of_ble_eq_true rfl) (Nat.le_of_ble_eq_true rfl) dX1_traded_94 ?_
  exact hret _ _ _ _ _ _ _ _ (if (0) < (0) then (0) else (0)) (Nat.le_of_ble_eq_true rfl) (Nat.le_of_ble_eq_true rfl) dX1_traded_97 (rfl) (⟨rfl, rfl⟩)
set_option maxHeartbeats 4000000 in
set_option maxRecDepth 100000 in
theorem o_rained (l : Launch) (D : va_G) (cy : Nat → ClassId) (L : List Nat) (σ : Nat → va_E) (φ : Nat → Nat → Nat → Int32) (ρ : Nat → Nat → Int32) {x : Nat} (i : Int32) (w : Int32) (hx : zOR cy L σ φ x) : zMI l D cy yX11_rained cX11_rained 4 .int (zrm 3 0 0) [.ref x, .int i, .int w] L σ φ ρ (fun r _ => r = if i = -1 then 0 else -2) := by
  refine zMI.mk (by decide) (Nat.le_of_ble_eq_true rfl) (fun E hE hret => ?_)
  show zW E 0 0 L σ φ ρ 0 [(0, .ref x), (1, .int i), (2, .int w)] []
  obtain ⟨now, kept, tape, reader, weather, planner, ways, la, wo, sp, li, te, g, la', wo', sp', li', te', g', hx, hs, hs0, hk, hk0, htp, htp0, hrd, hrd0, hrd1, hwe, hwe0, hpl, hwy⟩ := hx
  obtain ⟨hn, hla, hwo, hsp, hli, hte⟩ := id hs
  obtain ⟨p45, p46, p00, p01, p10, p50, p51, pl0, pl1, pl2, pg⟩ := id hs0
  obtain ⟨f0, f1, f2, f3, f4, f5, f6, f7, hL, hL0, hL1, hL2, hL3, hL4, hL5, hL6, hL7⟩ := id hla
  obtain ⟨w0, w1, w2, w3, w4, w5, w6, w7, hW, hW0, hW1, hW2, hW3, hW4, hW5, hW6, hW7⟩ := id hwo
  obtain ⟨s0, s1, hSp, hSp0, hSp1, hSpW⟩ := id hsp
  obtain ⟨i0, i1, i2, i3, i4, i5, i6, i7, hLi, hLi0, hLi1, hLi2, hLi3, hLi4, hLi5, hLi6, hLi7⟩ := id hli
  obtain ⟨t0, t1, t2, t3, hTp, hTp0, hTp1, hTp2, hTp3, hTn1, hTn2⟩ := id htp
  refine x_aload_n hE dX11_rained_0 rfl 0 rfl ?_
  refine h_getr hE hx rfl inZX11 0 (by decide) q556 rfl dX11_rained_1 ?_
  refine h_getr hE hn rfl inZX4 1 (by decide) q369 rfl dX11_rained_4 ?_
  refine x_astore_n (lv' := [(3, .ref wo), (0, .ref x), (1, .int i), (2, .int w)]) hE dX11_rained_7 rfl (by decide) rfl ?_
  refine x_iload_n hE dX11_rained_8 rfl 2 rfl ?_
  refine x_iconst (v := -1) hE dX11_rained_9 (by decide) ?_
  refine x_icmp_ne (tgt := 18) hE dX11_rained_10 (by decide) (fun c_10 => ?_) (fun c_10 => ?_)
  · refine x_iload_n hE dX11_rained_18 rfl 2 rfl ?_
    refine x_if_lt (tgt := 30) hE dX11_rained_19 (by decide) (fun c_19 => ?_) (fun c_19 => ?_)
    · refine x_bipush (v := -2) hE dX11_rained_30 (by decide) ?_
      exact hret _ _ _ _ _ _ _ _ (-2) (Nat.le_of_ble_eq_true rfl) (Nat.le_of_ble_eq_true rfl) dX11_rained_32 (rfl) (by grind [zb])
    · refine x_iload_n hE dX11_rained_22 rfl 2 rfl ?_
      refine x_aload_n hE dX11_rained_23 rfl 0 rfl ?_
      refine h_geti hE hW rfl inZX10 11 (by decide) q253 rfl dX11_rained_24 ?_
      refine x_norm (y := 0) (by simpa using p10 11) ?_
      refine x_icmp_lt (tgt := 33) hE dX11_rained_27 (by decide) (fun c_27 => absurd c_27 (z_le_nlt (z_nlt c_19))) (fun c_27 => ?_)
      refine x_bipush (v := -2) hE dX11_rained_30 (by decide) ?_
      exact hret _ _ _ _ _ _ _ _ (-2) (Nat.le_of_ble_eq_true rfl) (Nat.le_of_ble_eq_true rfl) dX11_rained_32 (rfl) (by grind [zb])
  · refine x_aload_n hE dX11_rained_13 rfl 0 rfl ?_
    refine h_geti hE hW rfl inZX10 11 (by decide) q253 rfl dX11_rained_14 ?_
    refine x_norm (y := 0) (by simpa using p10 11) ?_
    exact hret _ _ _ _ _ _ _ _ (0) (Nat.le_of_ble_eq_true rfl) (Nat.le_of_ble_eq_true rfl) dX11_rained_17 (rfl) (by grind [zb])
set_option maxHeartbeats 4000000 in
set_option maxRecDepth 100000 in
theorem o_match (l : Launch) (D : va_G) (cy : Nat → ClassId) (L : List Nat) (σ : Nat → va_E) (φ : Nat → Nat → Nat → Int32) (ρ : Nat → Nat → Int32) {x : Nat} (a : Int32) (b : Int32) (p : Int32) (hx : zOR cy L σ φ x) : zMI l D cy yX11_match cX11_match 6 .int (zrm 3 0 0) [.ref x, .int a, .int b, .int p] L σ φ ρ (fun r _ => r = -1) := by
  refine zMI.mk (by decide) (Nat.le_of_ble_eq_true rfl) (fun E hE hret => ?_)
  show zW E 0 0 L σ φ ρ 0 [(0, .ref x), (1, .int a), (2, .int b), (3, .int p)] []
  obtain ⟨now, kept, tape, reader, weather, planner, ways, la, wo, sp, li, te, g, la', wo', sp', li', te', g', hx, hs, hs0, hk, hk0, htp, htp0, hrd, hrd0, hrd1, hwe, hwe0, hpl, hwy⟩ := hx
  obtain ⟨hn, hla, hwo, hsp, hli, hte⟩ := id hs
  obtain ⟨p45, p46, p00, p01, p10, p50, p51, pl0, pl1, pl2, pg⟩ := id hs0
  obtain ⟨f0, f1, f2, f3, f4, f5, f6, f7, hL, hL0, hL1, hL2, hL3, hL4, hL5, hL6, hL7⟩ := id hla
  obtain ⟨w0, w1, w2, w3, w4, w5, w6, w7, hW, hW0, hW1, hW2, hW3, hW4, hW5, hW6, hW7⟩ := id hwo
  obtain ⟨s0, s1, hSp, hSp0, hSp1, hSpW⟩ := id hsp
  obtain ⟨i0, i1, i2, i3, i4, i5, i6, i7, hLi, hLi0, hLi1, hLi2, hLi3, hLi4, hLi5, hLi6, hLi7⟩ := id hli
  obtain ⟨t0, t1, t2, t3, hTp, hTp0, hTp1, hTp2, hTp3, hTn1, hTn2⟩ := id htp
  refine x_iload_n hE dX11_match_0 rfl 1 rfl ?_
  refine c_ip hE (r_S (st := []) hE (k_bitCount l D cy L σ φ ρ (a)) q1202 q1023 q133 q1024 ⟨by decide, by decide, pn_J6_bitCount_0f7a4⟩ ⟨Nat.le_of_ble_eq_true rfl, Nat.le_of_ble_eq_true rfl⟩ ⟨Nat.le_of_ble_eq_true rfl, Nat.le_of_ble_eq_true rfl⟩ rfl (Nat.le_of_ble_eq_true rfl) dX11_match_1) (fun r1 h_1 => ?_)
  refine x_widen (k' := 0) (n' := 0) (Nat.le_of_ble_eq_true rfl) (Nat.le_of_ble_eq_true rfl) ?_
  refine x_istore (lv' := [(4, .int r1), (0, .ref x), (1, .int a), (2, .int b), (3, .int p)]) hE dX11_match_4 (by decide) rfl ?_
  refine x_iload_n hE dX11_match_6 rfl 2 rfl ?_
  refine x_aload_n hE dX11_match_7 rfl 1 rfl ?_
  refine h_getr hE hx rfl inZX11 0 (by decide) q556 rfl dX11_match_8 ?_
  refine h_getr hE hn rfl inZX4 0 (by decide) q362 rfl dX11_match_11 ?_
  refine h_geti hE hL rfl inZX0 1 (by decide) q161 rfl dX11_match_14 ?_
  refine x_norm (y := 0) (p01) ?_
  refine c_ip hE (r_S (st := []) hE (k_isSet0 l D cy L σ φ ρ (a)) q1203 q1204 q113 q1205 ⟨by decide, by decide, pn_X11_isSet⟩ ⟨Nat.le_of_ble_eq_true rfl, Nat.le_of_ble_eq_true rfl⟩ ⟨Nat.le_of_ble_eq_true rfl, Nat.le_of_ble_eq_true rfl⟩ rfl (Nat.le_of_ble_eq_true rfl) dX11_match_17) (fun r17 h_17 => ?_)
  refine x_widen (k' := 0) (n' := 0) (Nat.le_of_ble_eq_true rfl) (Nat.le_of_ble_eq_true rfl) ?_
  refine x_if_eq (tgt := 60) hE dX11_match_20 (by decide) (fun c_20 => ?_) (fun c_20 => ?_)
  · refine x_iconst (v := -1) hE dX11_match_60 (by decide) ?_
    exact hret _ _ _ _ _ _ _ _ (-1) (Nat.le_of_ble_eq_true rfl) (Nat.le_of_ble_eq_true rfl) dX11_match_61 (rfl) (by grind [zb])
  · refine x_iload_n hE dX11_match_23 rfl 3 rfl ?_
    refine x_aload_n hE dX11_match_24 rfl 1 rfl ?_
    refine h_getr hE hx rfl inZX11 0 (by decide) q556 rfl dX11_match_25 ?_
    refine h_getr hE hn rfl inZX4 0 (by decide) q362 rfl dX11_match_28 ?_
    refine h_geti hE hL rfl inZX0 0 (by decide) q156 rfl dX11_match_31 ?_
    refine x_norm (y := 0) (p00) ?_
    refine c_ip hE (r_S (st := []) hE (k_isSet0 l D cy L σ φ ρ (b)) q1203 q1204 q113 q1205 ⟨by decide, by decide, pn_X11_isSet⟩ ⟨Nat.le_of_ble_eq_true rfl, Nat.le_of_ble_eq_true rfl⟩ ⟨Nat.le_of_ble_eq_true rfl, Nat.le_of_ble_eq_true rfl⟩ rfl (Nat.le_of_ble_eq_true rfl) dX11_match_34) (fun r34 h_34 => ?_)
    refine x_widen (k' := 0) (n' := 0) (Nat.le_of_ble_eq_true rfl) (Nat.le_of_ble_eq_true rfl) ?_
    refine x_if_eq (tgt := 60) hE dX11_match_37 (by decide) (fun c_37 => ?_) (fun c_37 => ?_)
    · refine x_iconst (v := -1) hE dX11_match_60 (by decide) ?_
      exact hret _ _ _ _ _ _ _ _ (-1) (Nat.le_of_ble_eq_true rfl) (Nat.le_of_ble_eq_true rfl) dX11_match_61 (rfl) (by grind [zb])
    · refine x_iload hE dX11_match_40 0 rfl ?_
      refine x_iconst (v := 1) hE dX11_match_42 (by decide) ?_
      refine x_bipush (v := 6) hE dX11_match_43 (by decide) ?_
      refine c_ip hE (r_S (st := []) hE (k_isWithin l D cy L σ φ ρ (r1) (1) (6)) q582 q583 q113 q584 ⟨by decide, by decide, pn_X11_isWithin⟩ ⟨Nat.le_of_ble_eq_true rfl, Nat.le_of_ble_eq_true rfl⟩ ⟨Nat.le_of_ble_eq_true rfl, Nat.le_of_ble_eq_true rfl⟩ rfl (Nat.le_of_ble_eq_true rfl) dX11_match_45) (fun r45 h45 => ?_)
      refine x_widen (k' := 0) (n' := 0) (Nat.le_of_ble_eq_true rfl) (Nat.le_of_ble_eq_true rfl) ?_
      refine x_if_eq (tgt := 60) hE dX11_match_48 (by decide) (fun c_48 => ?_) (fun c_48 => absurd (by grind [zb]) c_48)
      refine x_iconst (v := -1) hE dX11_match_60 (by decide) ?_
      exact hret _ _ _ _ _ _ _ _ (-1) (Nat.le_of_ble_eq_true rfl) (Nat.le_of_ble_eq_true rfl) dX11_match_61 (rfl) (by grind [zb])
set_option maxHeartbeats 4000000 in
set_option maxRecDepth 100000 in
theorem o_shares (l : Launch) (D : va_G) (cy : Nat → ClassId) (L : List Nat) (σ : Nat → va_E) (φ : Nat → Nat → Nat → Int32) (ρ : Nat → Nat → Int32) {x : Nat} (a : Int32) (b : Int32) (p : Int32) (hx : zOR cy L σ φ x) : zMI l D cy yX11_shares cX11_shares 11 .int (zrm 3 0 0) [.ref x, .int a, .int b, .int p] L σ φ ρ (fun r _ => r = -1) := by
  refine zMI.mk (by decide) (Nat.le_of_ble_eq_true rfl) (fun E hE hret => ?_)
  show zW E 0 0 L σ φ ρ 0 [(0, .ref x), (1, .int a), (2, .int b), (3, .int p)] []
  obtain ⟨now, kept, tape, reader, weather, planner, ways, la, wo, sp, li, te, g, la', wo', sp', li', te', g', hx, hs, hs0, hk, hk0, htp, htp0, hrd, hrd0, hrd1, hwe, hwe0, hpl, hwy⟩ := hx
  obtain ⟨hn, hla, hwo, hsp, hli, hte⟩ := id hs
  obtain ⟨p45, p46, p00, p01, p10, p50, p51, pl0, pl1, pl2, pg⟩ := id hs0
  obtain ⟨f0, f1, f2, f3, f4, f5, f6, f7, hL, hL0, hL1, hL2, hL3, hL4, hL5, hL6, hL7⟩ := id hla
  obtain ⟨w0, w1, w2, w3, w4, w5, w6, w7, hW, hW0, hW1, hW2, hW3, hW4, hW5, hW6, hW7⟩ := id hwo
  obtain ⟨s0, s1, hSp, hSp0, hSp1, hSpW⟩ := id hsp
  obtain ⟨i0, i1, i2, i3, i4, i5, i6, i7, hLi, hLi0, hLi1, hLi2, hLi3, hLi4, hLi5, hLi6, hLi7⟩ := id hli
  obtain ⟨t0, t1, t2, t3, hTp, hTp0, hTp1, hTp2, hTp3, hTn1, hTn2⟩ := id htp
  refine x_iload_n hE dX11_shares_0 rfl 1 rfl ?_
  refine x_aload_n hE dX11_shares_1 rfl 0 rfl ?_
  refine h_getr hE hx rfl inZX11 0 (by decide) q556 rfl dX11_shares_2 ?_
  refine h_getr hE hn rfl inZX4 0 (by decide) q362 rfl dX11_shares_5 ?_
  refine h_geti hE hL rfl inZX0 1 (by decide) q161 rfl dX11_shares_8 ?_
  refine x_norm (y := 0) (p01) ?_
  refine c_ip hE (r_S (st := []) hE (k_isSet0 l D cy L σ φ ρ (a)) q1203 q1204 q113 q1205 ⟨by decide, by decide, pn_X11_isSet⟩ ⟨Nat.le_of_ble_eq_true rfl, Nat.le_of_ble_eq_true rfl⟩ ⟨Nat.le_of_ble_eq_true rfl, Nat.le_of_ble_eq_true rfl⟩ rfl (Nat.le_of_ble_eq_true rfl) dX11_shares_11) (fun r11 h_11 => ?_)
  refine x_widen (k' := 0) (n' := 0) (Nat.le_of_ble_eq_true rfl) (Nat.le_of_ble_eq_true rfl) ?_
  refine x_if_eq (tgt := 36) hE dX11_shares_14 (by decide) (fun c_14 => ?_) (fun c_14 => ?_)
  · refine x_iconst (v := -1) hE dX11_shares_36 (by decide) ?_
    exact hret _ _ _ _ _ _ _ _ (-1) (Nat.le_of_ble_eq_true rfl) (Nat.le_of_ble_eq_true rfl) dX11_shares_37 (rfl) (by grind [zb])
  · refine x_iload_n hE dX11_shares_17 rfl 2 rfl ?_
    refine x_iconst (v := 0) hE dX11_shares_18 (by decide) ?_
    refine x_sipush (v := 999) hE dX11_shares_19 (by decide) ?_
    refine c_ip hE (r_S (st := []) hE (k_isWithin l D cy L σ φ ρ (b) (0) (999)) q582 q583 q113 q584 ⟨by decide, by decide, pn_X11_isWithin⟩ ⟨Nat.le_of_ble_eq_true rfl, Nat.le_of_ble_eq_true rfl⟩ ⟨Nat.le_of_ble_eq_true rfl, Nat.le_of_ble_eq_true rfl⟩ rfl (Nat.le_of_ble_eq_true rfl) dX11_shares_22) (fun r22 h22 => ?_)
    refine x_widen (k' := 0) (n' := 0) (Nat.le_of_ble_eq_true rfl) (Nat.le_of_ble_eq_true rfl) ?_
    refine x_if_eq (tgt := 36) hE dX11_shares_25 (by decide) (fun c_25 => ?_) (fun c_25 => ?_)
    · refine x_iconst (v := -1) hE dX11_shares_36 (by decide) ?_
      exact hret _ _ _ _ _ _ _ _ (-1) (Nat.le_of_ble_eq_true rfl) (Nat.le_of_ble_eq_true rfl) dX11_shares_37 (rfl) (by grind [zb])
    · refine x_iload_n hE dX11_shares_28 rfl 1 rfl ?_
      refine x_iload_n hE dX11_shares_29 rfl 3 rfl ?_
      refine c_ip hE (r_S (st := []) hE (k_isOf l D cy L σ φ ρ (a) (p)) q1228 q1183 q113 q1184 ⟨by decide, by decide, pn_X11_isOf⟩ ⟨Nat.le_of_ble_eq_true rfl, Nat.le_of_ble_eq_true rfl⟩ ⟨Nat.le_of_ble_eq_true rfl, Nat.le_of_ble_eq_true rfl⟩ rfl (Nat.le_of_ble_eq_true rfl) dX11_shares_30) (fun r30 h_30 => ?_)
      refine x_widen (k' := 0) (n' := 0) (Nat.le_of_ble_eq_true rfl) (Nat.le_of_ble_eq_true rfl) ?_
      refine x_if_ne (tgt := 38) hE dX11_shares_33 (by decide) (fun c_33 => absurd c_33 (fun h => h (h_30 (by grind [zb])))) (fun c_33 => ?_)
      refine x_iconst (v := -1) hE dX11_shares_36 (by decide) ?_
      exact hret _ _ _ _ _ _ _ _ (-1) (Nat.le_of_ble_eq_true rfl) (Nat.le_of_ble_eq_true rfl) dX11_shares_37 (rfl) (by grind [zb])
set_option maxHeartbeats 4000000 in
set_option maxRecDepth 100000 in
theorem o_near (l : Launch) (D : va_G) (cy : Nat → ClassId) (L : List Nat) (σ : Nat → va_E) (φ : Nat → Nat → Nat → Int32) (ρ : Nat → Nat → Int32) {x : Nat} (i : Int32) (hx : zOR cy L σ φ x) : zMI l D cy yX11_near cX11_near 4 .int (zrm 3 0 0) [.ref x, .int i] L σ φ ρ (fun r _ => r = if i = -1 then 0 else -2) := by
  refine zMI.mk (by decide) (Nat.le_of_ble_eq_true rfl) (fun E hE hret => ?_)
  show zW E 0 0 L σ φ ρ 0 [(0, .ref x), (1, .int i)] []
  obtain ⟨now, kept, tape, reader, weather, planner, ways, la, wo, sp, li, te, g, la', wo', sp', li', te', g', hx, hs, hs0, hk, hk0, htp, htp0, hrd, hrd0, hrd1, hwe, hwe0, hpl, hwy⟩ := hx
  obtain ⟨hn, hla, hwo, hsp, hli, hte⟩ := id hs
  obtain ⟨p45, p46, p00, p01, p10, p50, p51, pl0, pl1, pl2, pg⟩ := id hs0
  obtain ⟨f0, f1, f2, f3, f4, f5, f6, f7, hL, hL0, hL1, hL2, hL3, hL4, hL5, hL6, hL7⟩ := id hla
  obtain ⟨w0, w1, w2, w3, w4, w5, w6, w7, hW, hW0, hW1, hW2, hW3, hW4, hW5, hW6, hW7⟩ := id hwo
  obtain ⟨s0, s1, hSp, hSp0, hSp1, hSpW⟩ := id hsp
  obtain ⟨i0, i1, i2, i3, i4, i5, i6, i7, hLi, hLi0, hLi1, hLi2, hLi3, hLi4, hLi5, hLi6, hLi7⟩ := id hli
  obtain ⟨t0, t1, t2, t3, hTp, hTp0, hTp1, hTp2, hTp3, hTn1, hTn2⟩ := id htp
  refine x_iload_n hE dX11_near_0 rfl 1 rfl ?_
  refine x_iconst (v := -1) hE dX11_near_1 (by decide) ?_
  refine x_icmp_eq (tgt := 36) hE dX11_near_2 (by decide) (fun c_2 => ?_) (fun c_2 => ?_)
  · refine x_iconst (v := 1) hE dX11_near_36 (by decide) ?_
    refine x_aload_n hE dX11_near_37 rfl 0 rfl ?_
    refine h_getr hE hx rfl inZX11 0 (by decide) q556 rfl dX11_near_38 ?_
    refine h_getr hE hn rfl inZX4 0 (by decide) q362 rfl dX11_near_41 ?_
    refine h_geti hE hL rfl inZX0 1 (by decide) q161 rfl dX11_near_44 ?_
    refine x_norm (y := 0) (p01) ?_
    refine x_ishl hE dX11_near_47 ?_
    refine x_norm (y := 1) (by decide) ?_
    refine x_iconst (v := 1) hE dX11_near_48 (by decide) ?_
    refine x_isub hE dX11_near_49 ?_
    refine x_norm (y := 0) (by decide) ?_
    refine x_istore_n (lv' := [(2, .int 0), (0, .ref x), (1, .int i)]) hE dX11_near_50 rfl (by decide) rfl ?_
    refine x_iconst (v := 0) hE dX11_near_51 (by decide) ?_
    refine x_istore_n (lv' := [(3, .int 0), (2, .int 0), (0, .ref x), (1, .int i)]) hE dX11_near_52 rfl (by decide) rfl ?_
    refine x_iload_n hE dX11_near_53 rfl 0 rfl ?_
    refine x_aload_n hE dX11_near_54 rfl 2 rfl ?_
    refine h_getr hE hx rfl inZX11 0 (by decide) q556 rfl dX11_near_55 ?_
    refine h_getr hE hn rfl inZX4 3 (by decide) q373 rfl dX11_near_58 ?_
    refine h_geti hE hLi rfl inZX1 0 (by decide) q319 rfl dX11_near_61 ?_
    refine x_norm (y := 0) (pl0) ?_
    refine x_icmp_ge (tgt := 81) hE dX11_near_64 (by decide) (fun c_64 => ?_) (fun c_64 => absurd (by decide) c_64)
    refine x_iload_n hE dX11_near_81 rfl 1 rfl ?_
    exact hret _ _ _ _ _ _ _ _ (0) (Nat.le_of_ble_eq_true rfl) (Nat.le_of_ble_eq_true rfl) dX11_near_82 (rfl) (by grind [zb])
  · refine x_iload_n hE dX11_near_5 rfl 1 rfl ?_
    refine x_iconst (v := 0) hE dX11_near_6 (by decide) ?_
    refine x_aload_n hE dX11_near_7 rfl 0 rfl ?_
    refine h_getr hE hx rfl inZX11 0 (by decide) q556 rfl dX11_near_8 ?_
    refine h_getr hE hn rfl inZX4 3 (by decide) q373 rfl dX11_near_11 ?_
    refine h_geti hE hLi rfl inZX1 0 (by decide) q319 rfl dX11_near_14 ?_
    refine x_norm (y := 0) (pl0) ?_
    refine x_iconst (v := 1) hE dX11_near_17 (by decide) ?_
    refine x_isub hE dX11_near_18 ?_
    refine x_norm (y := -1) (by decide) ?_
    refine c_ip hE (r_S (st := []) hE (k_isWithin l D cy L σ φ ρ (i) (0) (-1)) q582 q583 q113 q584 ⟨by decide, by decide, pn_X11_isWithin⟩ ⟨Nat.le_of_ble_eq_true rfl, Nat.le_of_ble_eq_true rfl⟩ ⟨Nat.le_of_ble_eq_true rfl, Nat.le_of_ble_eq_true rfl⟩ rfl (Nat.le_of_ble_eq_true rfl) dX11_near_19) (fun r19 h19 => ?_)
    refine x_widen (k' := 0) (n' := 0) (Nat.le_of_ble_eq_true rfl) (Nat.le_of_ble_eq_true rfl) ?_
    refine x_if_eq (tgt := 33) hE dX11_near_22 (by decide) (fun c_22 => ?_) (fun c_22 => absurd (h19.trans (zb_f z_m1)) c_22)
    refine x_bipush (v := -2) hE dX11_near_33 (by decide) ?_
    exact hret _ _ _ _ _ _ _ _ (-2) (Nat.le_of_ble_eq_true rfl) (Nat.le_of_ble_eq_true rfl) dX11_near_35 (rfl) (by grind [zb])
set_option maxHeartbeats 4000000 in
set_option maxRecDepth 100000 in
theorem o_thieves (l : Launch) (D : va_G) (cy : Nat → ClassId) (L : List Nat) (σ : Nat → va_E) (φ : Nat → Nat → Nat → Int32) (ρ : Nat → Nat → Int32) {x : Nat}  (hx : zOR cy L σ φ x) : zMI l D cy yX11_thieves cX11_thieves 6 .int (zrm 3 1 6) [.ref x] L σ φ ρ (fun r _ => r = 0) := by
  refine zMI.mk (by decide) (Nat.le_of_ble_eq_true rfl) (fun E hE hret => ?_)
  show zW E 0 0 L σ φ ρ 0 [(0, .ref x)] []
  obtain ⟨now, kept, tape, reader, weather, planner, ways, la, wo, sp, li, te, g, la', wo', sp', li', te', g', hx, hs, hs0, hk, hk0, htp, htp0, hrd, hrd0, hrd1, hwe, hwe0, hpl, hwy⟩ := hx
  obtain ⟨hn, hla, hwo, hsp, hli, hte⟩ := id hs
  obtain ⟨p45, p46, p00, p01, p10, p50, p51, pl0, pl1, pl2, pg⟩ := id hs0
  obtain ⟨f0, f1, f2, f3, f4, f5, f6, f7, hL, hL0, hL1, hL2, hL3, hL4, hL5, hL6, hL7⟩ := id hla
  obtain ⟨w0, w1, w2, w3, w4, w5, w6, w7, hW, hW0, hW1, hW2, hW3, hW4, hW5, hW6, hW7⟩ := id hwo
  obtain ⟨s0, s1, hSp, hSp0, hSp1, hSpW⟩ := id hsp
  obtain ⟨i0, i1, i2, i3, i4, i5, i6, i7, hLi, hLi0, hLi1, hLi2, hLi3, hLi4, hLi5, hLi6, hLi7⟩ := id hli
  obtain ⟨t0, t1, t2, t3, hTp, hTp0, hTp1, hTp2, hTp3, hTn1, hTn2⟩ := id htp
  refine x_bipush (v := 6) hE dX11_thieves_0 (by decide) ?_
  refine h_newa (t0 := 0) (ty := .int) (N0 := 6) (x := (6, .inl (fun _ => 0))) hE rfl (fun _ h => nomatch h) q207 rfl (fun _ => rfl) (fun _ => rfl) (fun _ => rfl) (by decide) (by decide) (Nat.le_of_ble_eq_true rfl) (Nat.le_of_ble_eq_true rfl) (Nat.le_of_ble_eq_true rfl) dX11_thieves_2 (fun qa2 La2 σa2 φa2 ρa2 hna2 hxa2 hwa2 hra2 => ?_)
  refine x_astore_n (lv' := [(1, .ref qa2), (0, .ref x)]) hE dX11_thieves_4 rfl (by decide) rfl ?_
  refine x_iconst (v := 0) hE dX11_thieves_5 (by decide) ?_
  refine x_istore_n (lv' := [(2, .int 0), (1, .ref qa2), (0, .ref x)]) hE dX11_thieves_6 rfl (by decide) rfl ?_
  refine x_iload_n hE dX11_thieves_7 rfl 0 rfl ?_
  refine x_aload_n hE dX11_thieves_8 rfl 2 rfl ?_
  refine h_getr hE (zX.all hxa2 hx) rfl inZX11 0 (by decide) q556 rfl dX11_thieves_9 ?_
  refine h_getr hE (zX.all hxa2 hn) rfl inZX4 3 (by decide) q373 rfl dX11_thieves_12 ?_
  refine h_geti hE (zX.all hxa2 hLi) rfl inZX1 0 (by decide) q319 rfl dX11_thieves_15 ?_
  refine x_norm (y := 0) ((((hxa2 _).2 _ hLi.1 (Nat.ne_of_lt (Nat.lt_succ_self _))).2.1 _ _).trans (pl0)) ?_
  refine x_icmp_ge (tgt := 35) hE dX11_thieves_18 (by decide) (fun c_18 => ?_) (fun c_18 => absurd (by decide) c_18)
  refine x_iconst (v := -1) hE dX11_thieves_35 (by decide) ?_
  refine x_istore_n (lv' := [(2, .int (-1)), (1, .ref qa2), (0, .ref x)]) hE dX11_thieves_36 rfl (by decide) rfl ?_
  refine x_iconst (v := 0) hE dX11_thieves_37 (by decide) ?_
  refine x_istore_n (lv' := [(3, .int 0), (2, .int (-1)), (1, .ref qa2), (0, .ref x)]) hE dX11_thieves_38 rfl (by decide) rfl ?_
  refine x_iload_n hE dX11_thieves_39 rfl 0 rfl ?_
  refine x_iconst (v := 1) hE dX11_thieves_40 (by decide) ?_
  refine x_aload_n hE dX11_thieves_41 rfl 3 rfl ?_
  refine h_getr hE (zX.all hxa2 hx) rfl inZX11 0 (by decide) q556 rfl dX11_thieves_42 ?_
  refine h_getr hE (zX.all hxa2 hn) rfl inZX4 0 (by decide) q362 rfl dX11_thieves_45 ?_
  refine h_geti hE (zX.all hxa2 hL) rfl inZX0 1 (by decide) q161 rfl dX11_thieves_48 ?_
  refine x_norm (y := 0) ((((hxa2 _).2 _ hL.1 (Nat.ne_of_lt (Nat.lt_succ_self _))).2.1 _ _).trans (p01)) ?_
  refine x_ishl hE dX11_thieves_51 ?_
  refine x_norm (y := 1) (by decide) ?_
  refine x_icmp_ge (tgt := 140) hE dX11_thieves_52 (by decide) (fun c_52 => absurd c_52 (by decide)) (fun c_52 => ?_)
  refine x_iload_n hE dX11_thieves_55 rfl 1 rfl ?_
  refine x_iconst (v := -1) hE dX11_thieves_56 (by decide) ?_
  refine x_icmp_eq (tgt := 71) hE dX11_thieves_57 (by decide) (fun c_57 => ?_) (fun c_57 => absurd (by decide) c_57)
  refine x_iconst (v := 1) hE dX11_thieves_71 (by decide) ?_
  refine x_goto (tgt := 76) hE dX11_thieves_72 (by decide) ?_
  refine x_istore (lv' := [(4, .int 1), (3, .int 0), (2, .int (-1)), (1, .ref qa2), (0, .ref x)]) hE dX11_thieves_76 (by decide) rfl ?_
  refine x_iconst (v := 0) hE dX11_thieves_78 (by decide) ?_
  refine x_istore (lv' := [(5, .int 0), (4, .int 1), (3, .int 0), (2, .int (-1)), (1, .ref qa2), (0, .ref x)]) hE dX11_thieves_79 (by decide) rfl ?_
  refine x_iload hE dX11_thieves_81 0 rfl ?_
  refine x_aload_n hE dX11_thieves_83 rfl 5 rfl ?_
  refine h_getr hE (zX.all hxa2 hx) rfl inZX11 0 (by decide) q556 rfl dX11_thieves_84 ?_
  refine h_getr hE (zX.all hxa2 hn) rfl inZX4 3 (by decide) q373 rfl dX11_thieves_87 ?_
  refine h_geti hE (zX.all hxa2 hLi) rfl inZX1 0 (by decide) q319 rfl dX11_thieves_90 ?_
  refine x_norm (y := 0) ((((hxa2 _).2 _ hLi.1 (Nat.ne_of_lt (Nat.lt_succ_self _))).2.1 _ _).trans (pl0)) ?_
  refine x_icmp_ge (tgt := 123) hE dX11_thieves_93 (by decide) (fun c_93 => ?_) (fun c_93 => absurd (by decide) c_93)
  refine x_iload hE dX11_thieves_123 1 rfl ?_
  refine x_if_eq (tgt := 132) hE dX11_thieves_125 (by decide) (fun c_125 => absurd c_125 (by decide)) (fun c_125 => ?_)
  refine x_iload_n hE dX11_thieves_128 rfl 2 rfl ?_
  refine x_goto (tgt := 133) hE dX11_thieves_129 (by decide) ?_
  refine x_istore_n (lv' := [(2, .int 0), (5, .int 0), (4, .int 1), (3, .int 0), (1, .ref qa2), (0, .ref x)]) hE dX11_thieves_133 rfl (by decide) rfl ?_
  refine x_iinc (v := 1) (lv' := [(3, .int 1), (2, .int 0), (5, .int 0), (4, .int 1), (1, .ref qa2), (0, .ref x)]) hE dX11_thieves_134 3 rfl (by decide) (by decide) rfl ?_
  refine x_goto (tgt := 39) hE dX11_thieves_137 (by decide) ?_
  refine x_iload_n hE dX11_thieves_39 rfl 0 rfl ?_
  refine x_iconst (v := 1) hE dX11_thieves_40 (by decide) ?_
  refine x_aload_n hE dX11_thieves_41 rfl 5 rfl ?_
  refine h_getr hE (zX.all hxa2 hx) rfl inZX11 0 (by decide) q556 rfl dX11_thieves_42 ?_
  refine h_getr hE (zX.all hxa2 hn) rfl inZX4 0 (by decide) q362 rfl dX11_thieves_45 ?_
  refine h_geti hE (zX.all hxa2 hL) rfl inZX0 1 (by decide) q161 rfl dX11_thieves_48 ?_
  refine x_norm (y := 0) ((((hxa2 _).2 _ hL.1 (Nat.ne_of_lt (Nat.lt_succ_self _))).2.1 _ _).trans (p01)) ?_
  refine x_ishl hE dX11_thieves_51 ?_
  refine x_norm (y := 1) (by decide) ?_
  refine x_icmp_ge (tgt := 140) hE dX11_thieves_52 (by decide) (fun c_52 => ?_) (fun c_52 => absurd (by decide) c_52)
  refine x_iload_n hE dX11_thieves_140 rfl 1 rfl ?_
  exact hret _ _ _ _ _ _ _ _ (0) (Nat.le_of_ble_eq_true rfl) (Nat.le_of_ble_eq_true rfl) dX11_thieves_141 (rfl) (by grind [zb])
set_option maxHeartbeats 4000000 in
set_option maxRecDepth 100000 in
theorem o_forecast (l : Launch) (D : va_G) (cy : Nat → ClassId) (L : List Nat) (σ : Nat → va_E) (φ : Nat → Nat → Nat → Int32) (ρ : Nat → Nat → Int32) {x : Nat} (f : Int32) (h : Int32) (hx : zOR cy L σ φ x) : zMI l D cy yX11_forecast cX11_forecast 4 .int (zrm 3 0 0) [.ref x, .int f, .int h] L σ φ ρ (fun r _ => r = if f = -1 then 0 else if 0 ≤ f ∧ f ≤ 9 then 1 else -2) := by
  refine zMI.mk (by decide) (Nat.le_of_ble_eq_true rfl) (fun E hE hret => ?_)
  show zW E 0 0 L σ φ ρ 0 [(0, .ref x), (1, .int f), (2, .int h)] []
  obtain ⟨now, kept, tape, reader, weather, planner, ways, la, wo, sp, li, te, g, la', wo', sp', li', te', g', hx, hs, hs0, hk, hk0, htp, htp0, hrd, hrd0, hrd1, hwe, hwe0, hpl, hwy⟩ := hx
  obtain ⟨hn, hla, hwo, hsp, hli, hte⟩ := id hs
  obtain ⟨p45, p46, p00, p01, p10, p50, p51, pl0, pl1, pl2, pg⟩ := id hs0
  obtain ⟨f0, f1, f2, f3, f4, f5, f6, f7, hL, hL0, hL1, hL2, hL3, hL4, hL5, hL6, hL7⟩ := id hla
  obtain ⟨w0, w1, w2, w3, w4, w5, w6, w7, hW, hW0, hW1, hW2, hW3, hW4, hW5, hW6, hW7⟩ := id hwo
  obtain ⟨s0, s1, hSp, hSp0, hSp1, hSpW⟩ := id hsp
  obtain ⟨i0, i1, i2, i3, i4, i5, i6, i7, hLi, hLi0, hLi1, hLi2, hLi3, hLi4, hLi5, hLi6, hLi7⟩ := id hli
  obtain ⟨t0, t1, t2, t3, hTp, hTp0, hTp1, hTp2, hTp3, hTn1, hTn2⟩ := id htp
  refine x_aload_n hE dX11_forecast_0 rfl 0 rfl ?_
  refine h_getr hE hx rfl inZX11 0 (by decide) q556 rfl dX11_forecast_1 ?_
  refine h_getr hE hn rfl inZX4 3 (by decide) q373 rfl dX11_forecast_4 ?_
  refine x_astore_n (lv' := [(3, .ref li), (0, .ref x), (1, .int f), (2, .int h)]) hE dX11_forecast_7 rfl (by decide) rfl ?_
  refine x_iload_n hE dX11_forecast_8 rfl 2 rfl ?_
  refine x_iconst (v := -1) hE dX11_forecast_9 (by decide) ?_
  refine x_icmp_ne (tgt := 20) hE dX11_forecast_10 (by decide) (fun c_10 => ?_) (fun c_10 => ?_)
  · refine x_iload_n hE dX11_forecast_20 rfl 2 rfl ?_
    refine x_iconst (v := 0) hE dX11_forecast_21 (by decide) ?_
    refine x_bipush (v := 9) hE dX11_forecast_22 (by decide) ?_
    refine c_ip hE (r_S (st := []) hE (k_isWithin l D cy L σ φ ρ (f) (0) (9)) q582 q583 q113 q584 ⟨by decide, by decide, pn_X11_isWithin⟩ ⟨Nat.le_of_ble_eq_true rfl, Nat.le_of_ble_eq_true rfl⟩ ⟨Nat.le_of_ble_eq_true rfl, Nat.le_of_ble_eq_true rfl⟩ rfl (Nat.le_of_ble_eq_true rfl) dX11_forecast_24) (fun r24 h24 => ?_)
    refine x_widen (k' := 0) (n' := 0) (Nat.le_of_ble_eq_true rfl) (Nat.le_of_ble_eq_true rfl) ?_
    refine x_if_eq (tgt := 39) hE dX11_forecast_27 (by decide) (fun c_27 => ?_) (fun c_27 => ?_)
    · refine x_bipush (v := -2) hE dX11_forecast_39 (by decide) ?_
      exact hret _ _ _ _ _ _ _ _ (-2) (Nat.le_of_ble_eq_true rfl) (Nat.le_of_ble_eq_true rfl) dX11_forecast_41 (rfl) (by grind [zb])
    · refine x_aload_n hE dX11_forecast_30 rfl 0 rfl ?_
      refine h_geti hE hLi rfl inZX1 1 (by decide) q321 rfl dX11_forecast_31 ?_
      refine x_norm (y := 0) (pl1) ?_
      refine x_bipush (v := 12) hE dX11_forecast_34 (by decide) ?_
      refine x_icmp_lt (tgt := 42) hE dX11_forecast_36 (by decide) (fun c_36 => ?_) (fun c_36 => absurd (by decide) c_36)
      refine x_aload_n hE dX11_forecast_42 rfl 0 rfl ?_
      refine x_iload_n hE dX11_forecast_43 rfl 2 rfl ?_
      refine x_iload_n hE dX11_forecast_44 rfl 3 rfl ?_
      refine c_i hE (r_V (st := []) hE (k_addForecast l D cy L σ φ ρ (f) (h) hLi hLi3 hLi4 pl1) q1300 q1301 q1302 q118 q1303 hLi rfl ⟨by decide, by decide, pn_X1_addForecast⟩ ⟨Nat.le_of_ble_eq_true rfl, Nat.le_of_ble_eq_true rfl⟩ ⟨Nat.le_of_ble_eq_true rfl, Nat.le_of_ble_eq_true rfl⟩ rfl (Nat.le_of_ble_eq_true rfl) dX11_forecast_45) (fun r45 L' σ' φ' ρ' h_45 => ?_)
      refine x_widen (k' := 0) (n' := 0) (Nat.le_of_ble_eq_true rfl) (Nat.le_of_ble_eq_true rfl) ?_
      exact hret _ _ _ _ _ _ _ _ (r45) (Nat.le_of_ble_eq_true rfl) (Nat.le_of_ble_eq_true rfl) dX11_forecast_48 (rfl) (by grind [zb])
  · refine x_aload_n hE dX11_forecast_13 rfl 0 rfl ?_
    refine x_iconst (v := 0) hE dX11_forecast_14 (by decide) ?_
    refine h_puti (ty := .int) (ty0 := tyX1) hE hLi rfl inZX1 tyX1_ok nmX1 1 (by decide) q321 rfl rfl (by decide +kernel) rfl rfl dX11_forecast_15 ?_
    refine x_iconst (v := 0) hE dX11_forecast_18 (by decide) ?_
    exact hret _ _ _ _ _ _ _ _ (0) (Nat.le_of_ble_eq_true rfl) (Nat.le_of_ble_eq_true rfl) dX11_forecast_19 (rfl) (by grind [zb])
set_option maxHeartbeats 4000000 in
set_option maxRecDepth 100000 in
theorem o_errors (l : Launch) (D : va_G) (cy : Nat → ClassId) (L : List Nat) (σ : Nat → va_E) (φ : Nat → Nat → Nat → Int32) (ρ : Nat → Nat → Int32) {x : Nat} (t : Int32) (m : Int32) (hx : zOR cy L σ φ x) : zMI l D cy yX11_errors cX11_errors 3 .int (zrm 3 0 0) [.ref x, .int t, .int m] L σ φ ρ (fun r _ => r = if 0 ≤ t ∧ t ≤ 10 then 0 else -1) := by
  refine zMI.mk (by decide) (Nat.le_of_ble_eq_true rfl) (fun E hE hret => ?_)
  show zW E 0 0 L σ φ ρ 0 [(0, .ref x), (1, .int t), (2, .int m)] []
  obtain ⟨now, kept, tape, reader, weather, planner, ways, la, wo, sp, li, te, g, la', wo', sp', li', te', g', hx, hs, hs0, hk, hk0, htp, htp0, hrd, hrd0, hrd1, hwe, hwe0, hpl, hwy⟩ := hx
  obtain ⟨hn, hla, hwo, hsp, hli, hte⟩ := id hs
  obtain ⟨p45, p46, p00, p01, p10, p50, p51, pl0, pl1, pl2, pg⟩ := id hs0
  obtain ⟨f0, f1, f2, f3, f4, f5, f6, f7, hL, hL0, hL1, hL2, hL3, hL4, hL5, hL6, hL7⟩ := id hla
  obtain ⟨w0, w1, w2, w3, w4, w5, w6, w7, hW, hW0, hW1, hW2, hW3, hW4, hW5, hW6, hW7⟩ := id hwo
  obtain ⟨s0, s1, hSp, hSp0, hSp1, hSpW⟩ := id hsp
  obtain ⟨i0, i1, i2, i3, i4, i5, i6, i7, hLi, hLi0, hLi1, hLi2, hLi3, hLi4, hLi5, hLi6, hLi7⟩ := id hli
  obtain ⟨t0, t1, t2, t3, hTp, hTp0, hTp1, hTp2, hTp3, hTn1, hTn2⟩ := id htp
  refine x_iload_n hE dX11_errors_0 rfl 1 rfl ?_
  refine x_iconst (v := 0) hE dX11_errors_1 (by decide) ?_
  refine x_bipush (v := 10) hE dX11_errors_2 (by decide) ?_
  refine c_ip hE (r_S (st := []) hE (k_isWithin l D cy L σ φ ρ (t) (0) (10)) q582 q583 q113 q584 ⟨by decide, by decide, pn_X11_isWithin⟩ ⟨Nat.le_of_ble_eq_true rfl, Nat.le_of_ble_eq_true rfl⟩ ⟨Nat.le_of_ble_eq_true rfl, Nat.le_of_ble_eq_true rfl⟩ rfl (Nat.le_of_ble_eq_true rfl) dX11_errors_4) (fun r4 h4 => ?_)
  refine x_widen (k' := 0) (n' := 0) (Nat.le_of_ble_eq_true rfl) (Nat.le_of_ble_eq_true rfl) ?_
  refine x_if_ne (tgt := 12) hE dX11_errors_7 (by decide) (fun c_7 => ?_) (fun c_7 => ?_)
  · refine x_iload_n hE dX11_errors_12 rfl 2 rfl ?_
    refine x_if_eq (tgt := 30) hE dX11_errors_13 (by decide) (fun c_13 => ?_) (fun c_13 => ?_)
    · refine x_aload_n hE dX11_errors_30 rfl 0 rfl ?_
      refine h_getr hE hx rfl inZX11 0 (by decide) q556 rfl dX11_errors_31 ?_
      refine h_getr hE hn rfl inZX4 3 (by decide) q373 rfl dX11_errors_34 ?_
      refine x_iload_n hE dX11_errors_37 rfl 1 rfl ?_
      refine c_ip hE (r_V (st := []) hE (k_falseAlarms l D cy L σ φ ρ (t) hLi pl1) q1312 q1313 q1314 q118 q1315 hLi rfl ⟨by decide, by decide, pn_X1_falseAlarms⟩ ⟨Nat.le_of_ble_eq_true rfl, Nat.le_of_ble_eq_true rfl⟩ ⟨Nat.le_of_ble_eq_true rfl, Nat.le_of_ble_eq_true rfl⟩ rfl (Nat.le_of_ble_eq_true rfl) dX11_errors_38) (fun r38 h_38 => ?_)
      refine x_widen (k' := 0) (n' := 0) (Nat.le_of_ble_eq_true rfl) (Nat.le_of_ble_eq_true rfl) ?_
      refine x_norm (y := 0) (h_38) ?_
      exact hret _ _ _ _ _ _ _ _ (0) (Nat.le_of_ble_eq_true rfl) (Nat.le_of_ble_eq_true rfl) dX11_errors_41 (rfl) (by grind [zb])
    · refine x_aload_n hE dX11_errors_16 rfl 0 rfl ?_
      refine h_getr hE hx rfl inZX11 0 (by decide) q556 rfl dX11_errors_17 ?_
      refine h_getr hE hn rfl inZX4 3 (by decide) q373 rfl dX11_errors_20 ?_
      refine x_iload_n hE dX11_errors_23 rfl 1 rfl ?_
      refine c_ip hE (r_V (st := []) hE (k_misses l D cy L σ φ ρ (t) hLi pl1) q1308 q1309 q1310 q118 q1311 hLi rfl ⟨by decide, by decide, pn_X1_misses⟩ ⟨Nat.le_of_ble_eq_true rfl, Nat.le_of_ble_eq_true rfl⟩ ⟨Nat.le_of_ble_eq_true rfl, Nat.le_of_ble_eq_true rfl⟩ rfl (Nat.le_of_ble_eq_true rfl) dX11_errors_24) (fun r24 h_24 => ?_)
      refine x_widen (k' := 0) (n' := 0) (Nat.le_of_ble_eq_true rfl) (Nat.le_of_ble_eq_true rfl) ?_
      refine x_norm (y := 0) (h_24) ?_
      refine x_goto (tgt := 41) hE dX11_errors_27 (by decide) ?_
      exact hret _ _ _ _ _ _ _ _ (0) (Nat.le_of_ble_eq_true rfl) (Nat.le_of_ble_eq_true rfl) dX11_errors_41 (rfl) (by grind [zb])
  · refine x_iconst (v := -1) hE dX11_errors_10 (by decide) ?_
    exact hret _ _ _ _ _ _ _ _ (-1) (Nat.le_of_ble_eq_true rfl) (Nat.le_of_ble_eq_true rfl) dX11_errors_11 (rfl) (by grind [zb])
set_option maxHeartbeats 4000000 in
set_option maxRecDepth 100000 in
theorem o_offer (l : Launch) (D : va_G) (cy : Nat → ClassId) (L : List Nat) (σ : Nat → va_E) (φ : Nat → Nat → Nat → Int32) (ρ : Nat → Nat → Int32) {x : Nat} (b : Int32) (p : Int32) (d : Int32) (hx : zOR cy L σ φ x) : zMI l D cy yX11_offer cX11_offer 5 .int (zrm 3 0 0) [.ref x, .int b, .int p, .int d] L σ φ ρ (fun r _ => r = if d = 0 then 0 else if (0 ≤ p ∧ p ≤ 99) ∧ (1 ≤ d ∧ d ≤ 99) then 1 else -1) := by
  refine zMI.mk (by decide) (Nat.le_of_ble_eq_true rfl) (fun E hE hret => ?_)
  show zW E 0 0 L σ φ ρ 0 [(0, .ref x), (1, .int b), (2, .int p), (3, .int d)] []
  obtain ⟨now, kept, tape, reader, weather, planner, ways, la, wo, sp, li, te, g, la', wo', sp', li', te', g', hx, hs, hs0, hk, hk0, htp, htp0, hrd, hrd0, hrd1, hwe, hwe0, hpl, hwy⟩ := hx
  obtain ⟨hn, hla, hwo, hsp, hli, hte⟩ := id hs
  obtain ⟨p45, p46, p00, p01, p10, p50, p51, pl0, pl1, pl2, pg⟩ := id hs0
  obtain ⟨f0, f1, f2, f3, f4, f5, f6, f7, hL, hL0, hL1, hL2, hL3, hL4, hL5, hL6, hL7⟩ := id hla
  obtain ⟨w0, w1, w2, w3, w4, w5, w6, w7, hW, hW0, hW1, hW2, hW3, hW4, hW5, hW6, hW7⟩ := id hwo
  obtain ⟨s0, s1, hSp, hSp0, hSp1, hSpW⟩ := id hsp
  obtain ⟨i0, i1, i2, i3, i4, i5, i6, i7, hLi, hLi0, hLi1, hLi2, hLi3, hLi4, hLi5, hLi6, hLi7⟩ := id hli
  obtain ⟨t0, t1, t2, t3, hTp, hTp0, hTp1, hTp2, hTp3, hTn1, hTn2⟩ := id htp
  refine x_aload_n hE dX11_offer_0 rfl 0 rfl ?_
  refine h_getr hE hx rfl inZX11 0 (by decide) q556 rfl dX11_offer_1 ?_
  refine h_getr hE hn rfl inZX4 3 (by decide) q373 rfl dX11_offer_4 ?_
  refine x_astore (lv' := [(4, .ref li), (0, .ref x), (1, .int b), (2, .int p), (3, .int d)]) hE dX11_offer_7 (by decide) rfl ?_
  refine x_iload_n hE dX11_offer_9 rfl 4 rfl ?_
  refine x_if_ne (tgt := 21) hE dX11_offer_10 (by decide) (fun c_10 => ?_) (fun c_10 => ?_)
  · refine x_iload_n hE dX11_offer_21 rfl 3 rfl ?_
    refine x_iconst (v := 0) hE dX11_offer_22 (by decide) ?_
    refine x_bipush (v := 99) hE dX11_offer_23 (by decide) ?_
    refine c_ip hE (r_S (st := []) hE (k_isWithin l D cy L σ φ ρ (p) (0) (99)) q582 q583 q113 q584 ⟨by decide, by decide, pn_X11_isWithin⟩ ⟨Nat.le_of_ble_eq_true rfl, Nat.le_of_ble_eq_true rfl⟩ ⟨Nat.le_of_ble_eq_true rfl, Nat.le_of_ble_eq_true rfl⟩ rfl (Nat.le_of_ble_eq_true rfl) dX11_offer_25) (fun r25 h25 => ?_)
    refine x_widen (k' := 0) (n' := 0) (Nat.le_of_ble_eq_true rfl) (Nat.le_of_ble_eq_true rfl) ?_
    refine x_if_eq (tgt := 51) hE dX11_offer_28 (by decide) (fun c_28 => ?_) (fun c_28 => ?_)
    · refine x_iconst (v := -1) hE dX11_offer_51 (by decide) ?_
      exact hret _ _ _ _ _ _ _ _ (-1) (Nat.le_of_ble_eq_true rfl) (Nat.le_of_ble_eq_true rfl) dX11_offer_52 (rfl) (by grind [zb])
    · refine x_iload_n hE dX11_offer_31 rfl 4 rfl ?_
      refine x_iconst (v := 1) hE dX11_offer_32 (by decide) ?_
      refine x_bipush (v := 99) hE dX11_offer_33 (by decide) ?_
      refine c_ip hE (r_S (st := []) hE (k_isWithin l D cy L σ φ ρ (d) (1) (99)) q582 q583 q113 q584 ⟨by decide, by decide, pn_X11_isWithin⟩ ⟨Nat.le_of_ble_eq_true rfl, Nat.le_of_ble_eq_true rfl⟩ ⟨Nat.le_of_ble_eq_true rfl, Nat.le_of_ble_eq_true rfl⟩ rfl (Nat.le_of_ble_eq_true rfl) dX11_offer_35) (fun r35 h35 => ?_)
      refine x_widen (k' := 0) (n' := 0) (Nat.le_of_ble_eq_true rfl) (Nat.le_of_ble_eq_true rfl) ?_
      refine x_if_eq (tgt := 51) hE dX11_offer_38 (by decide) (fun c_38 => ?_) (fun c_38 => ?_)
      · refine x_iconst (v := -1) hE dX11_offer_51 (by decide) ?_
        exact hret _ _ _ _ _ _ _ _ (-1) (Nat.le_of_ble_eq_true rfl) (Nat.le_of_ble_eq_true rfl) dX11_offer_52 (rfl) (by grind [zb])
      · refine x_aload hE dX11_offer_41 0 rfl ?_
        refine h_geti hE hLi rfl inZX1 2 (by decide) q323 rfl dX11_offer_43 ?_
        refine x_norm (y := 0) (pl2) ?_
        refine x_bipush (v := 10) hE dX11_offer_46 (by decide) ?_
        refine x_icmp_lt (tgt := 53) hE dX11_offer_48 (by decide) (fun c_48 => ?_) (fun c_48 => absurd (by decide) c_48)
        refine x_aload hE dX11_offer_53 0 rfl ?_
        refine x_iload_n hE dX11_offer_55 rfl 2 rfl ?_
        refine x_iload_n hE dX11_offer_56 rfl 3 rfl ?_
        refine x_iload_n hE dX11_offer_57 rfl 4 rfl ?_
        refine c_i hE (r_V (st := []) hE (k_addOffer l D cy L σ φ ρ (b) (p) (d) hLi hLi5 hLi6 hLi7 pl2) q1324 q1325 q1326 q118 q1327 hLi rfl ⟨by decide, by decide, pn_X1_addOffer⟩ ⟨Nat.le_of_ble_eq_true rfl, Nat.le_of_ble_eq_true rfl⟩ ⟨Nat.le_of_ble_eq_true rfl, Nat.le_of_ble_eq_true rfl⟩ rfl (Nat.le_of_ble_eq_true rfl) dX11_offer_58) (fun r58 L' σ' φ' ρ' h_58 => ?_)
        refine x_widen (k' := 0) (n' := 0) (Nat.le_of_ble_eq_true rfl) (Nat.le_of_ble_eq_true rfl) ?_
        exact hret _ _ _ _ _ _ _ _ (r58) (Nat.le_of_ble_eq_true rfl) (Nat.le_of_ble_eq_true rfl) dX11_offer_61 (rfl) (by grind [zb])
  · refine x_aload hE dX11_offer_13 0 rfl ?_
    refine x_iconst (v := 0) hE dX11_offer_15 (by decide) ?_
    refine h_puti (ty := .int) (ty0 := tyX1) hE hLi rfl inZX1 tyX1_ok nmX1 2 (by decide) q323 rfl rfl (by decide +kernel) rfl rfl dX11_offer_16 ?_
    refine x_iconst (v := 0) hE dX11_offer_19 (by decide) ?_
    exact hret _ _ _ _ _ _ _ _ (0) (Nat.le_of_ble_eq_true rfl) (Nat.le_of_ble_eq_true rfl) dX11_offer_20 (rfl) (by grind [zb])
set_option maxHeartbeats 4000000 in
set_option maxRecDepth 100000 in
theorem o_bound (l : Launch) (D : va_G) (cy : Nat → ClassId) (L : List Nat) (σ : Nat → va_E) (φ : Nat → Nat → Nat → Int32) (ρ : Nat → Nat → Int32) {x : Nat}  (hx : zOR cy L σ φ x) : zMI l D cy yX11_bound cX11_bound 4 .int (zrm 3 0 0) [.ref x] L σ φ ρ (fun r _ => r = 0) := by
  refine zMI.mk (by decide) (Nat.le_of_ble_eq_true rfl) (fun E hE hret => ?_)
  show zW E 0 0 L σ φ ρ 0 [(0, .ref x)] []
  obtain ⟨now, kept, tape, reader, weather, planner, ways, la, wo, sp, li, te, g, la', wo', sp', li', te', g', hx, hs, hs0, hk, hk0, htp, htp0, hrd, hrd0, hrd1, hwe, hwe0, hpl, hwy⟩ := hx
  obtain ⟨hn, hla, hwo, hsp, hli, hte⟩ := id hs
  obtain ⟨p45, p46, p00, p01, p10, p50, p51, pl0, pl1, pl2, pg⟩ := id hs0
  obtain ⟨f0, f1, f2, f3, f4, f5, f6, f7, hL, hL0, hL1, hL2, hL3, hL4, hL5, hL6, hL7⟩ := id hla
  obtain ⟨w0, w1, w2, w3, w4, w5, w6, w7, hW, hW0, hW1, hW2, hW3, hW4, hW5, hW6, hW7⟩ := id hwo
  obtain ⟨s0, s1, hSp, hSp0, hSp1, hSpW⟩ := id hsp
  obtain ⟨i0, i1, i2, i3, i4, i5, i6, i7, hLi, hLi0, hLi1, hLi2, hLi3, hLi4, hLi5, hLi6, hLi7⟩ := id hli
  obtain ⟨t0, t1, t2, t3, hTp, hTp0, hTp1, hTp2, hTp3, hTn1, hTn2⟩ := id htp
  refine x_aload_n hE dX11_bound_0 rfl 0 rfl ?_
  refine h_getr hE hx rfl inZX11 0 (by decide) q556 rfl dX11_bound_1 ?_
  refine h_getr hE hn rfl inZX4 3 (by decide) q373 rfl dX11_bound_4 ?_
  refine x_astore_n (lv' := [(1, .ref li), (0, .ref x)]) hE dX11_bound_7 rfl (by decide) rfl ?_
  refine x_iconst (v := 0) hE dX11_bound_8 (by decide) ?_
  refine x_istore_n (lv' := [(2, .int 0), (1, .ref li), (0, .ref x)]) hE dX11_bound_9 rfl (by decide) rfl ?_
  refine x_iconst (v := 1) hE dX11_bound_10 (by decide) ?_
  refine x_istore_n (lv' := [(3, .int 1), (2, .int 0), (1, .ref li), (0, .ref x)]) hE dX11_bound_11 rfl (by decide) rfl ?_
  refine x_iload_n hE dX11_bound_12 rfl 0 rfl ?_
  refine x_bipush (v := 10) hE dX11_bound_13 (by decide) ?_
  refine x_icmp_gt (tgt := 51) hE dX11_bound_15 (by decide) (fun c_15 => absurd c_15 (by decide)) (fun c_15 => ?_)
  refine x_aload_n hE dX11_bound_18 rfl 2 rfl ?_
  refine x_iload_n hE dX11_bound_19 rfl 0 rfl ?_
  refine c_ip hE (r_V (st := []) hE (k_misses l D cy L σ φ ρ (1) hLi pl1) q1308 q1309 q1310 q118 q1311 hLi rfl ⟨by decide, by decide, pn_X1_misses⟩ ⟨Nat.le_of_ble_eq_true rfl, Nat.le_of_ble_eq_true rfl⟩ ⟨Nat.le_of_ble_eq_true rfl, Nat.le_of_ble_eq_true rfl⟩ rfl (Nat.le_of_ble_eq_true rfl) dX11_bound_20) (fun r20 h_20 => ?_)
  refine x_widen (k' := 0) (n' := 0) (Nat.le_of_ble_eq_true rfl) (Nat.le_of_ble_eq_true rfl) ?_
  refine x_norm (y := 0) (h_20) ?_
  refine x_aload_n hE dX11_bound_23 rfl 2 rfl ?_
  refine x_iload_n hE dX11_bound_24 rfl 0 rfl ?_
  refine c_ip hE (r_V (st := [.int 0]) hE (k_falseAlarms l D cy L σ φ ρ (1) hLi pl1) q1312 q1313 q1314 q118 q1315 hLi rfl ⟨by decide, by decide, pn_X1_falseAlarms⟩ ⟨Nat.le_of_ble_eq_true rfl, Nat.le_of_ble_eq_true rfl⟩ ⟨Nat.le_of_ble_eq_true rfl, Nat.le_of_ble_eq_true rfl⟩ rfl (Nat.le_of_ble_eq_true rfl) dX11_bound_25) (fun r25 h_25 => ?_)
  refine x_widen (k' := 0) (n' := 0) (Nat.le_of_ble_eq_true rfl) (Nat.le_of_ble_eq_true rfl) ?_
  refine x_norm (y := 0) (h_25) ?_
  refine x_iadd hE dX11_bound_28 ?_
  refine x_norm (y := 0) (by decide) ?_
  refine x_aload_n hE dX11_bound_29 rfl 2 rfl ?_
  refine x_iload_n hE dX11_bound_30 rfl 1 rfl ?_
  refine c_ip hE (r_V (st := [.int 0]) hE (k_misses l D cy L σ φ ρ (0) hLi pl1) q1308 q1309 q1310 q118 q1311 hLi rfl ⟨by decide, by decide, pn_X1_misses⟩ ⟨Nat.le_of_ble_eq_true rfl, Nat.le_of_ble_eq_true rfl⟩ ⟨Nat.le_of_ble_eq_true rfl, Nat.le_of_ble_eq_true rfl⟩ rfl (Nat.le_of_ble_eq_true rfl) dX11_bound_31) (fun r31 h_31 => ?_)
  refine x_widen (k' := 0) (n' := 0) (Nat.le_of_ble_eq_true rfl) (Nat.le_of_ble_eq_true rfl) ?_
  refine x_norm (y := 0) (h_31) ?_
  refine x_aload_n hE dX11_bound_34 rfl 2 rfl ?_
  refine x_iload_n hE dX11_bound_35 rfl 1 rfl ?_
  refine c_ip hE (r_V (st := [.int 0, .int 0]) hE (k_falseAlarms l D cy L σ φ ρ (0) hLi pl1) q1312 q1313 q1314 q118 q1315 hLi rfl ⟨by decide, by decide, pn_X1_falseAlarms⟩ ⟨Nat.le_of_ble_eq_true rfl, Nat.le_of_ble_eq_true rfl⟩ ⟨Nat.le_of_ble_eq_true rfl, Nat.le_of_ble_eq_true rfl⟩ rfl (Nat.le_of_ble_eq_true rfl) dX11_bound_36) (fun r36 h_36 => ?_)
  refine x_widen (k' := 0) (n' := 0) (Nat.le_of_ble_eq_true rfl) (Nat.le_of_ble_eq_true rfl) ?_
  refine x_norm (y := 0) (h_36) ?_
  refine x_iadd hE dX11_bound_39 ?_
  refine x_norm (y := 0) (by decide) ?_
  refine x_icmp_ge (tgt := 45) hE dX11_bound_40 (by decide) (fun c_40 => ?_) (fun c_40 => absurd (by decide) c_40)
  refine x_iinc (v := 2) (lv' := [(3, .int 2), (2, .int 0), (1, .ref li), (0, .ref x)]) hE dX11_bound_45 0 rfl (by decide) (by decide) rfl ?_
  refine x_goto (tgt := 12) hE dX11_bound_48 (by decide) ?_
  refine x_iload_n hE dX11_bound_12 rfl 0 rfl ?_
  refine x_bipush (v := 10) hE dX11_bound_13 (by decide) ?_
  refine x_icmp_gt (tgt := 51) hE dX11_bound_15 (by decide) (fun c_15 => absurd c_15 (by decide)) (fun c_15 => ?_)
  refine x_aload_n hE dX11_bound_18 rfl 2 rfl ?_
  refine x_iload_n hE dX11_bound_19 rfl 0 rfl ?_
  refine c_ip hE (r_V (st := []) hE (k_misses l D cy L σ φ ρ (2) hLi pl1) q1308 q1309 q1310 q118 q1311 hLi rfl ⟨by decide, by decide, pn_X1_misses⟩ ⟨Nat.le_of_ble_eq_true rfl, Nat.le_of_ble_eq_true rfl⟩ ⟨Nat.le_of_ble_eq_true rfl, Nat.le_of_ble_eq_true rfl⟩ rfl (Nat.le_of_ble_eq_true rfl) dX11_bound_20) (fun r20 h_20 => ?_)
  refine x_widen (k' := 0) (n' := 0) (Nat.le_of_ble_eq_true rfl) (Nat.le_of_ble_eq_true rfl) ?_
  refine x_norm (y := 0) (h_20) ?_
  refine x_aload_n hE dX11_bound_23 rfl 2 rfl ?_
  refine x_iload_n hE dX11_bound_24 rfl 0 rfl ?_
  refine c_ip hE (r_V (st := [.int 0]) hE (k_falseAlarms l D cy L σ φ ρ (2) hLi pl1) q1312 q1313 q1314 q118 q1315 hLi rfl ⟨by decide, by decide, pn_X1_falseAlarms⟩ ⟨Nat.le_of_ble_eq_true rfl, Nat.le_of_ble_eq_true rfl⟩ ⟨Nat.le_of_ble_eq_true rfl, Nat.le_of_ble_eq_true rfl⟩ rfl (Nat.le_of_ble_eq_true rfl) dX11_bound_25) (fun r25 h_25 => ?_)
  refine x_widen (k' := 0) (n' := 0) (Nat.le_of_ble_eq_true rfl) (Nat.le_of_ble_eq_true rfl) ?_
  refine x_norm (y := 0) (h_25) ?_
  refine x_iadd hE dX11_bound_28 ?_
  refine x_norm (y := 0) (by decide) ?_
  refine x_aload_n hE dX11_bound_29 rfl 2 rfl ?_
  refine x_iload_n hE dX11_bound_30 rfl 1 rfl ?_
  refine c_ip hE (r_V (st := [.int 0]) hE (k_misses l D cy L σ φ ρ (0) hLi pl1) q1308 q1309 q1310 q118 q1311 hLi rfl ⟨by decide, by decide, pn_X1_misses⟩ ⟨Nat.le_of_ble_eq_true rfl, Nat.le_of_ble_eq_true rfl⟩ ⟨Nat.le_of_ble_eq_true rfl, Nat.le_of_ble_eq_true rfl⟩ rfl (Nat.le_of_ble_eq_true rfl) dX11_bound_31) (fun r31 h_31 => ?_)
  refine x_widen (k' := 0) (n' := 0) (Nat.le_of_ble_eq_true rfl) (Nat.le_of_ble_eq_true rfl) ?_
  refine x_norm (y := 0) (h_31) ?_
  refine x_aload_n hE dX11_bound_34 rfl 2 rfl ?_
  refine x_iload_n hE dX11_bound_35 rfl 1 rfl ?_
  refine c_ip hE (r_V (st := [.int 0, .int 0]) hE (k_falseAlarms l D cy L σ φ ρ (0) hLi pl1) q1312 q1313 q1314 q118 q1315 hLi rfl ⟨by decide, by decide, pn_X1_falseAlarms⟩ ⟨Nat.le_of_ble_eq_true rfl, Nat.le_of_ble_eq_true rfl⟩ ⟨Nat.le_of_ble_eq_true rfl, Nat.le_of_ble_eq_true rfl⟩ rfl (Nat.le_of_ble_eq_true rfl) dX11_bound_36) (fun r36 h_36 => ?_)
  refine x_widen (k' := 0) (n' := 0) (Nat.le_of_ble_eq_true rfl) (Nat.le_of_ble_eq_true rfl) ?_
  refine x_norm (y := 0) (h_36) ?_
  refine x_iadd hE dX11_bound_39 ?_
  refine x_norm (y := 0) (by decide) ?_
  refine x_icmp_ge (tgt := 45) hE dX11_bound_40 (by decide) (fun c_40 => ?_) (fun c_40 => absurd (by decide) c_40)
  refine x_iinc (v := 3) (lv' := [(3, .int 3), (2, .int 0), (1, .ref li), (0, .ref x)]) hE dX11_bound_45 0 rfl (by decide) (by decide) rfl ?_
  refine x_goto (tgt := 12) hE dX11_bound_48 (by decide) ?_
  refine x_iload_n hE dX11_bound_12 rfl 0 rfl ?_
  refine x_bipush (v := 10) hE dX11_bound_13 (by decide) ?_
  refine x_icmp_gt (tgt := 51) hE dX11_bound_15 (by decide) (fun c_15 => absurd c_15 (by decide)) (fun c_15 => ?_)
  refine x_aload_n hE dX11_bound_18 rfl 2 rfl ?_
  refine x_iload_n hE dX11_bound_19 rfl 0 rfl ?_
  refine c_ip hE (r_V (st := []) hE (k_misses l D cy L σ φ ρ (3) hLi pl1) q1308 q1309 q1310 q118 q1311 hLi rfl ⟨by decide, by decide, pn_X1_misses⟩ ⟨Nat.le_of_ble_eq_true rfl, Nat.le_of_ble_eq_true rfl⟩ ⟨Nat.le_of_ble_eq_true rfl, Nat.le_of_ble_eq_true rfl⟩ rfl (Nat.le_of_ble_eq_true rfl) dX11_bound_20) (fun r20 h_20 => ?_)
  refine x_widen (k' := 0) (n' := 0) (Nat.le_of_ble_eq_true rfl) (Nat.le_of_ble_eq_true rfl) ?_
  refine x_norm (y := 0) (h_20) ?_
  refine x_aload_n hE dX11_bound_23 rfl 2 rfl ?_
  refine x_iload_n hE dX11_bound_24 rfl 0 rfl ?_
  refine c_ip hE (r_V (st := [.int 0]) hE (k_falseAlarms l D cy L σ φ ρ (3) hLi pl1) q1312 q1313 q1314 q118 q1315 hLi rfl ⟨by decide, by decide, pn_X1_falseAlarms⟩ ⟨Nat.le_of_ble_eq_true rfl, Nat.le_of_ble_eq_true rfl⟩ ⟨Nat.le_of_ble_eq_true rfl, Nat.le_of_ble_eq_true rfl⟩ rfl (Nat.le_of_ble_eq_true rfl) dX11_bound_25) (fun r25 h_25 => ?_)
  refine x_widen (k' := 0) (n' := 0) (Nat.le_of_ble_eq_true rfl) (Nat.le_of_ble_eq_true rfl) ?_
  refine x_norm (y := 0) (h_25) ?_
  refine x_iadd hE dX11_bound_28 ?_
  refine x_norm (y := 0) (by decide) ?_
  refine x_aload_n hE dX11_bound_29 rfl 2 rfl ?_
  refine x_iload_n hE dX11_bound_30 rfl 1 rfl ?_
  refine c_ip hE (r_V (st := [.int 0]) hE (k_misses l D cy L σ φ ρ (0) hLi pl1) q1308 q1309 q1310 q118 q1311 hLi rfl ⟨by decide, by decide, pn_X1_misses⟩ ⟨Nat.le_of_ble_eq_true rfl, Nat.le_of_ble_eq_true rfl⟩ ⟨Nat.le_of_ble_eq_true rfl, Nat.le_of_ble_eq_true rfl⟩ rfl (Nat.le_of_ble_eq_true rfl) dX11_bound_31) (fun r31 h_31 => ?_)
  refine x_widen (k' := 0) (n' := 0) (Nat.le_of_ble_eq_true rfl) (Nat.le_of_ble_eq_true rfl) ?_
  refine x_norm (y := 0) (h_31) ?_
  refine x_aload_n hE dX11_bound_34 rfl 2 rfl ?_
  refine x_iload_n hE dX11_bound_35 rfl 1 rfl ?_
  refine c_ip hE (r_V (st := [.int 0, .int 0]) hE (k_falseAlarms l D cy L σ φ ρ (0) hLi pl1) q1312 q1313 q1314 q118 q1315 hLi rfl ⟨by decide, by decide, pn_X1_falseAlarms⟩ ⟨Nat.le_of_ble_eq_true rfl, Nat.le_of_ble_eq_true rfl⟩ ⟨Nat.le_of_ble_eq_true rfl, Nat.le_of_ble_eq_true rfl⟩ rfl (Nat.le_of_ble_eq_true rfl) dX11_bound_36) (fun r36 h_36 => ?_)
  refine x_widen (k' := 0) (n' := 0) (Nat.le_of_ble_eq_true rfl) (Nat.le_of_ble_eq_true rfl) ?_
  refine x_norm (y := 0) (h_36) ?_
  refine x_iadd hE dX11_bound_39 ?_
  refine x_norm (y := 0) (by decide) ?_
  refine x_icmp_ge (tgt := 45) hE dX11_bound_40 (by decide) (fun c_40 => ?_) (fun c_40 => absurd (by decide) c_40)
  refine x_iinc (v := 4) (lv' := [(3, .int 4), (2, .int 0), (1, .ref li), (0, .ref x)]) hE dX11_bound_45 0 rfl (by decide) (by decide) rfl ?_
  refine x_goto (tgt := 12) hE dX11_bound_48 (by decide) ?_
  refine x_iload_n hE dX11_bound_12 rfl 0 rfl ?_
  refine x_bipush (v := 10) hE dX11_bound_13 (by decide) ?_
  refine x_icmp_gt (tgt := 51) hE dX11_bound_15 (by decide) (fun c_15 => absurd c_15 (by decide)) (fun c_15 => ?_)
  refine x_aload_n hE dX11_bound_18 rfl 2 rfl ?_
  refine x_iload_n hE dX11_bound_19 rfl 0 rfl ?_
  refine c_ip hE (r_V (st := []) hE (k_misses l D cy L σ φ ρ (4) hLi pl1) q1308 q1309 q1310 q118 q1311 hLi rfl ⟨by decide, by decide, pn_X1_misses⟩ ⟨Nat.le_of_ble_eq_true rfl, Nat.le_of_ble_eq_true rfl⟩ ⟨Nat.le_of_ble_eq_true rfl, Nat.le_of_ble_eq_true rfl⟩ rfl (Nat.le_of_ble_eq_true rfl) dX11_bound_20) (fun r20 h_20 => ?_)
  refine x_widen (k' := 0) (n' := 0) (Nat.le_of_ble_eq_true rfl) (Nat.le_of_ble_eq_true rfl) ?_
  refine x_norm (y := 0) (h_20) ?_
  refine x_aload_n hE dX11_bound_23 rfl 2 rfl ?_
  refine x_iload_n hE dX11_bound_24 rfl 0 rfl ?_
  refine c_ip hE (r_V (st := [.int 0]) hE (k_falseAlarms l D cy L σ φ ρ (4) hLi pl1) q1312 q1313 q1314 q118 q1315 hLi rfl ⟨by decide, by decide, pn_X1_falseAlarms⟩ ⟨Nat.le_of_ble_eq_true rfl, Nat.le_of_ble_eq_true rfl⟩ ⟨Nat.le_of_ble_eq_true rfl, Nat.le_of_ble_eq_true rfl⟩ rfl (Nat.le_of_ble_eq_true rfl) dX11_bound_25) (fun r25 h_25 => ?_)
  refine x_widen (k' := 0) (n' := 0) (Nat.le_of_ble_eq_true rfl) (Nat.le_of_ble_eq_true rfl) ?_
  refine x_norm (y := 0) (h_25) ?_
  refine x_iadd hE dX11_bound_28 ?_
  refine x_norm (y := 0) (by decide) ?_
  refine x_aload_n hE dX11_bound_29 rfl 2 rfl ?_
  refine x_iload_n hE dX11_bound_30 rfl 1 rfl ?_
  refine c_ip hE (r_V (st := [.int 0]) hE (k_misses l D cy L σ φ ρ (0) hLi pl1) q1308 q1309 q1310 q118 q1311 hLi rfl ⟨by decide, by decide, pn_X1_misses⟩ ⟨Nat.le_of_ble_eq_true rfl, Nat.le_of_ble_eq_true rfl⟩ ⟨Nat.le_of_ble_eq_true rfl, Nat.le_of_ble_eq_true rfl⟩ rfl (Nat.le_of_ble_eq_true rfl) dX11_bound_31) (fun r31 h_31 => ?_)
  refine x_widen (k' := 0) (n' := 0) (Nat.le_of_ble_eq_true rfl) (Nat.le_of_ble_eq_true rfl) ?_
  refine x_norm (y := 0) (h_31) ?_
  refine x_aload_n hE dX11_bound_34 rfl 2 rfl ?_
  refine x_iload_n hE dX11_bound_35 rfl 1 rfl ?_
  refine c_ip hE (r_V (st := [.int 0, .int 0]) hE (k_falseAlarms l D cy L σ φ ρ (0) hLi pl1) q1312 q1313 q1314 q118 q1315 hLi rfl ⟨by decide, by decide, pn_X1_falseAlarms⟩ ⟨Nat.le_of_ble_eq_true rfl, Nat.le_of_ble_eq_true rfl⟩ ⟨Nat.le_of_ble_eq_true rfl, Nat.le_of_ble_eq_true rfl⟩ rfl (Nat.le_of_ble_eq_true rfl) dX11_bound_36) (fun r36 h_36 => ?_)
  refine x_widen (k' := 0) (n' := 0) (Nat.le_of_ble_eq_true rfl) (Nat.le_of_ble_eq_true rfl) ?_
  refine x_norm (y := 0) (h_36) ?_
  refine x_iadd hE dX11_bound_39 ?_
  refine x_norm (y := 0) (by decide) ?_
  refine x_icmp_ge (tgt := 45) hE dX11_bound_40 (by decide) (fun c_40 => ?_) (fun c_40 => absurd (by decide) c_40)
  refine x_iinc (v := 5) (lv' := [(3, .int 5), (2, .int 0), (1, .ref li), (0, .ref x)]) hE dX11_bound_45 0 rfl (by decide) (by decide) rfl ?_
  refine x_goto (tgt := 12) hE dX11_bound_48 (by decide) ?_
  refine x_iload_n hE dX11_bound_12 rfl 0 rfl ?_
  refine x_bipush (v := 10) hE dX11_bound_13 (by decide) ?_
  refine x_icmp_gt (tgt := 51) hE dX11_bound_15 (by decide) (fun c_15 => absurd c_15 (by decide)) (fun c_15 => ?_)
  refine x_aload_n hE dX11_bound_18 rfl 2 rfl ?_
  refine x_iload_n hE dX11_bound_19 rfl 0 rfl ?_
  refine c_ip hE (r_V (st := []) hE (k_misses l D cy L σ φ ρ (5) hLi pl1) q1308 q1309 q1310 q118 q1311 hLi rfl ⟨by decide, by decide, pn_X1_misses⟩ ⟨Nat.le_of_ble_eq_true rfl, Nat.le_of_ble_eq_true rfl⟩ ⟨Nat.le_of_ble_eq_true rfl, Nat.le_of_ble_eq_true rfl⟩ rfl (Nat.le_of_ble_eq_true rfl) dX11_bound_20) (fun r20 h_20 => ?_)
  refine x_widen (k' := 0) (n' := 0) (Nat.le_of_ble_eq_true rfl) (Nat.le_of_ble_eq_true rfl) ?_
  refine x_norm (y := 0) (h_20) ?_
  refine x_aload_n hE dX11_bound_23 rfl 2 rfl ?_
  refine x_iload_n hE dX11_bound_24 rfl 0 rfl ?_
  refine c_ip hE (r_V (st := [.int 0]) hE (k_falseAlarms l D cy L σ φ ρ (5) hLi pl1) q1312 q1313 q1314 q118 q1315 hLi rfl ⟨by decide, by decide, pn_X1_falseAlarms⟩ ⟨Nat.le_of_ble_eq_true rfl, Nat.le_of_ble_eq_true rfl⟩ ⟨Nat.le_of_ble_eq_true rfl, Nat.le_of_ble_eq_true rfl⟩ rfl (Nat.le_of_ble_eq_true rfl) dX11_bound_25) (fun r25 h_25 => ?_)
  refine x_widen (k' := 0) (n' := 0) (Nat.le_of_ble_eq_true rfl) (Nat.le_of_ble_eq_true rfl) ?_
  refine x_norm (y := 0) (h_25) ?_
  refine x_iadd hE dX11_bound_28 ?_
  refine x_norm (y := 0) (by decide) ?_
  refine x_aload_n hE dX11_bound_29 rfl 2 rfl ?_
  refine x_iload_n hE dX11_bound_30 rfl 1 rfl ?_
  refine c_ip hE (r_V (st := [.int 0]) hE (k_misses l D cy L σ φ ρ (0) hLi pl1) q1308 q1309 q1310 q118 q1311 hLi rfl ⟨by decide, by decide, pn_X1_misses⟩ ⟨Nat.le_of_ble_eq_true rfl, Nat.le_of_ble_eq_true rfl⟩ ⟨Nat.le_of_ble_eq_true rfl, Nat.le_of_ble_eq_true rfl⟩ rfl (Nat.le_of_ble_eq_true rfl) dX11_bound_31) (fun r31 h_31 => ?_)
  refine x_widen (k' := 0) (n' := 0) (Nat.le_of_ble_eq_true rfl) (Nat.le_of_ble_eq_true rfl) ?_
  refine x_norm (y := 0) (h_31) ?_
  refine x_aload_n hE dX11_bound_34 rfl 2 rfl ?_
  refine x_iload_n hE dX11_bound_35 rfl 1 rfl ?_
  refine c_ip hE (r_V (st := [.int 0, .int 0]) hE (k_falseAlarms l D cy L σ φ ρ (0) hLi pl1) q1312 q1313 q1314 q118 q1315 hLi rfl ⟨by decide, by decide, pn_X1_falseAlarms⟩ ⟨Nat.le_of_ble_eq_true rfl, Nat.le_of_ble_eq_true rfl⟩ ⟨Nat.le_of_ble_eq_true rfl, Nat.le_of_ble_eq_true rfl⟩ rfl (Nat.le_of_ble_eq_true rfl) dX11_bound_36) (fun r36 h_36 => ?_)
  refine x_widen (k' := 0) (n' := 0) (Nat.le_of_ble_eq_true rfl) (Nat.le_of_ble_eq_true rfl) ?_
  refine x_norm (y := 0) (h_36) ?_
  refine x_iadd hE dX11_bound_39 ?_
  refine x_norm (y := 0) (by decide) ?_
  refine x_icmp_ge (tgt := 45) hE dX11_bound_40 (by decide) (fun c_40 => ?_) (fun c_40 => absurd (by decide) c_40)
  refine x_iinc (v := 6) (lv' := [(3, .int 6), (2, .int 0), (1, .ref li), (0, .ref x)]) hE dX11_bound_45 0 rfl (by decide) (by decide) rfl ?_
  refine x_goto (tgt := 12) hE dX11_bound_48 (by decide) ?_
  refine x_iload_n hE dX11_bound_12 rfl 0 rfl ?_
  refine x_bipush (v := 10) hE dX11_bound_13 (by decide) ?_
  refine x_icmp_gt (tgt := 51) hE dX11_bound_15 (by decide) (fun c_15 => absurd c_15 (by decide)) (fun c_15 => ?_)
  refine x_aload_n hE dX11_bound_18 rfl 2 rfl ?_
  refine x_iload_n hE dX11_bound_19 rfl 0 rfl ?_
  refine c_ip hE (r_V (st := []) hE (k_misses l D cy L σ φ ρ (6) hLi pl1) q1308 q1309 q1310 q118 q1311 hLi rfl ⟨by decide, by decide, pn_X1_misses⟩ ⟨Nat.le_of_ble_eq_true rfl, Nat.le_of_ble_eq_true rfl⟩ ⟨Nat.le_of_ble_eq_true rfl, Nat.le_of_ble_eq_true rfl⟩ rfl (Nat.le_of_ble_eq_true rfl) dX11_bound_20) (fun r20 h_20 => ?_)
  refine x_widen (k' := 0) (n' := 0) (Nat.le_of_ble_eq_true rfl) (Nat.le_of_ble_eq_true rfl) ?_
  refine x_norm (y := 0) (h_20) ?_
  refine x_aload_n hE dX11_bound_23 rfl 2 rfl ?_
  refine x_iload_n hE dX11_bound_24 rfl 0 rfl ?_
  refine c_ip hE (r_V (st := [.int 0]) hE (k_falseAlarms l D cy L σ φ ρ (6) hLi pl1) q1312 q1313 q1314 q118 q1315 hLi rfl ⟨by decide, by decide, pn_X1_falseAlarms⟩ ⟨Nat.le_of_ble_eq_true rfl, Nat.le_of_ble_eq_true rfl⟩ ⟨Nat.le_of_ble_eq_true rfl, Nat.le_of_ble_eq_true rfl⟩ rfl (Nat.le_of_ble_eq_true rfl) dX11_bound_25) (fun r25 h_25 => ?_)
  refine x_widen (k' := 0) (n' := 0) (Nat.le_of_ble_eq_true rfl) (Nat.le_of_ble_eq_true rfl) ?_
  refine x_norm (y := 0) (h_25) ?_
  refine x_iadd hE dX11_bound_28 ?_
  refine x_norm (y := 0) (by decide) ?_
  refine x_aload_n hE dX11_bound_29 rfl 2 rfl ?_
  refine x_iload_n hE dX11_bound_30 rfl 1 rfl ?_
  refine c_ip hE (r_V (st := [.int 0]) hE (k_misses l D cy L σ φ ρ (0) hLi pl1) q1308 q1309 q1310 q118 q1311 hLi rfl ⟨by decide, by decide, pn_X1_misses⟩ ⟨Nat.le_of_ble_eq_true rfl, Nat.le_of_ble_eq_true rfl⟩ ⟨Nat.le_of_ble_eq_true rfl, Nat.le_of_ble_eq_true rfl⟩ rfl (Nat.le_of_ble_eq_true rfl) dX11_bound_31) (fun r31 h_31 => ?_)
  refine x_widen (k' := 0) (n' := 0) (Nat.le_of_ble_eq_true rfl) (Nat.le_of_ble_eq_true rfl) ?_
  refine x_norm (y := 0) (h_31) ?_
  refine x_aload_n hE dX11_bound_34 rfl 2 rfl ?_
  refine x_iload_n hE dX11_bound_35 rfl 1 rfl ?_
  refine c_ip hE (r_V (st := [.int 0, .int 0]) hE (k_falseAlarms l D cy L σ φ ρ (0) hLi pl1) q1312 q1313 q1314 q118 q1315 hLi rfl ⟨by decide, by decide, pn_X1_falseAlarms⟩ ⟨Nat.le_of_ble_eq_true rfl, Nat.le_of_ble_eq_true rfl⟩ ⟨Nat.le_of_ble_eq_true rfl, Nat.le_of_ble_eq_true rfl⟩ rfl (Nat.le_of_ble_eq_true rfl) dX11_bound_36) (fun r36 h_36 => ?_)
  refine x_widen (k' := 0) (n' := 0) (Nat.le_of_ble_eq_true rfl) (Nat.le_of_ble_eq_true rfl) ?_
  refine x_norm (y := 0) (h_36) ?_
  refine x_iadd hE dX11_bound_39 ?_
  refine x_norm (y := 0) (by decide) ?_
  refine x_icmp_ge (tgt := 45) hE dX11_bound_40 (by decide) (fun c_40 => ?_) (fun c_40 => absurd (by decide) c_40)
  refine x_iinc (v := 7) (lv' := [(3, .int 7), (2, .int 0), (1, .ref li), (0, .ref x)]) hE dX11_bound_45 0 rfl (by decide) (by decide) rfl ?_
  refine x_goto (tgt := 12) hE dX11_bound_48 (by decide) ?_
  refine x_iload_n hE dX11_bound_12 rfl 0 rfl ?_
  refine x_bipush (v := 10) hE dX11_bound_13 (by decide) ?_
  refine x_icmp_gt (tgt := 51) hE dX11_bound_15 (by decide) (fun c_15 => absurd c_15 (by decide)) (fun c_15 => ?_)
  refine x_aload_n hE dX11_bound_18 rfl 2 rfl ?_
  refine x_iload_n hE dX11_bound_19 rfl 0 rfl ?_
  refine c_ip hE (r_V (st := []) hE (k_misses l D cy L σ φ ρ (7) hLi pl1) q1308 q1309 q1310 q118 q1311 hLi rfl ⟨by decide, by decide, pn_X1_misses⟩ ⟨Nat.le_of_ble_eq_true rfl, Nat.le_of_ble_eq_true rfl⟩ ⟨Nat.le_of_ble_eq_true rfl, Nat.le_of_ble_eq_true rfl⟩ rfl (Nat.le_of_ble_eq_true rfl) dX11_bound_20) (fun r20 h_20 => ?_)
  refine x_widen (k' := 0) (n' := 0) (Nat.le_of_ble_eq_true rfl) (Nat.le_of_ble_eq_true rfl) ?_
  refine x_norm (y := 0) (h_20) ?_
  refine x_aload_n hE dX11_bound_23 rfl 2 rfl ?_
  refine x_iload_n hE dX11_bound_24 rfl 0 rfl ?_
  refine c_ip hE (r_V (st := [.int 0]) hE (k_falseAlarms l D cy L σ φ ρ (7) hLi pl1) q1312 q1313 q1314 q118 q1315 hLi rfl ⟨by decide, by decide, pn_X1_falseAlarms⟩ ⟨Nat.le_of_ble_eq_true rfl, Nat.le_of_ble_eq_true rfl⟩ ⟨Nat.le_of_ble_eq_true rfl, Nat.le_of_ble_eq_true rfl⟩ rfl (Nat.le_of_ble_eq_true rfl) dX11_bound_25) (fun r25 h_25 => ?_)
  refine x_widen (k' := 0) (n' := 0) (Nat.le_of_ble_eq_true rfl) (Nat.le_of_ble_eq_true rfl) ?_
  refine x_norm (y := 0) (h_25) ?_
  refine x_iadd hE dX11_bound_28 ?_
  refine x_norm (y := 0) (by decide) ?_
  refine x_aload_n hE dX11_bound_29 rfl 2 rfl ?_
  refine x_iload_n hE dX11_bound_30 rfl 1 rfl ?_
  refine c_ip hE (r_V (st := [.int 0]) hE (k_misses l D cy L σ φ ρ (0) hLi pl1) q1308 q1309 q1310 q118 q1311 hLi rfl ⟨by decide, by decide, pn_X1_misses⟩ ⟨Nat.le_of_ble_eq_true rfl, Nat.le_of_ble_eq_true rfl⟩ ⟨Nat.le_of_ble_eq_true rfl, Nat.le_of_ble_eq_true rfl⟩ rfl (Nat.le_of_ble_eq_true rfl) dX11_bound_31) (fun r31 h_31 => ?_)
  refine x_widen (k' := 0) (n' := 0) (Nat.le_of_ble_eq_true rfl) (Nat.le_of_ble_eq_true rfl) ?_
  refine x_norm (y := 0) (h_31) ?_
  refine x_aload_n hE dX11_bound_34 rfl 2 rfl ?_
  refine x_iload_n hE dX11_bound_35 rfl 1 rfl ?_
  refine c_ip hE (r_V (st := [.int 0, .int 0]) hE (k_falseAlarms l D cy L σ φ ρ (0) hLi pl1) q1312 q1313 q1314 q118 q1315 hLi rfl ⟨by decide, by decide, pn_X1_falseAlarms⟩ ⟨Nat.le_of_ble_eq_true rfl, Nat.le_of_ble_eq_true rfl⟩ ⟨Nat.le_of_ble_eq_true rfl, Nat.le_of_ble_eq_true rfl⟩ rfl (Nat.le_of_ble_eq_true rfl) dX11_bound_36) (fun r36 h_36 => ?_)
  refine x_widen (k' := 0) (n' := 0) (Nat.le_of_ble_eq_true rfl) (Nat.le_of_ble_eq_true rfl) ?_
  refine x_norm (y := 0) (h_36) ?_
  refine x_iadd hE dX11_bound_39 ?_
  refine x_norm (y := 0) (by decide) ?_
  refine x_icmp_ge (tgt := 45) hE dX11_bound_40 (by decide) (fun c_40 => ?_) (fun c_40 => absurd (by decide) c_40)
  refine x_iinc (v := 8) (lv' := [(3, .int 8), (2, .int 0), (1, .ref li), (0, .ref x)]) hE dX11_bound_45 0 rfl (by decide) (by decide) rfl ?_
  refine x_goto (tgt := 12) hE dX11_bound_48 (by decide) ?_
  refine x_iload_n hE dX11_bound_12 rfl 0 rfl ?_
  refine x_bipush (v := 10) hE dX11_bound_13 (by decide) ?_
  refine x_icmp_gt (tgt := 51) hE dX11_bound_15 (by decide) (fun c_15 => absurd c_15 (by decide)) (fun c_15 => ?_)
  refine x_aload_n hE dX11_bound_18 rfl 2 rfl ?_
  refine x_iload_n hE dX11_bound_19 rfl 0 rfl ?_
  refine c_ip hE (r_V (st := []) hE (k_misses l D cy L σ φ ρ (8) hLi pl1) q1308 q1309 q1310 q118 q1311 hLi rfl ⟨by decide, by decide, pn_X1_misses⟩ ⟨Nat.le_of_ble_eq_true rfl, Nat.le_of_ble_eq_true rfl⟩ ⟨Nat.le_of_ble_eq_true rfl, Nat.le_of_ble_eq_true rfl⟩ rfl (Nat.le_of_ble_eq_true rfl) dX11_bound_20) (fun r20 h_20 => ?_)
  refine x_widen (k' := 0) (n' := 0) (Nat.le_of_ble_eq_true rfl) (Nat.le_of_ble_eq_true rfl) ?_
  refine x_norm (y := 0) (h_20) ?_
  refine x_aload_n hE dX11_bound_23 rfl 2 rfl ?_
  refine x_iload_n hE dX11_bound_24 rfl 0 rfl ?_
  refine c_ip hE (r_V (st := [.int 0]) hE (k_falseAlarms l D cy L σ φ ρ (8) hLi pl1) q1312 q1313 q1314 q118 q1315 hLi rfl ⟨by decide, by decide, pn_X1_falseAlarms⟩ ⟨Nat.le_of_ble_eq_true rfl, Nat.le_of_ble_eq_true rfl⟩ ⟨Nat.le_of_ble_eq_true rfl, Nat.le_of_ble_eq_true rfl⟩ rfl (Nat.le_of_ble_eq_true rfl) dX11_bound_25) (fun r25 h_25 => ?_)
  refine x_widen (k' := 0) (n' := 0) (Nat.le_of_ble_eq_true rfl) (Nat.le_of_ble_eq_true rfl) ?_
  refine x_norm (y := 0) (h_25) ?_
  refine x_iadd hE dX11_bound_28 ?_
  refine x_norm (y := 0) (by decide) ?_
  refine x_aload_n hE dX11_bound_29 rfl 2 rfl ?_
  refine x_iload_n hE dX11_bound_30 rfl 1 rfl ?_
  refine c_ip hE (r_V (st := [.int 0]) hE (k_misses l D cy L σ φ ρ (0) hLi pl1) q1308 q1309 q1310 q118 q1311 hLi rfl ⟨by decide, by decide, pn_X1_misses⟩ ⟨Nat.le_of_ble_eq_true rfl, Nat.le_of_ble_eq_true rfl⟩ ⟨Nat.le_of_ble_eq_true rfl, Nat.le_of_ble_eq_true rfl⟩ rfl (Nat.le_of_ble_eq_true rfl) dX11_bound_31) (fun r31 h_31 => ?_)
  refine x_widen (k' := 0) (n' := 0) (Nat.le_of_ble_eq_true rfl) (Nat.le_of_ble_eq_true rfl) ?_
  refine x_norm (y := 0) (h_31) ?_
  refine x_aload_n hE dX11_bound_34 rfl 2 rfl ?_
  refine x_iload_n hE dX11_bound_35 rfl 1 rfl ?_
  refine c_ip hE (r_V (st := [.int 0, .int 0]) hE (k_falseAlarms l D cy L σ φ ρ (0) hLi pl1) q1312 q1313 q1314 q118 q1315 hLi rfl ⟨by decide, by decide, pn_X1_falseAlarms⟩ ⟨Nat.le_of_ble_eq_true rfl, Nat.le_of_ble_eq_true rfl⟩ ⟨Nat.le_of_ble_eq_true rfl, Nat.le_of_ble_eq_true rfl⟩ rfl (Nat.le_of_ble_eq_true rfl) dX11_bound_36) (fun r36 h_36 => ?_)
  refine x_widen (k' := 0) (n' := 0) (Nat.le_of_ble_eq_true rfl) (Nat.le_of_ble_eq_true rfl) ?_
  refine x_norm (y := 0) (h_36) ?_
  refine x_iadd hE dX11_bound_39 ?_
  refine x_norm (y := 0) (by decide) ?_
  refine x_icmp_ge (tgt := 45) hE dX11_bound_40 (by decide) (fun c_40 => ?_) (fun c_40 => absurd (by decide) c_40)
  refine x_iinc (v := 9) (lv' := [(3, .int 9), (2, .int 0), (1, .ref li), (0, .ref x)]) hE dX11_bound_45 0 rfl (by decide) (by decide) rfl ?_
  refine x_goto (tgt := 12) hE dX11_bound_48 (by decide) ?_
  refine x_iload_n hE dX11_bound_12 rfl 0 rfl ?_
  refine x_bipush (v := 10) hE dX11_bound_13 (by decide) ?_
  refine x_icmp_gt (tgt := 51) hE dX11_bound_15 (by decide) (fun c_15 => absurd c_15 (by decide)) (fun c_15 => ?_)
  refine x_aload_n hE dX11_bound_18 rfl 2 rfl ?_
  refine x_iload_n hE dX11_bound_19 rfl 0 rfl ?_
  refine c_ip hE (r_V (st := []) hE (k_misses l D cy L σ φ ρ (9) hLi pl1) q1308 q1309 q1310 q118 q1311 hLi rfl ⟨by decide, by decide, pn_X1_misses⟩ ⟨Nat.le_of_ble_eq_true rfl, Nat.le_of_ble_eq_true rfl⟩ ⟨Nat.le_of_ble_eq_true rfl, Nat.le_of_ble_eq_true rfl⟩ rfl (Nat.le_of_ble_eq_true rfl) dX11_bound_20) (fun r20 h_20 => ?_)
  refine x_widen (k' := 0) (n' := 0) (Nat.le_of_ble_eq_true rfl) (Nat.le_of_ble_eq_true rfl) ?_
  refine x_norm (y := 0) (h_20) ?_
  refine x_aload_n hE dX11_bound_23 rfl 2 rfl ?_
  refine x_iload_n hE dX11_bound_24 rfl 0 rfl ?_
  refine c_ip hE (r_V (st := [.int 0]) hE (k_falseAlarms l D cy L σ φ ρ (9) hLi pl1) q1312 q1313 q1314 q118 q1315 hLi rfl ⟨by decide, by decide, pn_X1_falseAlarms⟩ ⟨Nat.le_of_ble_eq_true rfl, Nat.le_of_ble_eq_true rfl⟩ ⟨Nat.le_of_ble_eq_true rfl, Nat.le_of_ble_eq_true rfl⟩ rfl (Nat.le_of_ble_eq_true rfl) dX11_bound_25) (fun r25 h_25 => ?_)
  refine x_widen (k' := 0) (n' := 0) (Nat.le_of_ble_eq_true rfl) (Nat.le_of_ble_eq_true rfl) ?_
  refine x_norm (y := 0) (h_25) ?_
  refine x_iadd hE dX11_bound_28 ?_
  refine x_norm (y := 0) (by decide) ?_
  refine x_aload_n hE dX11_bound_29 rfl 2 rfl ?_
  refine x_iload_n hE dX11_bound_30 rfl 1 rfl ?_
  refine c_ip hE (r_V (st := [.int 0]) hE (k_misses l D cy L σ φ ρ (0) hLi pl1) q1308 q1309 q1310 q118 q1311 hLi rfl ⟨by decide, by decide, pn_X1_misses⟩ ⟨Nat.le_of_ble_eq_true rfl, Nat.le_of_ble_eq_true rfl⟩ ⟨Nat.le_of_ble_eq_true rfl, Nat.le_of_ble_eq_true rfl⟩ rfl (Nat.le_of_ble_eq_true rfl) dX11_bound_31) (fun r31 h_31 => ?_)
  refine x_widen (k' := 0) (n' := 0) (Nat.le_of_ble_eq_true rfl) (Nat.le_of_ble_eq_true rfl) ?_
  refine x_norm (y := 0) (h_31) ?_
  refine x_aload_n hE dX11_bound_34 rfl 2 rfl ?_
  refine x_iload_n hE dX11_bound_35 rfl 1 rfl ?_
  refine c_ip hE (r_V (st := [.int 0, .int 0]) hE (k_falseAlarms l D cy L σ φ ρ (0) hLi pl1) q1312 q1313 q1314 q118 q1315 hLi rfl ⟨by decide, by decide, pn_X1_falseAlarms⟩ ⟨Nat.le_of_ble_eq_true rfl, Nat.le_of_ble_eq_true rfl⟩ ⟨Nat.le_of_ble_eq_true rfl, Nat.le_of_ble_eq_true rfl⟩ rfl (Nat.le_of_ble_eq_true rfl) dX11_bound_36) (fun r36 h_36 => ?_)
  refine x_widen (k' := 0) (n' := 0) (Nat.le_of_ble_eq_true rfl) (Nat.le_of_ble_eq_true rfl) ?_
  refine x_norm (y := 0) (h_36) ?_
  refine x_iadd hE dX11_bound_39 ?_
  refine x_norm (y := 0) (by decide) ?_
  refine x_icmp_ge (tgt := 45) hE dX11_bound_40 (by decide) (fun c_40 => ?_) (fun c_40 => absurd (by decide) c_40)
  refine x_iinc (v := 10) (lv' := [(3, .int 10), (2, .int 0), (1, .ref li), (0, .ref x)]) hE dX11_bound_45 0 rfl (by decide) (by decide) rfl ?_
  refine x_goto (tgt := 12) hE dX11_bound_48 (by decide) ?_
  refine x_iload_n hE dX11_bound_12 rfl 0 rfl ?_
  refine x_bipush (v := 10) hE dX11_bound_13 (by decide) ?_
  refine x_icmp_gt (tgt := 51) hE dX11_bound_15 (by decide) (fun c_15 => absurd c_15 (by decide)) (fun c_15 => ?_)
  refine x_aload_n hE dX11_bound_18 rfl 2 rfl ?_
  refine x_iload_n hE dX11_bound_19 rfl 0 rfl ?_
  refine c_ip hE (r_V (st := []) hE (k_misses l D cy L σ φ ρ (10) hLi pl1) q1308 q1309 q1310 q118 q1311 hLi rfl ⟨by decide, by decide, pn_X1_misses⟩ ⟨Nat.le_of_ble_eq_true rfl, Nat.le_of_ble_eq_true rfl⟩ ⟨Nat.le_of_ble_eq_true rfl, Nat.le_of_ble_eq_true rfl⟩ rfl (Nat.le_of_ble_eq_true rfl) dX11_bound_20) (fun r20 h_20 => ?_)
  refine x_widen (k' := 0) (n' := 0) (Nat.le_of_ble_eq_true rfl) (Nat.le_of_ble_eq_true rfl) ?_
  refine x_norm (y := 0) (h_20) ?_
  refine x_aload_n hE dX11_bound_23 rfl 2 rfl ?_
  refine x_iload_n hE dX11_bound_24 rfl 0 rfl ?_
  refine c_ip hE (r_V (st := [.int 0]) hE (k_falseAlarms l D cy L σ φ ρ (10) hLi pl1) q1312 q1313 q1314 q118 q1315 hLi rfl ⟨by decide, by decide, pn_X1_falseAlarms⟩ ⟨Nat.le_of_ble_eq_true rfl, Nat.le_of_ble_eq_true rfl⟩ ⟨Nat.le_of_ble_eq_true rfl, Nat.le_of_ble_eq_true rfl⟩ rfl (Nat.le_of_ble_eq_true rfl) dX11_bound_25) (fun r25 h_25 => ?_)
  refine x_widen (k' := 0) (n' := 0) (Nat.le_of_ble_eq_true rfl) (Nat.le_of_ble_eq_true rfl) ?_
  refine x_norm (y := 0) (h_25) ?_
  refine x_iadd hE dX11_bound_28 ?_
  refine x_norm (y := 0) (by decide) ?_
  refine x_aload_n hE dX11_bound_29 rfl 2 rfl ?_
  refine x_iload_n hE dX11_bound_30 rfl 1 rfl ?_
  refine c_ip hE (r_V (st := [.int 0]) hE (k_misses l D cy L σ φ ρ (0) hLi pl1) q1308 q1309 q1310 q118 q1311 hLi rfl ⟨by decide, by decide, pn_X1_misses⟩ ⟨Nat.le_of_ble_eq_true rfl, Nat.le_of_ble_eq_true rfl⟩ ⟨Nat.le_of_ble_eq_true rfl, Nat.le_of_ble_eq_true rfl⟩ rfl (Nat.le_of_ble_eq_true rfl) dX11_bound_31) (fun r31 h_31 => ?_)
  refine x_widen (k' := 0) (n' := 0) (Nat.le_of_ble_eq_true rfl) (Nat.le_of_ble_eq_true rfl) ?_
  refine x_norm (y := 0) (h_31) ?_
  refine x_aload_n hE dX11_bound_34 rfl 2 rfl ?_
  refine x_iload_n hE dX11_bound_35 rfl 1 rfl ?_
  refine c_ip hE (r_V (st := [.int 0, .int 0]) hE (k_falseAlarms l D cy L σ φ ρ (0) hLi pl1) q1312 q1313 q1314 q118 q1315 hLi rfl ⟨by decide, by decide, pn_X1_falseAlarms⟩ ⟨Nat.le_of_ble_eq_true rfl, Nat.le_of_ble_eq_true rfl⟩ ⟨Nat.le_of_ble_eq_true rfl, Nat.le_of_ble_eq_true rfl⟩ rfl (Nat.le_of_ble_eq_true rfl) dX11_bound_36) (fun r36 h_36 => ?_)
  refine x_widen (k' := 0) (n' := 0) (Nat.le_of_ble_eq_true rfl) (Nat.le_of_ble_eq_true rfl) ?_
  refine x_norm (y := 0) (h_36) ?_
  refine x_iadd hE dX11_bound_39 ?_
  refine x_norm (y := 0) (by decide) ?_
  refine x_icmp_ge (tgt := 45) hE dX11_bound_40 (by decide) (fun c_40 => ?_) (fun c_40 => absurd (by decide) c_40)
  refine x_iinc (v := 11) (lv' := [(3, .int 11), (2, .int 0), (1, .ref li), (0, .ref x)]) hE dX11_bound_45 0 rfl (by decide) (by decide) rfl ?_
  refine x_goto (tgt := 12) hE dX11_bound_48 (by decide) ?_
  refine x_iload_n hE dX11_bound_12 rfl 0 rfl ?_
  refine x_bipush (v := 10) hE dX11_bound_13 (by decide) ?_
  refine x_icmp_gt (tgt := 51) hE dX11_bound_15 (by decide) (fun c_15 => ?_) (fun c_15 => absurd (by decide) c_15)
  refine x_iload_n hE dX11_bound_51 rfl 1 rfl ?_
  exact hret _ _ _ _ _ _ _ _ (0) (Nat.le_of_ble_eq_true rfl) (Nat.le_of_ble_eq_true rfl) dX11_bound_52 (rfl) (by grind [zb])
set_option maxHeartbeats 4000000 in
set_option maxRecDepth 100000 in
theorem o_filling (l : Launch) (D : va_G) (cy : Nat → ClassId) (L : List Nat) (σ : Nat → va_E) (φ : Nat → Nat → Nat → Int32) (ρ : Nat → Nat → Int32) {x : Nat} (p a b c n q : Int32) (hx : zOR cy L σ φ x) : zML l D cy yX11_filling cX11_filling 15 (zrm 3 0 0) [.ref x, .int p, .int a, .int b, .int c, .int n, .int q] L σ φ ρ (fun r _ => r = -1) := by
  refine zML.mk (by decide) (Nat.le_of_ble_eq_true rfl) (fun E hE hret => ?_)
  show zW E 0 0 L σ φ ρ 0 [(0, .ref x), (1, .int p), (2, .int a), (3, .int b), (4, .int c), (5, .int n), (6, .int q)] []
  obtain ⟨now, kept, tape, reader, weather, planner, ways, la, wo, sp, li, te, g, la', wo', sp', li', te', g', hx, hs, hs0, hk, hk0, htp, htp0, hrd, hrd0, hrd1, hwe, hwe0, hpl, hwy⟩ := hx
  obtain ⟨hn, hla, hwo, hsp, hli, hte⟩ := id hs
  obtain ⟨p45, p46, p00, p01, p10, p50, p51, pl0, pl1, pl2, pg⟩ := id hs0
  obtain ⟨f0, f1, f2, f3, f4, f5, f6, f7, hL, hL0, hL1, hL2, hL3, hL4, hL5, hL6, hL7⟩ := id hla
  obtain ⟨w0, w1, w2, w3, w4, w5, w6, w7, hW, hW0, hW1, hW2, hW3, hW4, hW5, hW6, hW7⟩ := id hwo
  obtain ⟨s0, s1, hSp, hSp0, hSp1, hSpW⟩ := id hsp
  obtain ⟨i0, i1, i2, i3, i4, i5, i6, i7, hLi, hLi0, hLi1, hLi2, hLi3, hLi4, hLi5, hLi6, hLi7⟩ := id hli
  obtain ⟨t0, t1, t2, t3, hTp, hTp0, hTp1, hTp2, hTp3, hTn1, hTn2⟩ := id htp
  refine x_aload_n hE dX11_filling_0 rfl 0 rfl ?_
  refine h_getr hE hx rfl inZX11 0 (by decide) q556 rfl dX11_filling_1 ?_
  refine h_getr hE hn rfl inZX4 0 (by decide) q362 rfl dX11_filling_4 ?_
  refine x_iload_n hE dX11_filling_7 rfl 1 rfl ?_
  refine c_ip hE (r_V (st := []) hE (k_hasPerson l D cy L σ φ ρ (p) hL) q1032 q1033 q1034 q115 q1035 hL rfl ⟨by decide, by decide, pn_X0_hasPerson⟩ ⟨Nat.le_of_ble_eq_true rfl, Nat.le_of_ble_eq_true rfl⟩ ⟨Nat.le_of_ble_eq_true rfl, Nat.le_of_ble_eq_true rfl⟩ rfl (Nat.le_of_ble_eq_true rfl) dX11_filling_8) (fun r8 h8 => ?_)
  refine x_widen (k' := 0) (n' := 0) (Nat.le_of_ble_eq_true rfl) (Nat.le_of_ble_eq_true rfl) ?_
  refine x_norm (y := 0) (h8.trans (zb_f (fun e => z_le_nlt e.1 (p01 ▸ e.2)))) ?_
  refine x_if_eq (tgt := 56) hE dX11_filling_11 (by decide) (fun c_11 => ?_) (fun c_11 => absurd (by decide) c_11)
  refine x_ldc2 (v := -1) hE q1288 dX11_filling_56 ?_
  exact hret _ _ _ _ _ _ _ _ (-1) (Nat.le_of_ble_eq_true rfl) (Nat.le_of_ble_eq_true rfl) dX11_filling_59 (rfl)
end
