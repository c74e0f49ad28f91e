-- ===== PART A: goes FIRST, ahead of the names: the tables' words, and 'selects' of the private methods out of them =====
/-- a private method of a class that the tables say can be made, by its rows of tables_1 -/
def lw_okq (q : MethodName × Nat) : Prop := (q.1.cls ≠ "java/lang/invoke/MethodHandle" ∧ q.1.cls ≠ "java/lang/invoke/VarHandle") ∧ Cond.instantiable q.1.cls q.2 ∈ tables_1 ∧ Cond.privateMethod q.1 ∈ tables_1 ∧ Cond.instanceMethod q.1 ∈ tables_1
theorem lw_p0 : lw_okq (⟨"OrbitsWed", "bodiesFrom", "(III)I"⟩, 10) := ⟨⟨by decide +kernel, by decide +kernel⟩, List.mem_of_getElem? (i := 18) (by decide +kernel), List.mem_of_getElem? (i := 376) (by decide +kernel), List.mem_of_getElem? (i := 377) (by decide +kernel)⟩
theorem lw_p1 : lw_okq (⟨"OrbitsWed$Changes", "forgetOldest", "()V"⟩, 6) := ⟨⟨by decide +kernel, by decide +kernel⟩, List.mem_of_getElem? (i := 237) (by decide +kernel), List.mem_of_getElem? (i := 409) (by decide +kernel), List.mem_of_getElem? (i := 410) (by decide +kernel)⟩
theorem lw_p2 : lw_okq (⟨"OrbitsWed$Tape", "readsLine", "()Z"⟩, 6) := ⟨⟨by decide +kernel, by decide +kernel⟩, List.mem_of_getElem? (i := 84) (by decide +kernel), List.mem_of_getElem? (i := 438) (by decide +kernel), List.mem_of_getElem? (i := 439) (by decide +kernel)⟩
theorem lw_p3 : lw_okq (⟨"OrbitsWed$Tape", "readsEither", "(I)Z"⟩, 6) := ⟨⟨by decide +kernel, by decide +kernel⟩, List.mem_of_getElem? (i := 84) (by decide +kernel), List.mem_of_getElem? (i := 442) (by decide +kernel), List.mem_of_getElem? (i := 443) (by decide +kernel)⟩
theorem lw_p4 : lw_okq (⟨"OrbitsWed$Tape", "readsBoth", "(I)Z"⟩, 6) := ⟨⟨by decide +kernel, by decide +kernel⟩, List.mem_of_getElem? (i := 84) (by decide +kernel), List.mem_of_getElem? (i := 446) (by decide +kernel), List.mem_of_getElem? (i := 447) (by decide +kernel)⟩
theorem lw_p5 : lw_okq (⟨"OrbitsWed$Tape", "readsCompared", "(I)Z"⟩, 6) := ⟨⟨by decide +kernel, by decide +kernel⟩, List.mem_of_getElem? (i := 84) (by decide +kernel), List.mem_of_getElem? (i := 450) (by decide +kernel), List.mem_of_getElem? (i := 451) (by decide +kernel)⟩
theorem lw_p6 : lw_okq (⟨"OrbitsWed$Tape", "readsSum", "(I)Z"⟩, 6) := ⟨⟨by decide +kernel, by decide +kernel⟩, List.mem_of_getElem? (i := 84) (by decide +kernel), List.mem_of_getElem? (i := 454) (by decide +kernel), List.mem_of_getElem? (i := 455) (by decide +kernel)⟩
theorem lw_p7 : lw_okq (⟨"OrbitsWed$Tape", "readsProduct", "(I)Z"⟩, 6) := ⟨⟨by decide +kernel, by decide +kernel⟩, List.mem_of_getElem? (i := 84) (by decide +kernel), List.mem_of_getElem? (i := 458) (by decide +kernel), List.mem_of_getElem? (i := 459) (by decide +kernel)⟩
theorem lw_p8 : lw_okq (⟨"OrbitsWed$Tape", "readsOperand", "(I)Z"⟩, 6) := ⟨⟨by decide +kernel, by decide +kernel⟩, List.mem_of_getElem? (i := 84) (by decide +kernel), List.mem_of_getElem? (i := 462) (by decide +kernel), List.mem_of_getElem? (i := 463) (by decide +kernel)⟩
theorem lw_p9 : lw_okq (⟨"OrbitsWed$Tape", "next", "()I"⟩, 6) := ⟨⟨by decide +kernel, by decide +kernel⟩, List.mem_of_getElem? (i := 84) (by decide +kernel), List.mem_of_getElem? (i := 466) (by decide +kernel), List.mem_of_getElem? (i := 467) (by decide +kernel)⟩
theorem lw_p10 : lw_okq (⟨"OrbitsWed$Tape", "readNumber", "()V"⟩, 6) := ⟨⟨by decide +kernel, by decide +kernel⟩, List.mem_of_getElem? (i := 84) (by decide +kernel), List.mem_of_getElem? (i := 470) (by decide +kernel), List.mem_of_getElem? (i := 471) (by decide +kernel)⟩
theorem lw_p11 : lw_okq (⟨"OrbitsWed$Tape", "draft", "(II)V"⟩, 6) := ⟨⟨by decide +kernel, by decide +kernel⟩, List.mem_of_getElem? (i := 84) (by decide +kernel), List.mem_of_getElem? (i := 474) (by decide +kernel), List.mem_of_getElem? (i := 475) (by decide +kernel)⟩
theorem lw_p12 : lw_okq (⟨"OrbitsWed$Tape", "readsClosed", "(I)Z"⟩, 6) := ⟨⟨by decide +kernel, by decide +kernel⟩, List.mem_of_getElem? (i := 84) (by decide +kernel), List.mem_of_getElem? (i := 481) (by decide +kernel), List.mem_of_getElem? (i := 482) (by decide +kernel)⟩
theorem lw_p13 : lw_okq (⟨"OrbitsWed$Tape", "readsTurned", "(II)Z"⟩, 6) := ⟨⟨by decide +kernel, by decide +kernel⟩, List.mem_of_getElem? (i := 84) (by decide +kernel), List.mem_of_getElem? (i := 485) (by decide +kernel), List.mem_of_getElem? (i := 486) (by decide +kernel)⟩
theorem lw_p14 : lw_okq (⟨"OrbitsWed$Clock", "nextAtStart", "(IJJ)J"⟩, 1) := ⟨⟨by decide +kernel, by decide +kernel⟩, List.mem_of_getElem? (i := 74) (by decide +kernel), List.mem_of_getElem? (i := 588) (by decide +kernel), List.mem_of_getElem? (i := 589) (by decide +kernel)⟩
theorem lw_p15 : lw_okq (⟨"OrbitsWed$Clock", "isFree", "(II)Z"⟩, 1) := ⟨⟨by decide +kernel, by decide +kernel⟩, List.mem_of_getElem? (i := 74) (by decide +kernel), List.mem_of_getElem? (i := 624) (by decide +kernel), List.mem_of_getElem? (i := 625) (by decide +kernel)⟩
def lw_privs_1 : List (MethodName × Nat) := [(⟨"OrbitsWed", "bodiesFrom", "(III)I"⟩, 10), (⟨"OrbitsWed$Changes", "forgetOldest", "()V"⟩, 6), (⟨"OrbitsWed$Tape", "readsLine", "()Z"⟩, 6), (⟨"OrbitsWed$Tape", "readsEither", "(I)Z"⟩, 6), (⟨"OrbitsWed$Tape", "readsBoth", "(I)Z"⟩, 6), (⟨"OrbitsWed$Tape", "readsCompared", "(I)Z"⟩, 6), (⟨"OrbitsWed$Tape", "readsSum", "(I)Z"⟩, 6), (⟨"OrbitsWed$Tape", "readsProduct", "(I)Z"⟩, 6), (⟨"OrbitsWed$Tape", "readsOperand", "(I)Z"⟩, 6), (⟨"OrbitsWed$Tape", "next", "()I"⟩, 6), (⟨"OrbitsWed$Tape", "readNumber", "()V"⟩, 6), (⟨"OrbitsWed$Tape", "draft", "(II)V"⟩, 6), (⟨"OrbitsWed$Tape", "readsClosed", "(I)Z"⟩, 6), (⟨"OrbitsWed$Tape", "readsTurned", "(II)Z"⟩, 6), (⟨"OrbitsWed$Clock", "nextAtStart", "(IJJ)J"⟩, 1), (⟨"OrbitsWed$Clock", "isFree", "(II)Z"⟩, 1)]
theorem lw_r1 : ∀ q ∈ lw_privs_1, lw_okq q := List.forall_mem_cons.mpr ⟨lw_p0, List.forall_mem_cons.mpr ⟨lw_p1, List.forall_mem_cons.mpr ⟨lw_p2, List.forall_mem_cons.mpr ⟨lw_p3, List.forall_mem_cons.mpr ⟨lw_p4, List.forall_mem_cons.mpr ⟨lw_p5, List.forall_mem_cons.mpr ⟨lw_p6, List.forall_mem_cons.mpr ⟨lw_p7, List.forall_mem_cons.mpr ⟨lw_p8, List.forall_mem_cons.mpr ⟨lw_p9, List.forall_mem_cons.mpr ⟨lw_p10, List.forall_mem_cons.mpr ⟨lw_p11, List.forall_mem_cons.mpr ⟨lw_p12, List.forall_mem_cons.mpr ⟨lw_p13, List.forall_mem_cons.mpr ⟨lw_p14, List.forall_mem_cons.mpr ⟨lw_p15, fun _ h => absurd h List.not_mem_nil⟩⟩⟩⟩⟩⟩⟩⟩⟩⟩⟩⟩⟩⟩⟩⟩
theorem lw_p16 : lw_okq (⟨"OrbitsWed$Clock", "isLonely", "(IIII)Z"⟩, 1) := ⟨⟨by decide +kernel, by decide +kernel⟩, List.mem_of_getElem? (i := 74) (by decide +kernel), List.mem_of_getElem? (i := 656) (by decide +kernel), List.mem_of_getElem? (i := 657) (by decide +kernel)⟩
theorem lw_p17 : lw_okq (⟨"OrbitsWed$Walk", "look", "()V"⟩, 8) := ⟨⟨by decide +kernel, by decide +kernel⟩, List.mem_of_getElem? (i := 136) (by decide +kernel), List.mem_of_getElem? (i := 692) (by decide +kernel), List.mem_of_getElem? (i := 693) (by decide +kernel)⟩
theorem lw_p18 : lw_okq (⟨"OrbitsWed$Walk", "pushOf", "(II)I"⟩, 8) := ⟨⟨by decide +kernel, by decide +kernel⟩, List.mem_of_getElem? (i := 136) (by decide +kernel), List.mem_of_getElem? (i := 698) (by decide +kernel), List.mem_of_getElem? (i := 699) (by decide +kernel)⟩
theorem lw_p19 : lw_okq (⟨"OrbitsWed$Law", "workedOut", "()I"⟩, 5) := ⟨⟨by decide +kernel, by decide +kernel⟩, List.mem_of_getElem? (i := 114) (by decide +kernel), List.mem_of_getElem? (i := 710) (by decide +kernel), List.mem_of_getElem? (i := 711) (by decide +kernel)⟩
theorem lw_p20 : lw_okq (⟨"OrbitsWed$Law", "namedBy", "(I)I"⟩, 5) := ⟨⟨by decide +kernel, by decide +kernel⟩, List.mem_of_getElem? (i := 114) (by decide +kernel), List.mem_of_getElem? (i := 714) (by decide +kernel), List.mem_of_getElem? (i := 715) (by decide +kernel)⟩
theorem lw_p21 : lw_okq (⟨"OrbitsWed$Foresight", "firstSeen", "(I)I"⟩, 3) := ⟨⟨by decide +kernel, by decide +kernel⟩, List.mem_of_getElem? (i := 172) (by decide +kernel), List.mem_of_getElem? (i := 765) (by decide +kernel), List.mem_of_getElem? (i := 766) (by decide +kernel)⟩
theorem lw_p22 : lw_okq (⟨"OrbitsWed", "likings", "(IIIZ)I"⟩, 10) := ⟨⟨by decide +kernel, by decide +kernel⟩, List.mem_of_getElem? (i := 18) (by decide +kernel), List.mem_of_getElem? (i := 792) (by decide +kernel), List.mem_of_getElem? (i := 793) (by decide +kernel)⟩
theorem lw_p23 : lw_okq (⟨"OrbitsWed$Clock", "movesToMeet", "(III)I"⟩, 1) := ⟨⟨by decide +kernel, by decide +kernel⟩, List.mem_of_getElem? (i := 74) (by decide +kernel), List.mem_of_getElem? (i := 808) (by decide +kernel), List.mem_of_getElem? (i := 809) (by decide +kernel)⟩
theorem lw_p24 : lw_okq (⟨"OrbitsWed$Clock", "arcFrom", "(III)I"⟩, 1) := ⟨⟨by decide +kernel, by decide +kernel⟩, List.mem_of_getElem? (i := 74) (by decide +kernel), List.mem_of_getElem? (i := 831) (by decide +kernel), List.mem_of_getElem? (i := 832) (by decide +kernel)⟩
theorem lw_p25 : lw_okq (⟨"OrbitsWed$Foresight", "slipped", "(II)I"⟩, 3) := ⟨⟨by decide +kernel, by decide +kernel⟩, List.mem_of_getElem? (i := 172) (by decide +kernel), List.mem_of_getElem? (i := 846) (by decide +kernel), List.mem_of_getElem? (i := 847) (by decide +kernel)⟩
theorem lw_p26 : lw_okq (⟨"OrbitsWed$Moods", "own", "(IIII)I"⟩, 4) := ⟨⟨by decide +kernel, by decide +kernel⟩, List.mem_of_getElem? (i := 296) (by decide +kernel), List.mem_of_getElem? (i := 923) (by decide +kernel), List.mem_of_getElem? (i := 924) (by decide +kernel)⟩
theorem lw_p27 : lw_okq (⟨"OrbitsWed$Moods", "ranFrom", "(IIIII)I"⟩, 4) := ⟨⟨by decide +kernel, by decide +kernel⟩, List.mem_of_getElem? (i := 296) (by decide +kernel), List.mem_of_getElem? (i := 927) (by decide +kernel), List.mem_of_getElem? (i := 928) (by decide +kernel)⟩
theorem lw_p28 : lw_okq (⟨"OrbitsWed$Moods", "note", "(I)V"⟩, 4) := ⟨⟨by decide +kernel, by decide +kernel⟩, List.mem_of_getElem? (i := 296) (by decide +kernel), List.mem_of_getElem? (i := 939) (by decide +kernel), List.mem_of_getElem? (i := 940) (by decide +kernel)⟩
theorem lw_p29 : lw_okq (⟨"OrbitsWed$Moods", "drawing", "(IIII)I"⟩, 4) := ⟨⟨by decide +kernel, by decide +kernel⟩, List.mem_of_getElem? (i := 296) (by decide +kernel), List.mem_of_getElem? (i := 943) (by decide +kernel), List.mem_of_getElem? (i := 944) (by decide +kernel)⟩
theorem lw_p30 : lw_okq (⟨"OrbitsWed$Moods", "above", "(IIIII)I"⟩, 4) := ⟨⟨by decide +kernel, by decide +kernel⟩, List.mem_of_getElem? (i := 296) (by decide +kernel), List.mem_of_getElem? (i := 947) (by decide +kernel), List.mem_of_getElem? (i := 948) (by decide +kernel)⟩
theorem lw_p31 : lw_okq (⟨"OrbitsWed$Moods", "meeting", "(IIII)I"⟩, 4) := ⟨⟨by decide +kernel, by decide +kernel⟩, List.mem_of_getElem? (i := 296) (by decide +kernel), List.mem_of_getElem? (i := 951) (by decide +kernel), List.mem_of_getElem? (i := 952) (by decide +kernel)⟩
def lw_privs_2 : List (MethodName × Nat) := [(⟨"OrbitsWed$Clock", "isLonely", "(IIII)Z"⟩, 1), (⟨"OrbitsWed$Walk", "look", "()V"⟩, 8), (⟨"OrbitsWed$Walk", "pushOf", "(II)I"⟩, 8), (⟨"OrbitsWed$Law", "workedOut", "()I"⟩, 5), (⟨"OrbitsWed$Law", "namedBy", "(I)I"⟩, 5), (⟨"OrbitsWed$Foresight", "firstSeen", "(I)I"⟩, 3), (⟨"OrbitsWed", "likings", "(IIIZ)I"⟩, 10), (⟨"OrbitsWed$Clock", "movesToMeet", "(III)I"⟩, 1), (⟨"OrbitsWed$Clock", "arcFrom", "(III)I"⟩, 1), (⟨"OrbitsWed$Foresight", "slipped", "(II)I"⟩, 3), (⟨"OrbitsWed$Moods", "own", "(IIII)I"⟩, 4), (⟨"OrbitsWed$Moods", "ranFrom", "(IIIII)I"⟩, 4), (⟨"OrbitsWed$Moods", "note", "(I)V"⟩, 4), (⟨"OrbitsWed$Moods", "drawing", "(IIII)I"⟩, 4), (⟨"OrbitsWed$Moods", "above", "(IIIII)I"⟩, 4), (⟨"OrbitsWed$Moods", "meeting", "(IIII)I"⟩, 4)]
theorem lw_r2 : ∀ q ∈ lw_privs_2, lw_okq q := List.forall_mem_cons.mpr ⟨lw_p16, List.forall_mem_cons.mpr ⟨lw_p17, List.forall_mem_cons.mpr ⟨lw_p18, List.forall_mem_cons.mpr ⟨lw_p19, List.forall_mem_cons.mpr ⟨lw_p20, List.forall_mem_cons.mpr ⟨lw_p21, List.forall_mem_cons.mpr ⟨lw_p22, List.forall_mem_cons.mpr ⟨lw_p23, List.forall_mem_cons.mpr ⟨lw_p24, List.forall_mem_cons.mpr ⟨lw_p25, List.forall_mem_cons.mpr ⟨lw_p26, List.forall_mem_cons.mpr ⟨lw_p27, List.forall_mem_cons.mpr ⟨lw_p28, List.forall_mem_cons.mpr ⟨lw_p29, List.forall_mem_cons.mpr ⟨lw_p30, List.forall_mem_cons.mpr ⟨lw_p31, fun _ h => absurd h List.not_mem_nil⟩⟩⟩⟩⟩⟩⟩⟩⟩⟩⟩⟩⟩⟩⟩⟩
theorem lw_p32 : lw_okq (⟨"OrbitsWed$Moods", "shunning", "(IIII)I"⟩, 4) := ⟨⟨by decide +kernel, by decide +kernel⟩, List.mem_of_getElem? (i := 296) (by decide +kernel), List.mem_of_getElem? (i := 955) (by decide +kernel), List.mem_of_getElem? (i := 956) (by decide +kernel)⟩
theorem lw_p33 : lw_okq (⟨"OrbitsWed$Moods", "telling", "(IIII)I"⟩, 4) := ⟨⟨by decide +kernel, by decide +kernel⟩, List.mem_of_getElem? (i := 296) (by decide +kernel), List.mem_of_getElem? (i := 959) (by decide +kernel), List.mem_of_getElem? (i := 960) (by decide +kernel)⟩
theorem lw_p34 : lw_okq (⟨"OrbitsWedModel", "adds", "(III)V"⟩, 39) := ⟨⟨by decide +kernel, by decide +kernel⟩, List.mem_of_getElem? (i := 1036) (by decide +kernel), List.mem_of_getElem? (i := 1180) (by decide +kernel), List.mem_of_getElem? (i := 1181) (by decide +kernel)⟩
theorem lw_p35 : lw_okq (⟨"OrbitsWedModel", "placeOf", "(II)I"⟩, 39) := ⟨⟨by decide +kernel, by decide +kernel⟩, List.mem_of_getElem? (i := 1036) (by decide +kernel), List.mem_of_getElem? (i := 1197) (by decide +kernel), List.mem_of_getElem? (i := 1198) (by decide +kernel)⟩
theorem lw_p36 : lw_okq (⟨"OrbitsWedModel", "isOrb", "(J)Z"⟩, 39) := ⟨⟨by decide +kernel, by decide +kernel⟩, List.mem_of_getElem? (i := 1036) (by decide +kernel), List.mem_of_getElem? (i := 1201) (by decide +kernel), List.mem_of_getElem? (i := 1202) (by decide +kernel)⟩
theorem lw_p37 : lw_okq (⟨"OrbitsWedModel", "isAb", "(I)Z"⟩, 39) := ⟨⟨by decide +kernel, by decide +kernel⟩, List.mem_of_getElem? (i := 1036) (by decide +kernel), List.mem_of_getElem? (i := 1205) (by decide +kernel), List.mem_of_getElem? (i := 1206) (by decide +kernel)⟩
theorem lw_p38 : lw_okq (⟨"OrbitsWedModel", "mayBecome", "(III)Z"⟩, 39) := ⟨⟨by decide +kernel, by decide +kernel⟩, List.mem_of_getElem? (i := 1036) (by decide +kernel), List.mem_of_getElem? (i := 1209) (by decide +kernel), List.mem_of_getElem? (i := 1210) (by decide +kernel)⟩
theorem lw_p39 : lw_okq (⟨"OrbitsWedModel", "becomes", "(II)I"⟩, 39) := ⟨⟨by decide +kernel, by decide +kernel⟩, List.mem_of_getElem? (i := 1036) (by decide +kernel), List.mem_of_getElem? (i := 1215) (by decide +kernel), List.mem_of_getElem? (i := 1216) (by decide +kernel)⟩
theorem lw_p40 : lw_okq (⟨"OrbitsWedModel", "workOut", "(II)I"⟩, 39) := ⟨⟨by decide +kernel, by decide +kernel⟩, List.mem_of_getElem? (i := 1036) (by decide +kernel), List.mem_of_getElem? (i := 1233) (by decide +kernel), List.mem_of_getElem? (i := 1234) (by decide +kernel)⟩
theorem lw_p41 : lw_okq (⟨"OrbitsWedModel", "either", "()I"⟩, 39) := ⟨⟨by decide +kernel, by decide +kernel⟩, List.mem_of_getElem? (i := 1036) (by decide +kernel), List.mem_of_getElem? (i := 1237) (by decide +kernel), List.mem_of_getElem? (i := 1238) (by decide +kernel)⟩
theorem lw_p42 : lw_okq (⟨"OrbitsWedModel", "both", "()I"⟩, 39) := ⟨⟨by decide +kernel, by decide +kernel⟩, List.mem_of_getElem? (i := 1036) (by decide +kernel), List.mem_of_getElem? (i := 1241) (by decide +kernel), List.mem_of_getElem? (i := 1242) (by decide +kernel)⟩
theorem lw_p43 : lw_okq (⟨"OrbitsWedModel", "compared", "()I"⟩, 39) := ⟨⟨by decide +kernel, by decide +kernel⟩, List.mem_of_getElem? (i := 1036) (by decide +kernel), List.mem_of_getElem? (i := 1245) (by decide +kernel), List.mem_of_getElem? (i := 1246) (by decide +kernel)⟩
theorem lw_p44 : lw_okq (⟨"OrbitsWedModel", "sums", "()I"⟩, 39) := ⟨⟨by decide +kernel, by decide +kernel⟩, List.mem_of_getElem? (i := 1036) (by decide +kernel), List.mem_of_getElem? (i := 1249) (by decide +kernel), List.mem_of_getElem? (i := 1250) (by decide +kernel)⟩
theorem lw_p45 : lw_okq (⟨"OrbitsWedModel", "product", "()I"⟩, 39) := ⟨⟨by decide +kernel, by decide +kernel⟩, List.mem_of_getElem? (i := 1036) (by decide +kernel), List.mem_of_getElem? (i := 1253) (by decide +kernel), List.mem_of_getElem? (i := 1254) (by decide +kernel)⟩
theorem lw_p46 : lw_okq (⟨"OrbitsWedModel", "one", "()I"⟩, 39) := ⟨⟨by decide +kernel, by decide +kernel⟩, List.mem_of_getElem? (i := 1036) (by decide +kernel), List.mem_of_getElem? (i := 1257) (by decide +kernel), List.mem_of_getElem? (i := 1258) (by decide +kernel)⟩
theorem lw_p47 : lw_okq (⟨"OrbitsWedModel", "byteAt", "()I"⟩, 39) := ⟨⟨by decide +kernel, by decide +kernel⟩, List.mem_of_getElem? (i := 1036) (by decide +kernel), List.mem_of_getElem? (i := 1261) (by decide +kernel), List.mem_of_getElem? (i := 1262) (by decide +kernel)⟩
def lw_privs_3 : List (MethodName × Nat) := [(⟨"OrbitsWed$Moods", "shunning", "(IIII)I"⟩, 4), (⟨"OrbitsWed$Moods", "telling", "(IIII)I"⟩, 4), (⟨"OrbitsWedModel", "adds", "(III)V"⟩, 39), (⟨"OrbitsWedModel", "placeOf", "(II)I"⟩, 39), (⟨"OrbitsWedModel", "isOrb", "(J)Z"⟩, 39), (⟨"OrbitsWedModel", "isAb", "(I)Z"⟩, 39), (⟨"OrbitsWedModel", "mayBecome", "(III)Z"⟩, 39), (⟨"OrbitsWedModel", "becomes", "(II)I"⟩, 39), (⟨"OrbitsWedModel", "workOut", "(II)I"⟩, 39), (⟨"OrbitsWedModel", "either", "()I"⟩, 39), (⟨"OrbitsWedModel", "both", "()I"⟩, 39), (⟨"OrbitsWedModel", "compared", "()I"⟩, 39), (⟨"OrbitsWedModel", "sums", "()I"⟩, 39), (⟨"OrbitsWedModel", "product", "()I"⟩, 39), (⟨"OrbitsWedModel", "one", "()I"⟩, 39), (⟨"OrbitsWedModel", "byteAt", "()I"⟩, 39)]
theorem lw_r3 : ∀ q ∈ lw_privs_3, lw_okq q := List.forall_mem_cons.mpr ⟨lw_p32, List.forall_mem_cons.mpr ⟨lw_p33, List.forall_mem_cons.mpr ⟨lw_p34, List.forall_mem_cons.mpr ⟨lw_p35, List.forall_mem_cons.mpr ⟨lw_p36, List.forall_mem_cons.mpr ⟨lw_p37, List.forall_mem_cons.mpr ⟨lw_p38, List.forall_mem_cons.mpr ⟨lw_p39, List.forall_mem_cons.mpr ⟨lw_p40, List.forall_mem_cons.mpr ⟨lw_p41, List.forall_mem_cons.mpr ⟨lw_p42, List.forall_mem_cons.mpr ⟨lw_p43, List.forall_mem_cons.mpr ⟨lw_p44, List.forall_mem_cons.mpr ⟨lw_p45, List.forall_mem_cons.mpr ⟨lw_p46, List.forall_mem_cons.mpr ⟨lw_p47, fun _ h => absurd h List.not_mem_nil⟩⟩⟩⟩⟩⟩⟩⟩⟩⟩⟩⟩⟩⟩⟩⟩
theorem lw_p48 : lw_okq (⟨"OrbitsWedModel", "wrong", "()I"⟩, 39) := ⟨⟨by decide +kernel, by decide +kernel⟩, List.mem_of_getElem? (i := 1036) (by decide +kernel), List.mem_of_getElem? (i := 1265) (by decide +kernel), List.mem_of_getElem? (i := 1266) (by decide +kernel)⟩
theorem lw_p49 : lw_okq (⟨"OrbitsWedModel", "takes", "(I)Z"⟩, 39) := ⟨⟨by decide +kernel, by decide +kernel⟩, List.mem_of_getElem? (i := 1036) (by decide +kernel), List.mem_of_getElem? (i := 1269) (by decide +kernel), List.mem_of_getElem? (i := 1270) (by decide +kernel)⟩
theorem lw_p50 : lw_okq (⟨"OrbitsWedModel", "clock", "(IJ)I"⟩, 39) := ⟨⟨by decide +kernel, by decide +kernel⟩, List.mem_of_getElem? (i := 1036) (by decide +kernel), List.mem_of_getElem? (i := 1284) (by decide +kernel), List.mem_of_getElem? (i := 1285) (by decide +kernel)⟩
theorem lw_p51 : lw_okq (⟨"OrbitsWedModel", "degreesOf", "(II)I"⟩, 39) := ⟨⟨by decide +kernel, by decide +kernel⟩, List.mem_of_getElem? (i := 1036) (by decide +kernel), List.mem_of_getElem? (i := 1288) (by decide +kernel), List.mem_of_getElem? (i := 1289) (by decide +kernel)⟩
theorem lw_p52 : lw_okq (⟨"OrbitsWedModel", "apartOn", "(IIJ)I"⟩, 39) := ⟨⟨by decide +kernel, by decide +kernel⟩, List.mem_of_getElem? (i := 1036) (by decide +kernel), List.mem_of_getElem? (i := 1296) (by decide +kernel), List.mem_of_getElem? (i := 1297) (by decide +kernel)⟩
theorem lw_p53 : lw_okq (⟨"OrbitsWedModel", "meetOn", "(IIJ)Z"⟩, 39) := ⟨⟨by decide +kernel, by decide +kernel⟩, List.mem_of_getElem? (i := 1036) (by decide +kernel), List.mem_of_getElem? (i := 1303) (by decide +kernel), List.mem_of_getElem? (i := 1304) (by decide +kernel)⟩
theorem lw_p54 : lw_okq (⟨"OrbitsWedModel", "isSet", "(I)Z"⟩, 39) := ⟨⟨by decide +kernel, by decide +kernel⟩, List.mem_of_getElem? (i := 1036) (by decide +kernel), List.mem_of_getElem? (i := 1321) (by decide +kernel), List.mem_of_getElem? (i := 1322) (by decide +kernel)⟩
theorem lw_p55 : lw_okq (⟨"OrbitsWedModel", "moodOn", "(IJ)I"⟩, 39) := ⟨⟨by decide +kernel, by decide +kernel⟩, List.mem_of_getElem? (i := 1036) (by decide +kernel), List.mem_of_getElem? (i := 1341) (by decide +kernel), List.mem_of_getElem? (i := 1342) (by decide +kernel)⟩
theorem lw_p56 : lw_okq (⟨"OrbitsWedModel", "isQuiet", "(IJ)Z"⟩, 39) := ⟨⟨by decide +kernel, by decide +kernel⟩, List.mem_of_getElem? (i := 1036) (by decide +kernel), List.mem_of_getElem? (i := 1354) (by decide +kernel), List.mem_of_getElem? (i := 1355) (by decide +kernel)⟩
theorem lw_p57 : lw_okq (⟨"OrbitsWedModel", "meetsMoved", "(IIIJ)Z"⟩, 39) := ⟨⟨by decide +kernel, by decide +kernel⟩, List.mem_of_getElem? (i := 1036) (by decide +kernel), List.mem_of_getElem? (i := 1362) (by decide +kernel), List.mem_of_getElem? (i := 1363) (by decide +kernel)⟩
theorem lw_p58 : lw_okq (⟨"OrbitsWedModel", "ago", "(II)I"⟩, 39) := ⟨⟨by decide +kernel, by decide +kernel⟩, List.mem_of_getElem? (i := 1036) (by decide +kernel), List.mem_of_getElem? (i := 1374) (by decide +kernel), List.mem_of_getElem? (i := 1375) (by decide +kernel)⟩
theorem lw_p59 : lw_okq (⟨"OrbitsWedModel", "goes", "(I)V"⟩, 39) := ⟨⟨by decide +kernel, by decide +kernel⟩, List.mem_of_getElem? (i := 1036) (by decide +kernel), List.mem_of_getElem? (i := 1386) (by decide +kernel), List.mem_of_getElem? (i := 1387) (by decide +kernel)⟩
theorem lw_p60 : lw_okq (⟨"OrbitsWedModel", "begins", "()V"⟩, 39) := ⟨⟨by decide +kernel, by decide +kernel⟩, List.mem_of_getElem? (i := 1036) (by decide +kernel), List.mem_of_getElem? (i := 1390) (by decide +kernel), List.mem_of_getElem? (i := 1391) (by decide +kernel)⟩
theorem lw_p61 : lw_okq (⟨"OrbitsWedModel", "passes", "(I)V"⟩, 39) := ⟨⟨by decide +kernel, by decide +kernel⟩, List.mem_of_getElem? (i := 1036) (by decide +kernel), List.mem_of_getElem? (i := 1394) (by decide +kernel), List.mem_of_getElem? (i := 1395) (by decide +kernel)⟩
theorem lw_p62 : lw_okq (⟨"OrbitsWedModel", "meetNow", "(II)Z"⟩, 39) := ⟨⟨by decide +kernel, by decide +kernel⟩, List.mem_of_getElem? (i := 1036) (by decide +kernel), List.mem_of_getElem? (i := 1398) (by decide +kernel), List.mem_of_getElem? (i := 1399) (by decide +kernel)⟩
theorem lw_p63 : lw_okq (⟨"OrbitsWedModel", "apartNow", "(II)I"⟩, 39) := ⟨⟨by decide +kernel, by decide +kernel⟩, List.mem_of_getElem? (i := 1036) (by decide +kernel), List.mem_of_getElem? (i := 1402) (by decide +kernel), List.mem_of_getElem? (i := 1403) (by decide +kernel)⟩
def lw_privs_4 : List (MethodName × Nat) := [(⟨"OrbitsWedModel", "wrong", "()I"⟩, 39), (⟨"OrbitsWedModel", "takes", "(I)Z"⟩, 39), (⟨"OrbitsWedModel", "clock", "(IJ)I"⟩, 39), (⟨"OrbitsWedModel", "degreesOf", "(II)I"⟩, 39), (⟨"OrbitsWedModel", "apartOn", "(IIJ)I"⟩, 39), (⟨"OrbitsWedModel", "meetOn", "(IIJ)Z"⟩, 39), (⟨"OrbitsWedModel", "isSet", "(I)Z"⟩, 39), (⟨"OrbitsWedModel", "moodOn", "(IJ)I"⟩, 39), (⟨"OrbitsWedModel", "isQuiet", "(IJ)Z"⟩, 39), (⟨"OrbitsWedModel", "meetsMoved", "(IIIJ)Z"⟩, 39), (⟨"OrbitsWedModel", "ago", "(II)I"⟩, 39), (⟨"OrbitsWedModel", "goes", "(I)V"⟩, 39), (⟨"OrbitsWedModel", "begins", "()V"⟩, 39), (⟨"OrbitsWedModel", "passes", "(I)V"⟩, 39), (⟨"OrbitsWedModel", "meetNow", "(II)Z"⟩, 39), (⟨"OrbitsWedModel", "apartNow", "(II)I"⟩, 39)]
theorem lw_r4 : ∀ q ∈ lw_privs_4, lw_okq q := List.forall_mem_cons.mpr ⟨lw_p48, List.forall_mem_cons.mpr ⟨lw_p49, List.forall_mem_cons.mpr ⟨lw_p50, List.forall_mem_cons.mpr ⟨lw_p51, List.forall_mem_cons.mpr ⟨lw_p52, List.forall_mem_cons.mpr ⟨lw_p53, List.forall_mem_cons.mpr ⟨lw_p54, List.forall_mem_cons.mpr ⟨lw_p55, List.forall_mem_cons.mpr ⟨lw_p56, List.forall_mem_cons.mpr ⟨lw_p57, List.forall_mem_cons.mpr ⟨lw_p58, List.forall_mem_cons.mpr ⟨lw_p59, List.forall_mem_cons.mpr ⟨lw_p60, List.forall_mem_cons.mpr ⟨lw_p61, List.forall_mem_cons.mpr ⟨lw_p62, List.forall_mem_cons.mpr ⟨lw_p63, fun _ h => absurd h List.not_mem_nil⟩⟩⟩⟩⟩⟩⟩⟩⟩⟩⟩⟩⟩⟩⟩⟩
theorem lw_p64 : lw_okq (⟨"OrbitsWedModel", "pushOf", "(III)I"⟩, 39) := ⟨⟨by decide +kernel, by decide +kernel⟩, List.mem_of_getElem? (i := 1036) (by decide +kernel), List.mem_of_getElem? (i := 1406) (by decide +kernel), List.mem_of_getElem? (i := 1407) (by decide +kernel)⟩
theorem lw_p65 : lw_okq (⟨"OrbitsWedModel", "stoodAs", "(II)Z"⟩, 39) := ⟨⟨by decide +kernel, by decide +kernel⟩, List.mem_of_getElem? (i := 1036) (by decide +kernel), List.mem_of_getElem? (i := 1422) (by decide +kernel), List.mem_of_getElem? (i := 1423) (by decide +kernel)⟩
theorem lw_p66 : lw_okq (⟨"OrbitsWedModel", "bytesIs", "(I)I"⟩, 39) := ⟨⟨by decide +kernel, by decide +kernel⟩, List.mem_of_getElem? (i := 1036) (by decide +kernel), List.mem_of_getElem? (i := 1430) (by decide +kernel), List.mem_of_getElem? (i := 1431) (by decide +kernel)⟩
theorem lw_p67 : lw_okq (⟨"OrbitsWedModel", "firstFalse", "(II)I"⟩, 39) := ⟨⟨by decide +kernel, by decide +kernel⟩, List.mem_of_getElem? (i := 1036) (by decide +kernel), List.mem_of_getElem? (i := 1434) (by decide +kernel), List.mem_of_getElem? (i := 1435) (by decide +kernel)⟩
theorem lw_p68 : lw_okq (⟨"OrbitsWedModel", "gapBehind", "(III)I"⟩, 39) := ⟨⟨by decide +kernel, by decide +kernel⟩, List.mem_of_getElem? (i := 1036) (by decide +kernel), List.mem_of_getElem? (i := 1459) (by decide +kernel), List.mem_of_getElem? (i := 1460) (by decide +kernel)⟩
theorem lw_p69 : lw_okq (⟨"OrbitsWedModel", "meetsAnybody", "(I)Z"⟩, 39) := ⟨⟨by decide +kernel, by decide +kernel⟩, List.mem_of_getElem? (i := 1036) (by decide +kernel), List.mem_of_getElem? (i := 1469) (by decide +kernel), List.mem_of_getElem? (i := 1470) (by decide +kernel)⟩
theorem lw_p70 : lw_okq (⟨"OrbitsWedModel", "isBody", "(I)Z"⟩, 39) := ⟨⟨by decide +kernel, by decide +kernel⟩, List.mem_of_getElem? (i := 1036) (by decide +kernel), List.mem_of_getElem? (i := 1504) (by decide +kernel), List.mem_of_getElem? (i := 1505) (by decide +kernel)⟩
theorem lw_p71 : lw_okq (⟨"OrbitsWedModel", "drawsAs", "(II)I"⟩, 39) := ⟨⟨by decide +kernel, by decide +kernel⟩, List.mem_of_getElem? (i := 1036) (by decide +kernel), List.mem_of_getElem? (i := 1508) (by decide +kernel), List.mem_of_getElem? (i := 1509) (by decide +kernel)⟩
theorem lw_p72 : lw_okq (⟨"OrbitsWedModel", "runs", "(I)V"⟩, 39) := ⟨⟨by decide +kernel, by decide +kernel⟩, List.mem_of_getElem? (i := 1036) (by decide +kernel), List.mem_of_getElem? (i := 1512) (by decide +kernel), List.mem_of_getElem? (i := 1513) (by decide +kernel)⟩
theorem lw_p73 : lw_okq (⟨"OrbitsWedModel", "meetsAs", "(II)I"⟩, 39) := ⟨⟨by decide +kernel, by decide +kernel⟩, List.mem_of_getElem? (i := 1036) (by decide +kernel), List.mem_of_getElem? (i := 1516) (by decide +kernel), List.mem_of_getElem? (i := 1517) (by decide +kernel)⟩
theorem lw_p74 : lw_okq (⟨"OrbitsWedModel", "shunsAs", "(II)I"⟩, 39) := ⟨⟨by decide +kernel, by decide +kernel⟩, List.mem_of_getElem? (i := 1036) (by decide +kernel), List.mem_of_getElem? (i := 1520) (by decide +kernel), List.mem_of_getElem? (i := 1521) (by decide +kernel)⟩
theorem lw_p75 : lw_okq (⟨"OrbitsWedModel", "tellsAs", "(II)I"⟩, 39) := ⟨⟨by decide +kernel, by decide +kernel⟩, List.mem_of_getElem? (i := 1036) (by decide +kernel), List.mem_of_getElem? (i := 1524) (by decide +kernel), List.mem_of_getElem? (i := 1525) (by decide +kernel)⟩
theorem lw_p76 : lw_okq (⟨"OrbitsWedModel", "refusal", "(II)I"⟩, 39) := ⟨⟨by decide +kernel, by decide +kernel⟩, List.mem_of_getElem? (i := 1036) (by decide +kernel), List.mem_of_getElem? (i := 1545) (by decide +kernel), List.mem_of_getElem? (i := 1546) (by decide +kernel)⟩
theorem lw_p77 : lw_okq (⟨"OrbitsWedModel", "kindOf", "(I)I"⟩, 39) := ⟨⟨by decide +kernel, by decide +kernel⟩, List.mem_of_getElem? (i := 1036) (by decide +kernel), List.mem_of_getElem? (i := 1564) (by decide +kernel), List.mem_of_getElem? (i := 1565) (by decide +kernel)⟩
def lw_privs_5 : List (MethodName × Nat) := [(⟨"OrbitsWedModel", "pushOf", "(III)I"⟩, 39), (⟨"OrbitsWedModel", "stoodAs", "(II)Z"⟩, 39), (⟨"OrbitsWedModel", "bytesIs", "(I)I"⟩, 39), (⟨"OrbitsWedModel", "firstFalse", "(II)I"⟩, 39), (⟨"OrbitsWedModel", "gapBehind", "(III)I"⟩, 39), (⟨"OrbitsWedModel", "meetsAnybody", "(I)Z"⟩, 39), (⟨"OrbitsWedModel", "isBody", "(I)Z"⟩, 39), (⟨"OrbitsWedModel", "drawsAs", "(II)I"⟩, 39), (⟨"OrbitsWedModel", "runs", "(I)V"⟩, 39), (⟨"OrbitsWedModel", "meetsAs", "(II)I"⟩, 39), (⟨"OrbitsWedModel", "shunsAs", "(II)I"⟩, 39), (⟨"OrbitsWedModel", "tellsAs", "(II)I"⟩, 39), (⟨"OrbitsWedModel", "refusal", "(II)I"⟩, 39), (⟨"OrbitsWedModel", "kindOf", "(I)I"⟩, 39)]
theorem lw_r5 : ∀ q ∈ lw_privs_5, lw_okq q := List.forall_mem_cons.mpr ⟨lw_p64, List.forall_mem_cons.mpr ⟨lw_p65, List.forall_mem_cons.mpr ⟨lw_p66, List.forall_mem_cons.mpr ⟨lw_p67, List.forall_mem_cons.mpr ⟨lw_p68, List.forall_mem_cons.mpr ⟨lw_p69, List.forall_mem_cons.mpr ⟨lw_p70, List.forall_mem_cons.mpr ⟨lw_p71, List.forall_mem_cons.mpr ⟨lw_p72, List.forall_mem_cons.mpr ⟨lw_p73, List.forall_mem_cons.mpr ⟨lw_p74, List.forall_mem_cons.mpr ⟨lw_p75, List.forall_mem_cons.mpr ⟨lw_p76, List.forall_mem_cons.mpr ⟨lw_p77, fun _ h => absurd h List.not_mem_nil⟩⟩⟩⟩⟩⟩⟩⟩⟩⟩⟩⟩⟩⟩
def lw_privs : List (MethodName × Nat) := lw_privs_1 ++ (lw_privs_2 ++ (lw_privs_3 ++ (lw_privs_4 ++ (lw_privs_5))))
def lw_tbl : List Cond := k2_sels lw_privs ++ tables_1
theorem lw_privs_ok : ∀ q ∈ lw_privs, lw_okq q := by
  show ∀ q ∈ lw_privs_1 ++ (lw_privs_2 ++ (lw_privs_3 ++ (lw_privs_4 ++ (lw_privs_5)))), lw_okq q
  exact List.forall_mem_append.mpr ⟨lw_r1, List.forall_mem_append.mpr ⟨lw_r2, List.forall_mem_append.mpr ⟨lw_r3, List.forall_mem_append.mpr ⟨lw_r4, lw_r5⟩⟩⟩⟩

/-! ===== BEGIN words of one list among another's, by their places ===== -/
theorem goodIn_r {big : List Cond} (ws : List Cond) (ps : List Nat) (hp : ws = ps.filterMap (fun i => big[i]?)) (h : ws.all goodWord = true) : GoodIn big ws := by
  intro w hw
  have h1 := List.all_eq_true.mp h w hw
  rw [hp] at hw
  obtain ⟨i, -, hi⟩ := List.mem_filterMap.mp hw
  have hm : w ∈ big := by first | exact List.mem_of_getElem? hi | exact List.getElem?_mem hi
  exact ⟨hm, good_of_word h1⟩
theorem goodIn_app {big a b : List Cond} (ha : GoodIn big a) (hb : GoodIn big b) : GoodIn big (a ++ b) := fun w h => (List.mem_append.mp h).elim (ha w) (hb w)
theorem goodIn_ca {big a b : List Cond} {c : Cond} (ha : GoodIn big (c :: a)) (hb : GoodIn big b) : GoodIn big (c :: (a ++ b)) := fun w h => (List.mem_cons.mp h).elim (fun e => ha w (List.mem_cons.mpr (Or.inl e))) (fun h => (List.mem_append.mp h).elim (fun h => ha w (List.mem_cons.mpr (Or.inr h))) (hb w))
theorem goodIn_sub {big ws : List Cond} (hm : ∀ w ∈ ws, w ∈ big) (h : ws.all goodWord = true) : GoodIn big ws := fun w hw => ⟨hm w hw, good_of_word (List.all_eq_true.mp h w hw)⟩
/-! ===== END ===== -/

/-! ===== BEGIN new T[n][m]: the outer array a place, the inner ones among the pooled ===== -/
/-- f, but v at every address of l -/
def vr_up {α : Type} (f : Nat → α) (l : List Nat) (v : α) : Nat → α := fun a => if a ∈ l then v else f a
theorem vr_up_in {α : Type} {f : Nat → α} {l : List Nat} {v : α} {a : Nat} (h : a ∈ l) : vr_up f l v a = v := if_pos h
theorem vr_up_ne {α : Type} {f : Nat → α} {l : List Nat} {v : α} {a : Nat} (h : a ∉ l) : vr_up f l v a = f a := if_neg h
theorem vr_rows {L l : List Nat} {f : Nat → va_E} {e : va_E} (h : ∀ a, a ∈ l → a ∉ L) : va_pl L f ++ l.map (fun a => (a, e)) = va_pl (L ++ l) (vr_up f l e) := by
  unfold va_pl
  rw [List.map_append]
  congr 1
  · apply List.map_congr_left
    intro a ha
    rw [vr_up_ne (fun q => h a q ha)]
  · apply List.map_congr_left
    intro a ha
    rw [vr_up_in ha]
theorem vr_lay {X rows : va_W} {x : Nat × va_E} {pl : va_W} {D : va_G} {cl : List vw_C} {H : Heap} (hP : va_P D cl (((X ++ pl) ++ [x]) ++ rows) H) : va_P D cl ((X ++ [x]) ++ (pl ++ rows)) H := by
  rw [List.append_assoc (X ++ pl)] at hP
  have h := va_P.swap hP
  rw [← List.append_assoc X] at h
  have h2 := va_P.swap h
  rw [List.append_assoc (X ++ [x])] at h2
  exact h2
theorem vr_layD {X rows : va_W} {x : Nat × va_E} {pl : va_W} {A : Nat → Prop} (hD : va_D A (((X ++ pl) ++ [x]) ++ rows)) : va_D A ((X ++ [x]) ++ (pl ++ rows)) := by
  rw [List.append_assoc (X ++ pl)] at hD
  have h := va_D.swap hD
  rw [← List.append_assoc X] at h
  have h2 := va_D.swap h
  rw [List.append_assoc (X ++ [x])] at h2
  exact h2
theorem vr_outer (c : ClassId) (N h0 : Nat) : ∀ i : Nat, Jvm.Free.Multi.outerC c N h0 i = arrV c N (fun j => va_rf (if j < i then some (h0 + 1 + j) else none))
  | 0 => by
    show ({ cls := c, slots := Array.replicate N .null, vm := .none } : Cell) = _
    rw [arrV_new]
    refine congrArg (arrV c N) (funext fun j => ?_)
    simp [va_rf]
  | i + 1 => by
    show (Jvm.Free.Multi.outerC c N h0 i).setSlot i (.ref (h0 + 1 + i)) = _
    rw [vr_outer c N h0 i, arrV_store]
    refine congrArg (arrV c N) (funext fun j => ?_)
    by_cases e : j = i
    · subst e
      simp [updV, va_rf]
    · by_cases h : j < i
      · simp [updV, e, h, Nat.lt_succ_of_lt h]
      · simp [updV, e, h, show ¬ j < i + 1 by omega]
section VGM
variable {p : Program} {l : Launch} {e : Env} {R : Room} {s : State} {m : MethodId} {args : Array Value} {below : List Frame} {meth : Method} {c : Code} {H : Heap} {locs : List Loc} {cells slots : Nat} {Q : State → Prop}
variable {cc : ByteArray} {pc : Nat} {ls : Array Slot} {rest : List Value} {D : va_G} {cl : List vw_C} {A : Nat → Prop} {a : Nat} {tys : List (ClassId × FieldType)} {ws : va_W} {H0 : Heap}
theorem va_mna {X : va_W} {L : List Nat} {f : Nat → va_E} {cc : ByteArray} (hexec : p.tables.exec = Jvm.exec) (hb : c.code = cc) {own : String} {index : Nat} {ty : FieldType} {cy : ClassId} (hown : s.vm.findClass own = some m.cls) (hclink : (Cond.classLink own index ("[" ++ (FieldType.array ty).toString)).before args s = true) (hover : (Cond.arrayOver (.array ty)).before args s = true) (harr : (Cond.arrayClass ty).before args s = true) (hcy : s.vm.findClass (FieldType.array ty).toString = some cy)
    (hK : va_K D cl tys s) (hP : va_P D cl (X ++ va_pl L f) H) (hD : va_D A (X ++ va_pl L f)) (hS : va_S A H0 H locs) (hA : ∀ q, H0.size ≤ q → A q) {n k : Int32} {N' K' : Nat} {z : vp_A} (hn : ¬ n < 0) (hk : ¬ k < 0) (hN : n.toNatClampNeg = N') (hM : k.toNatClampNeg = K')
    (hb1 : N' * 4 ≤ 536870912) (hb2 : K' * componentBytes ty ≤ 536870912) (hb3 : K' ≤ 536870912) (hdf : fits ty (defaultValue ty) = true) (hdd : (defaultValue ty).isDefault = true) (hcells : cells + (1 + N') ≤ R.cells) (hslots : slots + (N' + N' * K') ≤ R.slots) (hz : ∀ c : ClassId, Jvm.Free.Multi.innerC c K' (defaultValue ty) = vp_cell c z) (hdg : decode cc pc = .ok (.multianewarray index 2, 4))
    (kk : ∀ (q : Nat) (r : Nat → Nat) (cA : ClassId) (H1 : Heap), (∀ i j : Nat, i < N' → j < N' → r i = r j → i = j) → (∀ i : Nat, i < N' → r i ∉ L) → va_K D cl (tys ++ [(cA, .array ty)]) s →
      va_P D cl ((X ++ [(q, .inl (cA, N', .inr (.inr (.inr (.inr (fun i => if i < N' then some (r i) else none))))))]) ++ va_pl (L ++ (List.range N').map r) (vr_up f ((List.range N').map r) (.inl (cy, z)))) H1 → va_D A ((X ++ [(q, .inl (cA, N', .inr (.inr (.inr (.inr (fun i => if i < N' then some (r i) else none))))))]) ++ va_pl (L ++ (List.range N').map r) (vr_up f ((List.range N').map r) (.inl (cy, z)))) → va_S A H0 H1 locs →
      W p l e R s m args below meth c H1 locs (cells + 1 + N') (slots + N' + N' * K') Q (F0 m (pc + 4) ls (.ref q :: rest))) : W p l e R s m args below meth c H locs cells slots Q (F0 m pc ls (.int k :: .int n :: rest)) := by
  subst hN
  subst hM
  intro T hT Xs
  obtain ⟨vm₁, cA, comp, -, fA, fC, hO, -, X', step⟩ := Xs.multianewarray2F hexec hown hclink hover harr (g := F0 m pc ls (.int k :: .int n :: rest)) rfl (by rw [hb]; exact hdg) rfl hn hk hb1 hb2 hb3 hdf hdd hcells hslots
  have ec : some cy = some comp := hcy.symm.trans fC
  cases ec
  generalize hF : Jvm.Free.Multi.fill (T.setVm vm₁) cA cy n.toNatClampNeg k.toNatClampNeg (defaultValue ty) n.toNatClampNeg = F at X' step
  have hTh : (T.setVm vm₁).heap = H := hT
  obtain ⟨f1, f2, -, -⟩ := Jvm.Free.Multi.fill_facts (T.setVm vm₁) cA cy n.toNatClampNeg k.toNatClampNeg (defaultValue ty) n.toNatClampNeg
  rw [hF, hTh] at f1 f2
  have hold : ∀ x : Nat, x < H.size → F.heap[x]? = H[x]? := fun x hx => by
    have := Jvm.Free.Multi.fill_old (T.setVm vm₁) cA cy n.toNatClampNeg k.toNatClampNeg (defaultValue ty) (a := x) (by rw [hTh]; exact hx) n.toNatClampNeg
    rw [hF, hTh] at this
    exact this
  have hrow : ∀ j : Nat, j < n.toNatClampNeg → F.heap[H.size + 1 + j]? = some (vp_cell cy z) := fun j hj => by
    have := Jvm.Free.Multi.fill_inner (T.setVm vm₁) cA cy n.toNatClampNeg k.toNatClampNeg (defaultValue ty) n.toNatClampNeg j hj
    rw [hF, hTh, hz] at this
    exact this
  have hout : Jvm.Free.Multi.outerC cA n.toNatClampNeg H.size n.toNatClampNeg = vp_cell cA (n.toNatClampNeg, .inr (.inr (.inr (.inr (fun i => if i < n.toNatClampNeg then some (H.size + 1 + i) else none))))) := by
    rw [vp_cell_q]
    exact vr_outer cA n.toNatClampNeg H.size n.toNatClampNeg
  rw [hout] at f2
  have hlt : ∀ a, a ∈ L → a < H.size := fun a ha => by
    obtain ⟨k9, hk9⟩ := va_pl_get (X := X) (f := f) ha
    exact (hP k9 _ hk9).lt
  have hnl : ∀ i : Nat, i < n.toNatClampNeg → H.size + 1 + i ∉ L := fun i _ h => by
    have := hlt _ h
    omega
  have hnm : ∀ a, a ∈ (List.range n.toNatClampNeg).map (fun i => H.size + 1 + i) → a ∉ L := fun a ha h => by
    obtain ⟨i, -, rfl⟩ := List.mem_map.mp ha
    have := hlt _ h
    omega
  have hP0 : va_P D cl (X ++ va_pl L f) F.heap := hP.kept (fun k9 x hx => hold x.1 ((hP k9 x hx).lt))
  have hP1 : va_P D cl ((X ++ va_pl L f) ++ [(H.size, .inl (cA, n.toNatClampNeg, .inr (.inr (.inr (.inr (fun i => if i < n.toNatClampNeg then some (H.size + 1 + i) else none))))))]) F.heap := hP0.app (fun k9 x hx => by
    have h0 : k9 < 1 := (List.getElem?_eq_some_iff.mp hx).1
    rw [show k9 = 0 by omega] at hx
    cases hx
    exact f2)
  have hP2 : va_P D cl (((X ++ va_pl L f) ++ [(H.size, .inl (cA, n.toNatClampNeg, .inr (.inr (.inr (.inr (fun i => if i < n.toNatClampNeg then some (H.size + 1 + i) else none))))))]) ++ ((List.range n.toNatClampNeg).map (fun i => H.size + 1 + i)).map (fun a => (a, .inl (cy, z)))) F.heap := hP1.app (fun k9 x hx => by
    obtain ⟨a, ha, rfl⟩ := List.mem_map.mp (List.mem_of_getElem? hx)
    obtain ⟨i, hi, rfl⟩ := List.mem_map.mp ha
    exact hrow i (List.mem_range.mp hi))
  have hD2 : va_D A (((X ++ va_pl L f) ++ [(H.size, .inl (cA, n.toNatClampNeg, .inr (.inr (.inr (.inr (fun i => if i < n.toNatClampNeg then some (H.size + 1 + i) else none))))))]) ++ ((List.range n.toNatClampNeg).map (fun i => H.size + 1 + i)).map (fun a => (a, .inl (cy, z)))) := by
    have hD1 := hD.push (e := .inl (cA, n.toNatClampNeg, .inr (.inr (.inr (.inr (fun i => if i < n.toNatClampNeg then some (H.size + 1 + i) else none)))))) hP rfl (hA _ hS.1)
    generalize hW1 : (X ++ va_pl L f) ++ [(H.size, .inl (cA, n.toNatClampNeg, .inr (.inr (.inr (.inr (fun i => if i < n.toNatClampNeg then some (H.size + 1 + i) else none))))))] = W1 at hD1 hP1 ⊢
    have hle : ∀ (k9 : Nat) (x : Nat × va_E), W1[k9]? = some x → x.1 ≤ H.size := fun k9 x hx => by
      rw [← hW1] at hx
      by_cases hl : k9 < (X ++ va_pl L f).length
      · rw [List.getElem?_append_left hl] at hx
        exact Nat.le_of_lt ((hP k9 x hx).lt)
      · rw [List.getElem?_append_right (by omega)] at hx
        have h0 : k9 - (X ++ va_pl L f).length < 1 := (List.getElem?_eq_some_iff.mp hx).1
        rw [show k9 - (X ++ va_pl L f).length = 0 by omega] at hx
        cases hx
        exact Nat.le_refl _
    have hr : ∀ (k9 : Nat) (x : Nat × va_E), (((List.range n.toNatClampNeg).map (fun i => H.size + 1 + i)).map (fun a => ((a, .inl (cy, z)) : Nat × va_E)))[k9]? = some x → x.1 = H.size + 1 + k9 := fun k9 x hx => by
      rw [List.getElem?_map, List.getElem?_map] at hx
      by_cases h9 : k9 < n.toNatClampNeg
      · rw [List.getElem?_range h9] at hx
        cases hx
        rfl
      · have hn0 : (List.range n.toNatClampNeg)[k9]? = none := List.getElem?_eq_none (by rw [List.length_range]; omega)
        rw [hn0] at hx
        cases hx
    refine ⟨fun i j x y hi hj hxy => ?_, fun k9 x hx => ?_⟩
    · by_cases h1 : i < W1.length <;> by_cases h2 : j < W1.length
      · rw [List.getElem?_append_left h1] at hi
        rw [List.getElem?_append_left h2] at hj
        exact hD1.1 i j x y hi hj hxy
      · rw [List.getElem?_append_left h1] at hi
        rw [List.getElem?_append_right (by omega)] at hj
        have := hle _ _ hi
        have := hr _ _ hj
        omega
      · rw [List.getElem?_append_right (by omega)] at hi
        rw [List.getElem?_append_left h2] at hj
        have := hle _ _ hj
        have := hr _ _ hi
        omega
      · rw [List.getElem?_append_right (by omega)] at hi hj
        have := hr _ _ hi
        have := hr _ _ hj
        omega
    · by_cases h1 : k9 < W1.length
      · rw [List.getElem?_append_left h1] at hx
        exact hD1.2 k9 x hx
      · rw [List.getElem?_append_right (by omega)] at hx
        have := hr _ _ hx
        exact hA _ (by have := hS.1; omega)
  have hAr : ArrOfT s cA (.array ty) := fun N9 z9 => by
    obtain ⟨-, k9, hk9, cm9, hkk9⟩ := (hO 0 0 0).1
    exact ⟨(fun q hq => by cases hq), k9, hk9, cm9, hkk9⟩
  have hK2 : va_K D cl (tys ++ [(cA, .array ty)]) s := ⟨hK.1, fun k9 x hx => by
    by_cases hl : k9 < tys.length
    · rw [List.getElem?_append_left hl] at hx
      exact hK.2 k9 x hx
    · rw [List.getElem?_append_right (by omega)] at hx
      have h0 : k9 - tys.length < 1 := (List.getElem?_eq_some_iff.mp hx).1
      rw [show k9 - tys.length = 0 by omega] at hx
      cases hx
      exact ⟨hAr, fA⟩⟩
  obtain ⟨t, a1, b1⟩ := kk H.size (fun i => H.size + 1 + i) cA F.heap (fun i j _ _ h => by have h9 : H.size + 1 + i = H.size + 1 + j := h; omega) hnl hK2 (by rw [← vr_rows hnm]; exact vr_lay hP2) (by rw [← vr_rows hnm]; exact vr_layD hD2) ⟨by rw [f1]; have := hS.1; omega, fun x h1 h2 => (hold x (Nat.lt_of_lt_of_le h1 hS.1)).trans (hS.2.1 x h1 h2), hS.2.2⟩ F rfl X'
  refine ⟨t, step t ?_, b1⟩
  have e : T.heap.size = H.size := by rw [hT]
  rw [e]
  exact a1
end VGM
/-! ===== END ===== -/

def RX0 : String := "OrbitsWed$Changes"
def TX0 : u_T := fun k => match k with
  | 0 => ("OrbitsWed$Changes", "numbers", "[I", true)
  | 1 => ("OrbitsWed$Changes", "whats", "[I", true)
  | 2 => ("OrbitsWed$Changes", "olds", "[I", true)
  | 3 => ("OrbitsWed$Changes", "news", "[I", true)
  | 4 => ("OrbitsWed$Changes", "done", "I", false)
  | _ => ("OrbitsWed$Changes", "size", "I", false)
def tyX0 : Nat → FieldType := fun k => match k with
  | 0 => .array .int
  | 1 => .array .int
  | 2 => .array .int
  | 3 => .array .int
  | 4 => .int
  | _ => .int
abbrev wsX00 : List Cond := u_ws RX0 TX0 6
theorem nmX0 : ∀ a, a < 6 → ∀ b, b < 6 → a ≠ b → (TX0 a).2.1 ≠ (TX0 b).2.1 := by decide +kernel
theorem tyX0_ok : ∀ k, k < 6 → parseFieldDescriptor (TX0 k).2.2.1 = some (tyX0 k) := by decide +kernel
abbrev cX0_init : ByteArray := prog_2_method_1_code
def yX0_init : MethodName := ⟨RX0, "<init>", "()V"⟩
abbrev cX0_add : ByteArray := prog_2_method_2_code
def yX0_add : MethodName := ⟨RX0, "add", "(IIII)V"⟩
abbrev cX0_forgetOldest : ByteArray := prog_2_method_3_code
def yX0_forgetOldest : MethodName := ⟨RX0, "forgetOldest", "()V"⟩
def RX1 : String := "OrbitsWed$Clock"
def TX1 : u_T := fun k => match k with
  | _ => ("OrbitsWed$Clock", "sky", "LOrbitsWed$Sky;", true)
def tyX1 : Nat → FieldType := fun k => match k with
  | _ => .object "OrbitsWed$Sky"
abbrev wsX10 : List Cond := u_ws RX1 TX1 1
theorem nmX1 : ∀ a, a < 1 → ∀ b, b < 1 → a ≠ b → (TX1 a).2.1 ≠ (TX1 b).2.1 := by decide +kernel
theorem tyX1_ok : ∀ k, k < 1 → parseFieldDescriptor (TX1 k).2.2.1 = some (tyX1 k) := by decide +kernel
abbrev cX1_init : ByteArray := prog_3_method_1_code
def yX1_init : MethodName := ⟨RX1, "<init>", "(LOrbitsWed$Sky;)V"⟩
abbrev cX1_firstMeeting : ByteArray := prog_3_method_2_code
def yX1_firstMeeting : MethodName := ⟨RX1, "firstMeeting", "(III)I"⟩
abbrev cX1_meetingsIn : ByteArray := prog_3_method_3_code
def yX1_meetingsIn : MethodName := ⟨RX1, "meetingsIn", "(IIII)I"⟩
abbrev cX1_togetherAgain : ByteArray := prog_3_method_4_code
def yX1_togetherAgain : MethodName := ⟨RX1, "togetherAgain", "(I)J"⟩
abbrev cX1_allAtStart : ByteArray := prog_3_method_5_code
def yX1_allAtStart : MethodName := ⟨RX1, "allAtStart", "(I)J"⟩
abbrev cX1_nextAtStart : ByteArray := prog_3_method_6_code
def yX1_nextAtStart : MethodName := ⟨RX1, "nextAtStart", "(IJJ)J"⟩
abbrev cX1_leastCommon : ByteArray := prog_3_method_7_code
def yX1_leastCommon : MethodName := ⟨RX1, "leastCommon", "(JJ)J"⟩
abbrev cX1_moodOn : ByteArray := prog_3_method_8_code
def yX1_moodOn : MethodName := ⟨RX1, "moodOn", "(II)I"⟩
abbrev cX1_bestDay : ByteArray := prog_3_method_9_code
def yX1_bestDay : MethodName := ⟨RX1, "bestDay", "(III)I"⟩
abbrev cX1_metOn : ByteArray := prog_3_method_10_code
def yX1_metOn : MethodName := ⟨RX1, "metOn", "(II)I"⟩
abbrev cX1_isFree : ByteArray := prog_3_method_11_code
def yX1_isFree : MethodName := ⟨RX1, "isFree", "(II)Z"⟩
abbrev cX1_firstFreeDay : ByteArray := prog_3_method_12_code
def yX1_firstFreeDay : MethodName := ⟨RX1, "firstFreeDay", "(II)I"⟩
abbrev cX1_freeDaysIn : ByteArray := prog_3_method_13_code
def yX1_freeDaysIn : MethodName := ⟨RX1, "freeDaysIn", "(III)I"⟩
abbrev cX1_leastNudge : ByteArray := prog_3_method_14_code
def yX1_leastNudge : MethodName := ⟨RX1, "leastNudge", "(III)I"⟩
abbrev cX1_isLonely : ByteArray := prog_3_method_15_code
def yX1_isLonely : MethodName := ⟨RX1, "isLonely", "(IIII)Z"⟩
abbrev cX1_lonelyPlaces : ByteArray := prog_3_method_16_code
def yX1_lonelyPlaces : MethodName := ⟨RX1, "lonelyPlaces", "(III)I"⟩
abbrev cX1_leastLonelyPlace : ByteArray := prog_3_method_17_code
def yX1_leastLonelyPlace : MethodName := ⟨RX1, "leastLonelyPlace", "(III)I"⟩
abbrev cX1_daysSinceScene : ByteArray := prog_3_method_18_code
def yX1_daysSinceScene : MethodName := ⟨RX1, "daysSinceScene", "(II)I"⟩
abbrev cX1_firstWinningNudge : ByteArray := prog_3_method_19_code
def yX1_firstWinningNudge : MethodName := ⟨RX1, "firstWinningNudge", "(IIII)I"⟩
abbrev cX1_movesToMeet : ByteArray := prog_3_method_20_code
def yX1_movesToMeet : MethodName := ⟨RX1, "movesToMeet", "(III)I"⟩
abbrev cX1_leastArc : ByteArray := prog_3_method_21_code
def yX1_leastArc : MethodName := ⟨RX1, "leastArc", "(II)I"⟩
abbrev cX1_arcFrom : ByteArray := prog_3_method_22_code
def yX1_arcFrom : MethodName := ⟨RX1, "arcFrom", "(III)I"⟩
def RX2 : String := "OrbitsWed$Deeds"
def TX2 : u_T := fun k => match k with
  | 0 => ("OrbitsWed$Deeds", "sky", "LOrbitsWed$Sky;", true)
  | 1 => ("OrbitsWed$Deeds", "days", "I", false)
  | 2 => ("OrbitsWed$Deeds", "pushes", "I", false)
  | 3 => ("OrbitsWed$Deeds", "meetings", "I", false)
  | 4 => ("OrbitsWed$Deeds", "nudges", "I", false)
  | 5 => ("OrbitsWed$Deeds", "hasImage", "Z", false)
  | 6 => ("OrbitsWed$Deeds", "imagePlaces", "[I", true)
  | 7 => ("OrbitsWed$Deeds", "imageSize", "I", false)
  | 8 => ("OrbitsWed$Deeds", "imageDays", "I", false)
  | 9 => ("OrbitsWed$Deeds", "imagePushes", "I", false)
  | 10 => ("OrbitsWed$Deeds", "imageMeetings", "I", false)
  | _ => ("OrbitsWed$Deeds", "imageNudges", "I", false)
def tyX2 : Nat → FieldType := fun k => match k with
  | 0 => .object "OrbitsWed$Sky"
  | 1 => .int
  | 2 => .int
  | 3 => .int
  | 4 => .int
  | 5 => .boolean
  | 6 => .array .int
  | 7 => .int
  | 8 => .int
  | 9 => .int
  | 10 => .int
  | _ => .int
abbrev wsX20 : List Cond := u_ws RX2 TX2 12
theorem nmX2 : ∀ a, a < 12 → ∀ b, b < 12 → a ≠ b → (TX2 a).2.1 ≠ (TX2 b).2.1 := by decide +kernel
theorem tyX2_ok : ∀ k, k < 12 → parseFieldDescriptor (TX2 k).2.2.1 = some (tyX2 k) := by decide +kernel
abbrev cX2_init : ByteArray := prog_4_method_1_code
def yX2_init : MethodName := ⟨RX2, "<init>", "(LOrbitsWed$Sky;)V"⟩
abbrev cX2_keepImage : ByteArray := prog_4_method_2_code
def yX2_keepImage : MethodName := ⟨RX2, "keepImage", "()V"⟩
abbrev cX2_layBack : ByteArray := prog_4_method_3_code
def yX2_layBack : MethodName := ⟨RX2, "layBack", "()V"⟩
def RX3 : String := "OrbitsWed$Foresight"
def TX3 : u_T := fun k => match k with
  | 0 => ("OrbitsWed$Foresight", "sky", "LOrbitsWed$Sky;", true)
  | 1 => ("OrbitsWed$Foresight", "walk", "LOrbitsWed$Walk;", true)
  | _ => ("OrbitsWed$Foresight", "seen", "[J", true)
def tyX3 : Nat → FieldType := fun k => match k with
  | 0 => .object "OrbitsWed$Sky"
  | 1 => .object "OrbitsWed$Walk"
  | _ => .array .long
abbrev wsX30 : List Cond := u_ws RX3 TX3 3
theorem nmX3 : ∀ a, a < 3 → ∀ b, b < 3 → a ≠ b → (TX3 a).2.1 ≠ (TX3 b).2.1 := by decide +kernel
theorem tyX3_ok : ∀ k, k < 3 → parseFieldDescriptor (TX3 k).2.2.1 = some (tyX3 k) := by decide +kernel
abbrev cX3_init : ByteArray := prog_5_method_1_code
def yX3_init : MethodName := ⟨RX3, "<init>", "(LOrbitsWed$Sky;LOrbitsWed$Walk;)V"⟩
abbrev cX3_placeBehind : ByteArray := prog_5_method_2_code
def yX3_placeBehind : MethodName := ⟨RX3, "placeBehind", "(II)I"⟩
abbrev cX3_pushesIn : ByteArray := prog_5_method_3_code
def yX3_pushesIn : MethodName := ⟨RX3, "pushesIn", "(I)I"⟩
abbrev cX3_firstPushIn : ByteArray := prog_5_method_4_code
def yX3_firstPushIn : MethodName := ⟨RX3, "firstPushIn", "(I)I"⟩
abbrev cX3_meetingsIn : ByteArray := prog_5_method_5_code
def yX3_meetingsIn : MethodName := ⟨RX3, "meetingsIn", "(III)I"⟩
abbrev cX3_roundAgain : ByteArray := prog_5_method_6_code
def yX3_roundAgain : MethodName := ⟨RX3, "roundAgain", "(Z)I"⟩
abbrev cX3_firstSeen : ByteArray := prog_5_method_7_code
def yX3_firstSeen : MethodName := ⟨RX3, "firstSeen", "(I)I"⟩
abbrev cX3_firstUnlike : ByteArray := prog_5_method_8_code
def yX3_firstUnlike : MethodName := ⟨RX3, "firstUnlike", "([JII)I"⟩
abbrev cX3_drawnYears : ByteArray := prog_5_method_9_code
def yX3_drawnYears : MethodName := ⟨RX3, "drawnYears", "(IIIII)I"⟩
abbrev cX3_slipped : ByteArray := prog_5_method_10_code
def yX3_slipped : MethodName := ⟨RX3, "slipped", "(II)I"⟩
def RX4 : String := "OrbitsWed$Law"
def TX4 : u_T := fun k => match k with
  | 0 => ("OrbitsWed$Law", "steps", "[I", true)
  | 1 => ("OrbitsWed$Law", "values", "[I", true)
  | 2 => ("OrbitsWed$Law", "size", "I", false)
  | 3 => ("OrbitsWed$Law", "named", "[I", true)
  | _ => ("OrbitsWed$Law", "stack", "[I", true)
def tyX4 : Nat → FieldType := fun k => match k with
  | 0 => .array .int
  | 1 => .array .int
  | 2 => .int
  | 3 => .array .int
  | _ => .array .int
abbrev wsX40 : List Cond := u_ws RX4 TX4 5
theorem nmX4 : ∀ a, a < 5 → ∀ b, b < 5 → a ≠ b → (TX4 a).2.1 ≠ (TX4 b).2.1 := by decide +kernel
theorem tyX4_ok : ∀ k, k < 5 → parseFieldDescriptor (TX4 k).2.2.1 = some (tyX4 k) := by decide +kernel
abbrev cX4_init : ByteArray := prog_6_method_1_code
def yX4_init : MethodName := ⟨RX4, "<init>", "()V"⟩
abbrev cX4_nameOf : ByteArray := prog_6_method_2_code
def yX4_nameOf : MethodName := ⟨RX4, "nameOf", "(I)I"⟩
abbrev cX4_become : ByteArray := prog_6_method_3_code
def yX4_become : MethodName := ⟨RX4, "become", "(LOrbitsWed$Tape;)V"⟩
abbrev cX4_turnTo : ByteArray := prog_6_method_4_code
def yX4_turnTo : MethodName := ⟨RX4, "turnTo", "(III)V"⟩
abbrev cX4_push : ByteArray := prog_6_method_5_code
def yX4_push : MethodName := ⟨RX4, "push", "(III)I"⟩
abbrev cX4_workedOut : ByteArray := prog_6_method_6_code
def yX4_workedOut : MethodName := ⟨RX4, "workedOut", "()I"⟩
abbrev cX4_namedBy : ByteArray := prog_6_method_7_code
def yX4_namedBy : MethodName := ⟨RX4, "namedBy", "(I)I"⟩
abbrev cX4_turned : ByteArray := prog_6_method_8_code
def yX4_turned : MethodName := ⟨RX4, "turned", "(II)I"⟩
abbrev cX4_joined : ByteArray := prog_6_method_9_code
def yX4_joined : MethodName := ⟨RX4, "joined", "(III)I"⟩
def RX5 : String := "OrbitsWed$Moods"
def TX5 : u_T := fun k => match k with
  | 0 => ("OrbitsWed$Moods", "kinds", "[I", true)
  | 1 => ("OrbitsWed$Moods", "size", "I", false)
  | 2 => ("OrbitsWed$Moods", "traced", "[I", true)
  | _ => ("OrbitsWed$Moods", "ran", "I", false)
def tyX5 : Nat → FieldType := fun k => match k with
  | 0 => .array .int
  | 1 => .int
  | 2 => .array .int
  | _ => .int
abbrev wsX50 : List Cond := u_ws RX5 TX5 4
theorem nmX5 : ∀ a, a < 4 → ∀ b, b < 4 → a ≠ b → (TX5 a).2.1 ≠ (TX5 b).2.1 := by decide +kernel
theorem tyX5_ok : ∀ k, k < 4 → parseFieldDescriptor (TX5 k).2.2.1 = some (tyX5 k) := by decide +kernel
abbrev cX5_init : ByteArray := prog_7_method_1_code
def yX5_init : MethodName := ⟨RX5, "<init>", "()V"⟩
abbrev cX5_isKind : ByteArray := prog_7_method_2_code
def yX5_isKind : MethodName := ⟨RX5, "isKind", "(I)Z"⟩
abbrev cX5_isUnder : ByteArray := prog_7_method_3_code
def yX5_isUnder : MethodName := ⟨RX5, "isUnder", "(II)Z"⟩
abbrev cX5_has : ByteArray := prog_7_method_4_code
def yX5_has : MethodName := ⟨RX5, "has", "(I)Z"⟩
abbrev cX5_added : ByteArray := prog_7_method_5_code
def yX5_added : MethodName := ⟨RX5, "added", "(I)I"⟩
abbrev cX5_acted : ByteArray := prog_7_method_6_code
def yX5_acted : MethodName := ⟨RX5, "acted", "(III)I"⟩
abbrev cX5_own : ByteArray := prog_7_method_7_code
def yX5_own : MethodName := ⟨RX5, "own", "(IIII)I"⟩
abbrev cX5_above : ByteArray := prog_7_method_8_code
def yX5_above : MethodName := ⟨RX5, "above", "(IIIII)I"⟩
abbrev cX5_ranFrom : ByteArray := prog_7_method_9_code
def yX5_ranFrom : MethodName := ⟨RX5, "ranFrom", "(IIIII)I"⟩
abbrev cX5_codeFrom : ByteArray := prog_7_method_10_code
def yX5_codeFrom : MethodName := ⟨RX5, "codeFrom", "(II)I"⟩
abbrev cX5_note : ByteArray := prog_7_method_11_code
def yX5_note : MethodName := ⟨RX5, "note", "(I)V"⟩
abbrev cX5_drawing : ByteArray := prog_7_method_12_code
def yX5_drawing : MethodName := ⟨RX5, "drawing", "(IIII)I"⟩
abbrev cX5_meeting : ByteArray := prog_7_method_13_code
def yX5_meeting : MethodName := ⟨RX5, "meeting", "(IIII)I"⟩
abbrev cX5_shunning : ByteArray := prog_7_method_14_code
def yX5_shunning : MethodName := ⟨RX5, "shunning", "(IIII)I"⟩
abbrev cX5_telling : ByteArray := prog_7_method_15_code
def yX5_telling : MethodName := ⟨RX5, "telling", "(IIII)I"⟩
def RX6 : String := "OrbitsWed$Shelves"
def TX6 : u_T := fun k => match k with
  | 0 => ("OrbitsWed$Shelves", "holds", "[I", true)
  | 1 => ("OrbitsWed$Shelves", "held", "[I", true)
  | 2 => ("OrbitsWed$Shelves", "sorts", "[I", true)
  | 3 => ("OrbitsWed$Shelves", "lengths", "[I", true)
  | _ => ("OrbitsWed$Shelves", "values", "[[J", true)
def tyX6 : Nat → FieldType := fun k => match k with
  | 0 => .array .int
  | 1 => .array .int
  | 2 => .array .int
  | 3 => .array .int
  | _ => .array (.array .long)
abbrev wsX60 : List Cond := u_ws RX6 TX6 5
theorem nmX6 : ∀ a, a < 5 → ∀ b, b < 5 → a ≠ b → (TX6 a).2.1 ≠ (TX6 b).2.1 := by decide +kernel
theorem tyX6_ok : ∀ k, k < 5 → parseFieldDescriptor (TX6 k).2.2.1 = some (tyX6 k) := by decide +kernel
abbrev cX6_init : ByteArray := prog_8_method_1_code
def yX6_init : MethodName := ⟨RX6, "<init>", "()V"⟩
abbrev cX6_isShelf : ByteArray := prog_8_method_2_code
def yX6_isShelf : MethodName := ⟨RX6, "isShelf", "(I)Z"⟩
abbrev cX6_isEmpty : ByteArray := prog_8_method_3_code
def yX6_isEmpty : MethodName := ⟨RX6, "isEmpty", "(I)Z"⟩
abbrev cX6_isMood : ByteArray := prog_8_method_4_code
def yX6_isMood : MethodName := ⟨RX6, "isMood", "(I)Z"⟩
abbrev cX6_isBook : ByteArray := prog_8_method_5_code
def yX6_isBook : MethodName := ⟨RX6, "isBook", "(I)Z"⟩
abbrev cX6_clear : ByteArray := prog_8_method_6_code
def yX6_clear : MethodName := ⟨RX6, "clear", "(I)V"⟩
abbrev cX6_holdMood : ByteArray := prog_8_method_7_code
def yX6_holdMood : MethodName := ⟨RX6, "holdMood", "(II)V"⟩
abbrev cX6_holdRow : ByteArray := prog_8_method_8_code
def yX6_holdRow : MethodName := ⟨RX6, "holdRow", "(III)V"⟩
abbrev cX6_rowRefusal : ByteArray := prog_8_method_9_code
def yX6_rowRefusal : MethodName := ⟨RX6, "rowRefusal", "(I)I"⟩
abbrev cX6_bookRefusal : ByteArray := prog_8_method_10_code
def yX6_bookRefusal : MethodName := ⟨RX6, "bookRefusal", "(I)I"⟩
abbrev cX6_placeRefusal : ByteArray := prog_8_method_11_code
def yX6_placeRefusal : MethodName := ⟨RX6, "placeRefusal", "(II)I"⟩
abbrev cX6_pairRefusal : ByteArray := prog_8_method_12_code
def yX6_pairRefusal : MethodName := ⟨RX6, "pairRefusal", "(II)I"⟩
abbrev cX6_hasSpan : ByteArray := prog_8_method_13_code
def yX6_hasSpan : MethodName := ⟨RX6, "hasSpan", "(III)Z"⟩
abbrev cX6_lowest : ByteArray := prog_8_method_14_code
def yX6_lowest : MethodName := ⟨RX6, "lowest", "(IJ)J"⟩
def RX7 : String := "OrbitsWed$Sky"
def TX7 : u_T := fun k => match k with
  | 0 => ("OrbitsWed$Sky", "rounds", "[I", true)
  | 1 => ("OrbitsWed$Sky", "places", "[I", true)
  | 2 => ("OrbitsWed$Sky", "weights", "[I", true)
  | 3 => ("OrbitsWed$Sky", "likes", "[[I", true)
  | 4 => ("OrbitsWed$Sky", "near", "I", false)
  | _ => ("OrbitsWed$Sky", "size", "I", false)
def tyX7 : Nat → FieldType := fun k => match k with
  | 0 => .array .int
  | 1 => .array .int
  | 2 => .array .int
  | 3 => .array (.array .int)
  | 4 => .int
  | _ => .int
abbrev wsX70 : List Cond := u_ws RX7 TX7 6
theorem nmX7 : ∀ a, a < 6 → ∀ b, b < 6 → a ≠ b → (TX7 a).2.1 ≠ (TX7 b).2.1 := by decide +kernel
theorem tyX7_ok : ∀ k, k < 6 → parseFieldDescriptor (TX7 k).2.2.1 = some (tyX7 k) := by decide +kernel
abbrev cX7_init : ByteArray := prog_9_method_1_code
def yX7_init : MethodName := ⟨RX7, "<init>", "()V"⟩
abbrev cX7_fitsBody : ByteArray := prog_9_method_2_code
def yX7_fitsBody : MethodName := ⟨RX7, "fitsBody", "(III)Z"⟩
abbrev cX7_added : ByteArray := prog_9_method_3_code
def yX7_added : MethodName := ⟨RX7, "added", "(III)I"⟩
abbrev cX7_has : ByteArray := prog_9_method_4_code
def yX7_has : MethodName := ⟨RX7, "has", "(I)Z"⟩
abbrev cX7_hasPair : ByteArray := prog_9_method_5_code
def yX7_hasPair : MethodName := ⟨RX7, "hasPair", "(I)Z"⟩
abbrev cX7_hasAll : ByteArray := prog_9_method_6_code
def yX7_hasAll : MethodName := ⟨RX7, "hasAll", "(I)Z"⟩
abbrev cX7_hasNumber : ByteArray := prog_9_method_7_code
def yX7_hasNumber : MethodName := ⟨RX7, "hasNumber", "(II)Z"⟩
abbrev cX7_fitsNumber : ByteArray := prog_9_method_8_code
def yX7_fitsNumber : MethodName := ⟨RX7, "fitsNumber", "(III)Z"⟩
abbrev cX7_told : ByteArray := prog_9_method_9_code
def yX7_told : MethodName := ⟨RX7, "told", "(II)I"⟩
abbrev cX7_tell : ByteArray := prog_9_method_10_code
def yX7_tell : MethodName := ⟨RX7, "tell", "(III)V"⟩
abbrev cX7_degrees : ByteArray := prog_9_method_11_code
def yX7_degrees : MethodName := ⟨RX7, "degrees", "(II)I"⟩
abbrev cX7_gap : ByteArray := prog_9_method_12_code
def yX7_gap : MethodName := ⟨RX7, "gap", "(II)I"⟩
abbrev cX7_placeOn : ByteArray := prog_9_method_13_code
def yX7_placeOn : MethodName := ⟨RX7, "placeOn", "(II)I"⟩
abbrev cX7_degreesOn : ByteArray := prog_9_method_14_code
def yX7_degreesOn : MethodName := ⟨RX7, "degreesOn", "(II)I"⟩
abbrev cX7_gapOn : ByteArray := prog_9_method_15_code
def yX7_gapOn : MethodName := ⟨RX7, "gapOn", "(III)I"⟩
abbrev cX7_meetOn : ByteArray := prog_9_method_16_code
def yX7_meetOn : MethodName := ⟨RX7, "meetOn", "(III)Z"⟩
abbrev cX7_meetMoved : ByteArray := prog_9_method_17_code
def yX7_meetMoved : MethodName := ⟨RX7, "meetMoved", "(IIII)Z"⟩
def RX8 : String := "OrbitsWed$Tape"
def TX8 : u_T := fun k => match k with
  | 0 => ("OrbitsWed$Tape", "bytes", "[I", true)
  | 1 => ("OrbitsWed$Tape", "length", "I", false)
  | 2 => ("OrbitsWed$Tape", "place", "I", false)
  | 3 => ("OrbitsWed$Tape", "steps", "[I", true)
  | 4 => ("OrbitsWed$Tape", "values", "[I", true)
  | _ => ("OrbitsWed$Tape", "size", "I", false)
def tyX8 : Nat → FieldType := fun k => match k with
  | 0 => .array .int
  | 1 => .int
  | 2 => .int
  | 3 => .array .int
  | 4 => .array .int
  | _ => .int
abbrev wsX80 : List Cond := u_ws RX8 TX8 6
theorem nmX8 : ∀ a, a < 6 → ∀ b, b < 6 → a ≠ b → (TX8 a).2.1 ≠ (TX8 b).2.1 := by decide +kernel
theorem tyX8_ok : ∀ k, k < 6 → parseFieldDescriptor (TX8 k).2.2.1 = some (tyX8 k) := by decide +kernel
abbrev cX8_init : ByteArray := prog_10_method_1_code
def yX8_init : MethodName := ⟨RX8, "<init>", "()V"⟩
abbrev cX8_fed : ByteArray := prog_10_method_2_code
def yX8_fed : MethodName := ⟨RX8, "fed", "(I)I"⟩
abbrev cX8_isText : ByteArray := prog_10_method_3_code
def yX8_isText : MethodName := ⟨RX8, "isText", "()Z"⟩
abbrev cX8_next : ByteArray := prog_10_method_4_code
def yX8_next : MethodName := ⟨RX8, "next", "()I"⟩
abbrev cX8_draft : ByteArray := prog_10_method_5_code
def yX8_draft : MethodName := ⟨RX8, "draft", "(II)V"⟩
abbrev cX8_readsLine : ByteArray := prog_10_method_6_code
def yX8_readsLine : MethodName := ⟨RX8, "readsLine", "()Z"⟩
abbrev cX8_readsEither : ByteArray := prog_10_method_7_code
def yX8_readsEither : MethodName := ⟨RX8, "readsEither", "(I)Z"⟩
abbrev cX8_readsBoth : ByteArray := prog_10_method_8_code
def yX8_readsBoth : MethodName := ⟨RX8, "readsBoth", "(I)Z"⟩
abbrev cX8_readsCompared : ByteArray := prog_10_method_9_code
def yX8_readsCompared : MethodName := ⟨RX8, "readsCompared", "(I)Z"⟩
abbrev cX8_readsSum : ByteArray := prog_10_method_10_code
def yX8_readsSum : MethodName := ⟨RX8, "readsSum", "(I)Z"⟩
abbrev cX8_readsProduct : ByteArray := prog_10_method_11_code
def yX8_readsProduct : MethodName := ⟨RX8, "readsProduct", "(I)Z"⟩
abbrev cX8_readsOperand : ByteArray := prog_10_method_12_code
def yX8_readsOperand : MethodName := ⟨RX8, "readsOperand", "(I)Z"⟩
abbrev cX8_readsClosed : ByteArray := prog_10_method_13_code
def yX8_readsClosed : MethodName := ⟨RX8, "readsClosed", "(I)Z"⟩
abbrev cX8_readsTurned : ByteArray := prog_10_method_14_code
def yX8_readsTurned : MethodName := ⟨RX8, "readsTurned", "(II)Z"⟩
abbrev cX8_readNumber : ByteArray := prog_10_method_15_code
def yX8_readNumber : MethodName := ⟨RX8, "readNumber", "()V"⟩
def RX9 : String := "OrbitsWed$Walk"
def TX9 : u_T := fun k => match k with
  | 0 => ("OrbitsWed$Walk", "sky", "LOrbitsWed$Sky;", true)
  | 1 => ("OrbitsWed$Walk", "law", "LOrbitsWed$Law;", true)
  | 2 => ("OrbitsWed$Walk", "places", "[I", true)
  | 3 => ("OrbitsWed$Walk", "degrees", "[I", true)
  | 4 => ("OrbitsWed$Walk", "sums", "[I", true)
  | 5 => ("OrbitsWed$Walk", "metBits", "[I", true)
  | 6 => ("OrbitsWed$Walk", "meetings", "I", false)
  | _ => ("OrbitsWed$Walk", "pushes", "I", false)
def tyX9 : Nat → FieldType := fun k => match k with
  | 0 => .object "OrbitsWed$Sky"
  | 1 => .object "OrbitsWed$Law"
  | 2 => .array .int
  | 3 => .array .int
  | 4 => .array .int
  | 5 => .array .int
  | 6 => .int
  | _ => .int
abbrev wsX90 : List Cond := u_ws RX9 TX9 8
theorem nmX9 : ∀ a, a < 8 → ∀ b, b < 8 → a ≠ b → (TX9 a).2.1 ≠ (TX9 b).2.1 := by decide +kernel
theorem tyX9_ok : ∀ k, k < 8 → parseFieldDescriptor (TX9 k).2.2.1 = some (tyX9 k) := by decide +kernel
abbrev cX9_init : ByteArray := prog_11_method_1_code
def yX9_init : MethodName := ⟨RX9, "<init>", "(LOrbitsWed$Sky;LOrbitsWed$Law;)V"⟩
abbrev cX9_begin : ByteArray := prog_11_method_2_code
def yX9_begin : MethodName := ⟨RX9, "begin", "()V"⟩
abbrev cX9_keepPlaces : ByteArray := prog_11_method_3_code
def yX9_keepPlaces : MethodName := ⟨RX9, "keepPlaces", "()V"⟩
abbrev cX9_pass : ByteArray := prog_11_method_4_code
def yX9_pass : MethodName := ⟨RX9, "pass", "(I)V"⟩
abbrev cX9_move : ByteArray := prog_11_method_5_code
def yX9_move : MethodName := ⟨RX9, "move", "(II)V"⟩
abbrev cX9_look : ByteArray := prog_11_method_6_code
def yX9_look : MethodName := ⟨RX9, "look", "()V"⟩
abbrev cX9_pushOf : ByteArray := prog_11_method_7_code
def yX9_pushOf : MethodName := ⟨RX9, "pushOf", "(II)I"⟩
abbrev cX9_allPlaces : ByteArray := prog_11_method_8_code
def yX9_allPlaces : MethodName := ⟨RX9, "allPlaces", "()J"⟩
abbrev cX9_areAllAtStart : ByteArray := prog_11_method_9_code
def yX9_areAllAtStart : MethodName := ⟨RX9, "areAllAtStart", "()Z"⟩
def RX10 : String := "OrbitsWed"
def TX10 : u_T := fun k => match k with
  | 0 => ("OrbitsWed", "sky", "LOrbitsWed$Sky;", true)
  | 1 => ("OrbitsWed", "clock", "LOrbitsWed$Clock;", true)
  | 2 => ("OrbitsWed", "tape", "LOrbitsWed$Tape;", true)
  | 3 => ("OrbitsWed", "law", "LOrbitsWed$Law;", true)
  | 4 => ("OrbitsWed", "walk", "LOrbitsWed$Walk;", true)
  | 5 => ("OrbitsWed", "foresight", "LOrbitsWed$Foresight;", true)
  | 6 => ("OrbitsWed", "deeds", "LOrbitsWed$Deeds;", true)
  | 7 => ("OrbitsWed", "changes", "LOrbitsWed$Changes;", true)
  | 8 => ("OrbitsWed", "shelves", "LOrbitsWed$Shelves;", true)
  | _ => ("OrbitsWed", "moods", "LOrbitsWed$Moods;", true)
def tyX10 : Nat → FieldType := fun k => match k with
  | 0 => .object "OrbitsWed$Sky"
  | 1 => .object "OrbitsWed$Clock"
  | 2 => .object "OrbitsWed$Tape"
  | 3 => .object "OrbitsWed$Law"
  | 4 => .object "OrbitsWed$Walk"
  | 5 => .object "OrbitsWed$Foresight"
  | 6 => .object "OrbitsWed$Deeds"
  | 7 => .object "OrbitsWed$Changes"
  | 8 => .object "OrbitsWed$Shelves"
  | _ => .object "OrbitsWed$Moods"
abbrev wsX100 : List Cond := u_ws RX10 TX10 10
theorem nmX10 : ∀ a, a < 10 → ∀ b, b < 10 → a ≠ b → (TX10 a).2.1 ≠ (TX10 b).2.1 := by decide +kernel
theorem tyX10_ok : ∀ k, k < 10 → parseFieldDescriptor (TX10 k).2.2.1 = some (tyX10 k) := by decide +kernel
abbrev cX10_init : ByteArray := prog_1_method_1_code
def yX10_init : MethodName := ⟨RX10, "<init>", "()V"⟩
abbrev cX10_orb : ByteArray := prog_1_method_2_code
def yX10_orb : MethodName := ⟨RX10, "orb", "(II)I"⟩
abbrev cX10_orbs : ByteArray := prog_1_method_3_code
def yX10_orbs : MethodName := ⟨RX10, "orbs", "(III)I"⟩
abbrev cX10_mend : ByteArray := prog_1_method_4_code
def yX10_mend : MethodName := ⟨RX10, "mend", "(III)I"⟩
abbrev cX10_of : ByteArray := prog_1_method_5_code
def yX10_of : MethodName := ⟨RX10, "of", "(II)I"⟩
abbrev cX10_feed : ByteArray := prog_1_method_6_code
def yX10_feed : MethodName := ⟨RX10, "feed", "(I)I"⟩
abbrev cX10_law : ByteArray := prog_1_method_7_code
def yX10_law : MethodName := ⟨RX10, "law", "()I"⟩
abbrev cX10_at : ByteArray := prog_1_method_8_code
def yX10_at : MethodName := ⟨RX10, "at", "(III)I"⟩
abbrev cX10_apart : ByteArray := prog_1_method_9_code
def yX10_apart : MethodName := ⟨RX10, "apart", "(III)I"⟩
abbrev cX10_meets : ByteArray := prog_1_method_10_code
def yX10_meets : MethodName := ⟨RX10, "meets", "(II)I"⟩
abbrev cX10_often : ByteArray := prog_1_method_11_code
def yX10_often : MethodName := ⟨RX10, "often", "(III)I"⟩
abbrev cX10_together : ByteArray := prog_1_method_12_code
def yX10_together : MethodName := ⟨RX10, "together", "(I)J"⟩
abbrev cX10_start : ByteArray := prog_1_method_13_code
def yX10_start : MethodName := ⟨RX10, "start", "(I)J"⟩
abbrev cX10_mood : ByteArray := prog_1_method_14_code
def yX10_mood : MethodName := ⟨RX10, "mood", "(II)I"⟩
abbrev cX10_best : ByteArray := prog_1_method_15_code
def yX10_best : MethodName := ⟨RX10, "best", "(III)I"⟩
abbrev cX10_sign : ByteArray := prog_1_method_16_code
def yX10_sign : MethodName := ⟨RX10, "sign", "(III)I"⟩
abbrev cX10_nudge : ByteArray := prog_1_method_17_code
def yX10_nudge : MethodName := ⟨RX10, "nudge", "(II)I"⟩
abbrev cX10_never : ByteArray := prog_1_method_18_code
def yX10_never : MethodName := ⟨RX10, "never", "(III)I"⟩
abbrev cX10_scene : ByteArray := prog_1_method_19_code
def yX10_scene : MethodName := ⟨RX10, "scene", "(I)I"⟩
abbrev cX10_later : ByteArray := prog_1_method_20_code
def yX10_later : MethodName := ⟨RX10, "later", "(II)I"⟩
abbrev cX10_pushes : ByteArray := prog_1_method_21_code
def yX10_pushes : MethodName := ⟨RX10, "pushes", "(II)I"⟩
abbrev cX10_met : ByteArray := prog_1_method_22_code
def yX10_met : MethodName := ⟨RX10, "met", "(II)I"⟩
abbrev cX10_again : ByteArray := prog_1_method_23_code
def yX10_again : MethodName := ⟨RX10, "again", "(I)I"⟩
abbrev cX10_judge : ByteArray := prog_1_method_24_code
def yX10_judge : MethodName := ⟨RX10, "judge", "(II)I"⟩
abbrev cX10_liking : ByteArray := prog_1_method_25_code
def yX10_liking : MethodName := ⟨RX10, "liking", "(IIII)I"⟩
abbrev cX10_whose : ByteArray := prog_1_method_26_code
def yX10_whose : MethodName := ⟨RX10, "whose", "(I)I"⟩
abbrev cX10_byTurns : ByteArray := prog_1_method_27_code
def yX10_byTurns : MethodName := ⟨RX10, "byTurns", "(III)I"⟩
abbrev cX10_crowd : ByteArray := prog_1_method_28_code
def yX10_crowd : MethodName := ⟨RX10, "crowd", "(III)I"⟩
abbrev cX10_arc : ByteArray := prog_1_method_29_code
def yX10_arc : MethodName := ⟨RX10, "arc", "(II)I"⟩
abbrev cX10_drawn : ByteArray := prog_1_method_30_code
def yX10_drawn : MethodName := ⟨RX10, "drawn", "(III)I"⟩
abbrev cX10_day : ByteArray := prog_1_method_31_code
def yX10_day : MethodName := ⟨RX10, "day", "()I"⟩
abbrev cX10_nudged : ByteArray := prog_1_method_32_code
def yX10_nudged : MethodName := ⟨RX10, "nudged", "(II)I"⟩
abbrev cX10_led : ByteArray := prog_1_method_33_code
def yX10_led : MethodName := ⟨RX10, "led", "(I)I"⟩
abbrev cX10_image : ByteArray := prog_1_method_34_code
def yX10_image : MethodName := ⟨RX10, "image", "()I"⟩
abbrev cX10_back : ByteArray := prog_1_method_35_code
def yX10_back : MethodName := ⟨RX10, "back", "()I"⟩
abbrev cX10_undo : ByteArray := prog_1_method_36_code
def yX10_undo : MethodName := ⟨RX10, "undo", "()I"⟩
abbrev cX10_redo : ByteArray := prog_1_method_37_code
def yX10_redo : MethodName := ⟨RX10, "redo", "()I"⟩
abbrev cX10_body : ByteArray := prog_1_method_38_code
def yX10_body : MethodName := ⟨RX10, "body", "(I)I"⟩
abbrev cX10_act : ByteArray := prog_1_method_39_code
def yX10_act : MethodName := ⟨RX10, "act", "(III)I"⟩
abbrev cX10_trace : ByteArray := prog_1_method_40_code
def yX10_trace : MethodName := ⟨RX10, "trace", "(I)I"⟩
abbrev cX10_keep : ByteArray := prog_1_method_41_code
def yX10_keep : MethodName := ⟨RX10, "keep", "(II)I"⟩
abbrev cX10_row : ByteArray := prog_1_method_42_code
def yX10_row : MethodName := ⟨RX10, "row", "(III)I"⟩
abbrev cX10_put : ByteArray := prog_1_method_43_code
def yX10_put : MethodName := ⟨RX10, "put", "(IIJ)I"⟩
abbrev cX10_element : ByteArray := prog_1_method_44_code
def yX10_element : MethodName := ⟨RX10, "element", "(II)J"⟩
abbrev cX10_shift : ByteArray := prog_1_method_45_code
def yX10_shift : MethodName := ⟨RX10, "shift", "(IIIII)I"⟩
abbrev cX10_taken : ByteArray := prog_1_method_46_code
def yX10_taken : MethodName := ⟨RX10, "taken", "(II)I"⟩
abbrev cX10_count : ByteArray := prog_1_method_47_code
def yX10_count : MethodName := ⟨RX10, "count", "(I)I"⟩
abbrev cX10_isDay : ByteArray := prog_1_method_48_code
def yX10_isDay : MethodName := ⟨RX10, "isDay", "(I)Z"⟩
abbrev cX10_isWhat : ByteArray := prog_1_method_49_code
def yX10_isWhat : MethodName := ⟨RX10, "isWhat", "(I)Z"⟩
abbrev cX10_isSpan : ByteArray := prog_1_method_50_code
def yX10_isSpan : MethodName := ⟨RX10, "isSpan", "(I)Z"⟩
abbrev cX10_isPushedSpan : ByteArray := prog_1_method_51_code
def yX10_isPushedSpan : MethodName := ⟨RX10, "isPushedSpan", "(I)Z"⟩
abbrev cX10_bodiesFrom : ByteArray := prog_1_method_52_code
def yX10_bodiesFrom : MethodName := ⟨RX10, "bodiesFrom", "(III)I"⟩
abbrev cX10_likings : ByteArray := prog_1_method_53_code
def yX10_likings : MethodName := ⟨RX10, "likings", "(IIIZ)I"⟩
def RX11 : String := "OrbitsWedModel"
def TX11 : u_T := fun k => match k with
  | 0 => ("OrbitsWedModel", "may", "[I", true)
  | 1 => ("OrbitsWedModel", "changeAt", "[I", true)
  | 2 => ("OrbitsWedModel", "changeWas", "[I", true)
  | 3 => ("OrbitsWedModel", "changeIs", "[I", true)
  | 4 => ("OrbitsWedModel", "keptMany", "I", false)
  | 5 => ("OrbitsWedModel", "done", "I", false)
  | 6 => ("OrbitsWedModel", "orbs", "I", false)
  | 7 => ("OrbitsWedModel", "round", "[I", true)
  | 8 => ("OrbitsWedModel", "tape", "[I", true)
  | 9 => ("OrbitsWedModel", "tapeMany", "I", false)
  | 10 => ("OrbitsWedModel", "text", "[I", true)
  | 11 => ("OrbitsWedModel", "textMany", "I", false)
  | 12 => ("OrbitsWedModel", "base", "I", false)
  | 13 => ("OrbitsWedModel", "at", "I", false)
  | 14 => ("OrbitsWedModel", "ends", "I", false)
  | 15 => ("OrbitsWedModel", "fault", "I", false)
  | 16 => ("OrbitsWedModel", "opened", "I", false)
  | 17 => ("OrbitsWedModel", "names", "[I", true)
  | 18 => ("OrbitsWedModel", "place", "[I", true)
  | 19 => ("OrbitsWedModel", "pushes", "I", false)
  | 20 => ("OrbitsWedModel", "meetings", "I", false)
  | 21 => ("OrbitsWedModel", "on", "[I", true)
  | 22 => ("OrbitsWedModel", "stood", "[I", true)
  | 23 => ("OrbitsWedModel", "whether", "[I", true)
  | 24 => ("OrbitsWedModel", "ledNow", "[I", true)
  | 25 => ("OrbitsWedModel", "isKept", "Z", false)
  | 26 => ("OrbitsWedModel", "imageOrbs", "I", false)
  | 27 => ("OrbitsWedModel", "imagePlace", "[I", true)
  | 28 => ("OrbitsWedModel", "imageLed", "[I", true)
  | 29 => ("OrbitsWedModel", "bodies", "I", false)
  | 30 => ("OrbitsWedModel", "bodyKind", "[I", true)
  | 31 => ("OrbitsWedModel", "trace", "[I", true)
  | 32 => ("OrbitsWedModel", "ran", "I", false)
  | 33 => ("OrbitsWedModel", "ownKind", "I", false)
  | 34 => ("OrbitsWedModel", "ownNumber", "I", false)
  | 35 => ("OrbitsWedModel", "shelf", "[I", true)
  | 36 => ("OrbitsWedModel", "many", "[I", true)
  | 37 => ("OrbitsWedModel", "items", "[J", true)
  | _ => ("OrbitsWedModel", "carried", "[J", true)
def tyX11 : Nat → FieldType := fun k => match k with
  | 0 => .array .int
  | 1 => .array .int
  | 2 => .array .int
  | 3 => .array .int
  | 4 => .int
  | 5 => .int
  | 6 => .int
  | 7 => .array .int
  | 8 => .array .int
  | 9 => .int
  | 10 => .array .int
  | 11 => .int
  | 12 => .int
  | 13 => .int
  | 14 => .int
  | 15 => .int
  | 16 => .int
  | 17 => .array .int
  | 18 => .array .int
  | 19 => .int
  | 20 => .int
  | 21 => .array .int
  | 22 => .array .int
  | 23 => .array .int
  | 24 => .array .int
  | 25 => .boolean
  | 26 => .int
  | 27 => .array .int
  | 28 => .array .int
  | 29 => .int
  | 30 => .array .int
  | 31 => .array .int
  | 32 => .int
  | 33 => .int
  | 34 => .int
  | 35 => .array .int
  | 36 => .array .int
  | 37 => .array .long
  | _ => .array .long
abbrev wsX110 : List Cond := u_ws RX11 TX11 39
theorem nmX11 : ∀ a, a < 39 → ∀ b, b < 39 → a ≠ b → (TX11 a).2.1 ≠ (TX11 b).2.1 := by decide +kernel
theorem tyX11_ok : ∀ k, k < 39 → parseFieldDescriptor (TX11 k).2.2.1 = some (tyX11 k) := by decide +kernel
abbrev cX11_within : ByteArray := prog_13_method_1_code
def yX11_within : MethodName := ⟨RX11, "within", "(JJJ)Z"⟩
abbrev cX11_isIn : ByteArray := prog_13_method_2_code
def yX11_isIn : MethodName := ⟨RX11, "isIn", "(II)Z"⟩
abbrev cX11_init : ByteArray := prog_13_method_3_code
def yX11_init : MethodName := ⟨RX11, "<init>", "()V"⟩
abbrev cX11_becomes : ByteArray := prog_13_method_4_code
def yX11_becomes : MethodName := ⟨RX11, "becomes", "(II)I"⟩
abbrev cX11_undo : ByteArray := prog_13_method_5_code
def yX11_undo : MethodName := ⟨RX11, "undo", "()I"⟩
abbrev cX11_redo : ByteArray := prog_13_method_6_code
def yX11_redo : MethodName := ⟨RX11, "redo", "()I"⟩
abbrev cX11_isOrb : ByteArray := prog_13_method_7_code
def yX11_isOrb : MethodName := ⟨RX11, "isOrb", "(J)Z"⟩
abbrev cX11_isAb : ByteArray := prog_13_method_8_code
def yX11_isAb : MethodName := ⟨RX11, "isAb", "(I)Z"⟩
abbrev cX11_mayCome : ByteArray := prog_13_method_9_code
def yX11_mayCome : MethodName := ⟨RX11, "mayCome", "(JJJ)Z"⟩
abbrev cX11_adds : ByteArray := prog_13_method_10_code
def yX11_adds : MethodName := ⟨RX11, "adds", "(III)V"⟩
abbrev cX11_orb : ByteArray := prog_13_method_11_code
def yX11_orb : MethodName := ⟨RX11, "orb", "(II)I"⟩
abbrev cX11_orbs : ByteArray := prog_13_method_12_code
def yX11_orbs : MethodName := ⟨RX11, "orbs", "(III)I"⟩
abbrev cX11_placeOf : ByteArray := prog_13_method_13_code
def yX11_placeOf : MethodName := ⟨RX11, "placeOf", "(II)I"⟩
abbrev cX11_mayBecome : ByteArray := prog_13_method_14_code
def yX11_mayBecome : MethodName := ⟨RX11, "mayBecome", "(III)Z"⟩
abbrev cX11_mend : ByteArray := prog_13_method_15_code
def yX11_mend : MethodName := ⟨RX11, "mend", "(III)I"⟩
abbrev cX11_of : ByteArray := prog_13_method_16_code
def yX11_of : MethodName := ⟨RX11, "of", "(II)I"⟩
abbrev cX11_feed : ByteArray := prog_13_method_17_code
def yX11_feed : MethodName := ⟨RX11, "feed", "(I)I"⟩
abbrev cX11_byteAt : ByteArray := prog_13_method_18_code
def yX11_byteAt : MethodName := ⟨RX11, "byteAt", "()I"⟩
abbrev cX11_wrong : ByteArray := prog_13_method_19_code
def yX11_wrong : MethodName := ⟨RX11, "wrong", "()I"⟩
abbrev cX11_takes : ByteArray := prog_13_method_20_code
def yX11_takes : MethodName := ⟨RX11, "takes", "(I)Z"⟩
abbrev cX11_either : ByteArray := prog_13_method_21_code
def yX11_either : MethodName := ⟨RX11, "either", "()I"⟩
abbrev cX11_both : ByteArray := prog_13_method_22_code
def yX11_both : MethodName := ⟨RX11, "both", "()I"⟩
abbrev cX11_compared : ByteArray := prog_13_method_23_code
def yX11_compared : MethodName := ⟨RX11, "compared", "()I"⟩
abbrev cX11_sums : ByteArray := prog_13_method_24_code
def yX11_sums : MethodName := ⟨RX11, "sums", "()I"⟩
abbrev cX11_product : ByteArray := prog_13_method_25_code
def yX11_product : MethodName := ⟨RX11, "product", "()I"⟩
abbrev cX11_nameOf : ByteArray := prog_13_method_26_code
def yX11_nameOf : MethodName := ⟨RX11, "nameOf", "(I)I"⟩
abbrev cX11_one : ByteArray := prog_13_method_27_code
def yX11_one : MethodName := ⟨RX11, "one", "()I"⟩
abbrev cX11_workOut : ByteArray := prog_13_method_28_code
def yX11_workOut : MethodName := ⟨RX11, "workOut", "(II)I"⟩
abbrev cX11_law : ByteArray := prog_13_method_29_code
def yX11_law : MethodName := ⟨RX11, "law", "()I"⟩
abbrev cX11_isDay : ByteArray := prog_13_method_30_code
def yX11_isDay : MethodName := ⟨RX11, "isDay", "(I)Z"⟩
abbrev cX11_clock : ByteArray := prog_13_method_31_code
def yX11_clock : MethodName := ⟨RX11, "clock", "(IJ)I"⟩
abbrev cX11_degreesOf : ByteArray := prog_13_method_32_code
def yX11_degreesOf : MethodName := ⟨RX11, "degreesOf", "(II)I"⟩
abbrev cX11_arcOf : ByteArray := prog_13_method_33_code
def yX11_arcOf : MethodName := ⟨RX11, "arcOf", "(II)I"⟩
abbrev cX11_apartOn : ByteArray := prog_13_method_34_code
def yX11_apartOn : MethodName := ⟨RX11, "apartOn", "(IIJ)I"⟩
abbrev cX11_meetOn : ByteArray := prog_13_method_35_code
def yX11_meetOn : MethodName := ⟨RX11, "meetOn", "(IIJ)Z"⟩
abbrev cX11_at : ByteArray := prog_13_method_36_code
def yX11_at : MethodName := ⟨RX11, "at", "(III)I"⟩
abbrev cX11_apart : ByteArray := prog_13_method_37_code
def yX11_apart : MethodName := ⟨RX11, "apart", "(III)I"⟩
abbrev cX11_meets : ByteArray := prog_13_method_38_code
def yX11_meets : MethodName := ⟨RX11, "meets", "(II)I"⟩
abbrev cX11_often : ByteArray := prog_13_method_39_code
def yX11_often : MethodName := ⟨RX11, "often", "(III)I"⟩
abbrev cX11_common : ByteArray := prog_13_method_40_code
def yX11_common : MethodName := ⟨RX11, "common", "(JJ)J"⟩
abbrev cX11_isSet : ByteArray := prog_13_method_41_code
def yX11_isSet : MethodName := ⟨RX11, "isSet", "(I)Z"⟩
abbrev cX11_together : ByteArray := prog_13_method_42_code
def yX11_together : MethodName := ⟨RX11, "together", "(I)J"⟩
abbrev cX11_start : ByteArray := prog_13_method_43_code
def yX11_start : MethodName := ⟨RX11, "start", "(I)J"⟩
abbrev cX11_moodOn : ByteArray := prog_13_method_44_code
def yX11_moodOn : MethodName := ⟨RX11, "moodOn", "(IJ)I"⟩
abbrev cX11_mood : ByteArray := prog_13_method_45_code
def yX11_mood : MethodName := ⟨RX11, "mood", "(II)I"⟩
abbrev cX11_best : ByteArray := prog_13_method_46_code
def yX11_best : MethodName := ⟨RX11, "best", "(III)I"⟩
abbrev cX11_isQuiet : ByteArray := prog_13_method_47_code
def yX11_isQuiet : MethodName := ⟨RX11, "isQuiet", "(IJ)Z"⟩
abbrev cX11_sign : ByteArray := prog_13_method_48_code
def yX11_sign : MethodName := ⟨RX11, "sign", "(III)I"⟩
abbrev cX11_meetsMoved : ByteArray := prog_13_method_49_code
def yX11_meetsMoved : MethodName := ⟨RX11, "meetsMoved", "(IIIJ)Z"⟩
abbrev cX11_nudge : ByteArray := prog_13_method_50_code
def yX11_nudge : MethodName := ⟨RX11, "nudge", "(II)I"⟩
abbrev cX11_never : ByteArray := prog_13_method_51_code
def yX11_never : MethodName := ⟨RX11, "never", "(III)I"⟩
abbrev cX11_ago : ByteArray := prog_13_method_52_code
def yX11_ago : MethodName := ⟨RX11, "ago", "(II)I"⟩
abbrev cX11_scene : ByteArray := prog_13_method_53_code
def yX11_scene : MethodName := ⟨RX11, "scene", "(I)I"⟩
abbrev cX11_begins : ByteArray := prog_13_method_54_code
def yX11_begins : MethodName := ⟨RX11, "begins", "()V"⟩
abbrev cX11_apartNow : ByteArray := prog_13_method_55_code
def yX11_apartNow : MethodName := ⟨RX11, "apartNow", "(II)I"⟩
abbrev cX11_meetNow : ByteArray := prog_13_method_56_code
def yX11_meetNow : MethodName := ⟨RX11, "meetNow", "(II)Z"⟩
abbrev cX11_meetsAnybody : ByteArray := prog_13_method_57_code
def yX11_meetsAnybody : MethodName := ⟨RX11, "meetsAnybody", "(I)Z"⟩
abbrev cX11_pushOf : ByteArray := prog_13_method_58_code
def yX11_pushOf : MethodName := ⟨RX11, "pushOf", "(III)I"⟩
abbrev cX11_passes : ByteArray := prog_13_method_59_code
def yX11_passes : MethodName := ⟨RX11, "passes", "(I)V"⟩
abbrev cX11_goes : ByteArray := prog_13_method_60_code
def yX11_goes : MethodName := ⟨RX11, "goes", "(I)V"⟩
abbrev cX11_isPushed : ByteArray := prog_13_method_61_code
def yX11_isPushed : MethodName := ⟨RX11, "isPushed", "(I)Z"⟩
abbrev cX11_later : ByteArray := prog_13_method_62_code
def yX11_later : MethodName := ⟨RX11, "later", "(II)I"⟩
abbrev cX11_pushes : ByteArray := prog_13_method_63_code
def yX11_pushes : MethodName := ⟨RX11, "pushes", "(II)I"⟩
abbrev cX11_met : ByteArray := prog_13_method_64_code
def yX11_met : MethodName := ⟨RX11, "met", "(II)I"⟩
abbrev cX11_stoodAs : ByteArray := prog_13_method_65_code
def yX11_stoodAs : MethodName := ⟨RX11, "stoodAs", "(II)Z"⟩
abbrev cX11_again : ByteArray := prog_13_method_66_code
def yX11_again : MethodName := ⟨RX11, "again", "(I)I"⟩
abbrev cX11_bytesIs : ByteArray := prog_13_method_67_code
def yX11_bytesIs : MethodName := ⟨RX11, "bytesIs", "(I)I"⟩
abbrev cX11_firstFalse : ByteArray := prog_13_method_68_code
def yX11_firstFalse : MethodName := ⟨RX11, "firstFalse", "(II)I"⟩
abbrev cX11_judge : ByteArray := prog_13_method_69_code
def yX11_judge : MethodName := ⟨RX11, "judge", "(II)I"⟩
abbrev cX11_liking : ByteArray := prog_13_method_70_code
def yX11_liking : MethodName := ⟨RX11, "liking", "(IIII)I"⟩
abbrev cX11_whose : ByteArray := prog_13_method_71_code
def yX11_whose : MethodName := ⟨RX11, "whose", "(I)I"⟩
abbrev cX11_byTurns : ByteArray := prog_13_method_72_code
def yX11_byTurns : MethodName := ⟨RX11, "byTurns", "(III)I"⟩
abbrev cX11_crowd : ByteArray := prog_13_method_73_code
def yX11_crowd : MethodName := ⟨RX11, "crowd", "(III)I"⟩
abbrev cX11_gapBehind : ByteArray := prog_13_method_74_code
def yX11_gapBehind : MethodName := ⟨RX11, "gapBehind", "(III)I"⟩
abbrev cX11_arc : ByteArray := prog_13_method_75_code
def yX11_arc : MethodName := ⟨RX11, "arc", "(II)I"⟩
abbrev cX11_drawn : ByteArray := prog_13_method_76_code
def yX11_drawn : MethodName := ⟨RX11, "drawn", "(III)I"⟩
abbrev cX11_day : ByteArray := prog_13_method_77_code
def yX11_day : MethodName := ⟨RX11, "day", "()I"⟩
abbrev cX11_nudged : ByteArray := prog_13_method_78_code
def yX11_nudged : MethodName := ⟨RX11, "nudged", "(II)I"⟩
abbrev cX11_led : ByteArray := prog_13_method_79_code
def yX11_led : MethodName := ⟨RX11, "led", "(I)I"⟩
abbrev cX11_image : ByteArray := prog_13_method_80_code
def yX11_image : MethodName := ⟨RX11, "image", "()I"⟩
abbrev cX11_back : ByteArray := prog_13_method_81_code
def yX11_back : MethodName := ⟨RX11, "back", "()I"⟩
abbrev cX11_isBody : ByteArray := prog_13_method_82_code
def yX11_isBody : MethodName := ⟨RX11, "isBody", "(I)Z"⟩
abbrev cX11_kindOf : ByteArray := prog_13_method_83_code
def yX11_kindOf : MethodName := ⟨RX11, "kindOf", "(I)I"⟩
abbrev cX11_body : ByteArray := prog_13_method_84_code
def yX11_body : MethodName := ⟨RX11, "body", "(I)I"⟩
abbrev cX11_above : ByteArray := prog_13_method_85_code
def yX11_above : MethodName := ⟨RX11, "above", "(I)I"⟩
abbrev cX11_runs : ByteArray := prog_13_method_86_code
def yX11_runs : MethodName := ⟨RX11, "runs", "(I)V"⟩
abbrev cX11_drawsAs : ByteArray := prog_13_method_87_code
def yX11_drawsAs : MethodName := ⟨RX11, "drawsAs", "(II)I"⟩
abbrev cX11_meetsAs : ByteArray := prog_13_method_88_code
def yX11_meetsAs : MethodName := ⟨RX11, "meetsAs", "(II)I"⟩
abbrev cX11_shunsAs : ByteArray := prog_13_method_89_code
def yX11_shunsAs : MethodName := ⟨RX11, "shunsAs", "(II)I"⟩
abbrev cX11_tellsAs : ByteArray := prog_13_method_90_code
def yX11_tellsAs : MethodName := ⟨RX11, "tellsAs", "(II)I"⟩
abbrev cX11_act : ByteArray := prog_13_method_91_code
def yX11_act : MethodName := ⟨RX11, "act", "(III)I"⟩
abbrev cX11_trace : ByteArray := prog_13_method_92_code
def yX11_trace : MethodName := ⟨RX11, "trace", "(I)I"⟩
abbrev cX11_isShelf : ByteArray := prog_13_method_93_code
def yX11_isShelf : MethodName := ⟨RX11, "isShelf", "(I)Z"⟩
abbrev cX11_keep : ByteArray := prog_13_method_94_code
def yX11_keep : MethodName := ⟨RX11, "keep", "(II)I"⟩
abbrev cX11_row : ByteArray := prog_13_method_95_code
def yX11_row : MethodName := ⟨RX11, "row", "(III)I"⟩
abbrev cX11_refusal : ByteArray := prog_13_method_96_code
def yX11_refusal : MethodName := ⟨RX11, "refusal", "(II)I"⟩
abbrev cX11_asSort : ByteArray := prog_13_method_97_code
def yX11_asSort : MethodName := ⟨RX11, "asSort", "(IJ)J"⟩
abbrev cX11_put : ByteArray := prog_13_method_98_code
def yX11_put : MethodName := ⟨RX11, "put", "(IIJ)I"⟩
abbrev cX11_element : ByteArray := prog_13_method_99_code
def yX11_element : MethodName := ⟨RX11, "element", "(II)J"⟩
abbrev cX11_shift : ByteArray := prog_13_method_100_code
def yX11_shift : MethodName := ⟨RX11, "shift", "(IIIII)I"⟩
abbrev cX11_taken : ByteArray := prog_13_method_101_code
def yX11_taken : MethodName := ⟨RX11, "taken", "(II)I"⟩
abbrev cX11_count : ByteArray := prog_13_method_102_code
def yX11_count : MethodName := ⟨RX11, "count", "(I)I"⟩
def RJ6 : String := "java/lang/Integer"
abbrev cJ6_bitCount_0f7a4 : ByteArray := prog_14_method_49_code
def yJ6_bitCount_0f7a4 : MethodName := ⟨RJ6, "bitCount", "(I)I"⟩
def RJ9 : String := "java/lang/Math"
abbrev cJ9_floorMod_7cf53 : ByteArray := prog_15_method_50_code
def yJ9_floorMod_7cf53 : MethodName := ⟨RJ9, "floorMod", "(II)I"⟩
abbrev cJ9_abs_0f7a4 : ByteArray := prog_15_method_59_code
def yJ9_abs_0f7a4 : MethodName := ⟨RJ9, "abs", "(I)I"⟩
abbrev cJ9_max_7cf53 : ByteArray := prog_15_method_65_code
def yJ9_max_7cf53 : MethodName := ⟨RJ9, "max", "(II)I"⟩
abbrev cJ9_min_7cf53 : ByteArray := prog_15_method_69_code
def yJ9_min_7cf53 : MethodName := ⟨RJ9, "min", "(II)I"⟩
abbrev cJ9_min_f86c9 : ByteArray := prog_15_method_70_code
def yJ9_min_f86c9 : MethodName := ⟨RJ9, "min", "(JJ)J"⟩
def RJ10 : String := "java/lang/System"
def RJ7 : String := "java/util/Arrays"
abbrev cJ7_fill_d0a16 : ByteArray := prog_17_method_101_code
def yJ7_fill_d0a16 : MethodName := ⟨RJ7, "fill", "([JJ)V"⟩
abbrev cJ7_fill_53178 : ByteArray := prog_17_method_103_code
def yJ7_fill_53178 : MethodName := ⟨RJ7, "fill", "([II)V"⟩
def RL : String := "OrbitsWedLaw"
abbrev cL_law : ByteArray := code
def yL_law : MethodName := ⟨RL, "law", "([I)Z"⟩
abbrev vwCl : List vw_C := [(RX0, TX0, 6), (RX1, TX1, 1), (RX2, TX2, 12), (RX3, TX3, 3), (RX4, TX4, 5), (RX5, TX5, 4), (RX6, TX6, 5), (RX7, TX7, 6), (RX8, TX8, 6), (RX9, TX9, 8), (RX10, TX10, 10), (RX11, TX11, 39)]
